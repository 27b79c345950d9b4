section
-- ===== PART A: goes FIRST, ahead of the names: the tables' words, and 'selects' of the private methods out of them =====
/-- a private method of a class that the tables say can be made, by its rows of tables_1 -/
def lw_okq (q : MethodName × Nat) : Prop := (q.1.cls ≠ "java/lang/invoke/MethodHandle" ∧ q.1.cls ≠ "java/lang/invoke/VarHandle") ∧ Cond.instantiable q.1.cls q.2 ∈ tables_1 ∧ Cond.privateMethod q.1 ∈ tables_1 ∧ Cond.instanceMethod q.1 ∈ tables_1
theorem lw_p0 : lw_okq (⟨"BoatRota", "requireBoat", "(I)V"⟩, 12) := ⟨⟨by decide +kernel, by decide +kernel⟩, List.mem_of_getElem? (i := 39) (by decide +kernel), List.mem_of_getElem? (i := 37) (by decide +kernel), List.mem_of_getElem? (i := 38) (by decide +kernel)⟩
theorem lw_p1 : lw_okq (⟨"java/lang/Throwable", "fillInStackTrace", "(I)Ljava/lang/Throwable;"⟩, 6) := ⟨⟨by decide +kernel, by decide +kernel⟩, List.mem_of_getElem? (i := 89) (by decide +kernel), List.mem_of_getElem? (i := 87) (by decide +kernel), List.mem_of_getElem? (i := 88) (by decide +kernel)⟩
theorem lw_p2 : lw_okq (⟨"BoatRota$Station", "skilledMembers", "(I)I"⟩, 11) := ⟨⟨by decide +kernel, by decide +kernel⟩, List.mem_of_getElem? (i := 155) (by decide +kernel), List.mem_of_getElem? (i := 153) (by decide +kernel), List.mem_of_getElem? (i := 154) (by decide +kernel)⟩
theorem lw_p3 : lw_okq (⟨"BoatRota", "change", "(LBoatRota$Deed;II)I"⟩, 12) := ⟨⟨by decide +kernel, by decide +kernel⟩, List.mem_of_getElem? (i := 39) (by decide +kernel), List.mem_of_getElem? (i := 247) (by decide +kernel), List.mem_of_getElem? (i := 248) (by decide +kernel)⟩
theorem lw_p4 : lw_okq (⟨"BoatRota", "judge", "(LBoatRota$Deed;II)V"⟩, 12) := ⟨⟨by decide +kernel, by decide +kernel⟩, List.mem_of_getElem? (i := 39) (by decide +kernel), List.mem_of_getElem? (i := 251) (by decide +kernel), List.mem_of_getElem? (i := 252) (by decide +kernel)⟩
theorem lw_p5 : lw_okq (⟨"BoatRota", "remember", "(LBoatRota$Station;)V"⟩, 12) := ⟨⟨by decide +kernel, by decide +kernel⟩, List.mem_of_getElem? (i := 39) (by decide +kernel), List.mem_of_getElem? (i := 330) (by decide +kernel), List.mem_of_getElem? (i := 331) (by decide +kernel)⟩
theorem lw_p6 : lw_okq (⟨"BoatRota", "forgetOldest", "()V"⟩, 12) := ⟨⟨by decide +kernel, by decide +kernel⟩, List.mem_of_getElem? (i := 39) (by decide +kernel), List.mem_of_getElem? (i := 334) (by decide +kernel), List.mem_of_getElem? (i := 335) (by decide +kernel)⟩
theorem lw_p7 : lw_okq (⟨"BoatRota", "carryOut", "(LBoatRota$Deed;II)I"⟩, 12) := ⟨⟨by decide +kernel, by decide +kernel⟩, List.mem_of_getElem? (i := 39) (by decide +kernel), List.mem_of_getElem? (i := 338) (by decide +kernel), List.mem_of_getElem? (i := 339) (by decide +kernel)⟩
theorem lw_p8 : lw_okq (⟨"BoatRota$Station", "chosenCoxswain", "()I"⟩, 11) := ⟨⟨by decide +kernel, by decide +kernel⟩, List.mem_of_getElem? (i := 155) (by decide +kernel), List.mem_of_getElem? (i := 379) (by decide +kernel), List.mem_of_getElem? (i := 380) (by decide +kernel)⟩
theorem lw_p9 : lw_okq (⟨"BoatRota$Station", "leastWearyOf", "(I)I"⟩, 11) := ⟨⟨by decide +kernel, by decide +kernel⟩, List.mem_of_getElem? (i := 155) (by decide +kernel), List.mem_of_getElem? (i := 383) (by decide +kernel), List.mem_of_getElem? (i := 384) (by decide +kernel)⟩
theorem lw_p10 : lw_okq (⟨"BoatRota$Station", "filledUp", "(III)I"⟩, 11) := ⟨⟨by decide +kernel, by decide +kernel⟩, List.mem_of_getElem? (i := 155) (by decide +kernel), List.mem_of_getElem? (i := 391) (by decide +kernel), List.mem_of_getElem? (i := 392) (by decide +kernel)⟩
theorem lw_p11 : lw_okq (⟨"BoatRota$Station", "removeLoan", "(I)V"⟩, 11) := ⟨⟨by decide +kernel, by decide +kernel⟩, List.mem_of_getElem? (i := 155) (by decide +kernel), List.mem_of_getElem? (i := 410) (by decide +kernel), List.mem_of_getElem? (i := 411) (by decide +kernel)⟩
theorem lw_p12 : lw_okq (⟨"BoatRota$Station", "tireMembers", "()V"⟩, 11) := ⟨⟨by decide +kernel, by decide +kernel⟩, List.mem_of_getElem? (i := 155) (by decide +kernel), List.mem_of_getElem? (i := 422) (by decide +kernel), List.mem_of_getElem? (i := 423) (by decide +kernel)⟩
theorem lw_p13 : lw_okq (⟨"BoatRota$Station", "sailBoats", "()V"⟩, 11) := ⟨⟨by decide +kernel, by decide +kernel⟩, List.mem_of_getElem? (i := 155) (by decide +kernel), List.mem_of_getElem? (i := 426) (by decide +kernel), List.mem_of_getElem? (i := 427) (by decide +kernel)⟩
theorem lw_p14 : lw_okq (⟨"BoatRota$Station", "sailBoat", "(I)V"⟩, 11) := ⟨⟨by decide +kernel, by decide +kernel⟩, List.mem_of_getElem? (i := 155) (by decide +kernel), List.mem_of_getElem? (i := 430) (by decide +kernel), List.mem_of_getElem? (i := 431) (by decide +kernel)⟩
theorem lw_p15 : lw_okq (⟨"BoatRota$Station", "bringIn", "(I)V"⟩, 11) := ⟨⟨by decide +kernel, by decide +kernel⟩, List.mem_of_getElem? (i := 155) (by decide +kernel), List.mem_of_getElem? (i := 434) (by decide +kernel), List.mem_of_getElem? (i := 435) (by decide +kernel)⟩
def lw_privs_1 : List (MethodName × Nat) := [(⟨"BoatRota", "requireBoat", "(I)V"⟩, 12), (⟨"java/lang/Throwable", "fillInStackTrace", "(I)Ljava/lang/Throwable;"⟩, 6), (⟨"BoatRota$Station", "skilledMembers", "(I)I"⟩, 11), (⟨"BoatRota", "change", "(LBoatRota$Deed;II)I"⟩, 12), (⟨"BoatRota", "judge", "(LBoatRota$Deed;II)V"⟩, 12), (⟨"BoatRota", "remember", "(LBoatRota$Station;)V"⟩, 12), (⟨"BoatRota", "forgetOldest", "()V"⟩, 12), (⟨"BoatRota", "carryOut", "(LBoatRota$Deed;II)I"⟩, 12), (⟨"BoatRota$Station", "chosenCoxswain", "()I"⟩, 11), (⟨"BoatRota$Station", "leastWearyOf", "(I)I"⟩, 11), (⟨"BoatRota$Station", "filledUp", "(III)I"⟩, 11), (⟨"BoatRota$Station", "removeLoan", "(I)V"⟩, 11), (⟨"BoatRota$Station", "tireMembers", "()V"⟩, 11), (⟨"BoatRota$Station", "sailBoats", "()V"⟩, 11), (⟨"BoatRota$Station", "sailBoat", "(I)V"⟩, 11), (⟨"BoatRota$Station", "bringIn", "(I)V"⟩, 11)]
theorem lw_r1 : ∀ q ∈ lw_privs_1, lw_okq q := List.forall_mem_cons.mpr ⟨lw_p0, List.forall_mem_cons.mpr ⟨lw_p1, List.forall_mem_cons.mpr ⟨lw_p2, List.forall_mem_cons.mpr ⟨lw_p3, List.forall_mem_cons.mpr ⟨lw_p4, List.forall_mem_cons.mpr ⟨lw_p5, List.forall_mem_cons.mpr ⟨lw_p6, List.forall_mem_cons.mpr ⟨lw_p7, List.forall_mem_cons.mpr ⟨lw_p8, List.forall_mem_cons.mpr ⟨lw_p9, List.forall_mem_cons.mpr ⟨lw_p10, List.forall_mem_cons.mpr ⟨lw_p11, List.forall_mem_cons.mpr ⟨lw_p12, List.forall_mem_cons.mpr ⟨lw_p13, List.forall_mem_cons.mpr ⟨lw_p14, List.forall_mem_cons.mpr ⟨lw_p15, fun _ h => absurd h List.not_mem_nil⟩⟩⟩⟩⟩⟩⟩⟩⟩⟩⟩⟩⟩⟩⟩⟩
theorem lw_p16 : lw_okq (⟨"BoatRota$Station", "ageLoans", "()V"⟩, 11) := ⟨⟨by decide +kernel, by decide +kernel⟩, List.mem_of_getElem? (i := 155) (by decide +kernel), List.mem_of_getElem? (i := 438) (by decide +kernel), List.mem_of_getElem? (i := 439) (by decide +kernel)⟩
theorem lw_p17 : lw_okq (⟨"BoatRota", "requireOut", "(I)V"⟩, 12) := ⟨⟨by decide +kernel, by decide +kernel⟩, List.mem_of_getElem? (i := 39) (by decide +kernel), List.mem_of_getElem? (i := 514) (by decide +kernel), List.mem_of_getElem? (i := 515) (by decide +kernel)⟩
theorem lw_p18 : lw_okq (⟨"BoatRota$Station", "countBefore", "(IIZ)I"⟩, 11) := ⟨⟨by decide +kernel, by decide +kernel⟩, List.mem_of_getElem? (i := 155) (by decide +kernel), List.mem_of_getElem? (i := 532) (by decide +kernel), List.mem_of_getElem? (i := 533) (by decide +kernel)⟩
theorem lw_p19 : lw_okq (⟨"BoatRota$Station", "isBusier", "(II)Z"⟩, 11) := ⟨⟨by decide +kernel, by decide +kernel⟩, List.mem_of_getElem? (i := 155) (by decide +kernel), List.mem_of_getElem? (i := 536) (by decide +kernel), List.mem_of_getElem? (i := 537) (by decide +kernel)⟩
theorem lw_p20 : lw_okq (⟨"BoatRota$Station", "isFresher", "(II)Z"⟩, 11) := ⟨⟨by decide +kernel, by decide +kernel⟩, List.mem_of_getElem? (i := 155) (by decide +kernel), List.mem_of_getElem? (i := 540) (by decide +kernel), List.mem_of_getElem? (i := 541) (by decide +kernel)⟩
theorem lw_p21 : lw_okq (⟨"BoatRota$Script", "readCommand", "(I)Z"⟩, 7) := ⟨⟨by decide +kernel, by decide +kernel⟩, List.mem_of_getElem? (i := 766) (by decide +kernel), List.mem_of_getElem? (i := 1193) (by decide +kernel), List.mem_of_getElem? (i := 1194) (by decide +kernel)⟩
theorem lw_p22 : lw_okq (⟨"BoatRota$Script", "readDeed", "()LBoatRota$Deed;"⟩, 7) := ⟨⟨by decide +kernel, by decide +kernel⟩, List.mem_of_getElem? (i := 766) (by decide +kernel), List.mem_of_getElem? (i := 1197) (by decide +kernel), List.mem_of_getElem? (i := 1198) (by decide +kernel)⟩
theorem lw_p23 : lw_okq (⟨"BoatRota$Script", "readNumber", "(I)I"⟩, 7) := ⟨⟨by decide +kernel, by decide +kernel⟩, List.mem_of_getElem? (i := 766) (by decide +kernel), List.mem_of_getElem? (i := 1203) (by decide +kernel), List.mem_of_getElem? (i := 1204) (by decide +kernel)⟩
theorem lw_p24 : lw_okq (⟨"BoatRota$Script", "isDigitNext", "()Z"⟩, 7) := ⟨⟨by decide +kernel, by decide +kernel⟩, List.mem_of_getElem? (i := 766) (by decide +kernel), List.mem_of_getElem? (i := 1207) (by decide +kernel), List.mem_of_getElem? (i := 1208) (by decide +kernel)⟩
theorem lw_p25 : lw_okq (⟨"BoatRota", "carryOutAll", "()I"⟩, 12) := ⟨⟨by decide +kernel, by decide +kernel⟩, List.mem_of_getElem? (i := 39) (by decide +kernel), List.mem_of_getElem? (i := 1213) (by decide +kernel), List.mem_of_getElem? (i := 1214) (by decide +kernel)⟩
theorem lw_p26 : lw_okq (⟨"BoatRota", "requireCrew", "(I)V"⟩, 12) := ⟨⟨by decide +kernel, by decide +kernel⟩, List.mem_of_getElem? (i := 39) (by decide +kernel), List.mem_of_getElem? (i := 1264) (by decide +kernel), List.mem_of_getElem? (i := 1265) (by decide +kernel)⟩
def lw_privs_2 : List (MethodName × Nat) := [(⟨"BoatRota$Station", "ageLoans", "()V"⟩, 11), (⟨"BoatRota", "requireOut", "(I)V"⟩, 12), (⟨"BoatRota$Station", "countBefore", "(IIZ)I"⟩, 11), (⟨"BoatRota$Station", "isBusier", "(II)Z"⟩, 11), (⟨"BoatRota$Station", "isFresher", "(II)Z"⟩, 11), (⟨"BoatRota$Script", "readCommand", "(I)Z"⟩, 7), (⟨"BoatRota$Script", "readDeed", "()LBoatRota$Deed;"⟩, 7), (⟨"BoatRota$Script", "readNumber", "(I)I"⟩, 7), (⟨"BoatRota$Script", "isDigitNext", "()Z"⟩, 7), (⟨"BoatRota", "carryOutAll", "()I"⟩, 12), (⟨"BoatRota", "requireCrew", "(I)V"⟩, 12)]
theorem lw_r2 : ∀ q ∈ lw_privs_2, lw_okq q := List.forall_mem_cons.mpr ⟨lw_p16, List.forall_mem_cons.mpr ⟨lw_p17, List.forall_mem_cons.mpr ⟨lw_p18, List.forall_mem_cons.mpr ⟨lw_p19, List.forall_mem_cons.mpr ⟨lw_p20, List.forall_mem_cons.mpr ⟨lw_p21, List.forall_mem_cons.mpr ⟨lw_p22, List.forall_mem_cons.mpr ⟨lw_p23, List.forall_mem_cons.mpr ⟨lw_p24, List.forall_mem_cons.mpr ⟨lw_p25, List.forall_mem_cons.mpr ⟨lw_p26, fun _ h => absurd h List.not_mem_nil⟩⟩⟩⟩⟩⟩⟩⟩⟩⟩⟩
def lw_privs : List (MethodName × Nat) := lw_privs_1 ++ (lw_privs_2)
def lw_tbl : List Cond := k2_sels lw_privs ++ tables_1
theorem lw_privs_ok : ∀ q ∈ lw_privs, lw_okq q := by
  show ∀ q ∈ lw_privs_1 ++ (lw_privs_2), lw_okq q
  exact List.forall_mem_append.mpr ⟨lw_r1, lw_r2⟩
def RX0 : String := "BoatRota$1"
def TX0 : u_T := fun k => match k with
  | _ => ("", "", "", false)
def tyX0 : Nat → FieldType := fun k => match k with
  | _ => .int
theorem nmX0 : ∀ a, a < 0 → ∀ b, b < 0 → a ≠ b → (TX0 a).2.1 ≠ (TX0 b).2.1 := by decide +kernel
theorem tyX0_ok : ∀ k, k < 0 → parseFieldDescriptor (TX0 k).2.2.1 = some (tyX0 k) := by decide +kernel
def RX1 : String := "BoatRota$Boat"
def TX1 : u_T := fun k => match k with
  | 0 => ("BoatRota$Boat", "draft", "I", false)
  | 1 => ("BoatRota$Boat", "seats", "I", false)
  | 2 => ("BoatRota$Boat", "coxswain", "I", false)
  | 3 => ("BoatRota$Boat", "hoursLeft", "I", false)
  | 4 => ("BoatRota$Boat", "hoursWaited", "I", false)
  | _ => ("BoatRota$Boat", "callOuts", "I", false)
def tyX1 : Nat → FieldType := fun k => match k with
  | 0 => .int
  | 1 => .int
  | 2 => .int
  | 3 => .int
  | 4 => .int
  | _ => .int
theorem nmX1 : ∀ a, a < 6 → ∀ b, b < 6 → a ≠ b → (TX1 a).2.1 ≠ (TX1 b).2.1 := by decide +kernel
theorem tyX1_ok : ∀ k, k < 6 → parseFieldDescriptor (TX1 k).2.2.1 = some (tyX1 k) := by decide +kernel
abbrev cX1_init : ByteArray := prog_3_method_1_code
def yX1_init : MethodName := ⟨RX1, "<init>", "()V"⟩
abbrev cX1_start : ByteArray := prog_3_method_2_code
def yX1_start : MethodName := ⟨RX1, "start", "(II)V"⟩
abbrev cX1_isOut : ByteArray := prog_3_method_3_code
def yX1_isOut : MethodName := ⟨RX1, "isOut", "()Z"⟩
abbrev cX1_oarsNeeded : ByteArray := prog_3_method_4_code
def yX1_oarsNeeded : MethodName := ⟨RX1, "oarsNeeded", "()I"⟩
abbrev cX1_skilledNeeded : ByteArray := prog_3_method_5_code
def yX1_skilledNeeded : MethodName := ⟨RX1, "skilledNeeded", "()I"⟩
abbrev cX1_copyFrom : ByteArray := prog_3_method_6_code
def yX1_copyFrom : MethodName := ⟨RX1, "copyFrom", "(LBoatRota$Boat;)V"⟩
def RX2 : String := "BoatRota$Deed"
def TX2 : u_T := fun k => match k with
  | _ => ("", "", "", false)
def tyX2 : Nat → FieldType := fun k => match k with
  | _ => .int
theorem nmX2 : ∀ a, a < 0 → ∀ b, b < 0 → a ≠ b → (TX2 a).2.1 ≠ (TX2 b).2.1 := by decide +kernel
theorem tyX2_ok : ∀ k, k < 0 → parseFieldDescriptor (TX2 k).2.2.1 = some (tyX2 k) := by decide +kernel
def RX3 : String := "BoatRota$Loan"
def TX3 : u_T := fun k => match k with
  | 0 => ("BoatRota$Loan", "oars", "I", false)
  | 1 => ("BoatRota$Loan", "hoursUntilDue", "I", false)
  | _ => ("BoatRota$Loan", "hoursLate", "I", false)
def tyX3 : Nat → FieldType := fun k => match k with
  | 0 => .int
  | 1 => .int
  | _ => .int
theorem nmX3 : ∀ a, a < 3 → ∀ b, b < 3 → a ≠ b → (TX3 a).2.1 ≠ (TX3 b).2.1 := by decide +kernel
theorem tyX3_ok : ∀ k, k < 3 → parseFieldDescriptor (TX3 k).2.2.1 = some (tyX3 k) := by decide +kernel
abbrev cX3_init : ByteArray := prog_5_method_1_code
def yX3_init : MethodName := ⟨RX3, "<init>", "()V"⟩
abbrev cX3_start : ByteArray := prog_5_method_2_code
def yX3_start : MethodName := ⟨RX3, "start", "(II)V"⟩
abbrev cX3_copyFrom : ByteArray := prog_5_method_3_code
def yX3_copyFrom : MethodName := ⟨RX3, "copyFrom", "(LBoatRota$Loan;)V"⟩
def RX4 : String := "BoatRota$Member"
def TX4 : u_T := fun k => match k with
  | 0 => ("BoatRota$Member", "skill", "I", false)
  | 1 => ("BoatRota$Member", "place", "I", false)
  | 2 => ("BoatRota$Member", "weariness", "I", false)
  | 3 => ("BoatRota$Member", "hoursOut", "I", false)
  | 4 => ("BoatRota$Member", "callOuts", "I", false)
  | _ => ("BoatRota$Member", "callOutsAsCoxswain", "I", false)
def tyX4 : Nat → FieldType := fun k => match k with
  | 0 => .int
  | 1 => .int
  | 2 => .int
  | 3 => .int
  | 4 => .int
  | _ => .int
theorem nmX4 : ∀ a, a < 6 → ∀ b, b < 6 → a ≠ b → (TX4 a).2.1 ≠ (TX4 b).2.1 := by decide +kernel
theorem tyX4_ok : ∀ k, k < 6 → parseFieldDescriptor (TX4 k).2.2.1 = some (tyX4 k) := by decide +kernel
abbrev cX4_init : ByteArray := prog_6_method_1_code
def yX4_init : MethodName := ⟨RX4, "<init>", "()V"⟩
abbrev cX4_start : ByteArray := prog_6_method_2_code
def yX4_start : MethodName := ⟨RX4, "start", "(I)V"⟩
abbrev cX4_isOut : ByteArray := prog_6_method_3_code
def yX4_isOut : MethodName := ⟨RX4, "isOut", "()Z"⟩
abbrev cX4_isAble : ByteArray := prog_6_method_4_code
def yX4_isAble : MethodName := ⟨RX4, "isAble", "(I)Z"⟩
abbrev cX4_copyFrom : ByteArray := prog_6_method_5_code
def yX4_copyFrom : MethodName := ⟨RX4, "copyFrom", "(LBoatRota$Member;)V"⟩
def RX5 : String := "BoatRota$Refusal"
def TX5 : u_T := fun k => match k with
  | 0 => ("BoatRota$Refusal", "number", "I", false)
  | _ => ("BoatRota$Refusal", "detail", "I", false)
def tyX5 : Nat → FieldType := fun k => match k with
  | 0 => .int
  | _ => .int
theorem nmX5 : ∀ a, a < 2 → ∀ b, b < 2 → a ≠ b → (TX5 a).2.1 ≠ (TX5 b).2.1 := by decide +kernel
theorem tyX5_ok : ∀ k, k < 2 → parseFieldDescriptor (TX5 k).2.2.1 = some (tyX5 k) := by decide +kernel
abbrev cX5_init : ByteArray := prog_7_method_1_code
def yX5_init : MethodName := ⟨RX5, "<init>", "()V"⟩
abbrev cX5_isThere : ByteArray := prog_7_method_2_code
def yX5_isThere : MethodName := ⟨RX5, "isThere", "()Z"⟩
abbrev cX5_set : ByteArray := prog_7_method_3_code
def yX5_set : MethodName := ⟨RX5, "set", "(II)V"⟩
abbrev cX5_clear : ByteArray := prog_7_method_4_code
def yX5_clear : MethodName := ⟨RX5, "clear", "()V"⟩
abbrev cX5_copyFrom : ByteArray := prog_7_method_5_code
def yX5_copyFrom : MethodName := ⟨RX5, "copyFrom", "(LBoatRota$Refusal;)V"⟩
def RX6 : String := "BoatRota$Script"
def TX6 : u_T := fun k => match k with
  | 0 => ("BoatRota$Script", "signs", "[C", true)
  | 1 => ("BoatRota$Script", "length", "I", false)
  | 2 => ("BoatRota$Script", "deeds", "[LBoatRota$Deed;", true)
  | 3 => ("BoatRota$Script", "firsts", "[I", true)
  | 4 => ("BoatRota$Script", "seconds", "[I", true)
  | 5 => ("BoatRota$Script", "count", "I", false)
  | _ => ("BoatRota$Script", "at", "I", false)
def tyX6 : Nat → FieldType := fun k => match k with
  | 0 => .array .char
  | 1 => .int
  | 2 => .array (.object "BoatRota$Deed")
  | 3 => .array .int
  | 4 => .array .int
  | 5 => .int
  | _ => .int
theorem nmX6 : ∀ a, a < 7 → ∀ b, b < 7 → a ≠ b → (TX6 a).2.1 ≠ (TX6 b).2.1 := by decide +kernel
theorem tyX6_ok : ∀ k, k < 7 → parseFieldDescriptor (TX6 k).2.2.1 = some (tyX6 k) := by decide +kernel
abbrev cX6_init : ByteArray := prog_8_method_1_code
def yX6_init : MethodName := ⟨RX6, "<init>", "()V"⟩
abbrev cX6_add : ByteArray := prog_8_method_2_code
def yX6_add : MethodName := ⟨RX6, "add", "(C)V"⟩
abbrev cX6_read : ByteArray := prog_8_method_3_code
def yX6_read : MethodName := ⟨RX6, "read", "()I"⟩
abbrev cX6_readCommand : ByteArray := prog_8_method_4_code
def yX6_readCommand : MethodName := ⟨RX6, "readCommand", "(I)Z"⟩
abbrev cX6_readDeed : ByteArray := prog_8_method_5_code
def yX6_readDeed : MethodName := ⟨RX6, "readDeed", "()LBoatRota$Deed;"⟩
abbrev cX6_readNumber : ByteArray := prog_8_method_6_code
def yX6_readNumber : MethodName := ⟨RX6, "readNumber", "(I)I"⟩
abbrev cX6_isDigitNext : ByteArray := prog_8_method_7_code
def yX6_isDigitNext : MethodName := ⟨RX6, "isDigitNext", "()Z"⟩
def RX7 : String := "BoatRota$Station"
def TX7 : u_T := fun k => match k with
  | 0 => ("BoatRota$Station", "members", "[LBoatRota$Member;", true)
  | 1 => ("BoatRota$Station", "boats", "[LBoatRota$Boat;", true)
  | 2 => ("BoatRota$Station", "loans", "[LBoatRota$Loan;", true)
  | 3 => ("BoatRota$Station", "memberCount", "I", false)
  | 4 => ("BoatRota$Station", "boatCount", "I", false)
  | 5 => ("BoatRota$Station", "loanCount", "I", false)
  | 6 => ("BoatRota$Station", "hour", "I", false)
  | 7 => ("BoatRota$Station", "limit", "I", false)
  | 8 => ("BoatRota$Station", "callOuts", "I", false)
  | 9 => ("BoatRota$Station", "boatsCameIn", "I", false)
  | _ => ("BoatRota$Station", "hoursLate", "I", false)
def tyX7 : Nat → FieldType := fun k => match k with
  | 0 => .array (.object "BoatRota$Member")
  | 1 => .array (.object "BoatRota$Boat")
  | 2 => .array (.object "BoatRota$Loan")
  | 3 => .int
  | 4 => .int
  | 5 => .int
  | 6 => .int
  | 7 => .int
  | 8 => .int
  | 9 => .int
  | _ => .int
theorem nmX7 : ∀ a, a < 11 → ∀ b, b < 11 → a ≠ b → (TX7 a).2.1 ≠ (TX7 b).2.1 := by decide +kernel
theorem tyX7_ok : ∀ k, k < 11 → parseFieldDescriptor (TX7 k).2.2.1 = some (tyX7 k) := by decide +kernel
abbrev cX7_init : ByteArray := prog_9_method_1_code
def yX7_init : MethodName := ⟨RX7, "<init>", "()V"⟩
abbrev cX7_copyFrom : ByteArray := prog_9_method_2_code
def yX7_copyFrom : MethodName := ⟨RX7, "copyFrom", "(LBoatRota$Station;)V"⟩
abbrev cX7_hasMember : ByteArray := prog_9_method_3_code
def yX7_hasMember : MethodName := ⟨RX7, "hasMember", "(I)Z"⟩
abbrev cX7_hasBoat : ByteArray := prog_9_method_4_code
def yX7_hasBoat : MethodName := ⟨RX7, "hasBoat", "(I)Z"⟩
abbrev cX7_hasLoan : ByteArray := prog_9_method_5_code
def yX7_hasLoan : MethodName := ⟨RX7, "hasLoan", "(I)Z"⟩
abbrev cX7_judgeMember : ByteArray := prog_9_method_6_code
def yX7_judgeMember : MethodName := ⟨RX7, "judgeMember", "(ILBoatRota$Refusal;)V"⟩
abbrev cX7_addMember : ByteArray := prog_9_method_7_code
def yX7_addMember : MethodName := ⟨RX7, "addMember", "(I)I"⟩
abbrev cX7_judgeLeave : ByteArray := prog_9_method_8_code
def yX7_judgeLeave : MethodName := ⟨RX7, "judgeLeave", "(ILBoatRota$Refusal;)V"⟩
abbrev cX7_letGo : ByteArray := prog_9_method_9_code
def yX7_letGo : MethodName := ⟨RX7, "letGo", "(I)I"⟩
abbrev cX7_judgeTrain : ByteArray := prog_9_method_10_code
def yX7_judgeTrain : MethodName := ⟨RX7, "judgeTrain", "(ILBoatRota$Refusal;)V"⟩
abbrev cX7_raiseSkill : ByteArray := prog_9_method_11_code
def yX7_raiseSkill : MethodName := ⟨RX7, "raiseSkill", "(I)I"⟩
abbrev cX7_judgeBoat : ByteArray := prog_9_method_12_code
def yX7_judgeBoat : MethodName := ⟨RX7, "judgeBoat", "(IILBoatRota$Refusal;)V"⟩
abbrev cX7_addBoat : ByteArray := prog_9_method_13_code
def yX7_addBoat : MethodName := ⟨RX7, "addBoat", "(II)I"⟩
abbrev cX7_judgeCall : ByteArray := prog_9_method_14_code
def yX7_judgeCall : MethodName := ⟨RX7, "judgeCall", "(IILBoatRota$Refusal;)V"⟩
abbrev cX7_judgeCrew : ByteArray := prog_9_method_15_code
def yX7_judgeCrew : MethodName := ⟨RX7, "judgeCrew", "(ILBoatRota$Refusal;)V"⟩
abbrev cX7_sendOut : ByteArray := prog_9_method_16_code
def yX7_sendOut : MethodName := ⟨RX7, "sendOut", "(II)I"⟩
abbrev cX7_judgeBorrow : ByteArray := prog_9_method_17_code
def yX7_judgeBorrow : MethodName := ⟨RX7, "judgeBorrow", "(IILBoatRota$Refusal;)V"⟩
abbrev cX7_addLoan : ByteArray := prog_9_method_18_code
def yX7_addLoan : MethodName := ⟨RX7, "addLoan", "(II)I"⟩
abbrev cX7_judgeGiveBack : ByteArray := prog_9_method_19_code
def yX7_judgeGiveBack : MethodName := ⟨RX7, "judgeGiveBack", "(ILBoatRota$Refusal;)V"⟩
abbrev cX7_endLoan : ByteArray := prog_9_method_20_code
def yX7_endLoan : MethodName := ⟨RX7, "endLoan", "(I)I"⟩
abbrev cX7_removeLoan : ByteArray := prog_9_method_21_code
def yX7_removeLoan : MethodName := ⟨RX7, "removeLoan", "(I)V"⟩
abbrev cX7_judgeLimit : ByteArray := prog_9_method_22_code
def yX7_judgeLimit : MethodName := ⟨RX7, "judgeLimit", "(ILBoatRota$Refusal;)V"⟩
abbrev cX7_setLimit : ByteArray := prog_9_method_23_code
def yX7_setLimit : MethodName := ⟨RX7, "setLimit", "(I)I"⟩
abbrev cX7_judgePass : ByteArray := prog_9_method_24_code
def yX7_judgePass : MethodName := ⟨RX7, "judgePass", "(ILBoatRota$Refusal;)V"⟩
abbrev cX7_passHours : ByteArray := prog_9_method_25_code
def yX7_passHours : MethodName := ⟨RX7, "passHours", "(I)I"⟩
abbrev cX7_tireMembers : ByteArray := prog_9_method_26_code
def yX7_tireMembers : MethodName := ⟨RX7, "tireMembers", "()V"⟩
abbrev cX7_sailBoats : ByteArray := prog_9_method_27_code
def yX7_sailBoats : MethodName := ⟨RX7, "sailBoats", "()V"⟩
abbrev cX7_sailBoat : ByteArray := prog_9_method_28_code
def yX7_sailBoat : MethodName := ⟨RX7, "sailBoat", "(I)V"⟩
abbrev cX7_bringIn : ByteArray := prog_9_method_29_code
def yX7_bringIn : MethodName := ⟨RX7, "bringIn", "(I)V"⟩
abbrev cX7_ageLoans : ByteArray := prog_9_method_30_code
def yX7_ageLoans : MethodName := ⟨RX7, "ageLoans", "()V"⟩
abbrev cX7_allOars : ByteArray := prog_9_method_31_code
def yX7_allOars : MethodName := ⟨RX7, "allOars", "()I"⟩
abbrev cX7_oarsOut : ByteArray := prog_9_method_32_code
def yX7_oarsOut : MethodName := ⟨RX7, "oarsOut", "()I"⟩
abbrev cX7_freeOars : ByteArray := prog_9_method_33_code
def yX7_freeOars : MethodName := ⟨RX7, "freeOars", "()I"⟩
abbrev cX7_boatsOut : ByteArray := prog_9_method_34_code
def yX7_boatsOut : MethodName := ⟨RX7, "boatsOut", "()I"⟩
abbrev cX7_everyone : ByteArray := prog_9_method_35_code
def yX7_everyone : MethodName := ⟨RX7, "everyone", "()I"⟩
abbrev cX7_staying : ByteArray := prog_9_method_36_code
def yX7_staying : MethodName := ⟨RX7, "staying", "()I"⟩
abbrev cX7_membersAt : ByteArray := prog_9_method_37_code
def yX7_membersAt : MethodName := ⟨RX7, "membersAt", "(I)I"⟩
abbrev cX7_ableMembers : ByteArray := prog_9_method_38_code
def yX7_ableMembers : MethodName := ⟨RX7, "ableMembers", "()I"⟩
abbrev cX7_skilledMembers : ByteArray := prog_9_method_39_code
def yX7_skilledMembers : MethodName := ⟨RX7, "skilledMembers", "(I)I"⟩
abbrev cX7_wearinessOf : ByteArray := prog_9_method_40_code
def yX7_wearinessOf : MethodName := ⟨RX7, "wearinessOf", "(I)I"⟩
abbrev cX7_chosenCoxswain : ByteArray := prog_9_method_41_code
def yX7_chosenCoxswain : MethodName := ⟨RX7, "chosenCoxswain", "()I"⟩
abbrev cX7_chosenCrew : ByteArray := prog_9_method_42_code
def yX7_chosenCrew : MethodName := ⟨RX7, "chosenCrew", "(I)I"⟩
abbrev cX7_filledUp : ByteArray := prog_9_method_43_code
def yX7_filledUp : MethodName := ⟨RX7, "filledUp", "(III)I"⟩
abbrev cX7_leastWearyOf : ByteArray := prog_9_method_44_code
def yX7_leastWearyOf : MethodName := ⟨RX7, "leastWearyOf", "(I)I"⟩
abbrev cX7_leastWearinessOfAll : ByteArray := prog_9_method_45_code
def yX7_leastWearinessOfAll : MethodName := ⟨RX7, "leastWearinessOfAll", "(I)I"⟩
abbrev cX7_memberInPlace : ByteArray := prog_9_method_46_code
def yX7_memberInPlace : MethodName := ⟨RX7, "memberInPlace", "(IIZ)I"⟩
abbrev cX7_countBefore : ByteArray := prog_9_method_47_code
def yX7_countBefore : MethodName := ⟨RX7, "countBefore", "(IIZ)I"⟩
abbrev cX7_isFresher : ByteArray := prog_9_method_48_code
def yX7_isFresher : MethodName := ⟨RX7, "isFresher", "(II)Z"⟩
abbrev cX7_isBusier : ByteArray := prog_9_method_49_code
def yX7_isBusier : MethodName := ⟨RX7, "isBusier", "(II)Z"⟩
def RX8 : String := "BoatRota"
def TX8 : u_T := fun k => match k with
  | 0 => ("BoatRota", "station", "LBoatRota$Station;", true)
  | 1 => ("BoatRota", "spare", "LBoatRota$Station;", true)
  | 2 => ("BoatRota", "snapshot", "LBoatRota$Station;", true)
  | 3 => ("BoatRota", "isSaved", "Z", false)
  | 4 => ("BoatRota", "past", "[LBoatRota$Station;", true)
  | 5 => ("BoatRota", "pastCount", "I", false)
  | 6 => ("BoatRota", "kept", "LBoatRota$Refusal;", true)
  | 7 => ("BoatRota", "keptCause", "LBoatRota$Refusal;", true)
  | 8 => ("BoatRota", "found", "LBoatRota$Refusal;", true)
  | 9 => ("BoatRota", "script", "LBoatRota$Script;", true)
  | 10 => ("BoatRota", "latestFault", "I", false)
  | _ => ("BoatRota", "written", "Ljava/lang/StringBuilder;", true)
def tyX8 : Nat → FieldType := fun k => match k with
  | 0 => .object "BoatRota$Station"
  | 1 => .object "BoatRota$Station"
  | 2 => .object "BoatRota$Station"
  | 3 => .boolean
  | 4 => .array (.object "BoatRota$Station")
  | 5 => .int
  | 6 => .object "BoatRota$Refusal"
  | 7 => .object "BoatRota$Refusal"
  | 8 => .object "BoatRota$Refusal"
  | 9 => .object "BoatRota$Script"
  | 10 => .int
  | _ => .object "java/lang/StringBuilder"
theorem nmX8 : ∀ a, a < 12 → ∀ b, b < 12 → a ≠ b → (TX8 a).2.1 ≠ (TX8 b).2.1 := by decide +kernel
theorem tyX8_ok : ∀ k, k < 12 → parseFieldDescriptor (TX8 k).2.2.1 = some (tyX8 k) := by decide +kernel
abbrev cX8_init : ByteArray := prog_1_method_1_code
def yX8_init : MethodName := ⟨RX8, "<init>", "()V"⟩
abbrev cX8_member : ByteArray := prog_1_method_2_code
def yX8_member : MethodName := ⟨RX8, "member", "(I)I"⟩
abbrev cX8_leave : ByteArray := prog_1_method_3_code
def yX8_leave : MethodName := ⟨RX8, "leave", "(I)I"⟩
abbrev cX8_train : ByteArray := prog_1_method_4_code
def yX8_train : MethodName := ⟨RX8, "train", "(I)I"⟩
abbrev cX8_boat : ByteArray := prog_1_method_5_code
def yX8_boat : MethodName := ⟨RX8, "boat", "(II)I"⟩
abbrev cX8_call : ByteArray := prog_1_method_6_code
def yX8_call : MethodName := ⟨RX8, "call", "(II)I"⟩
abbrev cX8_borrow : ByteArray := prog_1_method_7_code
def yX8_borrow : MethodName := ⟨RX8, "borrow", "(II)I"⟩
abbrev cX8_giveBack : ByteArray := prog_1_method_8_code
def yX8_giveBack : MethodName := ⟨RX8, "giveBack", "(I)I"⟩
abbrev cX8_limit : ByteArray := prog_1_method_9_code
def yX8_limit : MethodName := ⟨RX8, "limit", "(I)I"⟩
abbrev cX8_pass : ByteArray := prog_1_method_10_code
def yX8_pass : MethodName := ⟨RX8, "pass", "(I)I"⟩
abbrev cX8_memberOf : ByteArray := prog_1_method_12_code
def yX8_memberOf : MethodName := ⟨RX8, "memberOf", "(II)I"⟩
abbrev cX8_boatOf : ByteArray := prog_1_method_13_code
def yX8_boatOf : MethodName := ⟨RX8, "boatOf", "(II)I"⟩
abbrev cX8_crew : ByteArray := prog_1_method_14_code
def yX8_crew : MethodName := ⟨RX8, "crew", "(I)I"⟩
abbrev cX8_able : ByteArray := prog_1_method_15_code
def yX8_able : MethodName := ⟨RX8, "able", "()I"⟩
abbrev cX8_wouldGo : ByteArray := prog_1_method_16_code
def yX8_wouldGo : MethodName := ⟨RX8, "wouldGo", "(I)I"⟩
abbrev cX8_weariness : ByteArray := prog_1_method_17_code
def yX8_weariness : MethodName := ⟨RX8, "weariness", "(I)I"⟩
abbrev cX8_wearinessAgain : ByteArray := prog_1_method_18_code
def yX8_wearinessAgain : MethodName := ⟨RX8, "wearinessAgain", "(I)I"⟩
abbrev cX8_wouldRefuse : ByteArray := prog_1_method_19_code
def yX8_wouldRefuse : MethodName := ⟨RX8, "wouldRefuse", "(I)I"⟩
abbrev cX8_callableIn : ByteArray := prog_1_method_20_code
def yX8_callableIn : MethodName := ⟨RX8, "callableIn", "(I)I"⟩
abbrev cX8_homeIn : ByteArray := prog_1_method_21_code
def yX8_homeIn : MethodName := ⟨RX8, "homeIn", "(I)I"⟩
abbrev cX8_homeInAgain : ByteArray := prog_1_method_22_code
def yX8_homeInAgain : MethodName := ⟨RX8, "homeInAgain", "(I)I"⟩
abbrev cX8_loanOf : ByteArray := prog_1_method_23_code
def yX8_loanOf : MethodName := ⟨RX8, "loanOf", "(II)I"⟩
abbrev cX8_free : ByteArray := prog_1_method_24_code
def yX8_free : MethodName := ⟨RX8, "free", "()I"⟩
abbrev cX8_least : ByteArray := prog_1_method_25_code
def yX8_least : MethodName := ⟨RX8, "least", "(I)I"⟩
abbrev cX8_busiest : ByteArray := prog_1_method_26_code
def yX8_busiest : MethodName := ⟨RX8, "busiest", "(I)I"⟩
abbrev cX8_append : ByteArray := prog_1_method_27_code
def yX8_append : MethodName := ⟨RX8, "append", "(C)I"⟩
abbrev cX8_commands : ByteArray := prog_1_method_28_code
def yX8_commands : MethodName := ⟨RX8, "commands", "()I"⟩
abbrev cX8_account : ByteArray := prog_1_method_35_code
def yX8_account : MethodName := ⟨RX8, "account", "(I)I"⟩
abbrev cX8_undo : ByteArray := prog_1_method_36_code
def yX8_undo : MethodName := ⟨RX8, "undo", "()I"⟩
abbrev cX8_save : ByteArray := prog_1_method_37_code
def yX8_save : MethodName := ⟨RX8, "save", "()I"⟩
abbrev cX8_restore : ByteArray := prog_1_method_38_code
def yX8_restore : MethodName := ⟨RX8, "restore", "()I"⟩
abbrev cX8_change : ByteArray := prog_1_method_39_code
def yX8_change : MethodName := ⟨RX8, "change", "(LBoatRota$Deed;II)I"⟩
abbrev cX8_judge : ByteArray := prog_1_method_40_code
def yX8_judge : MethodName := ⟨RX8, "judge", "(LBoatRota$Deed;II)V"⟩
abbrev cX8_carryOut : ByteArray := prog_1_method_41_code
def yX8_carryOut : MethodName := ⟨RX8, "carryOut", "(LBoatRota$Deed;II)I"⟩
abbrev cX8_carryOutAll : ByteArray := prog_1_method_42_code
def yX8_carryOutAll : MethodName := ⟨RX8, "carryOutAll", "()I"⟩
abbrev cX8_remember : ByteArray := prog_1_method_43_code
def yX8_remember : MethodName := ⟨RX8, "remember", "(LBoatRota$Station;)V"⟩
abbrev cX8_forgetOldest : ByteArray := prog_1_method_44_code
def yX8_forgetOldest : MethodName := ⟨RX8, "forgetOldest", "()V"⟩
abbrev cX8_requireBoat : ByteArray := prog_1_method_46_code
def yX8_requireBoat : MethodName := ⟨RX8, "requireBoat", "(I)V"⟩
abbrev cX8_requireCrew : ByteArray := prog_1_method_47_code
def yX8_requireCrew : MethodName := ⟨RX8, "requireCrew", "(I)V"⟩
abbrev cX8_requireOut : ByteArray := prog_1_method_48_code
def yX8_requireOut : MethodName := ⟨RX8, "requireOut", "(I)V"⟩
abbrev cX8_heightAt : ByteArray := prog_1_method_49_code
def yX8_heightAt : MethodName := ⟨RX8, "heightAt", "(I)I"⟩
abbrev cX8_isIn : ByteArray := prog_1_method_50_code
def yX8_isIn : MethodName := ⟨RX8, "isIn", "(II)Z"⟩
def RX9 : String := "BoatRotaModel"
def TX9 : u_T := fun k => match k with
  | _ => ("", "", "", false)
def tyX9 : Nat → FieldType := fun k => match k with
  | _ => .int
theorem nmX9 : ∀ a, a < 0 → ∀ b, b < 0 → a ≠ b → (TX9 a).2.1 ≠ (TX9 b).2.1 := by decide +kernel
theorem tyX9_ok : ∀ k, k < 0 → parseFieldDescriptor (TX9 k).2.2.1 = some (tyX9 k) := by decide +kernel
def RJ5 : String := "java/lang/AbstractStringBuilder"
def TJ5 : u_T := fun k => match k with
  | _ => ("", "", "", false)
def tyJ5 : Nat → FieldType := fun k => match k with
  | _ => .int
theorem nmJ5 : ∀ a, a < 0 → ∀ b, b < 0 → a ≠ b → (TJ5 a).2.1 ≠ (TJ5 b).2.1 := by decide +kernel
theorem tyJ5_ok : ∀ k, k < 0 → parseFieldDescriptor (TJ5 k).2.2.1 = some (tyJ5 k) := by decide +kernel
abbrev cJ5_init_d00df : ByteArray := prog_13_method_2_code
def yJ5_init_d00df : MethodName := ⟨RJ5, "<init>", "(I)V"⟩
abbrev cJ5_length_8abf5 : ByteArray := prog_13_method_6_code
def yJ5_length_8abf5 : MethodName := ⟨RJ5, "length", "()I"⟩
abbrev cJ5_ensureCapacityInternal_d00df : ByteArray := prog_13_method_9_code
def yJ5_ensureCapacityInternal_d00df : MethodName := ⟨RJ5, "ensureCapacityInternal", "(I)V"⟩
abbrev cJ5_newCapacity_0f7a4 : ByteArray := prog_13_method_10_code
def yJ5_newCapacity_0f7a4 : MethodName := ⟨RJ5, "newCapacity", "(I)I"⟩
abbrev cJ5_inflate_da8c8 : ByteArray := prog_13_method_11_code
def yJ5_inflate_da8c8 : MethodName := ⟨RJ5, "inflate", "()V"⟩
abbrev cJ5_append_cf1ce : ByteArray := prog_13_method_22_code
def yJ5_append_cf1ce : MethodName := ⟨RJ5, "append", "(Ljava/lang/String;)Ljava/lang/AbstractStringBuilder;"⟩
abbrev cJ5_appendNull_278bc : ByteArray := prog_13_method_26_code
def yJ5_appendNull_278bc : MethodName := ⟨RJ5, "appendNull", "()Ljava/lang/AbstractStringBuilder;"⟩
abbrev cJ5_append_c97b9 : ByteArray := prog_13_method_32_code
def yJ5_append_c97b9 : MethodName := ⟨RJ5, "append", "(I)Ljava/lang/AbstractStringBuilder;"⟩
abbrev cJ5_getValue_6d5f1 : ByteArray := prog_13_method_64_code
def yJ5_getValue_6d5f1 : MethodName := ⟨RJ5, "getValue", "()[B"⟩
abbrev cJ5_isLatin1_aae02 : ByteArray := prog_13_method_68_code
def yJ5_isLatin1_aae02 : MethodName := ⟨RJ5, "isLatin1", "()Z"⟩
abbrev cJ5_inflateIfNeededFor_a7421 : ByteArray := prog_13_method_71_code
def yJ5_inflateIfNeededFor_a7421 : MethodName := ⟨RJ5, "inflateIfNeededFor", "(Ljava/lang/String;)V"⟩
abbrev cJ5_putStringAt_47b60 : ByteArray := prog_13_method_73_code
def yJ5_putStringAt_47b60 : MethodName := ⟨RJ5, "putStringAt", "(ILjava/lang/String;)V"⟩
def RJx29ce0 : String := "java/lang/Enum"
def TJx29ce0 : u_T := fun k => match k with
  | _ => ("", "", "", false)
def tyJx29ce0 : Nat → FieldType := fun k => match k with
  | _ => .int
theorem nmJx29ce0 : ∀ a, a < 0 → ∀ b, b < 0 → a ≠ b → (TJx29ce0 a).2.1 ≠ (TJx29ce0 b).2.1 := by decide +kernel
theorem tyJx29ce0_ok : ∀ k, k < 0 → parseFieldDescriptor (TJx29ce0 k).2.2.1 = some (tyJx29ce0 k) := by decide +kernel
abbrev cJx29ce0_ordinal_8abf5 : ByteArray := prog_19_method_2_code
def yJx29ce0_ordinal_8abf5 : MethodName := ⟨RJx29ce0, "ordinal", "()I"⟩
def RJ6 : String := "java/lang/Integer"
def TJ6 : u_T := fun k => match k with
  | _ => ("", "", "", false)
def tyJ6 : Nat → FieldType := fun k => match k with
  | _ => .int
theorem nmJ6 : ∀ a, a < 0 → ∀ b, b < 0 → a ≠ b → (TJ6 a).2.1 ≠ (TJ6 b).2.1 := by decide +kernel
theorem tyJ6_ok : ∀ k, k < 0 → parseFieldDescriptor (TJ6 k).2.2.1 = some (tyJ6 k) := by decide +kernel
abbrev cJ6_getChars_ba4f3 : ByteArray := prog_24_method_12_code
def yJ6_getChars_ba4f3 : MethodName := ⟨RJ6, "getChars", "(II[B)I"⟩
abbrev cJ6_stringSize_0f7a4 : ByteArray := prog_24_method_13_code
def yJ6_stringSize_0f7a4 : MethodName := ⟨RJ6, "stringSize", "(I)I"⟩
abbrev cJ6_bitCount_0f7a4 : ByteArray := prog_24_method_49_code
def yJ6_bitCount_0f7a4 : MethodName := ⟨RJ6, "bitCount", "(I)I"⟩
def RJ9 : String := "java/lang/Math"
def TJ9 : u_T := fun k => match k with
  | _ => ("", "", "", false)
def tyJ9 : Nat → FieldType := fun k => match k with
  | _ => .int
theorem nmJ9 : ∀ a, a < 0 → ∀ b, b < 0 → a ≠ b → (TJ9 a).2.1 ≠ (TJ9 b).2.1 := by decide +kernel
theorem tyJ9_ok : ∀ k, k < 0 → parseFieldDescriptor (TJ9 k).2.2.1 = some (tyJ9 k) := by decide +kernel
abbrev cJ9_max_7cf53 : ByteArray := prog_25_method_65_code
def yJ9_max_7cf53 : MethodName := ⟨RJ9, "max", "(II)I"⟩
abbrev cJ9_min_7cf53 : ByteArray := prog_25_method_69_code
def yJ9_min_7cf53 : MethodName := ⟨RJ9, "min", "(II)I"⟩
def RJ0 : String := "java/lang/String"
def TJ0 : u_T := fun k => match k with
  | 0 => ("java/lang/String", "value", "[B", true)
  | 1 => ("java/lang/String", "coder", "B", true)
  | 2 => ("java/lang/String", "hash", "I", false)
  | _ => ("java/lang/String", "hashIsZero", "Z", false)
def tyJ0 : Nat → FieldType := fun k => match k with
  | 0 => .array .byte
  | 1 => .byte
  | 2 => .int
  | _ => .boolean
theorem nmJ0 : ∀ a, a < 4 → ∀ b, b < 4 → a ≠ b → (TJ0 a).2.1 ≠ (TJ0 b).2.1 := by decide +kernel
theorem tyJ0_ok : ∀ k, k < 4 → parseFieldDescriptor (TJ0 k).2.2.1 = some (tyJ0 k) := by decide +kernel
abbrev cJ0_init_81219 : ByteArray := prog_28_method_53_code
def yJ0_init_81219 : MethodName := ⟨RJ0, "<init>", "(Ljava/lang/StringBuilder;)V"⟩
abbrev cJ0_length_8abf5 : ByteArray := prog_28_method_54_code
def yJ0_length_8abf5 : MethodName := ⟨RJ0, "length", "()I"⟩
abbrev cJ0_charAt_5068e : ByteArray := prog_28_method_56_code
def yJ0_charAt_5068e : MethodName := ⟨RJ0, "charAt", "(I)C"⟩
abbrev cJ0_getBytes_840e7 : ByteArray := prog_28_method_147_code
def yJ0_getBytes_840e7 : MethodName := ⟨RJ0, "getBytes", "([BIB)V"⟩
abbrev cJ0_init_db425 : ByteArray := prog_28_method_150_code
def yJ0_init_db425 : MethodName := ⟨RJ0, "<init>", "(Ljava/lang/AbstractStringBuilder;Ljava/lang/Void;)V"⟩
abbrev cJ0_coder_7d493 : ByteArray := prog_28_method_152_code
def yJ0_coder_7d493 : MethodName := ⟨RJ0, "coder", "()B"⟩
abbrev cJ0_isLatin1_aae02 : ByteArray := prog_28_method_154_code
def yJ0_isLatin1_aae02 : MethodName := ⟨RJ0, "isLatin1", "()Z"⟩
abbrev cJ0_checkIndex_df160 : ByteArray := prog_28_method_155_code
def yJ0_checkIndex_df160 : MethodName := ⟨RJ0, "checkIndex", "(II)V"⟩
abbrev cJ0_checkBoundsOffCount_cabcc : ByteArray := prog_28_method_157_code
def yJ0_checkBoundsOffCount_cabcc : MethodName := ⟨RJ0, "checkBoundsOffCount", "(III)I"⟩
abbrev cJ0_checkBoundsBeginEnd_23922 : ByteArray := prog_28_method_158_code
def yJ0_checkBoundsBeginEnd_23922 : MethodName := ⟨RJ0, "checkBoundsBeginEnd", "(III)V"⟩
def RJ4 : String := "java/lang/StringBuilder"
def TJ4 : u_T := fun k => match k with
  | 0 => ("java/lang/AbstractStringBuilder", "value", "[B", false)
  | 1 => ("java/lang/AbstractStringBuilder", "coder", "B", false)
  | 2 => ("java/lang/AbstractStringBuilder", "maybeLatin1", "Z", false)
  | _ => ("java/lang/AbstractStringBuilder", "count", "I", false)
def tyJ4 : Nat → FieldType := fun k => match k with
  | 0 => .array .byte
  | 1 => .byte
  | 2 => .boolean
  | _ => .int
theorem nmJ4 : ∀ a, a < 4 → ∀ b, b < 4 → a ≠ b → (TJ4 a).2.1 ≠ (TJ4 b).2.1 := by decide +kernel
theorem tyJ4_ok : ∀ k, k < 4 → parseFieldDescriptor (TJ4 k).2.2.1 = some (tyJ4 k) := by decide +kernel
abbrev cJ4_init_da8c8 : ByteArray := prog_29_method_1_code
def yJ4_init_da8c8 : MethodName := ⟨RJ4, "<init>", "()V"⟩
abbrev cJ4_append_15ec4 : ByteArray := prog_29_method_7_code
def yJ4_append_15ec4 : MethodName := ⟨RJ4, "append", "(Ljava/lang/String;)Ljava/lang/StringBuilder;"⟩
abbrev cJ4_append_bf812 : ByteArray := prog_29_method_15_code
def yJ4_append_bf812 : MethodName := ⟨RJ4, "append", "(I)Ljava/lang/StringBuilder;"⟩
abbrev cJ4_toString_0e30d : ByteArray := prog_29_method_42_code
def yJ4_toString_0e30d : MethodName := ⟨RJ4, "toString", "()Ljava/lang/String;"⟩
abbrev cJ4_length_8abf5 : ByteArray := prog_29_method_93_code
def yJ4_length_8abf5 : MethodName := ⟨RJ4, "length", "()I"⟩
def RJ1 : String := "java/lang/StringLatin1"
def TJ1 : u_T := fun k => match k with
  | _ => ("", "", "", false)
def tyJ1 : Nat → FieldType := fun k => match k with
  | _ => .int
theorem nmJ1 : ∀ a, a < 0 → ∀ b, b < 0 → a ≠ b → (TJ1 a).2.1 ≠ (TJ1 b).2.1 := by decide +kernel
theorem tyJ1_ok : ∀ k, k < 0 → parseFieldDescriptor (TJ1 k).2.2.1 = some (tyJ1 k) := by decide +kernel
abbrev cJ1_charAt_3b067 : ByteArray := prog_30_method_2_code
def yJ1_charAt_3b067 : MethodName := ⟨RJ1, "charAt", "([BI)C"⟩
abbrev cJ1_inflate_0e8fd : ByteArray := prog_30_method_50_code
def yJ1_inflate_0e8fd : MethodName := ⟨RJ1, "inflate", "([BI[BII)V"⟩
def RJ7 : String := "java/util/Arrays"
def TJ7 : u_T := fun k => match k with
  | _ => ("", "", "", false)
def tyJ7 : Nat → FieldType := fun k => match k with
  | _ => .int
theorem nmJ7 : ∀ a, a < 0 → ∀ b, b < 0 → a ≠ b → (TJ7 a).2.1 ≠ (TJ7 b).2.1 := by decide +kernel
theorem tyJ7_ok : ∀ k, k < 0 → parseFieldDescriptor (TJ7 k).2.2.1 = some (tyJ7 k) := by decide +kernel
abbrev cJ7_copyOf_9075b : ByteArray := prog_37_method_121_code
def yJ7_copyOf_9075b : MethodName := ⟨RJ7, "copyOf", "([BI)[B"⟩
abbrev cJ7_checkLength_df160 : ByteArray := prog_37_method_131_code
def yJ7_checkLength_df160 : MethodName := ⟨RJ7, "checkLength", "(II)V"⟩
abbrev cJ7_copyOfRange_39247 : ByteArray := prog_37_method_132_code
def yJ7_copyOfRange_39247 : MethodName := ⟨RJ7, "copyOfRange", "([BII)[B"⟩
abbrev cJ7_copyOfRangeByte_39247 : ByteArray := prog_37_method_133_code
def yJ7_copyOfRangeByte_39247 : MethodName := ⟨RJ7, "copyOfRangeByte", "([BII)[B"⟩
def RJ3 : String := "jdk/internal/util/Preconditions"
def TJ3 : u_T := fun k => match k with
  | _ => ("", "", "", false)
def tyJ3 : Nat → FieldType := fun k => match k with
  | _ => .int
theorem nmJ3 : ∀ a, a < 0 → ∀ b, b < 0 → a ≠ b → (TJ3 a).2.1 ≠ (TJ3 b).2.1 := by decide +kernel
theorem tyJ3_ok : ∀ k, k < 0 → parseFieldDescriptor (TJ3 k).2.2.1 = some (tyJ3 k) := by decide +kernel
abbrev cJ3_checkIndex_8e157 : ByteArray := prog_40_method_11_code
def yJ3_checkIndex_8e157 : MethodName := ⟨RJ3, "checkIndex", "(IILjava/util/function/BiFunction;)I"⟩
abbrev cJ3_checkFromToIndex_8c36e : ByteArray := prog_40_method_12_code
def yJ3_checkFromToIndex_8c36e : MethodName := ⟨RJ3, "checkFromToIndex", "(IIILjava/util/function/BiFunction;)I"⟩
abbrev cJ3_checkFromIndexSize_8c36e : ByteArray := prog_40_method_13_code
def yJ3_checkFromIndexSize_8c36e : MethodName := ⟨RJ3, "checkFromIndexSize", "(IIILjava/util/function/BiFunction;)I"⟩
def RL : String := "BoatRotaLaw"
abbrev cL_cell : ByteArray := method_2_code
def yL_cell : MethodName := ⟨RL, "cell", "([II)I"⟩
abbrev cL_member : ByteArray := method_3_code
def yL_member : MethodName := ⟨RL, "member", "(LBoatRota;I)I"⟩
abbrev cL_leave : ByteArray := method_4_code
def yL_leave : MethodName := ⟨RL, "leave", "(LBoatRota;I)I"⟩
abbrev cL_train : ByteArray := method_5_code
def yL_train : MethodName := ⟨RL, "train", "(LBoatRota;I)I"⟩
abbrev cL_boat : ByteArray := method_6_code
def yL_boat : MethodName := ⟨RL, "boat", "(LBoatRota;II)I"⟩
abbrev cL_call : ByteArray := method_7_code
def yL_call : MethodName := ⟨RL, "call", "(LBoatRota;II)I"⟩
abbrev cL_borrow : ByteArray := method_8_code
def yL_borrow : MethodName := ⟨RL, "borrow", "(LBoatRota;II)I"⟩
abbrev cL_giveBack : ByteArray := method_9_code
def yL_giveBack : MethodName := ⟨RL, "giveBack", "(LBoatRota;I)I"⟩
abbrev cL_limit : ByteArray := method_10_code
def yL_limit : MethodName := ⟨RL, "limit", "(LBoatRota;I)I"⟩
abbrev cL_pass : ByteArray := method_11_code
def yL_pass : MethodName := ⟨RL, "pass", "(LBoatRota;I)I"⟩
abbrev cL_wouldGo : ByteArray := method_12_code
def yL_wouldGo : MethodName := ⟨RL, "wouldGo", "(LBoatRota;I)I"⟩
abbrev cL_weariness : ByteArray := method_13_code
def yL_weariness : MethodName := ⟨RL, "weariness", "(LBoatRota;I)I"⟩
abbrev cL_wearinessAgain : ByteArray := method_14_code
def yL_wearinessAgain : MethodName := ⟨RL, "wearinessAgain", "(LBoatRota;I)I"⟩
abbrev cL_callableIn : ByteArray := method_15_code
def yL_callableIn : MethodName := ⟨RL, "callableIn", "(LBoatRota;I)I"⟩
abbrev cL_homeIn : ByteArray := method_16_code
def yL_homeIn : MethodName := ⟨RL, "homeIn", "(LBoatRota;I)I"⟩
abbrev cL_homeInAgain : ByteArray := method_17_code
def yL_homeInAgain : MethodName := ⟨RL, "homeInAgain", "(LBoatRota;I)I"⟩
abbrev cL_least : ByteArray := method_18_code
def yL_least : MethodName := ⟨RL, "least", "(LBoatRota;I)I"⟩
abbrev cL_busiest : ByteArray := method_19_code
def yL_busiest : MethodName := ⟨RL, "busiest", "(LBoatRota;I)I"⟩
abbrev cL_commands : ByteArray := method_20_code
def yL_commands : MethodName := ⟨RL, "commands", "(LBoatRota;)I"⟩
abbrev cL_undo : ByteArray := method_21_code
def yL_undo : MethodName := ⟨RL, "undo", "(LBoatRota;)I"⟩
abbrev cL_restore : ByteArray := method_22_code
def yL_restore : MethodName := ⟨RL, "restore", "(LBoatRota;)I"⟩
abbrev cL_in : ByteArray := method_23_code
def yL_in : MethodName := ⟨RL, "in", "([III)I"⟩
abbrev cL_does : ByteArray := method_24_code
def yL_does : MethodName := ⟨RL, "does", "(LBoatRota;Ljava/lang/String;)I"⟩
abbrev cL_bits : ByteArray := method_25_code
def yL_bits : MethodName := ⟨RL, "bits", "(I)I"⟩
abbrev cL_begun : ByteArray := method_26_code
def yL_begun : MethodName := ⟨RL, "begun", "([I)LBoatRota;"⟩
abbrev cL_acts : ByteArray := method_27_code
def yL_acts : MethodName := ⟨RL, "acts", "(LBoatRota;[II)I"⟩
abbrev cL_seen : ByteArray := method_28_code
def yL_seen : MethodName := ⟨RL, "seen", "(LBoatRota;)[I"⟩
abbrev cL_areAlike : ByteArray := method_29_code
def yL_areAlike : MethodName := ⟨RL, "areAlike", "([I[I)Z"⟩
abbrev cL_isWell : ByteArray := method_30_code
def yL_isWell : MethodName := ⟨RL, "isWell", "(LBoatRota;)Z"⟩
abbrev cL_law : ByteArray := code
def yL_law : MethodName := ⟨RL, "law", "([I)Z"⟩
end
section
def Dx (cc : ByteArray) (pc : Nat) (i : Instr) (n : Nat) (pc' : Nat) : Prop := decode cc pc = .ok (i, n) ∧ pc + n = pc'
def Dc (cc : ByteArray) (pc : Nat) (o : Int → Instr) (tgt pc' : Nat) : Prop := ∃ off : Int, decode cc pc = .ok (o off, 3) ∧ (pc : Int) + off = (tgt : Int) ∧ pc + 3 = pc'
theorem dX1_init_0 : Dx cX1_init 0 (.aload_n 0) 1 1 := ⟨by decide +kernel, rfl⟩
theorem dX1_init_1 : Dx cX1_init 1 (.invokespecial 3) 3 4 := ⟨by decide +kernel, rfl⟩
theorem dX1_init_4 : Dx cX1_init 4 (.return_) 1 5 := ⟨by decide +kernel, rfl⟩
theorem dX1_start_0 : Dx cX1_start 0 (.aload_n 0) 1 1 := ⟨by decide +kernel, rfl⟩
theorem dX1_start_1 : Dx cX1_start 1 (.iload_n 1) 1 2 := ⟨by decide +kernel, rfl⟩
theorem dX1_start_2 : Dx cX1_start 2 (.putfield 9) 3 5 := ⟨by decide +kernel, rfl⟩
theorem dX1_start_5 : Dx cX1_start 5 (.aload_n 0) 1 6 := ⟨by decide +kernel, rfl⟩
theorem dX1_start_6 : Dx cX1_start 6 (.iload_n 2) 1 7 := ⟨by decide +kernel, rfl⟩
theorem dX1_start_7 : Dx cX1_start 7 (.putfield 15) 3 10 := ⟨by decide +kernel, rfl⟩
theorem dX1_start_10 : Dx cX1_start 10 (.aload_n 0) 1 11 := ⟨by decide +kernel, rfl⟩
theorem dX1_start_11 : Dx cX1_start 11 (.iconst (-1)) 1 12 := ⟨by decide +kernel, rfl⟩
theorem dX1_start_12 : Dx cX1_start 12 (.putfield 18) 3 15 := ⟨by decide +kernel, rfl⟩
theorem dX1_start_15 : Dx cX1_start 15 (.aload_n 0) 1 16 := ⟨by decide +kernel, rfl⟩
theorem dX1_start_16 : Dx cX1_start 16 (.iconst 0) 1 17 := ⟨by decide +kernel, rfl⟩
theorem dX1_start_17 : Dx cX1_start 17 (.putfield 21) 3 20 := ⟨by decide +kernel, rfl⟩
theorem dX1_start_20 : Dx cX1_start 20 (.aload_n 0) 1 21 := ⟨by decide +kernel, rfl⟩
theorem dX1_start_21 : Dx cX1_start 21 (.iconst 0) 1 22 := ⟨by decide +kernel, rfl⟩
theorem dX1_start_22 : Dx cX1_start 22 (.putfield 24) 3 25 := ⟨by decide +kernel, rfl⟩
theorem dX1_start_25 : Dx cX1_start 25 (.aload_n 0) 1 26 := ⟨by decide +kernel, rfl⟩
theorem dX1_start_26 : Dx cX1_start 26 (.iconst 0) 1 27 := ⟨by decide +kernel, rfl⟩
theorem dX1_start_27 : Dx cX1_start 27 (.putfield 27) 3 30 := ⟨by decide +kernel, rfl⟩
theorem dX1_start_30 : Dx cX1_start 30 (.return_) 1 31 := ⟨by decide +kernel, rfl⟩
theorem dX1_isOut_0 : Dx cX1_isOut 0 (.aload_n 0) 1 1 := ⟨by decide +kernel, rfl⟩
theorem dX1_isOut_1 : Dx cX1_isOut 1 (.getfield 18) 3 4 := ⟨by decide +kernel, rfl⟩
theorem dX1_isOut_4 : Dx cX1_isOut 4 (.iconst (-1)) 1 5 := ⟨by decide +kernel, rfl⟩
theorem dX1_isOut_5 : Dc cX1_isOut 5 (fun o => .if_icmp .eq o) 12 8 := ⟨7, by decide +kernel, by decide, rfl⟩
theorem dX1_isOut_8 : Dx cX1_isOut 8 (.iconst 1) 1 9 := ⟨by decide +kernel, rfl⟩
theorem dX1_isOut_9 : Dc cX1_isOut 9 (fun o => .goto o) 13 12 := ⟨4, by decide +kernel, by decide, rfl⟩
theorem dX1_isOut_12 : Dx cX1_isOut 12 (.iconst 0) 1 13 := ⟨by decide +kernel, rfl⟩
theorem dX1_isOut_13 : Dx cX1_isOut 13 (.ireturn) 1 14 := ⟨by decide +kernel, rfl⟩
theorem dX1_oarsNeeded_0 : Dx cX1_oarsNeeded 0 (.aload_n 0) 1 1 := ⟨by decide +kernel, rfl⟩
theorem dX1_oarsNeeded_1 : Dx cX1_oarsNeeded 1 (.getfield 15) 3 4 := ⟨by decide +kernel, rfl⟩
theorem dX1_oarsNeeded_4 : Dx cX1_oarsNeeded 4 (.iconst 1) 1 5 := ⟨by decide +kernel, rfl⟩
theorem dX1_oarsNeeded_5 : Dx cX1_oarsNeeded 5 (.isub) 1 6 := ⟨by decide +kernel, rfl⟩
theorem dX1_oarsNeeded_6 : Dx cX1_oarsNeeded 6 (.ireturn) 1 7 := ⟨by decide +kernel, rfl⟩
theorem dX1_skilledNeeded_0 : Dx cX1_skilledNeeded 0 (.aload_n 0) 1 1 := ⟨by decide +kernel, rfl⟩
theorem dX1_skilledNeeded_1 : Dx cX1_skilledNeeded 1 (.getfield 15) 3 4 := ⟨by decide +kernel, rfl⟩
theorem dX1_skilledNeeded_4 : Dx cX1_skilledNeeded 4 (.iconst 1) 1 5 := ⟨by decide +kernel, rfl⟩
theorem dX1_skilledNeeded_5 : Dx cX1_skilledNeeded 5 (.isub) 1 6 := ⟨by decide +kernel, rfl⟩
theorem dX1_skilledNeeded_6 : Dx cX1_skilledNeeded 6 (.iconst 2) 1 7 := ⟨by decide +kernel, rfl⟩
theorem dX1_skilledNeeded_7 : Dx cX1_skilledNeeded 7 (.idiv) 1 8 := ⟨by decide +kernel, rfl⟩
theorem dX1_skilledNeeded_8 : Dx cX1_skilledNeeded 8 (.ireturn) 1 9 := ⟨by decide +kernel, rfl⟩
theorem dX1_copyFrom_0 : Dx cX1_copyFrom 0 (.aload_n 0) 1 1 := ⟨by decide +kernel, rfl⟩
theorem dX1_copyFrom_1 : Dx cX1_copyFrom 1 (.aload_n 1) 1 2 := ⟨by decide +kernel, rfl⟩
theorem dX1_copyFrom_2 : Dx cX1_copyFrom 2 (.getfield 9) 3 5 := ⟨by decide +kernel, rfl⟩
theorem dX1_copyFrom_5 : Dx cX1_copyFrom 5 (.putfield 9) 3 8 := ⟨by decide +kernel, rfl⟩
theorem dX1_copyFrom_8 : Dx cX1_copyFrom 8 (.aload_n 0) 1 9 := ⟨by decide +kernel, rfl⟩
theorem dX1_copyFrom_9 : Dx cX1_copyFrom 9 (.aload_n 1) 1 10 := ⟨by decide +kernel, rfl⟩
theorem dX1_copyFrom_10 : Dx cX1_copyFrom 10 (.getfield 15) 3 13 := ⟨by decide +kernel, rfl⟩
theorem dX1_copyFrom_13 : Dx cX1_copyFrom 13 (.putfield 15) 3 16 := ⟨by decide +kernel, rfl⟩
theorem dX1_copyFrom_16 : Dx cX1_copyFrom 16 (.aload_n 0) 1 17 := ⟨by decide +kernel, rfl⟩
theorem dX1_copyFrom_17 : Dx cX1_copyFrom 17 (.aload_n 1) 1 18 := ⟨by decide +kernel, rfl⟩
theorem dX1_copyFrom_18 : Dx cX1_copyFrom 18 (.getfield 18) 3 21 := ⟨by decide +kernel, rfl⟩
theorem dX1_copyFrom_21 : Dx cX1_copyFrom 21 (.putfield 18) 3 24 := ⟨by decide +kernel, rfl⟩
theorem dX1_copyFrom_24 : Dx cX1_copyFrom 24 (.aload_n 0) 1 25 := ⟨by decide +kernel, rfl⟩
theorem dX1_copyFrom_25 : Dx cX1_copyFrom 25 (.aload_n 1) 1 26 := ⟨by decide +kernel, rfl⟩
theorem dX1_copyFrom_26 : Dx cX1_copyFrom 26 (.getfield 21) 3 29 := ⟨by decide +kernel, rfl⟩
theorem dX1_copyFrom_29 : Dx cX1_copyFrom 29 (.putfield 21) 3 32 := ⟨by decide +kernel, rfl⟩
theorem dX1_copyFrom_32 : Dx cX1_copyFrom 32 (.aload_n 0) 1 33 := ⟨by decide +kernel, rfl⟩
theorem dX1_copyFrom_33 : Dx cX1_copyFrom 33 (.aload_n 1) 1 34 := ⟨by decide +kernel, rfl⟩
theorem dX1_copyFrom_34 : Dx cX1_copyFrom 34 (.getfield 24) 3 37 := ⟨by decide +kernel, rfl⟩
theorem dX1_copyFrom_37 : Dx cX1_copyFrom 37 (.putfield 24) 3 40 := ⟨by decide +kernel, rfl⟩
theorem dX1_copyFrom_40 : Dx cX1_copyFrom 40 (.aload_n 0) 1 41 := ⟨by decide +kernel, rfl⟩
theorem dX1_copyFrom_41 : Dx cX1_copyFrom 41 (.aload_n 1) 1 42 := ⟨by decide +kernel, rfl⟩
theorem dX1_copyFrom_42 : Dx cX1_copyFrom 42 (.getfield 27) 3 45 := ⟨by decide +kernel, rfl⟩
theorem dX1_copyFrom_45 : Dx cX1_copyFrom 45 (.putfield 27) 3 48 := ⟨by decide +kernel, rfl⟩
theorem dX1_copyFrom_48 : Dx cX1_copyFrom 48 (.return_) 1 49 := ⟨by decide +kernel, rfl⟩
theorem dX3_init_0 : Dx cX3_init 0 (.aload_n 0) 1 1 := ⟨by decide +kernel, rfl⟩
theorem dX3_init_1 : Dx cX3_init 1 (.invokespecial 1) 3 4 := ⟨by decide +kernel, rfl⟩
theorem dX3_init_4 : Dx cX3_init 4 (.return_) 1 5 := ⟨by decide +kernel, rfl⟩
theorem dX3_start_0 : Dx cX3_start 0 (.aload_n 0) 1 1 := ⟨by decide +kernel, rfl⟩
theorem dX3_start_1 : Dx cX3_start 1 (.iload_n 1) 1 2 := ⟨by decide +kernel, rfl⟩
theorem dX3_start_2 : Dx cX3_start 2 (.putfield 7) 3 5 := ⟨by decide +kernel, rfl⟩
theorem dX3_start_5 : Dx cX3_start 5 (.aload_n 0) 1 6 := ⟨by decide +kernel, rfl⟩
theorem dX3_start_6 : Dx cX3_start 6 (.iload_n 2) 1 7 := ⟨by decide +kernel, rfl⟩
theorem dX3_start_7 : Dx cX3_start 7 (.putfield 13) 3 10 := ⟨by decide +kernel, rfl⟩
theorem dX3_start_10 : Dx cX3_start 10 (.aload_n 0) 1 11 := ⟨by decide +kernel, rfl⟩
theorem dX3_start_11 : Dx cX3_start 11 (.iconst 0) 1 12 := ⟨by decide +kernel, rfl⟩
theorem dX3_start_12 : Dx cX3_start 12 (.putfield 16) 3 15 := ⟨by decide +kernel, rfl⟩
theorem dX3_start_15 : Dx cX3_start 15 (.return_) 1 16 := ⟨by decide +kernel, rfl⟩
theorem dX3_copyFrom_0 : Dx cX3_copyFrom 0 (.aload_n 0) 1 1 := ⟨by decide +kernel, rfl⟩
theorem dX3_copyFrom_1 : Dx cX3_copyFrom 1 (.aload_n 1) 1 2 := ⟨by decide +kernel, rfl⟩
theorem dX3_copyFrom_2 : Dx cX3_copyFrom 2 (.getfield 7) 3 5 := ⟨by decide +kernel, rfl⟩
theorem dX3_copyFrom_5 : Dx cX3_copyFrom 5 (.putfield 7) 3 8 := ⟨by decide +kernel, rfl⟩
theorem dX3_copyFrom_8 : Dx cX3_copyFrom 8 (.aload_n 0) 1 9 := ⟨by decide +kernel, rfl⟩
theorem dX3_copyFrom_9 : Dx cX3_copyFrom 9 (.aload_n 1) 1 10 := ⟨by decide +kernel, rfl⟩
theorem dX3_copyFrom_10 : Dx cX3_copyFrom 10 (.getfield 13) 3 13 := ⟨by decide +kernel, rfl⟩
theorem dX3_copyFrom_13 : Dx cX3_copyFrom 13 (.putfield 13) 3 16 := ⟨by decide +kernel, rfl⟩
theorem dX3_copyFrom_16 : Dx cX3_copyFrom 16 (.aload_n 0) 1 17 := ⟨by decide +kernel, rfl⟩
theorem dX3_copyFrom_17 : Dx cX3_copyFrom 17 (.aload_n 1) 1 18 := ⟨by decide +kernel, rfl⟩
theorem dX3_copyFrom_18 : Dx cX3_copyFrom 18 (.getfield 16) 3 21 := ⟨by decide +kernel, rfl⟩
theorem dX3_copyFrom_21 : Dx cX3_copyFrom 21 (.putfield 16) 3 24 := ⟨by decide +kernel, rfl⟩
theorem dX3_copyFrom_24 : Dx cX3_copyFrom 24 (.return_) 1 25 := ⟨by decide +kernel, rfl⟩
theorem dX4_init_0 : Dx cX4_init 0 (.aload_n 0) 1 1 := ⟨by decide +kernel, rfl⟩
theorem dX4_init_1 : Dx cX4_init 1 (.invokespecial 3) 3 4 := ⟨by decide +kernel, rfl⟩
theorem dX4_init_4 : Dx cX4_init 4 (.return_) 1 5 := ⟨by decide +kernel, rfl⟩
theorem dX4_start_0 : Dx cX4_start 0 (.aload_n 0) 1 1 := ⟨by decide +kernel, rfl⟩
theorem dX4_start_1 : Dx cX4_start 1 (.iload_n 1) 1 2 := ⟨by decide +kernel, rfl⟩
theorem dX4_start_2 : Dx cX4_start 2 (.putfield 9) 3 5 := ⟨by decide +kernel, rfl⟩
theorem dX4_start_5 : Dx cX4_start 5 (.aload_n 0) 1 6 := ⟨by decide +kernel, rfl⟩
theorem dX4_start_6 : Dx cX4_start 6 (.iconst (-1)) 1 7 := ⟨by decide +kernel, rfl⟩
theorem dX4_start_7 : Dx cX4_start 7 (.putfield 15) 3 10 := ⟨by decide +kernel, rfl⟩
theorem dX4_start_10 : Dx cX4_start 10 (.aload_n 0) 1 11 := ⟨by decide +kernel, rfl⟩
theorem dX4_start_11 : Dx cX4_start 11 (.iconst 0) 1 12 := ⟨by decide +kernel, rfl⟩
theorem dX4_start_12 : Dx cX4_start 12 (.putfield 18) 3 15 := ⟨by decide +kernel, rfl⟩
theorem dX4_start_15 : Dx cX4_start 15 (.aload_n 0) 1 16 := ⟨by decide +kernel, rfl⟩
theorem dX4_start_16 : Dx cX4_start 16 (.iconst 0) 1 17 := ⟨by decide +kernel, rfl⟩
theorem dX4_start_17 : Dx cX4_start 17 (.putfield 21) 3 20 := ⟨by decide +kernel, rfl⟩
theorem dX4_start_20 : Dx cX4_start 20 (.aload_n 0) 1 21 := ⟨by decide +kernel, rfl⟩
theorem dX4_start_21 : Dx cX4_start 21 (.iconst 0) 1 22 := ⟨by decide +kernel, rfl⟩
theorem dX4_start_22 : Dx cX4_start 22 (.putfield 24) 3 25 := ⟨by decide +kernel, rfl⟩
theorem dX4_start_25 : Dx cX4_start 25 (.aload_n 0) 1 26 := ⟨by decide +kernel, rfl⟩
theorem dX4_start_26 : Dx cX4_start 26 (.iconst 0) 1 27 := ⟨by decide +kernel, rfl⟩
theorem dX4_start_27 : Dx cX4_start 27 (.putfield 27) 3 30 := ⟨by decide +kernel, rfl⟩
theorem dX4_start_30 : Dx cX4_start 30 (.return_) 1 31 := ⟨by decide +kernel, rfl⟩
theorem dX4_isOut_0 : Dx cX4_isOut 0 (.aload_n 0) 1 1 := ⟨by decide +kernel, rfl⟩
theorem dX4_isOut_1 : Dx cX4_isOut 1 (.getfield 15) 3 4 := ⟨by decide +kernel, rfl⟩
theorem dX4_isOut_4 : Dc cX4_isOut 4 (fun o => .ifCond .lt o) 11 7 := ⟨7, by decide +kernel, by decide, rfl⟩
theorem dX4_isOut_7 : Dx cX4_isOut 7 (.iconst 1) 1 8 := ⟨by decide +kernel, rfl⟩
theorem dX4_isOut_8 : Dc cX4_isOut 8 (fun o => .goto o) 12 11 := ⟨4, by decide +kernel, by decide, rfl⟩
theorem dX4_isOut_11 : Dx cX4_isOut 11 (.iconst 0) 1 12 := ⟨by decide +kernel, rfl⟩
theorem dX4_isOut_12 : Dx cX4_isOut 12 (.ireturn) 1 13 := ⟨by decide +kernel, rfl⟩
theorem dX4_isAble_0 : Dx cX4_isAble 0 (.aload_n 0) 1 1 := ⟨by decide +kernel, rfl⟩
theorem dX4_isAble_1 : Dx cX4_isAble 1 (.getfield 15) 3 4 := ⟨by decide +kernel, rfl⟩
theorem dX4_isAble_4 : Dx cX4_isAble 4 (.iconst (-1)) 1 5 := ⟨by decide +kernel, rfl⟩
theorem dX4_isAble_5 : Dc cX4_isAble 5 (fun o => .if_icmp .ne o) 20 8 := ⟨15, by decide +kernel, by decide, rfl⟩
theorem dX4_isAble_8 : Dx cX4_isAble 8 (.aload_n 0) 1 9 := ⟨by decide +kernel, rfl⟩
theorem dX4_isAble_9 : Dx cX4_isAble 9 (.getfield 18) 3 12 := ⟨by decide +kernel, rfl⟩
theorem dX4_isAble_12 : Dx cX4_isAble 12 (.iload_n 1) 1 13 := ⟨by decide +kernel, rfl⟩
theorem dX4_isAble_13 : Dc cX4_isAble 13 (fun o => .if_icmp .ge o) 20 16 := ⟨7, by decide +kernel, by decide, rfl⟩
theorem dX4_isAble_16 : Dx cX4_isAble 16 (.iconst 1) 1 17 := ⟨by decide +kernel, rfl⟩
theorem dX4_isAble_17 : Dc cX4_isAble 17 (fun o => .goto o) 21 20 := ⟨4, by decide +kernel, by decide, rfl⟩
theorem dX4_isAble_20 : Dx cX4_isAble 20 (.iconst 0) 1 21 := ⟨by decide +kernel, rfl⟩
theorem dX4_isAble_21 : Dx cX4_isAble 21 (.ireturn) 1 22 := ⟨by decide +kernel, rfl⟩
theorem dX4_copyFrom_0 : Dx cX4_copyFrom 0 (.aload_n 0) 1 1 := ⟨by decide +kernel, rfl⟩
theorem dX4_copyFrom_1 : Dx cX4_copyFrom 1 (.aload_n 1) 1 2 := ⟨by decide +kernel, rfl⟩
theorem dX4_copyFrom_2 : Dx cX4_copyFrom 2 (.getfield 9) 3 5 := ⟨by decide +kernel, rfl⟩
theorem dX4_copyFrom_5 : Dx cX4_copyFrom 5 (.putfield 9) 3 8 := ⟨by decide +kernel, rfl⟩
theorem dX4_copyFrom_8 : Dx cX4_copyFrom 8 (.aload_n 0) 1 9 := ⟨by decide +kernel, rfl⟩
theorem dX4_copyFrom_9 : Dx cX4_copyFrom 9 (.aload_n 1) 1 10 := ⟨by decide +kernel, rfl⟩
theorem dX4_copyFrom_10 : Dx cX4_copyFrom 10 (.getfield 15) 3 13 := ⟨by decide +kernel, rfl⟩
theorem dX4_copyFrom_13 : Dx cX4_copyFrom 13 (.putfield 15) 3 16 := ⟨by decide +kernel, rfl⟩
theorem dX4_copyFrom_16 : Dx cX4_copyFrom 16 (.aload_n 0) 1 17 := ⟨by decide +kernel, rfl⟩
theorem dX4_copyFrom_17 : Dx cX4_copyFrom 17 (.aload_n 1) 1 18 := ⟨by decide +kernel, rfl⟩
theorem dX4_copyFrom_18 : Dx cX4_copyFrom 18 (.getfield 18) 3 21 := ⟨by decide +kernel, rfl⟩
theorem dX4_copyFrom_21 : Dx cX4_copyFrom 21 (.putfield 18) 3 24 := ⟨by decide +kernel, rfl⟩
theorem dX4_copyFrom_24 : Dx cX4_copyFrom 24 (.aload_n 0) 1 25 := ⟨by decide +kernel, rfl⟩
theorem dX4_copyFrom_25 : Dx cX4_copyFrom 25 (.aload_n 1) 1 26 := ⟨by decide +kernel, rfl⟩
theorem dX4_copyFrom_26 : Dx cX4_copyFrom 26 (.getfield 21) 3 29 := ⟨by decide +kernel, rfl⟩
theorem dX4_copyFrom_29 : Dx cX4_copyFrom 29 (.putfield 21) 3 32 := ⟨by decide +kernel, rfl⟩
theorem dX4_copyFrom_32 : Dx cX4_copyFrom 32 (.aload_n 0) 1 33 := ⟨by decide +kernel, rfl⟩
theorem dX4_copyFrom_33 : Dx cX4_copyFrom 33 (.aload_n 1) 1 34 := ⟨by decide +kernel, rfl⟩
theorem dX4_copyFrom_34 : Dx cX4_copyFrom 34 (.getfield 24) 3 37 := ⟨by decide +kernel, rfl⟩
theorem dX4_copyFrom_37 : Dx cX4_copyFrom 37 (.putfield 24) 3 40 := ⟨by decide +kernel, rfl⟩
theorem dX4_copyFrom_40 : Dx cX4_copyFrom 40 (.aload_n 0) 1 41 := ⟨by decide +kernel, rfl⟩
theorem dX4_copyFrom_41 : Dx cX4_copyFrom 41 (.aload_n 1) 1 42 := ⟨by decide +kernel, rfl⟩
theorem dX4_copyFrom_42 : Dx cX4_copyFrom 42 (.getfield 27) 3 45 := ⟨by decide +kernel, rfl⟩
theorem dX4_copyFrom_45 : Dx cX4_copyFrom 45 (.putfield 27) 3 48 := ⟨by decide +kernel, rfl⟩
theorem dX4_copyFrom_48 : Dx cX4_copyFrom 48 (.return_) 1 49 := ⟨by decide +kernel, rfl⟩
theorem dX5_init_0 : Dx cX5_init 0 (.aload_n 0) 1 1 := ⟨by decide +kernel, rfl⟩
theorem dX5_init_1 : Dx cX5_init 1 (.invokespecial 3) 3 4 := ⟨by decide +kernel, rfl⟩
theorem dX5_init_4 : Dx cX5_init 4 (.aload_n 0) 1 5 := ⟨by decide +kernel, rfl⟩
theorem dX5_init_5 : Dx cX5_init 5 (.iconst 0) 1 6 := ⟨by decide +kernel, rfl⟩
theorem dX5_init_6 : Dx cX5_init 6 (.putfield 9) 3 9 := ⟨by decide +kernel, rfl⟩
theorem dX5_init_9 : Dx cX5_init 9 (.aload_n 0) 1 10 := ⟨by decide +kernel, rfl⟩
theorem dX5_init_10 : Dx cX5_init 10 (.iconst 0) 1 11 := ⟨by decide +kernel, rfl⟩
theorem dX5_init_11 : Dx cX5_init 11 (.putfield 15) 3 14 := ⟨by decide +kernel, rfl⟩
theorem dX5_init_14 : Dx cX5_init 14 (.return_) 1 15 := ⟨by decide +kernel, rfl⟩
theorem dX5_isThere_0 : Dx cX5_isThere 0 (.aload_n 0) 1 1 := ⟨by decide +kernel, rfl⟩
theorem dX5_isThere_1 : Dx cX5_isThere 1 (.getfield 9) 3 4 := ⟨by decide +kernel, rfl⟩
theorem dX5_isThere_4 : Dc cX5_isThere 4 (fun o => .ifCond .eq o) 11 7 := ⟨7, by decide +kernel, by decide, rfl⟩
theorem dX5_isThere_7 : Dx cX5_isThere 7 (.iconst 1) 1 8 := ⟨by decide +kernel, rfl⟩
theorem dX5_isThere_8 : Dc cX5_isThere 8 (fun o => .goto o) 12 11 := ⟨4, by decide +kernel, by decide, rfl⟩
theorem dX5_isThere_11 : Dx cX5_isThere 11 (.iconst 0) 1 12 := ⟨by decide +kernel, rfl⟩
theorem dX5_isThere_12 : Dx cX5_isThere 12 (.ireturn) 1 13 := ⟨by decide +kernel, rfl⟩
theorem dX5_set_0 : Dx cX5_set 0 (.aload_n 0) 1 1 := ⟨by decide +kernel, rfl⟩
theorem dX5_set_1 : Dx cX5_set 1 (.iload_n 1) 1 2 := ⟨by decide +kernel, rfl⟩
theorem dX5_set_2 : Dx cX5_set 2 (.putfield 9) 3 5 := ⟨by decide +kernel, rfl⟩
theorem dX5_set_5 : Dx cX5_set 5 (.aload_n 0) 1 6 := ⟨by decide +kernel, rfl⟩
theorem dX5_set_6 : Dx cX5_set 6 (.iload_n 2) 1 7 := ⟨by decide +kernel, rfl⟩
theorem dX5_set_7 : Dx cX5_set 7 (.putfield 15) 3 10 := ⟨by decide +kernel, rfl⟩
theorem dX5_set_10 : Dx cX5_set 10 (.return_) 1 11 := ⟨by decide +kernel, rfl⟩
theorem dX5_clear_0 : Dx cX5_clear 0 (.aload_n 0) 1 1 := ⟨by decide +kernel, rfl⟩
theorem dX5_clear_1 : Dx cX5_clear 1 (.iconst 0) 1 2 := ⟨by decide +kernel, rfl⟩
theorem dX5_clear_2 : Dx cX5_clear 2 (.iconst 0) 1 3 := ⟨by decide +kernel, rfl⟩
theorem dX5_clear_3 : Dx cX5_clear 3 (.invokevirtual 18) 3 6 := ⟨by decide +kernel, rfl⟩
theorem dX5_clear_6 : Dx cX5_clear 6 (.return_) 1 7 := ⟨by decide +kernel, rfl⟩
theorem dX5_copyFrom_0 : Dx cX5_copyFrom 0 (.aload_n 0) 1 1 := ⟨by decide +kernel, rfl⟩
theorem dX5_copyFrom_1 : Dx cX5_copyFrom 1 (.aload_n 1) 1 2 := ⟨by decide +kernel, rfl⟩
theorem dX5_copyFrom_2 : Dx cX5_copyFrom 2 (.getfield 9) 3 5 := ⟨by decide +kernel, rfl⟩
theorem dX5_copyFrom_5 : Dx cX5_copyFrom 5 (.aload_n 1) 1 6 := ⟨by decide +kernel, rfl⟩
theorem dX5_copyFrom_6 : Dx cX5_copyFrom 6 (.getfield 15) 3 9 := ⟨by decide +kernel, rfl⟩
theorem dX5_copyFrom_9 : Dx cX5_copyFrom 9 (.invokevirtual 18) 3 12 := ⟨by decide +kernel, rfl⟩
theorem dX5_copyFrom_12 : Dx cX5_copyFrom 12 (.return_) 1 13 := ⟨by decide +kernel, rfl⟩
theorem dX6_init_0 : Dx cX6_init 0 (.aload_n 0) 1 1 := ⟨by decide +kernel, rfl⟩
theorem dX6_init_1 : Dx cX6_init 1 (.invokespecial 3) 3 4 := ⟨by decide +kernel, rfl⟩
theorem dX6_init_4 : Dx cX6_init 4 (.aload_n 0) 1 5 := ⟨by decide +kernel, rfl⟩
theorem dX6_init_5 : Dx cX6_init 5 (.bipush 60) 2 7 := ⟨by decide +kernel, rfl⟩
theorem dX6_init_7 : Dx cX6_init 7 (.newarray .char) 2 9 := ⟨by decide +kernel, rfl⟩
theorem dX6_init_9 : Dx cX6_init 9 (.putfield 9) 3 12 := ⟨by decide +kernel, rfl⟩
theorem dX6_init_12 : Dx cX6_init 12 (.aload_n 0) 1 13 := ⟨by decide +kernel, rfl⟩
theorem dX6_init_13 : Dx cX6_init 13 (.iconst 0) 1 14 := ⟨by decide +kernel, rfl⟩
theorem dX6_init_14 : Dx cX6_init 14 (.putfield 15) 3 17 := ⟨by decide +kernel, rfl⟩
theorem dX6_init_17 : Dx cX6_init 17 (.aload_n 0) 1 18 := ⟨by decide +kernel, rfl⟩
theorem dX6_init_18 : Dx cX6_init 18 (.bipush 20) 2 20 := ⟨by decide +kernel, rfl⟩
theorem dX6_init_20 : Dx cX6_init 20 (.anewarray 19) 3 23 := ⟨by decide +kernel, rfl⟩
theorem dX6_init_23 : Dx cX6_init 23 (.putfield 21) 3 26 := ⟨by decide +kernel, rfl⟩
theorem dX6_init_26 : Dx cX6_init 26 (.aload_n 0) 1 27 := ⟨by decide +kernel, rfl⟩
theorem dX6_init_27 : Dx cX6_init 27 (.bipush 20) 2 29 := ⟨by decide +kernel, rfl⟩
theorem dX6_init_29 : Dx cX6_init 29 (.newarray .int) 2 31 := ⟨by decide +kernel, rfl⟩
theorem dX6_init_31 : Dx cX6_init 31 (.putfield 25) 3 34 := ⟨by decide +kernel, rfl⟩
theorem dX6_init_34 : Dx cX6_init 34 (.aload_n 0) 1 35 := ⟨by decide +kernel, rfl⟩
theorem dX6_init_35 : Dx cX6_init 35 (.bipush 20) 2 37 := ⟨by decide +kernel, rfl⟩
theorem dX6_init_37 : Dx cX6_init 37 (.newarray .int) 2 39 := ⟨by decide +kernel, rfl⟩
theorem dX6_init_39 : Dx cX6_init 39 (.putfield 29) 3 42 := ⟨by decide +kernel, rfl⟩
theorem dX6_init_42 : Dx cX6_init 42 (.aload_n 0) 1 43 := ⟨by decide +kernel, rfl⟩
theorem dX6_init_43 : Dx cX6_init 43 (.iconst 0) 1 44 := ⟨by decide +kernel, rfl⟩
theorem dX6_init_44 : Dx cX6_init 44 (.putfield 32) 3 47 := ⟨by decide +kernel, rfl⟩
theorem dX6_init_47 : Dx cX6_init 47 (.aload_n 0) 1 48 := ⟨by decide +kernel, rfl⟩
theorem dX6_init_48 : Dx cX6_init 48 (.iconst 0) 1 49 := ⟨by decide +kernel, rfl⟩
theorem dX6_init_49 : Dx cX6_init 49 (.putfield 35) 3 52 := ⟨by decide +kernel, rfl⟩
theorem dX6_init_52 : Dx cX6_init 52 (.return_) 1 53 := ⟨by decide +kernel, rfl⟩
theorem dX6_add_0 : Dx cX6_add 0 (.aload_n 0) 1 1 := ⟨by decide +kernel, rfl⟩
theorem dX6_add_1 : Dx cX6_add 1 (.getfield 9) 3 4 := ⟨by decide +kernel, rfl⟩
theorem dX6_add_4 : Dx cX6_add 4 (.aload_n 0) 1 5 := ⟨by decide +kernel, rfl⟩
theorem dX6_add_5 : Dx cX6_add 5 (.getfield 15) 3 8 := ⟨by decide +kernel, rfl⟩
theorem dX6_add_8 : Dx cX6_add 8 (.iload_n 1) 1 9 := ⟨by decide +kernel, rfl⟩
theorem dX6_add_9 : Dx cX6_add 9 (.castore) 1 10 := ⟨by decide +kernel, rfl⟩
theorem dX6_add_10 : Dx cX6_add 10 (.aload_n 0) 1 11 := ⟨by decide +kernel, rfl⟩
theorem dX6_add_11 : Dx cX6_add 11 (.dup) 1 12 := ⟨by decide +kernel, rfl⟩
theorem dX6_add_12 : Dx cX6_add 12 (.getfield 15) 3 15 := ⟨by decide +kernel, rfl⟩
theorem dX6_add_15 : Dx cX6_add 15 (.iconst 1) 1 16 := ⟨by decide +kernel, rfl⟩
theorem dX6_add_16 : Dx cX6_add 16 (.iadd) 1 17 := ⟨by decide +kernel, rfl⟩
theorem dX6_add_17 : Dx cX6_add 17 (.putfield 15) 3 20 := ⟨by decide +kernel, rfl⟩
theorem dX6_add_20 : Dx cX6_add 20 (.return_) 1 21 := ⟨by decide +kernel, rfl⟩
theorem dX6_read_0 : Dx cX6_read 0 (.aload_n 0) 1 1 := ⟨by decide +kernel, rfl⟩
theorem dX6_read_1 : Dx cX6_read 1 (.iconst 0) 1 2 := ⟨by decide +kernel, rfl⟩
theorem dX6_read_2 : Dx cX6_read 2 (.putfield 32) 3 5 := ⟨by decide +kernel, rfl⟩
theorem dX6_read_5 : Dx cX6_read 5 (.aload_n 0) 1 6 := ⟨by decide +kernel, rfl⟩
theorem dX6_read_6 : Dx cX6_read 6 (.iconst 0) 1 7 := ⟨by decide +kernel, rfl⟩
theorem dX6_read_7 : Dx cX6_read 7 (.putfield 35) 3 10 := ⟨by decide +kernel, rfl⟩
theorem dX6_read_10 : Dx cX6_read 10 (.iconst 1) 1 11 := ⟨by decide +kernel, rfl⟩
theorem dX6_read_11 : Dx cX6_read 11 (.istore_n 1) 1 12 := ⟨by decide +kernel, rfl⟩
theorem dX6_read_12 : Dx cX6_read 12 (.iconst 0) 1 13 := ⟨by decide +kernel, rfl⟩
theorem dX6_read_13 : Dx cX6_read 13 (.istore_n 2) 1 14 := ⟨by decide +kernel, rfl⟩
theorem dX6_read_14 : Dx cX6_read 14 (.iload_n 2) 1 15 := ⟨by decide +kernel, rfl⟩
theorem dX6_read_15 : Dx cX6_read 15 (.bipush 20) 2 17 := ⟨by decide +kernel, rfl⟩
theorem dX6_read_17 : Dc cX6_read 17 (fun o => .if_icmp .ge o) 98 20 := ⟨81, by decide +kernel, by decide, rfl⟩
theorem dX6_read_20 : Dx cX6_read 20 (.iload_n 1) 1 21 := ⟨by decide +kernel, rfl⟩
theorem dX6_read_21 : Dc cX6_read 21 (fun o => .ifCond .eq o) 98 24 := ⟨77, by decide +kernel, by decide, rfl⟩
theorem dX6_read_24 : Dx cX6_read 24 (.aload_n 0) 1 25 := ⟨by decide +kernel, rfl⟩
theorem dX6_read_25 : Dx cX6_read 25 (.iload_n 2) 1 26 := ⟨by decide +kernel, rfl⟩
theorem dX6_read_26 : Dx cX6_read 26 (.invokevirtual 38) 3 29 := ⟨by decide +kernel, rfl⟩
theorem dX6_read_29 : Dc cX6_read 29 (fun o => .ifCond .ne o) 37 32 := ⟨8, by decide +kernel, by decide, rfl⟩
theorem dX6_read_32 : Dx cX6_read 32 (.aload_n 0) 1 33 := ⟨by decide +kernel, rfl⟩
theorem dX6_read_33 : Dx cX6_read 33 (.getfield 35) 3 36 := ⟨by decide +kernel, rfl⟩
theorem dX6_read_36 : Dx cX6_read 36 (.ireturn) 1 37 := ⟨by decide +kernel, rfl⟩
theorem dX6_read_37 : Dx cX6_read 37 (.aload_n 0) 1 38 := ⟨by decide +kernel, rfl⟩
theorem dX6_read_38 : Dx cX6_read 38 (.dup) 1 39 := ⟨by decide +kernel, rfl⟩
theorem dX6_read_39 : Dx cX6_read 39 (.getfield 32) 3 42 := ⟨by decide +kernel, rfl⟩
theorem dX6_read_42 : Dx cX6_read 42 (.iconst 1) 1 43 := ⟨by decide +kernel, rfl⟩
theorem dX6_read_43 : Dx cX6_read 43 (.iadd) 1 44 := ⟨by decide +kernel, rfl⟩
theorem dX6_read_44 : Dx cX6_read 44 (.putfield 32) 3 47 := ⟨by decide +kernel, rfl⟩
theorem dX6_read_47 : Dx cX6_read 47 (.aload_n 0) 1 48 := ⟨by decide +kernel, rfl⟩
theorem dX6_read_48 : Dx cX6_read 48 (.getfield 35) 3 51 := ⟨by decide +kernel, rfl⟩
theorem dX6_read_51 : Dx cX6_read 51 (.aload_n 0) 1 52 := ⟨by decide +kernel, rfl⟩
theorem dX6_read_52 : Dx cX6_read 52 (.getfield 15) 3 55 := ⟨by decide +kernel, rfl⟩
theorem dX6_read_55 : Dc cX6_read 55 (fun o => .if_icmp .ge o) 76 58 := ⟨21, by decide +kernel, by decide, rfl⟩
theorem dX6_read_58 : Dx cX6_read 58 (.aload_n 0) 1 59 := ⟨by decide +kernel, rfl⟩
theorem dX6_read_59 : Dx cX6_read 59 (.getfield 9) 3 62 := ⟨by decide +kernel, rfl⟩
theorem dX6_read_62 : Dx cX6_read 62 (.aload_n 0) 1 63 := ⟨by decide +kernel, rfl⟩
theorem dX6_read_63 : Dx cX6_read 63 (.getfield 35) 3 66 := ⟨by decide +kernel, rfl⟩
theorem dX6_read_66 : Dx cX6_read 66 (.caload) 1 67 := ⟨by decide +kernel, rfl⟩
theorem dX6_read_67 : Dx cX6_read 67 (.bipush 59) 2 69 := ⟨by decide +kernel, rfl⟩
theorem dX6_read_69 : Dc cX6_read 69 (fun o => .if_icmp .ne o) 76 72 := ⟨7, by decide +kernel, by decide, rfl⟩
theorem dX6_read_72 : Dx cX6_read 72 (.iconst 1) 1 73 := ⟨by decide +kernel, rfl⟩
theorem dX6_read_73 : Dc cX6_read 73 (fun o => .goto o) 77 76 := ⟨4, by decide +kernel, by decide, rfl⟩
theorem dX6_read_76 : Dx cX6_read 76 (.iconst 0) 1 77 := ⟨by decide +kernel, rfl⟩
theorem dX6_read_77 : Dx cX6_read 77 (.istore_n 1) 1 78 := ⟨by decide +kernel, rfl⟩
theorem dX6_read_78 : Dx cX6_read 78 (.iload_n 1) 1 79 := ⟨by decide +kernel, rfl⟩
theorem dX6_read_79 : Dc cX6_read 79 (fun o => .ifCond .eq o) 92 82 := ⟨13, by decide +kernel, by decide, rfl⟩
theorem dX6_read_82 : Dx cX6_read 82 (.aload_n 0) 1 83 := ⟨by decide +kernel, rfl⟩
theorem dX6_read_83 : Dx cX6_read 83 (.dup) 1 84 := ⟨by decide +kernel, rfl⟩
theorem dX6_read_84 : Dx cX6_read 84 (.getfield 35) 3 87 := ⟨by decide +kernel, rfl⟩
theorem dX6_read_87 : Dx cX6_read 87 (.iconst 1) 1 88 := ⟨by decide +kernel, rfl⟩
theorem dX6_read_88 : Dx cX6_read 88 (.iadd) 1 89 := ⟨by decide +kernel, rfl⟩
theorem dX6_read_89 : Dx cX6_read 89 (.putfield 35) 3 92 := ⟨by decide +kernel, rfl⟩
theorem dX6_read_92 : Dx cX6_read 92 (.iinc 2 1) 3 95 := ⟨by decide +kernel, rfl⟩
theorem dX6_read_95 : Dc cX6_read 95 (fun o => .goto o) 14 98 := ⟨(-81), by decide +kernel, by decide, rfl⟩
theorem dX6_read_98 : Dx cX6_read 98 (.iload_n 1) 1 99 := ⟨by decide +kernel, rfl⟩
theorem dX6_read_99 : Dc cX6_read 99 (fun o => .ifCond .ne o) 113 102 := ⟨14, by decide +kernel, by decide, rfl⟩
theorem dX6_read_102 : Dx cX6_read 102 (.aload_n 0) 1 103 := ⟨by decide +kernel, rfl⟩
theorem dX6_read_103 : Dx cX6_read 103 (.getfield 35) 3 106 := ⟨by decide +kernel, rfl⟩
theorem dX6_read_106 : Dx cX6_read 106 (.aload_n 0) 1 107 := ⟨by decide +kernel, rfl⟩
theorem dX6_read_107 : Dx cX6_read 107 (.getfield 15) 3 110 := ⟨by decide +kernel, rfl⟩
theorem dX6_read_110 : Dc cX6_read 110 (fun o => .if_icmp .ge o) 120 113 := ⟨10, by decide +kernel, by decide, rfl⟩
theorem dX6_read_113 : Dx cX6_read 113 (.aload_n 0) 1 114 := ⟨by decide +kernel, rfl⟩
theorem dX6_read_114 : Dx cX6_read 114 (.getfield 35) 3 117 := ⟨by decide +kernel, rfl⟩
theorem dX6_read_117 : Dc cX6_read 117 (fun o => .goto o) 121 120 := ⟨4, by decide +kernel, by decide, rfl⟩
theorem dX6_read_120 : Dx cX6_read 120 (.iconst (-1)) 1 121 := ⟨by decide +kernel, rfl⟩
theorem dX6_read_121 : Dx cX6_read 121 (.ireturn) 1 122 := ⟨by decide +kernel, rfl⟩
theorem dX6_readCommand_0 : Dx cX6_readCommand 0 (.aload_n 0) 1 1 := ⟨by decide +kernel, rfl⟩
theorem dX6_readCommand_1 : Dx cX6_readCommand 1 (.invokevirtual 42) 3 4 := ⟨by decide +kernel, rfl⟩
theorem dX6_readCommand_4 : Dx cX6_readCommand 4 (.astore_n 2) 1 5 := ⟨by decide +kernel, rfl⟩
theorem dX6_readCommand_5 : Dx cX6_readCommand 5 (.aload_n 2) 1 6 := ⟨by decide +kernel, rfl⟩
theorem dX6_readCommand_6 : Dc cX6_readCommand 6 (fun o => .ifnonnull o) 11 9 := ⟨5, by decide +kernel, by decide, rfl⟩
theorem dX6_readCommand_9 : Dx cX6_readCommand 9 (.iconst 0) 1 10 := ⟨by decide +kernel, rfl⟩
theorem dX6_readCommand_10 : Dx cX6_readCommand 10 (.ireturn) 1 11 := ⟨by decide +kernel, rfl⟩
theorem dX6_readCommand_11 : Dx cX6_readCommand 11 (.aload_n 0) 1 12 := ⟨by decide +kernel, rfl⟩
theorem dX6_readCommand_12 : Dx cX6_readCommand 12 (.aload_n 2) 1 13 := ⟨by decide +kernel, rfl⟩
theorem dX6_readCommand_13 : Dx cX6_readCommand 13 (.getfield 46) 3 16 := ⟨by decide +kernel, rfl⟩
theorem dX6_readCommand_16 : Dx cX6_readCommand 16 (.invokevirtual 49) 3 19 := ⟨by decide +kernel, rfl⟩
theorem dX6_readCommand_19 : Dx cX6_readCommand 19 (.istore_n 3) 1 20 := ⟨by decide +kernel, rfl⟩
theorem dX6_readCommand_20 : Dx cX6_readCommand 20 (.iload_n 3) 1 21 := ⟨by decide +kernel, rfl⟩
theorem dX6_readCommand_21 : Dc cX6_readCommand 21 (fun o => .ifCond .ge o) 26 24 := ⟨5, by decide +kernel, by decide, rfl⟩
theorem dX6_readCommand_24 : Dx cX6_readCommand 24 (.iconst 0) 1 25 := ⟨by decide +kernel, rfl⟩
theorem dX6_readCommand_25 : Dx cX6_readCommand 25 (.ireturn) 1 26 := ⟨by decide +kernel, rfl⟩
theorem dX6_readCommand_26 : Dx cX6_readCommand 26 (.aload_n 2) 1 27 := ⟨by decide +kernel, rfl⟩
theorem dX6_readCommand_27 : Dx cX6_readCommand 27 (.getfield 53) 3 30 := ⟨by decide +kernel, rfl⟩
theorem dX6_readCommand_30 : Dc cX6_readCommand 30 (fun o => .ifCond .ne o) 37 33 := ⟨7, by decide +kernel, by decide, rfl⟩
theorem dX6_readCommand_33 : Dx cX6_readCommand 33 (.iconst 0) 1 34 := ⟨by decide +kernel, rfl⟩
theorem dX6_readCommand_34 : Dc cX6_readCommand 34 (fun o => .goto o) 45 37 := ⟨11, by decide +kernel, by decide, rfl⟩
theorem dX6_readCommand_37 : Dx cX6_readCommand 37 (.aload_n 0) 1 38 := ⟨by decide +kernel, rfl⟩
theorem dX6_readCommand_38 : Dx cX6_readCommand 38 (.aload_n 2) 1 39 := ⟨by decide +kernel, rfl⟩
theorem dX6_readCommand_39 : Dx cX6_readCommand 39 (.getfield 53) 3 42 := ⟨by decide +kernel, rfl⟩
theorem dX6_readCommand_42 : Dx cX6_readCommand 42 (.invokevirtual 49) 3 45 := ⟨by decide +kernel, rfl⟩
theorem dX6_readCommand_45 : Dx cX6_readCommand 45 (.istore 4) 2 47 := ⟨by decide +kernel, rfl⟩
theorem dX6_readCommand_47 : Dx cX6_readCommand 47 (.iload 4) 2 49 := ⟨by decide +kernel, rfl⟩
theorem dX6_readCommand_49 : Dc cX6_readCommand 49 (fun o => .ifCond .ge o) 54 52 := ⟨5, by decide +kernel, by decide, rfl⟩
theorem dX6_readCommand_52 : Dx cX6_readCommand 52 (.iconst 0) 1 53 := ⟨by decide +kernel, rfl⟩
theorem dX6_readCommand_53 : Dx cX6_readCommand 53 (.ireturn) 1 54 := ⟨by decide +kernel, rfl⟩
theorem dX6_readCommand_54 : Dx cX6_readCommand 54 (.aload_n 0) 1 55 := ⟨by decide +kernel, rfl⟩
theorem dX6_readCommand_55 : Dx cX6_readCommand 55 (.getfield 21) 3 58 := ⟨by decide +kernel, rfl⟩
theorem dX6_readCommand_58 : Dx cX6_readCommand 58 (.iload_n 1) 1 59 := ⟨by decide +kernel, rfl⟩
theorem dX6_readCommand_59 : Dx cX6_readCommand 59 (.aload_n 2) 1 60 := ⟨by decide +kernel, rfl⟩
theorem dX6_readCommand_60 : Dx cX6_readCommand 60 (.aastore) 1 61 := ⟨by decide +kernel, rfl⟩
theorem dX6_readCommand_61 : Dx cX6_readCommand 61 (.aload_n 0) 1 62 := ⟨by decide +kernel, rfl⟩
theorem dX6_readCommand_62 : Dx cX6_readCommand 62 (.getfield 25) 3 65 := ⟨by decide +kernel, rfl⟩
theorem dX6_readCommand_65 : Dx cX6_readCommand 65 (.iload_n 1) 1 66 := ⟨by decide +kernel, rfl⟩
theorem dX6_readCommand_66 : Dx cX6_readCommand 66 (.iload_n 3) 1 67 := ⟨by decide +kernel, rfl⟩
theorem dX6_readCommand_67 : Dx cX6_readCommand 67 (.iastore) 1 68 := ⟨by decide +kernel, rfl⟩
theorem dX6_readCommand_68 : Dx cX6_readCommand 68 (.aload_n 0) 1 69 := ⟨by decide +kernel, rfl⟩
theorem dX6_readCommand_69 : Dx cX6_readCommand 69 (.getfield 29) 3 72 := ⟨by decide +kernel, rfl⟩
theorem dX6_readCommand_72 : Dx cX6_readCommand 72 (.iload_n 1) 1 73 := ⟨by decide +kernel, rfl⟩
theorem dX6_readCommand_73 : Dx cX6_readCommand 73 (.iload 4) 2 75 := ⟨by decide +kernel, rfl⟩
theorem dX6_readCommand_75 : Dx cX6_readCommand 75 (.iastore) 1 76 := ⟨by decide +kernel, rfl⟩
theorem dX6_readCommand_76 : Dx cX6_readCommand 76 (.iconst 1) 1 77 := ⟨by decide +kernel, rfl⟩
theorem dX6_readCommand_77 : Dx cX6_readCommand 77 (.ireturn) 1 78 := ⟨by decide +kernel, rfl⟩
theorem dX6_readDeed_0 : Dx cX6_readDeed 0 (.aload_n 0) 1 1 := ⟨by decide +kernel, rfl⟩
theorem dX6_readDeed_1 : Dx cX6_readDeed 1 (.getfield 35) 3 4 := ⟨by decide +kernel, rfl⟩
theorem dX6_readDeed_4 : Dx cX6_readDeed 4 (.aload_n 0) 1 5 := ⟨by decide +kernel, rfl⟩
theorem dX6_readDeed_5 : Dx cX6_readDeed 5 (.getfield 15) 3 8 := ⟨by decide +kernel, rfl⟩
theorem dX6_readDeed_8 : Dc cX6_readDeed 8 (fun o => .if_icmp .lt o) 13 11 := ⟨5, by decide +kernel, by decide, rfl⟩
theorem dX6_readDeed_11 : Dx cX6_readDeed 11 (.aconst_null) 1 12 := ⟨by decide +kernel, rfl⟩
theorem dX6_readDeed_12 : Dx cX6_readDeed 12 (.areturn) 1 13 := ⟨by decide +kernel, rfl⟩
theorem dX6_readDeed_13 : Dx cX6_readDeed 13 (.iconst 0) 1 14 := ⟨by decide +kernel, rfl⟩
theorem dX6_readDeed_14 : Dx cX6_readDeed 14 (.istore_n 1) 1 15 := ⟨by decide +kernel, rfl⟩
theorem dX6_readDeed_15 : Dx cX6_readDeed 15 (.iload_n 1) 1 16 := ⟨by decide +kernel, rfl⟩
theorem dX6_readDeed_16 : Dx cX6_readDeed 16 (.getstatic 56) 3 19 := ⟨by decide +kernel, rfl⟩
theorem dX6_readDeed_19 : Dx cX6_readDeed 19 (.arraylength) 1 20 := ⟨by decide +kernel, rfl⟩
theorem dX6_readDeed_20 : Dc cX6_readDeed 20 (fun o => .if_icmp .ge o) 65 23 := ⟨45, by decide +kernel, by decide, rfl⟩
theorem dX6_readDeed_23 : Dx cX6_readDeed 23 (.getstatic 56) 3 26 := ⟨by decide +kernel, rfl⟩
theorem dX6_readDeed_26 : Dx cX6_readDeed 26 (.iload_n 1) 1 27 := ⟨by decide +kernel, rfl⟩
theorem dX6_readDeed_27 : Dx cX6_readDeed 27 (.aaload) 1 28 := ⟨by decide +kernel, rfl⟩
theorem dX6_readDeed_28 : Dx cX6_readDeed 28 (.getfield 59) 3 31 := ⟨by decide +kernel, rfl⟩
theorem dX6_readDeed_31 : Dx cX6_readDeed 31 (.aload_n 0) 1 32 := ⟨by decide +kernel, rfl⟩
theorem dX6_readDeed_32 : Dx cX6_readDeed 32 (.getfield 9) 3 35 := ⟨by decide +kernel, rfl⟩
theorem dX6_readDeed_35 : Dx cX6_readDeed 35 (.aload_n 0) 1 36 := ⟨by decide +kernel, rfl⟩
theorem dX6_readDeed_36 : Dx cX6_readDeed 36 (.getfield 35) 3 39 := ⟨by decide +kernel, rfl⟩
theorem dX6_readDeed_39 : Dx cX6_readDeed 39 (.caload) 1 40 := ⟨by decide +kernel, rfl⟩
theorem dX6_readDeed_40 : Dc cX6_readDeed 40 (fun o => .if_icmp .ne o) 59 43 := ⟨19, by decide +kernel, by decide, rfl⟩
theorem dX6_readDeed_43 : Dx cX6_readDeed 43 (.aload_n 0) 1 44 := ⟨by decide +kernel, rfl⟩
theorem dX6_readDeed_44 : Dx cX6_readDeed 44 (.dup) 1 45 := ⟨by decide +kernel, rfl⟩
theorem dX6_readDeed_45 : Dx cX6_readDeed 45 (.getfield 35) 3 48 := ⟨by decide +kernel, rfl⟩
theorem dX6_readDeed_48 : Dx cX6_readDeed 48 (.iconst 1) 1 49 := ⟨by decide +kernel, rfl⟩
theorem dX6_readDeed_49 : Dx cX6_readDeed 49 (.iadd) 1 50 := ⟨by decide +kernel, rfl⟩
theorem dX6_readDeed_50 : Dx cX6_readDeed 50 (.putfield 35) 3 53 := ⟨by decide +kernel, rfl⟩
theorem dX6_readDeed_53 : Dx cX6_readDeed 53 (.getstatic 56) 3 56 := ⟨by decide +kernel, rfl⟩
theorem dX6_readDeed_56 : Dx cX6_readDeed 56 (.iload_n 1) 1 57 := ⟨by decide +kernel, rfl⟩
theorem dX6_readDeed_57 : Dx cX6_readDeed 57 (.aaload) 1 58 := ⟨by decide +kernel, rfl⟩
theorem dX6_readDeed_58 : Dx cX6_readDeed 58 (.areturn) 1 59 := ⟨by decide +kernel, rfl⟩
theorem dX6_readDeed_59 : Dx cX6_readDeed 59 (.iinc 1 1) 3 62 := ⟨by decide +kernel, rfl⟩
theorem dX6_readDeed_62 : Dc cX6_readDeed 62 (fun o => .goto o) 15 65 := ⟨(-47), by decide +kernel, by decide, rfl⟩
theorem dX6_readDeed_65 : Dx cX6_readDeed 65 (.aconst_null) 1 66 := ⟨by decide +kernel, rfl⟩
theorem dX6_readDeed_66 : Dx cX6_readDeed 66 (.areturn) 1 67 := ⟨by decide +kernel, rfl⟩
theorem dX6_readNumber_0 : Dx cX6_readNumber 0 (.iconst (-1)) 1 1 := ⟨by decide +kernel, rfl⟩
theorem dX6_readNumber_1 : Dx cX6_readNumber 1 (.istore_n 2) 1 2 := ⟨by decide +kernel, rfl⟩
theorem dX6_readNumber_2 : Dx cX6_readNumber 2 (.iconst 0) 1 3 := ⟨by decide +kernel, rfl⟩
theorem dX6_readNumber_3 : Dx cX6_readNumber 3 (.istore_n 3) 1 4 := ⟨by decide +kernel, rfl⟩
theorem dX6_readNumber_4 : Dx cX6_readNumber 4 (.iload_n 3) 1 5 := ⟨by decide +kernel, rfl⟩
theorem dX6_readNumber_5 : Dx cX6_readNumber 5 (.iload_n 1) 1 6 := ⟨by decide +kernel, rfl⟩
theorem dX6_readNumber_6 : Dc cX6_readNumber 6 (fun o => .if_icmp .ge o) 54 9 := ⟨48, by decide +kernel, by decide, rfl⟩
theorem dX6_readNumber_9 : Dx cX6_readNumber 9 (.aload_n 0) 1 10 := ⟨by decide +kernel, rfl⟩
theorem dX6_readNumber_10 : Dx cX6_readNumber 10 (.invokevirtual 62) 3 13 := ⟨by decide +kernel, rfl⟩
theorem dX6_readNumber_13 : Dc cX6_readNumber 13 (fun o => .ifCond .eq o) 54 16 := ⟨41, by decide +kernel, by decide, rfl⟩
theorem dX6_readNumber_16 : Dx cX6_readNumber 16 (.iload_n 2) 1 17 := ⟨by decide +kernel, rfl⟩
theorem dX6_readNumber_17 : Dx cX6_readNumber 17 (.iconst 0) 1 18 := ⟨by decide +kernel, rfl⟩
theorem dX6_readNumber_18 : Dx cX6_readNumber 18 (.invokestatic 66) 3 21 := ⟨by decide +kernel, rfl⟩
theorem dX6_readNumber_21 : Dx cX6_readNumber 21 (.bipush 10) 2 23 := ⟨by decide +kernel, rfl⟩
theorem dX6_readNumber_23 : Dx cX6_readNumber 23 (.imul) 1 24 := ⟨by decide +kernel, rfl⟩
theorem dX6_readNumber_24 : Dx cX6_readNumber 24 (.aload_n 0) 1 25 := ⟨by decide +kernel, rfl⟩
theorem dX6_readNumber_25 : Dx cX6_readNumber 25 (.getfield 9) 3 28 := ⟨by decide +kernel, rfl⟩
theorem dX6_readNumber_28 : Dx cX6_readNumber 28 (.aload_n 0) 1 29 := ⟨by decide +kernel, rfl⟩
theorem dX6_readNumber_29 : Dx cX6_readNumber 29 (.getfield 35) 3 32 := ⟨by decide +kernel, rfl⟩
theorem dX6_readNumber_32 : Dx cX6_readNumber 32 (.caload) 1 33 := ⟨by decide +kernel, rfl⟩
theorem dX6_readNumber_33 : Dx cX6_readNumber 33 (.bipush 48) 2 35 := ⟨by decide +kernel, rfl⟩
theorem dX6_readNumber_35 : Dx cX6_readNumber 35 (.isub) 1 36 := ⟨by decide +kernel, rfl⟩
theorem dX6_readNumber_36 : Dx cX6_readNumber 36 (.iadd) 1 37 := ⟨by decide +kernel, rfl⟩
theorem dX6_readNumber_37 : Dx cX6_readNumber 37 (.istore_n 2) 1 38 := ⟨by decide +kernel, rfl⟩
theorem dX6_readNumber_38 : Dx cX6_readNumber 38 (.aload_n 0) 1 39 := ⟨by decide +kernel, rfl⟩
theorem dX6_readNumber_39 : Dx cX6_readNumber 39 (.dup) 1 40 := ⟨by decide +kernel, rfl⟩
theorem dX6_readNumber_40 : Dx cX6_readNumber 40 (.getfield 35) 3 43 := ⟨by decide +kernel, rfl⟩
theorem dX6_readNumber_43 : Dx cX6_readNumber 43 (.iconst 1) 1 44 := ⟨by decide +kernel, rfl⟩
theorem dX6_readNumber_44 : Dx cX6_readNumber 44 (.iadd) 1 45 := ⟨by decide +kernel, rfl⟩
theorem dX6_readNumber_45 : Dx cX6_readNumber 45 (.putfield 35) 3 48 := ⟨by decide +kernel, rfl⟩
theorem dX6_readNumber_48 : Dx cX6_readNumber 48 (.iinc 3 1) 3 51 := ⟨by decide +kernel, rfl⟩
theorem dX6_readNumber_51 : Dc cX6_readNumber 51 (fun o => .goto o) 4 54 := ⟨(-47), by decide +kernel, by decide, rfl⟩
theorem dX6_readNumber_54 : Dx cX6_readNumber 54 (.iload_n 2) 1 55 := ⟨by decide +kernel, rfl⟩
theorem dX6_readNumber_55 : Dx cX6_readNumber 55 (.ireturn) 1 56 := ⟨by decide +kernel, rfl⟩
theorem dX6_isDigitNext_0 : Dx cX6_isDigitNext 0 (.aload_n 0) 1 1 := ⟨by decide +kernel, rfl⟩
theorem dX6_isDigitNext_1 : Dx cX6_isDigitNext 1 (.getfield 35) 3 4 := ⟨by decide +kernel, rfl⟩
theorem dX6_isDigitNext_4 : Dx cX6_isDigitNext 4 (.aload_n 0) 1 5 := ⟨by decide +kernel, rfl⟩
theorem dX6_isDigitNext_5 : Dx cX6_isDigitNext 5 (.getfield 15) 3 8 := ⟨by decide +kernel, rfl⟩
theorem dX6_isDigitNext_8 : Dc cX6_isDigitNext 8 (fun o => .if_icmp .ge o) 43 11 := ⟨35, by decide +kernel, by decide, rfl⟩
theorem dX6_isDigitNext_11 : Dx cX6_isDigitNext 11 (.aload_n 0) 1 12 := ⟨by decide +kernel, rfl⟩
theorem dX6_isDigitNext_12 : Dx cX6_isDigitNext 12 (.getfield 9) 3 15 := ⟨by decide +kernel, rfl⟩
theorem dX6_isDigitNext_15 : Dx cX6_isDigitNext 15 (.aload_n 0) 1 16 := ⟨by decide +kernel, rfl⟩
theorem dX6_isDigitNext_16 : Dx cX6_isDigitNext 16 (.getfield 35) 3 19 := ⟨by decide +kernel, rfl⟩
theorem dX6_isDigitNext_19 : Dx cX6_isDigitNext 19 (.caload) 1 20 := ⟨by decide +kernel, rfl⟩
theorem dX6_isDigitNext_20 : Dx cX6_isDigitNext 20 (.bipush 48) 2 22 := ⟨by decide +kernel, rfl⟩
theorem dX6_isDigitNext_22 : Dc cX6_isDigitNext 22 (fun o => .if_icmp .lt o) 43 25 := ⟨21, by decide +kernel, by decide, rfl⟩
theorem dX6_isDigitNext_25 : Dx cX6_isDigitNext 25 (.aload_n 0) 1 26 := ⟨by decide +kernel, rfl⟩
theorem dX6_isDigitNext_26 : Dx cX6_isDigitNext 26 (.getfield 9) 3 29 := ⟨by decide +kernel, rfl⟩
theorem dX6_isDigitNext_29 : Dx cX6_isDigitNext 29 (.aload_n 0) 1 30 := ⟨by decide +kernel, rfl⟩
theorem dX6_isDigitNext_30 : Dx cX6_isDigitNext 30 (.getfield 35) 3 33 := ⟨by decide +kernel, rfl⟩
theorem dX6_isDigitNext_33 : Dx cX6_isDigitNext 33 (.caload) 1 34 := ⟨by decide +kernel, rfl⟩
theorem dX6_isDigitNext_34 : Dx cX6_isDigitNext 34 (.bipush 57) 2 36 := ⟨by decide +kernel, rfl⟩
theorem dX6_isDigitNext_36 : Dc cX6_isDigitNext 36 (fun o => .if_icmp .gt o) 43 39 := ⟨7, by decide +kernel, by decide, rfl⟩
theorem dX6_isDigitNext_39 : Dx cX6_isDigitNext 39 (.iconst 1) 1 40 := ⟨by decide +kernel, rfl⟩
theorem dX6_isDigitNext_40 : Dc cX6_isDigitNext 40 (fun o => .goto o) 44 43 := ⟨4, by decide +kernel, by decide, rfl⟩
theorem dX6_isDigitNext_43 : Dx cX6_isDigitNext 43 (.iconst 0) 1 44 := ⟨by decide +kernel, rfl⟩
theorem dX6_isDigitNext_44 : Dx cX6_isDigitNext 44 (.ireturn) 1 45 := ⟨by decide +kernel, rfl⟩
theorem dX7_init_0 : Dx cX7_init 0 (.aload_n 0) 1 1 := ⟨by decide +kernel, rfl⟩
theorem dX7_init_1 : Dx cX7_init 1 (.invokespecial 3) 3 4 := ⟨by decide +kernel, rfl⟩
theorem dX7_init_4 : Dx cX7_init 4 (.aload_n 0) 1 5 := ⟨by decide +kernel, rfl⟩
theorem dX7_init_5 : Dx cX7_init 5 (.bipush 10) 2 7 := ⟨by decide +kernel, rfl⟩
theorem dX7_init_7 : Dx cX7_init 7 (.anewarray 9) 3 10 := ⟨by decide +kernel, rfl⟩
theorem dX7_init_10 : Dx cX7_init 10 (.putfield 11) 3 13 := ⟨by decide +kernel, rfl⟩
theorem dX7_init_13 : Dx cX7_init 13 (.aload_n 0) 1 14 := ⟨by decide +kernel, rfl⟩
theorem dX7_init_14 : Dx cX7_init 14 (.iconst 3) 1 15 := ⟨by decide +kernel, rfl⟩
theorem dX7_init_15 : Dx cX7_init 15 (.anewarray 17) 3 18 := ⟨by decide +kernel, rfl⟩
theorem dX7_init_18 : Dx cX7_init 18 (.putfield 19) 3 21 := ⟨by decide +kernel, rfl⟩
theorem dX7_init_21 : Dx cX7_init 21 (.aload_n 0) 1 22 := ⟨by decide +kernel, rfl⟩
theorem dX7_init_22 : Dx cX7_init 22 (.iconst 4) 1 23 := ⟨by decide +kernel, rfl⟩
theorem dX7_init_23 : Dx cX7_init 23 (.anewarray 23) 3 26 := ⟨by decide +kernel, rfl⟩
theorem dX7_init_26 : Dx cX7_init 26 (.putfield 25) 3 29 := ⟨by decide +kernel, rfl⟩
theorem dX7_init_29 : Dx cX7_init 29 (.aload_n 0) 1 30 := ⟨by decide +kernel, rfl⟩
theorem dX7_init_30 : Dx cX7_init 30 (.iconst 0) 1 31 := ⟨by decide +kernel, rfl⟩
theorem dX7_init_31 : Dx cX7_init 31 (.putfield 29) 3 34 := ⟨by decide +kernel, rfl⟩
theorem dX7_init_34 : Dx cX7_init 34 (.aload_n 0) 1 35 := ⟨by decide +kernel, rfl⟩
theorem dX7_init_35 : Dx cX7_init 35 (.iconst 0) 1 36 := ⟨by decide +kernel, rfl⟩
theorem dX7_init_36 : Dx cX7_init 36 (.putfield 33) 3 39 := ⟨by decide +kernel, rfl⟩
theorem dX7_init_39 : Dx cX7_init 39 (.aload_n 0) 1 40 := ⟨by decide +kernel, rfl⟩
theorem dX7_init_40 : Dx cX7_init 40 (.iconst 0) 1 41 := ⟨by decide +kernel, rfl⟩
theorem dX7_init_41 : Dx cX7_init 41 (.putfield 36) 3 44 := ⟨by decide +kernel, rfl⟩
theorem dX7_init_44 : Dx cX7_init 44 (.aload_n 0) 1 45 := ⟨by decide +kernel, rfl⟩
theorem dX7_init_45 : Dx cX7_init 45 (.iconst 0) 1 46 := ⟨by decide +kernel, rfl⟩
theorem dX7_init_46 : Dx cX7_init 46 (.putfield 39) 3 49 := ⟨by decide +kernel, rfl⟩
theorem dX7_init_49 : Dx cX7_init 49 (.aload_n 0) 1 50 := ⟨by decide +kernel, rfl⟩
theorem dX7_init_50 : Dx cX7_init 50 (.bipush 8) 2 52 := ⟨by decide +kernel, rfl⟩
theorem dX7_init_52 : Dx cX7_init 52 (.putfield 42) 3 55 := ⟨by decide +kernel, rfl⟩
theorem dX7_init_55 : Dx cX7_init 55 (.aload_n 0) 1 56 := ⟨by decide +kernel, rfl⟩
theorem dX7_init_56 : Dx cX7_init 56 (.iconst 0) 1 57 := ⟨by decide +kernel, rfl⟩
theorem dX7_init_57 : Dx cX7_init 57 (.putfield 45) 3 60 := ⟨by decide +kernel, rfl⟩
theorem dX7_init_60 : Dx cX7_init 60 (.aload_n 0) 1 61 := ⟨by decide +kernel, rfl⟩
theorem dX7_init_61 : Dx cX7_init 61 (.iconst 0) 1 62 := ⟨by decide +kernel, rfl⟩
theorem dX7_init_62 : Dx cX7_init 62 (.putfield 48) 3 65 := ⟨by decide +kernel, rfl⟩
theorem dX7_init_65 : Dx cX7_init 65 (.aload_n 0) 1 66 := ⟨by decide +kernel, rfl⟩
theorem dX7_init_66 : Dx cX7_init 66 (.iconst 0) 1 67 := ⟨by decide +kernel, rfl⟩
theorem dX7_init_67 : Dx cX7_init 67 (.putfield 51) 3 70 := ⟨by decide +kernel, rfl⟩
theorem dX7_init_70 : Dx cX7_init 70 (.iconst 0) 1 71 := ⟨by decide +kernel, rfl⟩
theorem dX7_init_71 : Dx cX7_init 71 (.istore_n 1) 1 72 := ⟨by decide +kernel, rfl⟩
theorem dX7_init_72 : Dx cX7_init 72 (.iload_n 1) 1 73 := ⟨by decide +kernel, rfl⟩
theorem dX7_init_73 : Dx cX7_init 73 (.bipush 10) 2 75 := ⟨by decide +kernel, rfl⟩
theorem dX7_init_75 : Dc cX7_init 75 (fun o => .if_icmp .ge o) 97 78 := ⟨22, by decide +kernel, by decide, rfl⟩
theorem dX7_init_78 : Dx cX7_init 78 (.aload_n 0) 1 79 := ⟨by decide +kernel, rfl⟩
theorem dX7_init_79 : Dx cX7_init 79 (.getfield 11) 3 82 := ⟨by decide +kernel, rfl⟩
theorem dX7_init_82 : Dx cX7_init 82 (.iload_n 1) 1 83 := ⟨by decide +kernel, rfl⟩
theorem dX7_init_83 : Dx cX7_init 83 (.new 9) 3 86 := ⟨by decide +kernel, rfl⟩
theorem dX7_init_86 : Dx cX7_init 86 (.dup) 1 87 := ⟨by decide +kernel, rfl⟩
theorem dX7_init_87 : Dx cX7_init 87 (.invokespecial 54) 3 90 := ⟨by decide +kernel, rfl⟩
theorem dX7_init_90 : Dx cX7_init 90 (.aastore) 1 91 := ⟨by decide +kernel, rfl⟩
theorem dX7_init_91 : Dx cX7_init 91 (.iinc 1 1) 3 94 := ⟨by decide +kernel, rfl⟩
theorem dX7_init_94 : Dc cX7_init 94 (fun o => .goto o) 72 97 := ⟨(-22), by decide +kernel, by decide, rfl⟩
theorem dX7_init_97 : Dx cX7_init 97 (.iconst 0) 1 98 := ⟨by decide +kernel, rfl⟩
theorem dX7_init_98 : Dx cX7_init 98 (.istore_n 1) 1 99 := ⟨by decide +kernel, rfl⟩
theorem dX7_init_99 : Dx cX7_init 99 (.iload_n 1) 1 100 := ⟨by decide +kernel, rfl⟩
theorem dX7_init_100 : Dx cX7_init 100 (.iconst 3) 1 101 := ⟨by decide +kernel, rfl⟩
theorem dX7_init_101 : Dc cX7_init 101 (fun o => .if_icmp .ge o) 123 104 := ⟨22, by decide +kernel, by decide, rfl⟩
theorem dX7_init_104 : Dx cX7_init 104 (.aload_n 0) 1 105 := ⟨by decide +kernel, rfl⟩
theorem dX7_init_105 : Dx cX7_init 105 (.getfield 19) 3 108 := ⟨by decide +kernel, rfl⟩
theorem dX7_init_108 : Dx cX7_init 108 (.iload_n 1) 1 109 := ⟨by decide +kernel, rfl⟩
theorem dX7_init_109 : Dx cX7_init 109 (.new 17) 3 112 := ⟨by decide +kernel, rfl⟩
theorem dX7_init_112 : Dx cX7_init 112 (.dup) 1 113 := ⟨by decide +kernel, rfl⟩
theorem dX7_init_113 : Dx cX7_init 113 (.invokespecial 55) 3 116 := ⟨by decide +kernel, rfl⟩
theorem dX7_init_116 : Dx cX7_init 116 (.aastore) 1 117 := ⟨by decide +kernel, rfl⟩
theorem dX7_init_117 : Dx cX7_init 117 (.iinc 1 1) 3 120 := ⟨by decide +kernel, rfl⟩
theorem dX7_init_120 : Dc cX7_init 120 (fun o => .goto o) 99 123 := ⟨(-21), by decide +kernel, by decide, rfl⟩
theorem dX7_init_123 : Dx cX7_init 123 (.iconst 0) 1 124 := ⟨by decide +kernel, rfl⟩
theorem dX7_init_124 : Dx cX7_init 124 (.istore_n 1) 1 125 := ⟨by decide +kernel, rfl⟩
theorem dX7_init_125 : Dx cX7_init 125 (.iload_n 1) 1 126 := ⟨by decide +kernel, rfl⟩
theorem dX7_init_126 : Dx cX7_init 126 (.iconst 4) 1 127 := ⟨by decide +kernel, rfl⟩
theorem dX7_init_127 : Dc cX7_init 127 (fun o => .if_icmp .ge o) 149 130 := ⟨22, by decide +kernel, by decide, rfl⟩
theorem dX7_init_130 : Dx cX7_init 130 (.aload_n 0) 1 131 := ⟨by decide +kernel, rfl⟩
theorem dX7_init_131 : Dx cX7_init 131 (.getfield 25) 3 134 := ⟨by decide +kernel, rfl⟩
theorem dX7_init_134 : Dx cX7_init 134 (.iload_n 1) 1 135 := ⟨by decide +kernel, rfl⟩
theorem dX7_init_135 : Dx cX7_init 135 (.new 23) 3 138 := ⟨by decide +kernel, rfl⟩
theorem dX7_init_138 : Dx cX7_init 138 (.dup) 1 139 := ⟨by decide +kernel, rfl⟩
theorem dX7_init_139 : Dx cX7_init 139 (.invokespecial 56) 3 142 := ⟨by decide +kernel, rfl⟩
theorem dX7_init_142 : Dx cX7_init 142 (.aastore) 1 143 := ⟨by decide +kernel, rfl⟩
theorem dX7_init_143 : Dx cX7_init 143 (.iinc 1 1) 3 146 := ⟨by decide +kernel, rfl⟩
theorem dX7_init_146 : Dc cX7_init 146 (fun o => .goto o) 125 149 := ⟨(-21), by decide +kernel, by decide, rfl⟩
theorem dX7_init_149 : Dx cX7_init 149 (.return_) 1 150 := ⟨by decide +kernel, rfl⟩
theorem dX7_copyFrom_0 : Dx cX7_copyFrom 0 (.iconst 0) 1 1 := ⟨by decide +kernel, rfl⟩
theorem dX7_copyFrom_1 : Dx cX7_copyFrom 1 (.istore_n 2) 1 2 := ⟨by decide +kernel, rfl⟩
theorem dX7_copyFrom_2 : Dx cX7_copyFrom 2 (.iload_n 2) 1 3 := ⟨by decide +kernel, rfl⟩
theorem dX7_copyFrom_3 : Dx cX7_copyFrom 3 (.bipush 10) 2 5 := ⟨by decide +kernel, rfl⟩
theorem dX7_copyFrom_5 : Dc cX7_copyFrom 5 (fun o => .if_icmp .ge o) 29 8 := ⟨24, by decide +kernel, by decide, rfl⟩
theorem dX7_copyFrom_8 : Dx cX7_copyFrom 8 (.aload_n 0) 1 9 := ⟨by decide +kernel, rfl⟩
theorem dX7_copyFrom_9 : Dx cX7_copyFrom 9 (.getfield 11) 3 12 := ⟨by decide +kernel, rfl⟩
theorem dX7_copyFrom_12 : Dx cX7_copyFrom 12 (.iload_n 2) 1 13 := ⟨by decide +kernel, rfl⟩
theorem dX7_copyFrom_13 : Dx cX7_copyFrom 13 (.aaload) 1 14 := ⟨by decide +kernel, rfl⟩
theorem dX7_copyFrom_14 : Dx cX7_copyFrom 14 (.aload_n 1) 1 15 := ⟨by decide +kernel, rfl⟩
theorem dX7_copyFrom_15 : Dx cX7_copyFrom 15 (.getfield 11) 3 18 := ⟨by decide +kernel, rfl⟩
theorem dX7_copyFrom_18 : Dx cX7_copyFrom 18 (.iload_n 2) 1 19 := ⟨by decide +kernel, rfl⟩
theorem dX7_copyFrom_19 : Dx cX7_copyFrom 19 (.aaload) 1 20 := ⟨by decide +kernel, rfl⟩
theorem dX7_copyFrom_20 : Dx cX7_copyFrom 20 (.invokevirtual 57) 3 23 := ⟨by decide +kernel, rfl⟩
theorem dX7_copyFrom_23 : Dx cX7_copyFrom 23 (.iinc 2 1) 3 26 := ⟨by decide +kernel, rfl⟩
theorem dX7_copyFrom_26 : Dc cX7_copyFrom 26 (fun o => .goto o) 2 29 := ⟨(-24), by decide +kernel, by decide, rfl⟩
theorem dX7_copyFrom_29 : Dx cX7_copyFrom 29 (.iconst 0) 1 30 := ⟨by decide +kernel, rfl⟩
theorem dX7_copyFrom_30 : Dx cX7_copyFrom 30 (.istore_n 2) 1 31 := ⟨by decide +kernel, rfl⟩
theorem dX7_copyFrom_31 : Dx cX7_copyFrom 31 (.iload_n 2) 1 32 := ⟨by decide +kernel, rfl⟩
theorem dX7_copyFrom_32 : Dx cX7_copyFrom 32 (.iconst 3) 1 33 := ⟨by decide +kernel, rfl⟩
theorem dX7_copyFrom_33 : Dc cX7_copyFrom 33 (fun o => .if_icmp .ge o) 57 36 := ⟨24, by decide +kernel, by decide, rfl⟩
theorem dX7_copyFrom_36 : Dx cX7_copyFrom 36 (.aload_n 0) 1 37 := ⟨by decide +kernel, rfl⟩
theorem dX7_copyFrom_37 : Dx cX7_copyFrom 37 (.getfield 19) 3 40 := ⟨by decide +kernel, rfl⟩
theorem dX7_copyFrom_40 : Dx cX7_copyFrom 40 (.iload_n 2) 1 41 := ⟨by decide +kernel, rfl⟩
theorem dX7_copyFrom_41 : Dx cX7_copyFrom 41 (.aaload) 1 42 := ⟨by decide +kernel, rfl⟩
theorem dX7_copyFrom_42 : Dx cX7_copyFrom 42 (.aload_n 1) 1 43 := ⟨by decide +kernel, rfl⟩
theorem dX7_copyFrom_43 : Dx cX7_copyFrom 43 (.getfield 19) 3 46 := ⟨by decide +kernel, rfl⟩
theorem dX7_copyFrom_46 : Dx cX7_copyFrom 46 (.iload_n 2) 1 47 := ⟨by decide +kernel, rfl⟩
theorem dX7_copyFrom_47 : Dx cX7_copyFrom 47 (.aaload) 1 48 := ⟨by decide +kernel, rfl⟩
theorem dX7_copyFrom_48 : Dx cX7_copyFrom 48 (.invokevirtual 61) 3 51 := ⟨by decide +kernel, rfl⟩
theorem dX7_copyFrom_51 : Dx cX7_copyFrom 51 (.iinc 2 1) 3 54 := ⟨by decide +kernel, rfl⟩
theorem dX7_copyFrom_54 : Dc cX7_copyFrom 54 (fun o => .goto o) 31 57 := ⟨(-23), by decide +kernel, by decide, rfl⟩
theorem dX7_copyFrom_57 : Dx cX7_copyFrom 57 (.iconst 0) 1 58 := ⟨by decide +kernel, rfl⟩
theorem dX7_copyFrom_58 : Dx cX7_copyFrom 58 (.istore_n 2) 1 59 := ⟨by decide +kernel, rfl⟩
theorem dX7_copyFrom_59 : Dx cX7_copyFrom 59 (.iload_n 2) 1 60 := ⟨by decide +kernel, rfl⟩
theorem dX7_copyFrom_60 : Dx cX7_copyFrom 60 (.iconst 4) 1 61 := ⟨by decide +kernel, rfl⟩
theorem dX7_copyFrom_61 : Dc cX7_copyFrom 61 (fun o => .if_icmp .ge o) 85 64 := ⟨24, by decide +kernel, by decide, rfl⟩
theorem dX7_copyFrom_64 : Dx cX7_copyFrom 64 (.aload_n 0) 1 65 := ⟨by decide +kernel, rfl⟩
theorem dX7_copyFrom_65 : Dx cX7_copyFrom 65 (.getfield 25) 3 68 := ⟨by decide +kernel, rfl⟩
theorem dX7_copyFrom_68 : Dx cX7_copyFrom 68 (.iload_n 2) 1 69 := ⟨by decide +kernel, rfl⟩
theorem dX7_copyFrom_69 : Dx cX7_copyFrom 69 (.aaload) 1 70 := ⟨by decide +kernel, rfl⟩
theorem dX7_copyFrom_70 : Dx cX7_copyFrom 70 (.aload_n 1) 1 71 := ⟨by decide +kernel, rfl⟩
theorem dX7_copyFrom_71 : Dx cX7_copyFrom 71 (.getfield 25) 3 74 := ⟨by decide +kernel, rfl⟩
theorem dX7_copyFrom_74 : Dx cX7_copyFrom 74 (.iload_n 2) 1 75 := ⟨by decide +kernel, rfl⟩
theorem dX7_copyFrom_75 : Dx cX7_copyFrom 75 (.aaload) 1 76 := ⟨by decide +kernel, rfl⟩
theorem dX7_copyFrom_76 : Dx cX7_copyFrom 76 (.invokevirtual 64) 3 79 := ⟨by decide +kernel, rfl⟩
theorem dX7_copyFrom_79 : Dx cX7_copyFrom 79 (.iinc 2 1) 3 82 := ⟨by decide +kernel, rfl⟩
theorem dX7_copyFrom_82 : Dc cX7_copyFrom 82 (fun o => .goto o) 59 85 := ⟨(-23), by decide +kernel, by decide, rfl⟩
theorem dX7_copyFrom_85 : Dx cX7_copyFrom 85 (.aload_n 0) 1 86 := ⟨by decide +kernel, rfl⟩
theorem dX7_copyFrom_86 : Dx cX7_copyFrom 86 (.aload_n 1) 1 87 := ⟨by decide +kernel, rfl⟩
theorem dX7_copyFrom_87 : Dx cX7_copyFrom 87 (.getfield 29) 3 90 := ⟨by decide +kernel, rfl⟩
theorem dX7_copyFrom_90 : Dx cX7_copyFrom 90 (.putfield 29) 3 93 := ⟨by decide +kernel, rfl⟩
theorem dX7_copyFrom_93 : Dx cX7_copyFrom 93 (.aload_n 0) 1 94 := ⟨by decide +kernel, rfl⟩
theorem dX7_copyFrom_94 : Dx cX7_copyFrom 94 (.aload_n 1) 1 95 := ⟨by decide +kernel, rfl⟩
theorem dX7_copyFrom_95 : Dx cX7_copyFrom 95 (.getfield 33) 3 98 := ⟨by decide +kernel, rfl⟩
theorem dX7_copyFrom_98 : Dx cX7_copyFrom 98 (.putfield 33) 3 101 := ⟨by decide +kernel, rfl⟩
theorem dX7_copyFrom_101 : Dx cX7_copyFrom 101 (.aload_n 0) 1 102 := ⟨by decide +kernel, rfl⟩
theorem dX7_copyFrom_102 : Dx cX7_copyFrom 102 (.aload_n 1) 1 103 := ⟨by decide +kernel, rfl⟩
theorem dX7_copyFrom_103 : Dx cX7_copyFrom 103 (.getfield 36) 3 106 := ⟨by decide +kernel, rfl⟩
theorem dX7_copyFrom_106 : Dx cX7_copyFrom 106 (.putfield 36) 3 109 := ⟨by decide +kernel, rfl⟩
theorem dX7_copyFrom_109 : Dx cX7_copyFrom 109 (.aload_n 0) 1 110 := ⟨by decide +kernel, rfl⟩
theorem dX7_copyFrom_110 : Dx cX7_copyFrom 110 (.aload_n 1) 1 111 := ⟨by decide +kernel, rfl⟩
theorem dX7_copyFrom_111 : Dx cX7_copyFrom 111 (.getfield 39) 3 114 := ⟨by decide +kernel, rfl⟩
theorem dX7_copyFrom_114 : Dx cX7_copyFrom 114 (.putfield 39) 3 117 := ⟨by decide +kernel, rfl⟩
theorem dX7_copyFrom_117 : Dx cX7_copyFrom 117 (.aload_n 0) 1 118 := ⟨by decide +kernel, rfl⟩
theorem dX7_copyFrom_118 : Dx cX7_copyFrom 118 (.aload_n 1) 1 119 := ⟨by decide +kernel, rfl⟩
theorem dX7_copyFrom_119 : Dx cX7_copyFrom 119 (.getfield 42) 3 122 := ⟨by decide +kernel, rfl⟩
theorem dX7_copyFrom_122 : Dx cX7_copyFrom 122 (.putfield 42) 3 125 := ⟨by decide +kernel, rfl⟩
theorem dX7_copyFrom_125 : Dx cX7_copyFrom 125 (.aload_n 0) 1 126 := ⟨by decide +kernel, rfl⟩
theorem dX7_copyFrom_126 : Dx cX7_copyFrom 126 (.aload_n 1) 1 127 := ⟨by decide +kernel, rfl⟩
theorem dX7_copyFrom_127 : Dx cX7_copyFrom 127 (.getfield 45) 3 130 := ⟨by decide +kernel, rfl⟩
theorem dX7_copyFrom_130 : Dx cX7_copyFrom 130 (.putfield 45) 3 133 := ⟨by decide +kernel, rfl⟩
theorem dX7_copyFrom_133 : Dx cX7_copyFrom 133 (.aload_n 0) 1 134 := ⟨by decide +kernel, rfl⟩
theorem dX7_copyFrom_134 : Dx cX7_copyFrom 134 (.aload_n 1) 1 135 := ⟨by decide +kernel, rfl⟩
theorem dX7_copyFrom_135 : Dx cX7_copyFrom 135 (.getfield 48) 3 138 := ⟨by decide +kernel, rfl⟩
theorem dX7_copyFrom_138 : Dx cX7_copyFrom 138 (.putfield 48) 3 141 := ⟨by decide +kernel, rfl⟩
theorem dX7_copyFrom_141 : Dx cX7_copyFrom 141 (.aload_n 0) 1 142 := ⟨by decide +kernel, rfl⟩
theorem dX7_copyFrom_142 : Dx cX7_copyFrom 142 (.aload_n 1) 1 143 := ⟨by decide +kernel, rfl⟩
theorem dX7_copyFrom_143 : Dx cX7_copyFrom 143 (.getfield 51) 3 146 := ⟨by decide +kernel, rfl⟩
theorem dX7_copyFrom_146 : Dx cX7_copyFrom 146 (.putfield 51) 3 149 := ⟨by decide +kernel, rfl⟩
theorem dX7_copyFrom_149 : Dx cX7_copyFrom 149 (.return_) 1 150 := ⟨by decide +kernel, rfl⟩
theorem dX7_hasMember_0 : Dx cX7_hasMember 0 (.iload_n 1) 1 1 := ⟨by decide +kernel, rfl⟩
theorem dX7_hasMember_1 : Dc cX7_hasMember 1 (fun o => .ifCond .lt o) 16 4 := ⟨15, by decide +kernel, by decide, rfl⟩
theorem dX7_hasMember_4 : Dx cX7_hasMember 4 (.iload_n 1) 1 5 := ⟨by decide +kernel, rfl⟩
theorem dX7_hasMember_5 : Dx cX7_hasMember 5 (.aload_n 0) 1 6 := ⟨by decide +kernel, rfl⟩
theorem dX7_hasMember_6 : Dx cX7_hasMember 6 (.getfield 29) 3 9 := ⟨by decide +kernel, rfl⟩
theorem dX7_hasMember_9 : Dc cX7_hasMember 9 (fun o => .if_icmp .ge o) 16 12 := ⟨7, by decide +kernel, by decide, rfl⟩
theorem dX7_hasMember_12 : Dx cX7_hasMember 12 (.iconst 1) 1 13 := ⟨by decide +kernel, rfl⟩
theorem dX7_hasMember_13 : Dc cX7_hasMember 13 (fun o => .goto o) 17 16 := ⟨4, by decide +kernel, by decide, rfl⟩
theorem dX7_hasMember_16 : Dx cX7_hasMember 16 (.iconst 0) 1 17 := ⟨by decide +kernel, rfl⟩
theorem dX7_hasMember_17 : Dx cX7_hasMember 17 (.ireturn) 1 18 := ⟨by decide +kernel, rfl⟩
theorem dX7_hasBoat_0 : Dx cX7_hasBoat 0 (.iload_n 1) 1 1 := ⟨by decide +kernel, rfl⟩
theorem dX7_hasBoat_1 : Dc cX7_hasBoat 1 (fun o => .ifCond .lt o) 16 4 := ⟨15, by decide +kernel, by decide, rfl⟩
theorem dX7_hasBoat_4 : Dx cX7_hasBoat 4 (.iload_n 1) 1 5 := ⟨by decide +kernel, rfl⟩
theorem dX7_hasBoat_5 : Dx cX7_hasBoat 5 (.aload_n 0) 1 6 := ⟨by decide +kernel, rfl⟩
theorem dX7_hasBoat_6 : Dx cX7_hasBoat 6 (.getfield 33) 3 9 := ⟨by decide +kernel, rfl⟩
theorem dX7_hasBoat_9 : Dc cX7_hasBoat 9 (fun o => .if_icmp .ge o) 16 12 := ⟨7, by decide +kernel, by decide, rfl⟩
theorem dX7_hasBoat_12 : Dx cX7_hasBoat 12 (.iconst 1) 1 13 := ⟨by decide +kernel, rfl⟩
theorem dX7_hasBoat_13 : Dc cX7_hasBoat 13 (fun o => .goto o) 17 16 := ⟨4, by decide +kernel, by decide, rfl⟩
theorem dX7_hasBoat_16 : Dx cX7_hasBoat 16 (.iconst 0) 1 17 := ⟨by decide +kernel, rfl⟩
theorem dX7_hasBoat_17 : Dx cX7_hasBoat 17 (.ireturn) 1 18 := ⟨by decide +kernel, rfl⟩
theorem dX7_hasLoan_0 : Dx cX7_hasLoan 0 (.iload_n 1) 1 1 := ⟨by decide +kernel, rfl⟩
theorem dX7_hasLoan_1 : Dc cX7_hasLoan 1 (fun o => .ifCond .lt o) 16 4 := ⟨15, by decide +kernel, by decide, rfl⟩
theorem dX7_hasLoan_4 : Dx cX7_hasLoan 4 (.iload_n 1) 1 5 := ⟨by decide +kernel, rfl⟩
theorem dX7_hasLoan_5 : Dx cX7_hasLoan 5 (.aload_n 0) 1 6 := ⟨by decide +kernel, rfl⟩
theorem dX7_hasLoan_6 : Dx cX7_hasLoan 6 (.getfield 36) 3 9 := ⟨by decide +kernel, rfl⟩
theorem dX7_hasLoan_9 : Dc cX7_hasLoan 9 (fun o => .if_icmp .ge o) 16 12 := ⟨7, by decide +kernel, by decide, rfl⟩
theorem dX7_hasLoan_12 : Dx cX7_hasLoan 12 (.iconst 1) 1 13 := ⟨by decide +kernel, rfl⟩
theorem dX7_hasLoan_13 : Dc cX7_hasLoan 13 (fun o => .goto o) 17 16 := ⟨4, by decide +kernel, by decide, rfl⟩
theorem dX7_hasLoan_16 : Dx cX7_hasLoan 16 (.iconst 0) 1 17 := ⟨by decide +kernel, rfl⟩
theorem dX7_hasLoan_17 : Dx cX7_hasLoan 17 (.ireturn) 1 18 := ⟨by decide +kernel, rfl⟩
theorem dX7_judgeMember_0 : Dx cX7_judgeMember 0 (.iload_n 1) 1 1 := ⟨by decide +kernel, rfl⟩
theorem dX7_judgeMember_1 : Dc cX7_judgeMember 1 (fun o => .ifCond .lt o) 9 4 := ⟨8, by decide +kernel, by decide, rfl⟩
theorem dX7_judgeMember_4 : Dx cX7_judgeMember 4 (.iload_n 1) 1 5 := ⟨by decide +kernel, rfl⟩
theorem dX7_judgeMember_5 : Dx cX7_judgeMember 5 (.iconst 2) 1 6 := ⟨by decide +kernel, rfl⟩
theorem dX7_judgeMember_6 : Dc cX7_judgeMember 6 (fun o => .if_icmp .le o) 18 9 := ⟨12, by decide +kernel, by decide, rfl⟩
theorem dX7_judgeMember_9 : Dx cX7_judgeMember 9 (.aload_n 2) 1 10 := ⟨by decide +kernel, rfl⟩
theorem dX7_judgeMember_10 : Dx cX7_judgeMember 10 (.iconst 1) 1 11 := ⟨by decide +kernel, rfl⟩
theorem dX7_judgeMember_11 : Dx cX7_judgeMember 11 (.iconst 0) 1 12 := ⟨by decide +kernel, rfl⟩
theorem dX7_judgeMember_12 : Dx cX7_judgeMember 12 (.invokevirtual 67) 3 15 := ⟨by decide +kernel, rfl⟩
theorem dX7_judgeMember_15 : Dc cX7_judgeMember 15 (fun o => .goto o) 41 18 := ⟨26, by decide +kernel, by decide, rfl⟩
theorem dX7_judgeMember_18 : Dx cX7_judgeMember 18 (.aload_n 0) 1 19 := ⟨by decide +kernel, rfl⟩
theorem dX7_judgeMember_19 : Dx cX7_judgeMember 19 (.getfield 29) 3 22 := ⟨by decide +kernel, rfl⟩
theorem dX7_judgeMember_22 : Dx cX7_judgeMember 22 (.bipush 10) 2 24 := ⟨by decide +kernel, rfl⟩
theorem dX7_judgeMember_24 : Dc cX7_judgeMember 24 (fun o => .if_icmp .lt o) 37 27 := ⟨13, by decide +kernel, by decide, rfl⟩
theorem dX7_judgeMember_27 : Dx cX7_judgeMember 27 (.aload_n 2) 1 28 := ⟨by decide +kernel, rfl⟩
theorem dX7_judgeMember_28 : Dx cX7_judgeMember 28 (.iconst 2) 1 29 := ⟨by decide +kernel, rfl⟩
theorem dX7_judgeMember_29 : Dx cX7_judgeMember 29 (.bipush 10) 2 31 := ⟨by decide +kernel, rfl⟩
theorem dX7_judgeMember_31 : Dx cX7_judgeMember 31 (.invokevirtual 67) 3 34 := ⟨by decide +kernel, rfl⟩
theorem dX7_judgeMember_34 : Dc cX7_judgeMember 34 (fun o => .goto o) 41 37 := ⟨7, by decide +kernel, by decide, rfl⟩
theorem dX7_judgeMember_37 : Dx cX7_judgeMember 37 (.aload_n 2) 1 38 := ⟨by decide +kernel, rfl⟩
theorem dX7_judgeMember_38 : Dx cX7_judgeMember 38 (.invokevirtual 73) 3 41 := ⟨by decide +kernel, rfl⟩
theorem dX7_judgeMember_41 : Dx cX7_judgeMember 41 (.return_) 1 42 := ⟨by decide +kernel, rfl⟩
theorem dX7_addMember_0 : Dx cX7_addMember 0 (.aload_n 0) 1 1 := ⟨by decide +kernel, rfl⟩
theorem dX7_addMember_1 : Dx cX7_addMember 1 (.getfield 11) 3 4 := ⟨by decide +kernel, rfl⟩
theorem dX7_addMember_4 : Dx cX7_addMember 4 (.aload_n 0) 1 5 := ⟨by decide +kernel, rfl⟩
theorem dX7_addMember_5 : Dx cX7_addMember 5 (.getfield 29) 3 8 := ⟨by decide +kernel, rfl⟩
theorem dX7_addMember_8 : Dx cX7_addMember 8 (.aaload) 1 9 := ⟨by decide +kernel, rfl⟩
theorem dX7_addMember_9 : Dx cX7_addMember 9 (.iload_n 1) 1 10 := ⟨by decide +kernel, rfl⟩
theorem dX7_addMember_10 : Dx cX7_addMember 10 (.invokevirtual 76) 3 13 := ⟨by decide +kernel, rfl⟩
theorem dX7_addMember_13 : Dx cX7_addMember 13 (.aload_n 0) 1 14 := ⟨by decide +kernel, rfl⟩
theorem dX7_addMember_14 : Dx cX7_addMember 14 (.dup) 1 15 := ⟨by decide +kernel, rfl⟩
theorem dX7_addMember_15 : Dx cX7_addMember 15 (.getfield 29) 3 18 := ⟨by decide +kernel, rfl⟩
theorem dX7_addMember_18 : Dx cX7_addMember 18 (.iconst 1) 1 19 := ⟨by decide +kernel, rfl⟩
theorem dX7_addMember_19 : Dx cX7_addMember 19 (.iadd) 1 20 := ⟨by decide +kernel, rfl⟩
theorem dX7_addMember_20 : Dx cX7_addMember 20 (.putfield 29) 3 23 := ⟨by decide +kernel, rfl⟩
theorem dX7_addMember_23 : Dx cX7_addMember 23 (.aload_n 0) 1 24 := ⟨by decide +kernel, rfl⟩
theorem dX7_addMember_24 : Dx cX7_addMember 24 (.getfield 29) 3 27 := ⟨by decide +kernel, rfl⟩
theorem dX7_addMember_27 : Dx cX7_addMember 27 (.iconst 1) 1 28 := ⟨by decide +kernel, rfl⟩
theorem dX7_addMember_28 : Dx cX7_addMember 28 (.isub) 1 29 := ⟨by decide +kernel, rfl⟩
theorem dX7_addMember_29 : Dx cX7_addMember 29 (.ireturn) 1 30 := ⟨by decide +kernel, rfl⟩
theorem dX7_judgeLeave_0 : Dx cX7_judgeLeave 0 (.aload_n 0) 1 1 := ⟨by decide +kernel, rfl⟩
theorem dX7_judgeLeave_1 : Dx cX7_judgeLeave 1 (.iload_n 1) 1 2 := ⟨by decide +kernel, rfl⟩
theorem dX7_judgeLeave_2 : Dx cX7_judgeLeave 2 (.invokevirtual 80) 3 5 := ⟨by decide +kernel, rfl⟩
theorem dX7_judgeLeave_5 : Dc cX7_judgeLeave 5 (fun o => .ifCond .ne o) 17 8 := ⟨12, by decide +kernel, by decide, rfl⟩
theorem dX7_judgeLeave_8 : Dx cX7_judgeLeave 8 (.aload_n 2) 1 9 := ⟨by decide +kernel, rfl⟩
theorem dX7_judgeLeave_9 : Dx cX7_judgeLeave 9 (.iconst 3) 1 10 := ⟨by decide +kernel, rfl⟩
theorem dX7_judgeLeave_10 : Dx cX7_judgeLeave 10 (.iload_n 1) 1 11 := ⟨by decide +kernel, rfl⟩
theorem dX7_judgeLeave_11 : Dx cX7_judgeLeave 11 (.invokevirtual 67) 3 14 := ⟨by decide +kernel, rfl⟩
theorem dX7_judgeLeave_14 : Dc cX7_judgeLeave 14 (fun o => .goto o) 73 17 := ⟨59, by decide +kernel, by decide, rfl⟩
theorem dX7_judgeLeave_17 : Dx cX7_judgeLeave 17 (.aload_n 0) 1 18 := ⟨by decide +kernel, rfl⟩
theorem dX7_judgeLeave_18 : Dx cX7_judgeLeave 18 (.getfield 11) 3 21 := ⟨by decide +kernel, rfl⟩
theorem dX7_judgeLeave_21 : Dx cX7_judgeLeave 21 (.iload_n 1) 1 22 := ⟨by decide +kernel, rfl⟩
theorem dX7_judgeLeave_22 : Dx cX7_judgeLeave 22 (.aaload) 1 23 := ⟨by decide +kernel, rfl⟩
theorem dX7_judgeLeave_23 : Dx cX7_judgeLeave 23 (.getfield 84) 3 26 := ⟨by decide +kernel, rfl⟩
theorem dX7_judgeLeave_26 : Dx cX7_judgeLeave 26 (.bipush (-2)) 2 28 := ⟨by decide +kernel, rfl⟩
theorem dX7_judgeLeave_28 : Dc cX7_judgeLeave 28 (fun o => .if_icmp .ne o) 40 31 := ⟨12, by decide +kernel, by decide, rfl⟩
theorem dX7_judgeLeave_31 : Dx cX7_judgeLeave 31 (.aload_n 2) 1 32 := ⟨by decide +kernel, rfl⟩
theorem dX7_judgeLeave_32 : Dx cX7_judgeLeave 32 (.iconst 4) 1 33 := ⟨by decide +kernel, rfl⟩
theorem dX7_judgeLeave_33 : Dx cX7_judgeLeave 33 (.iconst 0) 1 34 := ⟨by decide +kernel, rfl⟩
theorem dX7_judgeLeave_34 : Dx cX7_judgeLeave 34 (.invokevirtual 67) 3 37 := ⟨by decide +kernel, rfl⟩
theorem dX7_judgeLeave_37 : Dc cX7_judgeLeave 37 (fun o => .goto o) 73 40 := ⟨36, by decide +kernel, by decide, rfl⟩
theorem dX7_judgeLeave_40 : Dx cX7_judgeLeave 40 (.aload_n 0) 1 41 := ⟨by decide +kernel, rfl⟩
theorem dX7_judgeLeave_41 : Dx cX7_judgeLeave 41 (.getfield 11) 3 44 := ⟨by decide +kernel, rfl⟩
theorem dX7_judgeLeave_44 : Dx cX7_judgeLeave 44 (.iload_n 1) 1 45 := ⟨by decide +kernel, rfl⟩
theorem dX7_judgeLeave_45 : Dx cX7_judgeLeave 45 (.aaload) 1 46 := ⟨by decide +kernel, rfl⟩
theorem dX7_judgeLeave_46 : Dx cX7_judgeLeave 46 (.invokevirtual 87) 3 49 := ⟨by decide +kernel, rfl⟩
theorem dX7_judgeLeave_49 : Dc cX7_judgeLeave 49 (fun o => .ifCond .eq o) 69 52 := ⟨20, by decide +kernel, by decide, rfl⟩
theorem dX7_judgeLeave_52 : Dx cX7_judgeLeave 52 (.aload_n 2) 1 53 := ⟨by decide +kernel, rfl⟩
theorem dX7_judgeLeave_53 : Dx cX7_judgeLeave 53 (.iconst 5) 1 54 := ⟨by decide +kernel, rfl⟩
theorem dX7_judgeLeave_54 : Dx cX7_judgeLeave 54 (.aload_n 0) 1 55 := ⟨by decide +kernel, rfl⟩
theorem dX7_judgeLeave_55 : Dx cX7_judgeLeave 55 (.getfield 11) 3 58 := ⟨by decide +kernel, rfl⟩
theorem dX7_judgeLeave_58 : Dx cX7_judgeLeave 58 (.iload_n 1) 1 59 := ⟨by decide +kernel, rfl⟩
theorem dX7_judgeLeave_59 : Dx cX7_judgeLeave 59 (.aaload) 1 60 := ⟨by decide +kernel, rfl⟩
theorem dX7_judgeLeave_60 : Dx cX7_judgeLeave 60 (.getfield 84) 3 63 := ⟨by decide +kernel, rfl⟩
theorem dX7_judgeLeave_63 : Dx cX7_judgeLeave 63 (.invokevirtual 67) 3 66 := ⟨by decide +kernel, rfl⟩
theorem dX7_judgeLeave_66 : Dc cX7_judgeLeave 66 (fun o => .goto o) 73 69 := ⟨7, by decide +kernel, by decide, rfl⟩
theorem dX7_judgeLeave_69 : Dx cX7_judgeLeave 69 (.aload_n 2) 1 70 := ⟨by decide +kernel, rfl⟩
theorem dX7_judgeLeave_70 : Dx cX7_judgeLeave 70 (.invokevirtual 73) 3 73 := ⟨by decide +kernel, rfl⟩
theorem dX7_judgeLeave_73 : Dx cX7_judgeLeave 73 (.return_) 1 74 := ⟨by decide +kernel, rfl⟩
theorem dX7_letGo_0 : Dx cX7_letGo 0 (.aload_n 0) 1 1 := ⟨by decide +kernel, rfl⟩
theorem dX7_letGo_1 : Dx cX7_letGo 1 (.getfield 11) 3 4 := ⟨by decide +kernel, rfl⟩
theorem dX7_letGo_4 : Dx cX7_letGo 4 (.iload_n 1) 1 5 := ⟨by decide +kernel, rfl⟩
theorem dX7_letGo_5 : Dx cX7_letGo 5 (.aaload) 1 6 := ⟨by decide +kernel, rfl⟩
theorem dX7_letGo_6 : Dx cX7_letGo 6 (.bipush (-2)) 2 8 := ⟨by decide +kernel, rfl⟩
theorem dX7_letGo_8 : Dx cX7_letGo 8 (.putfield 84) 3 11 := ⟨by decide +kernel, rfl⟩
theorem dX7_letGo_11 : Dx cX7_letGo 11 (.aload_n 0) 1 12 := ⟨by decide +kernel, rfl⟩
theorem dX7_letGo_12 : Dx cX7_letGo 12 (.invokevirtual 91) 3 15 := ⟨by decide +kernel, rfl⟩
theorem dX7_letGo_15 : Dx cX7_letGo 15 (.invokestatic 95) 3 18 := ⟨by decide +kernel, rfl⟩
theorem dX7_letGo_18 : Dx cX7_letGo 18 (.ireturn) 1 19 := ⟨by decide +kernel, rfl⟩
theorem dX7_judgeTrain_0 : Dx cX7_judgeTrain 0 (.aload_n 0) 1 1 := ⟨by decide +kernel, rfl⟩
theorem dX7_judgeTrain_1 : Dx cX7_judgeTrain 1 (.iload_n 1) 1 2 := ⟨by decide +kernel, rfl⟩
theorem dX7_judgeTrain_2 : Dx cX7_judgeTrain 2 (.aload_n 2) 1 3 := ⟨by decide +kernel, rfl⟩
theorem dX7_judgeTrain_3 : Dx cX7_judgeTrain 3 (.invokevirtual 101) 3 6 := ⟨by decide +kernel, rfl⟩
theorem dX7_judgeTrain_6 : Dx cX7_judgeTrain 6 (.aload_n 2) 1 7 := ⟨by decide +kernel, rfl⟩
theorem dX7_judgeTrain_7 : Dx cX7_judgeTrain 7 (.invokevirtual 105) 3 10 := ⟨by decide +kernel, rfl⟩
theorem dX7_judgeTrain_10 : Dc cX7_judgeTrain 10 (fun o => .ifCond .ne o) 33 13 := ⟨23, by decide +kernel, by decide, rfl⟩
theorem dX7_judgeTrain_13 : Dx cX7_judgeTrain 13 (.aload_n 0) 1 14 := ⟨by decide +kernel, rfl⟩
theorem dX7_judgeTrain_14 : Dx cX7_judgeTrain 14 (.getfield 11) 3 17 := ⟨by decide +kernel, rfl⟩
theorem dX7_judgeTrain_17 : Dx cX7_judgeTrain 17 (.iload_n 1) 1 18 := ⟨by decide +kernel, rfl⟩
theorem dX7_judgeTrain_18 : Dx cX7_judgeTrain 18 (.aaload) 1 19 := ⟨by decide +kernel, rfl⟩
theorem dX7_judgeTrain_19 : Dx cX7_judgeTrain 19 (.getfield 108) 3 22 := ⟨by decide +kernel, rfl⟩
theorem dX7_judgeTrain_22 : Dx cX7_judgeTrain 22 (.iconst 2) 1 23 := ⟨by decide +kernel, rfl⟩
theorem dX7_judgeTrain_23 : Dc cX7_judgeTrain 23 (fun o => .if_icmp .ne o) 33 26 := ⟨10, by decide +kernel, by decide, rfl⟩
theorem dX7_judgeTrain_26 : Dx cX7_judgeTrain 26 (.aload_n 2) 1 27 := ⟨by decide +kernel, rfl⟩
theorem dX7_judgeTrain_27 : Dx cX7_judgeTrain 27 (.bipush 6) 2 29 := ⟨by decide +kernel, rfl⟩
theorem dX7_judgeTrain_29 : Dx cX7_judgeTrain 29 (.iconst 0) 1 30 := ⟨by decide +kernel, rfl⟩
theorem dX7_judgeTrain_30 : Dx cX7_judgeTrain 30 (.invokevirtual 67) 3 33 := ⟨by decide +kernel, rfl⟩
theorem dX7_judgeTrain_33 : Dx cX7_judgeTrain 33 (.return_) 1 34 := ⟨by decide +kernel, rfl⟩
theorem dX7_raiseSkill_0 : Dx cX7_raiseSkill 0 (.aload_n 0) 1 1 := ⟨by decide +kernel, rfl⟩
theorem dX7_raiseSkill_1 : Dx cX7_raiseSkill 1 (.getfield 11) 3 4 := ⟨by decide +kernel, rfl⟩
theorem dX7_raiseSkill_4 : Dx cX7_raiseSkill 4 (.iload_n 1) 1 5 := ⟨by decide +kernel, rfl⟩
theorem dX7_raiseSkill_5 : Dx cX7_raiseSkill 5 (.aaload) 1 6 := ⟨by decide +kernel, rfl⟩
theorem dX7_raiseSkill_6 : Dx cX7_raiseSkill 6 (.dup) 1 7 := ⟨by decide +kernel, rfl⟩
theorem dX7_raiseSkill_7 : Dx cX7_raiseSkill 7 (.getfield 108) 3 10 := ⟨by decide +kernel, rfl⟩
theorem dX7_raiseSkill_10 : Dx cX7_raiseSkill 10 (.iconst 1) 1 11 := ⟨by decide +kernel, rfl⟩
theorem dX7_raiseSkill_11 : Dx cX7_raiseSkill 11 (.iadd) 1 12 := ⟨by decide +kernel, rfl⟩
theorem dX7_raiseSkill_12 : Dx cX7_raiseSkill 12 (.putfield 108) 3 15 := ⟨by decide +kernel, rfl⟩
theorem dX7_raiseSkill_15 : Dx cX7_raiseSkill 15 (.aload_n 0) 1 16 := ⟨by decide +kernel, rfl⟩
theorem dX7_raiseSkill_16 : Dx cX7_raiseSkill 16 (.getfield 11) 3 19 := ⟨by decide +kernel, rfl⟩
theorem dX7_raiseSkill_19 : Dx cX7_raiseSkill 19 (.iload_n 1) 1 20 := ⟨by decide +kernel, rfl⟩
theorem dX7_raiseSkill_20 : Dx cX7_raiseSkill 20 (.aaload) 1 21 := ⟨by decide +kernel, rfl⟩
theorem dX7_raiseSkill_21 : Dx cX7_raiseSkill 21 (.getfield 108) 3 24 := ⟨by decide +kernel, rfl⟩
theorem dX7_raiseSkill_24 : Dx cX7_raiseSkill 24 (.ireturn) 1 25 := ⟨by decide +kernel, rfl⟩
theorem dX7_judgeBoat_0 : Dx cX7_judgeBoat 0 (.iload_n 1) 1 1 := ⟨by decide +kernel, rfl⟩
theorem dX7_judgeBoat_1 : Dc cX7_judgeBoat 1 (fun o => .ifCond .lt o) 21 4 := ⟨20, by decide +kernel, by decide, rfl⟩
theorem dX7_judgeBoat_4 : Dx cX7_judgeBoat 4 (.iload_n 1) 1 5 := ⟨by decide +kernel, rfl⟩
theorem dX7_judgeBoat_5 : Dx cX7_judgeBoat 5 (.bipush 6) 2 7 := ⟨by decide +kernel, rfl⟩
theorem dX7_judgeBoat_7 : Dc cX7_judgeBoat 7 (fun o => .if_icmp .gt o) 21 10 := ⟨14, by decide +kernel, by decide, rfl⟩
theorem dX7_judgeBoat_10 : Dx cX7_judgeBoat 10 (.iload_n 2) 1 11 := ⟨by decide +kernel, rfl⟩
theorem dX7_judgeBoat_11 : Dx cX7_judgeBoat 11 (.iconst 2) 1 12 := ⟨by decide +kernel, rfl⟩
theorem dX7_judgeBoat_12 : Dc cX7_judgeBoat 12 (fun o => .if_icmp .lt o) 21 15 := ⟨9, by decide +kernel, by decide, rfl⟩
theorem dX7_judgeBoat_15 : Dx cX7_judgeBoat 15 (.iload_n 2) 1 16 := ⟨by decide +kernel, rfl⟩
theorem dX7_judgeBoat_16 : Dx cX7_judgeBoat 16 (.bipush 6) 2 18 := ⟨by decide +kernel, rfl⟩
theorem dX7_judgeBoat_18 : Dc cX7_judgeBoat 18 (fun o => .if_icmp .le o) 30 21 := ⟨12, by decide +kernel, by decide, rfl⟩
theorem dX7_judgeBoat_21 : Dx cX7_judgeBoat 21 (.aload_n 3) 1 22 := ⟨by decide +kernel, rfl⟩
theorem dX7_judgeBoat_22 : Dx cX7_judgeBoat 22 (.iconst 1) 1 23 := ⟨by decide +kernel, rfl⟩
theorem dX7_judgeBoat_23 : Dx cX7_judgeBoat 23 (.iconst 0) 1 24 := ⟨by decide +kernel, rfl⟩
theorem dX7_judgeBoat_24 : Dx cX7_judgeBoat 24 (.invokevirtual 67) 3 27 := ⟨by decide +kernel, rfl⟩
theorem dX7_judgeBoat_27 : Dc cX7_judgeBoat 27 (fun o => .goto o) 51 30 := ⟨24, by decide +kernel, by decide, rfl⟩
theorem dX7_judgeBoat_30 : Dx cX7_judgeBoat 30 (.aload_n 0) 1 31 := ⟨by decide +kernel, rfl⟩
theorem dX7_judgeBoat_31 : Dx cX7_judgeBoat 31 (.getfield 33) 3 34 := ⟨by decide +kernel, rfl⟩
theorem dX7_judgeBoat_34 : Dx cX7_judgeBoat 34 (.iconst 3) 1 35 := ⟨by decide +kernel, rfl⟩
theorem dX7_judgeBoat_35 : Dc cX7_judgeBoat 35 (fun o => .if_icmp .lt o) 47 38 := ⟨12, by decide +kernel, by decide, rfl⟩
theorem dX7_judgeBoat_38 : Dx cX7_judgeBoat 38 (.aload_n 3) 1 39 := ⟨by decide +kernel, rfl⟩
theorem dX7_judgeBoat_39 : Dx cX7_judgeBoat 39 (.iconst 2) 1 40 := ⟨by decide +kernel, rfl⟩
theorem dX7_judgeBoat_40 : Dx cX7_judgeBoat 40 (.iconst 3) 1 41 := ⟨by decide +kernel, rfl⟩
theorem dX7_judgeBoat_41 : Dx cX7_judgeBoat 41 (.invokevirtual 67) 3 44 := ⟨by decide +kernel, rfl⟩
theorem dX7_judgeBoat_44 : Dc cX7_judgeBoat 44 (fun o => .goto o) 51 47 := ⟨7, by decide +kernel, by decide, rfl⟩
theorem dX7_judgeBoat_47 : Dx cX7_judgeBoat 47 (.aload_n 3) 1 48 := ⟨by decide +kernel, rfl⟩
theorem dX7_judgeBoat_48 : Dx cX7_judgeBoat 48 (.invokevirtual 73) 3 51 := ⟨by decide +kernel, rfl⟩
theorem dX7_judgeBoat_51 : Dx cX7_judgeBoat 51 (.return_) 1 52 := ⟨by decide +kernel, rfl⟩
theorem dX7_addBoat_0 : Dx cX7_addBoat 0 (.aload_n 0) 1 1 := ⟨by decide +kernel, rfl⟩
theorem dX7_addBoat_1 : Dx cX7_addBoat 1 (.getfield 19) 3 4 := ⟨by decide +kernel, rfl⟩
theorem dX7_addBoat_4 : Dx cX7_addBoat 4 (.aload_n 0) 1 5 := ⟨by decide +kernel, rfl⟩
theorem dX7_addBoat_5 : Dx cX7_addBoat 5 (.getfield 33) 3 8 := ⟨by decide +kernel, rfl⟩
theorem dX7_addBoat_8 : Dx cX7_addBoat 8 (.aaload) 1 9 := ⟨by decide +kernel, rfl⟩
theorem dX7_addBoat_9 : Dx cX7_addBoat 9 (.iload_n 1) 1 10 := ⟨by decide +kernel, rfl⟩
theorem dX7_addBoat_10 : Dx cX7_addBoat 10 (.iload_n 2) 1 11 := ⟨by decide +kernel, rfl⟩
theorem dX7_addBoat_11 : Dx cX7_addBoat 11 (.invokevirtual 111) 3 14 := ⟨by decide +kernel, rfl⟩
theorem dX7_addBoat_14 : Dx cX7_addBoat 14 (.aload_n 0) 1 15 := ⟨by decide +kernel, rfl⟩
theorem dX7_addBoat_15 : Dx cX7_addBoat 15 (.dup) 1 16 := ⟨by decide +kernel, rfl⟩
theorem dX7_addBoat_16 : Dx cX7_addBoat 16 (.getfield 33) 3 19 := ⟨by decide +kernel, rfl⟩
theorem dX7_addBoat_19 : Dx cX7_addBoat 19 (.iconst 1) 1 20 := ⟨by decide +kernel, rfl⟩
theorem dX7_addBoat_20 : Dx cX7_addBoat 20 (.iadd) 1 21 := ⟨by decide +kernel, rfl⟩
theorem dX7_addBoat_21 : Dx cX7_addBoat 21 (.putfield 33) 3 24 := ⟨by decide +kernel, rfl⟩
theorem dX7_addBoat_24 : Dx cX7_addBoat 24 (.aload_n 0) 1 25 := ⟨by decide +kernel, rfl⟩
theorem dX7_addBoat_25 : Dx cX7_addBoat 25 (.getfield 33) 3 28 := ⟨by decide +kernel, rfl⟩
theorem dX7_addBoat_28 : Dx cX7_addBoat 28 (.iconst 1) 1 29 := ⟨by decide +kernel, rfl⟩
theorem dX7_addBoat_29 : Dx cX7_addBoat 29 (.isub) 1 30 := ⟨by decide +kernel, rfl⟩
theorem dX7_addBoat_30 : Dx cX7_addBoat 30 (.ireturn) 1 31 := ⟨by decide +kernel, rfl⟩
theorem dX7_judgeCall_0 : Dx cX7_judgeCall 0 (.aload_n 0) 1 1 := ⟨by decide +kernel, rfl⟩
theorem dX7_judgeCall_1 : Dx cX7_judgeCall 1 (.iload_n 1) 1 2 := ⟨by decide +kernel, rfl⟩
theorem dX7_judgeCall_2 : Dx cX7_judgeCall 2 (.invokevirtual 113) 3 5 := ⟨by decide +kernel, rfl⟩
theorem dX7_judgeCall_5 : Dc cX7_judgeCall 5 (fun o => .ifCond .ne o) 17 8 := ⟨12, by decide +kernel, by decide, rfl⟩
theorem dX7_judgeCall_8 : Dx cX7_judgeCall 8 (.aload_n 3) 1 9 := ⟨by decide +kernel, rfl⟩
theorem dX7_judgeCall_9 : Dx cX7_judgeCall 9 (.iconst 3) 1 10 := ⟨by decide +kernel, rfl⟩
theorem dX7_judgeCall_10 : Dx cX7_judgeCall 10 (.iload_n 1) 1 11 := ⟨by decide +kernel, rfl⟩
theorem dX7_judgeCall_11 : Dx cX7_judgeCall 11 (.invokevirtual 67) 3 14 := ⟨by decide +kernel, rfl⟩
theorem dX7_judgeCall_14 : Dc cX7_judgeCall 14 (fun o => .goto o) 145 17 := ⟨131, by decide +kernel, by decide, rfl⟩
theorem dX7_judgeCall_17 : Dx cX7_judgeCall 17 (.iload_n 2) 1 18 := ⟨by decide +kernel, rfl⟩
theorem dX7_judgeCall_18 : Dx cX7_judgeCall 18 (.iconst 1) 1 19 := ⟨by decide +kernel, rfl⟩
theorem dX7_judgeCall_19 : Dc cX7_judgeCall 19 (fun o => .if_icmp .lt o) 28 22 := ⟨9, by decide +kernel, by decide, rfl⟩
theorem dX7_judgeCall_22 : Dx cX7_judgeCall 22 (.iload_n 2) 1 23 := ⟨by decide +kernel, rfl⟩
theorem dX7_judgeCall_23 : Dx cX7_judgeCall 23 (.bipush 9) 2 25 := ⟨by decide +kernel, rfl⟩
theorem dX7_judgeCall_25 : Dc cX7_judgeCall 25 (fun o => .if_icmp .le o) 37 28 := ⟨12, by decide +kernel, by decide, rfl⟩
theorem dX7_judgeCall_28 : Dx cX7_judgeCall 28 (.aload_n 3) 1 29 := ⟨by decide +kernel, rfl⟩
theorem dX7_judgeCall_29 : Dx cX7_judgeCall 29 (.iconst 1) 1 30 := ⟨by decide +kernel, rfl⟩
theorem dX7_judgeCall_30 : Dx cX7_judgeCall 30 (.iconst 0) 1 31 := ⟨by decide +kernel, rfl⟩
theorem dX7_judgeCall_31 : Dx cX7_judgeCall 31 (.invokevirtual 67) 3 34 := ⟨by decide +kernel, rfl⟩
theorem dX7_judgeCall_34 : Dc cX7_judgeCall 34 (fun o => .goto o) 145 37 := ⟨111, by decide +kernel, by decide, rfl⟩
theorem dX7_judgeCall_37 : Dx cX7_judgeCall 37 (.aload_n 0) 1 38 := ⟨by decide +kernel, rfl⟩
theorem dX7_judgeCall_38 : Dx cX7_judgeCall 38 (.getfield 19) 3 41 := ⟨by decide +kernel, rfl⟩
theorem dX7_judgeCall_41 : Dx cX7_judgeCall 41 (.iload_n 1) 1 42 := ⟨by decide +kernel, rfl⟩
theorem dX7_judgeCall_42 : Dx cX7_judgeCall 42 (.aaload) 1 43 := ⟨by decide +kernel, rfl⟩
theorem dX7_judgeCall_43 : Dx cX7_judgeCall 43 (.invokevirtual 116) 3 46 := ⟨by decide +kernel, rfl⟩
theorem dX7_judgeCall_46 : Dc cX7_judgeCall 46 (fun o => .ifCond .eq o) 58 49 := ⟨12, by decide +kernel, by decide, rfl⟩
theorem dX7_judgeCall_49 : Dx cX7_judgeCall 49 (.aload_n 3) 1 50 := ⟨by decide +kernel, rfl⟩
theorem dX7_judgeCall_50 : Dx cX7_judgeCall 50 (.iconst 5) 1 51 := ⟨by decide +kernel, rfl⟩
theorem dX7_judgeCall_51 : Dx cX7_judgeCall 51 (.iload_n 1) 1 52 := ⟨by decide +kernel, rfl⟩
theorem dX7_judgeCall_52 : Dx cX7_judgeCall 52 (.invokevirtual 67) 3 55 := ⟨by decide +kernel, rfl⟩
theorem dX7_judgeCall_55 : Dc cX7_judgeCall 55 (fun o => .goto o) 145 58 := ⟨90, by decide +kernel, by decide, rfl⟩
theorem dX7_judgeCall_58 : Dx cX7_judgeCall 58 (.aload_n 0) 1 59 := ⟨by decide +kernel, rfl⟩
theorem dX7_judgeCall_59 : Dx cX7_judgeCall 59 (.getfield 39) 3 62 := ⟨by decide +kernel, rfl⟩
theorem dX7_judgeCall_62 : Dx cX7_judgeCall 62 (.invokestatic 117) 3 65 := ⟨by decide +kernel, rfl⟩
theorem dX7_judgeCall_65 : Dx cX7_judgeCall 65 (.aload_n 0) 1 66 := ⟨by decide +kernel, rfl⟩
theorem dX7_judgeCall_66 : Dx cX7_judgeCall 66 (.getfield 19) 3 69 := ⟨by decide +kernel, rfl⟩
theorem dX7_judgeCall_69 : Dx cX7_judgeCall 69 (.iload_n 1) 1 70 := ⟨by decide +kernel, rfl⟩
theorem dX7_judgeCall_70 : Dx cX7_judgeCall 70 (.aaload) 1 71 := ⟨by decide +kernel, rfl⟩
theorem dX7_judgeCall_71 : Dx cX7_judgeCall 71 (.getfield 120) 3 74 := ⟨by decide +kernel, rfl⟩
theorem dX7_judgeCall_74 : Dc cX7_judgeCall 74 (fun o => .if_icmp .ge o) 103 77 := ⟨29, by decide +kernel, by decide, rfl⟩
theorem dX7_judgeCall_77 : Dx cX7_judgeCall 77 (.aload_n 3) 1 78 := ⟨by decide +kernel, rfl⟩
theorem dX7_judgeCall_78 : Dx cX7_judgeCall 78 (.bipush 7) 2 80 := ⟨by decide +kernel, rfl⟩
theorem dX7_judgeCall_80 : Dx cX7_judgeCall 80 (.aload_n 0) 1 81 := ⟨by decide +kernel, rfl⟩
theorem dX7_judgeCall_81 : Dx cX7_judgeCall 81 (.getfield 19) 3 84 := ⟨by decide +kernel, rfl⟩
theorem dX7_judgeCall_84 : Dx cX7_judgeCall 84 (.iload_n 1) 1 85 := ⟨by decide +kernel, rfl⟩
theorem dX7_judgeCall_85 : Dx cX7_judgeCall 85 (.aaload) 1 86 := ⟨by decide +kernel, rfl⟩
theorem dX7_judgeCall_86 : Dx cX7_judgeCall 86 (.getfield 120) 3 89 := ⟨by decide +kernel, rfl⟩
theorem dX7_judgeCall_89 : Dx cX7_judgeCall 89 (.aload_n 0) 1 90 := ⟨by decide +kernel, rfl⟩
theorem dX7_judgeCall_90 : Dx cX7_judgeCall 90 (.getfield 39) 3 93 := ⟨by decide +kernel, rfl⟩
theorem dX7_judgeCall_93 : Dx cX7_judgeCall 93 (.invokestatic 117) 3 96 := ⟨by decide +kernel, rfl⟩
theorem dX7_judgeCall_96 : Dx cX7_judgeCall 96 (.isub) 1 97 := ⟨by decide +kernel, rfl⟩
theorem dX7_judgeCall_97 : Dx cX7_judgeCall 97 (.invokevirtual 67) 3 100 := ⟨by decide +kernel, rfl⟩
theorem dX7_judgeCall_100 : Dc cX7_judgeCall 100 (fun o => .goto o) 145 103 := ⟨45, by decide +kernel, by decide, rfl⟩
theorem dX7_judgeCall_103 : Dx cX7_judgeCall 103 (.aload_n 0) 1 104 := ⟨by decide +kernel, rfl⟩
theorem dX7_judgeCall_104 : Dx cX7_judgeCall 104 (.iload_n 1) 1 105 := ⟨by decide +kernel, rfl⟩
theorem dX7_judgeCall_105 : Dx cX7_judgeCall 105 (.aload_n 3) 1 106 := ⟨by decide +kernel, rfl⟩
theorem dX7_judgeCall_106 : Dx cX7_judgeCall 106 (.invokevirtual 123) 3 109 := ⟨by decide +kernel, rfl⟩
theorem dX7_judgeCall_109 : Dx cX7_judgeCall 109 (.aload_n 0) 1 110 := ⟨by decide +kernel, rfl⟩
theorem dX7_judgeCall_110 : Dx cX7_judgeCall 110 (.getfield 19) 3 113 := ⟨by decide +kernel, rfl⟩
theorem dX7_judgeCall_113 : Dx cX7_judgeCall 113 (.iload_n 1) 1 114 := ⟨by decide +kernel, rfl⟩
theorem dX7_judgeCall_114 : Dx cX7_judgeCall 114 (.aaload) 1 115 := ⟨by decide +kernel, rfl⟩
theorem dX7_judgeCall_115 : Dx cX7_judgeCall 115 (.invokevirtual 126) 3 118 := ⟨by decide +kernel, rfl⟩
theorem dX7_judgeCall_118 : Dx cX7_judgeCall 118 (.aload_n 0) 1 119 := ⟨by decide +kernel, rfl⟩
theorem dX7_judgeCall_119 : Dx cX7_judgeCall 119 (.invokevirtual 129) 3 122 := ⟨by decide +kernel, rfl⟩
theorem dX7_judgeCall_122 : Dx cX7_judgeCall 122 (.isub) 1 123 := ⟨by decide +kernel, rfl⟩
theorem dX7_judgeCall_123 : Dx cX7_judgeCall 123 (.istore 4) 2 125 := ⟨by decide +kernel, rfl⟩
theorem dX7_judgeCall_125 : Dx cX7_judgeCall 125 (.aload_n 3) 1 126 := ⟨by decide +kernel, rfl⟩
theorem dX7_judgeCall_126 : Dx cX7_judgeCall 126 (.invokevirtual 105) 3 129 := ⟨by decide +kernel, rfl⟩
theorem dX7_judgeCall_129 : Dc cX7_judgeCall 129 (fun o => .ifCond .ne o) 145 132 := ⟨16, by decide +kernel, by decide, rfl⟩
theorem dX7_judgeCall_132 : Dx cX7_judgeCall 132 (.iload 4) 2 134 := ⟨by decide +kernel, rfl⟩
theorem dX7_judgeCall_134 : Dc cX7_judgeCall 134 (fun o => .ifCond .le o) 145 137 := ⟨11, by decide +kernel, by decide, rfl⟩
theorem dX7_judgeCall_137 : Dx cX7_judgeCall 137 (.aload_n 3) 1 138 := ⟨by decide +kernel, rfl⟩
theorem dX7_judgeCall_138 : Dx cX7_judgeCall 138 (.bipush 11) 2 140 := ⟨by decide +kernel, rfl⟩
theorem dX7_judgeCall_140 : Dx cX7_judgeCall 140 (.iload 4) 2 142 := ⟨by decide +kernel, rfl⟩
theorem dX7_judgeCall_142 : Dx cX7_judgeCall 142 (.invokevirtual 67) 3 145 := ⟨by decide +kernel, rfl⟩
theorem dX7_judgeCall_145 : Dx cX7_judgeCall 145 (.return_) 1 146 := ⟨by decide +kernel, rfl⟩
theorem dX7_judgeCrew_0 : Dx cX7_judgeCrew 0 (.aload_n 0) 1 1 := ⟨by decide +kernel, rfl⟩
theorem dX7_judgeCrew_1 : Dx cX7_judgeCrew 1 (.invokevirtual 132) 3 4 := ⟨by decide +kernel, rfl⟩
theorem dX7_judgeCrew_4 : Dx cX7_judgeCrew 4 (.istore_n 3) 1 5 := ⟨by decide +kernel, rfl⟩
theorem dX7_judgeCrew_5 : Dx cX7_judgeCrew 5 (.aload_n 0) 1 6 := ⟨by decide +kernel, rfl⟩
theorem dX7_judgeCrew_6 : Dx cX7_judgeCrew 6 (.getfield 19) 3 9 := ⟨by decide +kernel, rfl⟩
theorem dX7_judgeCrew_9 : Dx cX7_judgeCrew 9 (.iload_n 1) 1 10 := ⟨by decide +kernel, rfl⟩
theorem dX7_judgeCrew_10 : Dx cX7_judgeCrew 10 (.aaload) 1 11 := ⟨by decide +kernel, rfl⟩
theorem dX7_judgeCrew_11 : Dx cX7_judgeCrew 11 (.getfield 135) 3 14 := ⟨by decide +kernel, rfl⟩
theorem dX7_judgeCrew_14 : Dx cX7_judgeCrew 14 (.iload_n 3) 1 15 := ⟨by decide +kernel, rfl⟩
theorem dX7_judgeCrew_15 : Dx cX7_judgeCrew 15 (.invokestatic 95) 3 18 := ⟨by decide +kernel, rfl⟩
theorem dX7_judgeCrew_18 : Dx cX7_judgeCrew 18 (.isub) 1 19 := ⟨by decide +kernel, rfl⟩
theorem dX7_judgeCrew_19 : Dx cX7_judgeCrew 19 (.istore 4) 2 21 := ⟨by decide +kernel, rfl⟩
theorem dX7_judgeCrew_21 : Dx cX7_judgeCrew 21 (.iload_n 3) 1 22 := ⟨by decide +kernel, rfl⟩
theorem dX7_judgeCrew_22 : Dx cX7_judgeCrew 22 (.aload_n 0) 1 23 := ⟨by decide +kernel, rfl⟩
theorem dX7_judgeCrew_23 : Dx cX7_judgeCrew 23 (.iconst 1) 1 24 := ⟨by decide +kernel, rfl⟩
theorem dX7_judgeCrew_24 : Dx cX7_judgeCrew 24 (.invokevirtual 138) 3 27 := ⟨by decide +kernel, rfl⟩
theorem dX7_judgeCrew_27 : Dx cX7_judgeCrew 27 (.iand) 1 28 := ⟨by decide +kernel, rfl⟩
theorem dX7_judgeCrew_28 : Dx cX7_judgeCrew 28 (.invokestatic 95) 3 31 := ⟨by decide +kernel, rfl⟩
theorem dX7_judgeCrew_31 : Dx cX7_judgeCrew 31 (.istore 5) 2 33 := ⟨by decide +kernel, rfl⟩
theorem dX7_judgeCrew_33 : Dx cX7_judgeCrew 33 (.aload_n 0) 1 34 := ⟨by decide +kernel, rfl⟩
theorem dX7_judgeCrew_34 : Dx cX7_judgeCrew 34 (.getfield 19) 3 37 := ⟨by decide +kernel, rfl⟩
theorem dX7_judgeCrew_37 : Dx cX7_judgeCrew 37 (.iload_n 1) 1 38 := ⟨by decide +kernel, rfl⟩
theorem dX7_judgeCrew_38 : Dx cX7_judgeCrew 38 (.aaload) 1 39 := ⟨by decide +kernel, rfl⟩
theorem dX7_judgeCrew_39 : Dx cX7_judgeCrew 39 (.invokevirtual 141) 3 42 := ⟨by decide +kernel, rfl⟩
theorem dX7_judgeCrew_42 : Dx cX7_judgeCrew 42 (.iconst 1) 1 43 := ⟨by decide +kernel, rfl⟩
theorem dX7_judgeCrew_43 : Dx cX7_judgeCrew 43 (.iadd) 1 44 := ⟨by decide +kernel, rfl⟩
theorem dX7_judgeCrew_44 : Dx cX7_judgeCrew 44 (.iload 5) 2 46 := ⟨by decide +kernel, rfl⟩
theorem dX7_judgeCrew_46 : Dx cX7_judgeCrew 46 (.isub) 1 47 := ⟨by decide +kernel, rfl⟩
theorem dX7_judgeCrew_47 : Dx cX7_judgeCrew 47 (.istore 6) 2 49 := ⟨by decide +kernel, rfl⟩
theorem dX7_judgeCrew_49 : Dx cX7_judgeCrew 49 (.iload_n 3) 1 50 := ⟨by decide +kernel, rfl⟩
theorem dX7_judgeCrew_50 : Dx cX7_judgeCrew 50 (.aload_n 0) 1 51 := ⟨by decide +kernel, rfl⟩
theorem dX7_judgeCrew_51 : Dx cX7_judgeCrew 51 (.iconst 2) 1 52 := ⟨by decide +kernel, rfl⟩
theorem dX7_judgeCrew_52 : Dx cX7_judgeCrew 52 (.invokevirtual 138) 3 55 := ⟨by decide +kernel, rfl⟩
theorem dX7_judgeCrew_55 : Dx cX7_judgeCrew 55 (.iand) 1 56 := ⟨by decide +kernel, rfl⟩
theorem dX7_judgeCrew_56 : Dc cX7_judgeCrew 56 (fun o => .ifCond .ne o) 69 59 := ⟨13, by decide +kernel, by decide, rfl⟩
theorem dX7_judgeCrew_59 : Dx cX7_judgeCrew 59 (.aload_n 2) 1 60 := ⟨by decide +kernel, rfl⟩
theorem dX7_judgeCrew_60 : Dx cX7_judgeCrew 60 (.bipush 8) 2 62 := ⟨by decide +kernel, rfl⟩
theorem dX7_judgeCrew_62 : Dx cX7_judgeCrew 62 (.iconst 0) 1 63 := ⟨by decide +kernel, rfl⟩
theorem dX7_judgeCrew_63 : Dx cX7_judgeCrew 63 (.invokevirtual 67) 3 66 := ⟨by decide +kernel, rfl⟩
theorem dX7_judgeCrew_66 : Dc cX7_judgeCrew 66 (fun o => .goto o) 105 69 := ⟨39, by decide +kernel, by decide, rfl⟩
theorem dX7_judgeCrew_69 : Dx cX7_judgeCrew 69 (.iload 4) 2 71 := ⟨by decide +kernel, rfl⟩
theorem dX7_judgeCrew_71 : Dc cX7_judgeCrew 71 (fun o => .ifCond .le o) 85 74 := ⟨14, by decide +kernel, by decide, rfl⟩
theorem dX7_judgeCrew_74 : Dx cX7_judgeCrew 74 (.aload_n 2) 1 75 := ⟨by decide +kernel, rfl⟩
theorem dX7_judgeCrew_75 : Dx cX7_judgeCrew 75 (.bipush 9) 2 77 := ⟨by decide +kernel, rfl⟩
theorem dX7_judgeCrew_77 : Dx cX7_judgeCrew 77 (.iload 4) 2 79 := ⟨by decide +kernel, rfl⟩
theorem dX7_judgeCrew_79 : Dx cX7_judgeCrew 79 (.invokevirtual 67) 3 82 := ⟨by decide +kernel, rfl⟩
theorem dX7_judgeCrew_82 : Dc cX7_judgeCrew 82 (fun o => .goto o) 105 85 := ⟨23, by decide +kernel, by decide, rfl⟩
theorem dX7_judgeCrew_85 : Dx cX7_judgeCrew 85 (.iload 6) 2 87 := ⟨by decide +kernel, rfl⟩
theorem dX7_judgeCrew_87 : Dc cX7_judgeCrew 87 (fun o => .ifCond .le o) 101 90 := ⟨14, by decide +kernel, by decide, rfl⟩
theorem dX7_judgeCrew_90 : Dx cX7_judgeCrew 90 (.aload_n 2) 1 91 := ⟨by decide +kernel, rfl⟩
theorem dX7_judgeCrew_91 : Dx cX7_judgeCrew 91 (.bipush 10) 2 93 := ⟨by decide +kernel, rfl⟩
theorem dX7_judgeCrew_93 : Dx cX7_judgeCrew 93 (.iload 6) 2 95 := ⟨by decide +kernel, rfl⟩
theorem dX7_judgeCrew_95 : Dx cX7_judgeCrew 95 (.invokevirtual 67) 3 98 := ⟨by decide +kernel, rfl⟩
theorem dX7_judgeCrew_98 : Dc cX7_judgeCrew 98 (fun o => .goto o) 105 101 := ⟨7, by decide +kernel, by decide, rfl⟩
theorem dX7_judgeCrew_101 : Dx cX7_judgeCrew 101 (.aload_n 2) 1 102 := ⟨by decide +kernel, rfl⟩
theorem dX7_judgeCrew_102 : Dx cX7_judgeCrew 102 (.invokevirtual 73) 3 105 := ⟨by decide +kernel, rfl⟩
theorem dX7_judgeCrew_105 : Dx cX7_judgeCrew 105 (.return_) 1 106 := ⟨by decide +kernel, rfl⟩
theorem dX7_sendOut_0 : Dx cX7_sendOut 0 (.aload_n 0) 1 1 := ⟨by decide +kernel, rfl⟩
theorem dX7_sendOut_1 : Dx cX7_sendOut 1 (.invokevirtual 144) 3 4 := ⟨by decide +kernel, rfl⟩
theorem dX7_sendOut_4 : Dx cX7_sendOut 4 (.istore_n 3) 1 5 := ⟨by decide +kernel, rfl⟩
theorem dX7_sendOut_5 : Dx cX7_sendOut 5 (.aload_n 0) 1 6 := ⟨by decide +kernel, rfl⟩
theorem dX7_sendOut_6 : Dx cX7_sendOut 6 (.iload_n 1) 1 7 := ⟨by decide +kernel, rfl⟩
theorem dX7_sendOut_7 : Dx cX7_sendOut 7 (.invokevirtual 147) 3 10 := ⟨by decide +kernel, rfl⟩
theorem dX7_sendOut_10 : Dx cX7_sendOut 10 (.istore 4) 2 12 := ⟨by decide +kernel, rfl⟩
theorem dX7_sendOut_12 : Dx cX7_sendOut 12 (.iconst 0) 1 13 := ⟨by decide +kernel, rfl⟩
theorem dX7_sendOut_13 : Dx cX7_sendOut 13 (.istore 5) 2 15 := ⟨by decide +kernel, rfl⟩
theorem dX7_sendOut_15 : Dx cX7_sendOut 15 (.iload 5) 2 17 := ⟨by decide +kernel, rfl⟩
theorem dX7_sendOut_17 : Dx cX7_sendOut 17 (.aload_n 0) 1 18 := ⟨by decide +kernel, rfl⟩
theorem dX7_sendOut_18 : Dx cX7_sendOut 18 (.getfield 29) 3 21 := ⟨by decide +kernel, rfl⟩
theorem dX7_sendOut_21 : Dc cX7_sendOut 21 (fun o => .if_icmp .ge o) 89 24 := ⟨68, by decide +kernel, by decide, rfl⟩
theorem dX7_sendOut_24 : Dx cX7_sendOut 24 (.iload 5) 2 26 := ⟨by decide +kernel, rfl⟩
theorem dX7_sendOut_26 : Dx cX7_sendOut 26 (.iload 4) 2 28 := ⟨by decide +kernel, rfl⟩
theorem dX7_sendOut_28 : Dx cX7_sendOut 28 (.invokestatic 150) 3 31 := ⟨by decide +kernel, rfl⟩
theorem dX7_sendOut_31 : Dc cX7_sendOut 31 (fun o => .ifCond .eq o) 61 34 := ⟨30, by decide +kernel, by decide, rfl⟩
theorem dX7_sendOut_34 : Dx cX7_sendOut 34 (.aload_n 0) 1 35 := ⟨by decide +kernel, rfl⟩
theorem dX7_sendOut_35 : Dx cX7_sendOut 35 (.getfield 11) 3 38 := ⟨by decide +kernel, rfl⟩
theorem dX7_sendOut_38 : Dx cX7_sendOut 38 (.iload 5) 2 40 := ⟨by decide +kernel, rfl⟩
theorem dX7_sendOut_40 : Dx cX7_sendOut 40 (.aaload) 1 41 := ⟨by decide +kernel, rfl⟩
theorem dX7_sendOut_41 : Dx cX7_sendOut 41 (.iload_n 1) 1 42 := ⟨by decide +kernel, rfl⟩
theorem dX7_sendOut_42 : Dx cX7_sendOut 42 (.putfield 84) 3 45 := ⟨by decide +kernel, rfl⟩
theorem dX7_sendOut_45 : Dx cX7_sendOut 45 (.aload_n 0) 1 46 := ⟨by decide +kernel, rfl⟩
theorem dX7_sendOut_46 : Dx cX7_sendOut 46 (.getfield 11) 3 49 := ⟨by decide +kernel, rfl⟩
theorem dX7_sendOut_49 : Dx cX7_sendOut 49 (.iload 5) 2 51 := ⟨by decide +kernel, rfl⟩
theorem dX7_sendOut_51 : Dx cX7_sendOut 51 (.aaload) 1 52 := ⟨by decide +kernel, rfl⟩
theorem dX7_sendOut_52 : Dx cX7_sendOut 52 (.dup) 1 53 := ⟨by decide +kernel, rfl⟩
theorem dX7_sendOut_53 : Dx cX7_sendOut 53 (.getfield 154) 3 56 := ⟨by decide +kernel, rfl⟩
theorem dX7_sendOut_56 : Dx cX7_sendOut 56 (.iconst 1) 1 57 := ⟨by decide +kernel, rfl⟩
theorem dX7_sendOut_57 : Dx cX7_sendOut 57 (.iadd) 1 58 := ⟨by decide +kernel, rfl⟩
theorem dX7_sendOut_58 : Dx cX7_sendOut 58 (.putfield 154) 3 61 := ⟨by decide +kernel, rfl⟩
theorem dX7_sendOut_61 : Dx cX7_sendOut 61 (.iload 5) 2 63 := ⟨by decide +kernel, rfl⟩
theorem dX7_sendOut_63 : Dx cX7_sendOut 63 (.iload_n 3) 1 64 := ⟨by decide +kernel, rfl⟩
theorem dX7_sendOut_64 : Dc cX7_sendOut 64 (fun o => .if_icmp .ne o) 83 67 := ⟨19, by decide +kernel, by decide, rfl⟩
theorem dX7_sendOut_67 : Dx cX7_sendOut 67 (.aload_n 0) 1 68 := ⟨by decide +kernel, rfl⟩
theorem dX7_sendOut_68 : Dx cX7_sendOut 68 (.getfield 11) 3 71 := ⟨by decide +kernel, rfl⟩
theorem dX7_sendOut_71 : Dx cX7_sendOut 71 (.iload 5) 2 73 := ⟨by decide +kernel, rfl⟩
theorem dX7_sendOut_73 : Dx cX7_sendOut 73 (.aaload) 1 74 := ⟨by decide +kernel, rfl⟩
theorem dX7_sendOut_74 : Dx cX7_sendOut 74 (.dup) 1 75 := ⟨by decide +kernel, rfl⟩
theorem dX7_sendOut_75 : Dx cX7_sendOut 75 (.getfield 155) 3 78 := ⟨by decide +kernel, rfl⟩
theorem dX7_sendOut_78 : Dx cX7_sendOut 78 (.iconst 1) 1 79 := ⟨by decide +kernel, rfl⟩
theorem dX7_sendOut_79 : Dx cX7_sendOut 79 (.iadd) 1 80 := ⟨by decide +kernel, rfl⟩
theorem dX7_sendOut_80 : Dx cX7_sendOut 80 (.putfield 155) 3 83 := ⟨by decide +kernel, rfl⟩
theorem dX7_sendOut_83 : Dx cX7_sendOut 83 (.iinc 5 1) 3 86 := ⟨by decide +kernel, rfl⟩
theorem dX7_sendOut_86 : Dc cX7_sendOut 86 (fun o => .goto o) 15 89 := ⟨(-71), by decide +kernel, by decide, rfl⟩
theorem dX7_sendOut_89 : Dx cX7_sendOut 89 (.aload_n 0) 1 90 := ⟨by decide +kernel, rfl⟩
theorem dX7_sendOut_90 : Dx cX7_sendOut 90 (.getfield 19) 3 93 := ⟨by decide +kernel, rfl⟩
theorem dX7_sendOut_93 : Dx cX7_sendOut 93 (.iload_n 1) 1 94 := ⟨by decide +kernel, rfl⟩
theorem dX7_sendOut_94 : Dx cX7_sendOut 94 (.aaload) 1 95 := ⟨by decide +kernel, rfl⟩
theorem dX7_sendOut_95 : Dx cX7_sendOut 95 (.iload_n 3) 1 96 := ⟨by decide +kernel, rfl⟩
theorem dX7_sendOut_96 : Dx cX7_sendOut 96 (.putfield 158) 3 99 := ⟨by decide +kernel, rfl⟩
theorem dX7_sendOut_99 : Dx cX7_sendOut 99 (.aload_n 0) 1 100 := ⟨by decide +kernel, rfl⟩
theorem dX7_sendOut_100 : Dx cX7_sendOut 100 (.getfield 19) 3 103 := ⟨by decide +kernel, rfl⟩
theorem dX7_sendOut_103 : Dx cX7_sendOut 103 (.iload_n 1) 1 104 := ⟨by decide +kernel, rfl⟩
theorem dX7_sendOut_104 : Dx cX7_sendOut 104 (.aaload) 1 105 := ⟨by decide +kernel, rfl⟩
theorem dX7_sendOut_105 : Dx cX7_sendOut 105 (.iload_n 2) 1 106 := ⟨by decide +kernel, rfl⟩
theorem dX7_sendOut_106 : Dx cX7_sendOut 106 (.putfield 161) 3 109 := ⟨by decide +kernel, rfl⟩
theorem dX7_sendOut_109 : Dx cX7_sendOut 109 (.aload_n 0) 1 110 := ⟨by decide +kernel, rfl⟩
theorem dX7_sendOut_110 : Dx cX7_sendOut 110 (.getfield 19) 3 113 := ⟨by decide +kernel, rfl⟩
theorem dX7_sendOut_113 : Dx cX7_sendOut 113 (.iload_n 1) 1 114 := ⟨by decide +kernel, rfl⟩
theorem dX7_sendOut_114 : Dx cX7_sendOut 114 (.aaload) 1 115 := ⟨by decide +kernel, rfl⟩
theorem dX7_sendOut_115 : Dx cX7_sendOut 115 (.dup) 1 116 := ⟨by decide +kernel, rfl⟩
theorem dX7_sendOut_116 : Dx cX7_sendOut 116 (.getfield 164) 3 119 := ⟨by decide +kernel, rfl⟩
theorem dX7_sendOut_119 : Dx cX7_sendOut 119 (.iconst 1) 1 120 := ⟨by decide +kernel, rfl⟩
theorem dX7_sendOut_120 : Dx cX7_sendOut 120 (.iadd) 1 121 := ⟨by decide +kernel, rfl⟩
theorem dX7_sendOut_121 : Dx cX7_sendOut 121 (.putfield 164) 3 124 := ⟨by decide +kernel, rfl⟩
theorem dX7_sendOut_124 : Dx cX7_sendOut 124 (.aload_n 0) 1 125 := ⟨by decide +kernel, rfl⟩
theorem dX7_sendOut_125 : Dx cX7_sendOut 125 (.dup) 1 126 := ⟨by decide +kernel, rfl⟩
theorem dX7_sendOut_126 : Dx cX7_sendOut 126 (.getfield 45) 3 129 := ⟨by decide +kernel, rfl⟩
theorem dX7_sendOut_129 : Dx cX7_sendOut 129 (.iconst 1) 1 130 := ⟨by decide +kernel, rfl⟩
theorem dX7_sendOut_130 : Dx cX7_sendOut 130 (.iadd) 1 131 := ⟨by decide +kernel, rfl⟩
theorem dX7_sendOut_131 : Dx cX7_sendOut 131 (.putfield 45) 3 134 := ⟨by decide +kernel, rfl⟩
theorem dX7_sendOut_134 : Dx cX7_sendOut 134 (.iload_n 3) 1 135 := ⟨by decide +kernel, rfl⟩
theorem dX7_sendOut_135 : Dx cX7_sendOut 135 (.ireturn) 1 136 := ⟨by decide +kernel, rfl⟩
theorem dX7_judgeBorrow_0 : Dx cX7_judgeBorrow 0 (.iload_n 1) 1 1 := ⟨by decide +kernel, rfl⟩
theorem dX7_judgeBorrow_1 : Dx cX7_judgeBorrow 1 (.iconst 1) 1 2 := ⟨by decide +kernel, rfl⟩
theorem dX7_judgeBorrow_2 : Dc cX7_judgeBorrow 2 (fun o => .if_icmp .lt o) 22 5 := ⟨20, by decide +kernel, by decide, rfl⟩
theorem dX7_judgeBorrow_5 : Dx cX7_judgeBorrow 5 (.iload_n 1) 1 6 := ⟨by decide +kernel, rfl⟩
theorem dX7_judgeBorrow_6 : Dx cX7_judgeBorrow 6 (.bipush 9) 2 8 := ⟨by decide +kernel, rfl⟩
theorem dX7_judgeBorrow_8 : Dc cX7_judgeBorrow 8 (fun o => .if_icmp .gt o) 22 11 := ⟨14, by decide +kernel, by decide, rfl⟩
theorem dX7_judgeBorrow_11 : Dx cX7_judgeBorrow 11 (.iload_n 2) 1 12 := ⟨by decide +kernel, rfl⟩
theorem dX7_judgeBorrow_12 : Dx cX7_judgeBorrow 12 (.iconst 1) 1 13 := ⟨by decide +kernel, rfl⟩
theorem dX7_judgeBorrow_13 : Dc cX7_judgeBorrow 13 (fun o => .if_icmp .lt o) 22 16 := ⟨9, by decide +kernel, by decide, rfl⟩
theorem dX7_judgeBorrow_16 : Dx cX7_judgeBorrow 16 (.iload_n 2) 1 17 := ⟨by decide +kernel, rfl⟩
theorem dX7_judgeBorrow_17 : Dx cX7_judgeBorrow 17 (.bipush 48) 2 19 := ⟨by decide +kernel, rfl⟩
theorem dX7_judgeBorrow_19 : Dc cX7_judgeBorrow 19 (fun o => .if_icmp .le o) 31 22 := ⟨12, by decide +kernel, by decide, rfl⟩
theorem dX7_judgeBorrow_22 : Dx cX7_judgeBorrow 22 (.aload_n 3) 1 23 := ⟨by decide +kernel, rfl⟩
theorem dX7_judgeBorrow_23 : Dx cX7_judgeBorrow 23 (.iconst 1) 1 24 := ⟨by decide +kernel, rfl⟩
theorem dX7_judgeBorrow_24 : Dx cX7_judgeBorrow 24 (.iconst 0) 1 25 := ⟨by decide +kernel, rfl⟩
theorem dX7_judgeBorrow_25 : Dx cX7_judgeBorrow 25 (.invokevirtual 67) 3 28 := ⟨by decide +kernel, rfl⟩
theorem dX7_judgeBorrow_28 : Dc cX7_judgeBorrow 28 (fun o => .goto o) 52 31 := ⟨24, by decide +kernel, by decide, rfl⟩
theorem dX7_judgeBorrow_31 : Dx cX7_judgeBorrow 31 (.aload_n 0) 1 32 := ⟨by decide +kernel, rfl⟩
theorem dX7_judgeBorrow_32 : Dx cX7_judgeBorrow 32 (.getfield 36) 3 35 := ⟨by decide +kernel, rfl⟩
theorem dX7_judgeBorrow_35 : Dx cX7_judgeBorrow 35 (.iconst 4) 1 36 := ⟨by decide +kernel, rfl⟩
theorem dX7_judgeBorrow_36 : Dc cX7_judgeBorrow 36 (fun o => .if_icmp .lt o) 48 39 := ⟨12, by decide +kernel, by decide, rfl⟩
theorem dX7_judgeBorrow_39 : Dx cX7_judgeBorrow 39 (.aload_n 3) 1 40 := ⟨by decide +kernel, rfl⟩
theorem dX7_judgeBorrow_40 : Dx cX7_judgeBorrow 40 (.iconst 2) 1 41 := ⟨by decide +kernel, rfl⟩
theorem dX7_judgeBorrow_41 : Dx cX7_judgeBorrow 41 (.iconst 4) 1 42 := ⟨by decide +kernel, rfl⟩
theorem dX7_judgeBorrow_42 : Dx cX7_judgeBorrow 42 (.invokevirtual 67) 3 45 := ⟨by decide +kernel, rfl⟩
theorem dX7_judgeBorrow_45 : Dc cX7_judgeBorrow 45 (fun o => .goto o) 52 48 := ⟨7, by decide +kernel, by decide, rfl⟩
theorem dX7_judgeBorrow_48 : Dx cX7_judgeBorrow 48 (.aload_n 3) 1 49 := ⟨by decide +kernel, rfl⟩
theorem dX7_judgeBorrow_49 : Dx cX7_judgeBorrow 49 (.invokevirtual 73) 3 52 := ⟨by decide +kernel, rfl⟩
theorem dX7_judgeBorrow_52 : Dx cX7_judgeBorrow 52 (.return_) 1 53 := ⟨by decide +kernel, rfl⟩
theorem dX7_addLoan_0 : Dx cX7_addLoan 0 (.aload_n 0) 1 1 := ⟨by decide +kernel, rfl⟩
theorem dX7_addLoan_1 : Dx cX7_addLoan 1 (.getfield 25) 3 4 := ⟨by decide +kernel, rfl⟩
theorem dX7_addLoan_4 : Dx cX7_addLoan 4 (.aload_n 0) 1 5 := ⟨by decide +kernel, rfl⟩
theorem dX7_addLoan_5 : Dx cX7_addLoan 5 (.getfield 36) 3 8 := ⟨by decide +kernel, rfl⟩
theorem dX7_addLoan_8 : Dx cX7_addLoan 8 (.aaload) 1 9 := ⟨by decide +kernel, rfl⟩
theorem dX7_addLoan_9 : Dx cX7_addLoan 9 (.iload_n 1) 1 10 := ⟨by decide +kernel, rfl⟩
theorem dX7_addLoan_10 : Dx cX7_addLoan 10 (.iload_n 2) 1 11 := ⟨by decide +kernel, rfl⟩
theorem dX7_addLoan_11 : Dx cX7_addLoan 11 (.invokevirtual 165) 3 14 := ⟨by decide +kernel, rfl⟩
theorem dX7_addLoan_14 : Dx cX7_addLoan 14 (.aload_n 0) 1 15 := ⟨by decide +kernel, rfl⟩
theorem dX7_addLoan_15 : Dx cX7_addLoan 15 (.dup) 1 16 := ⟨by decide +kernel, rfl⟩
theorem dX7_addLoan_16 : Dx cX7_addLoan 16 (.getfield 36) 3 19 := ⟨by decide +kernel, rfl⟩
theorem dX7_addLoan_19 : Dx cX7_addLoan 19 (.iconst 1) 1 20 := ⟨by decide +kernel, rfl⟩
theorem dX7_addLoan_20 : Dx cX7_addLoan 20 (.iadd) 1 21 := ⟨by decide +kernel, rfl⟩
theorem dX7_addLoan_21 : Dx cX7_addLoan 21 (.putfield 36) 3 24 := ⟨by decide +kernel, rfl⟩
theorem dX7_addLoan_24 : Dx cX7_addLoan 24 (.aload_n 0) 1 25 := ⟨by decide +kernel, rfl⟩
theorem dX7_addLoan_25 : Dx cX7_addLoan 25 (.getfield 36) 3 28 := ⟨by decide +kernel, rfl⟩
theorem dX7_addLoan_28 : Dx cX7_addLoan 28 (.iconst 1) 1 29 := ⟨by decide +kernel, rfl⟩
theorem dX7_addLoan_29 : Dx cX7_addLoan 29 (.isub) 1 30 := ⟨by decide +kernel, rfl⟩
theorem dX7_addLoan_30 : Dx cX7_addLoan 30 (.ireturn) 1 31 := ⟨by decide +kernel, rfl⟩
theorem dX7_judgeGiveBack_0 : Dx cX7_judgeGiveBack 0 (.aload_n 0) 1 1 := ⟨by decide +kernel, rfl⟩
theorem dX7_judgeGiveBack_1 : Dx cX7_judgeGiveBack 1 (.iload_n 1) 1 2 := ⟨by decide +kernel, rfl⟩
theorem dX7_judgeGiveBack_2 : Dx cX7_judgeGiveBack 2 (.invokevirtual 166) 3 5 := ⟨by decide +kernel, rfl⟩
theorem dX7_judgeGiveBack_5 : Dc cX7_judgeGiveBack 5 (fun o => .ifCond .ne o) 17 8 := ⟨12, by decide +kernel, by decide, rfl⟩
theorem dX7_judgeGiveBack_8 : Dx cX7_judgeGiveBack 8 (.aload_n 2) 1 9 := ⟨by decide +kernel, rfl⟩
theorem dX7_judgeGiveBack_9 : Dx cX7_judgeGiveBack 9 (.iconst 3) 1 10 := ⟨by decide +kernel, rfl⟩
theorem dX7_judgeGiveBack_10 : Dx cX7_judgeGiveBack 10 (.iload_n 1) 1 11 := ⟨by decide +kernel, rfl⟩
theorem dX7_judgeGiveBack_11 : Dx cX7_judgeGiveBack 11 (.invokevirtual 67) 3 14 := ⟨by decide +kernel, rfl⟩
theorem dX7_judgeGiveBack_14 : Dc cX7_judgeGiveBack 14 (fun o => .goto o) 60 17 := ⟨46, by decide +kernel, by decide, rfl⟩
theorem dX7_judgeGiveBack_17 : Dx cX7_judgeGiveBack 17 (.aload_n 0) 1 18 := ⟨by decide +kernel, rfl⟩
theorem dX7_judgeGiveBack_18 : Dx cX7_judgeGiveBack 18 (.getfield 25) 3 21 := ⟨by decide +kernel, rfl⟩
theorem dX7_judgeGiveBack_21 : Dx cX7_judgeGiveBack 21 (.iload_n 1) 1 22 := ⟨by decide +kernel, rfl⟩
theorem dX7_judgeGiveBack_22 : Dx cX7_judgeGiveBack 22 (.aaload) 1 23 := ⟨by decide +kernel, rfl⟩
theorem dX7_judgeGiveBack_23 : Dx cX7_judgeGiveBack 23 (.getfield 169) 3 26 := ⟨by decide +kernel, rfl⟩
theorem dX7_judgeGiveBack_26 : Dx cX7_judgeGiveBack 26 (.aload_n 0) 1 27 := ⟨by decide +kernel, rfl⟩
theorem dX7_judgeGiveBack_27 : Dx cX7_judgeGiveBack 27 (.invokevirtual 129) 3 30 := ⟨by decide +kernel, rfl⟩
theorem dX7_judgeGiveBack_30 : Dc cX7_judgeGiveBack 30 (fun o => .if_icmp .le o) 56 33 := ⟨26, by decide +kernel, by decide, rfl⟩
theorem dX7_judgeGiveBack_33 : Dx cX7_judgeGiveBack 33 (.aload_n 2) 1 34 := ⟨by decide +kernel, rfl⟩
theorem dX7_judgeGiveBack_34 : Dx cX7_judgeGiveBack 34 (.bipush 11) 2 36 := ⟨by decide +kernel, rfl⟩
theorem dX7_judgeGiveBack_36 : Dx cX7_judgeGiveBack 36 (.aload_n 0) 1 37 := ⟨by decide +kernel, rfl⟩
theorem dX7_judgeGiveBack_37 : Dx cX7_judgeGiveBack 37 (.getfield 25) 3 40 := ⟨by decide +kernel, rfl⟩
theorem dX7_judgeGiveBack_40 : Dx cX7_judgeGiveBack 40 (.iload_n 1) 1 41 := ⟨by decide +kernel, rfl⟩
theorem dX7_judgeGiveBack_41 : Dx cX7_judgeGiveBack 41 (.aaload) 1 42 := ⟨by decide +kernel, rfl⟩
theorem dX7_judgeGiveBack_42 : Dx cX7_judgeGiveBack 42 (.getfield 169) 3 45 := ⟨by decide +kernel, rfl⟩
theorem dX7_judgeGiveBack_45 : Dx cX7_judgeGiveBack 45 (.aload_n 0) 1 46 := ⟨by decide +kernel, rfl⟩
theorem dX7_judgeGiveBack_46 : Dx cX7_judgeGiveBack 46 (.invokevirtual 129) 3 49 := ⟨by decide +kernel, rfl⟩
theorem dX7_judgeGiveBack_49 : Dx cX7_judgeGiveBack 49 (.isub) 1 50 := ⟨by decide +kernel, rfl⟩
theorem dX7_judgeGiveBack_50 : Dx cX7_judgeGiveBack 50 (.invokevirtual 67) 3 53 := ⟨by decide +kernel, rfl⟩
theorem dX7_judgeGiveBack_53 : Dc cX7_judgeGiveBack 53 (fun o => .goto o) 60 56 := ⟨7, by decide +kernel, by decide, rfl⟩
theorem dX7_judgeGiveBack_56 : Dx cX7_judgeGiveBack 56 (.aload_n 2) 1 57 := ⟨by decide +kernel, rfl⟩
theorem dX7_judgeGiveBack_57 : Dx cX7_judgeGiveBack 57 (.invokevirtual 73) 3 60 := ⟨by decide +kernel, rfl⟩
theorem dX7_judgeGiveBack_60 : Dx cX7_judgeGiveBack 60 (.return_) 1 61 := ⟨by decide +kernel, rfl⟩
theorem dX7_endLoan_0 : Dx cX7_endLoan 0 (.aload_n 0) 1 1 := ⟨by decide +kernel, rfl⟩
theorem dX7_endLoan_1 : Dx cX7_endLoan 1 (.iload_n 1) 1 2 := ⟨by decide +kernel, rfl⟩
theorem dX7_endLoan_2 : Dx cX7_endLoan 2 (.invokevirtual 172) 3 5 := ⟨by decide +kernel, rfl⟩
theorem dX7_endLoan_5 : Dx cX7_endLoan 5 (.aload_n 0) 1 6 := ⟨by decide +kernel, rfl⟩
theorem dX7_endLoan_6 : Dx cX7_endLoan 6 (.invokevirtual 129) 3 9 := ⟨by decide +kernel, rfl⟩
theorem dX7_endLoan_9 : Dx cX7_endLoan 9 (.ireturn) 1 10 := ⟨by decide +kernel, rfl⟩
theorem dX7_removeLoan_0 : Dx cX7_removeLoan 0 (.aload_n 0) 1 1 := ⟨by decide +kernel, rfl⟩
theorem dX7_removeLoan_1 : Dx cX7_removeLoan 1 (.getfield 25) 3 4 := ⟨by decide +kernel, rfl⟩
theorem dX7_removeLoan_4 : Dx cX7_removeLoan 4 (.iload_n 1) 1 5 := ⟨by decide +kernel, rfl⟩
theorem dX7_removeLoan_5 : Dx cX7_removeLoan 5 (.aaload) 1 6 := ⟨by decide +kernel, rfl⟩
theorem dX7_removeLoan_6 : Dx cX7_removeLoan 6 (.astore_n 2) 1 7 := ⟨by decide +kernel, rfl⟩
theorem dX7_removeLoan_7 : Dx cX7_removeLoan 7 (.iload_n 1) 1 8 := ⟨by decide +kernel, rfl⟩
theorem dX7_removeLoan_8 : Dx cX7_removeLoan 8 (.iconst 1) 1 9 := ⟨by decide +kernel, rfl⟩
theorem dX7_removeLoan_9 : Dx cX7_removeLoan 9 (.iadd) 1 10 := ⟨by decide +kernel, rfl⟩
theorem dX7_removeLoan_10 : Dx cX7_removeLoan 10 (.istore_n 3) 1 11 := ⟨by decide +kernel, rfl⟩
theorem dX7_removeLoan_11 : Dx cX7_removeLoan 11 (.iload_n 3) 1 12 := ⟨by decide +kernel, rfl⟩
theorem dX7_removeLoan_12 : Dx cX7_removeLoan 12 (.aload_n 0) 1 13 := ⟨by decide +kernel, rfl⟩
theorem dX7_removeLoan_13 : Dx cX7_removeLoan 13 (.getfield 36) 3 16 := ⟨by decide +kernel, rfl⟩
theorem dX7_removeLoan_16 : Dc cX7_removeLoan 16 (fun o => .if_icmp .ge o) 39 19 := ⟨23, by decide +kernel, by decide, rfl⟩
theorem dX7_removeLoan_19 : Dx cX7_removeLoan 19 (.aload_n 0) 1 20 := ⟨by decide +kernel, rfl⟩
theorem dX7_removeLoan_20 : Dx cX7_removeLoan 20 (.getfield 25) 3 23 := ⟨by decide +kernel, rfl⟩
theorem dX7_removeLoan_23 : Dx cX7_removeLoan 23 (.iload_n 3) 1 24 := ⟨by decide +kernel, rfl⟩
theorem dX7_removeLoan_24 : Dx cX7_removeLoan 24 (.iconst 1) 1 25 := ⟨by decide +kernel, rfl⟩
theorem dX7_removeLoan_25 : Dx cX7_removeLoan 25 (.isub) 1 26 := ⟨by decide +kernel, rfl⟩
theorem dX7_removeLoan_26 : Dx cX7_removeLoan 26 (.aload_n 0) 1 27 := ⟨by decide +kernel, rfl⟩
theorem dX7_removeLoan_27 : Dx cX7_removeLoan 27 (.getfield 25) 3 30 := ⟨by decide +kernel, rfl⟩
theorem dX7_removeLoan_30 : Dx cX7_removeLoan 30 (.iload_n 3) 1 31 := ⟨by decide +kernel, rfl⟩
theorem dX7_removeLoan_31 : Dx cX7_removeLoan 31 (.aaload) 1 32 := ⟨by decide +kernel, rfl⟩
theorem dX7_removeLoan_32 : Dx cX7_removeLoan 32 (.aastore) 1 33 := ⟨by decide +kernel, rfl⟩
theorem dX7_removeLoan_33 : Dx cX7_removeLoan 33 (.iinc 3 1) 3 36 := ⟨by decide +kernel, rfl⟩
theorem dX7_removeLoan_36 : Dc cX7_removeLoan 36 (fun o => .goto o) 11 39 := ⟨(-25), by decide +kernel, by decide, rfl⟩
theorem dX7_removeLoan_39 : Dx cX7_removeLoan 39 (.aload_n 0) 1 40 := ⟨by decide +kernel, rfl⟩
theorem dX7_removeLoan_40 : Dx cX7_removeLoan 40 (.getfield 25) 3 43 := ⟨by decide +kernel, rfl⟩
theorem dX7_removeLoan_43 : Dx cX7_removeLoan 43 (.aload_n 0) 1 44 := ⟨by decide +kernel, rfl⟩
theorem dX7_removeLoan_44 : Dx cX7_removeLoan 44 (.getfield 36) 3 47 := ⟨by decide +kernel, rfl⟩
theorem dX7_removeLoan_47 : Dx cX7_removeLoan 47 (.iconst 1) 1 48 := ⟨by decide +kernel, rfl⟩
theorem dX7_removeLoan_48 : Dx cX7_removeLoan 48 (.isub) 1 49 := ⟨by decide +kernel, rfl⟩
theorem dX7_removeLoan_49 : Dx cX7_removeLoan 49 (.aload_n 2) 1 50 := ⟨by decide +kernel, rfl⟩
theorem dX7_removeLoan_50 : Dx cX7_removeLoan 50 (.aastore) 1 51 := ⟨by decide +kernel, rfl⟩
theorem dX7_removeLoan_51 : Dx cX7_removeLoan 51 (.aload_n 0) 1 52 := ⟨by decide +kernel, rfl⟩
theorem dX7_removeLoan_52 : Dx cX7_removeLoan 52 (.dup) 1 53 := ⟨by decide +kernel, rfl⟩
theorem dX7_removeLoan_53 : Dx cX7_removeLoan 53 (.getfield 36) 3 56 := ⟨by decide +kernel, rfl⟩
theorem dX7_removeLoan_56 : Dx cX7_removeLoan 56 (.iconst 1) 1 57 := ⟨by decide +kernel, rfl⟩
theorem dX7_removeLoan_57 : Dx cX7_removeLoan 57 (.isub) 1 58 := ⟨by decide +kernel, rfl⟩
theorem dX7_removeLoan_58 : Dx cX7_removeLoan 58 (.putfield 36) 3 61 := ⟨by decide +kernel, rfl⟩
theorem dX7_removeLoan_61 : Dx cX7_removeLoan 61 (.return_) 1 62 := ⟨by decide +kernel, rfl⟩
theorem dX7_judgeLimit_0 : Dx cX7_judgeLimit 0 (.iload_n 1) 1 1 := ⟨by decide +kernel, rfl⟩
theorem dX7_judgeLimit_1 : Dx cX7_judgeLimit 1 (.iconst 1) 1 2 := ⟨by decide +kernel, rfl⟩
theorem dX7_judgeLimit_2 : Dc cX7_judgeLimit 2 (fun o => .if_icmp .lt o) 11 5 := ⟨9, by decide +kernel, by decide, rfl⟩
theorem dX7_judgeLimit_5 : Dx cX7_judgeLimit 5 (.iload_n 1) 1 6 := ⟨by decide +kernel, rfl⟩
theorem dX7_judgeLimit_6 : Dx cX7_judgeLimit 6 (.bipush 20) 2 8 := ⟨by decide +kernel, rfl⟩
theorem dX7_judgeLimit_8 : Dc cX7_judgeLimit 8 (fun o => .if_icmp .le o) 20 11 := ⟨12, by decide +kernel, by decide, rfl⟩
theorem dX7_judgeLimit_11 : Dx cX7_judgeLimit 11 (.aload_n 2) 1 12 := ⟨by decide +kernel, rfl⟩
theorem dX7_judgeLimit_12 : Dx cX7_judgeLimit 12 (.iconst 1) 1 13 := ⟨by decide +kernel, rfl⟩
theorem dX7_judgeLimit_13 : Dx cX7_judgeLimit 13 (.iconst 0) 1 14 := ⟨by decide +kernel, rfl⟩
theorem dX7_judgeLimit_14 : Dx cX7_judgeLimit 14 (.invokevirtual 67) 3 17 := ⟨by decide +kernel, rfl⟩
theorem dX7_judgeLimit_17 : Dc cX7_judgeLimit 17 (fun o => .goto o) 42 20 := ⟨25, by decide +kernel, by decide, rfl⟩
theorem dX7_judgeLimit_20 : Dx cX7_judgeLimit 20 (.iload_n 1) 1 21 := ⟨by decide +kernel, rfl⟩
theorem dX7_judgeLimit_21 : Dx cX7_judgeLimit 21 (.aload_n 0) 1 22 := ⟨by decide +kernel, rfl⟩
theorem dX7_judgeLimit_22 : Dx cX7_judgeLimit 22 (.getfield 42) 3 25 := ⟨by decide +kernel, rfl⟩
theorem dX7_judgeLimit_25 : Dc cX7_judgeLimit 25 (fun o => .if_icmp .ne o) 38 28 := ⟨13, by decide +kernel, by decide, rfl⟩
theorem dX7_judgeLimit_28 : Dx cX7_judgeLimit 28 (.aload_n 2) 1 29 := ⟨by decide +kernel, rfl⟩
theorem dX7_judgeLimit_29 : Dx cX7_judgeLimit 29 (.bipush 6) 2 31 := ⟨by decide +kernel, rfl⟩
theorem dX7_judgeLimit_31 : Dx cX7_judgeLimit 31 (.iconst 0) 1 32 := ⟨by decide +kernel, rfl⟩
theorem dX7_judgeLimit_32 : Dx cX7_judgeLimit 32 (.invokevirtual 67) 3 35 := ⟨by decide +kernel, rfl⟩
theorem dX7_judgeLimit_35 : Dc cX7_judgeLimit 35 (fun o => .goto o) 42 38 := ⟨7, by decide +kernel, by decide, rfl⟩
theorem dX7_judgeLimit_38 : Dx cX7_judgeLimit 38 (.aload_n 2) 1 39 := ⟨by decide +kernel, rfl⟩
theorem dX7_judgeLimit_39 : Dx cX7_judgeLimit 39 (.invokevirtual 73) 3 42 := ⟨by decide +kernel, rfl⟩
theorem dX7_judgeLimit_42 : Dx cX7_judgeLimit 42 (.return_) 1 43 := ⟨by decide +kernel, rfl⟩
theorem dX7_setLimit_0 : Dx cX7_setLimit 0 (.aload_n 0) 1 1 := ⟨by decide +kernel, rfl⟩
theorem dX7_setLimit_1 : Dx cX7_setLimit 1 (.getfield 42) 3 4 := ⟨by decide +kernel, rfl⟩
theorem dX7_setLimit_4 : Dx cX7_setLimit 4 (.istore_n 2) 1 5 := ⟨by decide +kernel, rfl⟩
theorem dX7_setLimit_5 : Dx cX7_setLimit 5 (.aload_n 0) 1 6 := ⟨by decide +kernel, rfl⟩
theorem dX7_setLimit_6 : Dx cX7_setLimit 6 (.iload_n 1) 1 7 := ⟨by decide +kernel, rfl⟩
theorem dX7_setLimit_7 : Dx cX7_setLimit 7 (.putfield 42) 3 10 := ⟨by decide +kernel, rfl⟩
theorem dX7_setLimit_10 : Dx cX7_setLimit 10 (.iload_n 2) 1 11 := ⟨by decide +kernel, rfl⟩
theorem dX7_setLimit_11 : Dx cX7_setLimit 11 (.ireturn) 1 12 := ⟨by decide +kernel, rfl⟩
theorem dX7_judgePass_0 : Dx cX7_judgePass 0 (.iload_n 1) 1 1 := ⟨by decide +kernel, rfl⟩
theorem dX7_judgePass_1 : Dx cX7_judgePass 1 (.iconst 1) 1 2 := ⟨by decide +kernel, rfl⟩
theorem dX7_judgePass_2 : Dc cX7_judgePass 2 (fun o => .if_icmp .lt o) 11 5 := ⟨9, by decide +kernel, by decide, rfl⟩
theorem dX7_judgePass_5 : Dx cX7_judgePass 5 (.iload_n 1) 1 6 := ⟨by decide +kernel, rfl⟩
theorem dX7_judgePass_6 : Dx cX7_judgePass 6 (.bipush 99) 2 8 := ⟨by decide +kernel, rfl⟩
theorem dX7_judgePass_8 : Dc cX7_judgePass 8 (fun o => .if_icmp .le o) 20 11 := ⟨12, by decide +kernel, by decide, rfl⟩
theorem dX7_judgePass_11 : Dx cX7_judgePass 11 (.aload_n 2) 1 12 := ⟨by decide +kernel, rfl⟩
theorem dX7_judgePass_12 : Dx cX7_judgePass 12 (.iconst 1) 1 13 := ⟨by decide +kernel, rfl⟩
theorem dX7_judgePass_13 : Dx cX7_judgePass 13 (.iconst 0) 1 14 := ⟨by decide +kernel, rfl⟩
theorem dX7_judgePass_14 : Dx cX7_judgePass 14 (.invokevirtual 67) 3 17 := ⟨by decide +kernel, rfl⟩
theorem dX7_judgePass_17 : Dc cX7_judgePass 17 (fun o => .goto o) 24 20 := ⟨7, by decide +kernel, by decide, rfl⟩
theorem dX7_judgePass_20 : Dx cX7_judgePass 20 (.aload_n 2) 1 21 := ⟨by decide +kernel, rfl⟩
theorem dX7_judgePass_21 : Dx cX7_judgePass 21 (.invokevirtual 73) 3 24 := ⟨by decide +kernel, rfl⟩
theorem dX7_judgePass_24 : Dx cX7_judgePass 24 (.return_) 1 25 := ⟨by decide +kernel, rfl⟩
theorem dX7_passHours_0 : Dx cX7_passHours 0 (.aload_n 0) 1 1 := ⟨by decide +kernel, rfl⟩
theorem dX7_passHours_1 : Dx cX7_passHours 1 (.getfield 48) 3 4 := ⟨by decide +kernel, rfl⟩
theorem dX7_passHours_4 : Dx cX7_passHours 4 (.istore_n 2) 1 5 := ⟨by decide +kernel, rfl⟩
theorem dX7_passHours_5 : Dx cX7_passHours 5 (.iconst 0) 1 6 := ⟨by decide +kernel, rfl⟩
theorem dX7_passHours_6 : Dx cX7_passHours 6 (.istore_n 3) 1 7 := ⟨by decide +kernel, rfl⟩
theorem dX7_passHours_7 : Dx cX7_passHours 7 (.iload_n 3) 1 8 := ⟨by decide +kernel, rfl⟩
theorem dX7_passHours_8 : Dx cX7_passHours 8 (.iload_n 1) 1 9 := ⟨by decide +kernel, rfl⟩
theorem dX7_passHours_9 : Dc cX7_passHours 9 (fun o => .if_icmp .ge o) 40 12 := ⟨31, by decide +kernel, by decide, rfl⟩
theorem dX7_passHours_12 : Dx cX7_passHours 12 (.aload_n 0) 1 13 := ⟨by decide +kernel, rfl⟩
theorem dX7_passHours_13 : Dx cX7_passHours 13 (.dup) 1 14 := ⟨by decide +kernel, rfl⟩
theorem dX7_passHours_14 : Dx cX7_passHours 14 (.getfield 39) 3 17 := ⟨by decide +kernel, rfl⟩
theorem dX7_passHours_17 : Dx cX7_passHours 17 (.iconst 1) 1 18 := ⟨by decide +kernel, rfl⟩
theorem dX7_passHours_18 : Dx cX7_passHours 18 (.iadd) 1 19 := ⟨by decide +kernel, rfl⟩
theorem dX7_passHours_19 : Dx cX7_passHours 19 (.putfield 39) 3 22 := ⟨by decide +kernel, rfl⟩
theorem dX7_passHours_22 : Dx cX7_passHours 22 (.aload_n 0) 1 23 := ⟨by decide +kernel, rfl⟩
theorem dX7_passHours_23 : Dx cX7_passHours 23 (.invokevirtual 175) 3 26 := ⟨by decide +kernel, rfl⟩
theorem dX7_passHours_26 : Dx cX7_passHours 26 (.aload_n 0) 1 27 := ⟨by decide +kernel, rfl⟩
theorem dX7_passHours_27 : Dx cX7_passHours 27 (.invokevirtual 178) 3 30 := ⟨by decide +kernel, rfl⟩
theorem dX7_passHours_30 : Dx cX7_passHours 30 (.aload_n 0) 1 31 := ⟨by decide +kernel, rfl⟩
theorem dX7_passHours_31 : Dx cX7_passHours 31 (.invokevirtual 181) 3 34 := ⟨by decide +kernel, rfl⟩
theorem dX7_passHours_34 : Dx cX7_passHours 34 (.iinc 3 1) 3 37 := ⟨by decide +kernel, rfl⟩
theorem dX7_passHours_37 : Dc cX7_passHours 37 (fun o => .goto o) 7 40 := ⟨(-30), by decide +kernel, by decide, rfl⟩
theorem dX7_passHours_40 : Dx cX7_passHours 40 (.aload_n 0) 1 41 := ⟨by decide +kernel, rfl⟩
theorem dX7_passHours_41 : Dx cX7_passHours 41 (.getfield 48) 3 44 := ⟨by decide +kernel, rfl⟩
theorem dX7_passHours_44 : Dx cX7_passHours 44 (.iload_n 2) 1 45 := ⟨by decide +kernel, rfl⟩
theorem dX7_passHours_45 : Dx cX7_passHours 45 (.isub) 1 46 := ⟨by decide +kernel, rfl⟩
theorem dX7_passHours_46 : Dx cX7_passHours 46 (.ireturn) 1 47 := ⟨by decide +kernel, rfl⟩
theorem dX7_tireMembers_0 : Dx cX7_tireMembers 0 (.iconst 0) 1 1 := ⟨by decide +kernel, rfl⟩
theorem dX7_tireMembers_1 : Dx cX7_tireMembers 1 (.istore_n 1) 1 2 := ⟨by decide +kernel, rfl⟩
theorem dX7_tireMembers_2 : Dx cX7_tireMembers 2 (.iload_n 1) 1 3 := ⟨by decide +kernel, rfl⟩
theorem dX7_tireMembers_3 : Dx cX7_tireMembers 3 (.aload_n 0) 1 4 := ⟨by decide +kernel, rfl⟩
theorem dX7_tireMembers_4 : Dx cX7_tireMembers 4 (.getfield 29) 3 7 := ⟨by decide +kernel, rfl⟩
theorem dX7_tireMembers_7 : Dc cX7_tireMembers 7 (fun o => .if_icmp .ge o) 98 10 := ⟨91, by decide +kernel, by decide, rfl⟩
theorem dX7_tireMembers_10 : Dx cX7_tireMembers 10 (.aload_n 0) 1 11 := ⟨by decide +kernel, rfl⟩
theorem dX7_tireMembers_11 : Dx cX7_tireMembers 11 (.getfield 11) 3 14 := ⟨by decide +kernel, rfl⟩
theorem dX7_tireMembers_14 : Dx cX7_tireMembers 14 (.iload_n 1) 1 15 := ⟨by decide +kernel, rfl⟩
theorem dX7_tireMembers_15 : Dx cX7_tireMembers 15 (.aaload) 1 16 := ⟨by decide +kernel, rfl⟩
theorem dX7_tireMembers_16 : Dx cX7_tireMembers 16 (.astore_n 2) 1 17 := ⟨by decide +kernel, rfl⟩
theorem dX7_tireMembers_17 : Dx cX7_tireMembers 17 (.aload_n 2) 1 18 := ⟨by decide +kernel, rfl⟩
theorem dX7_tireMembers_18 : Dx cX7_tireMembers 18 (.invokevirtual 87) 3 21 := ⟨by decide +kernel, rfl⟩
theorem dX7_tireMembers_21 : Dc cX7_tireMembers 21 (fun o => .ifCond .eq o) 67 24 := ⟨46, by decide +kernel, by decide, rfl⟩
theorem dX7_tireMembers_24 : Dx cX7_tireMembers 24 (.aload_n 2) 1 25 := ⟨by decide +kernel, rfl⟩
theorem dX7_tireMembers_25 : Dx cX7_tireMembers 25 (.dup) 1 26 := ⟨by decide +kernel, rfl⟩
theorem dX7_tireMembers_26 : Dx cX7_tireMembers 26 (.getfield 184) 3 29 := ⟨by decide +kernel, rfl⟩
theorem dX7_tireMembers_29 : Dx cX7_tireMembers 29 (.aload_n 0) 1 30 := ⟨by decide +kernel, rfl⟩
theorem dX7_tireMembers_30 : Dx cX7_tireMembers 30 (.getfield 19) 3 33 := ⟨by decide +kernel, rfl⟩
theorem dX7_tireMembers_33 : Dx cX7_tireMembers 33 (.aload_n 2) 1 34 := ⟨by decide +kernel, rfl⟩
theorem dX7_tireMembers_34 : Dx cX7_tireMembers 34 (.getfield 84) 3 37 := ⟨by decide +kernel, rfl⟩
theorem dX7_tireMembers_37 : Dx cX7_tireMembers 37 (.aaload) 1 38 := ⟨by decide +kernel, rfl⟩
theorem dX7_tireMembers_38 : Dx cX7_tireMembers 38 (.getfield 158) 3 41 := ⟨by decide +kernel, rfl⟩
theorem dX7_tireMembers_41 : Dx cX7_tireMembers 41 (.iload_n 1) 1 42 := ⟨by decide +kernel, rfl⟩
theorem dX7_tireMembers_42 : Dc cX7_tireMembers 42 (fun o => .if_icmp .ne o) 49 45 := ⟨7, by decide +kernel, by decide, rfl⟩
theorem dX7_tireMembers_45 : Dx cX7_tireMembers 45 (.iconst 2) 1 46 := ⟨by decide +kernel, rfl⟩
theorem dX7_tireMembers_46 : Dc cX7_tireMembers 46 (fun o => .goto o) 50 49 := ⟨4, by decide +kernel, by decide, rfl⟩
theorem dX7_tireMembers_49 : Dx cX7_tireMembers 49 (.iconst 1) 1 50 := ⟨by decide +kernel, rfl⟩
theorem dX7_tireMembers_50 : Dx cX7_tireMembers 50 (.iadd) 1 51 := ⟨by decide +kernel, rfl⟩
theorem dX7_tireMembers_51 : Dx cX7_tireMembers 51 (.putfield 184) 3 54 := ⟨by decide +kernel, rfl⟩
theorem dX7_tireMembers_54 : Dx cX7_tireMembers 54 (.aload_n 2) 1 55 := ⟨by decide +kernel, rfl⟩
theorem dX7_tireMembers_55 : Dx cX7_tireMembers 55 (.dup) 1 56 := ⟨by decide +kernel, rfl⟩
theorem dX7_tireMembers_56 : Dx cX7_tireMembers 56 (.getfield 187) 3 59 := ⟨by decide +kernel, rfl⟩
theorem dX7_tireMembers_59 : Dx cX7_tireMembers 59 (.iconst 1) 1 60 := ⟨by decide +kernel, rfl⟩
theorem dX7_tireMembers_60 : Dx cX7_tireMembers 60 (.iadd) 1 61 := ⟨by decide +kernel, rfl⟩
theorem dX7_tireMembers_61 : Dx cX7_tireMembers 61 (.putfield 187) 3 64 := ⟨by decide +kernel, rfl⟩
theorem dX7_tireMembers_64 : Dc cX7_tireMembers 64 (fun o => .goto o) 92 67 := ⟨28, by decide +kernel, by decide, rfl⟩
theorem dX7_tireMembers_67 : Dx cX7_tireMembers 67 (.aload_n 2) 1 68 := ⟨by decide +kernel, rfl⟩
theorem dX7_tireMembers_68 : Dx cX7_tireMembers 68 (.getfield 84) 3 71 := ⟨by decide +kernel, rfl⟩
theorem dX7_tireMembers_71 : Dx cX7_tireMembers 71 (.iconst (-1)) 1 72 := ⟨by decide +kernel, rfl⟩
theorem dX7_tireMembers_72 : Dc cX7_tireMembers 72 (fun o => .if_icmp .ne o) 92 75 := ⟨20, by decide +kernel, by decide, rfl⟩
theorem dX7_tireMembers_75 : Dx cX7_tireMembers 75 (.aload_n 2) 1 76 := ⟨by decide +kernel, rfl⟩
theorem dX7_tireMembers_76 : Dx cX7_tireMembers 76 (.getfield 184) 3 79 := ⟨by decide +kernel, rfl⟩
theorem dX7_tireMembers_79 : Dc cX7_tireMembers 79 (fun o => .ifCond .le o) 92 82 := ⟨13, by decide +kernel, by decide, rfl⟩
theorem dX7_tireMembers_82 : Dx cX7_tireMembers 82 (.aload_n 2) 1 83 := ⟨by decide +kernel, rfl⟩
theorem dX7_tireMembers_83 : Dx cX7_tireMembers 83 (.dup) 1 84 := ⟨by decide +kernel, rfl⟩
theorem dX7_tireMembers_84 : Dx cX7_tireMembers 84 (.getfield 184) 3 87 := ⟨by decide +kernel, rfl⟩
theorem dX7_tireMembers_87 : Dx cX7_tireMembers 87 (.iconst 1) 1 88 := ⟨by decide +kernel, rfl⟩
theorem dX7_tireMembers_88 : Dx cX7_tireMembers 88 (.isub) 1 89 := ⟨by decide +kernel, rfl⟩
theorem dX7_tireMembers_89 : Dx cX7_tireMembers 89 (.putfield 184) 3 92 := ⟨by decide +kernel, rfl⟩
theorem dX7_tireMembers_92 : Dx cX7_tireMembers 92 (.iinc 1 1) 3 95 := ⟨by decide +kernel, rfl⟩
theorem dX7_tireMembers_95 : Dc cX7_tireMembers 95 (fun o => .goto o) 2 98 := ⟨(-93), by decide +kernel, by decide, rfl⟩
theorem dX7_tireMembers_98 : Dx cX7_tireMembers 98 (.return_) 1 99 := ⟨by decide +kernel, rfl⟩
theorem dX7_sailBoats_0 : Dx cX7_sailBoats 0 (.iconst 0) 1 1 := ⟨by decide +kernel, rfl⟩
theorem dX7_sailBoats_1 : Dx cX7_sailBoats 1 (.istore_n 1) 1 2 := ⟨by decide +kernel, rfl⟩
theorem dX7_sailBoats_2 : Dx cX7_sailBoats 2 (.iload_n 1) 1 3 := ⟨by decide +kernel, rfl⟩
theorem dX7_sailBoats_3 : Dx cX7_sailBoats 3 (.aload_n 0) 1 4 := ⟨by decide +kernel, rfl⟩
theorem dX7_sailBoats_4 : Dx cX7_sailBoats 4 (.getfield 33) 3 7 := ⟨by decide +kernel, rfl⟩
theorem dX7_sailBoats_7 : Dc cX7_sailBoats 7 (fun o => .if_icmp .ge o) 33 10 := ⟨26, by decide +kernel, by decide, rfl⟩
theorem dX7_sailBoats_10 : Dx cX7_sailBoats 10 (.aload_n 0) 1 11 := ⟨by decide +kernel, rfl⟩
theorem dX7_sailBoats_11 : Dx cX7_sailBoats 11 (.getfield 19) 3 14 := ⟨by decide +kernel, rfl⟩
theorem dX7_sailBoats_14 : Dx cX7_sailBoats 14 (.iload_n 1) 1 15 := ⟨by decide +kernel, rfl⟩
theorem dX7_sailBoats_15 : Dx cX7_sailBoats 15 (.aaload) 1 16 := ⟨by decide +kernel, rfl⟩
theorem dX7_sailBoats_16 : Dx cX7_sailBoats 16 (.invokevirtual 116) 3 19 := ⟨by decide +kernel, rfl⟩
theorem dX7_sailBoats_19 : Dc cX7_sailBoats 19 (fun o => .ifCond .eq o) 27 22 := ⟨8, by decide +kernel, by decide, rfl⟩
theorem dX7_sailBoats_22 : Dx cX7_sailBoats 22 (.aload_n 0) 1 23 := ⟨by decide +kernel, rfl⟩
theorem dX7_sailBoats_23 : Dx cX7_sailBoats 23 (.iload_n 1) 1 24 := ⟨by decide +kernel, rfl⟩
theorem dX7_sailBoats_24 : Dx cX7_sailBoats 24 (.invokevirtual 190) 3 27 := ⟨by decide +kernel, rfl⟩
theorem dX7_sailBoats_27 : Dx cX7_sailBoats 27 (.iinc 1 1) 3 30 := ⟨by decide +kernel, rfl⟩
theorem dX7_sailBoats_30 : Dc cX7_sailBoats 30 (fun o => .goto o) 2 33 := ⟨(-28), by decide +kernel, by decide, rfl⟩
theorem dX7_sailBoats_33 : Dx cX7_sailBoats 33 (.return_) 1 34 := ⟨by decide +kernel, rfl⟩
theorem dX7_sailBoat_0 : Dx cX7_sailBoat 0 (.aload_n 0) 1 1 := ⟨by decide +kernel, rfl⟩
theorem dX7_sailBoat_1 : Dx cX7_sailBoat 1 (.getfield 19) 3 4 := ⟨by decide +kernel, rfl⟩
theorem dX7_sailBoat_4 : Dx cX7_sailBoat 4 (.iload_n 1) 1 5 := ⟨by decide +kernel, rfl⟩
theorem dX7_sailBoat_5 : Dx cX7_sailBoat 5 (.aaload) 1 6 := ⟨by decide +kernel, rfl⟩
theorem dX7_sailBoat_6 : Dx cX7_sailBoat 6 (.astore_n 2) 1 7 := ⟨by decide +kernel, rfl⟩
theorem dX7_sailBoat_7 : Dx cX7_sailBoat 7 (.aload_n 2) 1 8 := ⟨by decide +kernel, rfl⟩
theorem dX7_sailBoat_8 : Dx cX7_sailBoat 8 (.getfield 161) 3 11 := ⟨by decide +kernel, rfl⟩
theorem dX7_sailBoat_11 : Dc cX7_sailBoat 11 (fun o => .ifCond .le o) 24 14 := ⟨13, by decide +kernel, by decide, rfl⟩
theorem dX7_sailBoat_14 : Dx cX7_sailBoat 14 (.aload_n 2) 1 15 := ⟨by decide +kernel, rfl⟩
theorem dX7_sailBoat_15 : Dx cX7_sailBoat 15 (.dup) 1 16 := ⟨by decide +kernel, rfl⟩
theorem dX7_sailBoat_16 : Dx cX7_sailBoat 16 (.getfield 161) 3 19 := ⟨by decide +kernel, rfl⟩
theorem dX7_sailBoat_19 : Dx cX7_sailBoat 19 (.iconst 1) 1 20 := ⟨by decide +kernel, rfl⟩
theorem dX7_sailBoat_20 : Dx cX7_sailBoat 20 (.isub) 1 21 := ⟨by decide +kernel, rfl⟩
theorem dX7_sailBoat_21 : Dx cX7_sailBoat 21 (.putfield 161) 3 24 := ⟨by decide +kernel, rfl⟩
theorem dX7_sailBoat_24 : Dx cX7_sailBoat 24 (.aload_n 2) 1 25 := ⟨by decide +kernel, rfl⟩
theorem dX7_sailBoat_25 : Dx cX7_sailBoat 25 (.getfield 161) 3 28 := ⟨by decide +kernel, rfl⟩
theorem dX7_sailBoat_28 : Dc cX7_sailBoat 28 (fun o => .ifCond .le o) 32 31 := ⟨4, by decide +kernel, by decide, rfl⟩
theorem dX7_sailBoat_31 : Dx cX7_sailBoat 31 (.return_) 1 32 := ⟨by decide +kernel, rfl⟩
theorem dX7_sailBoat_32 : Dx cX7_sailBoat 32 (.aload_n 0) 1 33 := ⟨by decide +kernel, rfl⟩
theorem dX7_sailBoat_33 : Dx cX7_sailBoat 33 (.getfield 39) 3 36 := ⟨by decide +kernel, rfl⟩
theorem dX7_sailBoat_36 : Dx cX7_sailBoat 36 (.invokestatic 117) 3 39 := ⟨by decide +kernel, rfl⟩
theorem dX7_sailBoat_39 : Dx cX7_sailBoat 39 (.aload_n 2) 1 40 := ⟨by decide +kernel, rfl⟩
theorem dX7_sailBoat_40 : Dx cX7_sailBoat 40 (.getfield 120) 3 43 := ⟨by decide +kernel, rfl⟩
theorem dX7_sailBoat_43 : Dc cX7_sailBoat 43 (fun o => .if_icmp .lt o) 54 46 := ⟨11, by decide +kernel, by decide, rfl⟩
theorem dX7_sailBoat_46 : Dx cX7_sailBoat 46 (.aload_n 0) 1 47 := ⟨by decide +kernel, rfl⟩
theorem dX7_sailBoat_47 : Dx cX7_sailBoat 47 (.iload_n 1) 1 48 := ⟨by decide +kernel, rfl⟩
theorem dX7_sailBoat_48 : Dx cX7_sailBoat 48 (.invokevirtual 193) 3 51 := ⟨by decide +kernel, rfl⟩
theorem dX7_sailBoat_51 : Dc cX7_sailBoat 51 (fun o => .goto o) 64 54 := ⟨13, by decide +kernel, by decide, rfl⟩
theorem dX7_sailBoat_54 : Dx cX7_sailBoat 54 (.aload_n 2) 1 55 := ⟨by decide +kernel, rfl⟩
theorem dX7_sailBoat_55 : Dx cX7_sailBoat 55 (.dup) 1 56 := ⟨by decide +kernel, rfl⟩
theorem dX7_sailBoat_56 : Dx cX7_sailBoat 56 (.getfield 196) 3 59 := ⟨by decide +kernel, rfl⟩
theorem dX7_sailBoat_59 : Dx cX7_sailBoat 59 (.iconst 1) 1 60 := ⟨by decide +kernel, rfl⟩
theorem dX7_sailBoat_60 : Dx cX7_sailBoat 60 (.iadd) 1 61 := ⟨by decide +kernel, rfl⟩
theorem dX7_sailBoat_61 : Dx cX7_sailBoat 61 (.putfield 196) 3 64 := ⟨by decide +kernel, rfl⟩
theorem dX7_sailBoat_64 : Dx cX7_sailBoat 64 (.return_) 1 65 := ⟨by decide +kernel, rfl⟩
theorem dX7_bringIn_0 : Dx cX7_bringIn 0 (.iconst 0) 1 1 := ⟨by decide +kernel, rfl⟩
theorem dX7_bringIn_1 : Dx cX7_bringIn 1 (.istore_n 2) 1 2 := ⟨by decide +kernel, rfl⟩
theorem dX7_bringIn_2 : Dx cX7_bringIn 2 (.iload_n 2) 1 3 := ⟨by decide +kernel, rfl⟩
theorem dX7_bringIn_3 : Dx cX7_bringIn 3 (.aload_n 0) 1 4 := ⟨by decide +kernel, rfl⟩
theorem dX7_bringIn_4 : Dx cX7_bringIn 4 (.getfield 29) 3 7 := ⟨by decide +kernel, rfl⟩
theorem dX7_bringIn_7 : Dc cX7_bringIn 7 (fun o => .if_icmp .ge o) 39 10 := ⟨32, by decide +kernel, by decide, rfl⟩
theorem dX7_bringIn_10 : Dx cX7_bringIn 10 (.aload_n 0) 1 11 := ⟨by decide +kernel, rfl⟩
theorem dX7_bringIn_11 : Dx cX7_bringIn 11 (.getfield 11) 3 14 := ⟨by decide +kernel, rfl⟩
theorem dX7_bringIn_14 : Dx cX7_bringIn 14 (.iload_n 2) 1 15 := ⟨by decide +kernel, rfl⟩
theorem dX7_bringIn_15 : Dx cX7_bringIn 15 (.aaload) 1 16 := ⟨by decide +kernel, rfl⟩
theorem dX7_bringIn_16 : Dx cX7_bringIn 16 (.getfield 84) 3 19 := ⟨by decide +kernel, rfl⟩
theorem dX7_bringIn_19 : Dx cX7_bringIn 19 (.iload_n 1) 1 20 := ⟨by decide +kernel, rfl⟩
theorem dX7_bringIn_20 : Dc cX7_bringIn 20 (fun o => .if_icmp .ne o) 33 23 := ⟨13, by decide +kernel, by decide, rfl⟩
theorem dX7_bringIn_23 : Dx cX7_bringIn 23 (.aload_n 0) 1 24 := ⟨by decide +kernel, rfl⟩
theorem dX7_bringIn_24 : Dx cX7_bringIn 24 (.getfield 11) 3 27 := ⟨by decide +kernel, rfl⟩
theorem dX7_bringIn_27 : Dx cX7_bringIn 27 (.iload_n 2) 1 28 := ⟨by decide +kernel, rfl⟩
theorem dX7_bringIn_28 : Dx cX7_bringIn 28 (.aaload) 1 29 := ⟨by decide +kernel, rfl⟩
theorem dX7_bringIn_29 : Dx cX7_bringIn 29 (.iconst (-1)) 1 30 := ⟨by decide +kernel, rfl⟩
theorem dX7_bringIn_30 : Dx cX7_bringIn 30 (.putfield 84) 3 33 := ⟨by decide +kernel, rfl⟩
theorem dX7_bringIn_33 : Dx cX7_bringIn 33 (.iinc 2 1) 3 36 := ⟨by decide +kernel, rfl⟩
theorem dX7_bringIn_36 : Dc cX7_bringIn 36 (fun o => .goto o) 2 39 := ⟨(-34), by decide +kernel, by decide, rfl⟩
theorem dX7_bringIn_39 : Dx cX7_bringIn 39 (.aload_n 0) 1 40 := ⟨by decide +kernel, rfl⟩
theorem dX7_bringIn_40 : Dx cX7_bringIn 40 (.getfield 19) 3 43 := ⟨by decide +kernel, rfl⟩
theorem dX7_bringIn_43 : Dx cX7_bringIn 43 (.iload_n 1) 1 44 := ⟨by decide +kernel, rfl⟩
theorem dX7_bringIn_44 : Dx cX7_bringIn 44 (.aaload) 1 45 := ⟨by decide +kernel, rfl⟩
theorem dX7_bringIn_45 : Dx cX7_bringIn 45 (.iconst (-1)) 1 46 := ⟨by decide +kernel, rfl⟩
theorem dX7_bringIn_46 : Dx cX7_bringIn 46 (.putfield 158) 3 49 := ⟨by decide +kernel, rfl⟩
theorem dX7_bringIn_49 : Dx cX7_bringIn 49 (.aload_n 0) 1 50 := ⟨by decide +kernel, rfl⟩
theorem dX7_bringIn_50 : Dx cX7_bringIn 50 (.dup) 1 51 := ⟨by decide +kernel, rfl⟩
theorem dX7_bringIn_51 : Dx cX7_bringIn 51 (.getfield 48) 3 54 := ⟨by decide +kernel, rfl⟩
theorem dX7_bringIn_54 : Dx cX7_bringIn 54 (.iconst 1) 1 55 := ⟨by decide +kernel, rfl⟩
theorem dX7_bringIn_55 : Dx cX7_bringIn 55 (.iadd) 1 56 := ⟨by decide +kernel, rfl⟩
theorem dX7_bringIn_56 : Dx cX7_bringIn 56 (.putfield 48) 3 59 := ⟨by decide +kernel, rfl⟩
theorem dX7_bringIn_59 : Dx cX7_bringIn 59 (.return_) 1 60 := ⟨by decide +kernel, rfl⟩
theorem dX7_ageLoans_0 : Dx cX7_ageLoans 0 (.aload_n 0) 1 1 := ⟨by decide +kernel, rfl⟩
theorem dX7_ageLoans_1 : Dx cX7_ageLoans 1 (.invokevirtual 199) 3 4 := ⟨by decide +kernel, rfl⟩
theorem dX7_ageLoans_4 : Dx cX7_ageLoans 4 (.istore_n 1) 1 5 := ⟨by decide +kernel, rfl⟩
theorem dX7_ageLoans_5 : Dx cX7_ageLoans 5 (.aload_n 0) 1 6 := ⟨by decide +kernel, rfl⟩
theorem dX7_ageLoans_6 : Dx cX7_ageLoans 6 (.getfield 36) 3 9 := ⟨by decide +kernel, rfl⟩
theorem dX7_ageLoans_9 : Dx cX7_ageLoans 9 (.istore_n 2) 1 10 := ⟨by decide +kernel, rfl⟩
theorem dX7_ageLoans_10 : Dx cX7_ageLoans 10 (.iconst 0) 1 11 := ⟨by decide +kernel, rfl⟩
theorem dX7_ageLoans_11 : Dx cX7_ageLoans 11 (.istore_n 3) 1 12 := ⟨by decide +kernel, rfl⟩
theorem dX7_ageLoans_12 : Dx cX7_ageLoans 12 (.iconst 0) 1 13 := ⟨by decide +kernel, rfl⟩
theorem dX7_ageLoans_13 : Dx cX7_ageLoans 13 (.istore 4) 2 15 := ⟨by decide +kernel, rfl⟩
theorem dX7_ageLoans_15 : Dx cX7_ageLoans 15 (.iload 4) 2 17 := ⟨by decide +kernel, rfl⟩
theorem dX7_ageLoans_17 : Dx cX7_ageLoans 17 (.iload_n 2) 1 18 := ⟨by decide +kernel, rfl⟩
theorem dX7_ageLoans_18 : Dc cX7_ageLoans 18 (fun o => .if_icmp .ge o) 137 21 := ⟨119, by decide +kernel, by decide, rfl⟩
theorem dX7_ageLoans_21 : Dx cX7_ageLoans 21 (.aload_n 0) 1 22 := ⟨by decide +kernel, rfl⟩
theorem dX7_ageLoans_22 : Dx cX7_ageLoans 22 (.getfield 25) 3 25 := ⟨by decide +kernel, rfl⟩
theorem dX7_ageLoans_25 : Dx cX7_ageLoans 25 (.iload_n 3) 1 26 := ⟨by decide +kernel, rfl⟩
theorem dX7_ageLoans_26 : Dx cX7_ageLoans 26 (.aaload) 1 27 := ⟨by decide +kernel, rfl⟩
theorem dX7_ageLoans_27 : Dx cX7_ageLoans 27 (.getfield 202) 3 30 := ⟨by decide +kernel, rfl⟩
theorem dX7_ageLoans_30 : Dc cX7_ageLoans 30 (fun o => .ifCond .le o) 48 33 := ⟨18, by decide +kernel, by decide, rfl⟩
theorem dX7_ageLoans_33 : Dx cX7_ageLoans 33 (.aload_n 0) 1 34 := ⟨by decide +kernel, rfl⟩
theorem dX7_ageLoans_34 : Dx cX7_ageLoans 34 (.getfield 25) 3 37 := ⟨by decide +kernel, rfl⟩
theorem dX7_ageLoans_37 : Dx cX7_ageLoans 37 (.iload_n 3) 1 38 := ⟨by decide +kernel, rfl⟩
theorem dX7_ageLoans_38 : Dx cX7_ageLoans 38 (.aaload) 1 39 := ⟨by decide +kernel, rfl⟩
theorem dX7_ageLoans_39 : Dx cX7_ageLoans 39 (.dup) 1 40 := ⟨by decide +kernel, rfl⟩
theorem dX7_ageLoans_40 : Dx cX7_ageLoans 40 (.getfield 202) 3 43 := ⟨by decide +kernel, rfl⟩
theorem dX7_ageLoans_43 : Dx cX7_ageLoans 43 (.iconst 1) 1 44 := ⟨by decide +kernel, rfl⟩
theorem dX7_ageLoans_44 : Dx cX7_ageLoans 44 (.isub) 1 45 := ⟨by decide +kernel, rfl⟩
theorem dX7_ageLoans_45 : Dx cX7_ageLoans 45 (.putfield 202) 3 48 := ⟨by decide +kernel, rfl⟩
theorem dX7_ageLoans_48 : Dx cX7_ageLoans 48 (.aload_n 0) 1 49 := ⟨by decide +kernel, rfl⟩
theorem dX7_ageLoans_49 : Dx cX7_ageLoans 49 (.getfield 25) 3 52 := ⟨by decide +kernel, rfl⟩
theorem dX7_ageLoans_52 : Dx cX7_ageLoans 52 (.iload_n 3) 1 53 := ⟨by decide +kernel, rfl⟩
theorem dX7_ageLoans_53 : Dx cX7_ageLoans 53 (.aaload) 1 54 := ⟨by decide +kernel, rfl⟩
theorem dX7_ageLoans_54 : Dx cX7_ageLoans 54 (.getfield 202) 3 57 := ⟨by decide +kernel, rfl⟩
theorem dX7_ageLoans_57 : Dc cX7_ageLoans 57 (fun o => .ifCond .ne o) 64 60 := ⟨7, by decide +kernel, by decide, rfl⟩
theorem dX7_ageLoans_60 : Dx cX7_ageLoans 60 (.iconst 1) 1 61 := ⟨by decide +kernel, rfl⟩
theorem dX7_ageLoans_61 : Dc cX7_ageLoans 61 (fun o => .goto o) 65 64 := ⟨4, by decide +kernel, by decide, rfl⟩
theorem dX7_ageLoans_64 : Dx cX7_ageLoans 64 (.iconst 0) 1 65 := ⟨by decide +kernel, rfl⟩
theorem dX7_ageLoans_65 : Dx cX7_ageLoans 65 (.istore 5) 2 67 := ⟨by decide +kernel, rfl⟩
theorem dX7_ageLoans_67 : Dx cX7_ageLoans 67 (.iload 5) 2 69 := ⟨by decide +kernel, rfl⟩
theorem dX7_ageLoans_69 : Dc cX7_ageLoans 69 (fun o => .ifCond .eq o) 98 72 := ⟨29, by decide +kernel, by decide, rfl⟩
theorem dX7_ageLoans_72 : Dx cX7_ageLoans 72 (.aload_n 0) 1 73 := ⟨by decide +kernel, rfl⟩
theorem dX7_ageLoans_73 : Dx cX7_ageLoans 73 (.getfield 25) 3 76 := ⟨by decide +kernel, rfl⟩
theorem dX7_ageLoans_76 : Dx cX7_ageLoans 76 (.iload_n 3) 1 77 := ⟨by decide +kernel, rfl⟩
theorem dX7_ageLoans_77 : Dx cX7_ageLoans 77 (.aaload) 1 78 := ⟨by decide +kernel, rfl⟩
theorem dX7_ageLoans_78 : Dx cX7_ageLoans 78 (.getfield 169) 3 81 := ⟨by decide +kernel, rfl⟩
theorem dX7_ageLoans_81 : Dx cX7_ageLoans 81 (.aload_n 0) 1 82 := ⟨by decide +kernel, rfl⟩
theorem dX7_ageLoans_82 : Dx cX7_ageLoans 82 (.invokevirtual 205) 3 85 := ⟨by decide +kernel, rfl⟩
theorem dX7_ageLoans_85 : Dx cX7_ageLoans 85 (.iload_n 1) 1 86 := ⟨by decide +kernel, rfl⟩
theorem dX7_ageLoans_86 : Dx cX7_ageLoans 86 (.isub) 1 87 := ⟨by decide +kernel, rfl⟩
theorem dX7_ageLoans_87 : Dc cX7_ageLoans 87 (fun o => .if_icmp .gt o) 98 90 := ⟨11, by decide +kernel, by decide, rfl⟩
theorem dX7_ageLoans_90 : Dx cX7_ageLoans 90 (.aload_n 0) 1 91 := ⟨by decide +kernel, rfl⟩
theorem dX7_ageLoans_91 : Dx cX7_ageLoans 91 (.iload_n 3) 1 92 := ⟨by decide +kernel, rfl⟩
theorem dX7_ageLoans_92 : Dx cX7_ageLoans 92 (.invokevirtual 172) 3 95 := ⟨by decide +kernel, rfl⟩
theorem dX7_ageLoans_95 : Dc cX7_ageLoans 95 (fun o => .goto o) 131 98 := ⟨36, by decide +kernel, by decide, rfl⟩
theorem dX7_ageLoans_98 : Dx cX7_ageLoans 98 (.iload 5) 2 100 := ⟨by decide +kernel, rfl⟩
theorem dX7_ageLoans_100 : Dc cX7_ageLoans 100 (fun o => .ifCond .eq o) 128 103 := ⟨28, by decide +kernel, by decide, rfl⟩
theorem dX7_ageLoans_103 : Dx cX7_ageLoans 103 (.aload_n 0) 1 104 := ⟨by decide +kernel, rfl⟩
theorem dX7_ageLoans_104 : Dx cX7_ageLoans 104 (.getfield 25) 3 107 := ⟨by decide +kernel, rfl⟩
theorem dX7_ageLoans_107 : Dx cX7_ageLoans 107 (.iload_n 3) 1 108 := ⟨by decide +kernel, rfl⟩
theorem dX7_ageLoans_108 : Dx cX7_ageLoans 108 (.aaload) 1 109 := ⟨by decide +kernel, rfl⟩
theorem dX7_ageLoans_109 : Dx cX7_ageLoans 109 (.dup) 1 110 := ⟨by decide +kernel, rfl⟩
theorem dX7_ageLoans_110 : Dx cX7_ageLoans 110 (.getfield 208) 3 113 := ⟨by decide +kernel, rfl⟩
theorem dX7_ageLoans_113 : Dx cX7_ageLoans 113 (.iconst 1) 1 114 := ⟨by decide +kernel, rfl⟩
theorem dX7_ageLoans_114 : Dx cX7_ageLoans 114 (.iadd) 1 115 := ⟨by decide +kernel, rfl⟩
theorem dX7_ageLoans_115 : Dx cX7_ageLoans 115 (.putfield 208) 3 118 := ⟨by decide +kernel, rfl⟩
theorem dX7_ageLoans_118 : Dx cX7_ageLoans 118 (.aload_n 0) 1 119 := ⟨by decide +kernel, rfl⟩
theorem dX7_ageLoans_119 : Dx cX7_ageLoans 119 (.dup) 1 120 := ⟨by decide +kernel, rfl⟩
theorem dX7_ageLoans_120 : Dx cX7_ageLoans 120 (.getfield 51) 3 123 := ⟨by decide +kernel, rfl⟩
theorem dX7_ageLoans_123 : Dx cX7_ageLoans 123 (.iconst 1) 1 124 := ⟨by decide +kernel, rfl⟩
theorem dX7_ageLoans_124 : Dx cX7_ageLoans 124 (.iadd) 1 125 := ⟨by decide +kernel, rfl⟩
theorem dX7_ageLoans_125 : Dx cX7_ageLoans 125 (.putfield 51) 3 128 := ⟨by decide +kernel, rfl⟩
theorem dX7_ageLoans_128 : Dx cX7_ageLoans 128 (.iinc 3 1) 3 131 := ⟨by decide +kernel, rfl⟩
theorem dX7_ageLoans_131 : Dx cX7_ageLoans 131 (.iinc 4 1) 3 134 := ⟨by decide +kernel, rfl⟩
theorem dX7_ageLoans_134 : Dc cX7_ageLoans 134 (fun o => .goto o) 15 137 := ⟨(-119), by decide +kernel, by decide, rfl⟩
theorem dX7_ageLoans_137 : Dx cX7_ageLoans 137 (.return_) 1 138 := ⟨by decide +kernel, rfl⟩
theorem dX7_allOars_0 : Dx cX7_allOars 0 (.bipush 6) 2 2 := ⟨by decide +kernel, rfl⟩
theorem dX7_allOars_2 : Dx cX7_allOars 2 (.istore_n 1) 1 3 := ⟨by decide +kernel, rfl⟩
theorem dX7_allOars_3 : Dx cX7_allOars 3 (.iconst 0) 1 4 := ⟨by decide +kernel, rfl⟩
theorem dX7_allOars_4 : Dx cX7_allOars 4 (.istore_n 2) 1 5 := ⟨by decide +kernel, rfl⟩
theorem dX7_allOars_5 : Dx cX7_allOars 5 (.iload_n 2) 1 6 := ⟨by decide +kernel, rfl⟩
theorem dX7_allOars_6 : Dx cX7_allOars 6 (.aload_n 0) 1 7 := ⟨by decide +kernel, rfl⟩
theorem dX7_allOars_7 : Dx cX7_allOars 7 (.getfield 36) 3 10 := ⟨by decide +kernel, rfl⟩
theorem dX7_allOars_10 : Dc cX7_allOars 10 (fun o => .if_icmp .ge o) 31 13 := ⟨21, by decide +kernel, by decide, rfl⟩
theorem dX7_allOars_13 : Dx cX7_allOars 13 (.iload_n 1) 1 14 := ⟨by decide +kernel, rfl⟩
theorem dX7_allOars_14 : Dx cX7_allOars 14 (.aload_n 0) 1 15 := ⟨by decide +kernel, rfl⟩
theorem dX7_allOars_15 : Dx cX7_allOars 15 (.getfield 25) 3 18 := ⟨by decide +kernel, rfl⟩
theorem dX7_allOars_18 : Dx cX7_allOars 18 (.iload_n 2) 1 19 := ⟨by decide +kernel, rfl⟩
theorem dX7_allOars_19 : Dx cX7_allOars 19 (.aaload) 1 20 := ⟨by decide +kernel, rfl⟩
theorem dX7_allOars_20 : Dx cX7_allOars 20 (.getfield 169) 3 23 := ⟨by decide +kernel, rfl⟩
theorem dX7_allOars_23 : Dx cX7_allOars 23 (.iadd) 1 24 := ⟨by decide +kernel, rfl⟩
theorem dX7_allOars_24 : Dx cX7_allOars 24 (.istore_n 1) 1 25 := ⟨by decide +kernel, rfl⟩
theorem dX7_allOars_25 : Dx cX7_allOars 25 (.iinc 2 1) 3 28 := ⟨by decide +kernel, rfl⟩
theorem dX7_allOars_28 : Dc cX7_allOars 28 (fun o => .goto o) 5 31 := ⟨(-23), by decide +kernel, by decide, rfl⟩
theorem dX7_allOars_31 : Dx cX7_allOars 31 (.iload_n 1) 1 32 := ⟨by decide +kernel, rfl⟩
theorem dX7_allOars_32 : Dx cX7_allOars 32 (.ireturn) 1 33 := ⟨by decide +kernel, rfl⟩
theorem dX7_oarsOut_0 : Dx cX7_oarsOut 0 (.iconst 0) 1 1 := ⟨by decide +kernel, rfl⟩
theorem dX7_oarsOut_1 : Dx cX7_oarsOut 1 (.istore_n 1) 1 2 := ⟨by decide +kernel, rfl⟩
theorem dX7_oarsOut_2 : Dx cX7_oarsOut 2 (.iconst 0) 1 3 := ⟨by decide +kernel, rfl⟩
theorem dX7_oarsOut_3 : Dx cX7_oarsOut 3 (.istore_n 2) 1 4 := ⟨by decide +kernel, rfl⟩
theorem dX7_oarsOut_4 : Dx cX7_oarsOut 4 (.iload_n 2) 1 5 := ⟨by decide +kernel, rfl⟩
theorem dX7_oarsOut_5 : Dx cX7_oarsOut 5 (.aload_n 0) 1 6 := ⟨by decide +kernel, rfl⟩
theorem dX7_oarsOut_6 : Dx cX7_oarsOut 6 (.getfield 33) 3 9 := ⟨by decide +kernel, rfl⟩
theorem dX7_oarsOut_9 : Dc cX7_oarsOut 9 (fun o => .if_icmp .ge o) 42 12 := ⟨33, by decide +kernel, by decide, rfl⟩
theorem dX7_oarsOut_12 : Dx cX7_oarsOut 12 (.aload_n 0) 1 13 := ⟨by decide +kernel, rfl⟩
theorem dX7_oarsOut_13 : Dx cX7_oarsOut 13 (.getfield 19) 3 16 := ⟨by decide +kernel, rfl⟩
theorem dX7_oarsOut_16 : Dx cX7_oarsOut 16 (.iload_n 2) 1 17 := ⟨by decide +kernel, rfl⟩
theorem dX7_oarsOut_17 : Dx cX7_oarsOut 17 (.aaload) 1 18 := ⟨by decide +kernel, rfl⟩
theorem dX7_oarsOut_18 : Dx cX7_oarsOut 18 (.invokevirtual 116) 3 21 := ⟨by decide +kernel, rfl⟩
theorem dX7_oarsOut_21 : Dc cX7_oarsOut 21 (fun o => .ifCond .eq o) 36 24 := ⟨15, by decide +kernel, by decide, rfl⟩
theorem dX7_oarsOut_24 : Dx cX7_oarsOut 24 (.iload_n 1) 1 25 := ⟨by decide +kernel, rfl⟩
theorem dX7_oarsOut_25 : Dx cX7_oarsOut 25 (.aload_n 0) 1 26 := ⟨by decide +kernel, rfl⟩
theorem dX7_oarsOut_26 : Dx cX7_oarsOut 26 (.getfield 19) 3 29 := ⟨by decide +kernel, rfl⟩
theorem dX7_oarsOut_29 : Dx cX7_oarsOut 29 (.iload_n 2) 1 30 := ⟨by decide +kernel, rfl⟩
theorem dX7_oarsOut_30 : Dx cX7_oarsOut 30 (.aaload) 1 31 := ⟨by decide +kernel, rfl⟩
theorem dX7_oarsOut_31 : Dx cX7_oarsOut 31 (.invokevirtual 126) 3 34 := ⟨by decide +kernel, rfl⟩
theorem dX7_oarsOut_34 : Dx cX7_oarsOut 34 (.iadd) 1 35 := ⟨by decide +kernel, rfl⟩
theorem dX7_oarsOut_35 : Dx cX7_oarsOut 35 (.istore_n 1) 1 36 := ⟨by decide +kernel, rfl⟩
theorem dX7_oarsOut_36 : Dx cX7_oarsOut 36 (.iinc 2 1) 3 39 := ⟨by decide +kernel, rfl⟩
theorem dX7_oarsOut_39 : Dc cX7_oarsOut 39 (fun o => .goto o) 4 42 := ⟨(-35), by decide +kernel, by decide, rfl⟩
theorem dX7_oarsOut_42 : Dx cX7_oarsOut 42 (.iload_n 1) 1 43 := ⟨by decide +kernel, rfl⟩
theorem dX7_oarsOut_43 : Dx cX7_oarsOut 43 (.ireturn) 1 44 := ⟨by decide +kernel, rfl⟩
theorem dX7_freeOars_0 : Dx cX7_freeOars 0 (.aload_n 0) 1 1 := ⟨by decide +kernel, rfl⟩
theorem dX7_freeOars_1 : Dx cX7_freeOars 1 (.invokevirtual 205) 3 4 := ⟨by decide +kernel, rfl⟩
theorem dX7_freeOars_4 : Dx cX7_freeOars 4 (.aload_n 0) 1 5 := ⟨by decide +kernel, rfl⟩
theorem dX7_freeOars_5 : Dx cX7_freeOars 5 (.invokevirtual 199) 3 8 := ⟨by decide +kernel, rfl⟩
theorem dX7_freeOars_8 : Dx cX7_freeOars 8 (.isub) 1 9 := ⟨by decide +kernel, rfl⟩
theorem dX7_freeOars_9 : Dx cX7_freeOars 9 (.ireturn) 1 10 := ⟨by decide +kernel, rfl⟩
theorem dX7_boatsOut_0 : Dx cX7_boatsOut 0 (.iconst 0) 1 1 := ⟨by decide +kernel, rfl⟩
theorem dX7_boatsOut_1 : Dx cX7_boatsOut 1 (.istore_n 1) 1 2 := ⟨by decide +kernel, rfl⟩
theorem dX7_boatsOut_2 : Dx cX7_boatsOut 2 (.iconst 0) 1 3 := ⟨by decide +kernel, rfl⟩
theorem dX7_boatsOut_3 : Dx cX7_boatsOut 3 (.istore_n 2) 1 4 := ⟨by decide +kernel, rfl⟩
theorem dX7_boatsOut_4 : Dx cX7_boatsOut 4 (.iload_n 2) 1 5 := ⟨by decide +kernel, rfl⟩
theorem dX7_boatsOut_5 : Dx cX7_boatsOut 5 (.aload_n 0) 1 6 := ⟨by decide +kernel, rfl⟩
theorem dX7_boatsOut_6 : Dx cX7_boatsOut 6 (.getfield 33) 3 9 := ⟨by decide +kernel, rfl⟩
theorem dX7_boatsOut_9 : Dc cX7_boatsOut 9 (fun o => .if_icmp .ge o) 33 12 := ⟨24, by decide +kernel, by decide, rfl⟩
theorem dX7_boatsOut_12 : Dx cX7_boatsOut 12 (.aload_n 0) 1 13 := ⟨by decide +kernel, rfl⟩
theorem dX7_boatsOut_13 : Dx cX7_boatsOut 13 (.getfield 19) 3 16 := ⟨by decide +kernel, rfl⟩
theorem dX7_boatsOut_16 : Dx cX7_boatsOut 16 (.iload_n 2) 1 17 := ⟨by decide +kernel, rfl⟩
theorem dX7_boatsOut_17 : Dx cX7_boatsOut 17 (.aaload) 1 18 := ⟨by decide +kernel, rfl⟩
theorem dX7_boatsOut_18 : Dx cX7_boatsOut 18 (.invokevirtual 116) 3 21 := ⟨by decide +kernel, rfl⟩
theorem dX7_boatsOut_21 : Dc cX7_boatsOut 21 (fun o => .ifCond .eq o) 27 24 := ⟨6, by decide +kernel, by decide, rfl⟩
theorem dX7_boatsOut_24 : Dx cX7_boatsOut 24 (.iinc 1 1) 3 27 := ⟨by decide +kernel, rfl⟩
theorem dX7_boatsOut_27 : Dx cX7_boatsOut 27 (.iinc 2 1) 3 30 := ⟨by decide +kernel, rfl⟩
theorem dX7_boatsOut_30 : Dc cX7_boatsOut 30 (fun o => .goto o) 4 33 := ⟨(-26), by decide +kernel, by decide, rfl⟩
theorem dX7_boatsOut_33 : Dx cX7_boatsOut 33 (.iload_n 1) 1 34 := ⟨by decide +kernel, rfl⟩
theorem dX7_boatsOut_34 : Dx cX7_boatsOut 34 (.ireturn) 1 35 := ⟨by decide +kernel, rfl⟩
theorem dX7_everyone_0 : Dx cX7_everyone 0 (.iconst 1) 1 1 := ⟨by decide +kernel, rfl⟩
theorem dX7_everyone_1 : Dx cX7_everyone 1 (.aload_n 0) 1 2 := ⟨by decide +kernel, rfl⟩
theorem dX7_everyone_2 : Dx cX7_everyone 2 (.getfield 29) 3 5 := ⟨by decide +kernel, rfl⟩
theorem dX7_everyone_5 : Dx cX7_everyone 5 (.ishl) 1 6 := ⟨by decide +kernel, rfl⟩
theorem dX7_everyone_6 : Dx cX7_everyone 6 (.iconst 1) 1 7 := ⟨by decide +kernel, rfl⟩
theorem dX7_everyone_7 : Dx cX7_everyone 7 (.isub) 1 8 := ⟨by decide +kernel, rfl⟩
theorem dX7_everyone_8 : Dx cX7_everyone 8 (.ireturn) 1 9 := ⟨by decide +kernel, rfl⟩
theorem dX7_staying_0 : Dx cX7_staying 0 (.aload_n 0) 1 1 := ⟨by decide +kernel, rfl⟩
theorem dX7_staying_1 : Dx cX7_staying 1 (.invokevirtual 209) 3 4 := ⟨by decide +kernel, rfl⟩
theorem dX7_staying_4 : Dx cX7_staying 4 (.aload_n 0) 1 5 := ⟨by decide +kernel, rfl⟩
theorem dX7_staying_5 : Dx cX7_staying 5 (.bipush (-2)) 2 7 := ⟨by decide +kernel, rfl⟩
theorem dX7_staying_7 : Dx cX7_staying 7 (.invokevirtual 212) 3 10 := ⟨by decide +kernel, rfl⟩
theorem dX7_staying_10 : Dx cX7_staying 10 (.iconst (-1)) 1 11 := ⟨by decide +kernel, rfl⟩
theorem dX7_staying_11 : Dx cX7_staying 11 (.ixor) 1 12 := ⟨by decide +kernel, rfl⟩
theorem dX7_staying_12 : Dx cX7_staying 12 (.iand) 1 13 := ⟨by decide +kernel, rfl⟩
theorem dX7_staying_13 : Dx cX7_staying 13 (.ireturn) 1 14 := ⟨by decide +kernel, rfl⟩
theorem dX7_membersAt_0 : Dx cX7_membersAt 0 (.iconst 0) 1 1 := ⟨by decide +kernel, rfl⟩
theorem dX7_membersAt_1 : Dx cX7_membersAt 1 (.istore_n 2) 1 2 := ⟨by decide +kernel, rfl⟩
theorem dX7_membersAt_2 : Dx cX7_membersAt 2 (.iconst 0) 1 3 := ⟨by decide +kernel, rfl⟩
theorem dX7_membersAt_3 : Dx cX7_membersAt 3 (.istore_n 3) 1 4 := ⟨by decide +kernel, rfl⟩
theorem dX7_membersAt_4 : Dx cX7_membersAt 4 (.iload_n 3) 1 5 := ⟨by decide +kernel, rfl⟩
theorem dX7_membersAt_5 : Dx cX7_membersAt 5 (.aload_n 0) 1 6 := ⟨by decide +kernel, rfl⟩
theorem dX7_membersAt_6 : Dx cX7_membersAt 6 (.getfield 29) 3 9 := ⟨by decide +kernel, rfl⟩
theorem dX7_membersAt_9 : Dc cX7_membersAt 9 (fun o => .if_icmp .ge o) 37 12 := ⟨28, by decide +kernel, by decide, rfl⟩
theorem dX7_membersAt_12 : Dx cX7_membersAt 12 (.aload_n 0) 1 13 := ⟨by decide +kernel, rfl⟩
theorem dX7_membersAt_13 : Dx cX7_membersAt 13 (.getfield 11) 3 16 := ⟨by decide +kernel, rfl⟩
theorem dX7_membersAt_16 : Dx cX7_membersAt 16 (.iload_n 3) 1 17 := ⟨by decide +kernel, rfl⟩
theorem dX7_membersAt_17 : Dx cX7_membersAt 17 (.aaload) 1 18 := ⟨by decide +kernel, rfl⟩
theorem dX7_membersAt_18 : Dx cX7_membersAt 18 (.getfield 84) 3 21 := ⟨by decide +kernel, rfl⟩
theorem dX7_membersAt_21 : Dx cX7_membersAt 21 (.iload_n 1) 1 22 := ⟨by decide +kernel, rfl⟩
theorem dX7_membersAt_22 : Dc cX7_membersAt 22 (fun o => .if_icmp .ne o) 31 25 := ⟨9, by decide +kernel, by decide, rfl⟩
theorem dX7_membersAt_25 : Dx cX7_membersAt 25 (.iload_n 2) 1 26 := ⟨by decide +kernel, rfl⟩
theorem dX7_membersAt_26 : Dx cX7_membersAt 26 (.iconst 1) 1 27 := ⟨by decide +kernel, rfl⟩
theorem dX7_membersAt_27 : Dx cX7_membersAt 27 (.iload_n 3) 1 28 := ⟨by decide +kernel, rfl⟩
theorem dX7_membersAt_28 : Dx cX7_membersAt 28 (.ishl) 1 29 := ⟨by decide +kernel, rfl⟩
theorem dX7_membersAt_29 : Dx cX7_membersAt 29 (.ior) 1 30 := ⟨by decide +kernel, rfl⟩
theorem dX7_membersAt_30 : Dx cX7_membersAt 30 (.istore_n 2) 1 31 := ⟨by decide +kernel, rfl⟩
theorem dX7_membersAt_31 : Dx cX7_membersAt 31 (.iinc 3 1) 3 34 := ⟨by decide +kernel, rfl⟩
theorem dX7_membersAt_34 : Dc cX7_membersAt 34 (fun o => .goto o) 4 37 := ⟨(-30), by decide +kernel, by decide, rfl⟩
theorem dX7_membersAt_37 : Dx cX7_membersAt 37 (.iload_n 2) 1 38 := ⟨by decide +kernel, rfl⟩
theorem dX7_membersAt_38 : Dx cX7_membersAt 38 (.ireturn) 1 39 := ⟨by decide +kernel, rfl⟩
theorem dX7_ableMembers_0 : Dx cX7_ableMembers 0 (.iconst 0) 1 1 := ⟨by decide +kernel, rfl⟩
theorem dX7_ableMembers_1 : Dx cX7_ableMembers 1 (.istore_n 1) 1 2 := ⟨by decide +kernel, rfl⟩
theorem dX7_ableMembers_2 : Dx cX7_ableMembers 2 (.iconst 0) 1 3 := ⟨by decide +kernel, rfl⟩
theorem dX7_ableMembers_3 : Dx cX7_ableMembers 3 (.istore_n 2) 1 4 := ⟨by decide +kernel, rfl⟩
theorem dX7_ableMembers_4 : Dx cX7_ableMembers 4 (.iload_n 2) 1 5 := ⟨by decide +kernel, rfl⟩
theorem dX7_ableMembers_5 : Dx cX7_ableMembers 5 (.aload_n 0) 1 6 := ⟨by decide +kernel, rfl⟩
theorem dX7_ableMembers_6 : Dx cX7_ableMembers 6 (.getfield 29) 3 9 := ⟨by decide +kernel, rfl⟩
theorem dX7_ableMembers_9 : Dc cX7_ableMembers 9 (fun o => .if_icmp .ge o) 40 12 := ⟨31, by decide +kernel, by decide, rfl⟩
theorem dX7_ableMembers_12 : Dx cX7_ableMembers 12 (.aload_n 0) 1 13 := ⟨by decide +kernel, rfl⟩
theorem dX7_ableMembers_13 : Dx cX7_ableMembers 13 (.getfield 11) 3 16 := ⟨by decide +kernel, rfl⟩
theorem dX7_ableMembers_16 : Dx cX7_ableMembers 16 (.iload_n 2) 1 17 := ⟨by decide +kernel, rfl⟩
theorem dX7_ableMembers_17 : Dx cX7_ableMembers 17 (.aaload) 1 18 := ⟨by decide +kernel, rfl⟩
theorem dX7_ableMembers_18 : Dx cX7_ableMembers 18 (.aload_n 0) 1 19 := ⟨by decide +kernel, rfl⟩
theorem dX7_ableMembers_19 : Dx cX7_ableMembers 19 (.getfield 42) 3 22 := ⟨by decide +kernel, rfl⟩
theorem dX7_ableMembers_22 : Dx cX7_ableMembers 22 (.invokevirtual 215) 3 25 := ⟨by decide +kernel, rfl⟩
theorem dX7_ableMembers_25 : Dc cX7_ableMembers 25 (fun o => .ifCond .eq o) 34 28 := ⟨9, by decide +kernel, by decide, rfl⟩
theorem dX7_ableMembers_28 : Dx cX7_ableMembers 28 (.iload_n 1) 1 29 := ⟨by decide +kernel, rfl⟩
theorem dX7_ableMembers_29 : Dx cX7_ableMembers 29 (.iconst 1) 1 30 := ⟨by decide +kernel, rfl⟩
theorem dX7_ableMembers_30 : Dx cX7_ableMembers 30 (.iload_n 2) 1 31 := ⟨by decide +kernel, rfl⟩
theorem dX7_ableMembers_31 : Dx cX7_ableMembers 31 (.ishl) 1 32 := ⟨by decide +kernel, rfl⟩
theorem dX7_ableMembers_32 : Dx cX7_ableMembers 32 (.ior) 1 33 := ⟨by decide +kernel, rfl⟩
theorem dX7_ableMembers_33 : Dx cX7_ableMembers 33 (.istore_n 1) 1 34 := ⟨by decide +kernel, rfl⟩
theorem dX7_ableMembers_34 : Dx cX7_ableMembers 34 (.iinc 2 1) 3 37 := ⟨by decide +kernel, rfl⟩
theorem dX7_ableMembers_37 : Dc cX7_ableMembers 37 (fun o => .goto o) 4 40 := ⟨(-33), by decide +kernel, by decide, rfl⟩
theorem dX7_ableMembers_40 : Dx cX7_ableMembers 40 (.iload_n 1) 1 41 := ⟨by decide +kernel, rfl⟩
theorem dX7_ableMembers_41 : Dx cX7_ableMembers 41 (.ireturn) 1 42 := ⟨by decide +kernel, rfl⟩
theorem dX7_skilledMembers_0 : Dx cX7_skilledMembers 0 (.iconst 0) 1 1 := ⟨by decide +kernel, rfl⟩
theorem dX7_skilledMembers_1 : Dx cX7_skilledMembers 1 (.istore_n 2) 1 2 := ⟨by decide +kernel, rfl⟩
theorem dX7_skilledMembers_2 : Dx cX7_skilledMembers 2 (.iconst 0) 1 3 := ⟨by decide +kernel, rfl⟩
theorem dX7_skilledMembers_3 : Dx cX7_skilledMembers 3 (.istore_n 3) 1 4 := ⟨by decide +kernel, rfl⟩
theorem dX7_skilledMembers_4 : Dx cX7_skilledMembers 4 (.iload_n 3) 1 5 := ⟨by decide +kernel, rfl⟩
theorem dX7_skilledMembers_5 : Dx cX7_skilledMembers 5 (.aload_n 0) 1 6 := ⟨by decide +kernel, rfl⟩
theorem dX7_skilledMembers_6 : Dx cX7_skilledMembers 6 (.getfield 29) 3 9 := ⟨by decide +kernel, rfl⟩
theorem dX7_skilledMembers_9 : Dc cX7_skilledMembers 9 (fun o => .if_icmp .ge o) 37 12 := ⟨28, by decide +kernel, by decide, rfl⟩
theorem dX7_skilledMembers_12 : Dx cX7_skilledMembers 12 (.aload_n 0) 1 13 := ⟨by decide +kernel, rfl⟩
theorem dX7_skilledMembers_13 : Dx cX7_skilledMembers 13 (.getfield 11) 3 16 := ⟨by decide +kernel, rfl⟩
theorem dX7_skilledMembers_16 : Dx cX7_skilledMembers 16 (.iload_n 3) 1 17 := ⟨by decide +kernel, rfl⟩
theorem dX7_skilledMembers_17 : Dx cX7_skilledMembers 17 (.aaload) 1 18 := ⟨by decide +kernel, rfl⟩
theorem dX7_skilledMembers_18 : Dx cX7_skilledMembers 18 (.getfield 108) 3 21 := ⟨by decide +kernel, rfl⟩
theorem dX7_skilledMembers_21 : Dx cX7_skilledMembers 21 (.iload_n 1) 1 22 := ⟨by decide +kernel, rfl⟩
theorem dX7_skilledMembers_22 : Dc cX7_skilledMembers 22 (fun o => .if_icmp .lt o) 31 25 := ⟨9, by decide +kernel, by decide, rfl⟩
theorem dX7_skilledMembers_25 : Dx cX7_skilledMembers 25 (.iload_n 2) 1 26 := ⟨by decide +kernel, rfl⟩
theorem dX7_skilledMembers_26 : Dx cX7_skilledMembers 26 (.iconst 1) 1 27 := ⟨by decide +kernel, rfl⟩
theorem dX7_skilledMembers_27 : Dx cX7_skilledMembers 27 (.iload_n 3) 1 28 := ⟨by decide +kernel, rfl⟩
theorem dX7_skilledMembers_28 : Dx cX7_skilledMembers 28 (.ishl) 1 29 := ⟨by decide +kernel, rfl⟩
theorem dX7_skilledMembers_29 : Dx cX7_skilledMembers 29 (.ior) 1 30 := ⟨by decide +kernel, rfl⟩
theorem dX7_skilledMembers_30 : Dx cX7_skilledMembers 30 (.istore_n 2) 1 31 := ⟨by decide +kernel, rfl⟩
theorem dX7_skilledMembers_31 : Dx cX7_skilledMembers 31 (.iinc 3 1) 3 34 := ⟨by decide +kernel, rfl⟩
theorem dX7_skilledMembers_34 : Dc cX7_skilledMembers 34 (fun o => .goto o) 4 37 := ⟨(-30), by decide +kernel, by decide, rfl⟩
theorem dX7_skilledMembers_37 : Dx cX7_skilledMembers 37 (.iload_n 2) 1 38 := ⟨by decide +kernel, rfl⟩
theorem dX7_skilledMembers_38 : Dx cX7_skilledMembers 38 (.ireturn) 1 39 := ⟨by decide +kernel, rfl⟩
theorem dX7_wearinessOf_0 : Dx cX7_wearinessOf 0 (.iconst 0) 1 1 := ⟨by decide +kernel, rfl⟩
theorem dX7_wearinessOf_1 : Dx cX7_wearinessOf 1 (.istore_n 2) 1 2 := ⟨by decide +kernel, rfl⟩
theorem dX7_wearinessOf_2 : Dx cX7_wearinessOf 2 (.iconst 0) 1 3 := ⟨by decide +kernel, rfl⟩
theorem dX7_wearinessOf_3 : Dx cX7_wearinessOf 3 (.istore_n 3) 1 4 := ⟨by decide +kernel, rfl⟩
theorem dX7_wearinessOf_4 : Dx cX7_wearinessOf 4 (.iload_n 3) 1 5 := ⟨by decide +kernel, rfl⟩
theorem dX7_wearinessOf_5 : Dx cX7_wearinessOf 5 (.aload_n 0) 1 6 := ⟨by decide +kernel, rfl⟩
theorem dX7_wearinessOf_6 : Dx cX7_wearinessOf 6 (.getfield 29) 3 9 := ⟨by decide +kernel, rfl⟩
theorem dX7_wearinessOf_9 : Dc cX7_wearinessOf 9 (fun o => .if_icmp .ge o) 38 12 := ⟨29, by decide +kernel, by decide, rfl⟩
theorem dX7_wearinessOf_12 : Dx cX7_wearinessOf 12 (.iload_n 3) 1 13 := ⟨by decide +kernel, rfl⟩
theorem dX7_wearinessOf_13 : Dx cX7_wearinessOf 13 (.iload_n 1) 1 14 := ⟨by decide +kernel, rfl⟩
theorem dX7_wearinessOf_14 : Dx cX7_wearinessOf 14 (.invokestatic 150) 3 17 := ⟨by decide +kernel, rfl⟩
theorem dX7_wearinessOf_17 : Dc cX7_wearinessOf 17 (fun o => .ifCond .eq o) 32 20 := ⟨15, by decide +kernel, by decide, rfl⟩
theorem dX7_wearinessOf_20 : Dx cX7_wearinessOf 20 (.iload_n 2) 1 21 := ⟨by decide +kernel, rfl⟩
theorem dX7_wearinessOf_21 : Dx cX7_wearinessOf 21 (.aload_n 0) 1 22 := ⟨by decide +kernel, rfl⟩
theorem dX7_wearinessOf_22 : Dx cX7_wearinessOf 22 (.getfield 11) 3 25 := ⟨by decide +kernel, rfl⟩
theorem dX7_wearinessOf_25 : Dx cX7_wearinessOf 25 (.iload_n 3) 1 26 := ⟨by decide +kernel, rfl⟩
theorem dX7_wearinessOf_26 : Dx cX7_wearinessOf 26 (.aaload) 1 27 := ⟨by decide +kernel, rfl⟩
theorem dX7_wearinessOf_27 : Dx cX7_wearinessOf 27 (.getfield 184) 3 30 := ⟨by decide +kernel, rfl⟩
theorem dX7_wearinessOf_30 : Dx cX7_wearinessOf 30 (.iadd) 1 31 := ⟨by decide +kernel, rfl⟩
theorem dX7_wearinessOf_31 : Dx cX7_wearinessOf 31 (.istore_n 2) 1 32 := ⟨by decide +kernel, rfl⟩
theorem dX7_wearinessOf_32 : Dx cX7_wearinessOf 32 (.iinc 3 1) 3 35 := ⟨by decide +kernel, rfl⟩
theorem dX7_wearinessOf_35 : Dc cX7_wearinessOf 35 (fun o => .goto o) 4 38 := ⟨(-31), by decide +kernel, by decide, rfl⟩
theorem dX7_wearinessOf_38 : Dx cX7_wearinessOf 38 (.iload_n 2) 1 39 := ⟨by decide +kernel, rfl⟩
theorem dX7_wearinessOf_39 : Dx cX7_wearinessOf 39 (.ireturn) 1 40 := ⟨by decide +kernel, rfl⟩
theorem dX7_chosenCoxswain_0 : Dx cX7_chosenCoxswain 0 (.aload_n 0) 1 1 := ⟨by decide +kernel, rfl⟩
theorem dX7_chosenCoxswain_1 : Dx cX7_chosenCoxswain 1 (.aload_n 0) 1 2 := ⟨by decide +kernel, rfl⟩
theorem dX7_chosenCoxswain_2 : Dx cX7_chosenCoxswain 2 (.invokevirtual 132) 3 5 := ⟨by decide +kernel, rfl⟩
theorem dX7_chosenCoxswain_5 : Dx cX7_chosenCoxswain 5 (.aload_n 0) 1 6 := ⟨by decide +kernel, rfl⟩
theorem dX7_chosenCoxswain_6 : Dx cX7_chosenCoxswain 6 (.iconst 2) 1 7 := ⟨by decide +kernel, rfl⟩
theorem dX7_chosenCoxswain_7 : Dx cX7_chosenCoxswain 7 (.invokevirtual 138) 3 10 := ⟨by decide +kernel, rfl⟩
theorem dX7_chosenCoxswain_10 : Dx cX7_chosenCoxswain 10 (.iand) 1 11 := ⟨by decide +kernel, rfl⟩
theorem dX7_chosenCoxswain_11 : Dx cX7_chosenCoxswain 11 (.invokevirtual 218) 3 14 := ⟨by decide +kernel, rfl⟩
theorem dX7_chosenCoxswain_14 : Dx cX7_chosenCoxswain 14 (.ireturn) 1 15 := ⟨by decide +kernel, rfl⟩
theorem dX7_chosenCrew_0 : Dx cX7_chosenCrew 0 (.aload_n 0) 1 1 := ⟨by decide +kernel, rfl⟩
theorem dX7_chosenCrew_1 : Dx cX7_chosenCrew 1 (.invokevirtual 132) 3 4 := ⟨by decide +kernel, rfl⟩
theorem dX7_chosenCrew_4 : Dx cX7_chosenCrew 4 (.istore_n 2) 1 5 := ⟨by decide +kernel, rfl⟩
theorem dX7_chosenCrew_5 : Dx cX7_chosenCrew 5 (.aload_n 0) 1 6 := ⟨by decide +kernel, rfl⟩
theorem dX7_chosenCrew_6 : Dx cX7_chosenCrew 6 (.iconst 0) 1 7 := ⟨by decide +kernel, rfl⟩
theorem dX7_chosenCrew_7 : Dx cX7_chosenCrew 7 (.iload_n 2) 1 8 := ⟨by decide +kernel, rfl⟩
theorem dX7_chosenCrew_8 : Dx cX7_chosenCrew 8 (.aload_n 0) 1 9 := ⟨by decide +kernel, rfl⟩
theorem dX7_chosenCrew_9 : Dx cX7_chosenCrew 9 (.iconst 2) 1 10 := ⟨by decide +kernel, rfl⟩
theorem dX7_chosenCrew_10 : Dx cX7_chosenCrew 10 (.invokevirtual 138) 3 13 := ⟨by decide +kernel, rfl⟩
theorem dX7_chosenCrew_13 : Dx cX7_chosenCrew 13 (.iand) 1 14 := ⟨by decide +kernel, rfl⟩
theorem dX7_chosenCrew_14 : Dx cX7_chosenCrew 14 (.iconst 1) 1 15 := ⟨by decide +kernel, rfl⟩
theorem dX7_chosenCrew_15 : Dx cX7_chosenCrew 15 (.invokevirtual 221) 3 18 := ⟨by decide +kernel, rfl⟩
theorem dX7_chosenCrew_18 : Dx cX7_chosenCrew 18 (.istore_n 3) 1 19 := ⟨by decide +kernel, rfl⟩
theorem dX7_chosenCrew_19 : Dx cX7_chosenCrew 19 (.aload_n 0) 1 20 := ⟨by decide +kernel, rfl⟩
theorem dX7_chosenCrew_20 : Dx cX7_chosenCrew 20 (.iload_n 3) 1 21 := ⟨by decide +kernel, rfl⟩
theorem dX7_chosenCrew_21 : Dx cX7_chosenCrew 21 (.iload_n 2) 1 22 := ⟨by decide +kernel, rfl⟩
theorem dX7_chosenCrew_22 : Dx cX7_chosenCrew 22 (.aload_n 0) 1 23 := ⟨by decide +kernel, rfl⟩
theorem dX7_chosenCrew_23 : Dx cX7_chosenCrew 23 (.iconst 1) 1 24 := ⟨by decide +kernel, rfl⟩
theorem dX7_chosenCrew_24 : Dx cX7_chosenCrew 24 (.invokevirtual 138) 3 27 := ⟨by decide +kernel, rfl⟩
theorem dX7_chosenCrew_27 : Dx cX7_chosenCrew 27 (.iand) 1 28 := ⟨by decide +kernel, rfl⟩
theorem dX7_chosenCrew_28 : Dx cX7_chosenCrew 28 (.aload_n 0) 1 29 := ⟨by decide +kernel, rfl⟩
theorem dX7_chosenCrew_29 : Dx cX7_chosenCrew 29 (.getfield 19) 3 32 := ⟨by decide +kernel, rfl⟩
theorem dX7_chosenCrew_32 : Dx cX7_chosenCrew 32 (.iload_n 1) 1 33 := ⟨by decide +kernel, rfl⟩
theorem dX7_chosenCrew_33 : Dx cX7_chosenCrew 33 (.aaload) 1 34 := ⟨by decide +kernel, rfl⟩
theorem dX7_chosenCrew_34 : Dx cX7_chosenCrew 34 (.invokevirtual 141) 3 37 := ⟨by decide +kernel, rfl⟩
theorem dX7_chosenCrew_37 : Dx cX7_chosenCrew 37 (.iconst 1) 1 38 := ⟨by decide +kernel, rfl⟩
theorem dX7_chosenCrew_38 : Dx cX7_chosenCrew 38 (.iadd) 1 39 := ⟨by decide +kernel, rfl⟩
theorem dX7_chosenCrew_39 : Dx cX7_chosenCrew 39 (.invokevirtual 221) 3 42 := ⟨by decide +kernel, rfl⟩
theorem dX7_chosenCrew_42 : Dx cX7_chosenCrew 42 (.istore_n 3) 1 43 := ⟨by decide +kernel, rfl⟩
theorem dX7_chosenCrew_43 : Dx cX7_chosenCrew 43 (.aload_n 0) 1 44 := ⟨by decide +kernel, rfl⟩
theorem dX7_chosenCrew_44 : Dx cX7_chosenCrew 44 (.iload_n 3) 1 45 := ⟨by decide +kernel, rfl⟩
theorem dX7_chosenCrew_45 : Dx cX7_chosenCrew 45 (.iload_n 2) 1 46 := ⟨by decide +kernel, rfl⟩
theorem dX7_chosenCrew_46 : Dx cX7_chosenCrew 46 (.aload_n 0) 1 47 := ⟨by decide +kernel, rfl⟩
theorem dX7_chosenCrew_47 : Dx cX7_chosenCrew 47 (.getfield 19) 3 50 := ⟨by decide +kernel, rfl⟩
theorem dX7_chosenCrew_50 : Dx cX7_chosenCrew 50 (.iload_n 1) 1 51 := ⟨by decide +kernel, rfl⟩
theorem dX7_chosenCrew_51 : Dx cX7_chosenCrew 51 (.aaload) 1 52 := ⟨by decide +kernel, rfl⟩
theorem dX7_chosenCrew_52 : Dx cX7_chosenCrew 52 (.getfield 135) 3 55 := ⟨by decide +kernel, rfl⟩
theorem dX7_chosenCrew_55 : Dx cX7_chosenCrew 55 (.invokevirtual 221) 3 58 := ⟨by decide +kernel, rfl⟩
theorem dX7_chosenCrew_58 : Dx cX7_chosenCrew 58 (.ireturn) 1 59 := ⟨by decide +kernel, rfl⟩
theorem dX7_filledUp_0 : Dx cX7_filledUp 0 (.iload_n 1) 1 1 := ⟨by decide +kernel, rfl⟩
theorem dX7_filledUp_1 : Dx cX7_filledUp 1 (.istore 4) 2 3 := ⟨by decide +kernel, rfl⟩
theorem dX7_filledUp_3 : Dx cX7_filledUp 3 (.iload_n 1) 1 4 := ⟨by decide +kernel, rfl⟩
theorem dX7_filledUp_4 : Dx cX7_filledUp 4 (.invokestatic 95) 3 7 := ⟨by decide +kernel, rfl⟩
theorem dX7_filledUp_7 : Dx cX7_filledUp 7 (.istore 5) 2 9 := ⟨by decide +kernel, rfl⟩
theorem dX7_filledUp_9 : Dx cX7_filledUp 9 (.iload 5) 2 11 := ⟨by decide +kernel, rfl⟩
theorem dX7_filledUp_11 : Dx cX7_filledUp 11 (.iload_n 3) 1 12 := ⟨by decide +kernel, rfl⟩
theorem dX7_filledUp_12 : Dc cX7_filledUp 12 (fun o => .if_icmp .ge o) 48 15 := ⟨36, by decide +kernel, by decide, rfl⟩
theorem dX7_filledUp_15 : Dx cX7_filledUp 15 (.aload_n 0) 1 16 := ⟨by decide +kernel, rfl⟩
theorem dX7_filledUp_16 : Dx cX7_filledUp 16 (.iload_n 2) 1 17 := ⟨by decide +kernel, rfl⟩
theorem dX7_filledUp_17 : Dx cX7_filledUp 17 (.iload 4) 2 19 := ⟨by decide +kernel, rfl⟩
theorem dX7_filledUp_19 : Dx cX7_filledUp 19 (.iconst (-1)) 1 20 := ⟨by decide +kernel, rfl⟩
theorem dX7_filledUp_20 : Dx cX7_filledUp 20 (.ixor) 1 21 := ⟨by decide +kernel, rfl⟩
theorem dX7_filledUp_21 : Dx cX7_filledUp 21 (.iand) 1 22 := ⟨by decide +kernel, rfl⟩
theorem dX7_filledUp_22 : Dx cX7_filledUp 22 (.invokevirtual 218) 3 25 := ⟨by decide +kernel, rfl⟩
theorem dX7_filledUp_25 : Dx cX7_filledUp 25 (.istore 6) 2 27 := ⟨by decide +kernel, rfl⟩
theorem dX7_filledUp_27 : Dx cX7_filledUp 27 (.iload 6) 2 29 := ⟨by decide +kernel, rfl⟩
theorem dX7_filledUp_29 : Dx cX7_filledUp 29 (.iconst (-1)) 1 30 := ⟨by decide +kernel, rfl⟩
theorem dX7_filledUp_30 : Dc cX7_filledUp 30 (fun o => .if_icmp .eq o) 42 33 := ⟨12, by decide +kernel, by decide, rfl⟩
theorem dX7_filledUp_33 : Dx cX7_filledUp 33 (.iload 4) 2 35 := ⟨by decide +kernel, rfl⟩
theorem dX7_filledUp_35 : Dx cX7_filledUp 35 (.iconst 1) 1 36 := ⟨by decide +kernel, rfl⟩
theorem dX7_filledUp_36 : Dx cX7_filledUp 36 (.iload 6) 2 38 := ⟨by decide +kernel, rfl⟩
theorem dX7_filledUp_38 : Dx cX7_filledUp 38 (.ishl) 1 39 := ⟨by decide +kernel, rfl⟩
theorem dX7_filledUp_39 : Dx cX7_filledUp 39 (.ior) 1 40 := ⟨by decide +kernel, rfl⟩
theorem dX7_filledUp_40 : Dx cX7_filledUp 40 (.istore 4) 2 42 := ⟨by decide +kernel, rfl⟩
theorem dX7_filledUp_42 : Dx cX7_filledUp 42 (.iinc 5 1) 3 45 := ⟨by decide +kernel, rfl⟩
theorem dX7_filledUp_45 : Dc cX7_filledUp 45 (fun o => .goto o) 9 48 := ⟨(-36), by decide +kernel, by decide, rfl⟩
theorem dX7_filledUp_48 : Dx cX7_filledUp 48 (.iload 4) 2 50 := ⟨by decide +kernel, rfl⟩
theorem dX7_filledUp_50 : Dx cX7_filledUp 50 (.ireturn) 1 51 := ⟨by decide +kernel, rfl⟩
theorem dX7_leastWearyOf_0 : Dx cX7_leastWearyOf 0 (.iconst (-1)) 1 1 := ⟨by decide +kernel, rfl⟩
theorem dX7_leastWearyOf_1 : Dx cX7_leastWearyOf 1 (.istore_n 2) 1 2 := ⟨by decide +kernel, rfl⟩
theorem dX7_leastWearyOf_2 : Dx cX7_leastWearyOf 2 (.iconst 0) 1 3 := ⟨by decide +kernel, rfl⟩
theorem dX7_leastWearyOf_3 : Dx cX7_leastWearyOf 3 (.istore_n 3) 1 4 := ⟨by decide +kernel, rfl⟩
theorem dX7_leastWearyOf_4 : Dx cX7_leastWearyOf 4 (.iload_n 3) 1 5 := ⟨by decide +kernel, rfl⟩
theorem dX7_leastWearyOf_5 : Dx cX7_leastWearyOf 5 (.aload_n 0) 1 6 := ⟨by decide +kernel, rfl⟩
theorem dX7_leastWearyOf_6 : Dx cX7_leastWearyOf 6 (.getfield 29) 3 9 := ⟨by decide +kernel, rfl⟩
theorem dX7_leastWearyOf_9 : Dc cX7_leastWearyOf 9 (fun o => .if_icmp .ge o) 66 12 := ⟨57, by decide +kernel, by decide, rfl⟩
theorem dX7_leastWearyOf_12 : Dx cX7_leastWearyOf 12 (.iload_n 1) 1 13 := ⟨by decide +kernel, rfl⟩
theorem dX7_leastWearyOf_13 : Dx cX7_leastWearyOf 13 (.iconst 1) 1 14 := ⟨by decide +kernel, rfl⟩
theorem dX7_leastWearyOf_14 : Dx cX7_leastWearyOf 14 (.iload_n 3) 1 15 := ⟨by decide +kernel, rfl⟩
theorem dX7_leastWearyOf_15 : Dx cX7_leastWearyOf 15 (.ishl) 1 16 := ⟨by decide +kernel, rfl⟩
theorem dX7_leastWearyOf_16 : Dx cX7_leastWearyOf 16 (.iand) 1 17 := ⟨by decide +kernel, rfl⟩
theorem dX7_leastWearyOf_17 : Dc cX7_leastWearyOf 17 (fun o => .ifCond .eq o) 24 20 := ⟨7, by decide +kernel, by decide, rfl⟩
theorem dX7_leastWearyOf_20 : Dx cX7_leastWearyOf 20 (.iconst 1) 1 21 := ⟨by decide +kernel, rfl⟩
theorem dX7_leastWearyOf_21 : Dc cX7_leastWearyOf 21 (fun o => .goto o) 25 24 := ⟨4, by decide +kernel, by decide, rfl⟩
theorem dX7_leastWearyOf_24 : Dx cX7_leastWearyOf 24 (.iconst 0) 1 25 := ⟨by decide +kernel, rfl⟩
theorem dX7_leastWearyOf_25 : Dx cX7_leastWearyOf 25 (.istore 4) 2 27 := ⟨by decide +kernel, rfl⟩
theorem dX7_leastWearyOf_27 : Dx cX7_leastWearyOf 27 (.iload 4) 2 29 := ⟨by decide +kernel, rfl⟩
theorem dX7_leastWearyOf_29 : Dc cX7_leastWearyOf 29 (fun o => .ifCond .eq o) 60 32 := ⟨31, by decide +kernel, by decide, rfl⟩
theorem dX7_leastWearyOf_32 : Dx cX7_leastWearyOf 32 (.iload_n 2) 1 33 := ⟨by decide +kernel, rfl⟩
theorem dX7_leastWearyOf_33 : Dx cX7_leastWearyOf 33 (.iconst (-1)) 1 34 := ⟨by decide +kernel, rfl⟩
theorem dX7_leastWearyOf_34 : Dc cX7_leastWearyOf 34 (fun o => .if_icmp .eq o) 58 37 := ⟨24, by decide +kernel, by decide, rfl⟩
theorem dX7_leastWearyOf_37 : Dx cX7_leastWearyOf 37 (.aload_n 0) 1 38 := ⟨by decide +kernel, rfl⟩
theorem dX7_leastWearyOf_38 : Dx cX7_leastWearyOf 38 (.getfield 11) 3 41 := ⟨by decide +kernel, rfl⟩
theorem dX7_leastWearyOf_41 : Dx cX7_leastWearyOf 41 (.iload_n 3) 1 42 := ⟨by decide +kernel, rfl⟩
theorem dX7_leastWearyOf_42 : Dx cX7_leastWearyOf 42 (.aaload) 1 43 := ⟨by decide +kernel, rfl⟩
theorem dX7_leastWearyOf_43 : Dx cX7_leastWearyOf 43 (.getfield 184) 3 46 := ⟨by decide +kernel, rfl⟩
theorem dX7_leastWearyOf_46 : Dx cX7_leastWearyOf 46 (.aload_n 0) 1 47 := ⟨by decide +kernel, rfl⟩
theorem dX7_leastWearyOf_47 : Dx cX7_leastWearyOf 47 (.getfield 11) 3 50 := ⟨by decide +kernel, rfl⟩
theorem dX7_leastWearyOf_50 : Dx cX7_leastWearyOf 50 (.iload_n 2) 1 51 := ⟨by decide +kernel, rfl⟩
theorem dX7_leastWearyOf_51 : Dx cX7_leastWearyOf 51 (.aaload) 1 52 := ⟨by decide +kernel, rfl⟩
theorem dX7_leastWearyOf_52 : Dx cX7_leastWearyOf 52 (.getfield 184) 3 55 := ⟨by decide +kernel, rfl⟩
theorem dX7_leastWearyOf_55 : Dc cX7_leastWearyOf 55 (fun o => .if_icmp .ge o) 60 58 := ⟨5, by decide +kernel, by decide, rfl⟩
theorem dX7_leastWearyOf_58 : Dx cX7_leastWearyOf 58 (.iload_n 3) 1 59 := ⟨by decide +kernel, rfl⟩
theorem dX7_leastWearyOf_59 : Dx cX7_leastWearyOf 59 (.istore_n 2) 1 60 := ⟨by decide +kernel, rfl⟩
theorem dX7_leastWearyOf_60 : Dx cX7_leastWearyOf 60 (.iinc 3 1) 3 63 := ⟨by decide +kernel, rfl⟩
theorem dX7_leastWearyOf_63 : Dc cX7_leastWearyOf 63 (fun o => .goto o) 4 66 := ⟨(-59), by decide +kernel, by decide, rfl⟩
theorem dX7_leastWearyOf_66 : Dx cX7_leastWearyOf 66 (.iload_n 2) 1 67 := ⟨by decide +kernel, rfl⟩
theorem dX7_leastWearyOf_67 : Dx cX7_leastWearyOf 67 (.ireturn) 1 68 := ⟨by decide +kernel, rfl⟩
theorem dX7_leastWearinessOfAll_0 : Dx cX7_leastWearinessOfAll 0 (.aload_n 0) 1 1 := ⟨by decide +kernel, rfl⟩
theorem dX7_leastWearinessOfAll_1 : Dx cX7_leastWearinessOfAll 1 (.invokevirtual 132) 3 4 := ⟨by decide +kernel, rfl⟩
theorem dX7_leastWearinessOfAll_4 : Dx cX7_leastWearinessOfAll 4 (.istore_n 2) 1 5 := ⟨by decide +kernel, rfl⟩
theorem dX7_leastWearinessOfAll_5 : Dx cX7_leastWearinessOfAll 5 (.aload_n 0) 1 6 := ⟨by decide +kernel, rfl⟩
theorem dX7_leastWearinessOfAll_6 : Dx cX7_leastWearinessOfAll 6 (.iconst 2) 1 7 := ⟨by decide +kernel, rfl⟩
theorem dX7_leastWearinessOfAll_7 : Dx cX7_leastWearinessOfAll 7 (.invokevirtual 138) 3 10 := ⟨by decide +kernel, rfl⟩
theorem dX7_leastWearinessOfAll_10 : Dx cX7_leastWearinessOfAll 10 (.istore_n 3) 1 11 := ⟨by decide +kernel, rfl⟩
theorem dX7_leastWearinessOfAll_11 : Dx cX7_leastWearinessOfAll 11 (.aload_n 0) 1 12 := ⟨by decide +kernel, rfl⟩
theorem dX7_leastWearinessOfAll_12 : Dx cX7_leastWearinessOfAll 12 (.iconst 1) 1 13 := ⟨by decide +kernel, rfl⟩
theorem dX7_leastWearinessOfAll_13 : Dx cX7_leastWearinessOfAll 13 (.invokevirtual 138) 3 16 := ⟨by decide +kernel, rfl⟩
theorem dX7_leastWearinessOfAll_16 : Dx cX7_leastWearinessOfAll 16 (.istore 4) 2 18 := ⟨by decide +kernel, rfl⟩
theorem dX7_leastWearinessOfAll_18 : Dx cX7_leastWearinessOfAll 18 (.aload_n 0) 1 19 := ⟨by decide +kernel, rfl⟩
theorem dX7_leastWearinessOfAll_19 : Dx cX7_leastWearinessOfAll 19 (.iload_n 2) 1 20 := ⟨by decide +kernel, rfl⟩
theorem dX7_leastWearinessOfAll_20 : Dx cX7_leastWearinessOfAll 20 (.invokevirtual 225) 3 23 := ⟨by decide +kernel, rfl⟩
theorem dX7_leastWearinessOfAll_23 : Dx cX7_leastWearinessOfAll 23 (.istore 5) 2 25 := ⟨by decide +kernel, rfl⟩
theorem dX7_leastWearinessOfAll_25 : Dx cX7_leastWearinessOfAll 25 (.iconst 1) 1 26 := ⟨by decide +kernel, rfl⟩
theorem dX7_leastWearinessOfAll_26 : Dx cX7_leastWearinessOfAll 26 (.istore 6) 2 28 := ⟨by decide +kernel, rfl⟩
theorem dX7_leastWearinessOfAll_28 : Dx cX7_leastWearinessOfAll 28 (.iload 6) 2 30 := ⟨by decide +kernel, rfl⟩
theorem dX7_leastWearinessOfAll_30 : Dx cX7_leastWearinessOfAll 30 (.iload_n 2) 1 31 := ⟨by decide +kernel, rfl⟩
theorem dX7_leastWearinessOfAll_31 : Dc cX7_leastWearinessOfAll 31 (fun o => .if_icmp .gt o) 118 34 := ⟨87, by decide +kernel, by decide, rfl⟩
theorem dX7_leastWearinessOfAll_34 : Dx cX7_leastWearinessOfAll 34 (.iload 6) 2 36 := ⟨by decide +kernel, rfl⟩
theorem dX7_leastWearinessOfAll_36 : Dx cX7_leastWearinessOfAll 36 (.iload_n 2) 1 37 := ⟨by decide +kernel, rfl⟩
theorem dX7_leastWearinessOfAll_37 : Dx cX7_leastWearinessOfAll 37 (.iconst (-1)) 1 38 := ⟨by decide +kernel, rfl⟩
theorem dX7_leastWearinessOfAll_38 : Dx cX7_leastWearinessOfAll 38 (.ixor) 1 39 := ⟨by decide +kernel, rfl⟩
theorem dX7_leastWearinessOfAll_39 : Dx cX7_leastWearinessOfAll 39 (.iand) 1 40 := ⟨by decide +kernel, rfl⟩
theorem dX7_leastWearinessOfAll_40 : Dc cX7_leastWearinessOfAll 40 (fun o => .ifCond .ne o) 64 43 := ⟨24, by decide +kernel, by decide, rfl⟩
theorem dX7_leastWearinessOfAll_43 : Dx cX7_leastWearinessOfAll 43 (.iload 6) 2 45 := ⟨by decide +kernel, rfl⟩
theorem dX7_leastWearinessOfAll_45 : Dx cX7_leastWearinessOfAll 45 (.invokestatic 95) 3 48 := ⟨by decide +kernel, rfl⟩
theorem dX7_leastWearinessOfAll_48 : Dx cX7_leastWearinessOfAll 48 (.aload_n 0) 1 49 := ⟨by decide +kernel, rfl⟩
theorem dX7_leastWearinessOfAll_49 : Dx cX7_leastWearinessOfAll 49 (.getfield 19) 3 52 := ⟨by decide +kernel, rfl⟩
theorem dX7_leastWearinessOfAll_52 : Dx cX7_leastWearinessOfAll 52 (.iload_n 1) 1 53 := ⟨by decide +kernel, rfl⟩
theorem dX7_leastWearinessOfAll_53 : Dx cX7_leastWearinessOfAll 53 (.aaload) 1 54 := ⟨by decide +kernel, rfl⟩
theorem dX7_leastWearinessOfAll_54 : Dx cX7_leastWearinessOfAll 54 (.getfield 135) 3 57 := ⟨by decide +kernel, rfl⟩
theorem dX7_leastWearinessOfAll_57 : Dc cX7_leastWearinessOfAll 57 (fun o => .if_icmp .ne o) 64 60 := ⟨7, by decide +kernel, by decide, rfl⟩
theorem dX7_leastWearinessOfAll_60 : Dx cX7_leastWearinessOfAll 60 (.iconst 1) 1 61 := ⟨by decide +kernel, rfl⟩
theorem dX7_leastWearinessOfAll_61 : Dc cX7_leastWearinessOfAll 61 (fun o => .goto o) 65 64 := ⟨4, by decide +kernel, by decide, rfl⟩
theorem dX7_leastWearinessOfAll_64 : Dx cX7_leastWearinessOfAll 64 (.iconst 0) 1 65 := ⟨by decide +kernel, rfl⟩
theorem dX7_leastWearinessOfAll_65 : Dx cX7_leastWearinessOfAll 65 (.istore 7) 2 67 := ⟨by decide +kernel, rfl⟩
theorem dX7_leastWearinessOfAll_67 : Dx cX7_leastWearinessOfAll 67 (.iload 7) 2 69 := ⟨by decide +kernel, rfl⟩
theorem dX7_leastWearinessOfAll_69 : Dc cX7_leastWearinessOfAll 69 (fun o => .ifCond .eq o) 112 72 := ⟨43, by decide +kernel, by decide, rfl⟩
theorem dX7_leastWearinessOfAll_72 : Dx cX7_leastWearinessOfAll 72 (.iload 6) 2 74 := ⟨by decide +kernel, rfl⟩
theorem dX7_leastWearinessOfAll_74 : Dx cX7_leastWearinessOfAll 74 (.iload_n 3) 1 75 := ⟨by decide +kernel, rfl⟩
theorem dX7_leastWearinessOfAll_75 : Dx cX7_leastWearinessOfAll 75 (.iand) 1 76 := ⟨by decide +kernel, rfl⟩
theorem dX7_leastWearinessOfAll_76 : Dc cX7_leastWearinessOfAll 76 (fun o => .ifCond .eq o) 112 79 := ⟨36, by decide +kernel, by decide, rfl⟩
theorem dX7_leastWearinessOfAll_79 : Dx cX7_leastWearinessOfAll 79 (.iload 6) 2 81 := ⟨by decide +kernel, rfl⟩
theorem dX7_leastWearinessOfAll_81 : Dx cX7_leastWearinessOfAll 81 (.iload 4) 2 83 := ⟨by decide +kernel, rfl⟩
theorem dX7_leastWearinessOfAll_83 : Dx cX7_leastWearinessOfAll 83 (.iand) 1 84 := ⟨by decide +kernel, rfl⟩
theorem dX7_leastWearinessOfAll_84 : Dx cX7_leastWearinessOfAll 84 (.invokestatic 95) 3 87 := ⟨by decide +kernel, rfl⟩
theorem dX7_leastWearinessOfAll_87 : Dx cX7_leastWearinessOfAll 87 (.aload_n 0) 1 88 := ⟨by decide +kernel, rfl⟩
theorem dX7_leastWearinessOfAll_88 : Dx cX7_leastWearinessOfAll 88 (.getfield 19) 3 91 := ⟨by decide +kernel, rfl⟩
theorem dX7_leastWearinessOfAll_91 : Dx cX7_leastWearinessOfAll 91 (.iload_n 1) 1 92 := ⟨by decide +kernel, rfl⟩
theorem dX7_leastWearinessOfAll_92 : Dx cX7_leastWearinessOfAll 92 (.aaload) 1 93 := ⟨by decide +kernel, rfl⟩
theorem dX7_leastWearinessOfAll_93 : Dx cX7_leastWearinessOfAll 93 (.invokevirtual 141) 3 96 := ⟨by decide +kernel, rfl⟩
theorem dX7_leastWearinessOfAll_96 : Dc cX7_leastWearinessOfAll 96 (fun o => .if_icmp .le o) 112 99 := ⟨16, by decide +kernel, by decide, rfl⟩
theorem dX7_leastWearinessOfAll_99 : Dx cX7_leastWearinessOfAll 99 (.iload 5) 2 101 := ⟨by decide +kernel, rfl⟩
theorem dX7_leastWearinessOfAll_101 : Dx cX7_leastWearinessOfAll 101 (.aload_n 0) 1 102 := ⟨by decide +kernel, rfl⟩
theorem dX7_leastWearinessOfAll_102 : Dx cX7_leastWearinessOfAll 102 (.iload 6) 2 104 := ⟨by decide +kernel, rfl⟩
theorem dX7_leastWearinessOfAll_104 : Dx cX7_leastWearinessOfAll 104 (.invokevirtual 225) 3 107 := ⟨by decide +kernel, rfl⟩
theorem dX7_leastWearinessOfAll_107 : Dx cX7_leastWearinessOfAll 107 (.invokestatic 228) 3 110 := ⟨by decide +kernel, rfl⟩
theorem dX7_leastWearinessOfAll_110 : Dx cX7_leastWearinessOfAll 110 (.istore 5) 2 112 := ⟨by decide +kernel, rfl⟩
theorem dX7_leastWearinessOfAll_112 : Dx cX7_leastWearinessOfAll 112 (.iinc 6 1) 3 115 := ⟨by decide +kernel, rfl⟩
theorem dX7_leastWearinessOfAll_115 : Dc cX7_leastWearinessOfAll 115 (fun o => .goto o) 28 118 := ⟨(-87), by decide +kernel, by decide, rfl⟩
theorem dX7_leastWearinessOfAll_118 : Dx cX7_leastWearinessOfAll 118 (.iload 5) 2 120 := ⟨by decide +kernel, rfl⟩
theorem dX7_leastWearinessOfAll_120 : Dx cX7_leastWearinessOfAll 120 (.ireturn) 1 121 := ⟨by decide +kernel, rfl⟩
theorem dX7_memberInPlace_0 : Dx cX7_memberInPlace 0 (.iconst 0) 1 1 := ⟨by decide +kernel, rfl⟩
theorem dX7_memberInPlace_1 : Dx cX7_memberInPlace 1 (.istore 4) 2 3 := ⟨by decide +kernel, rfl⟩
theorem dX7_memberInPlace_3 : Dx cX7_memberInPlace 3 (.iload 4) 2 5 := ⟨by decide +kernel, rfl⟩
theorem dX7_memberInPlace_5 : Dx cX7_memberInPlace 5 (.aload_n 0) 1 6 := ⟨by decide +kernel, rfl⟩
theorem dX7_memberInPlace_6 : Dx cX7_memberInPlace 6 (.getfield 29) 3 9 := ⟨by decide +kernel, rfl⟩
theorem dX7_memberInPlace_9 : Dc cX7_memberInPlace 9 (fun o => .if_icmp .ge o) 42 12 := ⟨33, by decide +kernel, by decide, rfl⟩
theorem dX7_memberInPlace_12 : Dx cX7_memberInPlace 12 (.iload 4) 2 14 := ⟨by decide +kernel, rfl⟩
theorem dX7_memberInPlace_14 : Dx cX7_memberInPlace 14 (.iload_n 2) 1 15 := ⟨by decide +kernel, rfl⟩
theorem dX7_memberInPlace_15 : Dx cX7_memberInPlace 15 (.invokestatic 150) 3 18 := ⟨by decide +kernel, rfl⟩
theorem dX7_memberInPlace_18 : Dc cX7_memberInPlace 18 (fun o => .ifCond .eq o) 36 21 := ⟨18, by decide +kernel, by decide, rfl⟩
theorem dX7_memberInPlace_21 : Dx cX7_memberInPlace 21 (.aload_n 0) 1 22 := ⟨by decide +kernel, rfl⟩
theorem dX7_memberInPlace_22 : Dx cX7_memberInPlace 22 (.iload 4) 2 24 := ⟨by decide +kernel, rfl⟩
theorem dX7_memberInPlace_24 : Dx cX7_memberInPlace 24 (.iload_n 2) 1 25 := ⟨by decide +kernel, rfl⟩
theorem dX7_memberInPlace_25 : Dx cX7_memberInPlace 25 (.iload_n 3) 1 26 := ⟨by decide +kernel, rfl⟩
theorem dX7_memberInPlace_26 : Dx cX7_memberInPlace 26 (.invokevirtual 234) 3 29 := ⟨by decide +kernel, rfl⟩
theorem dX7_memberInPlace_29 : Dx cX7_memberInPlace 29 (.iload_n 1) 1 30 := ⟨by decide +kernel, rfl⟩
theorem dX7_memberInPlace_30 : Dc cX7_memberInPlace 30 (fun o => .if_icmp .ne o) 36 33 := ⟨6, by decide +kernel, by decide, rfl⟩
theorem dX7_memberInPlace_33 : Dx cX7_memberInPlace 33 (.iload 4) 2 35 := ⟨by decide +kernel, rfl⟩
theorem dX7_memberInPlace_35 : Dx cX7_memberInPlace 35 (.ireturn) 1 36 := ⟨by decide +kernel, rfl⟩
theorem dX7_memberInPlace_36 : Dx cX7_memberInPlace 36 (.iinc 4 1) 3 39 := ⟨by decide +kernel, rfl⟩
theorem dX7_memberInPlace_39 : Dc cX7_memberInPlace 39 (fun o => .goto o) 3 42 := ⟨(-36), by decide +kernel, by decide, rfl⟩
theorem dX7_memberInPlace_42 : Dx cX7_memberInPlace 42 (.iconst (-1)) 1 43 := ⟨by decide +kernel, rfl⟩
theorem dX7_memberInPlace_43 : Dx cX7_memberInPlace 43 (.ireturn) 1 44 := ⟨by decide +kernel, rfl⟩
theorem dX7_countBefore_0 : Dx cX7_countBefore 0 (.iconst 0) 1 1 := ⟨by decide +kernel, rfl⟩
theorem dX7_countBefore_1 : Dx cX7_countBefore 1 (.istore 4) 2 3 := ⟨by decide +kernel, rfl⟩
theorem dX7_countBefore_3 : Dx cX7_countBefore 3 (.iconst 0) 1 4 := ⟨by decide +kernel, rfl⟩
theorem dX7_countBefore_4 : Dx cX7_countBefore 4 (.istore 5) 2 6 := ⟨by decide +kernel, rfl⟩
theorem dX7_countBefore_6 : Dx cX7_countBefore 6 (.iload 5) 2 8 := ⟨by decide +kernel, rfl⟩
theorem dX7_countBefore_8 : Dx cX7_countBefore 8 (.aload_n 0) 1 9 := ⟨by decide +kernel, rfl⟩
theorem dX7_countBefore_9 : Dx cX7_countBefore 9 (.getfield 29) 3 12 := ⟨by decide +kernel, rfl⟩
theorem dX7_countBefore_12 : Dc cX7_countBefore 12 (fun o => .if_icmp .ge o) 61 15 := ⟨49, by decide +kernel, by decide, rfl⟩
theorem dX7_countBefore_15 : Dx cX7_countBefore 15 (.iload_n 3) 1 16 := ⟨by decide +kernel, rfl⟩
theorem dX7_countBefore_16 : Dc cX7_countBefore 16 (fun o => .ifCond .eq o) 29 19 := ⟨13, by decide +kernel, by decide, rfl⟩
theorem dX7_countBefore_19 : Dx cX7_countBefore 19 (.aload_n 0) 1 20 := ⟨by decide +kernel, rfl⟩
theorem dX7_countBefore_20 : Dx cX7_countBefore 20 (.iload 5) 2 22 := ⟨by decide +kernel, rfl⟩
theorem dX7_countBefore_22 : Dx cX7_countBefore 22 (.iload_n 1) 1 23 := ⟨by decide +kernel, rfl⟩
theorem dX7_countBefore_23 : Dx cX7_countBefore 23 (.invokevirtual 238) 3 26 := ⟨by decide +kernel, rfl⟩
theorem dX7_countBefore_26 : Dc cX7_countBefore 26 (fun o => .goto o) 36 29 := ⟨10, by decide +kernel, by decide, rfl⟩
theorem dX7_countBefore_29 : Dx cX7_countBefore 29 (.aload_n 0) 1 30 := ⟨by decide +kernel, rfl⟩
theorem dX7_countBefore_30 : Dx cX7_countBefore 30 (.iload 5) 2 32 := ⟨by decide +kernel, rfl⟩
theorem dX7_countBefore_32 : Dx cX7_countBefore 32 (.iload_n 1) 1 33 := ⟨by decide +kernel, rfl⟩
theorem dX7_countBefore_33 : Dx cX7_countBefore 33 (.invokevirtual 241) 3 36 := ⟨by decide +kernel, rfl⟩
theorem dX7_countBefore_36 : Dx cX7_countBefore 36 (.istore 6) 2 38 := ⟨by decide +kernel, rfl⟩
theorem dX7_countBefore_38 : Dx cX7_countBefore 38 (.iload 5) 2 40 := ⟨by decide +kernel, rfl⟩
theorem dX7_countBefore_40 : Dx cX7_countBefore 40 (.iload_n 2) 1 41 := ⟨by decide +kernel, rfl⟩
theorem dX7_countBefore_41 : Dx cX7_countBefore 41 (.invokestatic 150) 3 44 := ⟨by decide +kernel, rfl⟩
theorem dX7_countBefore_44 : Dc cX7_countBefore 44 (fun o => .ifCond .eq o) 55 47 := ⟨11, by decide +kernel, by decide, rfl⟩
theorem dX7_countBefore_47 : Dx cX7_countBefore 47 (.iload 6) 2 49 := ⟨by decide +kernel, rfl⟩
theorem dX7_countBefore_49 : Dc cX7_countBefore 49 (fun o => .ifCond .eq o) 55 52 := ⟨6, by decide +kernel, by decide, rfl⟩
theorem dX7_countBefore_52 : Dx cX7_countBefore 52 (.iinc 4 1) 3 55 := ⟨by decide +kernel, rfl⟩
theorem dX7_countBefore_55 : Dx cX7_countBefore 55 (.iinc 5 1) 3 58 := ⟨by decide +kernel, rfl⟩
theorem dX7_countBefore_58 : Dc cX7_countBefore 58 (fun o => .goto o) 6 61 := ⟨(-52), by decide +kernel, by decide, rfl⟩
theorem dX7_countBefore_61 : Dx cX7_countBefore 61 (.iload 4) 2 63 := ⟨by decide +kernel, rfl⟩
theorem dX7_countBefore_63 : Dx cX7_countBefore 63 (.ireturn) 1 64 := ⟨by decide +kernel, rfl⟩
theorem dX7_isFresher_0 : Dx cX7_isFresher 0 (.aload_n 0) 1 1 := ⟨by decide +kernel, rfl⟩
theorem dX7_isFresher_1 : Dx cX7_isFresher 1 (.getfield 11) 3 4 := ⟨by decide +kernel, rfl⟩
theorem dX7_isFresher_4 : Dx cX7_isFresher 4 (.iload_n 1) 1 5 := ⟨by decide +kernel, rfl⟩
theorem dX7_isFresher_5 : Dx cX7_isFresher 5 (.aaload) 1 6 := ⟨by decide +kernel, rfl⟩
theorem dX7_isFresher_6 : Dx cX7_isFresher 6 (.astore_n 3) 1 7 := ⟨by decide +kernel, rfl⟩
theorem dX7_isFresher_7 : Dx cX7_isFresher 7 (.aload_n 0) 1 8 := ⟨by decide +kernel, rfl⟩
theorem dX7_isFresher_8 : Dx cX7_isFresher 8 (.getfield 11) 3 11 := ⟨by decide +kernel, rfl⟩
theorem dX7_isFresher_11 : Dx cX7_isFresher 11 (.iload_n 2) 1 12 := ⟨by decide +kernel, rfl⟩
theorem dX7_isFresher_12 : Dx cX7_isFresher 12 (.aaload) 1 13 := ⟨by decide +kernel, rfl⟩
theorem dX7_isFresher_13 : Dx cX7_isFresher 13 (.astore 4) 2 15 := ⟨by decide +kernel, rfl⟩
theorem dX7_isFresher_15 : Dx cX7_isFresher 15 (.aload_n 3) 1 16 := ⟨by decide +kernel, rfl⟩
theorem dX7_isFresher_16 : Dx cX7_isFresher 16 (.getfield 184) 3 19 := ⟨by decide +kernel, rfl⟩
theorem dX7_isFresher_19 : Dx cX7_isFresher 19 (.aload 4) 2 21 := ⟨by decide +kernel, rfl⟩
theorem dX7_isFresher_21 : Dx cX7_isFresher 21 (.getfield 184) 3 24 := ⟨by decide +kernel, rfl⟩
theorem dX7_isFresher_24 : Dc cX7_isFresher 24 (fun o => .if_icmp .eq o) 45 27 := ⟨21, by decide +kernel, by decide, rfl⟩
theorem dX7_isFresher_27 : Dx cX7_isFresher 27 (.aload_n 3) 1 28 := ⟨by decide +kernel, rfl⟩
theorem dX7_isFresher_28 : Dx cX7_isFresher 28 (.getfield 184) 3 31 := ⟨by decide +kernel, rfl⟩
theorem dX7_isFresher_31 : Dx cX7_isFresher 31 (.aload 4) 2 33 := ⟨by decide +kernel, rfl⟩
theorem dX7_isFresher_33 : Dx cX7_isFresher 33 (.getfield 184) 3 36 := ⟨by decide +kernel, rfl⟩
theorem dX7_isFresher_36 : Dc cX7_isFresher 36 (fun o => .if_icmp .ge o) 43 39 := ⟨7, by decide +kernel, by decide, rfl⟩
theorem dX7_isFresher_39 : Dx cX7_isFresher 39 (.iconst 1) 1 40 := ⟨by decide +kernel, rfl⟩
theorem dX7_isFresher_40 : Dc cX7_isFresher 40 (fun o => .goto o) 44 43 := ⟨4, by decide +kernel, by decide, rfl⟩
theorem dX7_isFresher_43 : Dx cX7_isFresher 43 (.iconst 0) 1 44 := ⟨by decide +kernel, rfl⟩
theorem dX7_isFresher_44 : Dx cX7_isFresher 44 (.ireturn) 1 45 := ⟨by decide +kernel, rfl⟩
theorem dX7_isFresher_45 : Dx cX7_isFresher 45 (.aload_n 3) 1 46 := ⟨by decide +kernel, rfl⟩
theorem dX7_isFresher_46 : Dx cX7_isFresher 46 (.getfield 108) 3 49 := ⟨by decide +kernel, rfl⟩
theorem dX7_isFresher_49 : Dx cX7_isFresher 49 (.aload 4) 2 51 := ⟨by decide +kernel, rfl⟩
theorem dX7_isFresher_51 : Dx cX7_isFresher 51 (.getfield 108) 3 54 := ⟨by decide +kernel, rfl⟩
theorem dX7_isFresher_54 : Dc cX7_isFresher 54 (fun o => .if_icmp .eq o) 77 57 := ⟨23, by decide +kernel, by decide, rfl⟩
theorem dX7_isFresher_57 : Dx cX7_isFresher 57 (.aload_n 3) 1 58 := ⟨by decide +kernel, rfl⟩
theorem dX7_isFresher_58 : Dx cX7_isFresher 58 (.getfield 108) 3 61 := ⟨by decide +kernel, rfl⟩
theorem dX7_isFresher_61 : Dx cX7_isFresher 61 (.aload 4) 2 63 := ⟨by decide +kernel, rfl⟩
theorem dX7_isFresher_63 : Dx cX7_isFresher 63 (.getfield 108) 3 66 := ⟨by decide +kernel, rfl⟩
theorem dX7_isFresher_66 : Dc cX7_isFresher 66 (fun o => .if_icmp .le o) 73 69 := ⟨7, by decide +kernel, by decide, rfl⟩
theorem dX7_isFresher_69 : Dx cX7_isFresher 69 (.iconst 1) 1 70 := ⟨by decide +kernel, rfl⟩
theorem dX7_isFresher_70 : Dc cX7_isFresher 70 (fun o => .goto o) 87 73 := ⟨17, by decide +kernel, by decide, rfl⟩
theorem dX7_isFresher_73 : Dx cX7_isFresher 73 (.iconst 0) 1 74 := ⟨by decide +kernel, rfl⟩
theorem dX7_isFresher_74 : Dc cX7_isFresher 74 (fun o => .goto o) 87 77 := ⟨13, by decide +kernel, by decide, rfl⟩
theorem dX7_isFresher_77 : Dx cX7_isFresher 77 (.iload_n 1) 1 78 := ⟨by decide +kernel, rfl⟩
theorem dX7_isFresher_78 : Dx cX7_isFresher 78 (.iload_n 2) 1 79 := ⟨by decide +kernel, rfl⟩
theorem dX7_isFresher_79 : Dc cX7_isFresher 79 (fun o => .if_icmp .ge o) 86 82 := ⟨7, by decide +kernel, by decide, rfl⟩
theorem dX7_isFresher_82 : Dx cX7_isFresher 82 (.iconst 1) 1 83 := ⟨by decide +kernel, rfl⟩
theorem dX7_isFresher_83 : Dc cX7_isFresher 83 (fun o => .goto o) 87 86 := ⟨4, by decide +kernel, by decide, rfl⟩
theorem dX7_isFresher_86 : Dx cX7_isFresher 86 (.iconst 0) 1 87 := ⟨by decide +kernel, rfl⟩
theorem dX7_isFresher_87 : Dx cX7_isFresher 87 (.ireturn) 1 88 := ⟨by decide +kernel, rfl⟩
theorem dX7_isBusier_0 : Dx cX7_isBusier 0 (.aload_n 0) 1 1 := ⟨by decide +kernel, rfl⟩
theorem dX7_isBusier_1 : Dx cX7_isBusier 1 (.getfield 11) 3 4 := ⟨by decide +kernel, rfl⟩
theorem dX7_isBusier_4 : Dx cX7_isBusier 4 (.iload_n 1) 1 5 := ⟨by decide +kernel, rfl⟩
theorem dX7_isBusier_5 : Dx cX7_isBusier 5 (.aaload) 1 6 := ⟨by decide +kernel, rfl⟩
theorem dX7_isBusier_6 : Dx cX7_isBusier 6 (.astore_n 3) 1 7 := ⟨by decide +kernel, rfl⟩
theorem dX7_isBusier_7 : Dx cX7_isBusier 7 (.aload_n 0) 1 8 := ⟨by decide +kernel, rfl⟩
theorem dX7_isBusier_8 : Dx cX7_isBusier 8 (.getfield 11) 3 11 := ⟨by decide +kernel, rfl⟩
theorem dX7_isBusier_11 : Dx cX7_isBusier 11 (.iload_n 2) 1 12 := ⟨by decide +kernel, rfl⟩
theorem dX7_isBusier_12 : Dx cX7_isBusier 12 (.aaload) 1 13 := ⟨by decide +kernel, rfl⟩
theorem dX7_isBusier_13 : Dx cX7_isBusier 13 (.astore 4) 2 15 := ⟨by decide +kernel, rfl⟩
theorem dX7_isBusier_15 : Dx cX7_isBusier 15 (.aload_n 3) 1 16 := ⟨by decide +kernel, rfl⟩
theorem dX7_isBusier_16 : Dx cX7_isBusier 16 (.getfield 187) 3 19 := ⟨by decide +kernel, rfl⟩
theorem dX7_isBusier_19 : Dx cX7_isBusier 19 (.aload 4) 2 21 := ⟨by decide +kernel, rfl⟩
theorem dX7_isBusier_21 : Dx cX7_isBusier 21 (.getfield 187) 3 24 := ⟨by decide +kernel, rfl⟩
theorem dX7_isBusier_24 : Dc cX7_isBusier 24 (fun o => .if_icmp .eq o) 45 27 := ⟨21, by decide +kernel, by decide, rfl⟩
theorem dX7_isBusier_27 : Dx cX7_isBusier 27 (.aload_n 3) 1 28 := ⟨by decide +kernel, rfl⟩
theorem dX7_isBusier_28 : Dx cX7_isBusier 28 (.getfield 187) 3 31 := ⟨by decide +kernel, rfl⟩
theorem dX7_isBusier_31 : Dx cX7_isBusier 31 (.aload 4) 2 33 := ⟨by decide +kernel, rfl⟩
theorem dX7_isBusier_33 : Dx cX7_isBusier 33 (.getfield 187) 3 36 := ⟨by decide +kernel, rfl⟩
theorem dX7_isBusier_36 : Dc cX7_isBusier 36 (fun o => .if_icmp .le o) 43 39 := ⟨7, by decide +kernel, by decide, rfl⟩
theorem dX7_isBusier_39 : Dx cX7_isBusier 39 (.iconst 1) 1 40 := ⟨by decide +kernel, rfl⟩
theorem dX7_isBusier_40 : Dc cX7_isBusier 40 (fun o => .goto o) 44 43 := ⟨4, by decide +kernel, by decide, rfl⟩
theorem dX7_isBusier_43 : Dx cX7_isBusier 43 (.iconst 0) 1 44 := ⟨by decide +kernel, rfl⟩
theorem dX7_isBusier_44 : Dx cX7_isBusier 44 (.ireturn) 1 45 := ⟨by decide +kernel, rfl⟩
theorem dX7_isBusier_45 : Dx cX7_isBusier 45 (.aload_n 3) 1 46 := ⟨by decide +kernel, rfl⟩
theorem dX7_isBusier_46 : Dx cX7_isBusier 46 (.getfield 154) 3 49 := ⟨by decide +kernel, rfl⟩
theorem dX7_isBusier_49 : Dx cX7_isBusier 49 (.aload 4) 2 51 := ⟨by decide +kernel, rfl⟩
theorem dX7_isBusier_51 : Dx cX7_isBusier 51 (.getfield 154) 3 54 := ⟨by decide +kernel, rfl⟩
theorem dX7_isBusier_54 : Dc cX7_isBusier 54 (fun o => .if_icmp .eq o) 77 57 := ⟨23, by decide +kernel, by decide, rfl⟩
theorem dX7_isBusier_57 : Dx cX7_isBusier 57 (.aload_n 3) 1 58 := ⟨by decide +kernel, rfl⟩
theorem dX7_isBusier_58 : Dx cX7_isBusier 58 (.getfield 154) 3 61 := ⟨by decide +kernel, rfl⟩
theorem dX7_isBusier_61 : Dx cX7_isBusier 61 (.aload 4) 2 63 := ⟨by decide +kernel, rfl⟩
theorem dX7_isBusier_63 : Dx cX7_isBusier 63 (.getfield 154) 3 66 := ⟨by decide +kernel, rfl⟩
theorem dX7_isBusier_66 : Dc cX7_isBusier 66 (fun o => .if_icmp .le o) 73 69 := ⟨7, by decide +kernel, by decide, rfl⟩
theorem dX7_isBusier_69 : Dx cX7_isBusier 69 (.iconst 1) 1 70 := ⟨by decide +kernel, rfl⟩
theorem dX7_isBusier_70 : Dc cX7_isBusier 70 (fun o => .goto o) 87 73 := ⟨17, by decide +kernel, by decide, rfl⟩
theorem dX7_isBusier_73 : Dx cX7_isBusier 73 (.iconst 0) 1 74 := ⟨by decide +kernel, rfl⟩
theorem dX7_isBusier_74 : Dc cX7_isBusier 74 (fun o => .goto o) 87 77 := ⟨13, by decide +kernel, by decide, rfl⟩
theorem dX7_isBusier_77 : Dx cX7_isBusier 77 (.iload_n 1) 1 78 := ⟨by decide +kernel, rfl⟩
theorem dX7_isBusier_78 : Dx cX7_isBusier 78 (.iload_n 2) 1 79 := ⟨by decide +kernel, rfl⟩
theorem dX7_isBusier_79 : Dc cX7_isBusier 79 (fun o => .if_icmp .ge o) 86 82 := ⟨7, by decide +kernel, by decide, rfl⟩
theorem dX7_isBusier_82 : Dx cX7_isBusier 82 (.iconst 1) 1 83 := ⟨by decide +kernel, rfl⟩
theorem dX7_isBusier_83 : Dc cX7_isBusier 83 (fun o => .goto o) 87 86 := ⟨4, by decide +kernel, by decide, rfl⟩
theorem dX7_isBusier_86 : Dx cX7_isBusier 86 (.iconst 0) 1 87 := ⟨by decide +kernel, rfl⟩
theorem dX7_isBusier_87 : Dx cX7_isBusier 87 (.ireturn) 1 88 := ⟨by decide +kernel, rfl⟩
theorem dX8_init_0 : Dx cX8_init 0 (.aload_n 0) 1 1 := ⟨by decide +kernel, rfl⟩
theorem dX8_init_1 : Dx cX8_init 1 (.invokespecial 3) 3 4 := ⟨by decide +kernel, rfl⟩
theorem dX8_init_4 : Dx cX8_init 4 (.aload_n 0) 1 5 := ⟨by decide +kernel, rfl⟩
theorem dX8_init_5 : Dx cX8_init 5 (.new 9) 3 8 := ⟨by decide +kernel, rfl⟩
theorem dX8_init_8 : Dx cX8_init 8 (.dup) 1 9 := ⟨by decide +kernel, rfl⟩
theorem dX8_init_9 : Dx cX8_init 9 (.invokespecial 11) 3 12 := ⟨by decide +kernel, rfl⟩
theorem dX8_init_12 : Dx cX8_init 12 (.putfield 12) 3 15 := ⟨by decide +kernel, rfl⟩
theorem dX8_init_15 : Dx cX8_init 15 (.aload_n 0) 1 16 := ⟨by decide +kernel, rfl⟩
theorem dX8_init_16 : Dx cX8_init 16 (.new 9) 3 19 := ⟨by decide +kernel, rfl⟩
theorem dX8_init_19 : Dx cX8_init 19 (.dup) 1 20 := ⟨by decide +kernel, rfl⟩
theorem dX8_init_20 : Dx cX8_init 20 (.invokespecial 11) 3 23 := ⟨by decide +kernel, rfl⟩
theorem dX8_init_23 : Dx cX8_init 23 (.putfield 16) 3 26 := ⟨by decide +kernel, rfl⟩
theorem dX8_init_26 : Dx cX8_init 26 (.aload_n 0) 1 27 := ⟨by decide +kernel, rfl⟩
theorem dX8_init_27 : Dx cX8_init 27 (.new 9) 3 30 := ⟨by decide +kernel, rfl⟩
theorem dX8_init_30 : Dx cX8_init 30 (.dup) 1 31 := ⟨by decide +kernel, rfl⟩
theorem dX8_init_31 : Dx cX8_init 31 (.invokespecial 11) 3 34 := ⟨by decide +kernel, rfl⟩
theorem dX8_init_34 : Dx cX8_init 34 (.putfield 19) 3 37 := ⟨by decide +kernel, rfl⟩
theorem dX8_init_37 : Dx cX8_init 37 (.aload_n 0) 1 38 := ⟨by decide +kernel, rfl⟩
theorem dX8_init_38 : Dx cX8_init 38 (.iconst 0) 1 39 := ⟨by decide +kernel, rfl⟩
theorem dX8_init_39 : Dx cX8_init 39 (.putfield 22) 3 42 := ⟨by decide +kernel, rfl⟩
theorem dX8_init_42 : Dx cX8_init 42 (.aload_n 0) 1 43 := ⟨by decide +kernel, rfl⟩
theorem dX8_init_43 : Dx cX8_init 43 (.bipush 8) 2 45 := ⟨by decide +kernel, rfl⟩
theorem dX8_init_45 : Dx cX8_init 45 (.anewarray 9) 3 48 := ⟨by decide +kernel, rfl⟩
theorem dX8_init_48 : Dx cX8_init 48 (.putfield 26) 3 51 := ⟨by decide +kernel, rfl⟩
theorem dX8_init_51 : Dx cX8_init 51 (.aload_n 0) 1 52 := ⟨by decide +kernel, rfl⟩
theorem dX8_init_52 : Dx cX8_init 52 (.iconst 0) 1 53 := ⟨by decide +kernel, rfl⟩
theorem dX8_init_53 : Dx cX8_init 53 (.putfield 30) 3 56 := ⟨by decide +kernel, rfl⟩
theorem dX8_init_56 : Dx cX8_init 56 (.aload_n 0) 1 57 := ⟨by decide +kernel, rfl⟩
theorem dX8_init_57 : Dx cX8_init 57 (.new 34) 3 60 := ⟨by decide +kernel, rfl⟩
theorem dX8_init_60 : Dx cX8_init 60 (.dup) 1 61 := ⟨by decide +kernel, rfl⟩
theorem dX8_init_61 : Dx cX8_init 61 (.invokespecial 36) 3 64 := ⟨by decide +kernel, rfl⟩
theorem dX8_init_64 : Dx cX8_init 64 (.putfield 37) 3 67 := ⟨by decide +kernel, rfl⟩
theorem dX8_init_67 : Dx cX8_init 67 (.aload_n 0) 1 68 := ⟨by decide +kernel, rfl⟩
theorem dX8_init_68 : Dx cX8_init 68 (.new 34) 3 71 := ⟨by decide +kernel, rfl⟩
theorem dX8_init_71 : Dx cX8_init 71 (.dup) 1 72 := ⟨by decide +kernel, rfl⟩
theorem dX8_init_72 : Dx cX8_init 72 (.invokespecial 36) 3 75 := ⟨by decide +kernel, rfl⟩
theorem dX8_init_75 : Dx cX8_init 75 (.putfield 41) 3 78 := ⟨by decide +kernel, rfl⟩
theorem dX8_init_78 : Dx cX8_init 78 (.aload_n 0) 1 79 := ⟨by decide +kernel, rfl⟩
theorem dX8_init_79 : Dx cX8_init 79 (.new 34) 3 82 := ⟨by decide +kernel, rfl⟩
theorem dX8_init_82 : Dx cX8_init 82 (.dup) 1 83 := ⟨by decide +kernel, rfl⟩
theorem dX8_init_83 : Dx cX8_init 83 (.invokespecial 36) 3 86 := ⟨by decide +kernel, rfl⟩
theorem dX8_init_86 : Dx cX8_init 86 (.putfield 44) 3 89 := ⟨by decide +kernel, rfl⟩
theorem dX8_init_89 : Dx cX8_init 89 (.aload_n 0) 1 90 := ⟨by decide +kernel, rfl⟩
theorem dX8_init_90 : Dx cX8_init 90 (.new 47) 3 93 := ⟨by decide +kernel, rfl⟩
theorem dX8_init_93 : Dx cX8_init 93 (.dup) 1 94 := ⟨by decide +kernel, rfl⟩
theorem dX8_init_94 : Dx cX8_init 94 (.invokespecial 49) 3 97 := ⟨by decide +kernel, rfl⟩
theorem dX8_init_97 : Dx cX8_init 97 (.putfield 50) 3 100 := ⟨by decide +kernel, rfl⟩
theorem dX8_init_100 : Dx cX8_init 100 (.aload_n 0) 1 101 := ⟨by decide +kernel, rfl⟩
theorem dX8_init_101 : Dx cX8_init 101 (.iconst (-1)) 1 102 := ⟨by decide +kernel, rfl⟩
theorem dX8_init_102 : Dx cX8_init 102 (.putfield 54) 3 105 := ⟨by decide +kernel, rfl⟩
theorem dX8_init_105 : Dx cX8_init 105 (.aload_n 0) 1 106 := ⟨by decide +kernel, rfl⟩
theorem dX8_init_106 : Dx cX8_init 106 (.new 57) 3 109 := ⟨by decide +kernel, rfl⟩
theorem dX8_init_109 : Dx cX8_init 109 (.dup) 1 110 := ⟨by decide +kernel, rfl⟩
theorem dX8_init_110 : Dx cX8_init 110 (.invokespecial 59) 3 113 := ⟨by decide +kernel, rfl⟩
theorem dX8_init_113 : Dx cX8_init 113 (.putfield 60) 3 116 := ⟨by decide +kernel, rfl⟩
theorem dX8_init_116 : Dx cX8_init 116 (.iconst 0) 1 117 := ⟨by decide +kernel, rfl⟩
theorem dX8_init_117 : Dx cX8_init 117 (.istore_n 1) 1 118 := ⟨by decide +kernel, rfl⟩
theorem dX8_init_118 : Dx cX8_init 118 (.iload_n 1) 1 119 := ⟨by decide +kernel, rfl⟩
theorem dX8_init_119 : Dx cX8_init 119 (.bipush 8) 2 121 := ⟨by decide +kernel, rfl⟩
theorem dX8_init_121 : Dc cX8_init 121 (fun o => .if_icmp .ge o) 143 124 := ⟨22, by decide +kernel, by decide, rfl⟩
theorem dX8_init_124 : Dx cX8_init 124 (.aload_n 0) 1 125 := ⟨by decide +kernel, rfl⟩
theorem dX8_init_125 : Dx cX8_init 125 (.getfield 26) 3 128 := ⟨by decide +kernel, rfl⟩
theorem dX8_init_128 : Dx cX8_init 128 (.iload_n 1) 1 129 := ⟨by decide +kernel, rfl⟩
theorem dX8_init_129 : Dx cX8_init 129 (.new 9) 3 132 := ⟨by decide +kernel, rfl⟩
theorem dX8_init_132 : Dx cX8_init 132 (.dup) 1 133 := ⟨by decide +kernel, rfl⟩
theorem dX8_init_133 : Dx cX8_init 133 (.invokespecial 11) 3 136 := ⟨by decide +kernel, rfl⟩
theorem dX8_init_136 : Dx cX8_init 136 (.aastore) 1 137 := ⟨by decide +kernel, rfl⟩
theorem dX8_init_137 : Dx cX8_init 137 (.iinc 1 1) 3 140 := ⟨by decide +kernel, rfl⟩
theorem dX8_init_140 : Dc cX8_init 140 (fun o => .goto o) 118 143 := ⟨(-22), by decide +kernel, by decide, rfl⟩
theorem dX8_init_143 : Dx cX8_init 143 (.return_) 1 144 := ⟨by decide +kernel, rfl⟩
theorem dX8_member_0 : Dx cX8_member 0 (.aload_n 0) 1 1 := ⟨by decide +kernel, rfl⟩
theorem dX8_member_1 : Dx cX8_member 1 (.getstatic 64) 3 4 := ⟨by decide +kernel, rfl⟩
theorem dX8_member_4 : Dx cX8_member 4 (.iload_n 1) 1 5 := ⟨by decide +kernel, rfl⟩
theorem dX8_member_5 : Dx cX8_member 5 (.iconst 0) 1 6 := ⟨by decide +kernel, rfl⟩
theorem dX8_member_6 : Dx cX8_member 6 (.invokevirtual 70) 3 9 := ⟨by decide +kernel, rfl⟩
theorem dX8_member_9 : Dx cX8_member 9 (.ireturn) 1 10 := ⟨by decide +kernel, rfl⟩
theorem dX8_leave_0 : Dx cX8_leave 0 (.aload_n 0) 1 1 := ⟨by decide +kernel, rfl⟩
theorem dX8_leave_1 : Dx cX8_leave 1 (.getstatic 74) 3 4 := ⟨by decide +kernel, rfl⟩
theorem dX8_leave_4 : Dx cX8_leave 4 (.iload_n 1) 1 5 := ⟨by decide +kernel, rfl⟩
theorem dX8_leave_5 : Dx cX8_leave 5 (.iconst 0) 1 6 := ⟨by decide +kernel, rfl⟩
theorem dX8_leave_6 : Dx cX8_leave 6 (.invokevirtual 70) 3 9 := ⟨by decide +kernel, rfl⟩
theorem dX8_leave_9 : Dx cX8_leave 9 (.ireturn) 1 10 := ⟨by decide +kernel, rfl⟩
theorem dX8_train_0 : Dx cX8_train 0 (.aload_n 0) 1 1 := ⟨by decide +kernel, rfl⟩
theorem dX8_train_1 : Dx cX8_train 1 (.getstatic 77) 3 4 := ⟨by decide +kernel, rfl⟩
theorem dX8_train_4 : Dx cX8_train 4 (.iload_n 1) 1 5 := ⟨by decide +kernel, rfl⟩
theorem dX8_train_5 : Dx cX8_train 5 (.iconst 0) 1 6 := ⟨by decide +kernel, rfl⟩
theorem dX8_train_6 : Dx cX8_train 6 (.invokevirtual 70) 3 9 := ⟨by decide +kernel, rfl⟩
theorem dX8_train_9 : Dx cX8_train 9 (.ireturn) 1 10 := ⟨by decide +kernel, rfl⟩
theorem dX8_boat_0 : Dx cX8_boat 0 (.aload_n 0) 1 1 := ⟨by decide +kernel, rfl⟩
theorem dX8_boat_1 : Dx cX8_boat 1 (.getstatic 80) 3 4 := ⟨by decide +kernel, rfl⟩
theorem dX8_boat_4 : Dx cX8_boat 4 (.iload_n 1) 1 5 := ⟨by decide +kernel, rfl⟩
theorem dX8_boat_5 : Dx cX8_boat 5 (.iload_n 2) 1 6 := ⟨by decide +kernel, rfl⟩
theorem dX8_boat_6 : Dx cX8_boat 6 (.invokevirtual 70) 3 9 := ⟨by decide +kernel, rfl⟩
theorem dX8_boat_9 : Dx cX8_boat 9 (.ireturn) 1 10 := ⟨by decide +kernel, rfl⟩
theorem dX8_call_0 : Dx cX8_call 0 (.aload_n 0) 1 1 := ⟨by decide +kernel, rfl⟩
theorem dX8_call_1 : Dx cX8_call 1 (.getstatic 83) 3 4 := ⟨by decide +kernel, rfl⟩
theorem dX8_call_4 : Dx cX8_call 4 (.iload_n 1) 1 5 := ⟨by decide +kernel, rfl⟩
theorem dX8_call_5 : Dx cX8_call 5 (.iload_n 2) 1 6 := ⟨by decide +kernel, rfl⟩
theorem dX8_call_6 : Dx cX8_call 6 (.invokevirtual 70) 3 9 := ⟨by decide +kernel, rfl⟩
theorem dX8_call_9 : Dx cX8_call 9 (.ireturn) 1 10 := ⟨by decide +kernel, rfl⟩
theorem dX8_borrow_0 : Dx cX8_borrow 0 (.aload_n 0) 1 1 := ⟨by decide +kernel, rfl⟩
theorem dX8_borrow_1 : Dx cX8_borrow 1 (.getstatic 86) 3 4 := ⟨by decide +kernel, rfl⟩
theorem dX8_borrow_4 : Dx cX8_borrow 4 (.iload_n 1) 1 5 := ⟨by decide +kernel, rfl⟩
theorem dX8_borrow_5 : Dx cX8_borrow 5 (.iload_n 2) 1 6 := ⟨by decide +kernel, rfl⟩
theorem dX8_borrow_6 : Dx cX8_borrow 6 (.invokevirtual 70) 3 9 := ⟨by decide +kernel, rfl⟩
theorem dX8_borrow_9 : Dx cX8_borrow 9 (.ireturn) 1 10 := ⟨by decide +kernel, rfl⟩
theorem dX8_giveBack_0 : Dx cX8_giveBack 0 (.aload_n 0) 1 1 := ⟨by decide +kernel, rfl⟩
theorem dX8_giveBack_1 : Dx cX8_giveBack 1 (.getstatic 89) 3 4 := ⟨by decide +kernel, rfl⟩
theorem dX8_giveBack_4 : Dx cX8_giveBack 4 (.iload_n 1) 1 5 := ⟨by decide +kernel, rfl⟩
theorem dX8_giveBack_5 : Dx cX8_giveBack 5 (.iconst 0) 1 6 := ⟨by decide +kernel, rfl⟩
theorem dX8_giveBack_6 : Dx cX8_giveBack 6 (.invokevirtual 70) 3 9 := ⟨by decide +kernel, rfl⟩
theorem dX8_giveBack_9 : Dx cX8_giveBack 9 (.ireturn) 1 10 := ⟨by decide +kernel, rfl⟩
theorem dX8_limit_0 : Dx cX8_limit 0 (.aload_n 0) 1 1 := ⟨by decide +kernel, rfl⟩
theorem dX8_limit_1 : Dx cX8_limit 1 (.getstatic 92) 3 4 := ⟨by decide +kernel, rfl⟩
theorem dX8_limit_4 : Dx cX8_limit 4 (.iload_n 1) 1 5 := ⟨by decide +kernel, rfl⟩
theorem dX8_limit_5 : Dx cX8_limit 5 (.iconst 0) 1 6 := ⟨by decide +kernel, rfl⟩
theorem dX8_limit_6 : Dx cX8_limit 6 (.invokevirtual 70) 3 9 := ⟨by decide +kernel, rfl⟩
theorem dX8_limit_9 : Dx cX8_limit 9 (.ireturn) 1 10 := ⟨by decide +kernel, rfl⟩
theorem dX8_pass_0 : Dx cX8_pass 0 (.aload_n 0) 1 1 := ⟨by decide +kernel, rfl⟩
theorem dX8_pass_1 : Dx cX8_pass 1 (.getstatic 95) 3 4 := ⟨by decide +kernel, rfl⟩
theorem dX8_pass_4 : Dx cX8_pass 4 (.iload_n 1) 1 5 := ⟨by decide +kernel, rfl⟩
theorem dX8_pass_5 : Dx cX8_pass 5 (.iconst 0) 1 6 := ⟨by decide +kernel, rfl⟩
theorem dX8_pass_6 : Dx cX8_pass 6 (.invokevirtual 70) 3 9 := ⟨by decide +kernel, rfl⟩
theorem dX8_pass_9 : Dx cX8_pass 9 (.ireturn) 1 10 := ⟨by decide +kernel, rfl⟩
theorem dX8_memberOf_0 : Dx cX8_memberOf 0 (.aload_n 0) 1 1 := ⟨by decide +kernel, rfl⟩
theorem dX8_memberOf_1 : Dx cX8_memberOf 1 (.getfield 12) 3 4 := ⟨by decide +kernel, rfl⟩
theorem dX8_memberOf_4 : Dx cX8_memberOf 4 (.iload_n 1) 1 5 := ⟨by decide +kernel, rfl⟩
theorem dX8_memberOf_5 : Dx cX8_memberOf 5 (.invokevirtual 112) 3 8 := ⟨by decide +kernel, rfl⟩
theorem dX8_memberOf_8 : Dc cX8_memberOf 8 (fun o => .ifCond .ne o) 21 11 := ⟨13, by decide +kernel, by decide, rfl⟩
theorem dX8_memberOf_11 : Dx cX8_memberOf 11 (.new 116) 3 14 := ⟨by decide +kernel, rfl⟩
theorem dX8_memberOf_14 : Dx cX8_memberOf 14 (.dup) 1 15 := ⟨by decide +kernel, rfl⟩
theorem dX8_memberOf_15 : Dx cX8_memberOf 15 (.ldc 118) 2 17 := ⟨by decide +kernel, rfl⟩
theorem dX8_memberOf_17 : Dx cX8_memberOf 17 (.invokespecial 120) 3 20 := ⟨by decide +kernel, rfl⟩
theorem dX8_memberOf_20 : Dx cX8_memberOf 20 (.athrow) 1 21 := ⟨by decide +kernel, rfl⟩
theorem dX8_memberOf_21 : Dx cX8_memberOf 21 (.aload_n 0) 1 22 := ⟨by decide +kernel, rfl⟩
theorem dX8_memberOf_22 : Dx cX8_memberOf 22 (.getfield 12) 3 25 := ⟨by decide +kernel, rfl⟩
theorem dX8_memberOf_25 : Dx cX8_memberOf 25 (.getfield 121) 3 28 := ⟨by decide +kernel, rfl⟩
theorem dX8_memberOf_28 : Dx cX8_memberOf 28 (.iload_n 1) 1 29 := ⟨by decide +kernel, rfl⟩
theorem dX8_memberOf_29 : Dx cX8_memberOf 29 (.aaload) 1 30 := ⟨by decide +kernel, rfl⟩
theorem dX8_memberOf_30 : Dx cX8_memberOf 30 (.astore_n 3) 1 31 := ⟨by decide +kernel, rfl⟩
theorem dX8_memberOf_31 : Dx cX8_memberOf 31 (.iload_n 2) 1 32 := ⟨by decide +kernel, rfl⟩
theorem dX8_memberOf_32 : Dx cX8_memberOf 32 (.tableswitch 136 0 7 #[48, 53, 80, 85, 101, 121, 126, 131]) 48 80 := ⟨by decide +kernel, rfl⟩
theorem dX8_memberOf_80 : Dx cX8_memberOf 80 (.aload_n 3) 1 81 := ⟨by decide +kernel, rfl⟩
theorem dX8_memberOf_81 : Dx cX8_memberOf 81 (.getfield 125) 3 84 := ⟨by decide +kernel, rfl⟩
theorem dX8_memberOf_84 : Dx cX8_memberOf 84 (.ireturn) 1 85 := ⟨by decide +kernel, rfl⟩
theorem dX8_memberOf_85 : Dx cX8_memberOf 85 (.aload_n 3) 1 86 := ⟨by decide +kernel, rfl⟩
theorem dX8_memberOf_86 : Dx cX8_memberOf 86 (.getfield 130) 3 89 := ⟨by decide +kernel, rfl⟩
theorem dX8_memberOf_89 : Dx cX8_memberOf 89 (.iconst (-1)) 1 90 := ⟨by decide +kernel, rfl⟩
theorem dX8_memberOf_90 : Dc cX8_memberOf 90 (fun o => .if_icmp .ne o) 97 93 := ⟨7, by decide +kernel, by decide, rfl⟩
theorem dX8_memberOf_93 : Dx cX8_memberOf 93 (.iconst 0) 1 94 := ⟨by decide +kernel, rfl⟩
theorem dX8_memberOf_94 : Dc cX8_memberOf 94 (fun o => .goto o) 111 97 := ⟨17, by decide +kernel, by decide, rfl⟩
theorem dX8_memberOf_97 : Dx cX8_memberOf 97 (.aload_n 3) 1 98 := ⟨by decide +kernel, rfl⟩
theorem dX8_memberOf_98 : Dx cX8_memberOf 98 (.getfield 130) 3 101 := ⟨by decide +kernel, rfl⟩
theorem dX8_memberOf_101 : Dx cX8_memberOf 101 (.bipush (-2)) 2 103 := ⟨by decide +kernel, rfl⟩
theorem dX8_memberOf_103 : Dc cX8_memberOf 103 (fun o => .if_icmp .ne o) 110 106 := ⟨7, by decide +kernel, by decide, rfl⟩
theorem dX8_memberOf_106 : Dx cX8_memberOf 106 (.iconst 2) 1 107 := ⟨by decide +kernel, rfl⟩
theorem dX8_memberOf_107 : Dc cX8_memberOf 107 (fun o => .goto o) 111 110 := ⟨4, by decide +kernel, by decide, rfl⟩
theorem dX8_memberOf_110 : Dx cX8_memberOf 110 (.iconst 1) 1 111 := ⟨by decide +kernel, rfl⟩
theorem dX8_memberOf_111 : Dx cX8_memberOf 111 (.ireturn) 1 112 := ⟨by decide +kernel, rfl⟩
theorem dX8_memberOf_112 : Dx cX8_memberOf 112 (.aload_n 3) 1 113 := ⟨by decide +kernel, rfl⟩
theorem dX8_memberOf_113 : Dx cX8_memberOf 113 (.getfield 133) 3 116 := ⟨by decide +kernel, rfl⟩
theorem dX8_memberOf_116 : Dx cX8_memberOf 116 (.ireturn) 1 117 := ⟨by decide +kernel, rfl⟩
theorem dX8_memberOf_117 : Dx cX8_memberOf 117 (.aload_n 3) 1 118 := ⟨by decide +kernel, rfl⟩
theorem dX8_memberOf_118 : Dx cX8_memberOf 118 (.invokevirtual 136) 3 121 := ⟨by decide +kernel, rfl⟩
theorem dX8_memberOf_121 : Dc cX8_memberOf 121 (fun o => .ifCond .eq o) 131 124 := ⟨10, by decide +kernel, by decide, rfl⟩
theorem dX8_memberOf_124 : Dx cX8_memberOf 124 (.aload_n 3) 1 125 := ⟨by decide +kernel, rfl⟩
theorem dX8_memberOf_125 : Dx cX8_memberOf 125 (.getfield 130) 3 128 := ⟨by decide +kernel, rfl⟩
theorem dX8_memberOf_128 : Dc cX8_memberOf 128 (fun o => .goto o) 132 131 := ⟨4, by decide +kernel, by decide, rfl⟩
theorem dX8_memberOf_131 : Dx cX8_memberOf 131 (.iconst (-1)) 1 132 := ⟨by decide +kernel, rfl⟩
theorem dX8_memberOf_132 : Dx cX8_memberOf 132 (.ireturn) 1 133 := ⟨by decide +kernel, rfl⟩
theorem dX8_memberOf_133 : Dx cX8_memberOf 133 (.aload_n 3) 1 134 := ⟨by decide +kernel, rfl⟩
theorem dX8_memberOf_134 : Dx cX8_memberOf 134 (.aload_n 0) 1 135 := ⟨by decide +kernel, rfl⟩
theorem dX8_memberOf_135 : Dx cX8_memberOf 135 (.getfield 12) 3 138 := ⟨by decide +kernel, rfl⟩
theorem dX8_memberOf_138 : Dx cX8_memberOf 138 (.getfield 140) 3 141 := ⟨by decide +kernel, rfl⟩
theorem dX8_memberOf_141 : Dx cX8_memberOf 141 (.invokevirtual 143) 3 144 := ⟨by decide +kernel, rfl⟩
theorem dX8_memberOf_144 : Dc cX8_memberOf 144 (fun o => .ifCond .eq o) 151 147 := ⟨7, by decide +kernel, by decide, rfl⟩
theorem dX8_memberOf_147 : Dx cX8_memberOf 147 (.iconst 1) 1 148 := ⟨by decide +kernel, rfl⟩
theorem dX8_memberOf_148 : Dc cX8_memberOf 148 (fun o => .goto o) 152 151 := ⟨4, by decide +kernel, by decide, rfl⟩
theorem dX8_memberOf_151 : Dx cX8_memberOf 151 (.iconst 0) 1 152 := ⟨by decide +kernel, rfl⟩
theorem dX8_memberOf_152 : Dx cX8_memberOf 152 (.ireturn) 1 153 := ⟨by decide +kernel, rfl⟩
theorem dX8_memberOf_153 : Dx cX8_memberOf 153 (.aload_n 3) 1 154 := ⟨by decide +kernel, rfl⟩
theorem dX8_memberOf_154 : Dx cX8_memberOf 154 (.getfield 146) 3 157 := ⟨by decide +kernel, rfl⟩
theorem dX8_memberOf_157 : Dx cX8_memberOf 157 (.ireturn) 1 158 := ⟨by decide +kernel, rfl⟩
theorem dX8_memberOf_158 : Dx cX8_memberOf 158 (.aload_n 3) 1 159 := ⟨by decide +kernel, rfl⟩
theorem dX8_memberOf_159 : Dx cX8_memberOf 159 (.getfield 149) 3 162 := ⟨by decide +kernel, rfl⟩
theorem dX8_memberOf_162 : Dx cX8_memberOf 162 (.ireturn) 1 163 := ⟨by decide +kernel, rfl⟩
theorem dX8_memberOf_163 : Dx cX8_memberOf 163 (.aload_n 3) 1 164 := ⟨by decide +kernel, rfl⟩
theorem dX8_memberOf_164 : Dx cX8_memberOf 164 (.getfield 152) 3 167 := ⟨by decide +kernel, rfl⟩
theorem dX8_memberOf_167 : Dx cX8_memberOf 167 (.ireturn) 1 168 := ⟨by decide +kernel, rfl⟩
theorem dX8_memberOf_168 : Dx cX8_memberOf 168 (.new 98) 3 171 := ⟨by decide +kernel, rfl⟩
theorem dX8_memberOf_171 : Dx cX8_memberOf 171 (.dup) 1 172 := ⟨by decide +kernel, rfl⟩
theorem dX8_memberOf_172 : Dx cX8_memberOf 172 (.ldc 155) 2 174 := ⟨by decide +kernel, rfl⟩
theorem dX8_memberOf_174 : Dx cX8_memberOf 174 (.invokespecial 102) 3 177 := ⟨by decide +kernel, rfl⟩
theorem dX8_memberOf_177 : Dx cX8_memberOf 177 (.athrow) 1 178 := ⟨by decide +kernel, rfl⟩
theorem dX8_boatOf_0 : Dx cX8_boatOf 0 (.aload_n 0) 1 1 := ⟨by decide +kernel, rfl⟩
theorem dX8_boatOf_1 : Dx cX8_boatOf 1 (.iload_n 1) 1 2 := ⟨by decide +kernel, rfl⟩
theorem dX8_boatOf_2 : Dx cX8_boatOf 2 (.invokevirtual 157) 3 5 := ⟨by decide +kernel, rfl⟩
theorem dX8_boatOf_5 : Dx cX8_boatOf 5 (.aload_n 0) 1 6 := ⟨by decide +kernel, rfl⟩
theorem dX8_boatOf_6 : Dx cX8_boatOf 6 (.getfield 12) 3 9 := ⟨by decide +kernel, rfl⟩
theorem dX8_boatOf_9 : Dx cX8_boatOf 9 (.getfield 161) 3 12 := ⟨by decide +kernel, rfl⟩
theorem dX8_boatOf_12 : Dx cX8_boatOf 12 (.iload_n 1) 1 13 := ⟨by decide +kernel, rfl⟩
theorem dX8_boatOf_13 : Dx cX8_boatOf 13 (.aaload) 1 14 := ⟨by decide +kernel, rfl⟩
theorem dX8_boatOf_14 : Dx cX8_boatOf 14 (.astore_n 3) 1 15 := ⟨by decide +kernel, rfl⟩
theorem dX8_boatOf_15 : Dx cX8_boatOf 15 (.iload_n 2) 1 16 := ⟨by decide +kernel, rfl⟩
theorem dX8_boatOf_16 : Dx cX8_boatOf 16 (.tableswitch 87 0 6 #[44, 49, 54, 67, 72, 77, 82]) 44 60 := ⟨by decide +kernel, rfl⟩
theorem dX8_boatOf_60 : Dx cX8_boatOf 60 (.aload_n 3) 1 61 := ⟨by decide +kernel, rfl⟩
theorem dX8_boatOf_61 : Dx cX8_boatOf 61 (.getfield 165) 3 64 := ⟨by decide +kernel, rfl⟩
theorem dX8_boatOf_64 : Dx cX8_boatOf 64 (.ireturn) 1 65 := ⟨by decide +kernel, rfl⟩
theorem dX8_boatOf_65 : Dx cX8_boatOf 65 (.aload_n 3) 1 66 := ⟨by decide +kernel, rfl⟩
theorem dX8_boatOf_66 : Dx cX8_boatOf 66 (.getfield 170) 3 69 := ⟨by decide +kernel, rfl⟩
theorem dX8_boatOf_69 : Dx cX8_boatOf 69 (.ireturn) 1 70 := ⟨by decide +kernel, rfl⟩
theorem dX8_boatOf_70 : Dx cX8_boatOf 70 (.aload_n 3) 1 71 := ⟨by decide +kernel, rfl⟩
theorem dX8_boatOf_71 : Dx cX8_boatOf 71 (.invokevirtual 173) 3 74 := ⟨by decide +kernel, rfl⟩
theorem dX8_boatOf_74 : Dc cX8_boatOf 74 (fun o => .ifCond .eq o) 81 77 := ⟨7, by decide +kernel, by decide, rfl⟩
theorem dX8_boatOf_77 : Dx cX8_boatOf 77 (.iconst 1) 1 78 := ⟨by decide +kernel, rfl⟩
theorem dX8_boatOf_78 : Dc cX8_boatOf 78 (fun o => .goto o) 82 81 := ⟨4, by decide +kernel, by decide, rfl⟩
theorem dX8_boatOf_81 : Dx cX8_boatOf 81 (.iconst 0) 1 82 := ⟨by decide +kernel, rfl⟩
theorem dX8_boatOf_82 : Dx cX8_boatOf 82 (.ireturn) 1 83 := ⟨by decide +kernel, rfl⟩
theorem dX8_boatOf_83 : Dx cX8_boatOf 83 (.aload_n 3) 1 84 := ⟨by decide +kernel, rfl⟩
theorem dX8_boatOf_84 : Dx cX8_boatOf 84 (.getfield 174) 3 87 := ⟨by decide +kernel, rfl⟩
theorem dX8_boatOf_87 : Dx cX8_boatOf 87 (.ireturn) 1 88 := ⟨by decide +kernel, rfl⟩
theorem dX8_boatOf_88 : Dx cX8_boatOf 88 (.aload_n 3) 1 89 := ⟨by decide +kernel, rfl⟩
theorem dX8_boatOf_89 : Dx cX8_boatOf 89 (.getfield 177) 3 92 := ⟨by decide +kernel, rfl⟩
theorem dX8_boatOf_92 : Dx cX8_boatOf 92 (.ireturn) 1 93 := ⟨by decide +kernel, rfl⟩
theorem dX8_boatOf_93 : Dx cX8_boatOf 93 (.aload_n 3) 1 94 := ⟨by decide +kernel, rfl⟩
theorem dX8_boatOf_94 : Dx cX8_boatOf 94 (.getfield 180) 3 97 := ⟨by decide +kernel, rfl⟩
theorem dX8_boatOf_97 : Dx cX8_boatOf 97 (.ireturn) 1 98 := ⟨by decide +kernel, rfl⟩
theorem dX8_boatOf_98 : Dx cX8_boatOf 98 (.aload_n 3) 1 99 := ⟨by decide +kernel, rfl⟩
theorem dX8_boatOf_99 : Dx cX8_boatOf 99 (.getfield 183) 3 102 := ⟨by decide +kernel, rfl⟩
theorem dX8_boatOf_102 : Dx cX8_boatOf 102 (.ireturn) 1 103 := ⟨by decide +kernel, rfl⟩
theorem dX8_boatOf_103 : Dx cX8_boatOf 103 (.new 98) 3 106 := ⟨by decide +kernel, rfl⟩
theorem dX8_boatOf_106 : Dx cX8_boatOf 106 (.dup) 1 107 := ⟨by decide +kernel, rfl⟩
theorem dX8_boatOf_107 : Dx cX8_boatOf 107 (.ldc 184) 2 109 := ⟨by decide +kernel, rfl⟩
theorem dX8_boatOf_109 : Dx cX8_boatOf 109 (.invokespecial 102) 3 112 := ⟨by decide +kernel, rfl⟩
theorem dX8_boatOf_112 : Dx cX8_boatOf 112 (.athrow) 1 113 := ⟨by decide +kernel, rfl⟩
theorem dX8_crew_0 : Dx cX8_crew 0 (.aload_n 0) 1 1 := ⟨by decide +kernel, rfl⟩
theorem dX8_crew_1 : Dx cX8_crew 1 (.iload_n 1) 1 2 := ⟨by decide +kernel, rfl⟩
theorem dX8_crew_2 : Dx cX8_crew 2 (.invokevirtual 157) 3 5 := ⟨by decide +kernel, rfl⟩
theorem dX8_crew_5 : Dx cX8_crew 5 (.aload_n 0) 1 6 := ⟨by decide +kernel, rfl⟩
theorem dX8_crew_6 : Dx cX8_crew 6 (.getfield 12) 3 9 := ⟨by decide +kernel, rfl⟩
theorem dX8_crew_9 : Dx cX8_crew 9 (.iload_n 1) 1 10 := ⟨by decide +kernel, rfl⟩
theorem dX8_crew_10 : Dx cX8_crew 10 (.invokevirtual 186) 3 13 := ⟨by decide +kernel, rfl⟩
theorem dX8_crew_13 : Dx cX8_crew 13 (.ireturn) 1 14 := ⟨by decide +kernel, rfl⟩
theorem dX8_able_0 : Dx cX8_able 0 (.aload_n 0) 1 1 := ⟨by decide +kernel, rfl⟩
theorem dX8_able_1 : Dx cX8_able 1 (.getfield 12) 3 4 := ⟨by decide +kernel, rfl⟩
theorem dX8_able_4 : Dx cX8_able 4 (.invokevirtual 189) 3 7 := ⟨by decide +kernel, rfl⟩
theorem dX8_able_7 : Dx cX8_able 7 (.ireturn) 1 8 := ⟨by decide +kernel, rfl⟩
theorem dX8_wouldGo_0 : Dx cX8_wouldGo 0 (.aload_n 0) 1 1 := ⟨by decide +kernel, rfl⟩
theorem dX8_wouldGo_1 : Dx cX8_wouldGo 1 (.iload_n 1) 1 2 := ⟨by decide +kernel, rfl⟩
theorem dX8_wouldGo_2 : Dx cX8_wouldGo 2 (.invokevirtual 157) 3 5 := ⟨by decide +kernel, rfl⟩
theorem dX8_wouldGo_5 : Dx cX8_wouldGo 5 (.aload_n 0) 1 6 := ⟨by decide +kernel, rfl⟩
theorem dX8_wouldGo_6 : Dx cX8_wouldGo 6 (.iload_n 1) 1 7 := ⟨by decide +kernel, rfl⟩
theorem dX8_wouldGo_7 : Dx cX8_wouldGo 7 (.invokevirtual 193) 3 10 := ⟨by decide +kernel, rfl⟩
theorem dX8_wouldGo_10 : Dx cX8_wouldGo 10 (.aload_n 0) 1 11 := ⟨by decide +kernel, rfl⟩
theorem dX8_wouldGo_11 : Dx cX8_wouldGo 11 (.getfield 12) 3 14 := ⟨by decide +kernel, rfl⟩
theorem dX8_wouldGo_14 : Dx cX8_wouldGo 14 (.iload_n 1) 1 15 := ⟨by decide +kernel, rfl⟩
theorem dX8_wouldGo_15 : Dx cX8_wouldGo 15 (.invokevirtual 196) 3 18 := ⟨by decide +kernel, rfl⟩
theorem dX8_wouldGo_18 : Dx cX8_wouldGo 18 (.ireturn) 1 19 := ⟨by decide +kernel, rfl⟩
theorem dX8_weariness_0 : Dx cX8_weariness 0 (.aload_n 0) 1 1 := ⟨by decide +kernel, rfl⟩
theorem dX8_weariness_1 : Dx cX8_weariness 1 (.iload_n 1) 1 2 := ⟨by decide +kernel, rfl⟩
theorem dX8_weariness_2 : Dx cX8_weariness 2 (.invokevirtual 157) 3 5 := ⟨by decide +kernel, rfl⟩
theorem dX8_weariness_5 : Dx cX8_weariness 5 (.aload_n 0) 1 6 := ⟨by decide +kernel, rfl⟩
theorem dX8_weariness_6 : Dx cX8_weariness 6 (.iload_n 1) 1 7 := ⟨by decide +kernel, rfl⟩
theorem dX8_weariness_7 : Dx cX8_weariness 7 (.invokevirtual 193) 3 10 := ⟨by decide +kernel, rfl⟩
theorem dX8_weariness_10 : Dx cX8_weariness 10 (.aload_n 0) 1 11 := ⟨by decide +kernel, rfl⟩
theorem dX8_weariness_11 : Dx cX8_weariness 11 (.getfield 12) 3 14 := ⟨by decide +kernel, rfl⟩
theorem dX8_weariness_14 : Dx cX8_weariness 14 (.aload_n 0) 1 15 := ⟨by decide +kernel, rfl⟩
theorem dX8_weariness_15 : Dx cX8_weariness 15 (.getfield 12) 3 18 := ⟨by decide +kernel, rfl⟩
theorem dX8_weariness_18 : Dx cX8_weariness 18 (.iload_n 1) 1 19 := ⟨by decide +kernel, rfl⟩
theorem dX8_weariness_19 : Dx cX8_weariness 19 (.invokevirtual 196) 3 22 := ⟨by decide +kernel, rfl⟩
theorem dX8_weariness_22 : Dx cX8_weariness 22 (.invokevirtual 199) 3 25 := ⟨by decide +kernel, rfl⟩
theorem dX8_weariness_25 : Dx cX8_weariness 25 (.ireturn) 1 26 := ⟨by decide +kernel, rfl⟩
theorem dX8_wearinessAgain_0 : Dx cX8_wearinessAgain 0 (.aload_n 0) 1 1 := ⟨by decide +kernel, rfl⟩
theorem dX8_wearinessAgain_1 : Dx cX8_wearinessAgain 1 (.iload_n 1) 1 2 := ⟨by decide +kernel, rfl⟩
theorem dX8_wearinessAgain_2 : Dx cX8_wearinessAgain 2 (.invokevirtual 157) 3 5 := ⟨by decide +kernel, rfl⟩
theorem dX8_wearinessAgain_5 : Dx cX8_wearinessAgain 5 (.aload_n 0) 1 6 := ⟨by decide +kernel, rfl⟩
theorem dX8_wearinessAgain_6 : Dx cX8_wearinessAgain 6 (.iload_n 1) 1 7 := ⟨by decide +kernel, rfl⟩
theorem dX8_wearinessAgain_7 : Dx cX8_wearinessAgain 7 (.invokevirtual 193) 3 10 := ⟨by decide +kernel, rfl⟩
theorem dX8_wearinessAgain_10 : Dx cX8_wearinessAgain 10 (.aload_n 0) 1 11 := ⟨by decide +kernel, rfl⟩
theorem dX8_wearinessAgain_11 : Dx cX8_wearinessAgain 11 (.getfield 12) 3 14 := ⟨by decide +kernel, rfl⟩
theorem dX8_wearinessAgain_14 : Dx cX8_wearinessAgain 14 (.iload_n 1) 1 15 := ⟨by decide +kernel, rfl⟩
theorem dX8_wearinessAgain_15 : Dx cX8_wearinessAgain 15 (.invokevirtual 202) 3 18 := ⟨by decide +kernel, rfl⟩
theorem dX8_wearinessAgain_18 : Dx cX8_wearinessAgain 18 (.ireturn) 1 19 := ⟨by decide +kernel, rfl⟩
theorem dX8_wouldRefuse_0 : Dx cX8_wouldRefuse 0 (.aload_n 0) 1 1 := ⟨by decide +kernel, rfl⟩
theorem dX8_wouldRefuse_1 : Dx cX8_wouldRefuse 1 (.iload_n 1) 1 2 := ⟨by decide +kernel, rfl⟩
theorem dX8_wouldRefuse_2 : Dx cX8_wouldRefuse 2 (.invokevirtual 157) 3 5 := ⟨by decide +kernel, rfl⟩
theorem dX8_wouldRefuse_5 : Dx cX8_wouldRefuse 5 (.aload_n 0) 1 6 := ⟨by decide +kernel, rfl⟩
theorem dX8_wouldRefuse_6 : Dx cX8_wouldRefuse 6 (.getfield 12) 3 9 := ⟨by decide +kernel, rfl⟩
theorem dX8_wouldRefuse_9 : Dx cX8_wouldRefuse 9 (.iload_n 1) 1 10 := ⟨by decide +kernel, rfl⟩
theorem dX8_wouldRefuse_10 : Dx cX8_wouldRefuse 10 (.iconst 1) 1 11 := ⟨by decide +kernel, rfl⟩
theorem dX8_wouldRefuse_11 : Dx cX8_wouldRefuse 11 (.aload_n 0) 1 12 := ⟨by decide +kernel, rfl⟩
theorem dX8_wouldRefuse_12 : Dx cX8_wouldRefuse 12 (.getfield 44) 3 15 := ⟨by decide +kernel, rfl⟩
theorem dX8_wouldRefuse_15 : Dx cX8_wouldRefuse 15 (.invokevirtual 205) 3 18 := ⟨by decide +kernel, rfl⟩
theorem dX8_wouldRefuse_18 : Dx cX8_wouldRefuse 18 (.aload_n 0) 1 19 := ⟨by decide +kernel, rfl⟩
theorem dX8_wouldRefuse_19 : Dx cX8_wouldRefuse 19 (.getfield 44) 3 22 := ⟨by decide +kernel, rfl⟩
theorem dX8_wouldRefuse_22 : Dx cX8_wouldRefuse 22 (.getfield 209) 3 25 := ⟨by decide +kernel, rfl⟩
theorem dX8_wouldRefuse_25 : Dx cX8_wouldRefuse 25 (.ireturn) 1 26 := ⟨by decide +kernel, rfl⟩
theorem dX8_callableIn_0 : Dx cX8_callableIn 0 (.aload_n 0) 1 1 := ⟨by decide +kernel, rfl⟩
theorem dX8_callableIn_1 : Dx cX8_callableIn 1 (.iload_n 1) 1 2 := ⟨by decide +kernel, rfl⟩
theorem dX8_callableIn_2 : Dx cX8_callableIn 2 (.invokevirtual 157) 3 5 := ⟨by decide +kernel, rfl⟩
theorem dX8_callableIn_5 : Dx cX8_callableIn 5 (.aload_n 0) 1 6 := ⟨by decide +kernel, rfl⟩
theorem dX8_callableIn_6 : Dx cX8_callableIn 6 (.getfield 16) 3 9 := ⟨by decide +kernel, rfl⟩
theorem dX8_callableIn_9 : Dx cX8_callableIn 9 (.aload_n 0) 1 10 := ⟨by decide +kernel, rfl⟩
theorem dX8_callableIn_10 : Dx cX8_callableIn 10 (.getfield 12) 3 13 := ⟨by decide +kernel, rfl⟩
theorem dX8_callableIn_13 : Dx cX8_callableIn 13 (.invokevirtual 212) 3 16 := ⟨by decide +kernel, rfl⟩
theorem dX8_callableIn_16 : Dx cX8_callableIn 16 (.iconst 0) 1 17 := ⟨by decide +kernel, rfl⟩
theorem dX8_callableIn_17 : Dx cX8_callableIn 17 (.istore_n 2) 1 18 := ⟨by decide +kernel, rfl⟩
theorem dX8_callableIn_18 : Dx cX8_callableIn 18 (.iload_n 2) 1 19 := ⟨by decide +kernel, rfl⟩
theorem dX8_callableIn_19 : Dx cX8_callableIn 19 (.bipush 48) 2 21 := ⟨by decide +kernel, rfl⟩
theorem dX8_callableIn_21 : Dc cX8_callableIn 21 (fun o => .if_icmp .gt o) 64 24 := ⟨43, by decide +kernel, by decide, rfl⟩
theorem dX8_callableIn_24 : Dx cX8_callableIn 24 (.aload_n 0) 1 25 := ⟨by decide +kernel, rfl⟩
theorem dX8_callableIn_25 : Dx cX8_callableIn 25 (.getfield 16) 3 28 := ⟨by decide +kernel, rfl⟩
theorem dX8_callableIn_28 : Dx cX8_callableIn 28 (.iload_n 1) 1 29 := ⟨by decide +kernel, rfl⟩
theorem dX8_callableIn_29 : Dx cX8_callableIn 29 (.iconst 1) 1 30 := ⟨by decide +kernel, rfl⟩
theorem dX8_callableIn_30 : Dx cX8_callableIn 30 (.aload_n 0) 1 31 := ⟨by decide +kernel, rfl⟩
theorem dX8_callableIn_31 : Dx cX8_callableIn 31 (.getfield 44) 3 34 := ⟨by decide +kernel, rfl⟩
theorem dX8_callableIn_34 : Dx cX8_callableIn 34 (.invokevirtual 205) 3 37 := ⟨by decide +kernel, rfl⟩
theorem dX8_callableIn_37 : Dx cX8_callableIn 37 (.aload_n 0) 1 38 := ⟨by decide +kernel, rfl⟩
theorem dX8_callableIn_38 : Dx cX8_callableIn 38 (.getfield 44) 3 41 := ⟨by decide +kernel, rfl⟩
theorem dX8_callableIn_41 : Dx cX8_callableIn 41 (.invokevirtual 216) 3 44 := ⟨by decide +kernel, rfl⟩
theorem dX8_callableIn_44 : Dc cX8_callableIn 44 (fun o => .ifCond .ne o) 49 47 := ⟨5, by decide +kernel, by decide, rfl⟩
theorem dX8_callableIn_47 : Dx cX8_callableIn 47 (.iload_n 2) 1 48 := ⟨by decide +kernel, rfl⟩
theorem dX8_callableIn_48 : Dx cX8_callableIn 48 (.ireturn) 1 49 := ⟨by decide +kernel, rfl⟩
theorem dX8_callableIn_49 : Dx cX8_callableIn 49 (.aload_n 0) 1 50 := ⟨by decide +kernel, rfl⟩
theorem dX8_callableIn_50 : Dx cX8_callableIn 50 (.getfield 16) 3 53 := ⟨by decide +kernel, rfl⟩
theorem dX8_callableIn_53 : Dx cX8_callableIn 53 (.iconst 1) 1 54 := ⟨by decide +kernel, rfl⟩
theorem dX8_callableIn_54 : Dx cX8_callableIn 54 (.invokevirtual 219) 3 57 := ⟨by decide +kernel, rfl⟩
theorem dX8_callableIn_57 : Dx cX8_callableIn 57 (.pop) 1 58 := ⟨by decide +kernel, rfl⟩
theorem dX8_callableIn_58 : Dx cX8_callableIn 58 (.iinc 2 1) 3 61 := ⟨by decide +kernel, rfl⟩
theorem dX8_callableIn_61 : Dc cX8_callableIn 61 (fun o => .goto o) 18 64 := ⟨(-43), by decide +kernel, by decide, rfl⟩
theorem dX8_callableIn_64 : Dx cX8_callableIn 64 (.new 222) 3 67 := ⟨by decide +kernel, rfl⟩
theorem dX8_callableIn_67 : Dx cX8_callableIn 67 (.dup) 1 68 := ⟨by decide +kernel, rfl⟩
theorem dX8_callableIn_68 : Dx cX8_callableIn 68 (.ldc 224) 2 70 := ⟨by decide +kernel, rfl⟩
theorem dX8_callableIn_70 : Dx cX8_callableIn 70 (.invokespecial 226) 3 73 := ⟨by decide +kernel, rfl⟩
theorem dX8_callableIn_73 : Dx cX8_callableIn 73 (.athrow) 1 74 := ⟨by decide +kernel, rfl⟩
theorem dX8_homeIn_0 : Dx cX8_homeIn 0 (.aload_n 0) 1 1 := ⟨by decide +kernel, rfl⟩
theorem dX8_homeIn_1 : Dx cX8_homeIn 1 (.iload_n 1) 1 2 := ⟨by decide +kernel, rfl⟩
theorem dX8_homeIn_2 : Dx cX8_homeIn 2 (.invokevirtual 157) 3 5 := ⟨by decide +kernel, rfl⟩
theorem dX8_homeIn_5 : Dx cX8_homeIn 5 (.aload_n 0) 1 6 := ⟨by decide +kernel, rfl⟩
theorem dX8_homeIn_6 : Dx cX8_homeIn 6 (.iload_n 1) 1 7 := ⟨by decide +kernel, rfl⟩
theorem dX8_homeIn_7 : Dx cX8_homeIn 7 (.invokevirtual 227) 3 10 := ⟨by decide +kernel, rfl⟩
theorem dX8_homeIn_10 : Dx cX8_homeIn 10 (.aload_n 0) 1 11 := ⟨by decide +kernel, rfl⟩
theorem dX8_homeIn_11 : Dx cX8_homeIn 11 (.getfield 16) 3 14 := ⟨by decide +kernel, rfl⟩
theorem dX8_homeIn_14 : Dx cX8_homeIn 14 (.aload_n 0) 1 15 := ⟨by decide +kernel, rfl⟩
theorem dX8_homeIn_15 : Dx cX8_homeIn 15 (.getfield 12) 3 18 := ⟨by decide +kernel, rfl⟩
theorem dX8_homeIn_18 : Dx cX8_homeIn 18 (.invokevirtual 212) 3 21 := ⟨by decide +kernel, rfl⟩
theorem dX8_homeIn_21 : Dx cX8_homeIn 21 (.iconst 0) 1 22 := ⟨by decide +kernel, rfl⟩
theorem dX8_homeIn_22 : Dx cX8_homeIn 22 (.istore_n 2) 1 23 := ⟨by decide +kernel, rfl⟩
theorem dX8_homeIn_23 : Dx cX8_homeIn 23 (.iload_n 2) 1 24 := ⟨by decide +kernel, rfl⟩
theorem dX8_homeIn_24 : Dx cX8_homeIn 24 (.bipush 21) 2 26 := ⟨by decide +kernel, rfl⟩
theorem dX8_homeIn_26 : Dc cX8_homeIn 26 (fun o => .if_icmp .ge o) 59 29 := ⟨33, by decide +kernel, by decide, rfl⟩
theorem dX8_homeIn_29 : Dx cX8_homeIn 29 (.aload_n 0) 1 30 := ⟨by decide +kernel, rfl⟩
theorem dX8_homeIn_30 : Dx cX8_homeIn 30 (.getfield 16) 3 33 := ⟨by decide +kernel, rfl⟩
theorem dX8_homeIn_33 : Dx cX8_homeIn 33 (.getfield 161) 3 36 := ⟨by decide +kernel, rfl⟩
theorem dX8_homeIn_36 : Dx cX8_homeIn 36 (.iload_n 1) 1 37 := ⟨by decide +kernel, rfl⟩
theorem dX8_homeIn_37 : Dx cX8_homeIn 37 (.aaload) 1 38 := ⟨by decide +kernel, rfl⟩
theorem dX8_homeIn_38 : Dx cX8_homeIn 38 (.invokevirtual 173) 3 41 := ⟨by decide +kernel, rfl⟩
theorem dX8_homeIn_41 : Dc cX8_homeIn 41 (fun o => .ifCond .eq o) 59 44 := ⟨18, by decide +kernel, by decide, rfl⟩
theorem dX8_homeIn_44 : Dx cX8_homeIn 44 (.aload_n 0) 1 45 := ⟨by decide +kernel, rfl⟩
theorem dX8_homeIn_45 : Dx cX8_homeIn 45 (.getfield 16) 3 48 := ⟨by decide +kernel, rfl⟩
theorem dX8_homeIn_48 : Dx cX8_homeIn 48 (.iconst 1) 1 49 := ⟨by decide +kernel, rfl⟩
theorem dX8_homeIn_49 : Dx cX8_homeIn 49 (.invokevirtual 219) 3 52 := ⟨by decide +kernel, rfl⟩
theorem dX8_homeIn_52 : Dx cX8_homeIn 52 (.pop) 1 53 := ⟨by decide +kernel, rfl⟩
theorem dX8_homeIn_53 : Dx cX8_homeIn 53 (.iinc 2 1) 3 56 := ⟨by decide +kernel, rfl⟩
theorem dX8_homeIn_56 : Dc cX8_homeIn 56 (fun o => .goto o) 23 59 := ⟨(-33), by decide +kernel, by decide, rfl⟩
theorem dX8_homeIn_59 : Dx cX8_homeIn 59 (.iload_n 2) 1 60 := ⟨by decide +kernel, rfl⟩
theorem dX8_homeIn_60 : Dx cX8_homeIn 60 (.ireturn) 1 61 := ⟨by decide +kernel, rfl⟩
theorem dX8_homeInAgain_0 : Dx cX8_homeInAgain 0 (.aload_n 0) 1 1 := ⟨by decide +kernel, rfl⟩
theorem dX8_homeInAgain_1 : Dx cX8_homeInAgain 1 (.iload_n 1) 1 2 := ⟨by decide +kernel, rfl⟩
theorem dX8_homeInAgain_2 : Dx cX8_homeInAgain 2 (.invokevirtual 157) 3 5 := ⟨by decide +kernel, rfl⟩
theorem dX8_homeInAgain_5 : Dx cX8_homeInAgain 5 (.aload_n 0) 1 6 := ⟨by decide +kernel, rfl⟩
theorem dX8_homeInAgain_6 : Dx cX8_homeInAgain 6 (.iload_n 1) 1 7 := ⟨by decide +kernel, rfl⟩
theorem dX8_homeInAgain_7 : Dx cX8_homeInAgain 7 (.invokevirtual 227) 3 10 := ⟨by decide +kernel, rfl⟩
theorem dX8_homeInAgain_10 : Dx cX8_homeInAgain 10 (.aload_n 0) 1 11 := ⟨by decide +kernel, rfl⟩
theorem dX8_homeInAgain_11 : Dx cX8_homeInAgain 11 (.getfield 12) 3 14 := ⟨by decide +kernel, rfl⟩
theorem dX8_homeInAgain_14 : Dx cX8_homeInAgain 14 (.getfield 161) 3 17 := ⟨by decide +kernel, rfl⟩
theorem dX8_homeInAgain_17 : Dx cX8_homeInAgain 17 (.iload_n 1) 1 18 := ⟨by decide +kernel, rfl⟩
theorem dX8_homeInAgain_18 : Dx cX8_homeInAgain 18 (.aaload) 1 19 := ⟨by decide +kernel, rfl⟩
theorem dX8_homeInAgain_19 : Dx cX8_homeInAgain 19 (.astore_n 2) 1 20 := ⟨by decide +kernel, rfl⟩
theorem dX8_homeInAgain_20 : Dx cX8_homeInAgain 20 (.aload_n 2) 1 21 := ⟨by decide +kernel, rfl⟩
theorem dX8_homeInAgain_21 : Dx cX8_homeInAgain 21 (.getfield 174) 3 24 := ⟨by decide +kernel, rfl⟩
theorem dX8_homeInAgain_24 : Dx cX8_homeInAgain 24 (.iconst 1) 1 25 := ⟨by decide +kernel, rfl⟩
theorem dX8_homeInAgain_25 : Dx cX8_homeInAgain 25 (.invokestatic 230) 3 28 := ⟨by decide +kernel, rfl⟩
theorem dX8_homeInAgain_28 : Dx cX8_homeInAgain 28 (.istore_n 3) 1 29 := ⟨by decide +kernel, rfl⟩
theorem dX8_homeInAgain_29 : Dx cX8_homeInAgain 29 (.iload_n 3) 1 30 := ⟨by decide +kernel, rfl⟩
theorem dX8_homeInAgain_30 : Dx cX8_homeInAgain 30 (.bipush 21) 2 32 := ⟨by decide +kernel, rfl⟩
theorem dX8_homeInAgain_32 : Dc cX8_homeInAgain 32 (fun o => .if_icmp .ge o) 60 35 := ⟨28, by decide +kernel, by decide, rfl⟩
theorem dX8_homeInAgain_35 : Dx cX8_homeInAgain 35 (.aload_n 0) 1 36 := ⟨by decide +kernel, rfl⟩
theorem dX8_homeInAgain_36 : Dx cX8_homeInAgain 36 (.getfield 12) 3 39 := ⟨by decide +kernel, rfl⟩
theorem dX8_homeInAgain_39 : Dx cX8_homeInAgain 39 (.getfield 105) 3 42 := ⟨by decide +kernel, rfl⟩
theorem dX8_homeInAgain_42 : Dx cX8_homeInAgain 42 (.iload_n 3) 1 43 := ⟨by decide +kernel, rfl⟩
theorem dX8_homeInAgain_43 : Dx cX8_homeInAgain 43 (.iadd) 1 44 := ⟨by decide +kernel, rfl⟩
theorem dX8_homeInAgain_44 : Dx cX8_homeInAgain 44 (.invokestatic 108) 3 47 := ⟨by decide +kernel, rfl⟩
theorem dX8_homeInAgain_47 : Dx cX8_homeInAgain 47 (.aload_n 2) 1 48 := ⟨by decide +kernel, rfl⟩
theorem dX8_homeInAgain_48 : Dx cX8_homeInAgain 48 (.getfield 165) 3 51 := ⟨by decide +kernel, rfl⟩
theorem dX8_homeInAgain_51 : Dc cX8_homeInAgain 51 (fun o => .if_icmp .ge o) 60 54 := ⟨9, by decide +kernel, by decide, rfl⟩
theorem dX8_homeInAgain_54 : Dx cX8_homeInAgain 54 (.iinc 3 1) 3 57 := ⟨by decide +kernel, rfl⟩
theorem dX8_homeInAgain_57 : Dc cX8_homeInAgain 57 (fun o => .goto o) 29 60 := ⟨(-28), by decide +kernel, by decide, rfl⟩
theorem dX8_homeInAgain_60 : Dx cX8_homeInAgain 60 (.iload_n 3) 1 61 := ⟨by decide +kernel, rfl⟩
theorem dX8_homeInAgain_61 : Dx cX8_homeInAgain 61 (.ireturn) 1 62 := ⟨by decide +kernel, rfl⟩
theorem dX8_loanOf_0 : Dx cX8_loanOf 0 (.aload_n 0) 1 1 := ⟨by decide +kernel, rfl⟩
theorem dX8_loanOf_1 : Dx cX8_loanOf 1 (.getfield 12) 3 4 := ⟨by decide +kernel, rfl⟩
theorem dX8_loanOf_4 : Dx cX8_loanOf 4 (.iload_n 1) 1 5 := ⟨by decide +kernel, rfl⟩
theorem dX8_loanOf_5 : Dx cX8_loanOf 5 (.invokevirtual 236) 3 8 := ⟨by decide +kernel, rfl⟩
theorem dX8_loanOf_8 : Dc cX8_loanOf 8 (fun o => .ifCond .ne o) 21 11 := ⟨13, by decide +kernel, by decide, rfl⟩
theorem dX8_loanOf_11 : Dx cX8_loanOf 11 (.new 116) 3 14 := ⟨by decide +kernel, rfl⟩
theorem dX8_loanOf_14 : Dx cX8_loanOf 14 (.dup) 1 15 := ⟨by decide +kernel, rfl⟩
theorem dX8_loanOf_15 : Dx cX8_loanOf 15 (.ldc 239) 2 17 := ⟨by decide +kernel, rfl⟩
theorem dX8_loanOf_17 : Dx cX8_loanOf 17 (.invokespecial 120) 3 20 := ⟨by decide +kernel, rfl⟩
theorem dX8_loanOf_20 : Dx cX8_loanOf 20 (.athrow) 1 21 := ⟨by decide +kernel, rfl⟩
theorem dX8_loanOf_21 : Dx cX8_loanOf 21 (.aload_n 0) 1 22 := ⟨by decide +kernel, rfl⟩
theorem dX8_loanOf_22 : Dx cX8_loanOf 22 (.getfield 12) 3 25 := ⟨by decide +kernel, rfl⟩
theorem dX8_loanOf_25 : Dx cX8_loanOf 25 (.getfield 241) 3 28 := ⟨by decide +kernel, rfl⟩
theorem dX8_loanOf_28 : Dx cX8_loanOf 28 (.iload_n 1) 1 29 := ⟨by decide +kernel, rfl⟩
theorem dX8_loanOf_29 : Dx cX8_loanOf 29 (.aaload) 1 30 := ⟨by decide +kernel, rfl⟩
theorem dX8_loanOf_30 : Dx cX8_loanOf 30 (.astore_n 3) 1 31 := ⟨by decide +kernel, rfl⟩
theorem dX8_loanOf_31 : Dx cX8_loanOf 31 (.iload_n 2) 1 32 := ⟨by decide +kernel, rfl⟩
theorem dX8_loanOf_32 : Dx cX8_loanOf 32 (.tableswitch 43 0 2 #[28, 33, 38]) 28 60 := ⟨by decide +kernel, rfl⟩
theorem dX8_loanOf_60 : Dx cX8_loanOf 60 (.aload_n 3) 1 61 := ⟨by decide +kernel, rfl⟩
theorem dX8_loanOf_61 : Dx cX8_loanOf 61 (.getfield 245) 3 64 := ⟨by decide +kernel, rfl⟩
theorem dX8_loanOf_64 : Dx cX8_loanOf 64 (.ireturn) 1 65 := ⟨by decide +kernel, rfl⟩
theorem dX8_loanOf_65 : Dx cX8_loanOf 65 (.aload_n 3) 1 66 := ⟨by decide +kernel, rfl⟩
theorem dX8_loanOf_66 : Dx cX8_loanOf 66 (.getfield 250) 3 69 := ⟨by decide +kernel, rfl⟩
theorem dX8_loanOf_69 : Dx cX8_loanOf 69 (.ireturn) 1 70 := ⟨by decide +kernel, rfl⟩
theorem dX8_loanOf_70 : Dx cX8_loanOf 70 (.aload_n 3) 1 71 := ⟨by decide +kernel, rfl⟩
theorem dX8_loanOf_71 : Dx cX8_loanOf 71 (.getfield 253) 3 74 := ⟨by decide +kernel, rfl⟩
theorem dX8_loanOf_74 : Dx cX8_loanOf 74 (.ireturn) 1 75 := ⟨by decide +kernel, rfl⟩
theorem dX8_loanOf_75 : Dx cX8_loanOf 75 (.new 98) 3 78 := ⟨by decide +kernel, rfl⟩
theorem dX8_loanOf_78 : Dx cX8_loanOf 78 (.dup) 1 79 := ⟨by decide +kernel, rfl⟩
theorem dX8_loanOf_79 : Dx cX8_loanOf 79 (.ldc_w 256) 3 82 := ⟨by decide +kernel, rfl⟩
theorem dX8_loanOf_82 : Dx cX8_loanOf 82 (.invokespecial 102) 3 85 := ⟨by decide +kernel, rfl⟩
theorem dX8_loanOf_85 : Dx cX8_loanOf 85 (.athrow) 1 86 := ⟨by decide +kernel, rfl⟩
theorem dX8_free_0 : Dx cX8_free 0 (.aload_n 0) 1 1 := ⟨by decide +kernel, rfl⟩
theorem dX8_free_1 : Dx cX8_free 1 (.getfield 12) 3 4 := ⟨by decide +kernel, rfl⟩
theorem dX8_free_4 : Dx cX8_free 4 (.invokevirtual 258) 3 7 := ⟨by decide +kernel, rfl⟩
theorem dX8_free_7 : Dx cX8_free 7 (.ireturn) 1 8 := ⟨by decide +kernel, rfl⟩
theorem dX8_least_0 : Dx cX8_least 0 (.aload_n 0) 1 1 := ⟨by decide +kernel, rfl⟩
theorem dX8_least_1 : Dx cX8_least 1 (.getfield 12) 3 4 := ⟨by decide +kernel, rfl⟩
theorem dX8_least_4 : Dx cX8_least 4 (.iload_n 1) 1 5 := ⟨by decide +kernel, rfl⟩
theorem dX8_least_5 : Dx cX8_least 5 (.aload_n 0) 1 6 := ⟨by decide +kernel, rfl⟩
theorem dX8_least_6 : Dx cX8_least 6 (.getfield 12) 3 9 := ⟨by decide +kernel, rfl⟩
theorem dX8_least_9 : Dx cX8_least 9 (.invokevirtual 261) 3 12 := ⟨by decide +kernel, rfl⟩
theorem dX8_least_12 : Dx cX8_least 12 (.iconst 0) 1 13 := ⟨by decide +kernel, rfl⟩
theorem dX8_least_13 : Dx cX8_least 13 (.invokevirtual 264) 3 16 := ⟨by decide +kernel, rfl⟩
theorem dX8_least_16 : Dx cX8_least 16 (.istore_n 2) 1 17 := ⟨by decide +kernel, rfl⟩
theorem dX8_least_17 : Dx cX8_least 17 (.iload_n 2) 1 18 := ⟨by decide +kernel, rfl⟩
theorem dX8_least_18 : Dx cX8_least 18 (.iconst (-1)) 1 19 := ⟨by decide +kernel, rfl⟩
theorem dX8_least_19 : Dc cX8_least 19 (fun o => .if_icmp .ne o) 33 22 := ⟨14, by decide +kernel, by decide, rfl⟩
theorem dX8_least_22 : Dx cX8_least 22 (.new 222) 3 25 := ⟨by decide +kernel, rfl⟩
theorem dX8_least_25 : Dx cX8_least 25 (.dup) 1 26 := ⟨by decide +kernel, rfl⟩
theorem dX8_least_26 : Dx cX8_least 26 (.ldc_w 268) 3 29 := ⟨by decide +kernel, rfl⟩
theorem dX8_least_29 : Dx cX8_least 29 (.invokespecial 226) 3 32 := ⟨by decide +kernel, rfl⟩
theorem dX8_least_32 : Dx cX8_least 32 (.athrow) 1 33 := ⟨by decide +kernel, rfl⟩
theorem dX8_least_33 : Dx cX8_least 33 (.iload_n 2) 1 34 := ⟨by decide +kernel, rfl⟩
theorem dX8_least_34 : Dx cX8_least 34 (.ireturn) 1 35 := ⟨by decide +kernel, rfl⟩
theorem dX8_busiest_0 : Dx cX8_busiest 0 (.aload_n 0) 1 1 := ⟨by decide +kernel, rfl⟩
theorem dX8_busiest_1 : Dx cX8_busiest 1 (.getfield 12) 3 4 := ⟨by decide +kernel, rfl⟩
theorem dX8_busiest_4 : Dx cX8_busiest 4 (.iload_n 1) 1 5 := ⟨by decide +kernel, rfl⟩
theorem dX8_busiest_5 : Dx cX8_busiest 5 (.aload_n 0) 1 6 := ⟨by decide +kernel, rfl⟩
theorem dX8_busiest_6 : Dx cX8_busiest 6 (.getfield 12) 3 9 := ⟨by decide +kernel, rfl⟩
theorem dX8_busiest_9 : Dx cX8_busiest 9 (.invokevirtual 270) 3 12 := ⟨by decide +kernel, rfl⟩
theorem dX8_busiest_12 : Dx cX8_busiest 12 (.iconst 1) 1 13 := ⟨by decide +kernel, rfl⟩
theorem dX8_busiest_13 : Dx cX8_busiest 13 (.invokevirtual 264) 3 16 := ⟨by decide +kernel, rfl⟩
theorem dX8_busiest_16 : Dx cX8_busiest 16 (.istore_n 2) 1 17 := ⟨by decide +kernel, rfl⟩
theorem dX8_busiest_17 : Dx cX8_busiest 17 (.iload_n 2) 1 18 := ⟨by decide +kernel, rfl⟩
theorem dX8_busiest_18 : Dx cX8_busiest 18 (.iconst (-1)) 1 19 := ⟨by decide +kernel, rfl⟩
theorem dX8_busiest_19 : Dc cX8_busiest 19 (fun o => .if_icmp .ne o) 33 22 := ⟨14, by decide +kernel, by decide, rfl⟩
theorem dX8_busiest_22 : Dx cX8_busiest 22 (.new 222) 3 25 := ⟨by decide +kernel, rfl⟩
theorem dX8_busiest_25 : Dx cX8_busiest 25 (.dup) 1 26 := ⟨by decide +kernel, rfl⟩
theorem dX8_busiest_26 : Dx cX8_busiest 26 (.ldc_w 268) 3 29 := ⟨by decide +kernel, rfl⟩
theorem dX8_busiest_29 : Dx cX8_busiest 29 (.invokespecial 226) 3 32 := ⟨by decide +kernel, rfl⟩
theorem dX8_busiest_32 : Dx cX8_busiest 32 (.athrow) 1 33 := ⟨by decide +kernel, rfl⟩
theorem dX8_busiest_33 : Dx cX8_busiest 33 (.iload_n 2) 1 34 := ⟨by decide +kernel, rfl⟩
theorem dX8_busiest_34 : Dx cX8_busiest 34 (.ireturn) 1 35 := ⟨by decide +kernel, rfl⟩
theorem dX8_append_0 : Dx cX8_append 0 (.aload_n 0) 1 1 := ⟨by decide +kernel, rfl⟩
theorem dX8_append_1 : Dx cX8_append 1 (.getfield 50) 3 4 := ⟨by decide +kernel, rfl⟩
theorem dX8_append_4 : Dx cX8_append 4 (.getfield 273) 3 7 := ⟨by decide +kernel, rfl⟩
theorem dX8_append_7 : Dx cX8_append 7 (.bipush 60) 2 9 := ⟨by decide +kernel, rfl⟩
theorem dX8_append_9 : Dc cX8_append 9 (fun o => .if_icmp .lt o) 23 12 := ⟨14, by decide +kernel, by decide, rfl⟩
theorem dX8_append_12 : Dx cX8_append 12 (.new 276) 3 15 := ⟨by decide +kernel, rfl⟩
theorem dX8_append_15 : Dx cX8_append 15 (.dup) 1 16 := ⟨by decide +kernel, rfl⟩
theorem dX8_append_16 : Dx cX8_append 16 (.ldc_w 278) 3 19 := ⟨by decide +kernel, rfl⟩
theorem dX8_append_19 : Dx cX8_append 19 (.invokespecial 280) 3 22 := ⟨by decide +kernel, rfl⟩
theorem dX8_append_22 : Dx cX8_append 22 (.athrow) 1 23 := ⟨by decide +kernel, rfl⟩
theorem dX8_append_23 : Dx cX8_append 23 (.aload_n 0) 1 24 := ⟨by decide +kernel, rfl⟩
theorem dX8_append_24 : Dx cX8_append 24 (.getfield 50) 3 27 := ⟨by decide +kernel, rfl⟩
theorem dX8_append_27 : Dx cX8_append 27 (.iload_n 1) 1 28 := ⟨by decide +kernel, rfl⟩
theorem dX8_append_28 : Dx cX8_append 28 (.invokevirtual 281) 3 31 := ⟨by decide +kernel, rfl⟩
theorem dX8_append_31 : Dx cX8_append 31 (.aload_n 0) 1 32 := ⟨by decide +kernel, rfl⟩
theorem dX8_append_32 : Dx cX8_append 32 (.getfield 50) 3 35 := ⟨by decide +kernel, rfl⟩
theorem dX8_append_35 : Dx cX8_append 35 (.getfield 273) 3 38 := ⟨by decide +kernel, rfl⟩
theorem dX8_append_38 : Dx cX8_append 38 (.ireturn) 1 39 := ⟨by decide +kernel, rfl⟩
theorem dX8_commands_0 : Dx cX8_commands 0 (.aload_n 0) 1 1 := ⟨by decide +kernel, rfl⟩
theorem dX8_commands_1 : Dx cX8_commands 1 (.aload_n 0) 1 2 := ⟨by decide +kernel, rfl⟩
theorem dX8_commands_2 : Dx cX8_commands 2 (.getfield 50) 3 5 := ⟨by decide +kernel, rfl⟩
theorem dX8_commands_5 : Dx cX8_commands 5 (.invokevirtual 285) 3 8 := ⟨by decide +kernel, rfl⟩
theorem dX8_commands_8 : Dx cX8_commands 8 (.putfield 54) 3 11 := ⟨by decide +kernel, rfl⟩
theorem dX8_commands_11 : Dx cX8_commands 11 (.aload_n 0) 1 12 := ⟨by decide +kernel, rfl⟩
theorem dX8_commands_12 : Dx cX8_commands 12 (.getfield 50) 3 15 := ⟨by decide +kernel, rfl⟩
theorem dX8_commands_15 : Dx cX8_commands 15 (.iconst 0) 1 16 := ⟨by decide +kernel, rfl⟩
theorem dX8_commands_16 : Dx cX8_commands 16 (.putfield 273) 3 19 := ⟨by decide +kernel, rfl⟩
theorem dX8_commands_19 : Dx cX8_commands 19 (.aload_n 0) 1 20 := ⟨by decide +kernel, rfl⟩
theorem dX8_commands_20 : Dx cX8_commands 20 (.getfield 54) 3 23 := ⟨by decide +kernel, rfl⟩
theorem dX8_commands_23 : Dx cX8_commands 23 (.iconst (-1)) 1 24 := ⟨by decide +kernel, rfl⟩
theorem dX8_commands_24 : Dc cX8_commands 24 (fun o => .if_icmp .eq o) 38 27 := ⟨14, by decide +kernel, by decide, rfl⟩
theorem dX8_commands_27 : Dx cX8_commands 27 (.new 98) 3 30 := ⟨by decide +kernel, rfl⟩
theorem dX8_commands_30 : Dx cX8_commands 30 (.dup) 1 31 := ⟨by decide +kernel, rfl⟩
theorem dX8_commands_31 : Dx cX8_commands 31 (.ldc_w 288) 3 34 := ⟨by decide +kernel, rfl⟩
theorem dX8_commands_34 : Dx cX8_commands 34 (.invokespecial 102) 3 37 := ⟨by decide +kernel, rfl⟩
theorem dX8_commands_37 : Dx cX8_commands 37 (.athrow) 1 38 := ⟨by decide +kernel, rfl⟩
theorem dX8_commands_38 : Dx cX8_commands 38 (.aload_n 0) 1 39 := ⟨by decide +kernel, rfl⟩
theorem dX8_commands_39 : Dx cX8_commands 39 (.getfield 16) 3 42 := ⟨by decide +kernel, rfl⟩
theorem dX8_commands_42 : Dx cX8_commands 42 (.aload_n 0) 1 43 := ⟨by decide +kernel, rfl⟩
theorem dX8_commands_43 : Dx cX8_commands 43 (.getfield 12) 3 46 := ⟨by decide +kernel, rfl⟩
theorem dX8_commands_46 : Dx cX8_commands 46 (.invokevirtual 212) 3 49 := ⟨by decide +kernel, rfl⟩
theorem dX8_commands_49 : Dx cX8_commands 49 (.aload_n 0) 1 50 := ⟨by decide +kernel, rfl⟩
theorem dX8_commands_50 : Dx cX8_commands 50 (.invokevirtual 290) 3 53 := ⟨by decide +kernel, rfl⟩
theorem dX8_commands_53 : Dx cX8_commands 53 (.istore_n 1) 1 54 := ⟨by decide +kernel, rfl⟩
theorem dX8_commands_54 : Dx cX8_commands 54 (.iload_n 1) 1 55 := ⟨by decide +kernel, rfl⟩
theorem dX8_commands_55 : Dx cX8_commands 55 (.aload_n 0) 1 56 := ⟨by decide +kernel, rfl⟩
theorem dX8_commands_56 : Dx cX8_commands 56 (.getfield 50) 3 59 := ⟨by decide +kernel, rfl⟩
theorem dX8_commands_59 : Dx cX8_commands 59 (.getfield 293) 3 62 := ⟨by decide +kernel, rfl⟩
theorem dX8_commands_62 : Dc cX8_commands 62 (fun o => .if_icmp .ge o) 108 65 := ⟨46, by decide +kernel, by decide, rfl⟩
theorem dX8_commands_65 : Dx cX8_commands 65 (.aload_n 0) 1 66 := ⟨by decide +kernel, rfl⟩
theorem dX8_commands_66 : Dx cX8_commands 66 (.getfield 12) 3 69 := ⟨by decide +kernel, rfl⟩
theorem dX8_commands_69 : Dx cX8_commands 69 (.aload_n 0) 1 70 := ⟨by decide +kernel, rfl⟩
theorem dX8_commands_70 : Dx cX8_commands 70 (.getfield 16) 3 73 := ⟨by decide +kernel, rfl⟩
theorem dX8_commands_73 : Dx cX8_commands 73 (.invokevirtual 212) 3 76 := ⟨by decide +kernel, rfl⟩
theorem dX8_commands_76 : Dx cX8_commands 76 (.aload_n 0) 1 77 := ⟨by decide +kernel, rfl⟩
theorem dX8_commands_77 : Dx cX8_commands 77 (.getfield 37) 3 80 := ⟨by decide +kernel, rfl⟩
theorem dX8_commands_80 : Dx cX8_commands 80 (.bipush 12) 2 82 := ⟨by decide +kernel, rfl⟩
theorem dX8_commands_82 : Dx cX8_commands 82 (.iload_n 1) 1 83 := ⟨by decide +kernel, rfl⟩
theorem dX8_commands_83 : Dx cX8_commands 83 (.invokevirtual 296) 3 86 := ⟨by decide +kernel, rfl⟩
theorem dX8_commands_86 : Dx cX8_commands 86 (.aload_n 0) 1 87 := ⟨by decide +kernel, rfl⟩
theorem dX8_commands_87 : Dx cX8_commands 87 (.getfield 41) 3 90 := ⟨by decide +kernel, rfl⟩
theorem dX8_commands_90 : Dx cX8_commands 90 (.aload_n 0) 1 91 := ⟨by decide +kernel, rfl⟩
theorem dX8_commands_91 : Dx cX8_commands 91 (.getfield 44) 3 94 := ⟨by decide +kernel, rfl⟩
theorem dX8_commands_94 : Dx cX8_commands 94 (.invokevirtual 300) 3 97 := ⟨by decide +kernel, rfl⟩
theorem dX8_commands_97 : Dx cX8_commands 97 (.new 303) 3 100 := ⟨by decide +kernel, rfl⟩
theorem dX8_commands_100 : Dx cX8_commands 100 (.dup) 1 101 := ⟨by decide +kernel, rfl⟩
theorem dX8_commands_101 : Dx cX8_commands 101 (.ldc_w 305) 3 104 := ⟨by decide +kernel, rfl⟩
theorem dX8_commands_104 : Dx cX8_commands 104 (.invokespecial 307) 3 107 := ⟨by decide +kernel, rfl⟩
theorem dX8_commands_107 : Dx cX8_commands 107 (.athrow) 1 108 := ⟨by decide +kernel, rfl⟩
theorem dX8_commands_108 : Dx cX8_commands 108 (.aload_n 0) 1 109 := ⟨by decide +kernel, rfl⟩
theorem dX8_commands_109 : Dx cX8_commands 109 (.aload_n 0) 1 110 := ⟨by decide +kernel, rfl⟩
theorem dX8_commands_110 : Dx cX8_commands 110 (.getfield 16) 3 113 := ⟨by decide +kernel, rfl⟩
theorem dX8_commands_113 : Dx cX8_commands 113 (.invokevirtual 308) 3 116 := ⟨by decide +kernel, rfl⟩
theorem dX8_commands_116 : Dx cX8_commands 116 (.aload_n 0) 1 117 := ⟨by decide +kernel, rfl⟩
theorem dX8_commands_117 : Dx cX8_commands 117 (.getfield 50) 3 120 := ⟨by decide +kernel, rfl⟩
theorem dX8_commands_120 : Dx cX8_commands 120 (.getfield 293) 3 123 := ⟨by decide +kernel, rfl⟩
theorem dX8_commands_123 : Dx cX8_commands 123 (.ireturn) 1 124 := ⟨by decide +kernel, rfl⟩
theorem dX8_account_0 : Dx cX8_account 0 (.iload_n 1) 1 1 := ⟨by decide +kernel, rfl⟩
theorem dX8_account_1 : Dx cX8_account 1 (.tableswitch 173 0 12 #[67, 75, 83, 96, 104, 112, 120, 128, 136, 144, 152, 160, 165]) 67 68 := ⟨by decide +kernel, rfl⟩
theorem dX8_account_68 : Dx cX8_account 68 (.aload_n 0) 1 69 := ⟨by decide +kernel, rfl⟩
theorem dX8_account_69 : Dx cX8_account 69 (.getfield 12) 3 72 := ⟨by decide +kernel, rfl⟩
theorem dX8_account_72 : Dx cX8_account 72 (.getfield 105) 3 75 := ⟨by decide +kernel, rfl⟩
theorem dX8_account_75 : Dx cX8_account 75 (.ireturn) 1 76 := ⟨by decide +kernel, rfl⟩
theorem dX8_account_76 : Dx cX8_account 76 (.aload_n 0) 1 77 := ⟨by decide +kernel, rfl⟩
theorem dX8_account_77 : Dx cX8_account 77 (.getfield 12) 3 80 := ⟨by decide +kernel, rfl⟩
theorem dX8_account_80 : Dx cX8_account 80 (.getfield 353) 3 83 := ⟨by decide +kernel, rfl⟩
theorem dX8_account_83 : Dx cX8_account 83 (.ireturn) 1 84 := ⟨by decide +kernel, rfl⟩
theorem dX8_account_84 : Dx cX8_account 84 (.aload_n 0) 1 85 := ⟨by decide +kernel, rfl⟩
theorem dX8_account_85 : Dx cX8_account 85 (.getfield 12) 3 88 := ⟨by decide +kernel, rfl⟩
theorem dX8_account_88 : Dx cX8_account 88 (.bipush (-2)) 2 90 := ⟨by decide +kernel, rfl⟩
theorem dX8_account_90 : Dx cX8_account 90 (.invokevirtual 186) 3 93 := ⟨by decide +kernel, rfl⟩
theorem dX8_account_93 : Dx cX8_account 93 (.invokestatic 342) 3 96 := ⟨by decide +kernel, rfl⟩
theorem dX8_account_96 : Dx cX8_account 96 (.ireturn) 1 97 := ⟨by decide +kernel, rfl⟩
theorem dX8_account_97 : Dx cX8_account 97 (.aload_n 0) 1 98 := ⟨by decide +kernel, rfl⟩
theorem dX8_account_98 : Dx cX8_account 98 (.getfield 12) 3 101 := ⟨by decide +kernel, rfl⟩
theorem dX8_account_101 : Dx cX8_account 101 (.getfield 356) 3 104 := ⟨by decide +kernel, rfl⟩
theorem dX8_account_104 : Dx cX8_account 104 (.ireturn) 1 105 := ⟨by decide +kernel, rfl⟩
theorem dX8_account_105 : Dx cX8_account 105 (.aload_n 0) 1 106 := ⟨by decide +kernel, rfl⟩
theorem dX8_account_106 : Dx cX8_account 106 (.getfield 12) 3 109 := ⟨by decide +kernel, rfl⟩
theorem dX8_account_109 : Dx cX8_account 109 (.invokevirtual 359) 3 112 := ⟨by decide +kernel, rfl⟩
theorem dX8_account_112 : Dx cX8_account 112 (.ireturn) 1 113 := ⟨by decide +kernel, rfl⟩
theorem dX8_account_113 : Dx cX8_account 113 (.aload_n 0) 1 114 := ⟨by decide +kernel, rfl⟩
theorem dX8_account_114 : Dx cX8_account 114 (.getfield 12) 3 117 := ⟨by decide +kernel, rfl⟩
theorem dX8_account_117 : Dx cX8_account 117 (.getfield 362) 3 120 := ⟨by decide +kernel, rfl⟩
theorem dX8_account_120 : Dx cX8_account 120 (.ireturn) 1 121 := ⟨by decide +kernel, rfl⟩
theorem dX8_account_121 : Dx cX8_account 121 (.aload_n 0) 1 122 := ⟨by decide +kernel, rfl⟩
theorem dX8_account_122 : Dx cX8_account 122 (.getfield 12) 3 125 := ⟨by decide +kernel, rfl⟩
theorem dX8_account_125 : Dx cX8_account 125 (.invokevirtual 350) 3 128 := ⟨by decide +kernel, rfl⟩
theorem dX8_account_128 : Dx cX8_account 128 (.ireturn) 1 129 := ⟨by decide +kernel, rfl⟩
theorem dX8_account_129 : Dx cX8_account 129 (.aload_n 0) 1 130 := ⟨by decide +kernel, rfl⟩
theorem dX8_account_130 : Dx cX8_account 130 (.getfield 12) 3 133 := ⟨by decide +kernel, rfl⟩
theorem dX8_account_133 : Dx cX8_account 133 (.getfield 365) 3 136 := ⟨by decide +kernel, rfl⟩
theorem dX8_account_136 : Dx cX8_account 136 (.ireturn) 1 137 := ⟨by decide +kernel, rfl⟩
theorem dX8_account_137 : Dx cX8_account 137 (.aload_n 0) 1 138 := ⟨by decide +kernel, rfl⟩
theorem dX8_account_138 : Dx cX8_account 138 (.getfield 12) 3 141 := ⟨by decide +kernel, rfl⟩
theorem dX8_account_141 : Dx cX8_account 141 (.getfield 366) 3 144 := ⟨by decide +kernel, rfl⟩
theorem dX8_account_144 : Dx cX8_account 144 (.ireturn) 1 145 := ⟨by decide +kernel, rfl⟩
theorem dX8_account_145 : Dx cX8_account 145 (.aload_n 0) 1 146 := ⟨by decide +kernel, rfl⟩
theorem dX8_account_146 : Dx cX8_account 146 (.getfield 12) 3 149 := ⟨by decide +kernel, rfl⟩
theorem dX8_account_149 : Dx cX8_account 149 (.getfield 369) 3 152 := ⟨by decide +kernel, rfl⟩
theorem dX8_account_152 : Dx cX8_account 152 (.ireturn) 1 153 := ⟨by decide +kernel, rfl⟩
theorem dX8_account_153 : Dx cX8_account 153 (.aload_n 0) 1 154 := ⟨by decide +kernel, rfl⟩
theorem dX8_account_154 : Dx cX8_account 154 (.getfield 12) 3 157 := ⟨by decide +kernel, rfl⟩
theorem dX8_account_157 : Dx cX8_account 157 (.getfield 140) 3 160 := ⟨by decide +kernel, rfl⟩
theorem dX8_account_160 : Dx cX8_account 160 (.ireturn) 1 161 := ⟨by decide +kernel, rfl⟩
theorem dX8_account_161 : Dx cX8_account 161 (.aload_n 0) 1 162 := ⟨by decide +kernel, rfl⟩
theorem dX8_account_162 : Dx cX8_account 162 (.getfield 30) 3 165 := ⟨by decide +kernel, rfl⟩
theorem dX8_account_165 : Dx cX8_account 165 (.ireturn) 1 166 := ⟨by decide +kernel, rfl⟩
theorem dX8_account_166 : Dx cX8_account 166 (.aload_n 0) 1 167 := ⟨by decide +kernel, rfl⟩
theorem dX8_account_167 : Dx cX8_account 167 (.getfield 50) 3 170 := ⟨by decide +kernel, rfl⟩
theorem dX8_account_170 : Dx cX8_account 170 (.getfield 273) 3 173 := ⟨by decide +kernel, rfl⟩
theorem dX8_account_173 : Dx cX8_account 173 (.ireturn) 1 174 := ⟨by decide +kernel, rfl⟩
theorem dX8_account_174 : Dx cX8_account 174 (.new 98) 3 177 := ⟨by decide +kernel, rfl⟩
theorem dX8_account_177 : Dx cX8_account 177 (.dup) 1 178 := ⟨by decide +kernel, rfl⟩
theorem dX8_account_178 : Dx cX8_account 178 (.ldc_w 370) 3 181 := ⟨by decide +kernel, rfl⟩
theorem dX8_account_181 : Dx cX8_account 181 (.invokespecial 102) 3 184 := ⟨by decide +kernel, rfl⟩
theorem dX8_account_184 : Dx cX8_account 184 (.athrow) 1 185 := ⟨by decide +kernel, rfl⟩
theorem dX8_undo_0 : Dx cX8_undo 0 (.aload_n 0) 1 1 := ⟨by decide +kernel, rfl⟩
theorem dX8_undo_1 : Dx cX8_undo 1 (.getfield 30) 3 4 := ⟨by decide +kernel, rfl⟩
theorem dX8_undo_4 : Dc cX8_undo 4 (fun o => .ifCond .gt o) 18 7 := ⟨14, by decide +kernel, by decide, rfl⟩
theorem dX8_undo_7 : Dx cX8_undo 7 (.new 276) 3 10 := ⟨by decide +kernel, rfl⟩
theorem dX8_undo_10 : Dx cX8_undo 10 (.dup) 1 11 := ⟨by decide +kernel, rfl⟩
theorem dX8_undo_11 : Dx cX8_undo 11 (.ldc_w 372) 3 14 := ⟨by decide +kernel, rfl⟩
theorem dX8_undo_14 : Dx cX8_undo 14 (.invokespecial 280) 3 17 := ⟨by decide +kernel, rfl⟩
theorem dX8_undo_17 : Dx cX8_undo 17 (.athrow) 1 18 := ⟨by decide +kernel, rfl⟩
theorem dX8_undo_18 : Dx cX8_undo 18 (.aload_n 0) 1 19 := ⟨by decide +kernel, rfl⟩
theorem dX8_undo_19 : Dx cX8_undo 19 (.dup) 1 20 := ⟨by decide +kernel, rfl⟩
theorem dX8_undo_20 : Dx cX8_undo 20 (.getfield 30) 3 23 := ⟨by decide +kernel, rfl⟩
theorem dX8_undo_23 : Dx cX8_undo 23 (.iconst 1) 1 24 := ⟨by decide +kernel, rfl⟩
theorem dX8_undo_24 : Dx cX8_undo 24 (.isub) 1 25 := ⟨by decide +kernel, rfl⟩
theorem dX8_undo_25 : Dx cX8_undo 25 (.putfield 30) 3 28 := ⟨by decide +kernel, rfl⟩
theorem dX8_undo_28 : Dx cX8_undo 28 (.aload_n 0) 1 29 := ⟨by decide +kernel, rfl⟩
theorem dX8_undo_29 : Dx cX8_undo 29 (.getfield 12) 3 32 := ⟨by decide +kernel, rfl⟩
theorem dX8_undo_32 : Dx cX8_undo 32 (.aload_n 0) 1 33 := ⟨by decide +kernel, rfl⟩
theorem dX8_undo_33 : Dx cX8_undo 33 (.getfield 26) 3 36 := ⟨by decide +kernel, rfl⟩
theorem dX8_undo_36 : Dx cX8_undo 36 (.aload_n 0) 1 37 := ⟨by decide +kernel, rfl⟩
theorem dX8_undo_37 : Dx cX8_undo 37 (.getfield 30) 3 40 := ⟨by decide +kernel, rfl⟩
theorem dX8_undo_40 : Dx cX8_undo 40 (.aaload) 1 41 := ⟨by decide +kernel, rfl⟩
theorem dX8_undo_41 : Dx cX8_undo 41 (.invokevirtual 212) 3 44 := ⟨by decide +kernel, rfl⟩
theorem dX8_undo_44 : Dx cX8_undo 44 (.aload_n 0) 1 45 := ⟨by decide +kernel, rfl⟩
theorem dX8_undo_45 : Dx cX8_undo 45 (.getfield 30) 3 48 := ⟨by decide +kernel, rfl⟩
theorem dX8_undo_48 : Dx cX8_undo 48 (.ireturn) 1 49 := ⟨by decide +kernel, rfl⟩
theorem dX8_save_0 : Dx cX8_save 0 (.aload_n 0) 1 1 := ⟨by decide +kernel, rfl⟩
theorem dX8_save_1 : Dx cX8_save 1 (.getfield 19) 3 4 := ⟨by decide +kernel, rfl⟩
theorem dX8_save_4 : Dx cX8_save 4 (.aload_n 0) 1 5 := ⟨by decide +kernel, rfl⟩
theorem dX8_save_5 : Dx cX8_save 5 (.getfield 12) 3 8 := ⟨by decide +kernel, rfl⟩
theorem dX8_save_8 : Dx cX8_save 8 (.invokevirtual 212) 3 11 := ⟨by decide +kernel, rfl⟩
theorem dX8_save_11 : Dx cX8_save 11 (.aload_n 0) 1 12 := ⟨by decide +kernel, rfl⟩
theorem dX8_save_12 : Dx cX8_save 12 (.iconst 1) 1 13 := ⟨by decide +kernel, rfl⟩
theorem dX8_save_13 : Dx cX8_save 13 (.putfield 22) 3 16 := ⟨by decide +kernel, rfl⟩
theorem dX8_save_16 : Dx cX8_save 16 (.aload_n 0) 1 17 := ⟨by decide +kernel, rfl⟩
theorem dX8_save_17 : Dx cX8_save 17 (.getfield 12) 3 20 := ⟨by decide +kernel, rfl⟩
theorem dX8_save_20 : Dx cX8_save 20 (.getfield 105) 3 23 := ⟨by decide +kernel, rfl⟩
theorem dX8_save_23 : Dx cX8_save 23 (.ireturn) 1 24 := ⟨by decide +kernel, rfl⟩
theorem dX8_restore_0 : Dx cX8_restore 0 (.aload_n 0) 1 1 := ⟨by decide +kernel, rfl⟩
theorem dX8_restore_1 : Dx cX8_restore 1 (.getfield 22) 3 4 := ⟨by decide +kernel, rfl⟩
theorem dX8_restore_4 : Dc cX8_restore 4 (fun o => .ifCond .ne o) 18 7 := ⟨14, by decide +kernel, by decide, rfl⟩
theorem dX8_restore_7 : Dx cX8_restore 7 (.new 276) 3 10 := ⟨by decide +kernel, rfl⟩
theorem dX8_restore_10 : Dx cX8_restore 10 (.dup) 1 11 := ⟨by decide +kernel, rfl⟩
theorem dX8_restore_11 : Dx cX8_restore 11 (.ldc_w 374) 3 14 := ⟨by decide +kernel, rfl⟩
theorem dX8_restore_14 : Dx cX8_restore 14 (.invokespecial 280) 3 17 := ⟨by decide +kernel, rfl⟩
theorem dX8_restore_17 : Dx cX8_restore 17 (.athrow) 1 18 := ⟨by decide +kernel, rfl⟩
theorem dX8_restore_18 : Dx cX8_restore 18 (.aload_n 0) 1 19 := ⟨by decide +kernel, rfl⟩
theorem dX8_restore_19 : Dx cX8_restore 19 (.getfield 12) 3 22 := ⟨by decide +kernel, rfl⟩
theorem dX8_restore_22 : Dx cX8_restore 22 (.aload_n 0) 1 23 := ⟨by decide +kernel, rfl⟩
theorem dX8_restore_23 : Dx cX8_restore 23 (.getfield 19) 3 26 := ⟨by decide +kernel, rfl⟩
theorem dX8_restore_26 : Dx cX8_restore 26 (.invokevirtual 212) 3 29 := ⟨by decide +kernel, rfl⟩
theorem dX8_restore_29 : Dx cX8_restore 29 (.aload_n 0) 1 30 := ⟨by decide +kernel, rfl⟩
theorem dX8_restore_30 : Dx cX8_restore 30 (.iconst 0) 1 31 := ⟨by decide +kernel, rfl⟩
theorem dX8_restore_31 : Dx cX8_restore 31 (.putfield 30) 3 34 := ⟨by decide +kernel, rfl⟩
theorem dX8_restore_34 : Dx cX8_restore 34 (.aload_n 0) 1 35 := ⟨by decide +kernel, rfl⟩
theorem dX8_restore_35 : Dx cX8_restore 35 (.getfield 12) 3 38 := ⟨by decide +kernel, rfl⟩
theorem dX8_restore_38 : Dx cX8_restore 38 (.getfield 105) 3 41 := ⟨by decide +kernel, rfl⟩
theorem dX8_restore_41 : Dx cX8_restore 41 (.ireturn) 1 42 := ⟨by decide +kernel, rfl⟩
theorem dX8_change_0 : Dx cX8_change 0 (.aload_n 0) 1 1 := ⟨by decide +kernel, rfl⟩
theorem dX8_change_1 : Dx cX8_change 1 (.aload_n 1) 1 2 := ⟨by decide +kernel, rfl⟩
theorem dX8_change_2 : Dx cX8_change 2 (.iload_n 2) 1 3 := ⟨by decide +kernel, rfl⟩
theorem dX8_change_3 : Dx cX8_change 3 (.iload_n 3) 1 4 := ⟨by decide +kernel, rfl⟩
theorem dX8_change_4 : Dx cX8_change 4 (.invokevirtual 376) 3 7 := ⟨by decide +kernel, rfl⟩
theorem dX8_change_7 : Dx cX8_change 7 (.aload_n 0) 1 8 := ⟨by decide +kernel, rfl⟩
theorem dX8_change_8 : Dx cX8_change 8 (.getfield 44) 3 11 := ⟨by decide +kernel, rfl⟩
theorem dX8_change_11 : Dx cX8_change 11 (.invokevirtual 216) 3 14 := ⟨by decide +kernel, rfl⟩
theorem dX8_change_14 : Dc cX8_change 14 (fun o => .ifCond .eq o) 46 17 := ⟨32, by decide +kernel, by decide, rfl⟩
theorem dX8_change_17 : Dx cX8_change 17 (.aload_n 0) 1 18 := ⟨by decide +kernel, rfl⟩
theorem dX8_change_18 : Dx cX8_change 18 (.getfield 37) 3 21 := ⟨by decide +kernel, rfl⟩
theorem dX8_change_21 : Dx cX8_change 21 (.aload_n 0) 1 22 := ⟨by decide +kernel, rfl⟩
theorem dX8_change_22 : Dx cX8_change 22 (.getfield 44) 3 25 := ⟨by decide +kernel, rfl⟩
theorem dX8_change_25 : Dx cX8_change 25 (.invokevirtual 300) 3 28 := ⟨by decide +kernel, rfl⟩
theorem dX8_change_28 : Dx cX8_change 28 (.aload_n 0) 1 29 := ⟨by decide +kernel, rfl⟩
theorem dX8_change_29 : Dx cX8_change 29 (.getfield 41) 3 32 := ⟨by decide +kernel, rfl⟩
theorem dX8_change_32 : Dx cX8_change 32 (.invokevirtual 380) 3 35 := ⟨by decide +kernel, rfl⟩
theorem dX8_change_35 : Dx cX8_change 35 (.new 303) 3 38 := ⟨by decide +kernel, rfl⟩
theorem dX8_change_38 : Dx cX8_change 38 (.dup) 1 39 := ⟨by decide +kernel, rfl⟩
theorem dX8_change_39 : Dx cX8_change 39 (.ldc_w 383) 3 42 := ⟨by decide +kernel, rfl⟩
theorem dX8_change_42 : Dx cX8_change 42 (.invokespecial 307) 3 45 := ⟨by decide +kernel, rfl⟩
theorem dX8_change_45 : Dx cX8_change 45 (.athrow) 1 46 := ⟨by decide +kernel, rfl⟩
theorem dX8_change_46 : Dx cX8_change 46 (.aload_n 0) 1 47 := ⟨by decide +kernel, rfl⟩
theorem dX8_change_47 : Dx cX8_change 47 (.aload_n 0) 1 48 := ⟨by decide +kernel, rfl⟩
theorem dX8_change_48 : Dx cX8_change 48 (.getfield 12) 3 51 := ⟨by decide +kernel, rfl⟩
theorem dX8_change_51 : Dx cX8_change 51 (.invokevirtual 308) 3 54 := ⟨by decide +kernel, rfl⟩
theorem dX8_change_54 : Dx cX8_change 54 (.aload_n 0) 1 55 := ⟨by decide +kernel, rfl⟩
theorem dX8_change_55 : Dx cX8_change 55 (.aload_n 1) 1 56 := ⟨by decide +kernel, rfl⟩
theorem dX8_change_56 : Dx cX8_change 56 (.iload_n 2) 1 57 := ⟨by decide +kernel, rfl⟩
theorem dX8_change_57 : Dx cX8_change 57 (.iload_n 3) 1 58 := ⟨by decide +kernel, rfl⟩
theorem dX8_change_58 : Dx cX8_change 58 (.invokevirtual 385) 3 61 := ⟨by decide +kernel, rfl⟩
theorem dX8_change_61 : Dx cX8_change 61 (.ireturn) 1 62 := ⟨by decide +kernel, rfl⟩
theorem dX8_judge_0 : Dx cX8_judge 0 (.getstatic 388) 3 3 := ⟨by decide +kernel, rfl⟩
theorem dX8_judge_3 : Dx cX8_judge 3 (.aload_n 1) 1 4 := ⟨by decide +kernel, rfl⟩
theorem dX8_judge_4 : Dx cX8_judge 4 (.invokevirtual 394) 3 7 := ⟨by decide +kernel, rfl⟩
theorem dX8_judge_7 : Dx cX8_judge 7 (.iaload) 1 8 := ⟨by decide +kernel, rfl⟩
theorem dX8_judge_8 : Dx cX8_judge 8 (.tableswitch 171 1 8 #[48, 63, 78, 93, 109, 125, 141, 156]) 48 56 := ⟨by decide +kernel, rfl⟩
theorem dX8_judge_56 : Dx cX8_judge 56 (.aload_n 0) 1 57 := ⟨by decide +kernel, rfl⟩
theorem dX8_judge_57 : Dx cX8_judge 57 (.getfield 12) 3 60 := ⟨by decide +kernel, rfl⟩
theorem dX8_judge_60 : Dx cX8_judge 60 (.iload_n 2) 1 61 := ⟨by decide +kernel, rfl⟩
theorem dX8_judge_61 : Dx cX8_judge 61 (.aload_n 0) 1 62 := ⟨by decide +kernel, rfl⟩
theorem dX8_judge_62 : Dx cX8_judge 62 (.getfield 44) 3 65 := ⟨by decide +kernel, rfl⟩
theorem dX8_judge_65 : Dx cX8_judge 65 (.invokevirtual 397) 3 68 := ⟨by decide +kernel, rfl⟩
theorem dX8_judge_68 : Dc cX8_judge 68 (fun o => .goto o) 191 71 := ⟨123, by decide +kernel, by decide, rfl⟩
theorem dX8_judge_71 : Dx cX8_judge 71 (.aload_n 0) 1 72 := ⟨by decide +kernel, rfl⟩
theorem dX8_judge_72 : Dx cX8_judge 72 (.getfield 12) 3 75 := ⟨by decide +kernel, rfl⟩
theorem dX8_judge_75 : Dx cX8_judge 75 (.iload_n 2) 1 76 := ⟨by decide +kernel, rfl⟩
theorem dX8_judge_76 : Dx cX8_judge 76 (.aload_n 0) 1 77 := ⟨by decide +kernel, rfl⟩
theorem dX8_judge_77 : Dx cX8_judge 77 (.getfield 44) 3 80 := ⟨by decide +kernel, rfl⟩
theorem dX8_judge_80 : Dx cX8_judge 80 (.invokevirtual 401) 3 83 := ⟨by decide +kernel, rfl⟩
theorem dX8_judge_83 : Dc cX8_judge 83 (fun o => .goto o) 191 86 := ⟨108, by decide +kernel, by decide, rfl⟩
theorem dX8_judge_86 : Dx cX8_judge 86 (.aload_n 0) 1 87 := ⟨by decide +kernel, rfl⟩
theorem dX8_judge_87 : Dx cX8_judge 87 (.getfield 12) 3 90 := ⟨by decide +kernel, rfl⟩
theorem dX8_judge_90 : Dx cX8_judge 90 (.iload_n 2) 1 91 := ⟨by decide +kernel, rfl⟩
theorem dX8_judge_91 : Dx cX8_judge 91 (.aload_n 0) 1 92 := ⟨by decide +kernel, rfl⟩
theorem dX8_judge_92 : Dx cX8_judge 92 (.getfield 44) 3 95 := ⟨by decide +kernel, rfl⟩
theorem dX8_judge_95 : Dx cX8_judge 95 (.invokevirtual 404) 3 98 := ⟨by decide +kernel, rfl⟩
theorem dX8_judge_98 : Dc cX8_judge 98 (fun o => .goto o) 191 101 := ⟨93, by decide +kernel, by decide, rfl⟩
theorem dX8_judge_101 : Dx cX8_judge 101 (.aload_n 0) 1 102 := ⟨by decide +kernel, rfl⟩
theorem dX8_judge_102 : Dx cX8_judge 102 (.getfield 12) 3 105 := ⟨by decide +kernel, rfl⟩
theorem dX8_judge_105 : Dx cX8_judge 105 (.iload_n 2) 1 106 := ⟨by decide +kernel, rfl⟩
theorem dX8_judge_106 : Dx cX8_judge 106 (.iload_n 3) 1 107 := ⟨by decide +kernel, rfl⟩
theorem dX8_judge_107 : Dx cX8_judge 107 (.aload_n 0) 1 108 := ⟨by decide +kernel, rfl⟩
theorem dX8_judge_108 : Dx cX8_judge 108 (.getfield 44) 3 111 := ⟨by decide +kernel, rfl⟩
theorem dX8_judge_111 : Dx cX8_judge 111 (.invokevirtual 407) 3 114 := ⟨by decide +kernel, rfl⟩
theorem dX8_judge_114 : Dc cX8_judge 114 (fun o => .goto o) 191 117 := ⟨77, by decide +kernel, by decide, rfl⟩
theorem dX8_judge_117 : Dx cX8_judge 117 (.aload_n 0) 1 118 := ⟨by decide +kernel, rfl⟩
theorem dX8_judge_118 : Dx cX8_judge 118 (.getfield 12) 3 121 := ⟨by decide +kernel, rfl⟩
theorem dX8_judge_121 : Dx cX8_judge 121 (.iload_n 2) 1 122 := ⟨by decide +kernel, rfl⟩
theorem dX8_judge_122 : Dx cX8_judge 122 (.iload_n 3) 1 123 := ⟨by decide +kernel, rfl⟩
theorem dX8_judge_123 : Dx cX8_judge 123 (.aload_n 0) 1 124 := ⟨by decide +kernel, rfl⟩
theorem dX8_judge_124 : Dx cX8_judge 124 (.getfield 44) 3 127 := ⟨by decide +kernel, rfl⟩
theorem dX8_judge_127 : Dx cX8_judge 127 (.invokevirtual 205) 3 130 := ⟨by decide +kernel, rfl⟩
theorem dX8_judge_130 : Dc cX8_judge 130 (fun o => .goto o) 191 133 := ⟨61, by decide +kernel, by decide, rfl⟩
theorem dX8_judge_133 : Dx cX8_judge 133 (.aload_n 0) 1 134 := ⟨by decide +kernel, rfl⟩
theorem dX8_judge_134 : Dx cX8_judge 134 (.getfield 12) 3 137 := ⟨by decide +kernel, rfl⟩
theorem dX8_judge_137 : Dx cX8_judge 137 (.iload_n 2) 1 138 := ⟨by decide +kernel, rfl⟩
theorem dX8_judge_138 : Dx cX8_judge 138 (.iload_n 3) 1 139 := ⟨by decide +kernel, rfl⟩
theorem dX8_judge_139 : Dx cX8_judge 139 (.aload_n 0) 1 140 := ⟨by decide +kernel, rfl⟩
theorem dX8_judge_140 : Dx cX8_judge 140 (.getfield 44) 3 143 := ⟨by decide +kernel, rfl⟩
theorem dX8_judge_143 : Dx cX8_judge 143 (.invokevirtual 410) 3 146 := ⟨by decide +kernel, rfl⟩
theorem dX8_judge_146 : Dc cX8_judge 146 (fun o => .goto o) 191 149 := ⟨45, by decide +kernel, by decide, rfl⟩
theorem dX8_judge_149 : Dx cX8_judge 149 (.aload_n 0) 1 150 := ⟨by decide +kernel, rfl⟩
theorem dX8_judge_150 : Dx cX8_judge 150 (.getfield 12) 3 153 := ⟨by decide +kernel, rfl⟩
theorem dX8_judge_153 : Dx cX8_judge 153 (.iload_n 2) 1 154 := ⟨by decide +kernel, rfl⟩
theorem dX8_judge_154 : Dx cX8_judge 154 (.aload_n 0) 1 155 := ⟨by decide +kernel, rfl⟩
theorem dX8_judge_155 : Dx cX8_judge 155 (.getfield 44) 3 158 := ⟨by decide +kernel, rfl⟩
theorem dX8_judge_158 : Dx cX8_judge 158 (.invokevirtual 413) 3 161 := ⟨by decide +kernel, rfl⟩
theorem dX8_judge_161 : Dc cX8_judge 161 (fun o => .goto o) 191 164 := ⟨30, by decide +kernel, by decide, rfl⟩
theorem dX8_judge_164 : Dx cX8_judge 164 (.aload_n 0) 1 165 := ⟨by decide +kernel, rfl⟩
theorem dX8_judge_165 : Dx cX8_judge 165 (.getfield 12) 3 168 := ⟨by decide +kernel, rfl⟩
theorem dX8_judge_168 : Dx cX8_judge 168 (.iload_n 2) 1 169 := ⟨by decide +kernel, rfl⟩
theorem dX8_judge_169 : Dx cX8_judge 169 (.aload_n 0) 1 170 := ⟨by decide +kernel, rfl⟩
theorem dX8_judge_170 : Dx cX8_judge 170 (.getfield 44) 3 173 := ⟨by decide +kernel, rfl⟩
theorem dX8_judge_173 : Dx cX8_judge 173 (.invokevirtual 416) 3 176 := ⟨by decide +kernel, rfl⟩
theorem dX8_judge_176 : Dc cX8_judge 176 (fun o => .goto o) 191 179 := ⟨15, by decide +kernel, by decide, rfl⟩
theorem dX8_judge_179 : Dx cX8_judge 179 (.aload_n 0) 1 180 := ⟨by decide +kernel, rfl⟩
theorem dX8_judge_180 : Dx cX8_judge 180 (.getfield 12) 3 183 := ⟨by decide +kernel, rfl⟩
theorem dX8_judge_183 : Dx cX8_judge 183 (.iload_n 2) 1 184 := ⟨by decide +kernel, rfl⟩
theorem dX8_judge_184 : Dx cX8_judge 184 (.aload_n 0) 1 185 := ⟨by decide +kernel, rfl⟩
theorem dX8_judge_185 : Dx cX8_judge 185 (.getfield 44) 3 188 := ⟨by decide +kernel, rfl⟩
theorem dX8_judge_188 : Dx cX8_judge 188 (.invokevirtual 419) 3 191 := ⟨by decide +kernel, rfl⟩
theorem dX8_judge_191 : Dx cX8_judge 191 (.return_) 1 192 := ⟨by decide +kernel, rfl⟩
theorem dX8_carryOut_0 : Dx cX8_carryOut 0 (.getstatic 388) 3 3 := ⟨by decide +kernel, rfl⟩
theorem dX8_carryOut_3 : Dx cX8_carryOut 3 (.aload_n 1) 1 4 := ⟨by decide +kernel, rfl⟩
theorem dX8_carryOut_4 : Dx cX8_carryOut 4 (.invokevirtual 394) 3 7 := ⟨by decide +kernel, rfl⟩
theorem dX8_carryOut_7 : Dx cX8_carryOut 7 (.iaload) 1 8 := ⟨by decide +kernel, rfl⟩
theorem dX8_carryOut_8 : Dx cX8_carryOut 8 (.tableswitch 123 1 8 #[48, 57, 66, 75, 85, 95, 105, 114]) 48 56 := ⟨by decide +kernel, rfl⟩
theorem dX8_carryOut_56 : Dx cX8_carryOut 56 (.aload_n 0) 1 57 := ⟨by decide +kernel, rfl⟩
theorem dX8_carryOut_57 : Dx cX8_carryOut 57 (.getfield 12) 3 60 := ⟨by decide +kernel, rfl⟩
theorem dX8_carryOut_60 : Dx cX8_carryOut 60 (.iload_n 2) 1 61 := ⟨by decide +kernel, rfl⟩
theorem dX8_carryOut_61 : Dx cX8_carryOut 61 (.invokevirtual 422) 3 64 := ⟨by decide +kernel, rfl⟩
theorem dX8_carryOut_64 : Dx cX8_carryOut 64 (.ireturn) 1 65 := ⟨by decide +kernel, rfl⟩
theorem dX8_carryOut_65 : Dx cX8_carryOut 65 (.aload_n 0) 1 66 := ⟨by decide +kernel, rfl⟩
theorem dX8_carryOut_66 : Dx cX8_carryOut 66 (.getfield 12) 3 69 := ⟨by decide +kernel, rfl⟩
theorem dX8_carryOut_69 : Dx cX8_carryOut 69 (.iload_n 2) 1 70 := ⟨by decide +kernel, rfl⟩
theorem dX8_carryOut_70 : Dx cX8_carryOut 70 (.invokevirtual 425) 3 73 := ⟨by decide +kernel, rfl⟩
theorem dX8_carryOut_73 : Dx cX8_carryOut 73 (.ireturn) 1 74 := ⟨by decide +kernel, rfl⟩
theorem dX8_carryOut_74 : Dx cX8_carryOut 74 (.aload_n 0) 1 75 := ⟨by decide +kernel, rfl⟩
theorem dX8_carryOut_75 : Dx cX8_carryOut 75 (.getfield 12) 3 78 := ⟨by decide +kernel, rfl⟩
theorem dX8_carryOut_78 : Dx cX8_carryOut 78 (.iload_n 2) 1 79 := ⟨by decide +kernel, rfl⟩
theorem dX8_carryOut_79 : Dx cX8_carryOut 79 (.invokevirtual 428) 3 82 := ⟨by decide +kernel, rfl⟩
theorem dX8_carryOut_82 : Dx cX8_carryOut 82 (.ireturn) 1 83 := ⟨by decide +kernel, rfl⟩
theorem dX8_carryOut_83 : Dx cX8_carryOut 83 (.aload_n 0) 1 84 := ⟨by decide +kernel, rfl⟩
theorem dX8_carryOut_84 : Dx cX8_carryOut 84 (.getfield 12) 3 87 := ⟨by decide +kernel, rfl⟩
theorem dX8_carryOut_87 : Dx cX8_carryOut 87 (.iload_n 2) 1 88 := ⟨by decide +kernel, rfl⟩
theorem dX8_carryOut_88 : Dx cX8_carryOut 88 (.iload_n 3) 1 89 := ⟨by decide +kernel, rfl⟩
theorem dX8_carryOut_89 : Dx cX8_carryOut 89 (.invokevirtual 431) 3 92 := ⟨by decide +kernel, rfl⟩
theorem dX8_carryOut_92 : Dx cX8_carryOut 92 (.ireturn) 1 93 := ⟨by decide +kernel, rfl⟩
theorem dX8_carryOut_93 : Dx cX8_carryOut 93 (.aload_n 0) 1 94 := ⟨by decide +kernel, rfl⟩
theorem dX8_carryOut_94 : Dx cX8_carryOut 94 (.getfield 12) 3 97 := ⟨by decide +kernel, rfl⟩
theorem dX8_carryOut_97 : Dx cX8_carryOut 97 (.iload_n 2) 1 98 := ⟨by decide +kernel, rfl⟩
theorem dX8_carryOut_98 : Dx cX8_carryOut 98 (.iload_n 3) 1 99 := ⟨by decide +kernel, rfl⟩
theorem dX8_carryOut_99 : Dx cX8_carryOut 99 (.invokevirtual 434) 3 102 := ⟨by decide +kernel, rfl⟩
theorem dX8_carryOut_102 : Dx cX8_carryOut 102 (.ireturn) 1 103 := ⟨by decide +kernel, rfl⟩
theorem dX8_carryOut_103 : Dx cX8_carryOut 103 (.aload_n 0) 1 104 := ⟨by decide +kernel, rfl⟩
theorem dX8_carryOut_104 : Dx cX8_carryOut 104 (.getfield 12) 3 107 := ⟨by decide +kernel, rfl⟩
theorem dX8_carryOut_107 : Dx cX8_carryOut 107 (.iload_n 2) 1 108 := ⟨by decide +kernel, rfl⟩
theorem dX8_carryOut_108 : Dx cX8_carryOut 108 (.iload_n 3) 1 109 := ⟨by decide +kernel, rfl⟩
theorem dX8_carryOut_109 : Dx cX8_carryOut 109 (.invokevirtual 437) 3 112 := ⟨by decide +kernel, rfl⟩
theorem dX8_carryOut_112 : Dx cX8_carryOut 112 (.ireturn) 1 113 := ⟨by decide +kernel, rfl⟩
theorem dX8_carryOut_113 : Dx cX8_carryOut 113 (.aload_n 0) 1 114 := ⟨by decide +kernel, rfl⟩
theorem dX8_carryOut_114 : Dx cX8_carryOut 114 (.getfield 12) 3 117 := ⟨by decide +kernel, rfl⟩
theorem dX8_carryOut_117 : Dx cX8_carryOut 117 (.iload_n 2) 1 118 := ⟨by decide +kernel, rfl⟩
theorem dX8_carryOut_118 : Dx cX8_carryOut 118 (.invokevirtual 440) 3 121 := ⟨by decide +kernel, rfl⟩
theorem dX8_carryOut_121 : Dx cX8_carryOut 121 (.ireturn) 1 122 := ⟨by decide +kernel, rfl⟩
theorem dX8_carryOut_122 : Dx cX8_carryOut 122 (.aload_n 0) 1 123 := ⟨by decide +kernel, rfl⟩
theorem dX8_carryOut_123 : Dx cX8_carryOut 123 (.getfield 12) 3 126 := ⟨by decide +kernel, rfl⟩
theorem dX8_carryOut_126 : Dx cX8_carryOut 126 (.iload_n 2) 1 127 := ⟨by decide +kernel, rfl⟩
theorem dX8_carryOut_127 : Dx cX8_carryOut 127 (.invokevirtual 443) 3 130 := ⟨by decide +kernel, rfl⟩
theorem dX8_carryOut_130 : Dx cX8_carryOut 130 (.ireturn) 1 131 := ⟨by decide +kernel, rfl⟩
theorem dX8_carryOut_131 : Dx cX8_carryOut 131 (.aload_n 0) 1 132 := ⟨by decide +kernel, rfl⟩
theorem dX8_carryOut_132 : Dx cX8_carryOut 132 (.getfield 12) 3 135 := ⟨by decide +kernel, rfl⟩
theorem dX8_carryOut_135 : Dx cX8_carryOut 135 (.iload_n 2) 1 136 := ⟨by decide +kernel, rfl⟩
theorem dX8_carryOut_136 : Dx cX8_carryOut 136 (.invokevirtual 219) 3 139 := ⟨by decide +kernel, rfl⟩
theorem dX8_carryOut_139 : Dx cX8_carryOut 139 (.ireturn) 1 140 := ⟨by decide +kernel, rfl⟩
theorem dX8_carryOutAll_0 : Dx cX8_carryOutAll 0 (.iconst 0) 1 1 := ⟨by decide +kernel, rfl⟩
theorem dX8_carryOutAll_1 : Dx cX8_carryOutAll 1 (.istore_n 1) 1 2 := ⟨by decide +kernel, rfl⟩
theorem dX8_carryOutAll_2 : Dx cX8_carryOutAll 2 (.iload_n 1) 1 3 := ⟨by decide +kernel, rfl⟩
theorem dX8_carryOutAll_3 : Dx cX8_carryOutAll 3 (.aload_n 0) 1 4 := ⟨by decide +kernel, rfl⟩
theorem dX8_carryOutAll_4 : Dx cX8_carryOutAll 4 (.getfield 50) 3 7 := ⟨by decide +kernel, rfl⟩
theorem dX8_carryOutAll_7 : Dx cX8_carryOutAll 7 (.getfield 293) 3 10 := ⟨by decide +kernel, rfl⟩
theorem dX8_carryOutAll_10 : Dc cX8_carryOutAll 10 (fun o => .if_icmp .ge o) 94 13 := ⟨84, by decide +kernel, by decide, rfl⟩
theorem dX8_carryOutAll_13 : Dx cX8_carryOutAll 13 (.aload_n 0) 1 14 := ⟨by decide +kernel, rfl⟩
theorem dX8_carryOutAll_14 : Dx cX8_carryOutAll 14 (.aload_n 0) 1 15 := ⟨by decide +kernel, rfl⟩
theorem dX8_carryOutAll_15 : Dx cX8_carryOutAll 15 (.getfield 50) 3 18 := ⟨by decide +kernel, rfl⟩
theorem dX8_carryOutAll_18 : Dx cX8_carryOutAll 18 (.getfield 446) 3 21 := ⟨by decide +kernel, rfl⟩
theorem dX8_carryOutAll_21 : Dx cX8_carryOutAll 21 (.iload_n 1) 1 22 := ⟨by decide +kernel, rfl⟩
theorem dX8_carryOutAll_22 : Dx cX8_carryOutAll 22 (.aaload) 1 23 := ⟨by decide +kernel, rfl⟩
theorem dX8_carryOutAll_23 : Dx cX8_carryOutAll 23 (.aload_n 0) 1 24 := ⟨by decide +kernel, rfl⟩
theorem dX8_carryOutAll_24 : Dx cX8_carryOutAll 24 (.getfield 50) 3 27 := ⟨by decide +kernel, rfl⟩
theorem dX8_carryOutAll_27 : Dx cX8_carryOutAll 27 (.getfield 450) 3 30 := ⟨by decide +kernel, rfl⟩
theorem dX8_carryOutAll_30 : Dx cX8_carryOutAll 30 (.iload_n 1) 1 31 := ⟨by decide +kernel, rfl⟩
theorem dX8_carryOutAll_31 : Dx cX8_carryOutAll 31 (.iaload) 1 32 := ⟨by decide +kernel, rfl⟩
theorem dX8_carryOutAll_32 : Dx cX8_carryOutAll 32 (.aload_n 0) 1 33 := ⟨by decide +kernel, rfl⟩
theorem dX8_carryOutAll_33 : Dx cX8_carryOutAll 33 (.getfield 50) 3 36 := ⟨by decide +kernel, rfl⟩
theorem dX8_carryOutAll_36 : Dx cX8_carryOutAll 36 (.getfield 453) 3 39 := ⟨by decide +kernel, rfl⟩
theorem dX8_carryOutAll_39 : Dx cX8_carryOutAll 39 (.iload_n 1) 1 40 := ⟨by decide +kernel, rfl⟩
theorem dX8_carryOutAll_40 : Dx cX8_carryOutAll 40 (.iaload) 1 41 := ⟨by decide +kernel, rfl⟩
theorem dX8_carryOutAll_41 : Dx cX8_carryOutAll 41 (.invokevirtual 376) 3 44 := ⟨by decide +kernel, rfl⟩
theorem dX8_carryOutAll_44 : Dx cX8_carryOutAll 44 (.aload_n 0) 1 45 := ⟨by decide +kernel, rfl⟩
theorem dX8_carryOutAll_45 : Dx cX8_carryOutAll 45 (.getfield 44) 3 48 := ⟨by decide +kernel, rfl⟩
theorem dX8_carryOutAll_48 : Dx cX8_carryOutAll 48 (.invokevirtual 216) 3 51 := ⟨by decide +kernel, rfl⟩
theorem dX8_carryOutAll_51 : Dc cX8_carryOutAll 51 (fun o => .ifCond .eq o) 56 54 := ⟨5, by decide +kernel, by decide, rfl⟩
theorem dX8_carryOutAll_54 : Dx cX8_carryOutAll 54 (.iload_n 1) 1 55 := ⟨by decide +kernel, rfl⟩
theorem dX8_carryOutAll_55 : Dx cX8_carryOutAll 55 (.ireturn) 1 56 := ⟨by decide +kernel, rfl⟩
theorem dX8_carryOutAll_56 : Dx cX8_carryOutAll 56 (.aload_n 0) 1 57 := ⟨by decide +kernel, rfl⟩
theorem dX8_carryOutAll_57 : Dx cX8_carryOutAll 57 (.aload_n 0) 1 58 := ⟨by decide +kernel, rfl⟩
theorem dX8_carryOutAll_58 : Dx cX8_carryOutAll 58 (.getfield 50) 3 61 := ⟨by decide +kernel, rfl⟩
theorem dX8_carryOutAll_61 : Dx cX8_carryOutAll 61 (.getfield 446) 3 64 := ⟨by decide +kernel, rfl⟩
theorem dX8_carryOutAll_64 : Dx cX8_carryOutAll 64 (.iload_n 1) 1 65 := ⟨by decide +kernel, rfl⟩
theorem dX8_carryOutAll_65 : Dx cX8_carryOutAll 65 (.aaload) 1 66 := ⟨by decide +kernel, rfl⟩
theorem dX8_carryOutAll_66 : Dx cX8_carryOutAll 66 (.aload_n 0) 1 67 := ⟨by decide +kernel, rfl⟩
theorem dX8_carryOutAll_67 : Dx cX8_carryOutAll 67 (.getfield 50) 3 70 := ⟨by decide +kernel, rfl⟩
theorem dX8_carryOutAll_70 : Dx cX8_carryOutAll 70 (.getfield 450) 3 73 := ⟨by decide +kernel, rfl⟩
theorem dX8_carryOutAll_73 : Dx cX8_carryOutAll 73 (.iload_n 1) 1 74 := ⟨by decide +kernel, rfl⟩
theorem dX8_carryOutAll_74 : Dx cX8_carryOutAll 74 (.iaload) 1 75 := ⟨by decide +kernel, rfl⟩
theorem dX8_carryOutAll_75 : Dx cX8_carryOutAll 75 (.aload_n 0) 1 76 := ⟨by decide +kernel, rfl⟩
theorem dX8_carryOutAll_76 : Dx cX8_carryOutAll 76 (.getfield 50) 3 79 := ⟨by decide +kernel, rfl⟩
theorem dX8_carryOutAll_79 : Dx cX8_carryOutAll 79 (.getfield 453) 3 82 := ⟨by decide +kernel, rfl⟩
theorem dX8_carryOutAll_82 : Dx cX8_carryOutAll 82 (.iload_n 1) 1 83 := ⟨by decide +kernel, rfl⟩
theorem dX8_carryOutAll_83 : Dx cX8_carryOutAll 83 (.iaload) 1 84 := ⟨by decide +kernel, rfl⟩
theorem dX8_carryOutAll_84 : Dx cX8_carryOutAll 84 (.invokevirtual 385) 3 87 := ⟨by decide +kernel, rfl⟩
theorem dX8_carryOutAll_87 : Dx cX8_carryOutAll 87 (.pop) 1 88 := ⟨by decide +kernel, rfl⟩
theorem dX8_carryOutAll_88 : Dx cX8_carryOutAll 88 (.iinc 1 1) 3 91 := ⟨by decide +kernel, rfl⟩
theorem dX8_carryOutAll_91 : Dc cX8_carryOutAll 91 (fun o => .goto o) 2 94 := ⟨(-89), by decide +kernel, by decide, rfl⟩
theorem dX8_carryOutAll_94 : Dx cX8_carryOutAll 94 (.aload_n 0) 1 95 := ⟨by decide +kernel, rfl⟩
theorem dX8_carryOutAll_95 : Dx cX8_carryOutAll 95 (.getfield 50) 3 98 := ⟨by decide +kernel, rfl⟩
theorem dX8_carryOutAll_98 : Dx cX8_carryOutAll 98 (.getfield 293) 3 101 := ⟨by decide +kernel, rfl⟩
theorem dX8_carryOutAll_101 : Dx cX8_carryOutAll 101 (.ireturn) 1 102 := ⟨by decide +kernel, rfl⟩
theorem dX8_remember_0 : Dx cX8_remember 0 (.aload_n 0) 1 1 := ⟨by decide +kernel, rfl⟩
theorem dX8_remember_1 : Dx cX8_remember 1 (.getfield 30) 3 4 := ⟨by decide +kernel, rfl⟩
theorem dX8_remember_4 : Dx cX8_remember 4 (.bipush 8) 2 6 := ⟨by decide +kernel, rfl⟩
theorem dX8_remember_6 : Dc cX8_remember 6 (fun o => .if_icmp .ne o) 13 9 := ⟨7, by decide +kernel, by decide, rfl⟩
theorem dX8_remember_9 : Dx cX8_remember 9 (.aload_n 0) 1 10 := ⟨by decide +kernel, rfl⟩
theorem dX8_remember_10 : Dx cX8_remember 10 (.invokevirtual 456) 3 13 := ⟨by decide +kernel, rfl⟩
theorem dX8_remember_13 : Dx cX8_remember 13 (.aload_n 0) 1 14 := ⟨by decide +kernel, rfl⟩
theorem dX8_remember_14 : Dx cX8_remember 14 (.getfield 26) 3 17 := ⟨by decide +kernel, rfl⟩
theorem dX8_remember_17 : Dx cX8_remember 17 (.aload_n 0) 1 18 := ⟨by decide +kernel, rfl⟩
theorem dX8_remember_18 : Dx cX8_remember 18 (.getfield 30) 3 21 := ⟨by decide +kernel, rfl⟩
theorem dX8_remember_21 : Dx cX8_remember 21 (.aaload) 1 22 := ⟨by decide +kernel, rfl⟩
theorem dX8_remember_22 : Dx cX8_remember 22 (.aload_n 1) 1 23 := ⟨by decide +kernel, rfl⟩
theorem dX8_remember_23 : Dx cX8_remember 23 (.invokevirtual 212) 3 26 := ⟨by decide +kernel, rfl⟩
theorem dX8_remember_26 : Dx cX8_remember 26 (.aload_n 0) 1 27 := ⟨by decide +kernel, rfl⟩
theorem dX8_remember_27 : Dx cX8_remember 27 (.dup) 1 28 := ⟨by decide +kernel, rfl⟩
theorem dX8_remember_28 : Dx cX8_remember 28 (.getfield 30) 3 31 := ⟨by decide +kernel, rfl⟩
theorem dX8_remember_31 : Dx cX8_remember 31 (.iconst 1) 1 32 := ⟨by decide +kernel, rfl⟩
theorem dX8_remember_32 : Dx cX8_remember 32 (.iadd) 1 33 := ⟨by decide +kernel, rfl⟩
theorem dX8_remember_33 : Dx cX8_remember 33 (.putfield 30) 3 36 := ⟨by decide +kernel, rfl⟩
theorem dX8_remember_36 : Dx cX8_remember 36 (.return_) 1 37 := ⟨by decide +kernel, rfl⟩
theorem dX8_forgetOldest_0 : Dx cX8_forgetOldest 0 (.aload_n 0) 1 1 := ⟨by decide +kernel, rfl⟩
theorem dX8_forgetOldest_1 : Dx cX8_forgetOldest 1 (.getfield 26) 3 4 := ⟨by decide +kernel, rfl⟩
theorem dX8_forgetOldest_4 : Dx cX8_forgetOldest 4 (.iconst 0) 1 5 := ⟨by decide +kernel, rfl⟩
theorem dX8_forgetOldest_5 : Dx cX8_forgetOldest 5 (.aaload) 1 6 := ⟨by decide +kernel, rfl⟩
theorem dX8_forgetOldest_6 : Dx cX8_forgetOldest 6 (.astore_n 1) 1 7 := ⟨by decide +kernel, rfl⟩
theorem dX8_forgetOldest_7 : Dx cX8_forgetOldest 7 (.iconst 1) 1 8 := ⟨by decide +kernel, rfl⟩
theorem dX8_forgetOldest_8 : Dx cX8_forgetOldest 8 (.istore_n 2) 1 9 := ⟨by decide +kernel, rfl⟩
theorem dX8_forgetOldest_9 : Dx cX8_forgetOldest 9 (.iload_n 2) 1 10 := ⟨by decide +kernel, rfl⟩
theorem dX8_forgetOldest_10 : Dx cX8_forgetOldest 10 (.bipush 8) 2 12 := ⟨by decide +kernel, rfl⟩
theorem dX8_forgetOldest_12 : Dc cX8_forgetOldest 12 (fun o => .if_icmp .ge o) 35 15 := ⟨23, by decide +kernel, by decide, rfl⟩
theorem dX8_forgetOldest_15 : Dx cX8_forgetOldest 15 (.aload_n 0) 1 16 := ⟨by decide +kernel, rfl⟩
theorem dX8_forgetOldest_16 : Dx cX8_forgetOldest 16 (.getfield 26) 3 19 := ⟨by decide +kernel, rfl⟩
theorem dX8_forgetOldest_19 : Dx cX8_forgetOldest 19 (.iload_n 2) 1 20 := ⟨by decide +kernel, rfl⟩
theorem dX8_forgetOldest_20 : Dx cX8_forgetOldest 20 (.iconst 1) 1 21 := ⟨by decide +kernel, rfl⟩
theorem dX8_forgetOldest_21 : Dx cX8_forgetOldest 21 (.isub) 1 22 := ⟨by decide +kernel, rfl⟩
theorem dX8_forgetOldest_22 : Dx cX8_forgetOldest 22 (.aload_n 0) 1 23 := ⟨by decide +kernel, rfl⟩
theorem dX8_forgetOldest_23 : Dx cX8_forgetOldest 23 (.getfield 26) 3 26 := ⟨by decide +kernel, rfl⟩
theorem dX8_forgetOldest_26 : Dx cX8_forgetOldest 26 (.iload_n 2) 1 27 := ⟨by decide +kernel, rfl⟩
theorem dX8_forgetOldest_27 : Dx cX8_forgetOldest 27 (.aaload) 1 28 := ⟨by decide +kernel, rfl⟩
theorem dX8_forgetOldest_28 : Dx cX8_forgetOldest 28 (.aastore) 1 29 := ⟨by decide +kernel, rfl⟩
theorem dX8_forgetOldest_29 : Dx cX8_forgetOldest 29 (.iinc 2 1) 3 32 := ⟨by decide +kernel, rfl⟩
theorem dX8_forgetOldest_32 : Dc cX8_forgetOldest 32 (fun o => .goto o) 9 35 := ⟨(-23), by decide +kernel, by decide, rfl⟩
theorem dX8_forgetOldest_35 : Dx cX8_forgetOldest 35 (.aload_n 0) 1 36 := ⟨by decide +kernel, rfl⟩
theorem dX8_forgetOldest_36 : Dx cX8_forgetOldest 36 (.getfield 26) 3 39 := ⟨by decide +kernel, rfl⟩
theorem dX8_forgetOldest_39 : Dx cX8_forgetOldest 39 (.bipush 7) 2 41 := ⟨by decide +kernel, rfl⟩
theorem dX8_forgetOldest_41 : Dx cX8_forgetOldest 41 (.aload_n 1) 1 42 := ⟨by decide +kernel, rfl⟩
theorem dX8_forgetOldest_42 : Dx cX8_forgetOldest 42 (.aastore) 1 43 := ⟨by decide +kernel, rfl⟩
theorem dX8_forgetOldest_43 : Dx cX8_forgetOldest 43 (.aload_n 0) 1 44 := ⟨by decide +kernel, rfl⟩
theorem dX8_forgetOldest_44 : Dx cX8_forgetOldest 44 (.dup) 1 45 := ⟨by decide +kernel, rfl⟩
theorem dX8_forgetOldest_45 : Dx cX8_forgetOldest 45 (.getfield 30) 3 48 := ⟨by decide +kernel, rfl⟩
theorem dX8_forgetOldest_48 : Dx cX8_forgetOldest 48 (.iconst 1) 1 49 := ⟨by decide +kernel, rfl⟩
theorem dX8_forgetOldest_49 : Dx cX8_forgetOldest 49 (.isub) 1 50 := ⟨by decide +kernel, rfl⟩
theorem dX8_forgetOldest_50 : Dx cX8_forgetOldest 50 (.putfield 30) 3 53 := ⟨by decide +kernel, rfl⟩
theorem dX8_forgetOldest_53 : Dx cX8_forgetOldest 53 (.return_) 1 54 := ⟨by decide +kernel, rfl⟩
theorem dX8_requireBoat_0 : Dx cX8_requireBoat 0 (.aload_n 0) 1 1 := ⟨by decide +kernel, rfl⟩
theorem dX8_requireBoat_1 : Dx cX8_requireBoat 1 (.getfield 12) 3 4 := ⟨by decide +kernel, rfl⟩
theorem dX8_requireBoat_4 : Dx cX8_requireBoat 4 (.iload_n 1) 1 5 := ⟨by decide +kernel, rfl⟩
theorem dX8_requireBoat_5 : Dx cX8_requireBoat 5 (.invokevirtual 463) 3 8 := ⟨by decide +kernel, rfl⟩
theorem dX8_requireBoat_8 : Dc cX8_requireBoat 8 (fun o => .ifCond .ne o) 22 11 := ⟨14, by decide +kernel, by decide, rfl⟩
theorem dX8_requireBoat_11 : Dx cX8_requireBoat 11 (.new 116) 3 14 := ⟨by decide +kernel, rfl⟩
theorem dX8_requireBoat_14 : Dx cX8_requireBoat 14 (.dup) 1 15 := ⟨by decide +kernel, rfl⟩
theorem dX8_requireBoat_15 : Dx cX8_requireBoat 15 (.ldc_w 466) 3 18 := ⟨by decide +kernel, rfl⟩
theorem dX8_requireBoat_18 : Dx cX8_requireBoat 18 (.invokespecial 120) 3 21 := ⟨by decide +kernel, rfl⟩
theorem dX8_requireBoat_21 : Dx cX8_requireBoat 21 (.athrow) 1 22 := ⟨by decide +kernel, rfl⟩
theorem dX8_requireBoat_22 : Dx cX8_requireBoat 22 (.return_) 1 23 := ⟨by decide +kernel, rfl⟩
theorem dX8_requireCrew_0 : Dx cX8_requireCrew 0 (.aload_n 0) 1 1 := ⟨by decide +kernel, rfl⟩
theorem dX8_requireCrew_1 : Dx cX8_requireCrew 1 (.getfield 12) 3 4 := ⟨by decide +kernel, rfl⟩
theorem dX8_requireCrew_4 : Dx cX8_requireCrew 4 (.iload_n 1) 1 5 := ⟨by decide +kernel, rfl⟩
theorem dX8_requireCrew_5 : Dx cX8_requireCrew 5 (.aload_n 0) 1 6 := ⟨by decide +kernel, rfl⟩
theorem dX8_requireCrew_6 : Dx cX8_requireCrew 6 (.getfield 44) 3 9 := ⟨by decide +kernel, rfl⟩
theorem dX8_requireCrew_9 : Dx cX8_requireCrew 9 (.invokevirtual 468) 3 12 := ⟨by decide +kernel, rfl⟩
theorem dX8_requireCrew_12 : Dx cX8_requireCrew 12 (.aload_n 0) 1 13 := ⟨by decide +kernel, rfl⟩
theorem dX8_requireCrew_13 : Dx cX8_requireCrew 13 (.getfield 44) 3 16 := ⟨by decide +kernel, rfl⟩
theorem dX8_requireCrew_16 : Dx cX8_requireCrew 16 (.invokevirtual 216) 3 19 := ⟨by decide +kernel, rfl⟩
theorem dX8_requireCrew_19 : Dc cX8_requireCrew 19 (fun o => .ifCond .eq o) 33 22 := ⟨14, by decide +kernel, by decide, rfl⟩
theorem dX8_requireCrew_22 : Dx cX8_requireCrew 22 (.new 222) 3 25 := ⟨by decide +kernel, rfl⟩
theorem dX8_requireCrew_25 : Dx cX8_requireCrew 25 (.dup) 1 26 := ⟨by decide +kernel, rfl⟩
theorem dX8_requireCrew_26 : Dx cX8_requireCrew 26 (.ldc_w 471) 3 29 := ⟨by decide +kernel, rfl⟩
theorem dX8_requireCrew_29 : Dx cX8_requireCrew 29 (.invokespecial 226) 3 32 := ⟨by decide +kernel, rfl⟩
theorem dX8_requireCrew_32 : Dx cX8_requireCrew 32 (.athrow) 1 33 := ⟨by decide +kernel, rfl⟩
theorem dX8_requireCrew_33 : Dx cX8_requireCrew 33 (.return_) 1 34 := ⟨by decide +kernel, rfl⟩
theorem dX8_requireOut_0 : Dx cX8_requireOut 0 (.aload_n 0) 1 1 := ⟨by decide +kernel, rfl⟩
theorem dX8_requireOut_1 : Dx cX8_requireOut 1 (.getfield 12) 3 4 := ⟨by decide +kernel, rfl⟩
theorem dX8_requireOut_4 : Dx cX8_requireOut 4 (.getfield 161) 3 7 := ⟨by decide +kernel, rfl⟩
theorem dX8_requireOut_7 : Dx cX8_requireOut 7 (.iload_n 1) 1 8 := ⟨by decide +kernel, rfl⟩
theorem dX8_requireOut_8 : Dx cX8_requireOut 8 (.aaload) 1 9 := ⟨by decide +kernel, rfl⟩
theorem dX8_requireOut_9 : Dx cX8_requireOut 9 (.invokevirtual 173) 3 12 := ⟨by decide +kernel, rfl⟩
theorem dX8_requireOut_12 : Dc cX8_requireOut 12 (fun o => .ifCond .ne o) 26 15 := ⟨14, by decide +kernel, by decide, rfl⟩
theorem dX8_requireOut_15 : Dx cX8_requireOut 15 (.new 222) 3 18 := ⟨by decide +kernel, rfl⟩
theorem dX8_requireOut_18 : Dx cX8_requireOut 18 (.dup) 1 19 := ⟨by decide +kernel, rfl⟩
theorem dX8_requireOut_19 : Dx cX8_requireOut 19 (.ldc_w 473) 3 22 := ⟨by decide +kernel, rfl⟩
theorem dX8_requireOut_22 : Dx cX8_requireOut 22 (.invokespecial 226) 3 25 := ⟨by decide +kernel, rfl⟩
theorem dX8_requireOut_25 : Dx cX8_requireOut 25 (.athrow) 1 26 := ⟨by decide +kernel, rfl⟩
theorem dX8_requireOut_26 : Dx cX8_requireOut 26 (.return_) 1 27 := ⟨by decide +kernel, rfl⟩
theorem dX8_heightAt_0 : Dx cX8_heightAt 0 (.iload_n 0) 1 1 := ⟨by decide +kernel, rfl⟩
theorem dX8_heightAt_1 : Dx cX8_heightAt 1 (.bipush 12) 2 3 := ⟨by decide +kernel, rfl⟩
theorem dX8_heightAt_3 : Dx cX8_heightAt 3 (.irem) 1 4 := ⟨by decide +kernel, rfl⟩
theorem dX8_heightAt_4 : Dx cX8_heightAt 4 (.istore_n 1) 1 5 := ⟨by decide +kernel, rfl⟩
theorem dX8_heightAt_5 : Dx cX8_heightAt 5 (.iload_n 1) 1 6 := ⟨by decide +kernel, rfl⟩
theorem dX8_heightAt_6 : Dx cX8_heightAt 6 (.bipush 6) 2 8 := ⟨by decide +kernel, rfl⟩
theorem dX8_heightAt_8 : Dc cX8_heightAt 8 (fun o => .if_icmp .gt o) 15 11 := ⟨7, by decide +kernel, by decide, rfl⟩
theorem dX8_heightAt_11 : Dx cX8_heightAt 11 (.iload_n 1) 1 12 := ⟨by decide +kernel, rfl⟩
theorem dX8_heightAt_12 : Dc cX8_heightAt 12 (fun o => .goto o) 19 15 := ⟨7, by decide +kernel, by decide, rfl⟩
theorem dX8_heightAt_15 : Dx cX8_heightAt 15 (.bipush 12) 2 17 := ⟨by decide +kernel, rfl⟩
theorem dX8_heightAt_17 : Dx cX8_heightAt 17 (.iload_n 1) 1 18 := ⟨by decide +kernel, rfl⟩
theorem dX8_heightAt_18 : Dx cX8_heightAt 18 (.isub) 1 19 := ⟨by decide +kernel, rfl⟩
theorem dX8_heightAt_19 : Dx cX8_heightAt 19 (.ireturn) 1 20 := ⟨by decide +kernel, rfl⟩
theorem dX8_isIn_0 : Dx cX8_isIn 0 (.iload_n 1) 1 1 := ⟨by decide +kernel, rfl⟩
theorem dX8_isIn_1 : Dx cX8_isIn 1 (.iconst 1) 1 2 := ⟨by decide +kernel, rfl⟩
theorem dX8_isIn_2 : Dx cX8_isIn 2 (.iload_n 0) 1 3 := ⟨by decide +kernel, rfl⟩
theorem dX8_isIn_3 : Dx cX8_isIn 3 (.ishl) 1 4 := ⟨by decide +kernel, rfl⟩
theorem dX8_isIn_4 : Dx cX8_isIn 4 (.iand) 1 5 := ⟨by decide +kernel, rfl⟩
theorem dX8_isIn_5 : Dc cX8_isIn 5 (fun o => .ifCond .eq o) 12 8 := ⟨7, by decide +kernel, by decide, rfl⟩
theorem dX8_isIn_8 : Dx cX8_isIn 8 (.iconst 1) 1 9 := ⟨by decide +kernel, rfl⟩
theorem dX8_isIn_9 : Dc cX8_isIn 9 (fun o => .goto o) 13 12 := ⟨4, by decide +kernel, by decide, rfl⟩
theorem dX8_isIn_12 : Dx cX8_isIn 12 (.iconst 0) 1 13 := ⟨by decide +kernel, rfl⟩
theorem dX8_isIn_13 : Dx cX8_isIn 13 (.ireturn) 1 14 := ⟨by decide +kernel, rfl⟩
theorem dJ5_init_d00df_0 : Dx cJ5_init_d00df 0 (.aload_n 0) 1 1 := ⟨by decide +kernel, rfl⟩
theorem dJ5_init_d00df_1 : Dx cJ5_init_d00df 1 (.invokespecial 3) 3 4 := ⟨by decide +kernel, rfl⟩
theorem dJ5_init_d00df_4 : Dx cJ5_init_d00df 4 (.getstatic 18) 3 7 := ⟨by decide +kernel, rfl⟩
theorem dJ5_init_d00df_7 : Dc cJ5_init_d00df 7 (fun o => .ifCond .eq o) 25 10 := ⟨18, by decide +kernel, by decide, rfl⟩
theorem dJ5_init_d00df_10 : Dx cJ5_init_d00df 10 (.aload_n 0) 1 11 := ⟨by decide +kernel, rfl⟩
theorem dJ5_init_d00df_11 : Dx cJ5_init_d00df 11 (.iload_n 1) 1 12 := ⟨by decide +kernel, rfl⟩
theorem dJ5_init_d00df_12 : Dx cJ5_init_d00df 12 (.newarray .byte) 2 14 := ⟨by decide +kernel, rfl⟩
theorem dJ5_init_d00df_14 : Dx cJ5_init_d00df 14 (.putfield 15) 3 17 := ⟨by decide +kernel, rfl⟩
theorem dJ5_init_d00df_17 : Dx cJ5_init_d00df 17 (.aload_n 0) 1 18 := ⟨by decide +kernel, rfl⟩
theorem dJ5_init_d00df_18 : Dx cJ5_init_d00df 18 (.iconst 0) 1 19 := ⟨by decide +kernel, rfl⟩
theorem dJ5_init_d00df_19 : Dx cJ5_init_d00df 19 (.putfield 22) 3 22 := ⟨by decide +kernel, rfl⟩
theorem dJ5_init_d00df_22 : Dc cJ5_init_d00df 22 (fun o => .goto o) 38 25 := ⟨16, by decide +kernel, by decide, rfl⟩
theorem dJ5_init_d00df_25 : Dx cJ5_init_d00df 25 (.aload_n 0) 1 26 := ⟨by decide +kernel, rfl⟩
theorem dJ5_init_d00df_26 : Dx cJ5_init_d00df 26 (.iload_n 1) 1 27 := ⟨by decide +kernel, rfl⟩
theorem dJ5_init_d00df_27 : Dx cJ5_init_d00df 27 (.invokestatic 26) 3 30 := ⟨by decide +kernel, rfl⟩
theorem dJ5_init_d00df_30 : Dx cJ5_init_d00df 30 (.putfield 15) 3 33 := ⟨by decide +kernel, rfl⟩
theorem dJ5_init_d00df_33 : Dx cJ5_init_d00df 33 (.aload_n 0) 1 34 := ⟨by decide +kernel, rfl⟩
theorem dJ5_init_d00df_34 : Dx cJ5_init_d00df 34 (.iconst 1) 1 35 := ⟨by decide +kernel, rfl⟩
theorem dJ5_init_d00df_35 : Dx cJ5_init_d00df 35 (.putfield 22) 3 38 := ⟨by decide +kernel, rfl⟩
theorem dJ5_init_d00df_38 : Dx cJ5_init_d00df 38 (.return_) 1 39 := ⟨by decide +kernel, rfl⟩
theorem dJ5_length_8abf5_0 : Dx cJ5_length_8abf5 0 (.aload_n 0) 1 1 := ⟨by decide +kernel, rfl⟩
theorem dJ5_length_8abf5_1 : Dx cJ5_length_8abf5 1 (.getfield 79) 3 4 := ⟨by decide +kernel, rfl⟩
theorem dJ5_length_8abf5_4 : Dx cJ5_length_8abf5 4 (.ireturn) 1 5 := ⟨by decide +kernel, rfl⟩
theorem dJ5_ensureCapacityInternal_d00df_0 : Dx cJ5_ensureCapacityInternal_d00df 0 (.aload_n 0) 1 1 := ⟨by decide +kernel, rfl⟩
theorem dJ5_ensureCapacityInternal_d00df_1 : Dx cJ5_ensureCapacityInternal_d00df 1 (.getfield 15) 3 4 := ⟨by decide +kernel, rfl⟩
theorem dJ5_ensureCapacityInternal_d00df_4 : Dx cJ5_ensureCapacityInternal_d00df 4 (.arraylength) 1 5 := ⟨by decide +kernel, rfl⟩
theorem dJ5_ensureCapacityInternal_d00df_5 : Dx cJ5_ensureCapacityInternal_d00df 5 (.aload_n 0) 1 6 := ⟨by decide +kernel, rfl⟩
theorem dJ5_ensureCapacityInternal_d00df_6 : Dx cJ5_ensureCapacityInternal_d00df 6 (.getfield 22) 3 9 := ⟨by decide +kernel, rfl⟩
theorem dJ5_ensureCapacityInternal_d00df_9 : Dx cJ5_ensureCapacityInternal_d00df 9 (.ishr) 1 10 := ⟨by decide +kernel, rfl⟩
theorem dJ5_ensureCapacityInternal_d00df_10 : Dx cJ5_ensureCapacityInternal_d00df 10 (.istore_n 2) 1 11 := ⟨by decide +kernel, rfl⟩
theorem dJ5_ensureCapacityInternal_d00df_11 : Dx cJ5_ensureCapacityInternal_d00df 11 (.iload_n 1) 1 12 := ⟨by decide +kernel, rfl⟩
theorem dJ5_ensureCapacityInternal_d00df_12 : Dx cJ5_ensureCapacityInternal_d00df 12 (.iload_n 2) 1 13 := ⟨by decide +kernel, rfl⟩
theorem dJ5_ensureCapacityInternal_d00df_13 : Dx cJ5_ensureCapacityInternal_d00df 13 (.isub) 1 14 := ⟨by decide +kernel, rfl⟩
theorem dJ5_ensureCapacityInternal_d00df_14 : Dc cJ5_ensureCapacityInternal_d00df 14 (fun o => .ifCond .le o) 38 17 := ⟨24, by decide +kernel, by decide, rfl⟩
theorem dJ5_ensureCapacityInternal_d00df_17 : Dx cJ5_ensureCapacityInternal_d00df 17 (.aload_n 0) 1 18 := ⟨by decide +kernel, rfl⟩
theorem dJ5_ensureCapacityInternal_d00df_18 : Dx cJ5_ensureCapacityInternal_d00df 18 (.aload_n 0) 1 19 := ⟨by decide +kernel, rfl⟩
theorem dJ5_ensureCapacityInternal_d00df_19 : Dx cJ5_ensureCapacityInternal_d00df 19 (.getfield 15) 3 22 := ⟨by decide +kernel, rfl⟩
theorem dJ5_ensureCapacityInternal_d00df_22 : Dx cJ5_ensureCapacityInternal_d00df 22 (.aload_n 0) 1 23 := ⟨by decide +kernel, rfl⟩
theorem dJ5_ensureCapacityInternal_d00df_23 : Dx cJ5_ensureCapacityInternal_d00df 23 (.iload_n 1) 1 24 := ⟨by decide +kernel, rfl⟩
theorem dJ5_ensureCapacityInternal_d00df_24 : Dx cJ5_ensureCapacityInternal_d00df 24 (.invokevirtual 104) 3 27 := ⟨by decide +kernel, rfl⟩
theorem dJ5_ensureCapacityInternal_d00df_27 : Dx cJ5_ensureCapacityInternal_d00df 27 (.aload_n 0) 1 28 := ⟨by decide +kernel, rfl⟩
theorem dJ5_ensureCapacityInternal_d00df_28 : Dx cJ5_ensureCapacityInternal_d00df 28 (.getfield 22) 3 31 := ⟨by decide +kernel, rfl⟩
theorem dJ5_ensureCapacityInternal_d00df_31 : Dx cJ5_ensureCapacityInternal_d00df 31 (.ishl) 1 32 := ⟨by decide +kernel, rfl⟩
theorem dJ5_ensureCapacityInternal_d00df_32 : Dx cJ5_ensureCapacityInternal_d00df 32 (.invokestatic 108) 3 35 := ⟨by decide +kernel, rfl⟩
theorem dJ5_ensureCapacityInternal_d00df_35 : Dx cJ5_ensureCapacityInternal_d00df 35 (.putfield 15) 3 38 := ⟨by decide +kernel, rfl⟩
theorem dJ5_ensureCapacityInternal_d00df_38 : Dx cJ5_ensureCapacityInternal_d00df 38 (.return_) 1 39 := ⟨by decide +kernel, rfl⟩
theorem dJ5_newCapacity_0f7a4_0 : Dx cJ5_newCapacity_0f7a4 0 (.aload_n 0) 1 1 := ⟨by decide +kernel, rfl⟩
theorem dJ5_newCapacity_0f7a4_1 : Dx cJ5_newCapacity_0f7a4 1 (.getfield 15) 3 4 := ⟨by decide +kernel, rfl⟩
theorem dJ5_newCapacity_0f7a4_4 : Dx cJ5_newCapacity_0f7a4 4 (.arraylength) 1 5 := ⟨by decide +kernel, rfl⟩
theorem dJ5_newCapacity_0f7a4_5 : Dx cJ5_newCapacity_0f7a4 5 (.istore_n 2) 1 6 := ⟨by decide +kernel, rfl⟩
theorem dJ5_newCapacity_0f7a4_6 : Dx cJ5_newCapacity_0f7a4 6 (.iload_n 1) 1 7 := ⟨by decide +kernel, rfl⟩
theorem dJ5_newCapacity_0f7a4_7 : Dx cJ5_newCapacity_0f7a4 7 (.aload_n 0) 1 8 := ⟨by decide +kernel, rfl⟩
theorem dJ5_newCapacity_0f7a4_8 : Dx cJ5_newCapacity_0f7a4 8 (.getfield 22) 3 11 := ⟨by decide +kernel, rfl⟩
theorem dJ5_newCapacity_0f7a4_11 : Dx cJ5_newCapacity_0f7a4 11 (.ishl) 1 12 := ⟨by decide +kernel, rfl⟩
theorem dJ5_newCapacity_0f7a4_12 : Dx cJ5_newCapacity_0f7a4 12 (.istore_n 3) 1 13 := ⟨by decide +kernel, rfl⟩
theorem dJ5_newCapacity_0f7a4_13 : Dx cJ5_newCapacity_0f7a4 13 (.iload_n 3) 1 14 := ⟨by decide +kernel, rfl⟩
theorem dJ5_newCapacity_0f7a4_14 : Dx cJ5_newCapacity_0f7a4 14 (.iload_n 2) 1 15 := ⟨by decide +kernel, rfl⟩
theorem dJ5_newCapacity_0f7a4_15 : Dx cJ5_newCapacity_0f7a4 15 (.isub) 1 16 := ⟨by decide +kernel, rfl⟩
theorem dJ5_newCapacity_0f7a4_16 : Dx cJ5_newCapacity_0f7a4 16 (.istore 4) 2 18 := ⟨by decide +kernel, rfl⟩
theorem dJ5_newCapacity_0f7a4_18 : Dx cJ5_newCapacity_0f7a4 18 (.iload_n 2) 1 19 := ⟨by decide +kernel, rfl⟩
theorem dJ5_newCapacity_0f7a4_19 : Dx cJ5_newCapacity_0f7a4 19 (.iload 4) 2 21 := ⟨by decide +kernel, rfl⟩
theorem dJ5_newCapacity_0f7a4_21 : Dx cJ5_newCapacity_0f7a4 21 (.iload_n 2) 1 22 := ⟨by decide +kernel, rfl⟩
theorem dJ5_newCapacity_0f7a4_22 : Dx cJ5_newCapacity_0f7a4 22 (.iconst 2) 1 23 := ⟨by decide +kernel, rfl⟩
theorem dJ5_newCapacity_0f7a4_23 : Dx cJ5_newCapacity_0f7a4 23 (.aload_n 0) 1 24 := ⟨by decide +kernel, rfl⟩
theorem dJ5_newCapacity_0f7a4_24 : Dx cJ5_newCapacity_0f7a4 24 (.getfield 22) 3 27 := ⟨by decide +kernel, rfl⟩
theorem dJ5_newCapacity_0f7a4_27 : Dx cJ5_newCapacity_0f7a4 27 (.ishl) 1 28 := ⟨by decide +kernel, rfl⟩
theorem dJ5_newCapacity_0f7a4_28 : Dx cJ5_newCapacity_0f7a4 28 (.iadd) 1 29 := ⟨by decide +kernel, rfl⟩
theorem dJ5_newCapacity_0f7a4_29 : Dx cJ5_newCapacity_0f7a4 29 (.invokestatic 114) 3 32 := ⟨by decide +kernel, rfl⟩
theorem dJ5_newCapacity_0f7a4_32 : Dx cJ5_newCapacity_0f7a4 32 (.istore 5) 2 34 := ⟨by decide +kernel, rfl⟩
theorem dJ5_newCapacity_0f7a4_34 : Dx cJ5_newCapacity_0f7a4 34 (.iload 5) 2 36 := ⟨by decide +kernel, rfl⟩
theorem dJ5_newCapacity_0f7a4_36 : Dx cJ5_newCapacity_0f7a4 36 (.ldc 39) 2 38 := ⟨by decide +kernel, rfl⟩
theorem dJ5_newCapacity_0f7a4_38 : Dc cJ5_newCapacity_0f7a4 38 (fun o => .if_icmp .ne o) 51 41 := ⟨13, by decide +kernel, by decide, rfl⟩
theorem dJ5_newCapacity_0f7a4_41 : Dx cJ5_newCapacity_0f7a4 41 (.new 120) 3 44 := ⟨by decide +kernel, rfl⟩
theorem dJ5_newCapacity_0f7a4_44 : Dx cJ5_newCapacity_0f7a4 44 (.dup) 1 45 := ⟨by decide +kernel, rfl⟩
theorem dJ5_newCapacity_0f7a4_45 : Dx cJ5_newCapacity_0f7a4 45 (.ldc 122) 2 47 := ⟨by decide +kernel, rfl⟩
theorem dJ5_newCapacity_0f7a4_47 : Dx cJ5_newCapacity_0f7a4 47 (.invokespecial 124) 3 50 := ⟨by decide +kernel, rfl⟩
theorem dJ5_newCapacity_0f7a4_50 : Dx cJ5_newCapacity_0f7a4 50 (.athrow) 1 51 := ⟨by decide +kernel, rfl⟩
theorem dJ5_newCapacity_0f7a4_51 : Dx cJ5_newCapacity_0f7a4 51 (.iload 5) 2 53 := ⟨by decide +kernel, rfl⟩
theorem dJ5_newCapacity_0f7a4_53 : Dx cJ5_newCapacity_0f7a4 53 (.aload_n 0) 1 54 := ⟨by decide +kernel, rfl⟩
theorem dJ5_newCapacity_0f7a4_54 : Dx cJ5_newCapacity_0f7a4 54 (.getfield 22) 3 57 := ⟨by decide +kernel, rfl⟩
theorem dJ5_newCapacity_0f7a4_57 : Dx cJ5_newCapacity_0f7a4 57 (.ishr) 1 58 := ⟨by decide +kernel, rfl⟩
theorem dJ5_newCapacity_0f7a4_58 : Dx cJ5_newCapacity_0f7a4 58 (.ireturn) 1 59 := ⟨by decide +kernel, rfl⟩
theorem dJ5_inflate_da8c8_0 : Dx cJ5_inflate_da8c8 0 (.aload_n 0) 1 1 := ⟨by decide +kernel, rfl⟩
theorem dJ5_inflate_da8c8_1 : Dx cJ5_inflate_da8c8 1 (.invokevirtual 83) 3 4 := ⟨by decide +kernel, rfl⟩
theorem dJ5_inflate_da8c8_4 : Dc cJ5_inflate_da8c8 4 (fun o => .ifCond .ne o) 8 7 := ⟨4, by decide +kernel, by decide, rfl⟩
theorem dJ5_inflate_da8c8_7 : Dx cJ5_inflate_da8c8 7 (.return_) 1 8 := ⟨by decide +kernel, rfl⟩
theorem dJ5_inflate_da8c8_8 : Dx cJ5_inflate_da8c8 8 (.aload_n 0) 1 9 := ⟨by decide +kernel, rfl⟩
theorem dJ5_inflate_da8c8_9 : Dx cJ5_inflate_da8c8 9 (.getfield 15) 3 12 := ⟨by decide +kernel, rfl⟩
theorem dJ5_inflate_da8c8_12 : Dx cJ5_inflate_da8c8 12 (.arraylength) 1 13 := ⟨by decide +kernel, rfl⟩
theorem dJ5_inflate_da8c8_13 : Dx cJ5_inflate_da8c8 13 (.invokestatic 26) 3 16 := ⟨by decide +kernel, rfl⟩
theorem dJ5_inflate_da8c8_16 : Dx cJ5_inflate_da8c8 16 (.astore_n 1) 1 17 := ⟨by decide +kernel, rfl⟩
theorem dJ5_inflate_da8c8_17 : Dx cJ5_inflate_da8c8 17 (.aload_n 0) 1 18 := ⟨by decide +kernel, rfl⟩
theorem dJ5_inflate_da8c8_18 : Dx cJ5_inflate_da8c8 18 (.getfield 15) 3 21 := ⟨by decide +kernel, rfl⟩
theorem dJ5_inflate_da8c8_21 : Dx cJ5_inflate_da8c8 21 (.iconst 0) 1 22 := ⟨by decide +kernel, rfl⟩
theorem dJ5_inflate_da8c8_22 : Dx cJ5_inflate_da8c8 22 (.aload_n 1) 1 23 := ⟨by decide +kernel, rfl⟩
theorem dJ5_inflate_da8c8_23 : Dx cJ5_inflate_da8c8 23 (.iconst 0) 1 24 := ⟨by decide +kernel, rfl⟩
theorem dJ5_inflate_da8c8_24 : Dx cJ5_inflate_da8c8 24 (.aload_n 0) 1 25 := ⟨by decide +kernel, rfl⟩
theorem dJ5_inflate_da8c8_25 : Dx cJ5_inflate_da8c8 25 (.getfield 79) 3 28 := ⟨by decide +kernel, rfl⟩
theorem dJ5_inflate_da8c8_28 : Dx cJ5_inflate_da8c8 28 (.invokestatic 125) 3 31 := ⟨by decide +kernel, rfl⟩
theorem dJ5_inflate_da8c8_31 : Dx cJ5_inflate_da8c8 31 (.aload_n 0) 1 32 := ⟨by decide +kernel, rfl⟩
theorem dJ5_inflate_da8c8_32 : Dx cJ5_inflate_da8c8 32 (.aload_n 1) 1 33 := ⟨by decide +kernel, rfl⟩
theorem dJ5_inflate_da8c8_33 : Dx cJ5_inflate_da8c8 33 (.putfield 15) 3 36 := ⟨by decide +kernel, rfl⟩
theorem dJ5_inflate_da8c8_36 : Dx cJ5_inflate_da8c8 36 (.aload_n 0) 1 37 := ⟨by decide +kernel, rfl⟩
theorem dJ5_inflate_da8c8_37 : Dx cJ5_inflate_da8c8 37 (.iconst 1) 1 38 := ⟨by decide +kernel, rfl⟩
theorem dJ5_inflate_da8c8_38 : Dx cJ5_inflate_da8c8 38 (.putfield 22) 3 41 := ⟨by decide +kernel, rfl⟩
theorem dJ5_inflate_da8c8_41 : Dx cJ5_inflate_da8c8 41 (.return_) 1 42 := ⟨by decide +kernel, rfl⟩
theorem dJ5_append_cf1ce_0 : Dx cJ5_append_cf1ce 0 (.aload_n 1) 1 1 := ⟨by decide +kernel, rfl⟩
theorem dJ5_append_cf1ce_1 : Dc cJ5_append_cf1ce 1 (fun o => .ifnonnull o) 9 4 := ⟨8, by decide +kernel, by decide, rfl⟩
theorem dJ5_append_cf1ce_4 : Dx cJ5_append_cf1ce 4 (.aload_n 0) 1 5 := ⟨by decide +kernel, rfl⟩
theorem dJ5_append_cf1ce_5 : Dx cJ5_append_cf1ce 5 (.invokevirtual 204) 3 8 := ⟨by decide +kernel, rfl⟩
theorem dJ5_append_cf1ce_8 : Dx cJ5_append_cf1ce 8 (.areturn) 1 9 := ⟨by decide +kernel, rfl⟩
theorem dJ5_append_cf1ce_9 : Dx cJ5_append_cf1ce 9 (.aload_n 1) 1 10 := ⟨by decide +kernel, rfl⟩
theorem dJ5_append_cf1ce_10 : Dx cJ5_append_cf1ce 10 (.invokevirtual 32) 3 13 := ⟨by decide +kernel, rfl⟩
theorem dJ5_append_cf1ce_13 : Dx cJ5_append_cf1ce 13 (.istore_n 2) 1 14 := ⟨by decide +kernel, rfl⟩
theorem dJ5_append_cf1ce_14 : Dx cJ5_append_cf1ce 14 (.aload_n 0) 1 15 := ⟨by decide +kernel, rfl⟩
theorem dJ5_append_cf1ce_15 : Dx cJ5_append_cf1ce 15 (.aload_n 0) 1 16 := ⟨by decide +kernel, rfl⟩
theorem dJ5_append_cf1ce_16 : Dx cJ5_append_cf1ce 16 (.getfield 79) 3 19 := ⟨by decide +kernel, rfl⟩
theorem dJ5_append_cf1ce_19 : Dx cJ5_append_cf1ce 19 (.iload_n 2) 1 20 := ⟨by decide +kernel, rfl⟩
theorem dJ5_append_cf1ce_20 : Dx cJ5_append_cf1ce 20 (.iadd) 1 21 := ⟨by decide +kernel, rfl⟩
theorem dJ5_append_cf1ce_21 : Dx cJ5_append_cf1ce 21 (.invokevirtual 100) 3 24 := ⟨by decide +kernel, rfl⟩
theorem dJ5_append_cf1ce_24 : Dx cJ5_append_cf1ce 24 (.aload_n 0) 1 25 := ⟨by decide +kernel, rfl⟩
theorem dJ5_append_cf1ce_25 : Dx cJ5_append_cf1ce 25 (.aload_n 0) 1 26 := ⟨by decide +kernel, rfl⟩
theorem dJ5_append_cf1ce_26 : Dx cJ5_append_cf1ce 26 (.getfield 79) 3 29 := ⟨by decide +kernel, rfl⟩
theorem dJ5_append_cf1ce_29 : Dx cJ5_append_cf1ce 29 (.aload_n 1) 1 30 := ⟨by decide +kernel, rfl⟩
theorem dJ5_append_cf1ce_30 : Dx cJ5_append_cf1ce 30 (.invokevirtual 208) 3 33 := ⟨by decide +kernel, rfl⟩
theorem dJ5_append_cf1ce_33 : Dx cJ5_append_cf1ce 33 (.aload_n 0) 1 34 := ⟨by decide +kernel, rfl⟩
theorem dJ5_append_cf1ce_34 : Dx cJ5_append_cf1ce 34 (.dup) 1 35 := ⟨by decide +kernel, rfl⟩
theorem dJ5_append_cf1ce_35 : Dx cJ5_append_cf1ce 35 (.getfield 79) 3 38 := ⟨by decide +kernel, rfl⟩
theorem dJ5_append_cf1ce_38 : Dx cJ5_append_cf1ce 38 (.iload_n 2) 1 39 := ⟨by decide +kernel, rfl⟩
theorem dJ5_append_cf1ce_39 : Dx cJ5_append_cf1ce 39 (.iadd) 1 40 := ⟨by decide +kernel, rfl⟩
theorem dJ5_append_cf1ce_40 : Dx cJ5_append_cf1ce 40 (.putfield 79) 3 43 := ⟨by decide +kernel, rfl⟩
theorem dJ5_append_cf1ce_43 : Dx cJ5_append_cf1ce 43 (.aload_n 0) 1 44 := ⟨by decide +kernel, rfl⟩
theorem dJ5_append_cf1ce_44 : Dx cJ5_append_cf1ce 44 (.areturn) 1 45 := ⟨by decide +kernel, rfl⟩
theorem dJ5_appendNull_278bc_0 : Dx cJ5_appendNull_278bc 0 (.aload_n 0) 1 1 := ⟨by decide +kernel, rfl⟩
theorem dJ5_appendNull_278bc_1 : Dx cJ5_appendNull_278bc 1 (.aload_n 0) 1 2 := ⟨by decide +kernel, rfl⟩
theorem dJ5_appendNull_278bc_2 : Dx cJ5_appendNull_278bc 2 (.getfield 79) 3 5 := ⟨by decide +kernel, rfl⟩
theorem dJ5_appendNull_278bc_5 : Dx cJ5_appendNull_278bc 5 (.iconst 4) 1 6 := ⟨by decide +kernel, rfl⟩
theorem dJ5_appendNull_278bc_6 : Dx cJ5_appendNull_278bc 6 (.iadd) 1 7 := ⟨by decide +kernel, rfl⟩
theorem dJ5_appendNull_278bc_7 : Dx cJ5_appendNull_278bc 7 (.invokevirtual 100) 3 10 := ⟨by decide +kernel, rfl⟩
theorem dJ5_appendNull_278bc_10 : Dx cJ5_appendNull_278bc 10 (.aload_n 0) 1 11 := ⟨by decide +kernel, rfl⟩
theorem dJ5_appendNull_278bc_11 : Dx cJ5_appendNull_278bc 11 (.getfield 79) 3 14 := ⟨by decide +kernel, rfl⟩
theorem dJ5_appendNull_278bc_14 : Dx cJ5_appendNull_278bc 14 (.istore_n 1) 1 15 := ⟨by decide +kernel, rfl⟩
theorem dJ5_appendNull_278bc_15 : Dx cJ5_appendNull_278bc 15 (.aload_n 0) 1 16 := ⟨by decide +kernel, rfl⟩
theorem dJ5_appendNull_278bc_16 : Dx cJ5_appendNull_278bc 16 (.getfield 15) 3 19 := ⟨by decide +kernel, rfl⟩
theorem dJ5_appendNull_278bc_19 : Dx cJ5_appendNull_278bc 19 (.astore_n 2) 1 20 := ⟨by decide +kernel, rfl⟩
theorem dJ5_appendNull_278bc_20 : Dx cJ5_appendNull_278bc 20 (.aload_n 0) 1 21 := ⟨by decide +kernel, rfl⟩
theorem dJ5_appendNull_278bc_21 : Dx cJ5_appendNull_278bc 21 (.invokevirtual 83) 3 24 := ⟨by decide +kernel, rfl⟩
theorem dJ5_appendNull_278bc_24 : Dc cJ5_appendNull_278bc 24 (fun o => .ifCond .eq o) 62 27 := ⟨38, by decide +kernel, by decide, rfl⟩
theorem dJ5_appendNull_278bc_27 : Dx cJ5_appendNull_278bc 27 (.aload_n 2) 1 28 := ⟨by decide +kernel, rfl⟩
theorem dJ5_appendNull_278bc_28 : Dx cJ5_appendNull_278bc 28 (.iload_n 1) 1 29 := ⟨by decide +kernel, rfl⟩
theorem dJ5_appendNull_278bc_29 : Dx cJ5_appendNull_278bc 29 (.iinc 1 1) 3 32 := ⟨by decide +kernel, rfl⟩
theorem dJ5_appendNull_278bc_32 : Dx cJ5_appendNull_278bc 32 (.bipush 110) 2 34 := ⟨by decide +kernel, rfl⟩
theorem dJ5_appendNull_278bc_34 : Dx cJ5_appendNull_278bc 34 (.bastore) 1 35 := ⟨by decide +kernel, rfl⟩
theorem dJ5_appendNull_278bc_35 : Dx cJ5_appendNull_278bc 35 (.aload_n 2) 1 36 := ⟨by decide +kernel, rfl⟩
theorem dJ5_appendNull_278bc_36 : Dx cJ5_appendNull_278bc 36 (.iload_n 1) 1 37 := ⟨by decide +kernel, rfl⟩
theorem dJ5_appendNull_278bc_37 : Dx cJ5_appendNull_278bc 37 (.iinc 1 1) 3 40 := ⟨by decide +kernel, rfl⟩
theorem dJ5_appendNull_278bc_40 : Dx cJ5_appendNull_278bc 40 (.bipush 117) 2 42 := ⟨by decide +kernel, rfl⟩
theorem dJ5_appendNull_278bc_42 : Dx cJ5_appendNull_278bc 42 (.bastore) 1 43 := ⟨by decide +kernel, rfl⟩
theorem dJ5_appendNull_278bc_43 : Dx cJ5_appendNull_278bc 43 (.aload_n 2) 1 44 := ⟨by decide +kernel, rfl⟩
theorem dJ5_appendNull_278bc_44 : Dx cJ5_appendNull_278bc 44 (.iload_n 1) 1 45 := ⟨by decide +kernel, rfl⟩
theorem dJ5_appendNull_278bc_45 : Dx cJ5_appendNull_278bc 45 (.iinc 1 1) 3 48 := ⟨by decide +kernel, rfl⟩
theorem dJ5_appendNull_278bc_48 : Dx cJ5_appendNull_278bc 48 (.bipush 108) 2 50 := ⟨by decide +kernel, rfl⟩
theorem dJ5_appendNull_278bc_50 : Dx cJ5_appendNull_278bc 50 (.bastore) 1 51 := ⟨by decide +kernel, rfl⟩
theorem dJ5_appendNull_278bc_51 : Dx cJ5_appendNull_278bc 51 (.aload_n 2) 1 52 := ⟨by decide +kernel, rfl⟩
theorem dJ5_appendNull_278bc_52 : Dx cJ5_appendNull_278bc 52 (.iload_n 1) 1 53 := ⟨by decide +kernel, rfl⟩
theorem dJ5_appendNull_278bc_53 : Dx cJ5_appendNull_278bc 53 (.iinc 1 1) 3 56 := ⟨by decide +kernel, rfl⟩
theorem dJ5_appendNull_278bc_56 : Dx cJ5_appendNull_278bc 56 (.bipush 108) 2 58 := ⟨by decide +kernel, rfl⟩
theorem dJ5_appendNull_278bc_58 : Dx cJ5_appendNull_278bc 58 (.bastore) 1 59 := ⟨by decide +kernel, rfl⟩
theorem dJ5_appendNull_278bc_59 : Dc cJ5_appendNull_278bc 59 (fun o => .goto o) 76 62 := ⟨17, by decide +kernel, by decide, rfl⟩
theorem dJ5_appendNull_278bc_62 : Dx cJ5_appendNull_278bc 62 (.aload_n 2) 1 63 := ⟨by decide +kernel, rfl⟩
theorem dJ5_appendNull_278bc_63 : Dx cJ5_appendNull_278bc 63 (.iload_n 1) 1 64 := ⟨by decide +kernel, rfl⟩
theorem dJ5_appendNull_278bc_64 : Dx cJ5_appendNull_278bc 64 (.bipush 110) 2 66 := ⟨by decide +kernel, rfl⟩
theorem dJ5_appendNull_278bc_66 : Dx cJ5_appendNull_278bc 66 (.bipush 117) 2 68 := ⟨by decide +kernel, rfl⟩
theorem dJ5_appendNull_278bc_68 : Dx cJ5_appendNull_278bc 68 (.bipush 108) 2 70 := ⟨by decide +kernel, rfl⟩
theorem dJ5_appendNull_278bc_70 : Dx cJ5_appendNull_278bc 70 (.bipush 108) 2 72 := ⟨by decide +kernel, rfl⟩
theorem dJ5_appendNull_278bc_72 : Dx cJ5_appendNull_278bc 72 (.invokestatic 226) 3 75 := ⟨by decide +kernel, rfl⟩
theorem dJ5_appendNull_278bc_75 : Dx cJ5_appendNull_278bc 75 (.istore_n 1) 1 76 := ⟨by decide +kernel, rfl⟩
theorem dJ5_appendNull_278bc_76 : Dx cJ5_appendNull_278bc 76 (.aload_n 0) 1 77 := ⟨by decide +kernel, rfl⟩
theorem dJ5_appendNull_278bc_77 : Dx cJ5_appendNull_278bc 77 (.iload_n 1) 1 78 := ⟨by decide +kernel, rfl⟩
theorem dJ5_appendNull_278bc_78 : Dx cJ5_appendNull_278bc 78 (.putfield 79) 3 81 := ⟨by decide +kernel, rfl⟩
theorem dJ5_appendNull_278bc_81 : Dx cJ5_appendNull_278bc 81 (.aload_n 0) 1 82 := ⟨by decide +kernel, rfl⟩
theorem dJ5_appendNull_278bc_82 : Dx cJ5_appendNull_278bc 82 (.areturn) 1 83 := ⟨by decide +kernel, rfl⟩
theorem dJ5_append_c97b9_0 : Dx cJ5_append_c97b9 0 (.aload_n 0) 1 1 := ⟨by decide +kernel, rfl⟩
theorem dJ5_append_c97b9_1 : Dx cJ5_append_c97b9 1 (.getfield 79) 3 4 := ⟨by decide +kernel, rfl⟩
theorem dJ5_append_c97b9_4 : Dx cJ5_append_c97b9 4 (.istore_n 2) 1 5 := ⟨by decide +kernel, rfl⟩
theorem dJ5_append_c97b9_5 : Dx cJ5_append_c97b9 5 (.iload_n 2) 1 6 := ⟨by decide +kernel, rfl⟩
theorem dJ5_append_c97b9_6 : Dx cJ5_append_c97b9 6 (.iload_n 1) 1 7 := ⟨by decide +kernel, rfl⟩
theorem dJ5_append_c97b9_7 : Dx cJ5_append_c97b9 7 (.invokestatic 245) 3 10 := ⟨by decide +kernel, rfl⟩
theorem dJ5_append_c97b9_10 : Dx cJ5_append_c97b9 10 (.iadd) 1 11 := ⟨by decide +kernel, rfl⟩
theorem dJ5_append_c97b9_11 : Dx cJ5_append_c97b9 11 (.istore_n 3) 1 12 := ⟨by decide +kernel, rfl⟩
theorem dJ5_append_c97b9_12 : Dx cJ5_append_c97b9 12 (.aload_n 0) 1 13 := ⟨by decide +kernel, rfl⟩
theorem dJ5_append_c97b9_13 : Dx cJ5_append_c97b9 13 (.iload_n 3) 1 14 := ⟨by decide +kernel, rfl⟩
theorem dJ5_append_c97b9_14 : Dx cJ5_append_c97b9 14 (.invokevirtual 100) 3 17 := ⟨by decide +kernel, rfl⟩
theorem dJ5_append_c97b9_17 : Dx cJ5_append_c97b9 17 (.aload_n 0) 1 18 := ⟨by decide +kernel, rfl⟩
theorem dJ5_append_c97b9_18 : Dx cJ5_append_c97b9 18 (.invokevirtual 83) 3 21 := ⟨by decide +kernel, rfl⟩
theorem dJ5_append_c97b9_21 : Dc cJ5_append_c97b9 21 (fun o => .ifCond .eq o) 37 24 := ⟨16, by decide +kernel, by decide, rfl⟩
theorem dJ5_append_c97b9_24 : Dx cJ5_append_c97b9 24 (.iload_n 1) 1 25 := ⟨by decide +kernel, rfl⟩
theorem dJ5_append_c97b9_25 : Dx cJ5_append_c97b9 25 (.iload_n 3) 1 26 := ⟨by decide +kernel, rfl⟩
theorem dJ5_append_c97b9_26 : Dx cJ5_append_c97b9 26 (.aload_n 0) 1 27 := ⟨by decide +kernel, rfl⟩
theorem dJ5_append_c97b9_27 : Dx cJ5_append_c97b9 27 (.getfield 15) 3 30 := ⟨by decide +kernel, rfl⟩
theorem dJ5_append_c97b9_30 : Dx cJ5_append_c97b9 30 (.invokestatic 248) 3 33 := ⟨by decide +kernel, rfl⟩
theorem dJ5_append_c97b9_33 : Dx cJ5_append_c97b9 33 (.pop) 1 34 := ⟨by decide +kernel, rfl⟩
theorem dJ5_append_c97b9_34 : Dc cJ5_append_c97b9 34 (fun o => .goto o) 48 37 := ⟨14, by decide +kernel, by decide, rfl⟩
theorem dJ5_append_c97b9_37 : Dx cJ5_append_c97b9 37 (.iload_n 1) 1 38 := ⟨by decide +kernel, rfl⟩
theorem dJ5_append_c97b9_38 : Dx cJ5_append_c97b9 38 (.iload_n 2) 1 39 := ⟨by decide +kernel, rfl⟩
theorem dJ5_append_c97b9_39 : Dx cJ5_append_c97b9 39 (.iload_n 3) 1 40 := ⟨by decide +kernel, rfl⟩
theorem dJ5_append_c97b9_40 : Dx cJ5_append_c97b9 40 (.aload_n 0) 1 41 := ⟨by decide +kernel, rfl⟩
theorem dJ5_append_c97b9_41 : Dx cJ5_append_c97b9 41 (.getfield 15) 3 44 := ⟨by decide +kernel, rfl⟩
theorem dJ5_append_c97b9_44 : Dx cJ5_append_c97b9 44 (.invokestatic 251) 3 47 := ⟨by decide +kernel, rfl⟩
theorem dJ5_append_c97b9_47 : Dx cJ5_append_c97b9 47 (.pop) 1 48 := ⟨by decide +kernel, rfl⟩
theorem dJ5_append_c97b9_48 : Dx cJ5_append_c97b9 48 (.aload_n 0) 1 49 := ⟨by decide +kernel, rfl⟩
theorem dJ5_append_c97b9_49 : Dx cJ5_append_c97b9 49 (.iload_n 3) 1 50 := ⟨by decide +kernel, rfl⟩
theorem dJ5_append_c97b9_50 : Dx cJ5_append_c97b9 50 (.putfield 79) 3 53 := ⟨by decide +kernel, rfl⟩
theorem dJ5_append_c97b9_53 : Dx cJ5_append_c97b9 53 (.aload_n 0) 1 54 := ⟨by decide +kernel, rfl⟩
theorem dJ5_append_c97b9_54 : Dx cJ5_append_c97b9 54 (.areturn) 1 55 := ⟨by decide +kernel, rfl⟩
theorem dJ5_getValue_6d5f1_0 : Dx cJ5_getValue_6d5f1 0 (.aload_n 0) 1 1 := ⟨by decide +kernel, rfl⟩
theorem dJ5_getValue_6d5f1_1 : Dx cJ5_getValue_6d5f1 1 (.getfield 15) 3 4 := ⟨by decide +kernel, rfl⟩
theorem dJ5_getValue_6d5f1_4 : Dx cJ5_getValue_6d5f1 4 (.areturn) 1 5 := ⟨by decide +kernel, rfl⟩
theorem dJ5_isLatin1_aae02_0 : Dx cJ5_isLatin1_aae02 0 (.getstatic 18) 3 3 := ⟨by decide +kernel, rfl⟩
theorem dJ5_isLatin1_aae02_3 : Dc cJ5_isLatin1_aae02 3 (fun o => .ifCond .eq o) 17 6 := ⟨14, by decide +kernel, by decide, rfl⟩
theorem dJ5_isLatin1_aae02_6 : Dx cJ5_isLatin1_aae02 6 (.aload_n 0) 1 7 := ⟨by decide +kernel, rfl⟩
theorem dJ5_isLatin1_aae02_7 : Dx cJ5_isLatin1_aae02 7 (.getfield 22) 3 10 := ⟨by decide +kernel, rfl⟩
theorem dJ5_isLatin1_aae02_10 : Dc cJ5_isLatin1_aae02 10 (fun o => .ifCond .ne o) 17 13 := ⟨7, by decide +kernel, by decide, rfl⟩
theorem dJ5_isLatin1_aae02_13 : Dx cJ5_isLatin1_aae02 13 (.iconst 1) 1 14 := ⟨by decide +kernel, rfl⟩
theorem dJ5_isLatin1_aae02_14 : Dc cJ5_isLatin1_aae02 14 (fun o => .goto o) 18 17 := ⟨4, by decide +kernel, by decide, rfl⟩
theorem dJ5_isLatin1_aae02_17 : Dx cJ5_isLatin1_aae02 17 (.iconst 0) 1 18 := ⟨by decide +kernel, rfl⟩
theorem dJ5_isLatin1_aae02_18 : Dx cJ5_isLatin1_aae02 18 (.ireturn) 1 19 := ⟨by decide +kernel, rfl⟩
theorem dJ5_inflateIfNeededFor_a7421_0 : Dx cJ5_inflateIfNeededFor_a7421 0 (.getstatic 18) 3 3 := ⟨by decide +kernel, rfl⟩
theorem dJ5_inflateIfNeededFor_a7421_3 : Dc cJ5_inflateIfNeededFor_a7421 3 (fun o => .ifCond .eq o) 21 6 := ⟨18, by decide +kernel, by decide, rfl⟩
theorem dJ5_inflateIfNeededFor_a7421_6 : Dx cJ5_inflateIfNeededFor_a7421 6 (.aload_n 0) 1 7 := ⟨by decide +kernel, rfl⟩
theorem dJ5_inflateIfNeededFor_a7421_7 : Dx cJ5_inflateIfNeededFor_a7421 7 (.getfield 22) 3 10 := ⟨by decide +kernel, rfl⟩
theorem dJ5_inflateIfNeededFor_a7421_10 : Dx cJ5_inflateIfNeededFor_a7421 10 (.aload_n 1) 1 11 := ⟨by decide +kernel, rfl⟩
theorem dJ5_inflateIfNeededFor_a7421_11 : Dx cJ5_inflateIfNeededFor_a7421 11 (.invokevirtual 40) 3 14 := ⟨by decide +kernel, rfl⟩
theorem dJ5_inflateIfNeededFor_a7421_14 : Dc cJ5_inflateIfNeededFor_a7421 14 (fun o => .if_icmp .eq o) 21 17 := ⟨7, by decide +kernel, by decide, rfl⟩
theorem dJ5_inflateIfNeededFor_a7421_17 : Dx cJ5_inflateIfNeededFor_a7421 17 (.aload_n 0) 1 18 := ⟨by decide +kernel, rfl⟩
theorem dJ5_inflateIfNeededFor_a7421_18 : Dx cJ5_inflateIfNeededFor_a7421 18 (.invokevirtual 195) 3 21 := ⟨by decide +kernel, rfl⟩
theorem dJ5_inflateIfNeededFor_a7421_21 : Dx cJ5_inflateIfNeededFor_a7421 21 (.return_) 1 22 := ⟨by decide +kernel, rfl⟩
theorem dJ5_putStringAt_47b60_0 : Dx cJ5_putStringAt_47b60 0 (.aload_n 0) 1 1 := ⟨by decide +kernel, rfl⟩
theorem dJ5_putStringAt_47b60_1 : Dx cJ5_putStringAt_47b60 1 (.aload_n 2) 1 2 := ⟨by decide +kernel, rfl⟩
theorem dJ5_putStringAt_47b60_2 : Dx cJ5_putStringAt_47b60 2 (.invokevirtual 397) 3 5 := ⟨by decide +kernel, rfl⟩
theorem dJ5_putStringAt_47b60_5 : Dx cJ5_putStringAt_47b60 5 (.aload_n 2) 1 6 := ⟨by decide +kernel, rfl⟩
theorem dJ5_putStringAt_47b60_6 : Dx cJ5_putStringAt_47b60 6 (.aload_n 0) 1 7 := ⟨by decide +kernel, rfl⟩
theorem dJ5_putStringAt_47b60_7 : Dx cJ5_putStringAt_47b60 7 (.getfield 15) 3 10 := ⟨by decide +kernel, rfl⟩
theorem dJ5_putStringAt_47b60_10 : Dx cJ5_putStringAt_47b60 10 (.iload_n 1) 1 11 := ⟨by decide +kernel, rfl⟩
theorem dJ5_putStringAt_47b60_11 : Dx cJ5_putStringAt_47b60 11 (.aload_n 0) 1 12 := ⟨by decide +kernel, rfl⟩
theorem dJ5_putStringAt_47b60_12 : Dx cJ5_putStringAt_47b60 12 (.getfield 22) 3 15 := ⟨by decide +kernel, rfl⟩
theorem dJ5_putStringAt_47b60_15 : Dx cJ5_putStringAt_47b60 15 (.invokevirtual 399) 3 18 := ⟨by decide +kernel, rfl⟩
theorem dJ5_putStringAt_47b60_18 : Dx cJ5_putStringAt_47b60 18 (.return_) 1 19 := ⟨by decide +kernel, rfl⟩
theorem dJx29ce0_ordinal_8abf5_0 : Dx cJx29ce0_ordinal_8abf5 0 (.aload_n 0) 1 1 := ⟨by decide +kernel, rfl⟩
theorem dJx29ce0_ordinal_8abf5_1 : Dx cJx29ce0_ordinal_8abf5 1 (.getfield 7) 3 4 := ⟨by decide +kernel, rfl⟩
theorem dJx29ce0_ordinal_8abf5_4 : Dx cJx29ce0_ordinal_8abf5 4 (.ireturn) 1 5 := ⟨by decide +kernel, rfl⟩
theorem dJ6_getChars_ba4f3_0 : Dx cJ6_getChars_ba4f3 0 (.iload_n 1) 1 1 := ⟨by decide +kernel, rfl⟩
theorem dJ6_getChars_ba4f3_1 : Dx cJ6_getChars_ba4f3 1 (.istore 5) 2 3 := ⟨by decide +kernel, rfl⟩
theorem dJ6_getChars_ba4f3_3 : Dx cJ6_getChars_ba4f3 3 (.iload_n 0) 1 4 := ⟨by decide +kernel, rfl⟩
theorem dJ6_getChars_ba4f3_4 : Dc cJ6_getChars_ba4f3 4 (fun o => .ifCond .ge o) 11 7 := ⟨7, by decide +kernel, by decide, rfl⟩
theorem dJ6_getChars_ba4f3_7 : Dx cJ6_getChars_ba4f3 7 (.iconst 1) 1 8 := ⟨by decide +kernel, rfl⟩
theorem dJ6_getChars_ba4f3_8 : Dc cJ6_getChars_ba4f3 8 (fun o => .goto o) 12 11 := ⟨4, by decide +kernel, by decide, rfl⟩
theorem dJ6_getChars_ba4f3_11 : Dx cJ6_getChars_ba4f3 11 (.iconst 0) 1 12 := ⟨by decide +kernel, rfl⟩
theorem dJ6_getChars_ba4f3_12 : Dx cJ6_getChars_ba4f3 12 (.istore 6) 2 14 := ⟨by decide +kernel, rfl⟩
theorem dJ6_getChars_ba4f3_14 : Dx cJ6_getChars_ba4f3 14 (.iload 6) 2 16 := ⟨by decide +kernel, rfl⟩
theorem dJ6_getChars_ba4f3_16 : Dc cJ6_getChars_ba4f3 16 (fun o => .ifCond .ne o) 22 19 := ⟨6, by decide +kernel, by decide, rfl⟩
theorem dJ6_getChars_ba4f3_19 : Dx cJ6_getChars_ba4f3 19 (.iload_n 0) 1 20 := ⟨by decide +kernel, rfl⟩
theorem dJ6_getChars_ba4f3_20 : Dx cJ6_getChars_ba4f3 20 (.ineg) 1 21 := ⟨by decide +kernel, rfl⟩
theorem dJ6_getChars_ba4f3_21 : Dx cJ6_getChars_ba4f3 21 (.istore_n 0) 1 22 := ⟨by decide +kernel, rfl⟩
theorem dJ6_getChars_ba4f3_22 : Dx cJ6_getChars_ba4f3 22 (.iload_n 0) 1 23 := ⟨by decide +kernel, rfl⟩
theorem dJ6_getChars_ba4f3_23 : Dx cJ6_getChars_ba4f3 23 (.bipush (-100)) 2 25 := ⟨by decide +kernel, rfl⟩
theorem dJ6_getChars_ba4f3_25 : Dc cJ6_getChars_ba4f3 25 (fun o => .if_icmp .gt o) 72 28 := ⟨47, by decide +kernel, by decide, rfl⟩
theorem dJ6_getChars_ba4f3_28 : Dx cJ6_getChars_ba4f3 28 (.iload_n 0) 1 29 := ⟨by decide +kernel, rfl⟩
theorem dJ6_getChars_ba4f3_29 : Dx cJ6_getChars_ba4f3 29 (.bipush 100) 2 31 := ⟨by decide +kernel, rfl⟩
theorem dJ6_getChars_ba4f3_31 : Dx cJ6_getChars_ba4f3 31 (.idiv) 1 32 := ⟨by decide +kernel, rfl⟩
theorem dJ6_getChars_ba4f3_32 : Dx cJ6_getChars_ba4f3 32 (.istore_n 3) 1 33 := ⟨by decide +kernel, rfl⟩
theorem dJ6_getChars_ba4f3_33 : Dx cJ6_getChars_ba4f3 33 (.iload_n 3) 1 34 := ⟨by decide +kernel, rfl⟩
theorem dJ6_getChars_ba4f3_34 : Dx cJ6_getChars_ba4f3 34 (.bipush 100) 2 36 := ⟨by decide +kernel, rfl⟩
theorem dJ6_getChars_ba4f3_36 : Dx cJ6_getChars_ba4f3 36 (.imul) 1 37 := ⟨by decide +kernel, rfl⟩
theorem dJ6_getChars_ba4f3_37 : Dx cJ6_getChars_ba4f3 37 (.iload_n 0) 1 38 := ⟨by decide +kernel, rfl⟩
theorem dJ6_getChars_ba4f3_38 : Dx cJ6_getChars_ba4f3 38 (.isub) 1 39 := ⟨by decide +kernel, rfl⟩
theorem dJ6_getChars_ba4f3_39 : Dx cJ6_getChars_ba4f3 39 (.istore 4) 2 41 := ⟨by decide +kernel, rfl⟩
theorem dJ6_getChars_ba4f3_41 : Dx cJ6_getChars_ba4f3 41 (.iload_n 3) 1 42 := ⟨by decide +kernel, rfl⟩
theorem dJ6_getChars_ba4f3_42 : Dx cJ6_getChars_ba4f3 42 (.istore_n 0) 1 43 := ⟨by decide +kernel, rfl⟩
theorem dJ6_getChars_ba4f3_43 : Dx cJ6_getChars_ba4f3 43 (.aload_n 2) 1 44 := ⟨by decide +kernel, rfl⟩
theorem dJ6_getChars_ba4f3_44 : Dx cJ6_getChars_ba4f3 44 (.iinc 5 (-1)) 3 47 := ⟨by decide +kernel, rfl⟩
theorem dJ6_getChars_ba4f3_47 : Dx cJ6_getChars_ba4f3 47 (.iload 5) 2 49 := ⟨by decide +kernel, rfl⟩
theorem dJ6_getChars_ba4f3_49 : Dx cJ6_getChars_ba4f3 49 (.getstatic 83) 3 52 := ⟨by decide +kernel, rfl⟩
theorem dJ6_getChars_ba4f3_52 : Dx cJ6_getChars_ba4f3 52 (.iload 4) 2 54 := ⟨by decide +kernel, rfl⟩
theorem dJ6_getChars_ba4f3_54 : Dx cJ6_getChars_ba4f3 54 (.baload) 1 55 := ⟨by decide +kernel, rfl⟩
theorem dJ6_getChars_ba4f3_55 : Dx cJ6_getChars_ba4f3 55 (.bastore) 1 56 := ⟨by decide +kernel, rfl⟩
theorem dJ6_getChars_ba4f3_56 : Dx cJ6_getChars_ba4f3 56 (.aload_n 2) 1 57 := ⟨by decide +kernel, rfl⟩
theorem dJ6_getChars_ba4f3_57 : Dx cJ6_getChars_ba4f3 57 (.iinc 5 (-1)) 3 60 := ⟨by decide +kernel, rfl⟩
theorem dJ6_getChars_ba4f3_60 : Dx cJ6_getChars_ba4f3 60 (.iload 5) 2 62 := ⟨by decide +kernel, rfl⟩
theorem dJ6_getChars_ba4f3_62 : Dx cJ6_getChars_ba4f3 62 (.getstatic 87) 3 65 := ⟨by decide +kernel, rfl⟩
theorem dJ6_getChars_ba4f3_65 : Dx cJ6_getChars_ba4f3 65 (.iload 4) 2 67 := ⟨by decide +kernel, rfl⟩
theorem dJ6_getChars_ba4f3_67 : Dx cJ6_getChars_ba4f3 67 (.baload) 1 68 := ⟨by decide +kernel, rfl⟩
theorem dJ6_getChars_ba4f3_68 : Dx cJ6_getChars_ba4f3 68 (.bastore) 1 69 := ⟨by decide +kernel, rfl⟩
theorem dJ6_getChars_ba4f3_69 : Dc cJ6_getChars_ba4f3 69 (fun o => .goto o) 22 72 := ⟨(-47), by decide +kernel, by decide, rfl⟩
theorem dJ6_getChars_ba4f3_72 : Dx cJ6_getChars_ba4f3 72 (.aload_n 2) 1 73 := ⟨by decide +kernel, rfl⟩
theorem dJ6_getChars_ba4f3_73 : Dx cJ6_getChars_ba4f3 73 (.iinc 5 (-1)) 3 76 := ⟨by decide +kernel, rfl⟩
theorem dJ6_getChars_ba4f3_76 : Dx cJ6_getChars_ba4f3 76 (.iload 5) 2 78 := ⟨by decide +kernel, rfl⟩
theorem dJ6_getChars_ba4f3_78 : Dx cJ6_getChars_ba4f3 78 (.getstatic 83) 3 81 := ⟨by decide +kernel, rfl⟩
theorem dJ6_getChars_ba4f3_81 : Dx cJ6_getChars_ba4f3 81 (.iload_n 0) 1 82 := ⟨by decide +kernel, rfl⟩
theorem dJ6_getChars_ba4f3_82 : Dx cJ6_getChars_ba4f3 82 (.ineg) 1 83 := ⟨by decide +kernel, rfl⟩
theorem dJ6_getChars_ba4f3_83 : Dx cJ6_getChars_ba4f3 83 (.baload) 1 84 := ⟨by decide +kernel, rfl⟩
theorem dJ6_getChars_ba4f3_84 : Dx cJ6_getChars_ba4f3 84 (.bastore) 1 85 := ⟨by decide +kernel, rfl⟩
theorem dJ6_getChars_ba4f3_85 : Dx cJ6_getChars_ba4f3 85 (.iload_n 0) 1 86 := ⟨by decide +kernel, rfl⟩
theorem dJ6_getChars_ba4f3_86 : Dx cJ6_getChars_ba4f3 86 (.bipush (-9)) 2 88 := ⟨by decide +kernel, rfl⟩
theorem dJ6_getChars_ba4f3_88 : Dc cJ6_getChars_ba4f3 88 (fun o => .if_icmp .ge o) 104 91 := ⟨16, by decide +kernel, by decide, rfl⟩
theorem dJ6_getChars_ba4f3_91 : Dx cJ6_getChars_ba4f3 91 (.aload_n 2) 1 92 := ⟨by decide +kernel, rfl⟩
theorem dJ6_getChars_ba4f3_92 : Dx cJ6_getChars_ba4f3 92 (.iinc 5 (-1)) 3 95 := ⟨by decide +kernel, rfl⟩
theorem dJ6_getChars_ba4f3_95 : Dx cJ6_getChars_ba4f3 95 (.iload 5) 2 97 := ⟨by decide +kernel, rfl⟩
theorem dJ6_getChars_ba4f3_97 : Dx cJ6_getChars_ba4f3 97 (.getstatic 87) 3 100 := ⟨by decide +kernel, rfl⟩
theorem dJ6_getChars_ba4f3_100 : Dx cJ6_getChars_ba4f3 100 (.iload_n 0) 1 101 := ⟨by decide +kernel, rfl⟩
theorem dJ6_getChars_ba4f3_101 : Dx cJ6_getChars_ba4f3 101 (.ineg) 1 102 := ⟨by decide +kernel, rfl⟩
theorem dJ6_getChars_ba4f3_102 : Dx cJ6_getChars_ba4f3 102 (.baload) 1 103 := ⟨by decide +kernel, rfl⟩
theorem dJ6_getChars_ba4f3_103 : Dx cJ6_getChars_ba4f3 103 (.bastore) 1 104 := ⟨by decide +kernel, rfl⟩
theorem dJ6_getChars_ba4f3_104 : Dx cJ6_getChars_ba4f3 104 (.iload 6) 2 106 := ⟨by decide +kernel, rfl⟩
theorem dJ6_getChars_ba4f3_106 : Dc cJ6_getChars_ba4f3 106 (fun o => .ifCond .eq o) 118 109 := ⟨12, by decide +kernel, by decide, rfl⟩
theorem dJ6_getChars_ba4f3_109 : Dx cJ6_getChars_ba4f3 109 (.aload_n 2) 1 110 := ⟨by decide +kernel, rfl⟩
theorem dJ6_getChars_ba4f3_110 : Dx cJ6_getChars_ba4f3 110 (.iinc 5 (-1)) 3 113 := ⟨by decide +kernel, rfl⟩
theorem dJ6_getChars_ba4f3_113 : Dx cJ6_getChars_ba4f3 113 (.iload 5) 2 115 := ⟨by decide +kernel, rfl⟩
theorem dJ6_getChars_ba4f3_115 : Dx cJ6_getChars_ba4f3 115 (.bipush 45) 2 117 := ⟨by decide +kernel, rfl⟩
theorem dJ6_getChars_ba4f3_117 : Dx cJ6_getChars_ba4f3 117 (.bastore) 1 118 := ⟨by decide +kernel, rfl⟩
theorem dJ6_getChars_ba4f3_118 : Dx cJ6_getChars_ba4f3 118 (.iload 5) 2 120 := ⟨by decide +kernel, rfl⟩
theorem dJ6_getChars_ba4f3_120 : Dx cJ6_getChars_ba4f3 120 (.ireturn) 1 121 := ⟨by decide +kernel, rfl⟩
theorem dJ6_stringSize_0f7a4_0 : Dx cJ6_stringSize_0f7a4 0 (.iconst 1) 1 1 := ⟨by decide +kernel, rfl⟩
theorem dJ6_stringSize_0f7a4_1 : Dx cJ6_stringSize_0f7a4 1 (.istore_n 1) 1 2 := ⟨by decide +kernel, rfl⟩
theorem dJ6_stringSize_0f7a4_2 : Dx cJ6_stringSize_0f7a4 2 (.iload_n 0) 1 3 := ⟨by decide +kernel, rfl⟩
theorem dJ6_stringSize_0f7a4_3 : Dc cJ6_stringSize_0f7a4 3 (fun o => .ifCond .lt o) 11 6 := ⟨8, by decide +kernel, by decide, rfl⟩
theorem dJ6_stringSize_0f7a4_6 : Dx cJ6_stringSize_0f7a4 6 (.iconst 0) 1 7 := ⟨by decide +kernel, rfl⟩
theorem dJ6_stringSize_0f7a4_7 : Dx cJ6_stringSize_0f7a4 7 (.istore_n 1) 1 8 := ⟨by decide +kernel, rfl⟩
theorem dJ6_stringSize_0f7a4_8 : Dx cJ6_stringSize_0f7a4 8 (.iload_n 0) 1 9 := ⟨by decide +kernel, rfl⟩
theorem dJ6_stringSize_0f7a4_9 : Dx cJ6_stringSize_0f7a4 9 (.ineg) 1 10 := ⟨by decide +kernel, rfl⟩
theorem dJ6_stringSize_0f7a4_10 : Dx cJ6_stringSize_0f7a4 10 (.istore_n 0) 1 11 := ⟨by decide +kernel, rfl⟩
theorem dJ6_stringSize_0f7a4_11 : Dx cJ6_stringSize_0f7a4 11 (.bipush (-10)) 2 13 := ⟨by decide +kernel, rfl⟩
theorem dJ6_stringSize_0f7a4_13 : Dx cJ6_stringSize_0f7a4 13 (.istore_n 2) 1 14 := ⟨by decide +kernel, rfl⟩
theorem dJ6_stringSize_0f7a4_14 : Dx cJ6_stringSize_0f7a4 14 (.iconst 1) 1 15 := ⟨by decide +kernel, rfl⟩
theorem dJ6_stringSize_0f7a4_15 : Dx cJ6_stringSize_0f7a4 15 (.istore_n 3) 1 16 := ⟨by decide +kernel, rfl⟩
theorem dJ6_stringSize_0f7a4_16 : Dx cJ6_stringSize_0f7a4 16 (.iload_n 3) 1 17 := ⟨by decide +kernel, rfl⟩
theorem dJ6_stringSize_0f7a4_17 : Dx cJ6_stringSize_0f7a4 17 (.bipush 10) 2 19 := ⟨by decide +kernel, rfl⟩
theorem dJ6_stringSize_0f7a4_19 : Dc cJ6_stringSize_0f7a4 19 (fun o => .if_icmp .ge o) 42 22 := ⟨23, by decide +kernel, by decide, rfl⟩
theorem dJ6_stringSize_0f7a4_22 : Dx cJ6_stringSize_0f7a4 22 (.iload_n 0) 1 23 := ⟨by decide +kernel, rfl⟩
theorem dJ6_stringSize_0f7a4_23 : Dx cJ6_stringSize_0f7a4 23 (.iload_n 2) 1 24 := ⟨by decide +kernel, rfl⟩
theorem dJ6_stringSize_0f7a4_24 : Dc cJ6_stringSize_0f7a4 24 (fun o => .if_icmp .le o) 31 27 := ⟨7, by decide +kernel, by decide, rfl⟩
theorem dJ6_stringSize_0f7a4_27 : Dx cJ6_stringSize_0f7a4 27 (.iload_n 3) 1 28 := ⟨by decide +kernel, rfl⟩
theorem dJ6_stringSize_0f7a4_28 : Dx cJ6_stringSize_0f7a4 28 (.iload_n 1) 1 29 := ⟨by decide +kernel, rfl⟩
theorem dJ6_stringSize_0f7a4_29 : Dx cJ6_stringSize_0f7a4 29 (.iadd) 1 30 := ⟨by decide +kernel, rfl⟩
theorem dJ6_stringSize_0f7a4_30 : Dx cJ6_stringSize_0f7a4 30 (.ireturn) 1 31 := ⟨by decide +kernel, rfl⟩
theorem dJ6_stringSize_0f7a4_31 : Dx cJ6_stringSize_0f7a4 31 (.bipush 10) 2 33 := ⟨by decide +kernel, rfl⟩
theorem dJ6_stringSize_0f7a4_33 : Dx cJ6_stringSize_0f7a4 33 (.iload_n 2) 1 34 := ⟨by decide +kernel, rfl⟩
theorem dJ6_stringSize_0f7a4_34 : Dx cJ6_stringSize_0f7a4 34 (.imul) 1 35 := ⟨by decide +kernel, rfl⟩
theorem dJ6_stringSize_0f7a4_35 : Dx cJ6_stringSize_0f7a4 35 (.istore_n 2) 1 36 := ⟨by decide +kernel, rfl⟩
theorem dJ6_stringSize_0f7a4_36 : Dx cJ6_stringSize_0f7a4 36 (.iinc 3 1) 3 39 := ⟨by decide +kernel, rfl⟩
theorem dJ6_stringSize_0f7a4_39 : Dc cJ6_stringSize_0f7a4 39 (fun o => .goto o) 16 42 := ⟨(-23), by decide +kernel, by decide, rfl⟩
theorem dJ6_stringSize_0f7a4_42 : Dx cJ6_stringSize_0f7a4 42 (.bipush 10) 2 44 := ⟨by decide +kernel, rfl⟩
theorem dJ6_stringSize_0f7a4_44 : Dx cJ6_stringSize_0f7a4 44 (.iload_n 1) 1 45 := ⟨by decide +kernel, rfl⟩
theorem dJ6_stringSize_0f7a4_45 : Dx cJ6_stringSize_0f7a4 45 (.iadd) 1 46 := ⟨by decide +kernel, rfl⟩
theorem dJ6_stringSize_0f7a4_46 : Dx cJ6_stringSize_0f7a4 46 (.ireturn) 1 47 := ⟨by decide +kernel, rfl⟩
theorem dJ6_bitCount_0f7a4_0 : Dx cJ6_bitCount_0f7a4 0 (.iload_n 0) 1 1 := ⟨by decide +kernel, rfl⟩
theorem dJ6_bitCount_0f7a4_1 : Dx cJ6_bitCount_0f7a4 1 (.iload_n 0) 1 2 := ⟨by decide +kernel, rfl⟩
theorem dJ6_bitCount_0f7a4_2 : Dx cJ6_bitCount_0f7a4 2 (.iconst 1) 1 3 := ⟨by decide +kernel, rfl⟩
theorem dJ6_bitCount_0f7a4_3 : Dx cJ6_bitCount_0f7a4 3 (.iushr) 1 4 := ⟨by decide +kernel, rfl⟩
theorem dJ6_bitCount_0f7a4_4 : Dx cJ6_bitCount_0f7a4 4 (.ldc_w 265) 3 7 := ⟨by decide +kernel, rfl⟩
theorem dJ6_bitCount_0f7a4_7 : Dx cJ6_bitCount_0f7a4 7 (.iand) 1 8 := ⟨by decide +kernel, rfl⟩
theorem dJ6_bitCount_0f7a4_8 : Dx cJ6_bitCount_0f7a4 8 (.isub) 1 9 := ⟨by decide +kernel, rfl⟩
theorem dJ6_bitCount_0f7a4_9 : Dx cJ6_bitCount_0f7a4 9 (.istore_n 0) 1 10 := ⟨by decide +kernel, rfl⟩
theorem dJ6_bitCount_0f7a4_10 : Dx cJ6_bitCount_0f7a4 10 (.iload_n 0) 1 11 := ⟨by decide +kernel, rfl⟩
theorem dJ6_bitCount_0f7a4_11 : Dx cJ6_bitCount_0f7a4 11 (.ldc_w 266) 3 14 := ⟨by decide +kernel, rfl⟩
theorem dJ6_bitCount_0f7a4_14 : Dx cJ6_bitCount_0f7a4 14 (.iand) 1 15 := ⟨by decide +kernel, rfl⟩
theorem dJ6_bitCount_0f7a4_15 : Dx cJ6_bitCount_0f7a4 15 (.iload_n 0) 1 16 := ⟨by decide +kernel, rfl⟩
theorem dJ6_bitCount_0f7a4_16 : Dx cJ6_bitCount_0f7a4 16 (.iconst 2) 1 17 := ⟨by decide +kernel, rfl⟩
theorem dJ6_bitCount_0f7a4_17 : Dx cJ6_bitCount_0f7a4 17 (.iushr) 1 18 := ⟨by decide +kernel, rfl⟩
theorem dJ6_bitCount_0f7a4_18 : Dx cJ6_bitCount_0f7a4 18 (.ldc_w 266) 3 21 := ⟨by decide +kernel, rfl⟩
theorem dJ6_bitCount_0f7a4_21 : Dx cJ6_bitCount_0f7a4 21 (.iand) 1 22 := ⟨by decide +kernel, rfl⟩
theorem dJ6_bitCount_0f7a4_22 : Dx cJ6_bitCount_0f7a4 22 (.iadd) 1 23 := ⟨by decide +kernel, rfl⟩
theorem dJ6_bitCount_0f7a4_23 : Dx cJ6_bitCount_0f7a4 23 (.istore_n 0) 1 24 := ⟨by decide +kernel, rfl⟩
theorem dJ6_bitCount_0f7a4_24 : Dx cJ6_bitCount_0f7a4 24 (.iload_n 0) 1 25 := ⟨by decide +kernel, rfl⟩
theorem dJ6_bitCount_0f7a4_25 : Dx cJ6_bitCount_0f7a4 25 (.iload_n 0) 1 26 := ⟨by decide +kernel, rfl⟩
theorem dJ6_bitCount_0f7a4_26 : Dx cJ6_bitCount_0f7a4 26 (.iconst 4) 1 27 := ⟨by decide +kernel, rfl⟩
theorem dJ6_bitCount_0f7a4_27 : Dx cJ6_bitCount_0f7a4 27 (.iushr) 1 28 := ⟨by decide +kernel, rfl⟩
theorem dJ6_bitCount_0f7a4_28 : Dx cJ6_bitCount_0f7a4 28 (.iadd) 1 29 := ⟨by decide +kernel, rfl⟩
theorem dJ6_bitCount_0f7a4_29 : Dx cJ6_bitCount_0f7a4 29 (.ldc_w 267) 3 32 := ⟨by decide +kernel, rfl⟩
theorem dJ6_bitCount_0f7a4_32 : Dx cJ6_bitCount_0f7a4 32 (.iand) 1 33 := ⟨by decide +kernel, rfl⟩
theorem dJ6_bitCount_0f7a4_33 : Dx cJ6_bitCount_0f7a4 33 (.istore_n 0) 1 34 := ⟨by decide +kernel, rfl⟩
theorem dJ6_bitCount_0f7a4_34 : Dx cJ6_bitCount_0f7a4 34 (.iload_n 0) 1 35 := ⟨by decide +kernel, rfl⟩
theorem dJ6_bitCount_0f7a4_35 : Dx cJ6_bitCount_0f7a4 35 (.iload_n 0) 1 36 := ⟨by decide +kernel, rfl⟩
theorem dJ6_bitCount_0f7a4_36 : Dx cJ6_bitCount_0f7a4 36 (.bipush 8) 2 38 := ⟨by decide +kernel, rfl⟩
theorem dJ6_bitCount_0f7a4_38 : Dx cJ6_bitCount_0f7a4 38 (.iushr) 1 39 := ⟨by decide +kernel, rfl⟩
theorem dJ6_bitCount_0f7a4_39 : Dx cJ6_bitCount_0f7a4 39 (.iadd) 1 40 := ⟨by decide +kernel, rfl⟩
theorem dJ6_bitCount_0f7a4_40 : Dx cJ6_bitCount_0f7a4 40 (.istore_n 0) 1 41 := ⟨by decide +kernel, rfl⟩
theorem dJ6_bitCount_0f7a4_41 : Dx cJ6_bitCount_0f7a4 41 (.iload_n 0) 1 42 := ⟨by decide +kernel, rfl⟩
theorem dJ6_bitCount_0f7a4_42 : Dx cJ6_bitCount_0f7a4 42 (.iload_n 0) 1 43 := ⟨by decide +kernel, rfl⟩
theorem dJ6_bitCount_0f7a4_43 : Dx cJ6_bitCount_0f7a4 43 (.bipush 16) 2 45 := ⟨by decide +kernel, rfl⟩
theorem dJ6_bitCount_0f7a4_45 : Dx cJ6_bitCount_0f7a4 45 (.iushr) 1 46 := ⟨by decide +kernel, rfl⟩
theorem dJ6_bitCount_0f7a4_46 : Dx cJ6_bitCount_0f7a4 46 (.iadd) 1 47 := ⟨by decide +kernel, rfl⟩
theorem dJ6_bitCount_0f7a4_47 : Dx cJ6_bitCount_0f7a4 47 (.istore_n 0) 1 48 := ⟨by decide +kernel, rfl⟩
theorem dJ6_bitCount_0f7a4_48 : Dx cJ6_bitCount_0f7a4 48 (.iload_n 0) 1 49 := ⟨by decide +kernel, rfl⟩
theorem dJ6_bitCount_0f7a4_49 : Dx cJ6_bitCount_0f7a4 49 (.bipush 63) 2 51 := ⟨by decide +kernel, rfl⟩
theorem dJ6_bitCount_0f7a4_51 : Dx cJ6_bitCount_0f7a4 51 (.iand) 1 52 := ⟨by decide +kernel, rfl⟩
theorem dJ6_bitCount_0f7a4_52 : Dx cJ6_bitCount_0f7a4 52 (.ireturn) 1 53 := ⟨by decide +kernel, rfl⟩
theorem dJ9_max_7cf53_0 : Dx cJ9_max_7cf53 0 (.iload_n 0) 1 1 := ⟨by decide +kernel, rfl⟩
theorem dJ9_max_7cf53_1 : Dx cJ9_max_7cf53 1 (.iload_n 1) 1 2 := ⟨by decide +kernel, rfl⟩
theorem dJ9_max_7cf53_2 : Dc cJ9_max_7cf53 2 (fun o => .if_icmp .lt o) 9 5 := ⟨7, by decide +kernel, by decide, rfl⟩
theorem dJ9_max_7cf53_5 : Dx cJ9_max_7cf53 5 (.iload_n 0) 1 6 := ⟨by decide +kernel, rfl⟩
theorem dJ9_max_7cf53_6 : Dc cJ9_max_7cf53 6 (fun o => .goto o) 10 9 := ⟨4, by decide +kernel, by decide, rfl⟩
theorem dJ9_max_7cf53_9 : Dx cJ9_max_7cf53 9 (.iload_n 1) 1 10 := ⟨by decide +kernel, rfl⟩
theorem dJ9_max_7cf53_10 : Dx cJ9_max_7cf53 10 (.ireturn) 1 11 := ⟨by decide +kernel, rfl⟩
theorem dJ9_min_7cf53_0 : Dx cJ9_min_7cf53 0 (.iload_n 0) 1 1 := ⟨by decide +kernel, rfl⟩
theorem dJ9_min_7cf53_1 : Dx cJ9_min_7cf53 1 (.iload_n 1) 1 2 := ⟨by decide +kernel, rfl⟩
theorem dJ9_min_7cf53_2 : Dc cJ9_min_7cf53 2 (fun o => .if_icmp .gt o) 9 5 := ⟨7, by decide +kernel, by decide, rfl⟩
theorem dJ9_min_7cf53_5 : Dx cJ9_min_7cf53 5 (.iload_n 0) 1 6 := ⟨by decide +kernel, rfl⟩
theorem dJ9_min_7cf53_6 : Dc cJ9_min_7cf53 6 (fun o => .goto o) 10 9 := ⟨4, by decide +kernel, by decide, rfl⟩
theorem dJ9_min_7cf53_9 : Dx cJ9_min_7cf53 9 (.iload_n 1) 1 10 := ⟨by decide +kernel, rfl⟩
theorem dJ9_min_7cf53_10 : Dx cJ9_min_7cf53 10 (.ireturn) 1 11 := ⟨by decide +kernel, rfl⟩
theorem dJ0_init_81219_0 : Dx cJ0_init_81219 0 (.aload_n 0) 1 1 := ⟨by decide +kernel, rfl⟩
theorem dJ0_init_81219_1 : Dx cJ0_init_81219 1 (.aload_n 1) 1 2 := ⟨by decide +kernel, rfl⟩
theorem dJ0_init_81219_2 : Dx cJ0_init_81219 2 (.aconst_null) 1 3 := ⟨by decide +kernel, rfl⟩
theorem dJ0_init_81219_3 : Dx cJ0_init_81219 3 (.invokespecial 489) 3 6 := ⟨by decide +kernel, rfl⟩
theorem dJ0_init_81219_6 : Dx cJ0_init_81219 6 (.return_) 1 7 := ⟨by decide +kernel, rfl⟩
theorem dJ0_length_8abf5_0 : Dx cJ0_length_8abf5 0 (.aload_n 0) 1 1 := ⟨by decide +kernel, rfl⟩
theorem dJ0_length_8abf5_1 : Dx cJ0_length_8abf5 1 (.getfield 9) 3 4 := ⟨by decide +kernel, rfl⟩
theorem dJ0_length_8abf5_4 : Dx cJ0_length_8abf5 4 (.arraylength) 1 5 := ⟨by decide +kernel, rfl⟩
theorem dJ0_length_8abf5_5 : Dx cJ0_length_8abf5 5 (.aload_n 0) 1 6 := ⟨by decide +kernel, rfl⟩
theorem dJ0_length_8abf5_6 : Dx cJ0_length_8abf5 6 (.invokevirtual 335) 3 9 := ⟨by decide +kernel, rfl⟩
theorem dJ0_length_8abf5_9 : Dx cJ0_length_8abf5 9 (.ishr) 1 10 := ⟨by decide +kernel, rfl⟩
theorem dJ0_length_8abf5_10 : Dx cJ0_length_8abf5 10 (.ireturn) 1 11 := ⟨by decide +kernel, rfl⟩
theorem dJ0_charAt_5068e_0 : Dx cJ0_charAt_5068e 0 (.aload_n 0) 1 1 := ⟨by decide +kernel, rfl⟩
theorem dJ0_charAt_5068e_1 : Dx cJ0_charAt_5068e 1 (.invokevirtual 492) 3 4 := ⟨by decide +kernel, rfl⟩
theorem dJ0_charAt_5068e_4 : Dc cJ0_charAt_5068e 4 (fun o => .ifCond .eq o) 16 7 := ⟨12, by decide +kernel, by decide, rfl⟩
theorem dJ0_charAt_5068e_7 : Dx cJ0_charAt_5068e 7 (.aload_n 0) 1 8 := ⟨by decide +kernel, rfl⟩
theorem dJ0_charAt_5068e_8 : Dx cJ0_charAt_5068e 8 (.getfield 9) 3 11 := ⟨by decide +kernel, rfl⟩
theorem dJ0_charAt_5068e_11 : Dx cJ0_charAt_5068e 11 (.iload_n 1) 1 12 := ⟨by decide +kernel, rfl⟩
theorem dJ0_charAt_5068e_12 : Dx cJ0_charAt_5068e 12 (.invokestatic 495) 3 15 := ⟨by decide +kernel, rfl⟩
theorem dJ0_charAt_5068e_15 : Dx cJ0_charAt_5068e 15 (.ireturn) 1 16 := ⟨by decide +kernel, rfl⟩
theorem dJ0_charAt_5068e_16 : Dx cJ0_charAt_5068e 16 (.aload_n 0) 1 17 := ⟨by decide +kernel, rfl⟩
theorem dJ0_charAt_5068e_17 : Dx cJ0_charAt_5068e 17 (.getfield 9) 3 20 := ⟨by decide +kernel, rfl⟩
theorem dJ0_charAt_5068e_20 : Dx cJ0_charAt_5068e 20 (.iload_n 1) 1 21 := ⟨by decide +kernel, rfl⟩
theorem dJ0_charAt_5068e_21 : Dx cJ0_charAt_5068e 21 (.invokestatic 498) 3 24 := ⟨by decide +kernel, rfl⟩
theorem dJ0_charAt_5068e_24 : Dx cJ0_charAt_5068e 24 (.ireturn) 1 25 := ⟨by decide +kernel, rfl⟩
theorem dJ0_getBytes_840e7_0 : Dx cJ0_getBytes_840e7 0 (.aload_n 0) 1 1 := ⟨by decide +kernel, rfl⟩
theorem dJ0_getBytes_840e7_1 : Dx cJ0_getBytes_840e7 1 (.invokevirtual 335) 3 4 := ⟨by decide +kernel, rfl⟩
theorem dJ0_getBytes_840e7_4 : Dx cJ0_getBytes_840e7 4 (.iload_n 3) 1 5 := ⟨by decide +kernel, rfl⟩
theorem dJ0_getBytes_840e7_5 : Dc cJ0_getBytes_840e7 5 (fun o => .if_icmp .ne o) 28 8 := ⟨23, by decide +kernel, by decide, rfl⟩
theorem dJ0_getBytes_840e7_8 : Dx cJ0_getBytes_840e7 8 (.aload_n 0) 1 9 := ⟨by decide +kernel, rfl⟩
theorem dJ0_getBytes_840e7_9 : Dx cJ0_getBytes_840e7 9 (.getfield 9) 3 12 := ⟨by decide +kernel, rfl⟩
theorem dJ0_getBytes_840e7_12 : Dx cJ0_getBytes_840e7 12 (.iconst 0) 1 13 := ⟨by decide +kernel, rfl⟩
theorem dJ0_getBytes_840e7_13 : Dx cJ0_getBytes_840e7 13 (.aload_n 1) 1 14 := ⟨by decide +kernel, rfl⟩
theorem dJ0_getBytes_840e7_14 : Dx cJ0_getBytes_840e7 14 (.iload_n 2) 1 15 := ⟨by decide +kernel, rfl⟩
theorem dJ0_getBytes_840e7_15 : Dx cJ0_getBytes_840e7 15 (.iload_n 3) 1 16 := ⟨by decide +kernel, rfl⟩
theorem dJ0_getBytes_840e7_16 : Dx cJ0_getBytes_840e7 16 (.ishl) 1 17 := ⟨by decide +kernel, rfl⟩
theorem dJ0_getBytes_840e7_17 : Dx cJ0_getBytes_840e7 17 (.aload_n 0) 1 18 := ⟨by decide +kernel, rfl⟩
theorem dJ0_getBytes_840e7_18 : Dx cJ0_getBytes_840e7 18 (.getfield 9) 3 21 := ⟨by decide +kernel, rfl⟩
theorem dJ0_getBytes_840e7_21 : Dx cJ0_getBytes_840e7 21 (.arraylength) 1 22 := ⟨by decide +kernel, rfl⟩
theorem dJ0_getBytes_840e7_22 : Dx cJ0_getBytes_840e7 22 (.invokestatic 212) 3 25 := ⟨by decide +kernel, rfl⟩
theorem dJ0_getBytes_840e7_25 : Dc cJ0_getBytes_840e7 25 (fun o => .goto o) 43 28 := ⟨18, by decide +kernel, by decide, rfl⟩
theorem dJ0_getBytes_840e7_28 : Dx cJ0_getBytes_840e7 28 (.aload_n 0) 1 29 := ⟨by decide +kernel, rfl⟩
theorem dJ0_getBytes_840e7_29 : Dx cJ0_getBytes_840e7 29 (.getfield 9) 3 32 := ⟨by decide +kernel, rfl⟩
theorem dJ0_getBytes_840e7_32 : Dx cJ0_getBytes_840e7 32 (.iconst 0) 1 33 := ⟨by decide +kernel, rfl⟩
theorem dJ0_getBytes_840e7_33 : Dx cJ0_getBytes_840e7 33 (.aload_n 1) 1 34 := ⟨by decide +kernel, rfl⟩
theorem dJ0_getBytes_840e7_34 : Dx cJ0_getBytes_840e7 34 (.iload_n 2) 1 35 := ⟨by decide +kernel, rfl⟩
theorem dJ0_getBytes_840e7_35 : Dx cJ0_getBytes_840e7 35 (.aload_n 0) 1 36 := ⟨by decide +kernel, rfl⟩
theorem dJ0_getBytes_840e7_36 : Dx cJ0_getBytes_840e7 36 (.getfield 9) 3 39 := ⟨by decide +kernel, rfl⟩
theorem dJ0_getBytes_840e7_39 : Dx cJ0_getBytes_840e7 39 (.arraylength) 1 40 := ⟨by decide +kernel, rfl⟩
theorem dJ0_getBytes_840e7_40 : Dx cJ0_getBytes_840e7 40 (.invokestatic 106) 3 43 := ⟨by decide +kernel, rfl⟩
theorem dJ0_getBytes_840e7_43 : Dx cJ0_getBytes_840e7 43 (.return_) 1 44 := ⟨by decide +kernel, rfl⟩
theorem dJ0_init_db425_0 : Dx cJ0_init_db425 0 (.aload_n 0) 1 1 := ⟨by decide +kernel, rfl⟩
theorem dJ0_init_db425_1 : Dx cJ0_init_db425 1 (.invokespecial 1) 3 4 := ⟨by decide +kernel, rfl⟩
theorem dJ0_init_db425_4 : Dx cJ0_init_db425 4 (.aload_n 1) 1 5 := ⟨by decide +kernel, rfl⟩
theorem dJ0_init_db425_5 : Dx cJ0_init_db425 5 (.invokevirtual 552) 3 8 := ⟨by decide +kernel, rfl⟩
theorem dJ0_init_db425_8 : Dx cJ0_init_db425 8 (.astore_n 3) 1 9 := ⟨by decide +kernel, rfl⟩
theorem dJ0_init_db425_9 : Dx cJ0_init_db425 9 (.aload_n 1) 1 10 := ⟨by decide +kernel, rfl⟩
theorem dJ0_init_db425_10 : Dx cJ0_init_db425 10 (.invokevirtual 549) 3 13 := ⟨by decide +kernel, rfl⟩
theorem dJ0_init_db425_13 : Dx cJ0_init_db425 13 (.istore 4) 2 15 := ⟨by decide +kernel, rfl⟩
theorem dJ0_init_db425_15 : Dx cJ0_init_db425 15 (.aload_n 1) 1 16 := ⟨by decide +kernel, rfl⟩
theorem dJ0_init_db425_16 : Dx cJ0_init_db425 16 (.invokevirtual 1047) 3 19 := ⟨by decide +kernel, rfl⟩
theorem dJ0_init_db425_19 : Dc cJ0_init_db425 19 (fun o => .ifCond .eq o) 41 22 := ⟨22, by decide +kernel, by decide, rfl⟩
theorem dJ0_init_db425_22 : Dx cJ0_init_db425 22 (.aload_n 0) 1 23 := ⟨by decide +kernel, rfl⟩
theorem dJ0_init_db425_23 : Dx cJ0_init_db425 23 (.iconst 0) 1 24 := ⟨by decide +kernel, rfl⟩
theorem dJ0_init_db425_24 : Dx cJ0_init_db425 24 (.putfield 15) 3 27 := ⟨by decide +kernel, rfl⟩
theorem dJ0_init_db425_27 : Dx cJ0_init_db425 27 (.aload_n 0) 1 28 := ⟨by decide +kernel, rfl⟩
theorem dJ0_init_db425_28 : Dx cJ0_init_db425 28 (.aload_n 3) 1 29 := ⟨by decide +kernel, rfl⟩
theorem dJ0_init_db425_29 : Dx cJ0_init_db425 29 (.iconst 0) 1 30 := ⟨by decide +kernel, rfl⟩
theorem dJ0_init_db425_30 : Dx cJ0_init_db425 30 (.iload 4) 2 32 := ⟨by decide +kernel, rfl⟩
theorem dJ0_init_db425_32 : Dx cJ0_init_db425 32 (.invokestatic 54) 3 35 := ⟨by decide +kernel, rfl⟩
theorem dJ0_init_db425_35 : Dx cJ0_init_db425 35 (.putfield 9) 3 38 := ⟨by decide +kernel, rfl⟩
theorem dJ0_init_db425_38 : Dc cJ0_init_db425 38 (fun o => .goto o) 97 41 := ⟨59, by decide +kernel, by decide, rfl⟩
theorem dJ0_init_db425_41 : Dx cJ0_init_db425 41 (.getstatic 38) 3 44 := ⟨by decide +kernel, rfl⟩
theorem dJ0_init_db425_44 : Dc cJ0_init_db425 44 (fun o => .ifCond .eq o) 79 47 := ⟨35, by decide +kernel, by decide, rfl⟩
theorem dJ0_init_db425_47 : Dx cJ0_init_db425 47 (.aload_n 1) 1 48 := ⟨by decide +kernel, rfl⟩
theorem dJ0_init_db425_48 : Dx cJ0_init_db425 48 (.getfield 1048) 3 51 := ⟨by decide +kernel, rfl⟩
theorem dJ0_init_db425_51 : Dc cJ0_init_db425 51 (fun o => .ifCond .eq o) 79 54 := ⟨28, by decide +kernel, by decide, rfl⟩
theorem dJ0_init_db425_54 : Dx cJ0_init_db425 54 (.aload_n 0) 1 55 := ⟨by decide +kernel, rfl⟩
theorem dJ0_init_db425_55 : Dx cJ0_init_db425 55 (.aload_n 3) 1 56 := ⟨by decide +kernel, rfl⟩
theorem dJ0_init_db425_56 : Dx cJ0_init_db425 56 (.iconst 0) 1 57 := ⟨by decide +kernel, rfl⟩
theorem dJ0_init_db425_57 : Dx cJ0_init_db425 57 (.iload 4) 2 59 := ⟨by decide +kernel, rfl⟩
theorem dJ0_init_db425_59 : Dx cJ0_init_db425 59 (.invokestatic 1051) 3 62 := ⟨by decide +kernel, rfl⟩
theorem dJ0_init_db425_62 : Dx cJ0_init_db425 62 (.putfield 9) 3 65 := ⟨by decide +kernel, rfl⟩
theorem dJ0_init_db425_65 : Dx cJ0_init_db425 65 (.aload_n 0) 1 66 := ⟨by decide +kernel, rfl⟩
theorem dJ0_init_db425_66 : Dx cJ0_init_db425 66 (.aload_n 0) 1 67 := ⟨by decide +kernel, rfl⟩
theorem dJ0_init_db425_67 : Dx cJ0_init_db425 67 (.getfield 9) 3 70 := ⟨by decide +kernel, rfl⟩
theorem dJ0_init_db425_70 : Dx cJ0_init_db425 70 (.iload 4) 2 72 := ⟨by decide +kernel, rfl⟩
theorem dJ0_init_db425_72 : Dx cJ0_init_db425 72 (.invokestatic 47) 3 75 := ⟨by decide +kernel, rfl⟩
theorem dJ0_init_db425_75 : Dx cJ0_init_db425 75 (.putfield 15) 3 78 := ⟨by decide +kernel, rfl⟩
theorem dJ0_init_db425_78 : Dx cJ0_init_db425 78 (.return_) 1 79 := ⟨by decide +kernel, rfl⟩
theorem dJ0_init_db425_79 : Dx cJ0_init_db425 79 (.aload_n 0) 1 80 := ⟨by decide +kernel, rfl⟩
theorem dJ0_init_db425_80 : Dx cJ0_init_db425 80 (.iconst 1) 1 81 := ⟨by decide +kernel, rfl⟩
theorem dJ0_init_db425_81 : Dx cJ0_init_db425 81 (.putfield 15) 3 84 := ⟨by decide +kernel, rfl⟩
theorem dJ0_init_db425_84 : Dx cJ0_init_db425 84 (.aload_n 0) 1 85 := ⟨by decide +kernel, rfl⟩
theorem dJ0_init_db425_85 : Dx cJ0_init_db425 85 (.aload_n 3) 1 86 := ⟨by decide +kernel, rfl⟩
theorem dJ0_init_db425_86 : Dx cJ0_init_db425 86 (.iconst 0) 1 87 := ⟨by decide +kernel, rfl⟩
theorem dJ0_init_db425_87 : Dx cJ0_init_db425 87 (.iload 4) 2 89 := ⟨by decide +kernel, rfl⟩
theorem dJ0_init_db425_89 : Dx cJ0_init_db425 89 (.iconst 1) 1 90 := ⟨by decide +kernel, rfl⟩
theorem dJ0_init_db425_90 : Dx cJ0_init_db425 90 (.ishl) 1 91 := ⟨by decide +kernel, rfl⟩
theorem dJ0_init_db425_91 : Dx cJ0_init_db425 91 (.invokestatic 54) 3 94 := ⟨by decide +kernel, rfl⟩
theorem dJ0_init_db425_94 : Dx cJ0_init_db425 94 (.putfield 9) 3 97 := ⟨by decide +kernel, rfl⟩
theorem dJ0_init_db425_97 : Dx cJ0_init_db425 97 (.return_) 1 98 := ⟨by decide +kernel, rfl⟩
theorem dJ0_coder_7d493_0 : Dx cJ0_coder_7d493 0 (.getstatic 38) 3 3 := ⟨by decide +kernel, rfl⟩
theorem dJ0_coder_7d493_3 : Dc cJ0_coder_7d493 3 (fun o => .ifCond .eq o) 13 6 := ⟨10, by decide +kernel, by decide, rfl⟩
theorem dJ0_coder_7d493_6 : Dx cJ0_coder_7d493 6 (.aload_n 0) 1 7 := ⟨by decide +kernel, rfl⟩
theorem dJ0_coder_7d493_7 : Dx cJ0_coder_7d493 7 (.getfield 15) 3 10 := ⟨by decide +kernel, rfl⟩
theorem dJ0_coder_7d493_10 : Dc cJ0_coder_7d493 10 (fun o => .goto o) 14 13 := ⟨4, by decide +kernel, by decide, rfl⟩
theorem dJ0_coder_7d493_13 : Dx cJ0_coder_7d493 13 (.iconst 1) 1 14 := ⟨by decide +kernel, rfl⟩
theorem dJ0_coder_7d493_14 : Dx cJ0_coder_7d493 14 (.ireturn) 1 15 := ⟨by decide +kernel, rfl⟩
theorem dJ0_isLatin1_aae02_0 : Dx cJ0_isLatin1_aae02 0 (.getstatic 38) 3 3 := ⟨by decide +kernel, rfl⟩
theorem dJ0_isLatin1_aae02_3 : Dc cJ0_isLatin1_aae02 3 (fun o => .ifCond .eq o) 17 6 := ⟨14, by decide +kernel, by decide, rfl⟩
theorem dJ0_isLatin1_aae02_6 : Dx cJ0_isLatin1_aae02 6 (.aload_n 0) 1 7 := ⟨by decide +kernel, rfl⟩
theorem dJ0_isLatin1_aae02_7 : Dx cJ0_isLatin1_aae02 7 (.getfield 15) 3 10 := ⟨by decide +kernel, rfl⟩
theorem dJ0_isLatin1_aae02_10 : Dc cJ0_isLatin1_aae02 10 (fun o => .ifCond .ne o) 17 13 := ⟨7, by decide +kernel, by decide, rfl⟩
theorem dJ0_isLatin1_aae02_13 : Dx cJ0_isLatin1_aae02 13 (.iconst 1) 1 14 := ⟨by decide +kernel, rfl⟩
theorem dJ0_isLatin1_aae02_14 : Dc cJ0_isLatin1_aae02 14 (fun o => .goto o) 18 17 := ⟨4, by decide +kernel, by decide, rfl⟩
theorem dJ0_isLatin1_aae02_17 : Dx cJ0_isLatin1_aae02 17 (.iconst 0) 1 18 := ⟨by decide +kernel, rfl⟩
theorem dJ0_isLatin1_aae02_18 : Dx cJ0_isLatin1_aae02 18 (.ireturn) 1 19 := ⟨by decide +kernel, rfl⟩
theorem dJ0_checkIndex_df160_0 : Dx cJ0_checkIndex_df160 0 (.iload_n 0) 1 1 := ⟨by decide +kernel, rfl⟩
theorem dJ0_checkIndex_df160_1 : Dx cJ0_checkIndex_df160 1 (.iload_n 1) 1 2 := ⟨by decide +kernel, rfl⟩
theorem dJ0_checkIndex_df160_2 : Dx cJ0_checkIndex_df160 2 (.getstatic 1053) 3 5 := ⟨by decide +kernel, rfl⟩
theorem dJ0_checkIndex_df160_5 : Dx cJ0_checkIndex_df160 5 (.invokestatic 1059) 3 8 := ⟨by decide +kernel, rfl⟩
theorem dJ0_checkIndex_df160_8 : Dx cJ0_checkIndex_df160 8 (.pop) 1 9 := ⟨by decide +kernel, rfl⟩
theorem dJ0_checkIndex_df160_9 : Dx cJ0_checkIndex_df160 9 (.return_) 1 10 := ⟨by decide +kernel, rfl⟩
theorem dJ0_checkBoundsOffCount_cabcc_0 : Dx cJ0_checkBoundsOffCount_cabcc 0 (.iload_n 0) 1 1 := ⟨by decide +kernel, rfl⟩
theorem dJ0_checkBoundsOffCount_cabcc_1 : Dx cJ0_checkBoundsOffCount_cabcc 1 (.iload_n 1) 1 2 := ⟨by decide +kernel, rfl⟩
theorem dJ0_checkBoundsOffCount_cabcc_2 : Dx cJ0_checkBoundsOffCount_cabcc 2 (.iload_n 2) 1 3 := ⟨by decide +kernel, rfl⟩
theorem dJ0_checkBoundsOffCount_cabcc_3 : Dx cJ0_checkBoundsOffCount_cabcc 3 (.getstatic 1053) 3 6 := ⟨by decide +kernel, rfl⟩
theorem dJ0_checkBoundsOffCount_cabcc_6 : Dx cJ0_checkBoundsOffCount_cabcc 6 (.invokestatic 1065) 3 9 := ⟨by decide +kernel, rfl⟩
theorem dJ0_checkBoundsOffCount_cabcc_9 : Dx cJ0_checkBoundsOffCount_cabcc 9 (.ireturn) 1 10 := ⟨by decide +kernel, rfl⟩
theorem dJ0_checkBoundsBeginEnd_23922_0 : Dx cJ0_checkBoundsBeginEnd_23922 0 (.iload_n 0) 1 1 := ⟨by decide +kernel, rfl⟩
theorem dJ0_checkBoundsBeginEnd_23922_1 : Dx cJ0_checkBoundsBeginEnd_23922 1 (.iload_n 1) 1 2 := ⟨by decide +kernel, rfl⟩
theorem dJ0_checkBoundsBeginEnd_23922_2 : Dx cJ0_checkBoundsBeginEnd_23922 2 (.iload_n 2) 1 3 := ⟨by decide +kernel, rfl⟩
theorem dJ0_checkBoundsBeginEnd_23922_3 : Dx cJ0_checkBoundsBeginEnd_23922 3 (.getstatic 1053) 3 6 := ⟨by decide +kernel, rfl⟩
theorem dJ0_checkBoundsBeginEnd_23922_6 : Dx cJ0_checkBoundsBeginEnd_23922 6 (.invokestatic 1062) 3 9 := ⟨by decide +kernel, rfl⟩
theorem dJ0_checkBoundsBeginEnd_23922_9 : Dx cJ0_checkBoundsBeginEnd_23922 9 (.pop) 1 10 := ⟨by decide +kernel, rfl⟩
theorem dJ0_checkBoundsBeginEnd_23922_10 : Dx cJ0_checkBoundsBeginEnd_23922 10 (.return_) 1 11 := ⟨by decide +kernel, rfl⟩
theorem dJ4_init_da8c8_0 : Dx cJ4_init_da8c8 0 (.aload_n 0) 1 1 := ⟨by decide +kernel, rfl⟩
theorem dJ4_init_da8c8_1 : Dx cJ4_init_da8c8 1 (.bipush 16) 2 3 := ⟨by decide +kernel, rfl⟩
theorem dJ4_init_da8c8_3 : Dx cJ4_init_da8c8 3 (.invokespecial 1) 3 6 := ⟨by decide +kernel, rfl⟩
theorem dJ4_init_da8c8_6 : Dx cJ4_init_da8c8 6 (.return_) 1 7 := ⟨by decide +kernel, rfl⟩
theorem dJ4_append_15ec4_0 : Dx cJ4_append_15ec4 0 (.aload_n 0) 1 1 := ⟨by decide +kernel, rfl⟩
theorem dJ4_append_15ec4_1 : Dx cJ4_append_15ec4 1 (.aload_n 1) 1 2 := ⟨by decide +kernel, rfl⟩
theorem dJ4_append_15ec4_2 : Dx cJ4_append_15ec4 2 (.invokespecial 29) 3 5 := ⟨by decide +kernel, rfl⟩
theorem dJ4_append_15ec4_5 : Dx cJ4_append_15ec4 5 (.pop) 1 6 := ⟨by decide +kernel, rfl⟩
theorem dJ4_append_15ec4_6 : Dx cJ4_append_15ec4 6 (.aload_n 0) 1 7 := ⟨by decide +kernel, rfl⟩
theorem dJ4_append_15ec4_7 : Dx cJ4_append_15ec4 7 (.areturn) 1 8 := ⟨by decide +kernel, rfl⟩
theorem dJ4_append_bf812_0 : Dx cJ4_append_bf812 0 (.aload_n 0) 1 1 := ⟨by decide +kernel, rfl⟩
theorem dJ4_append_bf812_1 : Dx cJ4_append_bf812 1 (.iload_n 1) 1 2 := ⟨by decide +kernel, rfl⟩
theorem dJ4_append_bf812_2 : Dx cJ4_append_bf812 2 (.invokespecial 53) 3 5 := ⟨by decide +kernel, rfl⟩
theorem dJ4_append_bf812_5 : Dx cJ4_append_bf812 5 (.pop) 1 6 := ⟨by decide +kernel, rfl⟩
theorem dJ4_append_bf812_6 : Dx cJ4_append_bf812 6 (.aload_n 0) 1 7 := ⟨by decide +kernel, rfl⟩
theorem dJ4_append_bf812_7 : Dx cJ4_append_bf812 7 (.areturn) 1 8 := ⟨by decide +kernel, rfl⟩
theorem dJ4_toString_0e30d_0 : Dx cJ4_toString_0e30d 0 (.new 18) 3 3 := ⟨by decide +kernel, rfl⟩
theorem dJ4_toString_0e30d_3 : Dx cJ4_toString_0e30d 3 (.dup) 1 4 := ⟨by decide +kernel, rfl⟩
theorem dJ4_toString_0e30d_4 : Dx cJ4_toString_0e30d 4 (.aload_n 0) 1 5 := ⟨by decide +kernel, rfl⟩
theorem dJ4_toString_0e30d_5 : Dx cJ4_toString_0e30d 5 (.invokespecial 137) 3 8 := ⟨by decide +kernel, rfl⟩
theorem dJ4_toString_0e30d_8 : Dx cJ4_toString_0e30d 8 (.areturn) 1 9 := ⟨by decide +kernel, rfl⟩
theorem dJ4_length_8abf5_0 : Dx cJ4_length_8abf5 0 (.aload_n 0) 1 1 := ⟨by decide +kernel, rfl⟩
theorem dJ4_length_8abf5_1 : Dx cJ4_length_8abf5 1 (.invokespecial 343) 3 4 := ⟨by decide +kernel, rfl⟩
theorem dJ4_length_8abf5_4 : Dx cJ4_length_8abf5 4 (.ireturn) 1 5 := ⟨by decide +kernel, rfl⟩
theorem dJ1_charAt_3b067_0 : Dx cJ1_charAt_3b067 0 (.iload_n 1) 1 1 := ⟨by decide +kernel, rfl⟩
theorem dJ1_charAt_3b067_1 : Dx cJ1_charAt_3b067 1 (.aload_n 0) 1 2 := ⟨by decide +kernel, rfl⟩
theorem dJ1_charAt_3b067_2 : Dx cJ1_charAt_3b067 2 (.arraylength) 1 3 := ⟨by decide +kernel, rfl⟩
theorem dJ1_charAt_3b067_3 : Dx cJ1_charAt_3b067 3 (.invokestatic 9) 3 6 := ⟨by decide +kernel, rfl⟩
theorem dJ1_charAt_3b067_6 : Dx cJ1_charAt_3b067 6 (.aload_n 0) 1 7 := ⟨by decide +kernel, rfl⟩
theorem dJ1_charAt_3b067_7 : Dx cJ1_charAt_3b067 7 (.iload_n 1) 1 8 := ⟨by decide +kernel, rfl⟩
theorem dJ1_charAt_3b067_8 : Dx cJ1_charAt_3b067 8 (.baload) 1 9 := ⟨by decide +kernel, rfl⟩
theorem dJ1_charAt_3b067_9 : Dx cJ1_charAt_3b067 9 (.sipush 255) 3 12 := ⟨by decide +kernel, rfl⟩
theorem dJ1_charAt_3b067_12 : Dx cJ1_charAt_3b067 12 (.iand) 1 13 := ⟨by decide +kernel, rfl⟩
theorem dJ1_charAt_3b067_13 : Dx cJ1_charAt_3b067 13 (.i2c) 1 14 := ⟨by decide +kernel, rfl⟩
theorem dJ1_charAt_3b067_14 : Dx cJ1_charAt_3b067 14 (.ireturn) 1 15 := ⟨by decide +kernel, rfl⟩
theorem dJ1_inflate_0e8fd_0 : Dx cJ1_inflate_0e8fd 0 (.aload_n 0) 1 1 := ⟨by decide +kernel, rfl⟩
theorem dJ1_inflate_0e8fd_1 : Dx cJ1_inflate_0e8fd 1 (.iload_n 1) 1 2 := ⟨by decide +kernel, rfl⟩
theorem dJ1_inflate_0e8fd_2 : Dx cJ1_inflate_0e8fd 2 (.aload_n 2) 1 3 := ⟨by decide +kernel, rfl⟩
theorem dJ1_inflate_0e8fd_3 : Dx cJ1_inflate_0e8fd 3 (.iload_n 3) 1 4 := ⟨by decide +kernel, rfl⟩
theorem dJ1_inflate_0e8fd_4 : Dx cJ1_inflate_0e8fd 4 (.iload 4) 2 6 := ⟨by decide +kernel, rfl⟩
theorem dJ1_inflate_0e8fd_6 : Dx cJ1_inflate_0e8fd 6 (.invokestatic 240) 3 9 := ⟨by decide +kernel, rfl⟩
theorem dJ1_inflate_0e8fd_9 : Dx cJ1_inflate_0e8fd 9 (.return_) 1 10 := ⟨by decide +kernel, rfl⟩
theorem dJ7_copyOf_9075b_0 : Dx cJ7_copyOf_9075b 0 (.iload_n 1) 1 1 := ⟨by decide +kernel, rfl⟩
theorem dJ7_copyOf_9075b_1 : Dx cJ7_copyOf_9075b 1 (.aload_n 0) 1 2 := ⟨by decide +kernel, rfl⟩
theorem dJ7_copyOf_9075b_2 : Dx cJ7_copyOf_9075b 2 (.arraylength) 1 3 := ⟨by decide +kernel, rfl⟩
theorem dJ7_copyOf_9075b_3 : Dc cJ7_copyOf_9075b 3 (fun o => .if_icmp .ne o) 14 6 := ⟨11, by decide +kernel, by decide, rfl⟩
theorem dJ7_copyOf_9075b_6 : Dx cJ7_copyOf_9075b 6 (.aload_n 0) 1 7 := ⟨by decide +kernel, rfl⟩
theorem dJ7_copyOf_9075b_7 : Dx cJ7_copyOf_9075b 7 (.invokevirtual 310) 3 10 := ⟨by decide +kernel, rfl⟩
theorem dJ7_copyOf_9075b_10 : Dx cJ7_copyOf_9075b 10 (.checkcast 311) 3 13 := ⟨by decide +kernel, rfl⟩
theorem dJ7_copyOf_9075b_13 : Dx cJ7_copyOf_9075b 13 (.areturn) 1 14 := ⟨by decide +kernel, rfl⟩
theorem dJ7_copyOf_9075b_14 : Dx cJ7_copyOf_9075b 14 (.iload_n 1) 1 15 := ⟨by decide +kernel, rfl⟩
theorem dJ7_copyOf_9075b_15 : Dx cJ7_copyOf_9075b 15 (.newarray .byte) 2 17 := ⟨by decide +kernel, rfl⟩
theorem dJ7_copyOf_9075b_17 : Dx cJ7_copyOf_9075b 17 (.astore_n 2) 1 18 := ⟨by decide +kernel, rfl⟩
theorem dJ7_copyOf_9075b_18 : Dx cJ7_copyOf_9075b 18 (.aload_n 0) 1 19 := ⟨by decide +kernel, rfl⟩
theorem dJ7_copyOf_9075b_19 : Dx cJ7_copyOf_9075b 19 (.iconst 0) 1 20 := ⟨by decide +kernel, rfl⟩
theorem dJ7_copyOf_9075b_20 : Dx cJ7_copyOf_9075b 20 (.aload_n 2) 1 21 := ⟨by decide +kernel, rfl⟩
theorem dJ7_copyOf_9075b_21 : Dx cJ7_copyOf_9075b 21 (.iconst 0) 1 22 := ⟨by decide +kernel, rfl⟩
theorem dJ7_copyOf_9075b_22 : Dx cJ7_copyOf_9075b 22 (.aload_n 0) 1 23 := ⟨by decide +kernel, rfl⟩
theorem dJ7_copyOf_9075b_23 : Dx cJ7_copyOf_9075b 23 (.arraylength) 1 24 := ⟨by decide +kernel, rfl⟩
theorem dJ7_copyOf_9075b_24 : Dx cJ7_copyOf_9075b 24 (.iload_n 1) 1 25 := ⟨by decide +kernel, rfl⟩
theorem dJ7_copyOf_9075b_25 : Dx cJ7_copyOf_9075b 25 (.invokestatic 304) 3 28 := ⟨by decide +kernel, rfl⟩
theorem dJ7_copyOf_9075b_28 : Dx cJ7_copyOf_9075b 28 (.invokestatic 150) 3 31 := ⟨by decide +kernel, rfl⟩
theorem dJ7_copyOf_9075b_31 : Dx cJ7_copyOf_9075b 31 (.aload_n 2) 1 32 := ⟨by decide +kernel, rfl⟩
theorem dJ7_copyOf_9075b_32 : Dx cJ7_copyOf_9075b 32 (.areturn) 1 33 := ⟨by decide +kernel, rfl⟩
theorem dJ7_checkLength_df160_0 : Dx cJ7_checkLength_df160 0 (.iload_n 1) 1 1 := ⟨by decide +kernel, rfl⟩
theorem dJ7_checkLength_df160_1 : Dx cJ7_checkLength_df160 1 (.iload_n 0) 1 2 := ⟨by decide +kernel, rfl⟩
theorem dJ7_checkLength_df160_2 : Dc cJ7_checkLength_df160 2 (fun o => .if_icmp .ge o) 37 5 := ⟨35, by decide +kernel, by decide, rfl⟩
theorem dJ7_checkLength_df160_5 : Dx cJ7_checkLength_df160 5 (.new 43) 3 8 := ⟨by decide +kernel, rfl⟩
theorem dJ7_checkLength_df160_8 : Dx cJ7_checkLength_df160 8 (.dup) 1 9 := ⟨by decide +kernel, rfl⟩
theorem dJ7_checkLength_df160_9 : Dx cJ7_checkLength_df160 9 (.new 45) 3 12 := ⟨by decide +kernel, rfl⟩
theorem dJ7_checkLength_df160_12 : Dx cJ7_checkLength_df160 12 (.dup) 1 13 := ⟨by decide +kernel, rfl⟩
theorem dJ7_checkLength_df160_13 : Dx cJ7_checkLength_df160 13 (.invokespecial 47) 3 16 := ⟨by decide +kernel, rfl⟩
theorem dJ7_checkLength_df160_16 : Dx cJ7_checkLength_df160 16 (.iload_n 0) 1 17 := ⟨by decide +kernel, rfl⟩
theorem dJ7_checkLength_df160_17 : Dx cJ7_checkLength_df160 17 (.invokevirtual 54) 3 20 := ⟨by decide +kernel, rfl⟩
theorem dJ7_checkLength_df160_20 : Dx cJ7_checkLength_df160 20 (.ldc_w 337) 3 23 := ⟨by decide +kernel, rfl⟩
theorem dJ7_checkLength_df160_23 : Dx cJ7_checkLength_df160 23 (.invokevirtual 50) 3 26 := ⟨by decide +kernel, rfl⟩
theorem dJ7_checkLength_df160_26 : Dx cJ7_checkLength_df160 26 (.iload_n 1) 1 27 := ⟨by decide +kernel, rfl⟩
theorem dJ7_checkLength_df160_27 : Dx cJ7_checkLength_df160 27 (.invokevirtual 54) 3 30 := ⟨by decide +kernel, rfl⟩
theorem dJ7_checkLength_df160_30 : Dx cJ7_checkLength_df160 30 (.invokevirtual 61) 3 33 := ⟨by decide +kernel, rfl⟩
theorem dJ7_checkLength_df160_33 : Dx cJ7_checkLength_df160 33 (.invokespecial 65) 3 36 := ⟨by decide +kernel, rfl⟩
theorem dJ7_checkLength_df160_36 : Dx cJ7_checkLength_df160 36 (.athrow) 1 37 := ⟨by decide +kernel, rfl⟩
theorem dJ7_checkLength_df160_37 : Dx cJ7_checkLength_df160 37 (.return_) 1 38 := ⟨by decide +kernel, rfl⟩
theorem dJ7_copyOfRange_39247_0 : Dx cJ7_copyOfRange_39247 0 (.iload_n 1) 1 1 := ⟨by decide +kernel, rfl⟩
theorem dJ7_copyOfRange_39247_1 : Dc cJ7_copyOfRange_39247 1 (fun o => .ifCond .ne o) 10 4 := ⟨9, by decide +kernel, by decide, rfl⟩
theorem dJ7_copyOfRange_39247_4 : Dx cJ7_copyOfRange_39247 4 (.iload_n 2) 1 5 := ⟨by decide +kernel, rfl⟩
theorem dJ7_copyOfRange_39247_5 : Dx cJ7_copyOfRange_39247 5 (.aload_n 0) 1 6 := ⟨by decide +kernel, rfl⟩
theorem dJ7_copyOfRange_39247_6 : Dx cJ7_copyOfRange_39247 6 (.arraylength) 1 7 := ⟨by decide +kernel, rfl⟩
theorem dJ7_copyOfRange_39247_7 : Dc cJ7_copyOfRange_39247 7 (fun o => .if_icmp .eq o) 17 10 := ⟨10, by decide +kernel, by decide, rfl⟩
theorem dJ7_copyOfRange_39247_10 : Dx cJ7_copyOfRange_39247 10 (.aload_n 0) 1 11 := ⟨by decide +kernel, rfl⟩
theorem dJ7_copyOfRange_39247_11 : Dx cJ7_copyOfRange_39247 11 (.iload_n 1) 1 12 := ⟨by decide +kernel, rfl⟩
theorem dJ7_copyOfRange_39247_12 : Dx cJ7_copyOfRange_39247 12 (.iload_n 2) 1 13 := ⟨by decide +kernel, rfl⟩
theorem dJ7_copyOfRange_39247_13 : Dx cJ7_copyOfRange_39247 13 (.invokestatic 339) 3 16 := ⟨by decide +kernel, rfl⟩
theorem dJ7_copyOfRange_39247_16 : Dx cJ7_copyOfRange_39247 16 (.areturn) 1 17 := ⟨by decide +kernel, rfl⟩
theorem dJ7_copyOfRange_39247_17 : Dx cJ7_copyOfRange_39247 17 (.aload_n 0) 1 18 := ⟨by decide +kernel, rfl⟩
theorem dJ7_copyOfRange_39247_18 : Dx cJ7_copyOfRange_39247 18 (.invokevirtual 310) 3 21 := ⟨by decide +kernel, rfl⟩
theorem dJ7_copyOfRange_39247_21 : Dx cJ7_copyOfRange_39247 21 (.checkcast 311) 3 24 := ⟨by decide +kernel, rfl⟩
theorem dJ7_copyOfRange_39247_24 : Dx cJ7_copyOfRange_39247 24 (.areturn) 1 25 := ⟨by decide +kernel, rfl⟩
theorem dJ7_copyOfRangeByte_39247_0 : Dx cJ7_copyOfRangeByte_39247 0 (.iload_n 1) 1 1 := ⟨by decide +kernel, rfl⟩
theorem dJ7_copyOfRangeByte_39247_1 : Dx cJ7_copyOfRangeByte_39247 1 (.iload_n 2) 1 2 := ⟨by decide +kernel, rfl⟩
theorem dJ7_copyOfRangeByte_39247_2 : Dx cJ7_copyOfRangeByte_39247 2 (.invokestatic 343) 3 5 := ⟨by decide +kernel, rfl⟩
theorem dJ7_copyOfRangeByte_39247_5 : Dx cJ7_copyOfRangeByte_39247 5 (.iload_n 2) 1 6 := ⟨by decide +kernel, rfl⟩
theorem dJ7_copyOfRangeByte_39247_6 : Dx cJ7_copyOfRangeByte_39247 6 (.iload_n 1) 1 7 := ⟨by decide +kernel, rfl⟩
theorem dJ7_copyOfRangeByte_39247_7 : Dx cJ7_copyOfRangeByte_39247 7 (.isub) 1 8 := ⟨by decide +kernel, rfl⟩
theorem dJ7_copyOfRangeByte_39247_8 : Dx cJ7_copyOfRangeByte_39247 8 (.istore_n 3) 1 9 := ⟨by decide +kernel, rfl⟩
theorem dJ7_copyOfRangeByte_39247_9 : Dx cJ7_copyOfRangeByte_39247 9 (.iload_n 3) 1 10 := ⟨by decide +kernel, rfl⟩
theorem dJ7_copyOfRangeByte_39247_10 : Dx cJ7_copyOfRangeByte_39247 10 (.newarray .byte) 2 12 := ⟨by decide +kernel, rfl⟩
theorem dJ7_copyOfRangeByte_39247_12 : Dx cJ7_copyOfRangeByte_39247 12 (.astore 4) 2 14 := ⟨by decide +kernel, rfl⟩
theorem dJ7_copyOfRangeByte_39247_14 : Dx cJ7_copyOfRangeByte_39247 14 (.aload_n 0) 1 15 := ⟨by decide +kernel, rfl⟩
theorem dJ7_copyOfRangeByte_39247_15 : Dx cJ7_copyOfRangeByte_39247 15 (.iload_n 1) 1 16 := ⟨by decide +kernel, rfl⟩
theorem dJ7_copyOfRangeByte_39247_16 : Dx cJ7_copyOfRangeByte_39247 16 (.aload 4) 2 18 := ⟨by decide +kernel, rfl⟩
theorem dJ7_copyOfRangeByte_39247_18 : Dx cJ7_copyOfRangeByte_39247 18 (.iconst 0) 1 19 := ⟨by decide +kernel, rfl⟩
theorem dJ7_copyOfRangeByte_39247_19 : Dx cJ7_copyOfRangeByte_39247 19 (.aload_n 0) 1 20 := ⟨by decide +kernel, rfl⟩
theorem dJ7_copyOfRangeByte_39247_20 : Dx cJ7_copyOfRangeByte_39247 20 (.arraylength) 1 21 := ⟨by decide +kernel, rfl⟩
theorem dJ7_copyOfRangeByte_39247_21 : Dx cJ7_copyOfRangeByte_39247 21 (.iload_n 1) 1 22 := ⟨by decide +kernel, rfl⟩
theorem dJ7_copyOfRangeByte_39247_22 : Dx cJ7_copyOfRangeByte_39247 22 (.isub) 1 23 := ⟨by decide +kernel, rfl⟩
theorem dJ7_copyOfRangeByte_39247_23 : Dx cJ7_copyOfRangeByte_39247 23 (.iload_n 3) 1 24 := ⟨by decide +kernel, rfl⟩
theorem dJ7_copyOfRangeByte_39247_24 : Dx cJ7_copyOfRangeByte_39247 24 (.invokestatic 304) 3 27 := ⟨by decide +kernel, rfl⟩
theorem dJ7_copyOfRangeByte_39247_27 : Dx cJ7_copyOfRangeByte_39247 27 (.invokestatic 150) 3 30 := ⟨by decide +kernel, rfl⟩
theorem dJ7_copyOfRangeByte_39247_30 : Dx cJ7_copyOfRangeByte_39247 30 (.aload 4) 2 32 := ⟨by decide +kernel, rfl⟩
theorem dJ7_copyOfRangeByte_39247_32 : Dx cJ7_copyOfRangeByte_39247 32 (.areturn) 1 33 := ⟨by decide +kernel, rfl⟩
theorem dJ3_checkIndex_8e157_0 : Dx cJ3_checkIndex_8e157 0 (.iload_n 0) 1 1 := ⟨by decide +kernel, rfl⟩
theorem dJ3_checkIndex_8e157_1 : Dc cJ3_checkIndex_8e157 1 (fun o => .ifCond .lt o) 9 4 := ⟨8, by decide +kernel, by decide, rfl⟩
theorem dJ3_checkIndex_8e157_4 : Dx cJ3_checkIndex_8e157 4 (.iload_n 0) 1 5 := ⟨by decide +kernel, rfl⟩
theorem dJ3_checkIndex_8e157_5 : Dx cJ3_checkIndex_8e157 5 (.iload_n 1) 1 6 := ⟨by decide +kernel, rfl⟩
theorem dJ3_checkIndex_8e157_6 : Dc cJ3_checkIndex_8e157 6 (fun o => .if_icmp .lt o) 16 9 := ⟨10, by decide +kernel, by decide, rfl⟩
theorem dJ3_checkIndex_8e157_9 : Dx cJ3_checkIndex_8e157 9 (.aload_n 2) 1 10 := ⟨by decide +kernel, rfl⟩
theorem dJ3_checkIndex_8e157_10 : Dx cJ3_checkIndex_8e157 10 (.iload_n 0) 1 11 := ⟨by decide +kernel, rfl⟩
theorem dJ3_checkIndex_8e157_11 : Dx cJ3_checkIndex_8e157 11 (.iload_n 1) 1 12 := ⟨by decide +kernel, rfl⟩
theorem dJ3_checkIndex_8e157_12 : Dx cJ3_checkIndex_8e157 12 (.invokestatic 95) 3 15 := ⟨by decide +kernel, rfl⟩
theorem dJ3_checkIndex_8e157_15 : Dx cJ3_checkIndex_8e157 15 (.athrow) 1 16 := ⟨by decide +kernel, rfl⟩
theorem dJ3_checkIndex_8e157_16 : Dx cJ3_checkIndex_8e157 16 (.iload_n 0) 1 17 := ⟨by decide +kernel, rfl⟩
theorem dJ3_checkIndex_8e157_17 : Dx cJ3_checkIndex_8e157 17 (.ireturn) 1 18 := ⟨by decide +kernel, rfl⟩
theorem dJ3_checkFromToIndex_8c36e_0 : Dx cJ3_checkFromToIndex_8c36e 0 (.iload_n 0) 1 1 := ⟨by decide +kernel, rfl⟩
theorem dJ3_checkFromToIndex_8c36e_1 : Dc cJ3_checkFromToIndex_8c36e 1 (fun o => .ifCond .lt o) 14 4 := ⟨13, by decide +kernel, by decide, rfl⟩
theorem dJ3_checkFromToIndex_8c36e_4 : Dx cJ3_checkFromToIndex_8c36e 4 (.iload_n 0) 1 5 := ⟨by decide +kernel, rfl⟩
theorem dJ3_checkFromToIndex_8c36e_5 : Dx cJ3_checkFromToIndex_8c36e 5 (.iload_n 1) 1 6 := ⟨by decide +kernel, rfl⟩
theorem dJ3_checkFromToIndex_8c36e_6 : Dc cJ3_checkFromToIndex_8c36e 6 (fun o => .if_icmp .gt o) 14 9 := ⟨8, by decide +kernel, by decide, rfl⟩
theorem dJ3_checkFromToIndex_8c36e_9 : Dx cJ3_checkFromToIndex_8c36e 9 (.iload_n 1) 1 10 := ⟨by decide +kernel, rfl⟩
theorem dJ3_checkFromToIndex_8c36e_10 : Dx cJ3_checkFromToIndex_8c36e 10 (.iload_n 2) 1 11 := ⟨by decide +kernel, rfl⟩
theorem dJ3_checkFromToIndex_8c36e_11 : Dc cJ3_checkFromToIndex_8c36e 11 (fun o => .if_icmp .le o) 22 14 := ⟨11, by decide +kernel, by decide, rfl⟩
theorem dJ3_checkFromToIndex_8c36e_14 : Dx cJ3_checkFromToIndex_8c36e 14 (.aload_n 3) 1 15 := ⟨by decide +kernel, rfl⟩
theorem dJ3_checkFromToIndex_8c36e_15 : Dx cJ3_checkFromToIndex_8c36e 15 (.iload_n 0) 1 16 := ⟨by decide +kernel, rfl⟩
theorem dJ3_checkFromToIndex_8c36e_16 : Dx cJ3_checkFromToIndex_8c36e 16 (.iload_n 1) 1 17 := ⟨by decide +kernel, rfl⟩
theorem dJ3_checkFromToIndex_8c36e_17 : Dx cJ3_checkFromToIndex_8c36e 17 (.iload_n 2) 1 18 := ⟨by decide +kernel, rfl⟩
theorem dJ3_checkFromToIndex_8c36e_18 : Dx cJ3_checkFromToIndex_8c36e 18 (.invokestatic 99) 3 21 := ⟨by decide +kernel, rfl⟩
theorem dJ3_checkFromToIndex_8c36e_21 : Dx cJ3_checkFromToIndex_8c36e 21 (.athrow) 1 22 := ⟨by decide +kernel, rfl⟩
theorem dJ3_checkFromToIndex_8c36e_22 : Dx cJ3_checkFromToIndex_8c36e 22 (.iload_n 0) 1 23 := ⟨by decide +kernel, rfl⟩
theorem dJ3_checkFromToIndex_8c36e_23 : Dx cJ3_checkFromToIndex_8c36e 23 (.ireturn) 1 24 := ⟨by decide +kernel, rfl⟩
theorem dJ3_checkFromIndexSize_8c36e_0 : Dx cJ3_checkFromIndexSize_8c36e 0 (.iload_n 2) 1 1 := ⟨by decide +kernel, rfl⟩
theorem dJ3_checkFromIndexSize_8c36e_1 : Dx cJ3_checkFromIndexSize_8c36e 1 (.iload_n 0) 1 2 := ⟨by decide +kernel, rfl⟩
theorem dJ3_checkFromIndexSize_8c36e_2 : Dx cJ3_checkFromIndexSize_8c36e 2 (.ior) 1 3 := ⟨by decide +kernel, rfl⟩
theorem dJ3_checkFromIndexSize_8c36e_3 : Dx cJ3_checkFromIndexSize_8c36e 3 (.iload_n 1) 1 4 := ⟨by decide +kernel, rfl⟩
theorem dJ3_checkFromIndexSize_8c36e_4 : Dx cJ3_checkFromIndexSize_8c36e 4 (.ior) 1 5 := ⟨by decide +kernel, rfl⟩
theorem dJ3_checkFromIndexSize_8c36e_5 : Dc cJ3_checkFromIndexSize_8c36e 5 (fun o => .ifCond .lt o) 15 8 := ⟨10, by decide +kernel, by decide, rfl⟩
theorem dJ3_checkFromIndexSize_8c36e_8 : Dx cJ3_checkFromIndexSize_8c36e 8 (.iload_n 1) 1 9 := ⟨by decide +kernel, rfl⟩
theorem dJ3_checkFromIndexSize_8c36e_9 : Dx cJ3_checkFromIndexSize_8c36e 9 (.iload_n 2) 1 10 := ⟨by decide +kernel, rfl⟩
theorem dJ3_checkFromIndexSize_8c36e_10 : Dx cJ3_checkFromIndexSize_8c36e 10 (.iload_n 0) 1 11 := ⟨by decide +kernel, rfl⟩
theorem dJ3_checkFromIndexSize_8c36e_11 : Dx cJ3_checkFromIndexSize_8c36e 11 (.isub) 1 12 := ⟨by decide +kernel, rfl⟩
theorem dJ3_checkFromIndexSize_8c36e_12 : Dc cJ3_checkFromIndexSize_8c36e 12 (fun o => .if_icmp .le o) 23 15 := ⟨11, by decide +kernel, by decide, rfl⟩
theorem dJ3_checkFromIndexSize_8c36e_15 : Dx cJ3_checkFromIndexSize_8c36e 15 (.aload_n 3) 1 16 := ⟨by decide +kernel, rfl⟩
theorem dJ3_checkFromIndexSize_8c36e_16 : Dx cJ3_checkFromIndexSize_8c36e 16 (.iload_n 0) 1 17 := ⟨by decide +kernel, rfl⟩
theorem dJ3_checkFromIndexSize_8c36e_17 : Dx cJ3_checkFromIndexSize_8c36e 17 (.iload_n 1) 1 18 := ⟨by decide +kernel, rfl⟩
theorem dJ3_checkFromIndexSize_8c36e_18 : Dx cJ3_checkFromIndexSize_8c36e 18 (.iload_n 2) 1 19 := ⟨by decide +kernel, rfl⟩
theorem dJ3_checkFromIndexSize_8c36e_19 : Dx cJ3_checkFromIndexSize_8c36e 19 (.invokestatic 103) 3 22 := ⟨by decide +kernel, rfl⟩
theorem dJ3_checkFromIndexSize_8c36e_22 : Dx cJ3_checkFromIndexSize_8c36e 22 (.athrow) 1 23 := ⟨by decide +kernel, rfl⟩
theorem dJ3_checkFromIndexSize_8c36e_23 : Dx cJ3_checkFromIndexSize_8c36e 23 (.iload_n 0) 1 24 := ⟨by decide +kernel, rfl⟩
theorem dJ3_checkFromIndexSize_8c36e_24 : Dx cJ3_checkFromIndexSize_8c36e 24 (.ireturn) 1 25 := ⟨by decide +kernel, rfl⟩
end
section
/-! ===== BEGIN words of one list among another's, by their places ===== -/
theorem goodIn_r {big : List Cond} (ws : List Cond) (ps : List Nat) (hp : ws = ps.filterMap (fun i => big[i]?)) (h : ws.all goodWord = true) : GoodIn big ws := by
  intro w hw
  have h1 := List.all_eq_true.mp h w hw
  rw [hp] at hw
  obtain ⟨i, -, hi⟩ := List.mem_filterMap.mp hw
  have hm : w ∈ big := by first | exact List.mem_of_getElem? hi | exact List.getElem?_mem hi
  exact ⟨hm, good_of_word h1⟩
theorem goodIn_app {big a b : List Cond} (ha : GoodIn big a) (hb : GoodIn big b) : GoodIn big (a ++ b) := fun w h => (List.mem_append.mp h).elim (ha w) (hb w)
theorem goodIn_ca {big a b : List Cond} {c : Cond} (ha : GoodIn big (c :: a)) (hb : GoodIn big b) : GoodIn big (c :: (a ++ b)) := fun w h => (List.mem_cons.mp h).elim (fun e => ha w (List.mem_cons.mpr (Or.inl e))) (fun h => (List.mem_append.mp h).elim (fun h => ha w (List.mem_cons.mpr (Or.inr h))) (hb w))
theorem goodIn_sub {big ws : List Cond} (hm : ∀ w ∈ ws, w ∈ big) (h : ws.all goodWord = true) : GoodIn big ws := fun w hw => ⟨hm w hw, good_of_word (List.all_eq_true.mp h w hw)⟩
/-! ===== END ===== -/
/-! ===== BEGIN exceptions that leave a method, and their catching by the caller (launches without stack traces) ===== -/
section VXA
/-! The laws vx_back, vx_callV, vx_callS, vx_callSW, vx_throw0, vx_throwS follow proofs of the library, with one case more: JvmDerived/Free/Laws.lean (Back.of_free), Shelf42/LK1.lean (callV, callS), Shelf/KitTraced.lean (throwNew0V, throwNewS). -/
/-- where a method has thrown q: the class by its name, the cell, what was written, the world -/
def vx_T (XC : String → State → State → Prop) (st : State) (q : Addr) (t : State) (mc ms : Nat) (free : Addr → Prop) : Prop :=
  ∃ (E : String) (ce : Cell) (L : List Loc), XC E st t ∧ t.heap[q]? = some ce ∧ ce.vm = .none ∧ st.vm.findClass E = some ce.cls ∧ st.WarmedH t.vm ∧ st.sameButNew ({ t with vm := st.vm } : State) L mc ms ∧ ∀ z ∈ L, free z.base
def vx_Q (Qc : Array Value → State → Outcome → State → Prop) (XC : String → State → State → Prop) (mc ms : Nat) (free : Addr → Prop) : Array Value → State → Outcome → State → Prop := fun a st o t =>
  (Qc a st o t ∧ ∃ L, FrameEnd st o t L mc ms ∧ ∀ q ∈ L, free q.base) ∨ ∃ q, o = .threw q ∧ vx_T XC st q t mc ms free
/-- a callee that returns or throws -/
def vx_Met (l : Launch) (y : MethodName) (ws : List Cond) (rm : Room) (Pc : Array Value → State → Prop) (Qc : Array Value → State → Outcome → State → Prop) (XC : String → State → State → Prop) (mc ms : Nat) (free : Addr → Prop) : Prop :=
  MetFree l y (headSpec ws rm) Pc (fun _ _ _ _ _ => True) (vx_Q Qc XC mc ms free)
def vx_Post (XC : String → State → State → Prop) (mc ms : Nat) (free : Addr → Prop) : Pt → Array Value → Addr → Pt → Prop := fun A a q B =>
  ∃ (g : JFrame) (mk : MethodId) (t : State) (L : List Loc) (E : String) (ce : Cell), B.U.heap = t.heap ∧ B.U.vm = t.vm ∧ XC E (A.U.calling g mk a) t ∧ t.heap[q]? = some ce ∧ ce.vm = .none ∧ A.U.vm.findClass E = some ce.cls ∧ B.locs = A.locs ++ L ∧ (∀ z ∈ L, free z.base) ∧ B.cells = A.cells + mc ∧ B.slots = A.slots + ms
def vx_Back (l : Launch) (R : Room) (p : Program) (e : Env) (below : List Frame) (s : State) (sargs : Array Value) (y : MethodName) (len W9 : Nat)
    (Pre : Pt → Array Value → Prop) (Post : Pt → Array Value → Option Value → Pt → Prop) (PostX : Pt → Array Value → Addr → Pt → Prop) : Prop :=
  ∀ (m : MethodId) (meth : Method) (c : Code) (A : Pt) (g : JFrame) (ig : Instr) (mk : MethodId) (a : Array Value),
    Stand p l e R s m sargs below meth c A.U A.locs A.cells A.slots → g.method = m → g.locals.size = c.maxLocals → decode c.code g.pc = .ok (ig, len) →
    2 * g.monitorRoom + (g.stack.map fun v => v.category).sum ≤ W9 → A.U.methodNamed? y = some mk → Pre A a →
    (∃ (v : Option Value) (B : Pt), Stand p l e R s m sargs below meth c B.U B.locs B.cells B.slots ∧ Post A a v B ∧
      Steps p.tables e below (doInvoke e (A.U.setTop g) [] mk a).1 (B.U.setTop { g with pc := g.pc + len, stack := v.toList ++ g.stack })) ∨
    (∃ (q : Addr) (B : Pt), Stand p l e R s m sargs below meth c B.U B.locs B.cells B.slots ∧ PostX A a q B ∧
      Steps p.tables e below (doInvoke e (A.U.setTop g) [] mk a).1 ((B.U.setTop g).pushFrame (.throwing q)))
section Payer
variable {l : Launch} {R : Room} {p : Program} {e : Env} {below : List Frame} {s : State} {sargs : Array Value} {y : MethodName} {len W9 : Nat}
theorem vx_back {ws : List Cond} {rm : Room} {Pc : Array Value → State → Prop} {Qc : Array Value → State → Outcome → State → Prop} {XC : String → State → State → Prop} {mc ms : Nat} {free : Addr → Prop} {bytes : ByteArray} {maxL : Nat} {ret : Option FieldType}
    (hM : vx_Met l y ws rm Pc Qc XC mc ms free) (hblind : FrameBlind Pc) (hrc : rm.cells = mc) (hrs : rm.slots = ms)
    (hframes : rm.frames + 1 ≤ R.frames) (hlocals : W9 + (maxL + 11) + rm.locals ≤ R.locals)
    (hws : ∀ w ∈ ws, ∀ a' U, s.WarmedH U.vm → w.before a' U = true) (hcode : Cond.code y bytes maxL ret ∈ ws) (hinit : ∀ a' U, s.WarmedH U.vm → (Cond.initialized y.cls).before a' U = true) :
    vx_Back l R p e below s sargs y len W9 (PreOf R mc ms Pc) (PostOf Qc mc ms free) (vx_Post XC mc ms free) := by
  intro m meth c A g ig mk a X hg hsize hdg hW hn hp
  have h1 : (headSpec ws rm).pre.before a A.U = true := atoms_intro fun w hw => hws w hw _ _ X.warmed
  have h2 : (Cond.code y bytes maxL ret).before a A.U = true := hws _ hcode _ _ X.warmed
  have h3 : (Cond.initialized y.cls).before a A.U = true := hinit _ _ X.warmed
  have h4 : A.cells + (headSpec ws rm).room.cells ≤ R.cells := by rw [show (headSpec ws rm).room.cells = mc from hrc]; exact hp.1
  have h5 : A.slots + (headSpec ws rm).room.slots ≤ R.slots := by rw [show (headSpec ws rm).room.slots = ms from hrs]; exact hp.2.1
  have hPc : Pc a (A.U.calling g mk a) := hblind _ _ _ _ hp.2.2
  obtain ⟨U, Ls, c0, s0⟩ := A
  dsimp only [Pt.U, Pt.locs, Pt.cells, Pt.slots] at h1 h2 h3 h4 h5 X hn hPc ⊢
  obtain ⟨methY, cY, hmY, hcY, -, hlY, -, -, -, -⟩ := Cond.code_spec hn h2
  obtain ⟨kY, hkY, -⟩ := className_of_methodNamed hn
  have hinitY : kY.init = .initialized := Cond.initialized_spec (findClass_of_methodNamed hn) hkY h3
  have h : At U g.method c below := by rw [hg]; exact X.here
  have hlocals9 : W9 + (maxL + 11) + (headSpec ws rm).room.locals ≤ R.locals := hlocals
  have happ : (headSpec ws rm).appliesLoose y e.platform (U.calling g mk a) = true :=
    Spec.appliesLoose_calling (g := g) h hdg hn hkY hinitY
      (X.room_calling (g := g) (R' := (headSpec ws rm).room) hsize hmY hcY hframes (by rw [hlY]; omega) h4 h5) h1
  obtain ⟨mid, hmid⟩ := h.above
  have hfr : (U.setTop g).frames = (.java g :: mid) ++ below := by rw [State.frames_setTop' g h.top, hmid]; rfl
  obtain ⟨o, s₂, hsteps, -, hend, hq⟩ := Steps.callFree hM p X.admits X.cas X.clock (acts := []) hfr happ hPc trivial
  have hq' : vx_Q Qc XC mc ms free a (U.calling g mk a) o s₂ := hq
  rw [State.frames_setTop' g h.top] at hend
  obtain ⟨g₀, hg0⟩ := Option.isSome_iff_exists.mp h.top
  obtain ⟨r, hr⟩ := State.topJava?_eq_some.mp hg0
  have hr' : (({ U with heap := s₂.heap, slotsUsed := s₂.slotsUsed } : State).setVm s₂.vm).frames = .java g₀ :: r := hr
  rcases hq' with ⟨hqc, L, hfe, hL⟩ | ⟨q, rfl, E, ce, L, hx, hce, hcv, hcl, hW₂, hsm, hL⟩
  · obtain ⟨⟨v, rfl⟩, hW₂, e2, q2, q3, q4, q5, q6⟩ := id hfe
    have e3 : s₂ = ({ (U.calling g mk a).setFrames s₂.frames with heap := s₂.heap, slotsUsed := s₂.slotsUsed } : State).setVm s₂.vm := by
      have : s₂ = ({ s₂ with vm := (U.calling g mk a).vm } : State).setVm s₂.vm := rfl
      rw [e2] at this
      exact this
    obtain ⟨c₂, i₂, len₂, hc₂, hd₂, hf₂⟩ := hend
    have hW' : U.WarmedH s₂.vm := hW₂
    have hcc : c₂ = c := by
      have h1 : s₂.code? g.method = U.code? g.method := by
        rw [State.code?_eq, State.code?_eq, hW'.alike.method?]
      exact Option.some.inj (hc₂.symm.trans (h1.trans h.code))
    subst hcc
    have hlen : len₂ = len := by rw [hdg] at hd₂; cases hd₂; rfl
    subst hlen
    have hs₂ : s₂ = (({ U with heap := s₂.heap, slotsUsed := s₂.slotsUsed } : State).setVm s₂.vm).setTop { g with pc := g.pc + len₂, stack := v.toList ++ g.stack } := by
      refine e3.trans ?_
      rw [hf₂, State.calling_eq h.top, State.setFrames_setFrames, State.setTop_of_frames _ hr', hr]
      rfl
    have hsame : U.sameButNew ({ U with heap := s₂.heap, slotsUsed := s₂.slotsUsed } : State) L mc ms := by
      refine ⟨?_, q2, q3, q4, q5, q6⟩
      obtain ⟨t, ht, -⟩ := State.frames_cons hr
      show ({ U with heap := s₂.heap, slotsUsed := s₂.slotsUsed } : State) = { U.setFrames U.frames with heap := s₂.heap, slotsUsed := s₂.slotsUsed }
      rw [State.setFrames_self ht]
    subst hg
    refine Or.inl ⟨v, ⟨(({ U with heap := s₂.heap, slotsUsed := s₂.slotsUsed } : State).setVm s₂.vm), Ls ++ L, c0 + mc, s0 + ms⟩,
      ⟨X.admits, X.cas, X.clock, X.frames, X.room, X.hears, X.method, X.code, (X.here.setHeapUsed s₂.heap s₂.slotsUsed).setVm hW'.alike, X.tail, State.WarmedH.trans X.warmed hW', X.limits, X.bytes, X.same.trans (hsame.setVm s.vm)⟩,
      ⟨g, mk, s₂, L, rfl, rfl, hqc, rfl, hL, rfl, rfl⟩, ?_⟩
    show Steps p.tables e below _ ((({ U with heap := s₂.heap, slotsUsed := s₂.slotsUsed } : State).setVm s₂.vm).setTop { g with pc := g.pc + len₂, stack := v.toList ++ g.stack })
    rw [← hs₂]
    exact hsteps
  · obtain ⟨e2, q2, q3, q4, q5, q6⟩ := id hsm
    have e3 : s₂ = ({ (U.calling g mk a).setFrames s₂.frames with heap := s₂.heap, slotsUsed := s₂.slotsUsed } : State).setVm s₂.vm := by
      have : s₂ = ({ s₂ with vm := (U.calling g mk a).vm } : State).setVm s₂.vm := rfl
      rw [e2] at this
      exact this
    have hf₂ : s₂.frames = .throwing q :: .java g :: U.frames.tail := hend
    have hW' : U.WarmedH s₂.vm := hW₂
    have hs₂ : s₂ = ((({ U with heap := s₂.heap, slotsUsed := s₂.slotsUsed } : State).setVm s₂.vm).setTop g).pushFrame (.throwing q) := by
      refine e3.trans ?_
      rw [hf₂, State.calling_eq h.top, State.setFrames_setFrames, State.pushFrame, State.frames_setTop _ hr', State.setTop_of_frames _ hr', State.setFrames_setFrames, hr]
      rfl
    have hsame : U.sameButNew ({ U with heap := s₂.heap, slotsUsed := s₂.slotsUsed } : State) L mc ms := by
      refine ⟨?_, q2, q3, q4, q5, q6⟩
      obtain ⟨t, ht, -⟩ := State.frames_cons hr
      show ({ U with heap := s₂.heap, slotsUsed := s₂.slotsUsed } : State) = { U.setFrames U.frames with heap := s₂.heap, slotsUsed := s₂.slotsUsed }
      rw [State.setFrames_self ht]
    subst hg
    refine Or.inr ⟨q, ⟨(({ U with heap := s₂.heap, slotsUsed := s₂.slotsUsed } : State).setVm s₂.vm), Ls ++ L, c0 + mc, s0 + ms⟩,
      ⟨X.admits, X.cas, X.clock, X.frames, X.room, X.hears, X.method, X.code, (X.here.setHeapUsed s₂.heap s₂.slotsUsed).setVm hW'.alike, X.tail, State.WarmedH.trans X.warmed hW', X.limits, X.bytes, X.same.trans (hsame.setVm s.vm)⟩,
      ⟨g, mk, s₂, L, E, ce, rfl, rfl, hx, hce, hcv, hcl, rfl, hL, rfl, rfl⟩, ?_⟩
    show Steps p.tables e below _ (((({ U with heap := s₂.heap, slotsUsed := s₂.slotsUsed } : State).setVm s₂.vm).setTop g).pushFrame (.throwing q))
    rw [← hs₂]
    exact hsteps
end Payer
section Calls
variable {p : Program} {l : Launch} {e : Env} {R : Room} {s : State} {m : MethodId} {args : Array Value} {below : List Frame} {meth : Method} {c : Code} {T : State} {locs : List Loc} {cells slots : Nat}
theorem vx_callV (X : Stand p l e R s m args below meth c T locs cells slots) (hexec : p.tables.exec = Jvm.exec) {own C : String} {index : Nat} {y : MethodName} {bytes : ByteArray} {maxL : Nat} {ret : Option FieldType}
    (hown : s.vm.findClass own = some m.cls) (hlink : (Cond.methodLink own index y).before args s = true) (hinst : (Cond.instanceMethod y).before args s = true) (hsel : (Cond.selects C y y).before args s = true)
    (hcode : (Cond.code y bytes maxL ret).before args s = true) (hy : y.cls ≠ "java/lang/invoke/MethodHandle" ∧ y.cls ≠ "java/lang/invoke/VarHandle")
    {W9 : Nat} {Pre : Pt → Array Value → Prop} {Post : Pt → Array Value → Option Value → Pt → Prop} {PostX : Pt → Array Value → Addr → Pt → Prop} (hK : vx_Back l R p e below s args y 3 W9 Pre Post PostX)
    {b : Addr} {cellB : Cell} (hcell : T.heap[b]? = some cellB) (hobj : cellB.vm.isStatics = false) (hcls : s.vm.findClass C = some cellB.cls)
    {g : JFrame} (hg : g.method = m) (hsize : g.locals.size = c.maxLocals) {argsL rest : List Value} (hlen : ∀ sig, parseMethodDescriptor y.desc = some sig → argsL.length = sig.parameters.length)
    (hstack : g.stack = argsL.reverse ++ .ref b :: rest) (hW : 2 * g.monitorRoom + (rest.map fun v => v.category).sum ≤ W9) (hdg : decode c.code g.pc = .ok (.invokevirtual index, 3))
    (hpre : ∀ vm₁, s.WarmedH vm₁ → Pre ⟨T.setVm vm₁, locs, cells, slots⟩ (Value.ref b :: argsL).toArray) :
    (∃ (v : Option Value) (vm₁ : Vm) (B : Pt), s.WarmedH vm₁ ∧ Stand p l e R s m args below meth c B.U B.locs B.cells B.slots ∧ Post ⟨T.setVm vm₁, locs, cells, slots⟩ (Value.ref b :: argsL).toArray v B ∧
      ∀ target, Steps p.tables e below (B.U.setTop { g with pc := g.pc + 3, stack := v.toList ++ rest }) target → Steps p.tables e below (T.setTop g) target) ∨
    (∃ (q : Addr) (vm₁ : Vm) (B : Pt), s.WarmedH vm₁ ∧ Stand p l e R s m args below meth c B.U B.locs B.cells B.slots ∧ PostX ⟨T.setVm vm₁, locs, cells, slots⟩ (Value.ref b :: argsL).toArray q B ∧
      Steps p.tables e below (T.setTop g) ((B.U.setTop { g with stack := rest }).pushFrame (.throwing q))) := by
  obtain ⟨mk, methM, hnamed, hmethM, hstM, habM⟩ := Cond.instanceMethod_spec hinst
  obtain ⟨methM', cM, hmethM', -, -, -, -, -, -, hsigM⟩ := Cond.code_spec hnamed hcode
  cases hmethM.symm.trans hmethM'
  obtain ⟨c2, r2, m2, q1, q2, q3, q4, kP, hkP, hkPi⟩ := Cond.selects_spec hsel
  cases hcls.symm.trans q1
  cases (State.methodFound?_of_named hnamed hy).symm.trans q2
  cases hnamed.symm.trans q3
  have hselP : selectMethod e.platform s.vm cellB.cls mk = .method mk := by rw [Launch.admits_selectMethod X.admits]; exact q4
  obtain ⟨vm₁, X₁, hstep₁⟩ := X.invokevirtual hexec hown hlink hnamed hmethM hstM hkP hkPi hy (a := b) (cell := cellB) hcell
    (fun z h => by rw [h] at hobj; cases hobj) hselP hmethM habM hkP hkPi (g := g) hg (argsL := argsL) (rest := rest) (hlen _ hsigM) hstack hdg
  rcases hK m meth c ⟨T.setVm vm₁, locs, cells, slots⟩ { g with stack := rest } (.invokevirtual index) mk (Value.ref b :: argsL).toArray X₁ hg hsize hdg hW (X₁.named hnamed) (hpre vm₁ X₁.warmed) with ⟨v, B, X', hpost, hsteps⟩ | ⟨q, B, X', hpost, hsteps⟩
  · exact Or.inl ⟨v, vm₁, B, X₁.warmed, X', hpost, fun target h => hstep₁ _ fun acts => by rw [doInvoke_state]; exact hsteps.trans h⟩
  · exact Or.inr ⟨q, vm₁, B, X₁.warmed, X', hpost, hstep₁ _ fun acts => by rw [doInvoke_state]; exact hsteps⟩
theorem vx_callS (X : Stand p l e R s m args below meth c T locs cells slots) (hexec : p.tables.exec = Jvm.exec) {own : String} {index : Nat} {y : MethodName} {bytes : ByteArray} {maxL : Nat} {ret : Option FieldType}
    (hown : s.vm.findClass own = some m.cls) (hlink : (Cond.methodLink own index y).before args s = true) (hstat : (Cond.static y).before args s = true) (hinit : (Cond.initialized y.cls).before args s = true)
    (hcode : (Cond.code y bytes maxL ret).before args s = true) (hy : y.cls ≠ "java/lang/invoke/MethodHandle" ∧ y.cls ≠ "java/lang/invoke/VarHandle")
    {W9 : Nat} {Pre : Pt → Array Value → Prop} {Post : Pt → Array Value → Option Value → Pt → Prop} {PostX : Pt → Array Value → Addr → Pt → Prop} (hK : vx_Back l R p e below s args y 3 W9 Pre Post PostX)
    {g : JFrame} (hg : g.method = m) (hsize : g.locals.size = c.maxLocals) {argsL rest : List Value} (hlen : ∀ sig, parseMethodDescriptor y.desc = some sig → argsL.length = sig.parameters.length)
    (hstack : g.stack = argsL.reverse ++ rest) (hW : 2 * g.monitorRoom + (rest.map fun v => v.category).sum ≤ W9) (hdg : decode c.code g.pc = .ok (.invokestatic index, 3))
    (hpre : ∀ vm₁, s.WarmedH vm₁ → Pre ⟨T.setVm vm₁, locs, cells, slots⟩ argsL.toArray) :
    (∃ (v : Option Value) (vm₁ : Vm) (B : Pt), s.WarmedH vm₁ ∧ Stand p l e R s m args below meth c B.U B.locs B.cells B.slots ∧ Post ⟨T.setVm vm₁, locs, cells, slots⟩ argsL.toArray v B ∧
      ∀ target, Steps p.tables e below (B.U.setTop { g with pc := g.pc + 3, stack := v.toList ++ rest }) target → Steps p.tables e below (T.setTop g) target) ∨
    (∃ (q : Addr) (vm₁ : Vm) (B : Pt), s.WarmedH vm₁ ∧ Stand p l e R s m args below meth c B.U B.locs B.cells B.slots ∧ PostX ⟨T.setVm vm₁, locs, cells, slots⟩ argsL.toArray q B ∧
      Steps p.tables e below (T.setTop g) ((B.U.setTop { g with stack := rest }).pushFrame (.throwing q))) := by
  obtain ⟨mk, hnamed⟩ := Cond.code_named hcode
  obtain ⟨methM, cM, hmethM, -, -, -, -, -, -, hsigM⟩ := Cond.code_spec hnamed hcode
  have hstatic : methM.isStatic = true := Cond.static_spec hnamed hmethM hstat
  obtain ⟨kP, hkP, -⟩ := className_of_methodNamed hnamed
  have hinitP : kP.init = .initialized := Cond.initialized_spec (findClass_of_methodNamed hnamed) hkP hinit
  obtain ⟨vm₁, X₁, hstep₁⟩ := X.invokestatic hexec hown hlink hnamed hmethM hstatic hkP hinitP hy (g := g) hg (argsL := argsL) (rest := rest) (hlen _ hsigM) hstack hdg
  rcases hK m meth c ⟨T.setVm vm₁, locs, cells, slots⟩ { g with stack := rest } (.invokestatic index) mk argsL.toArray X₁ hg hsize hdg hW (X₁.named hnamed) (hpre vm₁ X₁.warmed) with ⟨v, B, X', hpost, hsteps⟩ | ⟨q, B, X', hpost, hsteps⟩
  · exact Or.inl ⟨v, vm₁, B, X₁.warmed, X', hpost, fun target h => hstep₁ _ fun acts => by rw [doInvoke_state]; exact hsteps.trans h⟩
  · exact Or.inr ⟨q, vm₁, B, X₁.warmed, X', hpost, hstep₁ _ fun acts => by rw [doInvoke_state]; exact hsteps⟩
end Calls
theorem vx_cls {s : State} {T : State} {vm₁ : Vm} {E : String} {k : ClassId} (hW : s.WarmedH vm₁) (h : (T.setVm vm₁).vm.findClass E = some k) : s.vm.findClass E = some k := by
  have h1 : vm₁.findClass E = some k := h
  rw [hW.alike.findClass] at h1
  exact h1
/-- the method's frame g, with q thrown over it -/
def vx_W (p : Program) (l : Launch) (e : Env) (R : Room) (s : State) (m : MethodId) (args : Array Value) (below : List Frame) (meth : Method) (c : Code) (H : Heap) (locs : List Loc) (cells slots : Nat) (Q : State → Prop) (g : JFrame) (q : Addr) : Prop :=
  ∀ T : State, T.heap = H → Stand p l e R s m args below meth c T locs cells slots → ∃ t, Steps p.tables e below ((T.setTop g).pushFrame (.throwing q)) t ∧ Q t
def vx_Run (p : Program) (l : Launch) (e : Env) (R : Room) (s : State) (m : MethodId) (args : Array Value) (below : List Frame) (meth : Method) (c : Code) (H : Heap) (locs : List Loc) (cells slots mc ms : Nat) (g : JFrame) (rest : List Value) (Qa : State → Outcome → State → Prop) (XC : String → State → State → Prop) (free : Addr → Prop) : Prop :=
  ∀ T : State, T.heap = H → Stand p l e R s m args below meth c T locs cells slots →
    (∃ (v : Option Value) (st₀ t T' : State) (L : List Loc), st₀.heap = H ∧ Stand p l e R s m args below meth c T' (locs ++ L) (cells + mc) (slots + ms) ∧ (∀ q ∈ L, free q.base) ∧ T'.heap = t.heap ∧ T'.vm = t.vm ∧ Qa st₀ (.returned v) t ∧
      Goes p e below T g T' { g with pc := g.pc + 3, stack := v.toList ++ rest }) ∨
    (∃ (q : Addr) (st₀ t T' : State) (L : List Loc) (E : String) (ce : Cell), st₀.heap = H ∧ Stand p l e R s m args below meth c T' (locs ++ L) (cells + mc) (slots + ms) ∧ (∀ z ∈ L, free z.base) ∧ T'.heap = t.heap ∧ T'.vm = t.vm ∧ XC E st₀ t ∧ t.heap[q]? = some ce ∧ ce.vm = .none ∧ s.vm.findClass E = some ce.cls ∧
      Steps p.tables e below (T.setTop g) ((T'.setTop { g with stack := rest }).pushFrame (.throwing q)))
def vx_X {S : Type} (px : S → Prop) (B : String → S → State → Prop) (A : Nat → Prop) : String → State → State → Prop := fun E st t => ∃ u : S, px u ∧ B E u t ∧ va_F A st t
section Runs
variable {p : Program} {l : Launch} {e : Env} {R : Room} {s : State} {m : MethodId} {args : Array Value} {below : List Frame} {meth : Method} {c : Code} {H : Heap} {locs : List Loc} {cells slots : Nat}
variable {y : MethodName} {bytes cc : ByteArray} {maxL nL mc ms n index : Nat} {ret : Option FieldType} {ws : List Cond} {rm : Room} {Pc : Array Value → State → Prop} {Qc : Array Value → State → Outcome → State → Prop} {XC : String → State → State → Prop} {free : Addr → Prop} {Ts : List Cond} {own C : String} {b : Addr} {As rest : List Value} {g : JFrame}
theorem vx_callBack (cb : CallB R s args own index y bytes maxL ret ws rm mc ms n) (hM : vx_Met l y ws rm Pc Qc XC mc ms free) (hbl : FrameBlind Pc) : vx_Back l R p e below s args y 3 8 (PreOf R mc ms Pc) (PostOf Qc mc ms free) (vx_Post XC mc ms free) := by
  obtain ⟨hrc, hrs, hfr, hlo, hws, hcw, -, hini, -⟩ := cb
  exact vx_back (bytes := bytes) (maxL := maxL) (ret := ret) hM hbl hrc hrs hfr hlo hws hcw (fun a' U hW => word_at hW (Or.inl (by first | rfl | simp [Cond.onTables, Cond.keeps, Cond.steady])) hini)
theorem vx_runV (S : CallFix p m c cc nL s args Ts own) (hM : vx_Met l y ws rm Pc Qc XC mc ms free) (cw : CallW R s args own C index y bytes maxL ret ws rm mc ms n) (hp : PreV s H C b Pc As)
    (hg : g.method = m) (hn : As.length = n) (hsize : g.locals.size = nL) (hstack : g.stack = As.reverse ++ .ref b :: rest) (hW : 2 * g.monitorRoom + (rest.map fun v => v.category).sum ≤ 8) (hdg : decode cc g.pc = .ok (.invokevirtual index, 3)) (hf : cells + mc ≤ R.cells ∧ slots + ms ≤ R.slots) :
    vx_Run p l e R s m args below meth c H locs cells slots mc ms g rest (Qc (Value.ref b :: As).toArray) XC free := by
  have hK : vx_Back l R p e below s args y 3 8 (PreOf R mc ms Pc) (PostOf Qc mc ms free) (vx_Post XC mc ms free) := vx_callBack cw.1 hM hp.1
  obtain ⟨⟨-, -, -, -, -, -, hcode, -, hy, hlen, hl⟩, hin, hse⟩ := cw
  obtain ⟨hx, hb, hml, ho, -⟩ := S
  obtain ⟨-, ⟨cellB, hcB, hoB, hclB⟩, hPc⟩ := hp
  intro T hT X
  rcases vx_callV X hx (C := C) (bytes := bytes) (maxL := maxL) (ret := ret) ho hl hin hse hcode hy hK (by rw [hT]; exact hcB) hoB hclB hg (hsize.trans hml.symm) (argsL := As) (rest := rest) (fun sig h => hn.trans (hlen sig h)) hstack hW (by rw [hb]; exact hdg)
    (fun vm₁ hW₁ => ⟨hf.1, hf.2, hPc (T.setVm vm₁) hT hW₁⟩) with ⟨v, vm₁, ⟨U', l2, c2, s2⟩, hW₁, X', ⟨g', mk, t, L, e1, e2, hq, h1, hL, h2, h3⟩, st⟩ | ⟨q, vm₁, ⟨U', l2, c2, s2⟩, hW₁, X', ⟨g', mk, t, L, E, ce, e1, e2, hq, hce, hcv, hcl, h1, hL, h2, h3⟩, st⟩
  · dsimp only [Pt.U, Pt.locs, Pt.cells, Pt.slots] at X' e1 e2 h1 h2 h3 st
    subst h1; subst h2; subst h3
    exact Or.inl ⟨v, (T.setVm vm₁).calling g' mk (Value.ref b :: As).toArray, t, U', L, hT, X', hL, e1, e2, hq, st⟩
  · dsimp only [Pt.U, Pt.locs, Pt.cells, Pt.slots] at X' e1 e2 h1 h2 h3 st hcl
    subst h1; subst h2; subst h3
    exact Or.inr ⟨q, (T.setVm vm₁).calling g' mk (Value.ref b :: As).toArray, t, U', L, E, ce, hT, X', hL, e1, e2, hq, hce, hcv, vx_cls hW₁ hcl, st⟩
theorem vx_runS (S : CallFix p m c cc nL s args Ts own) (hM : vx_Met l y ws rm Pc Qc XC mc ms free) (cw : CallB R s args own index y bytes maxL ret ws rm mc ms n ∧ (Cond.static y).before args s = true) (hp : PreS s H Pc As)
    (hg : g.method = m) (hn : As.length = n) (hsize : g.locals.size = nL) (hstack : g.stack = As.reverse ++ rest) (hW : 2 * g.monitorRoom + (rest.map fun v => v.category).sum ≤ 8) (hdg : decode cc g.pc = .ok (.invokestatic index, 3)) (hf : cells + mc ≤ R.cells ∧ slots + ms ≤ R.slots) :
    vx_Run p l e R s m args below meth c H locs cells slots mc ms g rest (Qc As.toArray) XC free := by
  have hK : vx_Back l R p e below s args y 3 8 (PreOf R mc ms Pc) (PostOf Qc mc ms free) (vx_Post XC mc ms free) := vx_callBack cw.1 hM hp.1
  obtain ⟨⟨-, -, -, -, -, -, hcode, hini, hy, hlen, hl⟩, hstt⟩ := cw
  obtain ⟨hx, hb, hml, ho, -⟩ := S
  intro T hT X
  rcases vx_callS X hx (bytes := bytes) (maxL := maxL) (ret := ret) ho hl hstt hini hcode hy hK hg (hsize.trans hml.symm) (argsL := As) (rest := rest) (fun sig h => hn.trans (hlen sig h)) hstack hW (by rw [hb]; exact hdg)
    (fun vm₁ hW₁ => ⟨hf.1, hf.2, hp.2 (T.setVm vm₁) hT hW₁⟩) with ⟨v, vm₁, ⟨U', l2, c2, s2⟩, hW₁, X', ⟨g', mk, t, L, e1, e2, hq, h1, hL, h2, h3⟩, st⟩ | ⟨q, vm₁, ⟨U', l2, c2, s2⟩, hW₁, X', ⟨g', mk, t, L, E, ce, e1, e2, hq, hce, hcv, hcl, h1, hL, h2, h3⟩, st⟩
  · dsimp only [Pt.U, Pt.locs, Pt.cells, Pt.slots] at X' e1 e2 h1 h2 h3 st
    subst h1; subst h2; subst h3
    exact Or.inl ⟨v, (T.setVm vm₁).calling g' mk As.toArray, t, U', L, hT, X', hL, e1, e2, hq, st⟩
  · dsimp only [Pt.U, Pt.locs, Pt.cells, Pt.slots] at X' e1 e2 h1 h2 h3 st hcl
    subst h1; subst h2; subst h3
    exact Or.inr ⟨q, (T.setVm vm₁).calling g' mk As.toArray, t, U', L, E, ce, hT, X', hL, e1, e2, hq, hce, hcv, vx_cls hW₁ hcl, st⟩
end Runs
section Rows
variable {p : Program} {l : Launch} {e : Env} {R : Room} {s : State} {m : MethodId} {args : Array Value} {below : List Frame} {meth : Method} {c : Code} {H : Heap} {locs : List Loc} {cells slots : Nat} {Q : State → Prop}
variable {mc ms : Nat} {free : Addr → Prop} {A0 A1 : Nat → Prop} {H0 : Heap} {a : Array Value} {pc : Nat} {ls : Array Slot} {st0 rest : List Value}
theorem vx_keep {st₀ t T' : State} {L : List Loc} (h0 : st₀.heap = H) (e1 : T'.heap = t.heap) (hS : va_S A0 H0 H locs) (hA : ∀ q, q < H.size → A1 q → A0 q) (hf : ∀ q, free q → A0 q) (hL : ∀ q ∈ L, free q.base) (hF : va_F A1 st₀ t) :
    H.size ≤ T'.heap.size ∧ (∀ q : Nat, q < H.size → ¬ A1 q → T'.heap[q]? = H[q]?) ∧ va_S A0 H0 T'.heap (locs ++ L) := by
  obtain ⟨hz, hk⟩ := hF
  rw [h0] at hz hk
  exact ⟨by rw [e1]; exact hz, fun q h1 h2 => by rw [e1]; exact hk q h1 h2,
    ⟨Nat.le_trans hS.1 (by rw [e1]; exact hz), fun q h1 h2 => by rw [e1, hk q (Nat.lt_of_lt_of_le h1 hS.1) (fun z => h2 (hA q (Nat.lt_of_lt_of_le h1 hS.1) z))]; exact hS.2.1 q h1 h2, fun q hq => by
      rcases List.mem_append.mp hq with h | h
      · exact hS.2.2 q h
      · exact hf _ (hL q h)⟩⟩
theorem vx_calli {S SX : Type} {post : Int32 → S → Prop} {px : SX → Prop} {B : S → State → Prop} {BX : String → SX → State → Prop} {AX : Nat → Prop} (hr : vx_Run p l e R s m args below meth c H locs cells slots mc ms (F0 m pc ls st0) rest (va_Qi post B A1 a) (vx_X px BX AX) free) (hS : va_S A0 H0 H locs) (hA : ∀ q, q < H.size → A1 q → A0 q) (hf : ∀ q, free q → A0 q) (hAX : ∀ q, q < H.size → AX q → A0 q)
    (kx : ∀ (E : String) (ce : Cell) (q9 : Addr) (u : SX) (t : State) (H1 : Heap) (locs1 : List Loc), t.heap = H1 → s.vm.Alike t.vm → px u → BX E u t → H.size ≤ H1.size → (∀ q : Nat, q < H.size → ¬ AX q → H1[q]? = H[q]?) → va_S A0 H0 H1 locs1 → H1[q9]? = some ce → ce.vm = .none → s.vm.findClass E = some ce.cls → vx_W p l e R s m args below meth c H1 locs1 (cells + mc) (slots + ms) Q (F0 m pc ls rest) q9)
    (kk : ∀ (r : Int32) (u : S) (t : State) (H1 : Heap) (locs1 : List Loc), t.heap = H1 → s.vm.Alike t.vm → post r u → B u t → H.size ≤ H1.size → (∀ q : Nat, q < H.size → ¬ A1 q → H1[q]? = H[q]?) → va_S A0 H0 H1 locs1 → W p l e R s m args below meth c H1 locs1 (cells + mc) (slots + ms) Q (F0 m (pc + 3) ls (.int r :: rest))) : W p l e R s m args below meth c H locs cells slots Q (F0 m pc ls st0) := by
  intro T hT X
  rcases hr T hT X with ⟨v, st₀, t, T', L, h0, X', hL, e1, e2, ⟨⟨r, u, hv, hp, hb⟩, hF⟩, st⟩ | ⟨q, st₀, t, T', L, E, ce, h0, X', hL, e1, e2, ⟨u, hp, hb, hF⟩, hce, hcv, hcl, st⟩
  · cases hv
    obtain ⟨k1, k2, k3⟩ := vx_keep h0 e1 hS hA hf hL hF
    obtain ⟨t2, a1, b1⟩ := kk r u t T'.heap (locs ++ L) e1.symm (by rw [← e2]; exact X'.warmed.alike) hp hb k1 k2 k3 T' rfl X'
    exact ⟨t2, st t2 a1, b1⟩
  · obtain ⟨k1, k2, k3⟩ := vx_keep h0 e1 hS hAX hf hL hF
    obtain ⟨t2, a1, b1⟩ := kx E ce q u t T'.heap (locs ++ L) e1.symm (by rw [← e2]; exact X'.warmed.alike) hp hb k1 k2 k3 (by rw [e1]; exact hce) hcv hcl T' rfl X'
    exact ⟨t2, st.trans a1, b1⟩
theorem vx_calll {S SX : Type} {post : Int64 → S → Prop} {px : SX → Prop} {B : S → State → Prop} {BX : String → SX → State → Prop} {AX : Nat → Prop} (hr : vx_Run p l e R s m args below meth c H locs cells slots mc ms (F0 m pc ls st0) rest (va_Ql post B A1 a) (vx_X px BX AX) free) (hS : va_S A0 H0 H locs) (hA : ∀ q, q < H.size → A1 q → A0 q) (hf : ∀ q, free q → A0 q) (hAX : ∀ q, q < H.size → AX q → A0 q)
    (kx : ∀ (E : String) (ce : Cell) (q9 : Addr) (u : SX) (t : State) (H1 : Heap) (locs1 : List Loc), t.heap = H1 → s.vm.Alike t.vm → px u → BX E u t → H.size ≤ H1.size → (∀ q : Nat, q < H.size → ¬ AX q → H1[q]? = H[q]?) → va_S A0 H0 H1 locs1 → H1[q9]? = some ce → ce.vm = .none → s.vm.findClass E = some ce.cls → vx_W p l e R s m args below meth c H1 locs1 (cells + mc) (slots + ms) Q (F0 m pc ls rest) q9)
    (kk : ∀ (r : Int64) (u : S) (t : State) (H1 : Heap) (locs1 : List Loc), t.heap = H1 → s.vm.Alike t.vm → post r u → B u t → H.size ≤ H1.size → (∀ q : Nat, q < H.size → ¬ A1 q → H1[q]? = H[q]?) → va_S A0 H0 H1 locs1 → W p l e R s m args below meth c H1 locs1 (cells + mc) (slots + ms) Q (F0 m (pc + 3) ls (.long r :: rest))) : W p l e R s m args below meth c H locs cells slots Q (F0 m pc ls st0) := by
  intro T hT X
  rcases hr T hT X with ⟨v, st₀, t, T', L, h0, X', hL, e1, e2, ⟨⟨r, u, hv, hp, hb⟩, hF⟩, st⟩ | ⟨q, st₀, t, T', L, E, ce, h0, X', hL, e1, e2, ⟨u, hp, hb, hF⟩, hce, hcv, hcl, st⟩
  · cases hv
    obtain ⟨k1, k2, k3⟩ := vx_keep h0 e1 hS hA hf hL hF
    obtain ⟨t2, a1, b1⟩ := kk r u t T'.heap (locs ++ L) e1.symm (by rw [← e2]; exact X'.warmed.alike) hp hb k1 k2 k3 T' rfl X'
    exact ⟨t2, st t2 a1, b1⟩
  · obtain ⟨k1, k2, k3⟩ := vx_keep h0 e1 hS hAX hf hL hF
    obtain ⟨t2, a1, b1⟩ := kx E ce q u t T'.heap (locs ++ L) e1.symm (by rw [← e2]; exact X'.warmed.alike) hp hb k1 k2 k3 (by rw [e1]; exact hce) hcv hcl T' rfl X'
    exact ⟨t2, st.trans a1, b1⟩
theorem vx_callf {S SX : Type} {post : UInt32 → S → Prop} {px : SX → Prop} {B : S → State → Prop} {BX : String → SX → State → Prop} {AX : Nat → Prop} (hr : vx_Run p l e R s m args below meth c H locs cells slots mc ms (F0 m pc ls st0) rest (va_Qf post B A1 a) (vx_X px BX AX) free) (hS : va_S A0 H0 H locs) (hA : ∀ q, q < H.size → A1 q → A0 q) (hf : ∀ q, free q → A0 q) (hAX : ∀ q, q < H.size → AX q → A0 q)
    (kx : ∀ (E : String) (ce : Cell) (q9 : Addr) (u : SX) (t : State) (H1 : Heap) (locs1 : List Loc), t.heap = H1 → s.vm.Alike t.vm → px u → BX E u t → H.size ≤ H1.size → (∀ q : Nat, q < H.size → ¬ AX q → H1[q]? = H[q]?) → va_S A0 H0 H1 locs1 → H1[q9]? = some ce → ce.vm = .none → s.vm.findClass E = some ce.cls → vx_W p l e R s m args below meth c H1 locs1 (cells + mc) (slots + ms) Q (F0 m pc ls rest) q9)
    (kk : ∀ (r : UInt32) (u : S) (t : State) (H1 : Heap) (locs1 : List Loc), t.heap = H1 → s.vm.Alike t.vm → post r u → B u t → H.size ≤ H1.size → (∀ q : Nat, q < H.size → ¬ A1 q → H1[q]? = H[q]?) → va_S A0 H0 H1 locs1 → W p l e R s m args below meth c H1 locs1 (cells + mc) (slots + ms) Q (F0 m (pc + 3) ls (.float r :: rest))) : W p l e R s m args below meth c H locs cells slots Q (F0 m pc ls st0) := by
  intro T hT X
  rcases hr T hT X with ⟨v, st₀, t, T', L, h0, X', hL, e1, e2, ⟨⟨r, u, hv, hp, hb⟩, hF⟩, st⟩ | ⟨q, st₀, t, T', L, E, ce, h0, X', hL, e1, e2, ⟨u, hp, hb, hF⟩, hce, hcv, hcl, st⟩
  · cases hv
    obtain ⟨k1, k2, k3⟩ := vx_keep h0 e1 hS hA hf hL hF
    obtain ⟨t2, a1, b1⟩ := kk r u t T'.heap (locs ++ L) e1.symm (by rw [← e2]; exact X'.warmed.alike) hp hb k1 k2 k3 T' rfl X'
    exact ⟨t2, st t2 a1, b1⟩
  · obtain ⟨k1, k2, k3⟩ := vx_keep h0 e1 hS hAX hf hL hF
    obtain ⟨t2, a1, b1⟩ := kx E ce q u t T'.heap (locs ++ L) e1.symm (by rw [← e2]; exact X'.warmed.alike) hp hb k1 k2 k3 (by rw [e1]; exact hce) hcv hcl T' rfl X'
    exact ⟨t2, st.trans a1, b1⟩
theorem vx_calld {S SX : Type} {post : UInt64 → S → Prop} {px : SX → Prop} {B : S → State → Prop} {BX : String → SX → State → Prop} {AX : Nat → Prop} (hr : vx_Run p l e R s m args below meth c H locs cells slots mc ms (F0 m pc ls st0) rest (va_Qd post B A1 a) (vx_X px BX AX) free) (hS : va_S A0 H0 H locs) (hA : ∀ q, q < H.size → A1 q → A0 q) (hf : ∀ q, free q → A0 q) (hAX : ∀ q, q < H.size → AX q → A0 q)
    (kx : ∀ (E : String) (ce : Cell) (q9 : Addr) (u : SX) (t : State) (H1 : Heap) (locs1 : List Loc), t.heap = H1 → s.vm.Alike t.vm → px u → BX E u t → H.size ≤ H1.size → (∀ q : Nat, q < H.size → ¬ AX q → H1[q]? = H[q]?) → va_S A0 H0 H1 locs1 → H1[q9]? = some ce → ce.vm = .none → s.vm.findClass E = some ce.cls → vx_W p l e R s m args below meth c H1 locs1 (cells + mc) (slots + ms) Q (F0 m pc ls rest) q9)
    (kk : ∀ (r : UInt64) (u : S) (t : State) (H1 : Heap) (locs1 : List Loc), t.heap = H1 → s.vm.Alike t.vm → post r u → B u t → H.size ≤ H1.size → (∀ q : Nat, q < H.size → ¬ A1 q → H1[q]? = H[q]?) → va_S A0 H0 H1 locs1 → W p l e R s m args below meth c H1 locs1 (cells + mc) (slots + ms) Q (F0 m (pc + 3) ls (.double r :: rest))) : W p l e R s m args below meth c H locs cells slots Q (F0 m pc ls st0) := by
  intro T hT X
  rcases hr T hT X with ⟨v, st₀, t, T', L, h0, X', hL, e1, e2, ⟨⟨r, u, hv, hp, hb⟩, hF⟩, st⟩ | ⟨q, st₀, t, T', L, E, ce, h0, X', hL, e1, e2, ⟨u, hp, hb, hF⟩, hce, hcv, hcl, st⟩
  · cases hv
    obtain ⟨k1, k2, k3⟩ := vx_keep h0 e1 hS hA hf hL hF
    obtain ⟨t2, a1, b1⟩ := kk r u t T'.heap (locs ++ L) e1.symm (by rw [← e2]; exact X'.warmed.alike) hp hb k1 k2 k3 T' rfl X'
    exact ⟨t2, st t2 a1, b1⟩
  · obtain ⟨k1, k2, k3⟩ := vx_keep h0 e1 hS hAX hf hL hF
    obtain ⟨t2, a1, b1⟩ := kx E ce q u t T'.heap (locs ++ L) e1.symm (by rw [← e2]; exact X'.warmed.alike) hp hb k1 k2 k3 (by rw [e1]; exact hce) hcv hcl T' rfl X'
    exact ⟨t2, st.trans a1, b1⟩
theorem vx_callv {S SX : Type} {post : S → Prop} {px : SX → Prop} {B : S → State → Prop} {BX : String → SX → State → Prop} {AX : Nat → Prop} (hr : vx_Run p l e R s m args below meth c H locs cells slots mc ms (F0 m pc ls st0) rest (va_Qv post B A1 a) (vx_X px BX AX) free) (hS : va_S A0 H0 H locs) (hA : ∀ q, q < H.size → A1 q → A0 q) (hf : ∀ q, free q → A0 q) (hAX : ∀ q, q < H.size → AX q → A0 q)
    (kx : ∀ (E : String) (ce : Cell) (q9 : Addr) (u : SX) (t : State) (H1 : Heap) (locs1 : List Loc), t.heap = H1 → s.vm.Alike t.vm → px u → BX E u t → H.size ≤ H1.size → (∀ q : Nat, q < H.size → ¬ AX q → H1[q]? = H[q]?) → va_S A0 H0 H1 locs1 → H1[q9]? = some ce → ce.vm = .none → s.vm.findClass E = some ce.cls → vx_W p l e R s m args below meth c H1 locs1 (cells + mc) (slots + ms) Q (F0 m pc ls rest) q9)
    (kk : ∀ (u : S) (t : State) (H1 : Heap) (locs1 : List Loc), t.heap = H1 → s.vm.Alike t.vm → post u → B u t → H.size ≤ H1.size → (∀ q : Nat, q < H.size → ¬ A1 q → H1[q]? = H[q]?) → va_S A0 H0 H1 locs1 → W p l e R s m args below meth c H1 locs1 (cells + mc) (slots + ms) Q (F0 m (pc + 3) ls (rest))) : W p l e R s m args below meth c H locs cells slots Q (F0 m pc ls st0) := by
  intro T hT X
  rcases hr T hT X with ⟨v, st₀, t, T', L, h0, X', hL, e1, e2, ⟨⟨u, hv, hp, hb⟩, hF⟩, st⟩ | ⟨q, st₀, t, T', L, E, ce, h0, X', hL, e1, e2, ⟨u, hp, hb, hF⟩, hce, hcv, hcl, st⟩
  · cases hv
    obtain ⟨k1, k2, k3⟩ := vx_keep h0 e1 hS hA hf hL hF
    obtain ⟨t2, a1, b1⟩ := kk u t T'.heap (locs ++ L) e1.symm (by rw [← e2]; exact X'.warmed.alike) hp hb k1 k2 k3 T' rfl X'
    exact ⟨t2, st t2 a1, b1⟩
  · obtain ⟨k1, k2, k3⟩ := vx_keep h0 e1 hS hAX hf hL hF
    obtain ⟨t2, a1, b1⟩ := kx E ce q u t T'.heap (locs ++ L) e1.symm (by rw [← e2]; exact X'.warmed.alike) hp hb k1 k2 k3 (by rw [e1]; exact hce) hcv hcl T' rfl X'
    exact ⟨t2, st.trans a1, b1⟩
/-- caught by the row x of this method's table; the rows ahead don't take it -/
theorem vx_catch {own name : String} {E : String} {ce : Cell} {q : Addr} (hown : s.vm.findClass own = some m.cls) (pre : List ExceptionTableEntry) (x : ExceptionTableEntry) (suf : List ExceptionTableEntry) (hsplit : c.exceptionTable.toList = pre ++ x :: suf)
    (hpass : ∀ z ∈ pre, covers z pc = false ∨ (z.catchType ≠ 0 ∧ ∃ nm : String, (Cond.classLink own z.catchType nm).before args s = true ∧ va_Nc E nm s)) (hx : covers x pc = true) (h0 : x.catchType ≠ 0)
    (hlink : (Cond.classLink own x.catchType name).before args s = true) (hcast : (Cond.castable E name).before args s = true) (hcell : H[q]? = some ce) (hv : ce.vm = .none) (hcl : s.vm.findClass E = some ce.cls)
    (kk : W p l e R s m args below meth c H locs cells slots Q (F0 m x.handlerPc ls [.ref q])) : vx_W p l e R s m args below meth c H locs cells slots Q (F0 m pc ls rest) q := by
  intro T hT X
  have hpl : e.platform.magicAccessors = ({} : Platform).magicAccessors := by rw [X.admits.platform]
  obtain ⟨c3, c4, hc3, hc4, hasg⟩ := Cond.castable_spec hcast
  cases Option.some.inj (hc3.symm.trans hcl)
  obtain ⟨c5, hc5, hcl5⟩ := Cond.classLink_spec hown hlink e.platform hpl
  cases Option.some.inj (hc4.symm.trans hc5)
  obtain ⟨vm', X', st⟩ := X.thenCaughtThrough q (g := F0 m pc ls rest) rfl (Steps.refl _) (by rw [hT]; exact hcell) (by rw [hv]; rfl) (by obtain ⟨k9, h9, -⟩ := Vm.findClass_spec hcl; exact ⟨k9, h9⟩) pre x suf hsplit
    (fun z hz => by
      rcases hpass z hz with h | ⟨hz0, nm, hl1, hn1⟩
      · exact Or.inl h
      · obtain ⟨c6, hc6, hcl6⟩ := Cond.classLink_spec hown hl1 e.platform hpl
        obtain ⟨a8, b8, h1, h2, h3⟩ := hn1
        cases Option.some.inj (h1.symm.trans hcl)
        cases Option.some.inj (h2.symm.trans hc6)
        exact Or.inr ⟨hz0, _, hcl6, h3⟩) hx (Or.inr ⟨h0, c4, hcl5, hasg⟩)
  obtain ⟨t, a1, b1⟩ := kk (T.setVm vm') hT X'
  exact ⟨t, st.trans a1, b1⟩
end Rows
section Ends
variable {p : Program} {l : Launch} {e : Env} {R : Room} {s : State} {m : MethodId} {args : Array Value} {below : List Frame} {meth : Method} {c : Code} {H : Heap} {locs : List Loc} {cells slots : Nat} {Q : State → Prop}
variable {mc ms : Nat} {free : Addr → Prop} {A0 A1 : Nat → Prop} {H0 : Heap} {a : Array Value} {ls : Array Slot} {st0 rest : List Value}
variable {Qc : Array Value → State → Outcome → State → Prop} {XC : String → State → State → Prop}
/-- what a body that may throw owes at its end -/
def vx_MQ (below : List Frame) (Qc : Array Value → State → Outcome → State → Prop) (XC : String → State → State → Prop) (a : Array Value) (s : State) (mc ms : Nat) (free : Addr → Prop) : State → Prop := fun t =>
  ∃ o, t.status = .running ∧ Ended t below o ∧ vx_Q Qc XC mc ms free a s o t
theorem vx_ret {g : JFrame} {mc ms : Nat} (k : W p l e R s m args below meth c H locs cells slots (MQ below Qc args s mc ms free) g) : W p l e R s m args below meth c H locs cells slots (vx_MQ below Qc XC args s mc ms free) g := by
  intro T hT X
  obtain ⟨t, a1, o, b1, b2, b3, b4⟩ := k T hT X
  exact ⟨t, a1, o, b1, b2, Or.inl ⟨b3, b4⟩⟩
/-- not caught here: it goes on to the caller -/
theorem vx_widen {g : JFrame} {q : Addr} {k n : Nat} (h1 : cells ≤ k) (h2 : slots ≤ n) (kk : vx_W p l e R s m args below meth c H locs k n Q g q) : vx_W p l e R s m args below meth c H locs cells slots Q g q := fun T hT X => kk T hT (stand_widen X h1 h2)
theorem vx_out {pc : Nat} {E : String} {ce : Cell} {q : Addr} {mc ms : Nat} (hout : ∀ x ∈ c.exceptionTable.toList, covers x pc = false) (hlocks : meth.locks = false) (hcell : H[q]? = some ce) (hv : ce.vm = .none) (hcl : s.vm.findClass E = some ce.cls)
    (hx : ∀ t : State, t.heap = H → s.vm.Alike t.vm → XC E s t) (hf : ∀ z ∈ locs, free z.base) (hc : cells ≤ mc) (hs : slots ≤ ms) :
    vx_W p l e R s m args below meth c H locs cells slots (vx_MQ below Qc XC args s mc ms free) (F0 m pc ls rest) q := by
  intro T hT X
  obtain ⟨st1, hrun, hend, hW, hsm⟩ := X.leaveThrown q (g := F0 m pc ls rest) rfl rfl rfl hout hlocks
  have hcell9 : (T.setFrames (.throwing q :: below)).heap[q]? = some ce := by
    show T.heap[q]? = some ce
    rw [hT]; exact hcell
  exact ⟨_, st1, .threw q, hrun, hend, Or.inr ⟨q, rfl, E, ce, locs, hx _ hT hW.alike, hcell9, hv, hcl, hW, hsm.mono hc hs, hf⟩⟩
theorem vx_frame {U : State} {k n : Nat} (h : s.sameButNew ({ U with vm := s.vm } : State) locs k n) : s.heap.size ≤ U.heap.size ∧ ∀ q : Nat, q < s.heap.size → (∀ z ∈ locs, z.base ≠ q) → U.heap[q]? = s.heap[q]? := by
  obtain ⟨-, h2, -, -, -, h6⟩ := h
  refine ⟨h2, fun q hq hz => ?_⟩
  obtain ⟨c9, e1, e2, e3, e4⟩ := h6 q _ (Array.getElem?_eq_getElem hq)
  have hs : c9.slots = (s.heap[q]).slots := Array.ext_getElem? fun i => e4 i fun hm => hz _ hm rfl
  have h9 : c9 = s.heap[q] := by
    rw [hs] at e2
    exact e2
  have e5 : U.heap[q]? = some c9 := e1
  rw [e5, h9, Array.getElem?_eq_getElem hq]
/-- the words of a throw but the four that speak of the heap -/
def vx_no (w : Cond) : Bool := decide (w ≠ .isRef (.static Bundle.tN "UNASSIGNED_STACK" Bundle.steD)) && decide (w ≠ .isRef (.static Bundle.tN "SUPPRESSED_SENTINEL" Bundle.listD)) && decide (w ≠ .laysStatic Bundle.tN "UNASSIGNED_STACK" Bundle.steD) && decide (w ≠ .laysStatic Bundle.tN "SUPPRESSED_SENTINEL" Bundle.listD)
def vx_at0 (own : String) (ic : Nat) (X : String) (names : List String) : List Cond := (Bundle.ownAtoms0 own ic X names).filter vx_no
def vx_atS (own : String) (ic : Nat) (X : String) (names : List String) : List Cond := (Bundle.ownAtoms own ic X names).filter vx_no
/-- a word that the tables alone decide, or a good one -/
def vx_ot (w : Cond) : Bool := w.onTables || goodWord w
theorem vx_ot_at {args a' : Array Value} {s U : State} {w : Cond} (hW : s.WarmedH U.vm) (hvm : s.vm = U.vm) (hg : vx_ot w = true) (h : w.before args s = true) : w.before a' U = true := by
  simp only [vx_ot, Bool.or_eq_true] at hg
  rcases hg with hg | hg
  · exact va_tabs hg hvm h
  · exact word_at hW (good_of_word hg) h
/-- a list's words: the good ones out of the method's own list, the others by premises of their own -/
theorem vx_hat {args : Array Value} {s : State} {L B : List Cond} (h1 : ∀ w ∈ L.filter goodWord, w.before args s = true) (h2 : ∀ w ∈ L.filter (fun w => !goodWord w), w ∈ B) (h3 : ∀ w ∈ B, w.before args s = true) : ∀ w ∈ L, w.before args s = true := by
  intro w hw
  by_cases g : goodWord w = true
  · exact h1 w (List.mem_filter.mpr ⟨hw, g⟩)
  · refine h3 w (h2 w (List.mem_filter.mpr ⟨hw, ?_⟩))
    show (!goodWord w) = true
    cases hgw : goodWord w
    · rfl
    · exact absurd hgw g
theorem vx_c {args : Array Value} {s : State} {w : Cond} {B : List Cond} (h : w.before args s = true) (t : ∀ w ∈ B, w.before args s = true) : ∀ w' ∈ w :: B, w'.before args s = true := fun w' h' => (List.mem_cons.mp h').elim (fun e => by rw [e]; exact h) (t w')
theorem vx_n {args : Array Value} {s : State} : ∀ w ∈ ([] : List Cond), w.before args s = true := fun _ h => nomatch h
theorem vx_own {args : Array Value} {s : State} {L : List Cond} (h1 : ∀ w ∈ L.filter vx_no, w.before args s = true)
    (hU : (Cond.isRef (.static Bundle.tN "UNASSIGNED_STACK" Bundle.steD)).before args s = true) (hN : (Cond.isRef (.static Bundle.tN "SUPPRESSED_SENTINEL" Bundle.listD)).before args s = true)
    (lU : (Cond.laysStatic Bundle.tN "UNASSIGNED_STACK" Bundle.steD).before args s = true) (lN : (Cond.laysStatic Bundle.tN "SUPPRESSED_SENTINEL" Bundle.listD).before args s = true) : ∀ w ∈ L, w.before args s = true := by
  intro w hw
  by_cases e1 : w = .isRef (.static Bundle.tN "UNASSIGNED_STACK" Bundle.steD)
  · rw [e1]; exact hU
  · by_cases e2 : w = .isRef (.static Bundle.tN "SUPPRESSED_SENTINEL" Bundle.listD)
    · rw [e2]; exact hN
    · by_cases e3 : w = .laysStatic Bundle.tN "UNASSIGNED_STACK" Bundle.steD
      · rw [e3]; exact lU
      · by_cases e4 : w = .laysStatic Bundle.tN "SUPPRESSED_SENTINEL" Bundle.listD
        · rw [e4]; exact lN
        · exact h1 w (List.mem_filter.mpr ⟨hw, by unfold vx_no; rw [decide_eq_true e1, decide_eq_true e2, decide_eq_true e3, decide_eq_true e4]; rfl⟩)
/-- where a static field lies, its class's statics cell in H -/
def vx_L (C n d : String) (A : Nat → Prop) (U : State) (H : Heap) : Prop := ∃ (c : ClassId) (k : Class) (i : Nat) (f : Field) (a : Nat) (cell : Cell), U.vm.findClass C = some c ∧ U.fieldFound? C n d = some (c, k, i, f) ∧ f.isStatic = true ∧ k.statics = some a ∧ H[a]? = some cell ∧ cell.vm.isStatics = true ∧ cell.cls = c ∧ f.slot < cell.slots.size ∧ k.staticTypes[f.slot]? = some f.type ∧ ¬ A a
theorem vx_L.moved {C n d : String} {A : Nat → Prop} {u U : State} {H : Heap} (hvm : u.vm.Alike U.vm) (h : vx_L C n d A u H) : vx_L C n d A U H := by
  obtain ⟨c, k, i, f, a, cell, h1, h2, h3, h4, h5, h6, h7, h8, h9, h10⟩ := h
  obtain ⟨k', hi', he⟩ := State.fieldFound?_setVm hvm h2
  exact ⟨c, k', i, f, a, cell, by rw [hvm.findClass]; exact h1, hi', h3, by rw [he]; exact h4, h5, h6, h7, h8, by rw [he]; exact h9, h10⟩
theorem vx_L.kept {C n d : String} {A : Nat → Prop} {U : State} {H H1 : Heap} (h : vx_L C n d A U H) (hq : ∀ a : Nat, a < H.size → ¬ A a → H1[a]? = H[a]?) : vx_L C n d A U H1 := by
  obtain ⟨c, k, i, f, a, cell, h1, h2, h3, h4, h5, h6, h7, h8, h9, h10⟩ := h
  exact ⟨c, k, i, f, a, cell, h1, h2, h3, h4, by rw [hq a (Array.getElem?_eq_some_iff.mp h5).1 h10]; exact h5, h6, h7, h8, h9, h10⟩
theorem vx_L.narrow {C n d : String} {A B : Nat → Prop} {U : State} {H : Heap} (h : vx_L C n d A U H) (hAB : ∀ q, B q → A q) : vx_L C n d B U H := by
  obtain ⟨c, k, i, f, a, cell, h1, h2, h3, h4, h5, h6, h7, h8, h9, h10⟩ := h
  exact ⟨c, k, i, f, a, cell, h1, h2, h3, h4, h5, h6, h7, h8, h9, fun z => h10 (hAB _ z)⟩
theorem vx_L.word {C n d : String} {A : Nat → Prop} {s : State} {args : Array Value} (h : vx_L C n d A s s.heap) : (Cond.laysStatic C n d).before args s = true := by
  obtain ⟨c, k, i, f, a, cell, h1, h2, h3, h4, h5, h6, h7, h8, h9, -⟩ := h
  show (Cond.laysStatic C n d).holds args s none s [] = true
  exact Cond.laysStatic_of h1 h2 h3 h4 h5 h6 h7 h8 h9
/-- .. and what it holds: null or some reference -/
def vx_Zq (C n d : String) (A : Nat → Prop) (U : State) (H : Heap) : Prop := va_Zq C n d A U H ∧ vx_L C n d A U H
theorem vx_Zq.moved {C n d : String} {A : Nat → Prop} {u U : State} {H : Heap} (hvm : u.vm.Alike U.vm) (h : vx_Zq C n d A u H) : vx_Zq C n d A U H := ⟨va_Zq.moved hvm h.1, vx_L.moved hvm h.2⟩
theorem vx_Zq.kept {C n d : String} {A : Nat → Prop} {U : State} {H H1 : Heap} (h : vx_Zq C n d A U H) (hq : ∀ a : Nat, a < H.size → ¬ A a → H1[a]? = H[a]?) : vx_Zq C n d A U H1 := ⟨va_Zq.kept h.1 hq, vx_L.kept h.2 hq⟩
theorem vx_Zq.narrow {C n d : String} {A B : Nat → Prop} {U : State} {H : Heap} (h : vx_Zq C n d A U H) (hAB : ∀ q, B q → A q) : vx_Zq C n d B U H := ⟨va_Zq.narrow h.1 hAB, vx_L.narrow h.2 hAB⟩
theorem vx_Zqof {args : Array Value} {s : State} {C n d : String} {A : Nat → Prop} (hl : (Cond.laysStatic C n d).before args s = true) (hini : (Cond.initialized C).before args s = true) (h : (Cond.isRef (.static C n d)).before args s = true) (hA : ∀ a : Nat, a < s.heap.size → ¬ A a) : vx_Zq C n d A s s.heap := by
  refine ⟨va_Zqof hl hini h hA, ?_⟩
  obtain ⟨c, k, i, f, a, cell, h1, h2, h3, h4, h5, h6, h7, h8, h9⟩ := Cond.laysStatic_spec hl
  exact ⟨c, k, i, f, a, cell, h1, h2, h3, h4, h5, h6, h7, h8, h9, hA a (Array.getElem?_eq_some_iff.mp h5).1⟩
theorem vx_isRef {C n d : String} {v : Value} {A : Nat → Prop} {s : State} {args : Array Value} (h : va_Z C n d v A s s.heap) (hv : v.isRef = true) : (Cond.isRef (.static C n d)).before args s = true := by
  obtain ⟨cf, kf, fi, f, a, cell, h1, h2, h3, h4, h5, h6, h7, -⟩ := h
  have he : (Term.static C n d).eval args s none [] s = some v := by
    simp [Term.eval, State.fieldNamed?, h1, h2, h4, h5, h6, h7]
  simp only [Cond.before, Cond.holds, Cond.value, he]
  cases v <;> simp_all [Value.isRef]
theorem vx_isRefq {C n d : String} {A : Nat → Prop} {s : State} {args : Array Value} (h : va_Zq C n d A s s.heap) : (Cond.isRef (.static C n d)).before args s = true := by
  rcases h with h | ⟨t, h⟩
  · exact vx_isRef h rfl
  · exact vx_isRef h rfl
/-- the same frame, seen from here: as if the method were called anew in this heap -/
theorem vx_rebase {T : State} (X : Stand p l e R s m args below meth c T locs cells slots) {R' : Room} (hf : R'.frames ≤ R.frames) (hl : R'.locals ≤ R.locals) (hc : cells + R'.cells ≤ R.cells) (hs : slots + R'.slots ≤ R.slots) :
    Stand p l e R' ((T.setVm s.vm).setFrames (.invoking m args :: below)) m args below meth c T [] 0 0 := by
  have htop : (T.setVm s.vm).topJava?.isSome := X.here.top
  have hF : ((T.setVm s.vm).setFrames (.invoking m args :: below)).frames = .invoking m args :: below := State.frames_setFrames _ (State.cur_lt_of_top htop)
  obtain ⟨g₀, hg0⟩ := Option.isSome_iff_exists.mp htop
  obtain ⟨r, hr⟩ := State.topJava?_eq_some.mp hg0
  have hl9 : e.platform.stackLimits (T.setVm s.vm).me = e.platform.stackLimits s.me := X.limits
  have hb9 : (T.setVm s.vm).me.stackBytes = s.me.stackBytes := X.bytes
  refine ⟨X.admits, X.cas, X.clock, hF, ?_, X.hears, X.method, X.code, X.here, X.tail, X.warmed, ?_, ?_, ?_⟩
  · have h := X.room
    have hU : ((T.setVm s.vm).setFrames (.invoking m args :: below)).localsInUse = s.localsInUse := by
      rw [State.localsInUse_invoking hF (meth := meth) (c := c) X.method X.code, State.localsInUse_invoking X.frames X.method X.code]
    simp only [State.hasRoom, Bool.and_eq_true, decide_eq_true_eq] at h ⊢
    obtain ⟨⟨⟨⟨h1, h2, h3, h4, h5, h6⟩, h7⟩, h8⟩, h9⟩ := h
    rw [X.frames, List.length_cons] at h2 h3
    have q1 := X.heapSize
    have q2 := X.used
    simp only [hF, hU, List.length_cons, State.stackLimits_setFrames, State.stackBytes_setFrames, hl9, hb9]
    refine ⟨⟨⟨⟨by omega, by omega, by omega, by omega, by omega, h6⟩, ?_⟩, ?_⟩, X.book⟩
    · show T.heap.size + R'.cells ≤ e.platform.maxCells
      omega
    · show T.slotsUsed + R'.slots ≤ e.platform.maxSlots
      omega
  · rw [State.stackLimits_setFrames]; rfl
  · rw [State.stackBytes_setFrames]; rfl
  · refine ⟨?_, Nat.le_refl _, Nat.le_refl _, ?_, ?_, fun a c9 h9 => ⟨c9, h9, rfl, rfl, fun _ _ => rfl⟩⟩
    · obtain ⟨t, ht, -⟩ := State.frames_cons hr
      show T.setVm s.vm = { ((T.setVm s.vm).setFrames (.invoking m args :: below)).setFrames (T.setVm s.vm).frames with heap := T.heap, slotsUsed := T.slotsUsed }
      rw [State.setFrames_setFrames, State.setFrames_self ht]
      rfl
    · show T.slotsUsed = T.slotsUsed + ((T.heap.toList.drop T.heap.size).map (·.slots.size)).sum
      rw [List.drop_eq_nil_of_le (Nat.le_of_eq Array.length_toList)]
      rfl
    · show ((T.heap.toList.drop T.heap.size).map (·.slots.size)).sum ≤ 0
      rw [List.drop_eq_nil_of_le (Nat.le_of_eq Array.length_toList)]
      exact Nat.le_refl _
/-- 'throw new E()': new; dup; invokespecial; athrow -/
theorem vx_throw0 {cc : ByteArray} {pc : Nat} (hexec : p.tables.exec = Jvm.exec) (hb : c.code = cc) (hl : l.stackTraces = false) {own cls : String} {names : List String} {ik ic mc ms : Nat} {A : Nat → Prop}
    (hown : s.vm.findClass own = some m.cls) (hcls : Bundle.fit cls = true) (hnames : ∀ n ∈ names, Bundle.fit n = true)
    (hk : (Cond.classLink own ik cls).before args s = true) (hini : (Cond.initialized cls).before args s = true) (hat : ∀ w ∈ vx_at0 own ic cls names, w.before args s = true)
    (hgood : ∀ w ∈ Cond.classLink own ik cls :: Cond.initialized cls :: vx_at0 own ic cls names, vx_ot w = true)
    (hU : vx_Zq Bundle.tN "UNASSIGNED_STACK" Bundle.steD A s s.heap) (hN : vx_Zq Bundle.tN "SUPPRESSED_SENTINEL" Bundle.listD A s s.heap) (hS : va_S A s.heap H locs) (hsize : ls.size = c.maxLocals)
    (d0 : decode cc pc = .ok (.new ik, 3)) (d3 : decode cc (pc + 3) = .ok (.dup, 1)) (d4 : decode cc (pc + 4) = .ok (.invokespecial ic, 3)) (d7 : decode cc (pc + 7) = .ok (.athrow, 1))
    (hout : ∀ x ∈ c.exceptionTable.toList, covers x (pc + 7) = false)
    (hRframes : names.length + 3 < R.frames) (hRlocals : (rest.map fun v => v.category).sum + (13 * (names.length + 1) + 42) ≤ R.locals) (hRcells : cells + 1 ≤ R.cells) (hRslots : slots + 6 ≤ R.slots) (hlocks : meth.locks = false)
    (hx : ∀ t : State, s.vm.Alike t.vm → H.size ≤ t.heap.size → (∀ q : Nat, q < H.size → t.heap[q]? = H[q]?) → XC cls s t)
    (hf : ∀ z ∈ locs, free z.base) (hc : cells + 1 ≤ mc) (hs : slots + 6 ≤ ms) :
    W p l e R s m args below meth c H locs cells slots (vx_MQ below Qc XC args s mc ms free) (F0 m pc ls rest) := by
  intro T hT X
  have htr : e.platform.stackTraces = false := (show e.platform.stackTraces = l.stackTraces by rw [X.admits.platform]).trans hl
  have Y := vx_rebase X (R' := { frames := R.frames, locals := R.locals, cells := 1, slots := 6 }) (Nat.le_refl _) (Nat.le_refl _) hRcells hRslots
  obtain ⟨s', hA⟩ : ∃ z, z = (T.setVm s.vm).setFrames (.invoking m args :: below) := ⟨_, rfl⟩
  rw [← hA] at Y
  have hvm : s'.vm = s.vm := by rw [hA]; rfl
  have hhp : s'.heap = H := by rw [hA]; exact hT
  have hW0 : s.WarmedH s'.vm := by rw [hvm]; exact State.WarmedH.refl s
  have hat' : ∀ w ∈ vx_at0 own ic cls names, w.before args s' = true := fun w hw => vx_ot_at hW0 hvm.symm (hgood w (List.mem_cons_of_mem _ (List.mem_cons_of_mem _ hw))) (hat w hw)
  have hk' : (Cond.classLink own ik cls).before args s' = true := vx_ot_at hW0 hvm.symm (hgood _ List.mem_cons_self) hk
  have hini' : (Cond.initialized cls).before args s' = true := vx_ot_at hW0 hvm.symm (hgood _ (List.mem_cons_of_mem _ List.mem_cons_self)) hini
  have hU' : vx_Zq Bundle.tN "UNASSIGNED_STACK" Bundle.steD A s' s'.heap := by rw [hhp]; exact vx_Zq.moved hW0.alike (hU.kept hS.2.1)
  have hN' : vx_Zq Bundle.tN "SUPPRESSED_SENTINEL" Bundle.listD A s' s'.heap := by rw [hhp]; exact vx_Zq.moved hW0.alike (hN.kept hS.2.1)
  have h : ∀ w ∈ Bundle.ownAtoms0 own ic cls names, w.before args s' = true := vx_own hat' (vx_isRefq hU'.1) (vx_isRefq hN'.1) hU'.2.word hN'.2.word
  have hown' : s'.vm.findClass own = some m.cls := by rw [hvm]; exact hown
  have hins : (Cond.instantiable cls 6).before args s' = true := h _ (by simp [Bundle.ownAtoms0])
  obtain ⟨vm₁, cX, kX, hfX, hkX, -, -, X₁, st1⟩ := Y.newCold hexec (own := own) (C := cls) (index := ik) (n := 6) hown' hk' hins hini'
    (g := F0 m pc ls rest) rfl (by rw [hb]; exact d0) (Nat.le_refl _) (Nat.le_refl _)
  generalize hT1 : (T.setVm vm₁).pushCell { cls := cX, slots := kX.instanceTypes.map defaultValue, vm := .none } = T1 at X₁ st1
  have hcat : (Value.ref T.heap.size).category = 1 := rfl
  have hcellA : T1.heap[T.heap.size]? = some (freshCell cX kX) := by rw [← hT1]; exact State.heap_pushCell_size _ _
  have d3' : decode c.code (pc + 3) = .ok (.dup, 1) := by rw [hb]; exact d3
  obtain ⟨U, hsteps, hrun, hend, hW, hsame, ce, hce, hO⟩ := X₁.ctorThrow0 hexec htr (own := own) (cls := cls) (names := names) (ic := ic) hown' hcls hnames h (fun x hx => nomatch hx) hfX hkX hcellA (by rw [hhp, hT]; exact Nat.le_refl _)
    (g := { method := m, pc := pc + 4, locals := ls, stack := .ref T.heap.size :: .ref T.heap.size :: rest, locked := none }) rfl hsize rfl rfl (rest := rest) rfl
    (by rw [hb]; exact d4) (by rw [hb]; exact d7) hout hRframes (by simp only [List.map_cons, List.sum_cons, hcat]; omega) hlocks
  obtain ⟨f1, f2⟩ := vx_frame hsame
  rw [hhp] at f1 f2
  have hWs : s.WarmedH U.vm := State.WarmedH.trans hW0 hW
  have hcl : s.vm.findClass cls = some ce.cls := by
    have h9 := hO.cls
    rw [hvm] at h9
    exact h9
  have hall : s.sameButNew ({ U with vm := s.vm } : State) locs mc ms := by
    subst hA
    obtain ⟨e1, e2⟩ := hsame
    rw [State.setFrames_setFrames] at e1
    have h2 : (T.setVm s.vm).sameButNew ({ U with vm := s.vm } : State) [] (0 + 1) (0 + 6) := ⟨e1, e2⟩
    have h3 := X.same.trans h2
    rw [List.append_nil] at h3
    exact h3.mono hc hs
  refine ⟨U, ?_, .threw T.heap.size, hrun, hend, Or.inr ⟨T.heap.size, rfl, cls, ce, locs, hx U hWs.alike f1 (fun q hq => f2 q hq (fun z hz => nomatch hz)), hce, hO.vm, hcl, hWs, hall, hf⟩⟩
  refine st1 _ ?_
  show Steps p.tables e below (T1.setTop { method := m, pc := pc + 3, locals := ls, stack := .ref T.heap.size :: rest, locked := none }) _
  jvm_step X₁.here [X₁.here.top, hexec, d3', Value.category]
  exact hsteps
/-- 'throw new E("text")': new; dup; ldc; invokespecial; athrow -/
theorem vx_throwS {cc : ByteArray} {pc : Nat} (hexec : p.tables.exec = Jvm.exec) (hb : c.code = cc) (hl : l.stackTraces = false) {own cls text : String} {names : List String} {ik is ic mc ms sa : Nat} {A : Nat → Prop}
    (hown : s.vm.findClass own = some m.cls) (hcls : Bundle.fit cls = true) (hnames : ∀ n ∈ names, Bundle.fit n = true)
    (hk : (Cond.classLink own ik cls).before args s = true) (hini : (Cond.initialized cls).before args s = true) (hstr : vk_R own is text sa s) (hat : ∀ w ∈ vx_atS own ic cls names, w.before args s = true)
    (hgood : ∀ w ∈ Cond.classLink own ik cls :: Cond.initialized cls :: vx_atS own ic cls names, vx_ot w = true)
    (hU : vx_Zq Bundle.tN "UNASSIGNED_STACK" Bundle.steD A s s.heap) (hN : vx_Zq Bundle.tN "SUPPRESSED_SENTINEL" Bundle.listD A s s.heap) (hS : va_S A s.heap H locs) (hsize : ls.size = c.maxLocals)
    (d0 : decode cc pc = .ok (.new ik, 3)) (d3 : decode cc (pc + 3) = .ok (.dup, 1)) (d4 : decode cc (pc + 4) = .ok (.ldc is, 2)) (d6 : decode cc (pc + 6) = .ok (.invokespecial ic, 3)) (d9 : decode cc (pc + 9) = .ok (.athrow, 1))
    (hout : ∀ x ∈ c.exceptionTable.toList, covers x (pc + 9) = false)
    (hRframes : names.length + 3 < R.frames) (hRlocals : (rest.map fun v => v.category).sum + (13 * (names.length + 1) + 43) ≤ R.locals) (hRcells : cells + 1 ≤ R.cells) (hRslots : slots + 6 ≤ R.slots) (hlocks : meth.locks = false)
    (hx : ∀ t : State, s.vm.Alike t.vm → H.size ≤ t.heap.size → (∀ q : Nat, q < H.size → t.heap[q]? = H[q]?) → XC cls s t)
    (hf : ∀ z ∈ locs, free z.base) (hc : cells + 1 ≤ mc) (hs : slots + 6 ≤ ms) :
    W p l e R s m args below meth c H locs cells slots (vx_MQ below Qc XC args s mc ms free) (F0 m pc ls rest) := by
  intro T hT X
  have htr : e.platform.stackTraces = false := (show e.platform.stackTraces = l.stackTraces by rw [X.admits.platform]).trans hl
  have Y := vx_rebase X (R' := { frames := R.frames, locals := R.locals, cells := 1, slots := 6 }) (Nat.le_refl _) (Nat.le_refl _) hRcells hRslots
  obtain ⟨s', hA⟩ : ∃ z, z = (T.setVm s.vm).setFrames (.invoking m args :: below) := ⟨_, rfl⟩
  rw [← hA] at Y
  have hvm : s'.vm = s.vm := by rw [hA]; rfl
  have hhp : s'.heap = H := by rw [hA]; exact hT
  have hW0 : s.WarmedH s'.vm := by rw [hvm]; exact State.WarmedH.refl s
  have hat' : ∀ w ∈ vx_atS own ic cls names, w.before args s' = true := fun w hw => vx_ot_at hW0 hvm.symm (hgood w (List.mem_cons_of_mem _ (List.mem_cons_of_mem _ hw))) (hat w hw)
  have hk' : (Cond.classLink own ik cls).before args s' = true := vx_ot_at hW0 hvm.symm (hgood _ List.mem_cons_self) hk
  have hini' : (Cond.initialized cls).before args s' = true := vx_ot_at hW0 hvm.symm (hgood _ (List.mem_cons_of_mem _ List.mem_cons_self)) hini
  have hU' : vx_Zq Bundle.tN "UNASSIGNED_STACK" Bundle.steD A s' s'.heap := by rw [hhp]; exact vx_Zq.moved hW0.alike (hU.kept hS.2.1)
  have hN' : vx_Zq Bundle.tN "SUPPRESSED_SENTINEL" Bundle.listD A s' s'.heap := by rw [hhp]; exact vx_Zq.moved hW0.alike (hN.kept hS.2.1)
  have h : ∀ w ∈ Bundle.ownAtoms own ic cls names, w.before args s' = true := vx_own hat' (vx_isRefq hU'.1) (vx_isRefq hN'.1) hU'.2.word hN'.2.word
  have hown' : s'.vm.findClass own = some m.cls := by rw [hvm]; exact hown
  have hins : (Cond.instantiable cls 6).before args s' = true := h _ (by simp [Bundle.ownAtoms])
  obtain ⟨vm₁, cX, kX, hfX, hkX, -, -, X₁, st1⟩ := Y.newCold hexec (own := own) (C := cls) (index := ik) (n := 6) hown' hk' hins hini'
    (g := F0 m pc ls rest) rfl (by rw [hb]; exact d0) (Nat.le_refl _) (Nat.le_refl _)
  generalize hT1 : (T.setVm vm₁).pushCell { cls := cX, slots := kX.instanceTypes.map defaultValue, vm := .none } = T1 at X₁ st1
  have hcat : (Value.ref T.heap.size).category = 1 := rfl
  have hcellA : T1.heap[T.heap.size]? = some (freshCell cX kX) := by rw [← hT1]; exact State.heap_pushCell_size _ _
  have d3' : decode c.code (pc + 3) = .ok (.dup, 1) := by rw [hb]; exact d3
  have d4' : decode c.code (pc + 4) = .ok (.ldc is, 2) := by rw [hb]; exact d4
  have hstr' : vk_R own is text sa s' := vk_R.warm hW0 hstr
  obtain ⟨U, hsteps, hrun, hend, hW, hsame, ce, hce, hO⟩ := X₁.ctorThrowS hexec htr (own := own) (cls := cls) (names := names) (ic := ic) hown' hcls hnames h (fun x hx => nomatch hx) hfX hkX hcellA (by rw [hhp, hT]; exact Nat.le_refl _) (msg := .ref sa) rfl
    (g := { method := m, pc := pc + 6, locals := ls, stack := .ref sa :: .ref T.heap.size :: .ref T.heap.size :: rest, locked := none }) rfl hsize rfl rfl (rest := rest) rfl
    (by rw [hb]; exact d6) (by rw [hb]; exact d9) hout hRframes (by simp only [List.map_cons, List.sum_cons, hcat]; omega) hlocks
  obtain ⟨f1, f2⟩ := vx_frame hsame
  rw [hhp] at f1 f2
  have hWs : s.WarmedH U.vm := State.WarmedH.trans hW0 hW
  have hcl : s.vm.findClass cls = some ce.cls := by
    have h9 := hO.cls
    rw [hvm] at h9
    exact h9
  have hall : s.sameButNew ({ U with vm := s.vm } : State) locs mc ms := by
    subst hA
    obtain ⟨e1, e2⟩ := hsame
    rw [State.setFrames_setFrames] at e1
    have h2 : (T.setVm s.vm).sameButNew ({ U with vm := s.vm } : State) [] (0 + 1) (0 + 6) := ⟨e1, e2⟩
    have h3 := X.same.trans h2
    rw [List.append_nil] at h3
    exact h3.mono hc hs
  refine ⟨U, ?_, .threw T.heap.size, hrun, hend, Or.inr ⟨T.heap.size, rfl, cls, ce, locs, hx U hWs.alike f1 (fun q hq => f2 q hq (fun z hz => nomatch hz)), hce, hO.vm, hcl, hWs, hall, hf⟩⟩
  refine st1 _ ?_
  show Steps p.tables e below (T1.setTop { method := m, pc := pc + 3, locals := ls, stack := .ref T.heap.size :: rest, locked := none }) _
  jvm_step X₁.here [X₁.here.top, hexec, d3', Value.category]
  exact X₁.ldcString hexec (own := own) (text := text) (index := is) (a := sa) hown' hstr'.1 hstr'.2
    (g := { method := m, pc := pc + 4, locals := ls, stack := .ref T.heap.size :: .ref T.heap.size :: rest, locked := none }) rfl d4' _ hsteps
/-- 'throw new E("text")', the text by a wide index -/
theorem vx_throwSW {cc : ByteArray} {pc : Nat} (hexec : p.tables.exec = Jvm.exec) (hb : c.code = cc) (hl : l.stackTraces = false) {own cls text : String} {names : List String} {ik is ic mc ms sa : Nat} {A : Nat → Prop}
    (hown : s.vm.findClass own = some m.cls) (hcls : Bundle.fit cls = true) (hnames : ∀ n ∈ names, Bundle.fit n = true)
    (hk : (Cond.classLink own ik cls).before args s = true) (hini : (Cond.initialized cls).before args s = true) (hstr : vk_R own is text sa s) (hat : ∀ w ∈ vx_atS own ic cls names, w.before args s = true)
    (hgood : ∀ w ∈ Cond.classLink own ik cls :: Cond.initialized cls :: vx_atS own ic cls names, vx_ot w = true)
    (hU : vx_Zq Bundle.tN "UNASSIGNED_STACK" Bundle.steD A s s.heap) (hN : vx_Zq Bundle.tN "SUPPRESSED_SENTINEL" Bundle.listD A s s.heap) (hS : va_S A s.heap H locs) (hsize : ls.size = c.maxLocals)
    (d0 : decode cc pc = .ok (.new ik, 3)) (d3 : decode cc (pc + 3) = .ok (.dup, 1)) (d4 : decode cc (pc + 4) = .ok (.ldc_w is, 3)) (d7 : decode cc (pc + 7) = .ok (.invokespecial ic, 3)) (d10 : decode cc (pc + 10) = .ok (.athrow, 1))
    (hout : ∀ x ∈ c.exceptionTable.toList, covers x (pc + 10) = false)
    (hRframes : names.length + 3 < R.frames) (hRlocals : (rest.map fun v => v.category).sum + (13 * (names.length + 1) + 43) ≤ R.locals) (hRcells : cells + 1 ≤ R.cells) (hRslots : slots + 6 ≤ R.slots) (hlocks : meth.locks = false)
    (hx : ∀ t : State, s.vm.Alike t.vm → H.size ≤ t.heap.size → (∀ q : Nat, q < H.size → t.heap[q]? = H[q]?) → XC cls s t)
    (hf : ∀ z ∈ locs, free z.base) (hc : cells + 1 ≤ mc) (hs : slots + 6 ≤ ms) :
    W p l e R s m args below meth c H locs cells slots (vx_MQ below Qc XC args s mc ms free) (F0 m pc ls rest) := by
  intro T hT X
  have htr : e.platform.stackTraces = false := (show e.platform.stackTraces = l.stackTraces by rw [X.admits.platform]).trans hl
  have Y := vx_rebase X (R' := { frames := R.frames, locals := R.locals, cells := 1, slots := 6 }) (Nat.le_refl _) (Nat.le_refl _) hRcells hRslots
  obtain ⟨s', hA⟩ : ∃ z, z = (T.setVm s.vm).setFrames (.invoking m args :: below) := ⟨_, rfl⟩
  rw [← hA] at Y
  have hvm : s'.vm = s.vm := by rw [hA]; rfl
  have hhp : s'.heap = H := by rw [hA]; exact hT
  have hW0 : s.WarmedH s'.vm := by rw [hvm]; exact State.WarmedH.refl s
  have hat' : ∀ w ∈ vx_atS own ic cls names, w.before args s' = true := fun w hw => vx_ot_at hW0 hvm.symm (hgood w (List.mem_cons_of_mem _ (List.mem_cons_of_mem _ hw))) (hat w hw)
  have hk' : (Cond.classLink own ik cls).before args s' = true := vx_ot_at hW0 hvm.symm (hgood _ List.mem_cons_self) hk
  have hini' : (Cond.initialized cls).before args s' = true := vx_ot_at hW0 hvm.symm (hgood _ (List.mem_cons_of_mem _ List.mem_cons_self)) hini
  have hU' : vx_Zq Bundle.tN "UNASSIGNED_STACK" Bundle.steD A s' s'.heap := by rw [hhp]; exact vx_Zq.moved hW0.alike (hU.kept hS.2.1)
  have hN' : vx_Zq Bundle.tN "SUPPRESSED_SENTINEL" Bundle.listD A s' s'.heap := by rw [hhp]; exact vx_Zq.moved hW0.alike (hN.kept hS.2.1)
  have h : ∀ w ∈ Bundle.ownAtoms own ic cls names, w.before args s' = true := vx_own hat' (vx_isRefq hU'.1) (vx_isRefq hN'.1) hU'.2.word hN'.2.word
  have hown' : s'.vm.findClass own = some m.cls := by rw [hvm]; exact hown
  have hins : (Cond.instantiable cls 6).before args s' = true := h _ (by simp [Bundle.ownAtoms])
  obtain ⟨vm₁, cX, kX, hfX, hkX, -, -, X₁, st1⟩ := Y.newCold hexec (own := own) (C := cls) (index := ik) (n := 6) hown' hk' hins hini'
    (g := F0 m pc ls rest) rfl (by rw [hb]; exact d0) (Nat.le_refl _) (Nat.le_refl _)
  generalize hT1 : (T.setVm vm₁).pushCell { cls := cX, slots := kX.instanceTypes.map defaultValue, vm := .none } = T1 at X₁ st1
  have hcat : (Value.ref T.heap.size).category = 1 := rfl
  have hcellA : T1.heap[T.heap.size]? = some (freshCell cX kX) := by rw [← hT1]; exact State.heap_pushCell_size _ _
  have d3' : decode c.code (pc + 3) = .ok (.dup, 1) := by rw [hb]; exact d3
  have d4' : decode c.code (pc + 4) = .ok (.ldc_w is, 3) := by rw [hb]; exact d4
  have hstr' : vk_R own is text sa s' := vk_R.warm hW0 hstr
  obtain ⟨U, hsteps, hrun, hend, hW, hsame, ce, hce, hO⟩ := X₁.ctorThrowS hexec htr (own := own) (cls := cls) (names := names) (ic := ic) hown' hcls hnames h (fun x hx => nomatch hx) hfX hkX hcellA (by rw [hhp, hT]; exact Nat.le_refl _) (msg := .ref sa) rfl
    (g := { method := m, pc := pc + 7, locals := ls, stack := .ref sa :: .ref T.heap.size :: .ref T.heap.size :: rest, locked := none }) rfl hsize rfl rfl (rest := rest) rfl
    (by rw [hb]; exact d7) (by rw [hb]; exact d10) hout hRframes (by simp only [List.map_cons, List.sum_cons, hcat]; omega) hlocks
  obtain ⟨f1, f2⟩ := vx_frame hsame
  rw [hhp] at f1 f2
  have hWs : s.WarmedH U.vm := State.WarmedH.trans hW0 hW
  have hcl : s.vm.findClass cls = some ce.cls := by
    have h9 := hO.cls
    rw [hvm] at h9
    exact h9
  have hall : s.sameButNew ({ U with vm := s.vm } : State) locs mc ms := by
    subst hA
    obtain ⟨e1, e2⟩ := hsame
    rw [State.setFrames_setFrames] at e1
    have h2 : (T.setVm s.vm).sameButNew ({ U with vm := s.vm } : State) [] (0 + 1) (0 + 6) := ⟨e1, e2⟩
    have h3 := X.same.trans h2
    rw [List.append_nil] at h3
    exact h3.mono hc hs
  refine ⟨U, ?_, .threw T.heap.size, hrun, hend, Or.inr ⟨T.heap.size, rfl, cls, ce, locs, hx U hWs.alike f1 (fun q hq => f2 q hq (fun z hz => nomatch hz)), hce, hO.vm, hcl, hWs, hall, hf⟩⟩
  refine st1 _ ?_
  show Steps p.tables e below (T1.setTop { method := m, pc := pc + 3, locals := ls, stack := .ref T.heap.size :: rest, locked := none }) _
  jvm_step X₁.here [X₁.here.top, hexec, d3', Value.category]
  exact X₁.ldcStringW hexec (own := own) (text := text) (index := is) (a := sa) hown' hstr'.1 hstr'.2
    (g := { method := m, pc := pc + 4, locals := ls, stack := .ref T.heap.size :: .ref T.heap.size :: rest, locked := none }) rfl d4' _ hsteps
end Ends
section Bodies
variable {l : Launch}
theorem vx_ofW {y : MethodName} {ws ws' : List Cond} {rm : Room} {Pc : Array Value → State → Prop} {Qc : Array Value → State → Outcome → State → Prop} {XC : String → State → State → Prop} {mc ms : Nat} {free : Addr → Prop} {cc : ByteArray} {maxL : Nat} {ret : Option FieldType}
    (hy : plainName y.cls = true) (hw : ws = Cond.code y cc maxL ret :: ws')
    (body : ∀ p e s m args below meth c s₁, BodyLoose p l y (headSpec ws rm) cc maxL ret e s m args below meth c s₁ → c.maxLocals = maxL → (∀ x ∈ c.exceptionTable.toList, False) → Pc args s →
      W p l e (headSpec ws rm).room s m args below meth c s.heap [] 0 0 (vx_MQ below Qc XC args s mc ms free) (entryFrame m args maxL)) : vx_Met l y ws rm Pc Qc XC mc ms free := by
  refine MetFree.of_bodyS (code := cc) (maxLocals := maxL) (ret := ret) hy ?_ ?_
  · intro args s m h hn
    obtain ⟨meth, c, h1, h2, h3, h4, h5, h6, -, -⟩ := Cond.code_spec hn (atoms_spec (ws := ws) h _ (by rw [hw]; exact List.mem_cons_self))
    exact ⟨meth, c, h1, h2, h3, h4, h5, h6⟩
  · intro p e s m args below meth c s₁ B hml hP _
    have hh0 : s₁.heap = s.heap := by rw [B.state]; rfl
    have ht : ∀ x ∈ c.exceptionTable.toList, False := by
      obtain ⟨meth9, c9, h1, h2, -, -, -, -, h7, -⟩ := Cond.code_spec B.named (atoms_spec (ws := ws) B.pre _ (by rw [hw]; exact List.mem_cons_self))
      cases Option.some.inj (h1.symm.trans B.method)
      cases Option.some.inj (h2.symm.trans (Stand.of_body B).code)
      intro x hx
      rw [Array.isEmpty_iff.mp h7] at hx
      cases hx
    obtain ⟨t, a1, o, b1, b2, b3⟩ := body p e s m args below meth c s₁ B hml ht hP s₁ hh0 (Stand.of_body B)
    exact ⟨t, o, a1, b1, b2, b3⟩
/-- the table of a body with handlers -/
theorem vx_table {p : Program} {x y : MethodName} {S : Spec} {cc bytes : ByteArray} {maxL maxL' : Nat} {ret ret' : Option FieldType} {e : Env} {s s₁ : State} {m : MethodId} {args : Array Value} {below : List Frame} {meth : Method} {c : Code} {hh : List (Nat × Nat × Nat × Nat)}
    (B : BodyLoose p l y S cc maxL ret e s m args below meth c s₁) (h : (Cond.codeWith y bytes maxL' ret' hh).before args s = true) : c.exceptionTable.toList = tableOf hh := by
  obtain ⟨m9, meth9, c9, hn9, h1, h2, -, -, h6, -⟩ := Cond.codeWith_spec h
  cases Option.some.inj (hn9.symm.trans B.named)
  cases Option.some.inj (h1.symm.trans B.method)
  cases Option.some.inj (h2.symm.trans (Stand.of_body B).code)
  rw [← h6, table_eq]
end Bodies
end VXA
/-! ===== END ===== -/
/-! ===== BEGIN a static call of a method with an exception table ===== -/
section VXS
variable {p : Program} {l : Launch} {e : Env} {R : Room} {s : State} {m : MethodId} {args : Array Value} {below : List Frame} {meth : Method} {c : Code} {T : State} {H : Heap} {locs : List Loc} {cells slots : Nat}
abbrev vx_CSW (R : Room) (s : State) (args : Array Value) (own : String) (index : Nat) (y : MethodName) (bytes : ByteArray) (maxL : Nat) (ret : Option FieldType) (hh : List (Nat × Nat × Nat × Nat)) (ws : List Cond) (rm : Room) (mc ms n : Nat) : Prop :=
  (rm.cells = mc ∧ rm.slots = ms ∧ rm.frames + 1 ≤ R.frames ∧ 8 + (maxL + 11) + rm.locals ≤ R.locals ∧ (∀ w ∈ ws, ∀ (a' : Array Value) (U : State), s.WarmedH U.vm → w.before a' U = true) ∧ Cond.codeWith y bytes maxL ret hh ∈ ws) ∧
  (Cond.codeWith y bytes maxL ret hh).before args s = true ∧ (Cond.initialized y.cls).before args s = true ∧ (y.cls ≠ "java/lang/invoke/MethodHandle" ∧ y.cls ≠ "java/lang/invoke/VarHandle") ∧
  (∀ sig, parseMethodDescriptor y.desc = some sig → n = sig.parameters.length) ∧ (Cond.methodLink own index y).before args s = true ∧ (Cond.static y).before args s = true
theorem vx_cwSW {own : String} {index maxL mc ms : Nat} {y : MethodName} {bytes : ByteArray} {ret : Option FieldType} {hh : List (Nat × Nat × Nat × Nat)} {Ts ws ws' : List Cond} {rm : Room} (n : Nat) (ht : ∀ w ∈ Ts, w.before args s = true) (hT : GoodIn Ts (va_wsS own index y ws)) (hw : ws = Cond.codeWith y bytes maxL ret hh :: ws') (hrc : rm.cells = mc) (hrs : rm.slots = ms)
    (hd : y.cls ≠ "java/lang/invoke/MethodHandle" ∧ y.cls ≠ "java/lang/invoke/VarHandle" ∧ (parseMethodDescriptor y.desc).map (fun d => d.parameters.length) = some n) (hR : rm.frames + 1 ≤ R.frames ∧ 8 + (maxL + 11) + rm.locals ≤ R.locals) :
    vx_CSW R s args own index y bytes maxL ret hh ws rm mc ms n := by
  have ok : ∀ w ∈ va_wsS own index y ws, w.before args s = true := fun w h => ht w (hT w h).1
  have hG : GoodIn Ts ws := fun w h => hT w (by unfold va_wsS; exact List.mem_append_right _ h)
  have hc : Cond.codeWith y bytes maxL ret hh ∈ ws := by rw [hw]; exact List.mem_cons_self
  refine ⟨⟨hrc, hrs, hR.1, hR.2, pay_in ht hG, hc⟩, ht _ (hG _ hc).1, ok _ (by simp [va_wsS]), ⟨hd.1, hd.2.1⟩, fun sig h => ?_, ok _ (by simp [va_wsS]), ok _ (by simp [va_wsS])⟩
  have h2 := hd.2.2
  rw [h] at h2
  exact (Option.some.inj h2).symm
theorem vx_callSW (X : Stand p l e R s m args below meth c T locs cells slots) (hexec : p.tables.exec = Jvm.exec) {own : String} {index : Nat} {y : MethodName} {bytes : ByteArray} {maxL : Nat} {ret : Option FieldType} {hh : List (Nat × Nat × Nat × Nat)}
    (hown : s.vm.findClass own = some m.cls) (hlink : (Cond.methodLink own index y).before args s = true) (hstat : (Cond.static y).before args s = true) (hinit : (Cond.initialized y.cls).before args s = true)
    (hcode : (Cond.codeWith y bytes maxL ret hh).before args s = true) (hy : y.cls ≠ "java/lang/invoke/MethodHandle" ∧ y.cls ≠ "java/lang/invoke/VarHandle")
    {W9 : Nat} {Pre : Pt → Array Value → Prop} {Post : Pt → Array Value → Option Value → Pt → Prop} (hK : Back l R p e below s args y 3 W9 Pre Post)
    {g : JFrame} (hg : g.method = m) (hsize : g.locals.size = c.maxLocals) {argsL rest : List Value} (hlen : ∀ sig, parseMethodDescriptor y.desc = some sig → argsL.length = sig.parameters.length)
    (hstack : g.stack = argsL.reverse ++ rest) (hW : 2 * g.monitorRoom + (rest.map fun v => v.category).sum ≤ W9) (hdg : decode c.code g.pc = .ok (.invokestatic index, 3))
    (hpre : ∀ vm₁, s.WarmedH vm₁ → Pre ⟨T.setVm vm₁, locs, cells, slots⟩ argsL.toArray) :
    ∃ (v : Option Value) (vm₁ : Vm) (B : Pt), s.WarmedH vm₁ ∧ Stand p l e R s m args below meth c B.U B.locs B.cells B.slots ∧ Post ⟨T.setVm vm₁, locs, cells, slots⟩ argsL.toArray v B ∧
      ∀ target, Steps p.tables e below (B.U.setTop { g with pc := g.pc + 3, stack := v.toList ++ rest }) target → Steps p.tables e below (T.setTop g) target := by
  obtain ⟨mk, methM, cM, hnamed, hmethM, -, -, -, -, -, -, hsigM⟩ := Cond.codeWith_spec hcode
  have hstatic : methM.isStatic = true := Cond.static_spec hnamed hmethM hstat
  obtain ⟨kP, hkP, -⟩ := className_of_methodNamed hnamed
  have hinitP : kP.init = .initialized := Cond.initialized_spec (findClass_of_methodNamed hnamed) hkP hinit
  obtain ⟨vm₁, X₁, hstep₁⟩ := X.invokestatic hexec hown hlink hnamed hmethM hstatic hkP hinitP hy (g := g) hg (argsL := argsL) (rest := rest) (hlen _ hsigM) hstack hdg
  obtain ⟨v, B, X', hpost, hsteps⟩ := hK m meth c ⟨T.setVm vm₁, locs, cells, slots⟩ { g with stack := rest } (.invokestatic index) mk argsL.toArray X₁ hg hsize hdg hW (X₁.named hnamed) (hpre vm₁ X₁.warmed)
  exact ⟨v, vm₁, B, X₁.warmed, X', hpost, fun target h => hstep₁ _ fun acts => by rw [doInvoke_state]; exact hsteps.trans h⟩
theorem vx_runSW {y : MethodName} {bytes cc : ByteArray} {maxL nL mc ms n index : Nat} {ret : Option FieldType} {hh : List (Nat × Nat × Nat × Nat)} {ws : List Cond} {rm : Room} {Pc : Array Value → State → Prop} {Qc : Array Value → State → Outcome → State → Prop} {free : Addr → Prop} {Ts : List Cond} {own : String} {As rest : List Value} {g : JFrame}
    (S : CallFix p m c cc nL s args Ts own) (hM : Met l y ws rm Pc Qc mc ms free) (cw : vx_CSW R s args own index y bytes maxL ret hh ws rm mc ms n) (hp : PreS s H Pc As)
    (hg : g.method = m) (hn : As.length = n) (hsize : g.locals.size = nL) (hstack : g.stack = As.reverse ++ rest) (hW : 2 * g.monitorRoom + (rest.map fun v => v.category).sum ≤ 8) (hdg : decode cc g.pc = .ok (.invokestatic index, 3)) (hf : cells + mc ≤ R.cells ∧ slots + ms ≤ R.slots) :
    va_Run p l e R s m args below meth c H locs cells slots mc ms g rest (Qc As.toArray) (free) := by
  obtain ⟨⟨hrc, hrs, hfr, hlo, hws, hcw⟩, hcode, hini, hy, hlen, hl, hstt⟩ := cw
  have hK : Back l R p e below s args y 3 8 (PreOf R mc ms Pc) (PostOf Qc mc ms free) := va_backW (hh := hh) (bytes := bytes) (maxL := maxL) (ret := ret) hM hp.1 hrc hrs hfr hlo hws hcw (fun a' U hW => word_at hW (Or.inl (by first | rfl | simp [Cond.onTables, Cond.keeps, Cond.steady])) hini)
  obtain ⟨hx, hb, hml, ho, -⟩ := S
  intro T hT X
  obtain ⟨v, vm₁, ⟨U', l2, c2, s2⟩, hW₁, X', ⟨g', mk, t, L, e1, e2, hq, h1, hL, h2, h3⟩, st⟩ := vx_callSW X hx (hh := hh) (bytes := bytes) (maxL := maxL) (ret := ret) ho hl hstt hini hcode hy hK hg (hsize.trans hml.symm) (argsL := As) (rest := rest) (fun sig h => hn.trans (hlen sig h)) hstack hW (by rw [hb]; exact hdg)
    (fun vm₁ hW₁ => ⟨hf.1, hf.2, hp.2 (T.setVm vm₁) hT hW₁⟩)
  dsimp only [Pt.U, Pt.locs, Pt.cells, Pt.slots] at X' e1 e2 h1 h2 h3 st
  subst h1; subst h2; subst h3
  exact ⟨v, (T.setVm vm₁).calling g' mk As.toArray, t, U', L, hT, X', hL, e1, e2, hq, st⟩
/-- not caught here, past rows that name other classes: it goes on to the caller -/
theorem vx_outP {p : Program} {l : Launch} {e : Env} {R : Room} {s : State} {m : MethodId} {args : Array Value} {below : List Frame} {meth : Method} {c : Code} {H : Heap} {locs : List Loc} {cells slots : Nat} {free : Addr → Prop} {ls : Array Slot} {rest : List Value} {Qc : Array Value → State → Outcome → State → Prop} {XC : String → State → State → Prop}
    {pc : Nat} {own E : String} {ce : Cell} {q : Addr} {mc ms : Nat} (hown : s.vm.findClass own = some m.cls) (hlocks : meth.locks = false)
    (hpass : ∀ z ∈ c.exceptionTable.toList, covers z pc = false ∨ (z.catchType ≠ 0 ∧ ∃ nm : String, (Cond.classLink own z.catchType nm).before args s = true ∧ va_Nc E nm s)) (hcell : H[q]? = some ce) (hv : ce.vm = .none) (hcl : s.vm.findClass E = some ce.cls)
    (hx : ∀ t : State, t.heap = H → s.vm.Alike t.vm → XC E s t) (hf : ∀ z ∈ locs, free z.base) (hc : cells ≤ mc) (hs : slots ≤ ms) :
    vx_W p l e R s m args below meth c H locs cells slots (vx_MQ below Qc XC args s mc ms free) (F0 m pc ls rest) q := by
  intro T hT X
  have hpl : e.platform.magicAccessors = ({} : Platform).magicAccessors := by rw [X.admits.platform]
  obtain ⟨vm', hW', X', st⟩ := X.outThrough hlocks q (g := F0 m pc ls rest) rfl rfl rfl (cell := ce) (by rw [hT]; exact hcell) (by rw [hv]; rfl)
    (by obtain ⟨k9, h9, -⟩ := Vm.findClass_spec hcl; exact ⟨k9, h9⟩) (fun z hz => by
      rcases hpass z hz with h | ⟨hz0, nm, hl1, hn1⟩
      · exact Or.inl h
      · obtain ⟨c6, hc6, hcl6⟩ := Cond.classLink_spec hown hl1 e.platform hpl
        obtain ⟨a8, b8, h1, h2, h3⟩ := hn1
        cases Option.some.inj (h1.symm.trans hcl)
        cases Option.some.inj (h2.symm.trans hc6)
        exact Or.inr ⟨hz0, _, hcl6, h3⟩)
  obtain ⟨g₀, hfr⟩ := X'.frames_eq
  have hcell9 : ((T.setVm vm').setFrames (.throwing q :: below)).heap[q]? = some ce := by
    show T.heap[q]? = some ce
    rw [hT]; exact hcell
  have hend : Ended ((T.setVm vm').setFrames (.throwing q :: below)) below (.threw q) := State.frames_setFrames _ (State.cur_lt_of_frames hfr)
  refine ⟨(T.setVm vm').setFrames (.throwing q :: below), ?_, .threw q, X'.here.running, hend, Or.inr ⟨q, rfl, E, ce, locs, hx _ hT (X'.ends _).1.alike, hcell9, hv, hcl, (X'.ends _).1, (X'.ends _).2.mono hc hs, hf⟩⟩
  rw [X.pushThrowing_eq]
  exact st
/-- a thing of a world lies in the heap -/
theorem vx_lt {D : va_G} {cl : List vw_C} {ws : va_W} {H1 : Heap} (h : va_P D cl ws H1) {k : Nat} {q : Nat × va_E} (hk : ws[k]? = some q) : q.1 < H1.size := (h k q hk).lt
end VXS
/-! ===== END ===== -/
/-! ===== BEGIN methods with a table of their own: called by a name, returning or throwing ===== -/
section VXH
/-! vx_backW, vx_callVX, vx_callSX, vx_callVW, vx_runVW, vx_runVX, vx_runSX, vx_ofWH follow the same proofs as their sisters above (Free/Laws.lean, Shelf42/LK1.lean); vx_outP calls Shelf42/NT130.lean (outThrough). -/
section
variable {l : Launch} {R : Room} {p : Program} {e : Env} {below : List Frame} {s : State} {sargs : Array Value} {y : MethodName} {len W9 : Nat}
theorem vx_backW {ws : List Cond} {rm : Room} {Pc : Array Value → State → Prop} {Qc : Array Value → State → Outcome → State → Prop} {XC : String → State → State → Prop} {mc ms : Nat} {free : Addr → Prop} {bytes : ByteArray} {maxL : Nat} {ret : Option FieldType} {hh : List (Nat × Nat × Nat × Nat)}
    (hM : vx_Met l y ws rm Pc Qc XC mc ms free) (hblind : FrameBlind Pc) (hrc : rm.cells = mc) (hrs : rm.slots = ms)
    (hframes : rm.frames + 1 ≤ R.frames) (hlocals : W9 + (maxL + 11) + rm.locals ≤ R.locals)
    (hws : ∀ w ∈ ws, ∀ a' U, s.WarmedH U.vm → w.before a' U = true) (hcode : Cond.codeWith y bytes maxL ret hh ∈ ws) (hinit : ∀ a' U, s.WarmedH U.vm → (Cond.initialized y.cls).before a' U = true) :
    vx_Back l R p e below s sargs y len W9 (PreOf R mc ms Pc) (PostOf Qc mc ms free) (vx_Post XC mc ms free) := by
  intro m meth c A g ig mk a X hg hsize hdg hW hn hp
  have h1 : (headSpec ws rm).pre.before a A.U = true := atoms_intro fun w hw => hws w hw _ _ X.warmed
  have h2 : (Cond.codeWith y bytes maxL ret hh).before a A.U = true := hws _ hcode _ _ X.warmed
  have h3 : (Cond.initialized y.cls).before a A.U = true := hinit _ _ X.warmed
  have h4 : A.cells + (headSpec ws rm).room.cells ≤ R.cells := by rw [show (headSpec ws rm).room.cells = mc from hrc]; exact hp.1
  have h5 : A.slots + (headSpec ws rm).room.slots ≤ R.slots := by rw [show (headSpec ws rm).room.slots = ms from hrs]; exact hp.2.1
  have hPc : Pc a (A.U.calling g mk a) := hblind _ _ _ _ hp.2.2
  obtain ⟨U, Ls, c0, s0⟩ := A
  dsimp only [Pt.U, Pt.locs, Pt.cells, Pt.slots] at h1 h2 h3 h4 h5 X hn hPc ⊢
  obtain ⟨m9, methY, cY, hn9, hmY, hcY, -, hlY, -⟩ := Cond.codeWith_spec h2
  cases Option.some.inj (hn9.symm.trans hn)
  obtain ⟨kY, hkY, -⟩ := className_of_methodNamed hn
  have hinitY : kY.init = .initialized := Cond.initialized_spec (findClass_of_methodNamed hn) hkY h3
  have h : At U g.method c below := by rw [hg]; exact X.here
  have hlocals9 : W9 + (maxL + 11) + (headSpec ws rm).room.locals ≤ R.locals := hlocals
  have happ : (headSpec ws rm).appliesLoose y e.platform (U.calling g mk a) = true :=
    Spec.appliesLoose_calling (g := g) h hdg hn hkY hinitY
      (X.room_calling (g := g) (R' := (headSpec ws rm).room) hsize hmY hcY hframes (by rw [hlY]; omega) h4 h5) h1
  obtain ⟨mid, hmid⟩ := h.above
  have hfr : (U.setTop g).frames = (.java g :: mid) ++ below := by rw [State.frames_setTop' g h.top, hmid]; rfl
  obtain ⟨o, s₂, hsteps, -, hend, hq⟩ := Steps.callFree hM p X.admits X.cas X.clock (acts := []) hfr happ hPc trivial
  have hq' : vx_Q Qc XC mc ms free a (U.calling g mk a) o s₂ := hq
  rw [State.frames_setTop' g h.top] at hend
  obtain ⟨g₀, hg0⟩ := Option.isSome_iff_exists.mp h.top
  obtain ⟨r, hr⟩ := State.topJava?_eq_some.mp hg0
  have hr' : (({ U with heap := s₂.heap, slotsUsed := s₂.slotsUsed } : State).setVm s₂.vm).frames = .java g₀ :: r := hr
  rcases hq' with ⟨hqc, L, hfe, hL⟩ | ⟨q, rfl, E, ce, L, hx, hce, hcv, hcl, hW₂, hsm, hL⟩
  · obtain ⟨⟨v, rfl⟩, hW₂, e2, q2, q3, q4, q5, q6⟩ := id hfe
    have e3 : s₂ = ({ (U.calling g mk a).setFrames s₂.frames with heap := s₂.heap, slotsUsed := s₂.slotsUsed } : State).setVm s₂.vm := by
      have : s₂ = ({ s₂ with vm := (U.calling g mk a).vm } : State).setVm s₂.vm := rfl
      rw [e2] at this
      exact this
    obtain ⟨c₂, i₂, len₂, hc₂, hd₂, hf₂⟩ := hend
    have hW' : U.WarmedH s₂.vm := hW₂
    have hcc : c₂ = c := by
      have h1 : s₂.code? g.method = U.code? g.method := by
        rw [State.code?_eq, State.code?_eq, hW'.alike.method?]
      exact Option.some.inj (hc₂.symm.trans (h1.trans h.code))
    subst hcc
    have hlen : len₂ = len := by rw [hdg] at hd₂; cases hd₂; rfl
    subst hlen
    have hs₂ : s₂ = (({ U with heap := s₂.heap, slotsUsed := s₂.slotsUsed } : State).setVm s₂.vm).setTop { g with pc := g.pc + len₂, stack := v.toList ++ g.stack } := by
      refine e3.trans ?_
      rw [hf₂, State.calling_eq h.top, State.setFrames_setFrames, State.setTop_of_frames _ hr', hr]
      rfl
    have hsame : U.sameButNew ({ U with heap := s₂.heap, slotsUsed := s₂.slotsUsed } : State) L mc ms := by
      refine ⟨?_, q2, q3, q4, q5, q6⟩
      obtain ⟨t, ht, -⟩ := State.frames_cons hr
      show ({ U with heap := s₂.heap, slotsUsed := s₂.slotsUsed } : State) = { U.setFrames U.frames with heap := s₂.heap, slotsUsed := s₂.slotsUsed }
      rw [State.setFrames_self ht]
    subst hg
    refine Or.inl ⟨v, ⟨(({ U with heap := s₂.heap, slotsUsed := s₂.slotsUsed } : State).setVm s₂.vm), Ls ++ L, c0 + mc, s0 + ms⟩,
      ⟨X.admits, X.cas, X.clock, X.frames, X.room, X.hears, X.method, X.code, (X.here.setHeapUsed s₂.heap s₂.slotsUsed).setVm hW'.alike, X.tail, State.WarmedH.trans X.warmed hW', X.limits, X.bytes, X.same.trans (hsame.setVm s.vm)⟩,
      ⟨g, mk, s₂, L, rfl, rfl, hqc, rfl, hL, rfl, rfl⟩, ?_⟩
    show Steps p.tables e below _ ((({ U with heap := s₂.heap, slotsUsed := s₂.slotsUsed } : State).setVm s₂.vm).setTop { g with pc := g.pc + len₂, stack := v.toList ++ g.stack })
    rw [← hs₂]
    exact hsteps
  · obtain ⟨e2, q2, q3, q4, q5, q6⟩ := id hsm
    have e3 : s₂ = ({ (U.calling g mk a).setFrames s₂.frames with heap := s₂.heap, slotsUsed := s₂.slotsUsed } : State).setVm s₂.vm := by
      have : s₂ = ({ s₂ with vm := (U.calling g mk a).vm } : State).setVm s₂.vm := rfl
      rw [e2] at this
      exact this
    have hf₂ : s₂.frames = .throwing q :: .java g :: U.frames.tail := hend
    have hW' : U.WarmedH s₂.vm := hW₂
    have hs₂ : s₂ = ((({ U with heap := s₂.heap, slotsUsed := s₂.slotsUsed } : State).setVm s₂.vm).setTop g).pushFrame (.throwing q) := by
      refine e3.trans ?_
      rw [hf₂, State.calling_eq h.top, State.setFrames_setFrames, State.pushFrame, State.frames_setTop _ hr', State.setTop_of_frames _ hr', State.setFrames_setFrames, hr]
      rfl
    have hsame : U.sameButNew ({ U with heap := s₂.heap, slotsUsed := s₂.slotsUsed } : State) L mc ms := by
      refine ⟨?_, q2, q3, q4, q5, q6⟩
      obtain ⟨t, ht, -⟩ := State.frames_cons hr
      show ({ U with heap := s₂.heap, slotsUsed := s₂.slotsUsed } : State) = { U.setFrames U.frames with heap := s₂.heap, slotsUsed := s₂.slotsUsed }
      rw [State.setFrames_self ht]
    subst hg
    refine Or.inr ⟨q, ⟨(({ U with heap := s₂.heap, slotsUsed := s₂.slotsUsed } : State).setVm s₂.vm), Ls ++ L, c0 + mc, s0 + ms⟩,
      ⟨X.admits, X.cas, X.clock, X.frames, X.room, X.hears, X.method, X.code, (X.here.setHeapUsed s₂.heap s₂.slotsUsed).setVm hW'.alike, X.tail, State.WarmedH.trans X.warmed hW', X.limits, X.bytes, X.same.trans (hsame.setVm s.vm)⟩,
      ⟨g, mk, s₂, L, E, ce, rfl, rfl, hx, hce, hcv, hcl, rfl, hL, rfl, rfl⟩, ?_⟩
    show Steps p.tables e below _ (((({ U with heap := s₂.heap, slotsUsed := s₂.slotsUsed } : State).setVm s₂.vm).setTop g).pushFrame (.throwing q))
    rw [← hs₂]
    exact hsteps
end
variable {p : Program} {l : Launch} {e : Env} {R : Room} {s : State} {m : MethodId} {args : Array Value} {below : List Frame} {meth : Method} {c : Code} {T : State} {H : Heap} {locs : List Loc} {cells slots : Nat}
theorem vx_callVX (X : Stand p l e R s m args below meth c T locs cells slots) (hexec : p.tables.exec = Jvm.exec) {own C : String} {index : Nat} {y : MethodName} {bytes : ByteArray} {maxL : Nat} {ret : Option FieldType} {hh : List (Nat × Nat × Nat × Nat)}
    (hown : s.vm.findClass own = some m.cls) (hlink : (Cond.methodLink own index y).before args s = true) (hinst : (Cond.instanceMethod y).before args s = true) (hsel : (Cond.selects C y y).before args s = true)
    (hcode : (Cond.codeWith y bytes maxL ret hh).before args s = true) (hy : y.cls ≠ "java/lang/invoke/MethodHandle" ∧ y.cls ≠ "java/lang/invoke/VarHandle")
    {W9 : Nat} {Pre : Pt → Array Value → Prop} {Post : Pt → Array Value → Option Value → Pt → Prop} {PostX : Pt → Array Value → Addr → Pt → Prop} (hK : vx_Back l R p e below s args y 3 W9 Pre Post PostX)
    {b : Addr} {cellB : Cell} (hcell : T.heap[b]? = some cellB) (hobj : cellB.vm.isStatics = false) (hcls : s.vm.findClass C = some cellB.cls)
    {g : JFrame} (hg : g.method = m) (hsize : g.locals.size = c.maxLocals) {argsL rest : List Value} (hlen : ∀ sig, parseMethodDescriptor y.desc = some sig → argsL.length = sig.parameters.length)
    (hstack : g.stack = argsL.reverse ++ .ref b :: rest) (hW : 2 * g.monitorRoom + (rest.map fun v => v.category).sum ≤ W9) (hdg : decode c.code g.pc = .ok (.invokevirtual index, 3))
    (hpre : ∀ vm₁, s.WarmedH vm₁ → Pre ⟨T.setVm vm₁, locs, cells, slots⟩ (Value.ref b :: argsL).toArray) :
    (∃ (v : Option Value) (vm₁ : Vm) (B : Pt), s.WarmedH vm₁ ∧ Stand p l e R s m args below meth c B.U B.locs B.cells B.slots ∧ Post ⟨T.setVm vm₁, locs, cells, slots⟩ (Value.ref b :: argsL).toArray v B ∧
      ∀ target, Steps p.tables e below (B.U.setTop { g with pc := g.pc + 3, stack := v.toList ++ rest }) target → Steps p.tables e below (T.setTop g) target) ∨
    (∃ (q : Addr) (vm₁ : Vm) (B : Pt), s.WarmedH vm₁ ∧ Stand p l e R s m args below meth c B.U B.locs B.cells B.slots ∧ PostX ⟨T.setVm vm₁, locs, cells, slots⟩ (Value.ref b :: argsL).toArray q B ∧
      Steps p.tables e below (T.setTop g) ((B.U.setTop { g with stack := rest }).pushFrame (.throwing q))) := by
  obtain ⟨mk, methM, hnamed, hmethM, hstM, habM⟩ := Cond.instanceMethod_spec hinst
  obtain ⟨m8, methM', cM, hn8, hmethM', -, -, -, -, -, -, hsigM⟩ := Cond.codeWith_spec hcode
  cases Option.some.inj (hn8.symm.trans hnamed)
  cases hmethM.symm.trans hmethM'
  obtain ⟨c2, r2, m2, q1, q2, q3, q4, kP, hkP, hkPi⟩ := Cond.selects_spec hsel
  cases hcls.symm.trans q1
  cases (State.methodFound?_of_named hnamed hy).symm.trans q2
  cases hnamed.symm.trans q3
  have hselP : selectMethod e.platform s.vm cellB.cls mk = .method mk := by rw [Launch.admits_selectMethod X.admits]; exact q4
  obtain ⟨vm₁, X₁, hstep₁⟩ := X.invokevirtual hexec hown hlink hnamed hmethM hstM hkP hkPi hy (a := b) (cell := cellB) hcell
    (fun z h => by rw [h] at hobj; cases hobj) hselP hmethM habM hkP hkPi (g := g) hg (argsL := argsL) (rest := rest) (hlen _ hsigM) hstack hdg
  rcases hK m meth c ⟨T.setVm vm₁, locs, cells, slots⟩ { g with stack := rest } (.invokevirtual index) mk (Value.ref b :: argsL).toArray X₁ hg hsize hdg hW (X₁.named hnamed) (hpre vm₁ X₁.warmed) with ⟨v, B, X', hpost, hsteps⟩ | ⟨q, B, X', hpost, hsteps⟩
  · exact Or.inl ⟨v, vm₁, B, X₁.warmed, X', hpost, fun target h => hstep₁ _ fun acts => by rw [doInvoke_state]; exact hsteps.trans h⟩
  · exact Or.inr ⟨q, vm₁, B, X₁.warmed, X', hpost, hstep₁ _ fun acts => by rw [doInvoke_state]; exact hsteps⟩
theorem vx_callSX (X : Stand p l e R s m args below meth c T locs cells slots) (hexec : p.tables.exec = Jvm.exec) {own : String} {index : Nat} {y : MethodName} {bytes : ByteArray} {maxL : Nat} {ret : Option FieldType} {hh : List (Nat × Nat × Nat × Nat)}
    (hown : s.vm.findClass own = some m.cls) (hlink : (Cond.methodLink own index y).before args s = true) (hstat : (Cond.static y).before args s = true) (hinit : (Cond.initialized y.cls).before args s = true)
    (hcode : (Cond.codeWith y bytes maxL ret hh).before args s = true) (hy : y.cls ≠ "java/lang/invoke/MethodHandle" ∧ y.cls ≠ "java/lang/invoke/VarHandle")
    {W9 : Nat} {Pre : Pt → Array Value → Prop} {Post : Pt → Array Value → Option Value → Pt → Prop} {PostX : Pt → Array Value → Addr → Pt → Prop} (hK : vx_Back l R p e below s args y 3 W9 Pre Post PostX)
    {g : JFrame} (hg : g.method = m) (hsize : g.locals.size = c.maxLocals) {argsL rest : List Value} (hlen : ∀ sig, parseMethodDescriptor y.desc = some sig → argsL.length = sig.parameters.length)
    (hstack : g.stack = argsL.reverse ++ rest) (hW : 2 * g.monitorRoom + (rest.map fun v => v.category).sum ≤ W9) (hdg : decode c.code g.pc = .ok (.invokestatic index, 3))
    (hpre : ∀ vm₁, s.WarmedH vm₁ → Pre ⟨T.setVm vm₁, locs, cells, slots⟩ argsL.toArray) :
    (∃ (v : Option Value) (vm₁ : Vm) (B : Pt), s.WarmedH vm₁ ∧ Stand p l e R s m args below meth c B.U B.locs B.cells B.slots ∧ Post ⟨T.setVm vm₁, locs, cells, slots⟩ argsL.toArray v B ∧
      ∀ target, Steps p.tables e below (B.U.setTop { g with pc := g.pc + 3, stack := v.toList ++ rest }) target → Steps p.tables e below (T.setTop g) target) ∨
    (∃ (q : Addr) (vm₁ : Vm) (B : Pt), s.WarmedH vm₁ ∧ Stand p l e R s m args below meth c B.U B.locs B.cells B.slots ∧ PostX ⟨T.setVm vm₁, locs, cells, slots⟩ argsL.toArray q B ∧
      Steps p.tables e below (T.setTop g) ((B.U.setTop { g with stack := rest }).pushFrame (.throwing q))) := by
  obtain ⟨mk, methM, cM, hnamed, hmethM, -, -, -, -, -, -, hsigM⟩ := Cond.codeWith_spec hcode
  have hstatic : methM.isStatic = true := Cond.static_spec hnamed hmethM hstat
  obtain ⟨kP, hkP, -⟩ := className_of_methodNamed hnamed
  have hinitP : kP.init = .initialized := Cond.initialized_spec (findClass_of_methodNamed hnamed) hkP hinit
  obtain ⟨vm₁, X₁, hstep₁⟩ := X.invokestatic hexec hown hlink hnamed hmethM hstatic hkP hinitP hy (g := g) hg (argsL := argsL) (rest := rest) (hlen _ hsigM) hstack hdg
  rcases hK m meth c ⟨T.setVm vm₁, locs, cells, slots⟩ { g with stack := rest } (.invokestatic index) mk argsL.toArray X₁ hg hsize hdg hW (X₁.named hnamed) (hpre vm₁ X₁.warmed) with ⟨v, B, X', hpost, hsteps⟩ | ⟨q, B, X', hpost, hsteps⟩
  · exact Or.inl ⟨v, vm₁, B, X₁.warmed, X', hpost, fun target h => hstep₁ _ fun acts => by rw [doInvoke_state]; exact hsteps.trans h⟩
  · exact Or.inr ⟨q, vm₁, B, X₁.warmed, X', hpost, hstep₁ _ fun acts => by rw [doInvoke_state]; exact hsteps⟩
theorem vx_callVW (X : Stand p l e R s m args below meth c T locs cells slots) (hexec : p.tables.exec = Jvm.exec) {own C : String} {index : Nat} {y : MethodName} {bytes : ByteArray} {maxL : Nat} {ret : Option FieldType} {hh : List (Nat × Nat × Nat × Nat)}
    (hown : s.vm.findClass own = some m.cls) (hlink : (Cond.methodLink own index y).before args s = true) (hinst : (Cond.instanceMethod y).before args s = true) (hsel : (Cond.selects C y y).before args s = true)
    (hcode : (Cond.codeWith y bytes maxL ret hh).before args s = true) (hy : y.cls ≠ "java/lang/invoke/MethodHandle" ∧ y.cls ≠ "java/lang/invoke/VarHandle")
    {W9 : Nat} {Pre : Pt → Array Value → Prop} {Post : Pt → Array Value → Option Value → Pt → Prop} (hK : Back l R p e below s args y 3 W9 Pre Post)
    {b : Addr} {cellB : Cell} (hcell : T.heap[b]? = some cellB) (hobj : cellB.vm.isStatics = false) (hcls : s.vm.findClass C = some cellB.cls)
    {g : JFrame} (hg : g.method = m) (hsize : g.locals.size = c.maxLocals) {argsL rest : List Value} (hlen : ∀ sig, parseMethodDescriptor y.desc = some sig → argsL.length = sig.parameters.length)
    (hstack : g.stack = argsL.reverse ++ .ref b :: rest) (hW : 2 * g.monitorRoom + (rest.map fun v => v.category).sum ≤ W9) (hdg : decode c.code g.pc = .ok (.invokevirtual index, 3))
    (hpre : ∀ vm₁, s.WarmedH vm₁ → Pre ⟨T.setVm vm₁, locs, cells, slots⟩ (Value.ref b :: argsL).toArray) :
    ∃ (v : Option Value) (vm₁ : Vm) (B : Pt), s.WarmedH vm₁ ∧ Stand p l e R s m args below meth c B.U B.locs B.cells B.slots ∧ Post ⟨T.setVm vm₁, locs, cells, slots⟩ (Value.ref b :: argsL).toArray v B ∧
      ∀ target, Steps p.tables e below (B.U.setTop { g with pc := g.pc + 3, stack := v.toList ++ rest }) target → Steps p.tables e below (T.setTop g) target := by
  obtain ⟨mk, methM, hnamed, hmethM, hstM, habM⟩ := Cond.instanceMethod_spec hinst
  obtain ⟨m8, methM', cM, hn8, hmethM', -, -, -, -, -, -, hsigM⟩ := Cond.codeWith_spec hcode
  cases Option.some.inj (hn8.symm.trans hnamed)
  cases hmethM.symm.trans hmethM'
  obtain ⟨c2, r2, m2, q1, q2, q3, q4, kP, hkP, hkPi⟩ := Cond.selects_spec hsel
  cases hcls.symm.trans q1
  cases (State.methodFound?_of_named hnamed hy).symm.trans q2
  cases hnamed.symm.trans q3
  have hselP : selectMethod e.platform s.vm cellB.cls mk = .method mk := by rw [Launch.admits_selectMethod X.admits]; exact q4
  obtain ⟨vm₁, X₁, hstep₁⟩ := X.invokevirtual hexec hown hlink hnamed hmethM hstM hkP hkPi hy (a := b) (cell := cellB) hcell
    (fun z h => by rw [h] at hobj; cases hobj) hselP hmethM habM hkP hkPi (g := g) hg (argsL := argsL) (rest := rest) (hlen _ hsigM) hstack hdg
  obtain ⟨v, B, X', hpost, hsteps⟩ := hK m meth c ⟨T.setVm vm₁, locs, cells, slots⟩ { g with stack := rest } (.invokevirtual index) mk (Value.ref b :: argsL).toArray X₁ hg hsize hdg hW (X₁.named hnamed) (hpre vm₁ X₁.warmed)
  exact ⟨v, vm₁, B, X₁.warmed, X', hpost, fun target h => hstep₁ _ fun acts => by rw [doInvoke_state]; exact hsteps.trans h⟩
abbrev vx_CVW (R : Room) (s : State) (args : Array Value) (own C : String) (index : Nat) (y : MethodName) (bytes : ByteArray) (maxL : Nat) (ret : Option FieldType) (hh : List (Nat × Nat × Nat × Nat)) (ws : List Cond) (rm : Room) (mc ms n : Nat) : Prop :=
  (rm.cells = mc ∧ rm.slots = ms ∧ rm.frames + 1 ≤ R.frames ∧ 8 + (maxL + 11) + rm.locals ≤ R.locals ∧ (∀ w ∈ ws, ∀ (a' : Array Value) (U : State), s.WarmedH U.vm → w.before a' U = true) ∧ Cond.codeWith y bytes maxL ret hh ∈ ws) ∧
  (Cond.codeWith y bytes maxL ret hh).before args s = true ∧ (Cond.initialized y.cls).before args s = true ∧ (y.cls ≠ "java/lang/invoke/MethodHandle" ∧ y.cls ≠ "java/lang/invoke/VarHandle") ∧
  (∀ sig, parseMethodDescriptor y.desc = some sig → n = sig.parameters.length) ∧ (Cond.methodLink own index y).before args s = true ∧ (Cond.instanceMethod y).before args s = true ∧ (Cond.selects C y y).before args s = true
theorem vx_cwVW {own C : String} {index maxL mc ms : Nat} {y : MethodName} {bytes : ByteArray} {ret : Option FieldType} {hh : List (Nat × Nat × Nat × Nat)} {Ts ws ws' : List Cond} {rm : Room} (n : Nat) (ht : ∀ w ∈ Ts, w.before args s = true) (hT : GoodIn Ts (wsV own index C y ws)) (hw : ws = Cond.codeWith y bytes maxL ret hh :: ws') (hrc : rm.cells = mc) (hrs : rm.slots = ms)
    (hd : y.cls = C ∧ y.cls ≠ "java/lang/invoke/MethodHandle" ∧ y.cls ≠ "java/lang/invoke/VarHandle" ∧ (parseMethodDescriptor y.desc).map (fun d => d.parameters.length) = some n) (hR : rm.frames + 1 ≤ R.frames ∧ 8 + (maxL + 11) + rm.locals ≤ R.locals) :
    vx_CVW R s args own C index y bytes maxL ret hh ws rm mc ms n := by
  obtain ⟨hC, hd⟩ := hd
  subst hC
  have ok : ∀ w ∈ wsV own index y.cls y ws, w.before args s = true := fun w h => ht w (hT w h).1
  have hG : GoodIn Ts ws := fun w h => hT w (by unfold wsV; exact List.mem_append_right _ h)
  have hc : Cond.codeWith y bytes maxL ret hh ∈ ws := by rw [hw]; exact List.mem_cons_self
  refine ⟨⟨hrc, hrs, hR.1, hR.2, pay_in ht hG, hc⟩, ht _ (hG _ hc).1, ok _ (by simp [wsV]), ⟨hd.1, hd.2.1⟩, fun sig h => ?_, ok _ (by simp [wsV]), ok _ (by simp [wsV]), ok _ (by simp [wsV])⟩
  have h2 := hd.2.2
  rw [h] at h2
  exact (Option.some.inj h2).symm
theorem vx_runVW {y : MethodName} {bytes cc : ByteArray} {maxL nL mc ms n index : Nat} {ret : Option FieldType} {hh : List (Nat × Nat × Nat × Nat)} {ws : List Cond} {rm : Room} {Pc : Array Value → State → Prop} {Qc : Array Value → State → Outcome → State → Prop} {free : Addr → Prop} {Ts : List Cond} {own C : String} {b : Addr} {As rest : List Value} {g : JFrame}
    (S : CallFix p m c cc nL s args Ts own) (hM : Met l y ws rm Pc Qc mc ms free) (cw : vx_CVW R s args own C index y bytes maxL ret hh ws rm mc ms n) (hp : PreV s H C b Pc As)
    (hg : g.method = m) (hn : As.length = n) (hsize : g.locals.size = nL) (hstack : g.stack = As.reverse ++ .ref b :: rest) (hW : 2 * g.monitorRoom + (rest.map fun v => v.category).sum ≤ 8) (hdg : decode cc g.pc = .ok (.invokevirtual index, 3)) (hf : cells + mc ≤ R.cells ∧ slots + ms ≤ R.slots) :
    va_Run p l e R s m args below meth c H locs cells slots mc ms g rest (Qc (Value.ref b :: As).toArray) free := by
  obtain ⟨⟨hrc, hrs, hfr, hlo, hws, hcw⟩, hcode, hini, hy, hlen, hl, hin, hse⟩ := cw
  have hK : Back l R p e below s args y 3 8 (PreOf R mc ms Pc) (PostOf Qc mc ms free) := va_backW (hh := hh) (bytes := bytes) (maxL := maxL) (ret := ret) hM hp.1 hrc hrs hfr hlo hws hcw (fun a' U hW => word_at hW (Or.inl (by first | rfl | simp [Cond.onTables, Cond.keeps, Cond.steady])) hini)
  obtain ⟨hx, hb, hml, ho, -⟩ := S
  obtain ⟨-, ⟨cellB, hcB, hoB, hclB⟩, hPc⟩ := hp
  intro T hT X
  obtain ⟨v, vm₁, ⟨U', l2, c2, s2⟩, hW₁, X', ⟨g', mk, t, L, e1, e2, hq, h1, hL, h2, h3⟩, st⟩ := vx_callVW X hx (C := C) (hh := hh) (bytes := bytes) (maxL := maxL) (ret := ret) ho hl hin hse hcode hy hK (by rw [hT]; exact hcB) hoB hclB hg (hsize.trans hml.symm) (argsL := As) (rest := rest) (fun sig h => hn.trans (hlen sig h)) hstack hW (by rw [hb]; exact hdg)
    (fun vm₁ hW₁ => ⟨hf.1, hf.2, hPc (T.setVm vm₁) hT hW₁⟩)
  dsimp only [Pt.U, Pt.locs, Pt.cells, Pt.slots] at X' e1 e2 h1 h2 h3 st
  subst h1; subst h2; subst h3
  exact ⟨v, (T.setVm vm₁).calling g' mk (Value.ref b :: As).toArray, t, U', L, hT, X', hL, e1, e2, hq, st⟩
section
variable {y : MethodName} {bytes cc : ByteArray} {maxL nL mc ms n index : Nat} {ret : Option FieldType} {ws : List Cond} {rm : Room} {Pc : Array Value → State → Prop} {Qc : Array Value → State → Outcome → State → Prop} {XC : String → State → State → Prop} {free : Addr → Prop} {Ts : List Cond} {own C : String} {b : Addr} {As rest : List Value} {g : JFrame}
theorem vx_runVX {hh : List (Nat × Nat × Nat × Nat)} (S : CallFix p m c cc nL s args Ts own) (hM : vx_Met l y ws rm Pc Qc XC mc ms free) (cw : vx_CVW R s args own C index y bytes maxL ret hh ws rm mc ms n) (hp : PreV s H C b Pc As)
    (hg : g.method = m) (hn : As.length = n) (hsize : g.locals.size = nL) (hstack : g.stack = As.reverse ++ .ref b :: rest) (hW : 2 * g.monitorRoom + (rest.map fun v => v.category).sum ≤ 8) (hdg : decode cc g.pc = .ok (.invokevirtual index, 3)) (hf : cells + mc ≤ R.cells ∧ slots + ms ≤ R.slots) :
    vx_Run p l e R s m args below meth c H locs cells slots mc ms g rest (Qc (Value.ref b :: As).toArray) XC free := by
  obtain ⟨⟨hrc, hrs, hfr, hlo, hws, hcw⟩, hcode, hini, hy, hlen, hl, hin, hse⟩ := cw
  have hK : vx_Back l R p e below s args y 3 8 (PreOf R mc ms Pc) (PostOf Qc mc ms free) (vx_Post XC mc ms free) := vx_backW (hh := hh) (bytes := bytes) (maxL := maxL) (ret := ret) hM hp.1 hrc hrs hfr hlo hws hcw (fun a' U hW => word_at hW (Or.inl (by first | rfl | simp [Cond.onTables, Cond.keeps, Cond.steady])) hini)
  obtain ⟨hx, hb, hml, ho, -⟩ := S
  obtain ⟨-, ⟨cellB, hcB, hoB, hclB⟩, hPc⟩ := hp
  intro T hT X
  rcases vx_callVX X hx (C := C) (hh := hh) (bytes := bytes) (maxL := maxL) (ret := ret) ho hl hin hse hcode hy hK (by rw [hT]; exact hcB) hoB hclB hg (hsize.trans hml.symm) (argsL := As) (rest := rest) (fun sig h => hn.trans (hlen sig h)) hstack hW (by rw [hb]; exact hdg)
    (fun vm₁ hW₁ => ⟨hf.1, hf.2, hPc (T.setVm vm₁) hT hW₁⟩) with ⟨v, vm₁, ⟨U', l2, c2, s2⟩, hW₁, X', ⟨g', mk, t, L, e1, e2, hq, h1, hL, h2, h3⟩, st⟩ | ⟨q, vm₁, ⟨U', l2, c2, s2⟩, hW₁, X', ⟨g', mk, t, L, E, ce, e1, e2, hq, hce, hcv, hcl, h1, hL, h2, h3⟩, st⟩
  · dsimp only [Pt.U, Pt.locs, Pt.cells, Pt.slots] at X' e1 e2 h1 h2 h3 st
    subst h1; subst h2; subst h3
    exact Or.inl ⟨v, (T.setVm vm₁).calling g' mk (Value.ref b :: As).toArray, t, U', L, hT, X', hL, e1, e2, hq, st⟩
  · dsimp only [Pt.U, Pt.locs, Pt.cells, Pt.slots] at X' e1 e2 h1 h2 h3 st hcl
    subst h1; subst h2; subst h3
    exact Or.inr ⟨q, (T.setVm vm₁).calling g' mk (Value.ref b :: As).toArray, t, U', L, E, ce, hT, X', hL, e1, e2, hq, hce, hcv, vx_cls hW₁ hcl, st⟩
theorem vx_runSX {hh : List (Nat × Nat × Nat × Nat)} (S : CallFix p m c cc nL s args Ts own) (hM : vx_Met l y ws rm Pc Qc XC mc ms free) (cw : vx_CSW R s args own index y bytes maxL ret hh ws rm mc ms n) (hp : PreS s H Pc As)
    (hg : g.method = m) (hn : As.length = n) (hsize : g.locals.size = nL) (hstack : g.stack = As.reverse ++ rest) (hW : 2 * g.monitorRoom + (rest.map fun v => v.category).sum ≤ 8) (hdg : decode cc g.pc = .ok (.invokestatic index, 3)) (hf : cells + mc ≤ R.cells ∧ slots + ms ≤ R.slots) :
    vx_Run p l e R s m args below meth c H locs cells slots mc ms g rest (Qc As.toArray) XC free := by
  obtain ⟨⟨hrc, hrs, hfr, hlo, hws, hcw⟩, hcode, hini, hy, hlen, hl, hstt⟩ := cw
  have hK : vx_Back l R p e below s args y 3 8 (PreOf R mc ms Pc) (PostOf Qc mc ms free) (vx_Post XC mc ms free) := vx_backW (hh := hh) (bytes := bytes) (maxL := maxL) (ret := ret) hM hp.1 hrc hrs hfr hlo hws hcw (fun a' U hW => word_at hW (Or.inl (by first | rfl | simp [Cond.onTables, Cond.keeps, Cond.steady])) hini)
  obtain ⟨hx, hb, hml, ho, -⟩ := S
  intro T hT X
  rcases vx_callSX X hx (hh := hh) (bytes := bytes) (maxL := maxL) (ret := ret) ho hl hstt hini hcode hy hK hg (hsize.trans hml.symm) (argsL := As) (rest := rest) (fun sig h => hn.trans (hlen sig h)) hstack hW (by rw [hb]; exact hdg)
    (fun vm₁ hW₁ => ⟨hf.1, hf.2, hp.2 (T.setVm vm₁) hT hW₁⟩) with ⟨v, vm₁, ⟨U', l2, c2, s2⟩, hW₁, X', ⟨g', mk, t, L, e1, e2, hq, h1, hL, h2, h3⟩, st⟩ | ⟨q, vm₁, ⟨U', l2, c2, s2⟩, hW₁, X', ⟨g', mk, t, L, E, ce, e1, e2, hq, hce, hcv, hcl, h1, hL, h2, h3⟩, st⟩
  · dsimp only [Pt.U, Pt.locs, Pt.cells, Pt.slots] at X' e1 e2 h1 h2 h3 st
    subst h1; subst h2; subst h3
    exact Or.inl ⟨v, (T.setVm vm₁).calling g' mk As.toArray, t, U', L, hT, X', hL, e1, e2, hq, st⟩
  · dsimp only [Pt.U, Pt.locs, Pt.cells, Pt.slots] at X' e1 e2 h1 h2 h3 st hcl
    subst h1; subst h2; subst h3
    exact Or.inr ⟨q, (T.setVm vm₁).calling g' mk As.toArray, t, U', L, E, ce, hT, X', hL, e1, e2, hq, hce, hcv, vx_cls hW₁ hcl, st⟩
end
end VXH
theorem vx_ofWH {l : Launch} {y : MethodName} {ws ws' : List Cond} {rm : Room} {Pc : Array Value → State → Prop} {Qc : Array Value → State → Outcome → State → Prop} {XC : String → State → State → Prop} {mc ms : Nat} {free : Addr → Prop} {cc : ByteArray} {maxL : Nat} {ret : Option FieldType} {hh : List (Nat × Nat × Nat × Nat)}
    (hy : plainName y.cls = true) (hw : ws = Cond.codeWith y cc maxL ret hh :: ws')
    (body : ∀ p e s m args below meth c s₁, BodyLoose p l y (headSpec ws rm) cc maxL ret e s m args below meth c s₁ → c.maxLocals = maxL → Pc args s →
      W p l e (headSpec ws rm).room s m args below meth c s.heap [] 0 0 (vx_MQ below Qc XC args s mc ms free) (entryFrame m args maxL)) : vx_Met l y ws rm Pc Qc XC mc ms free := by
  refine MetFree.of_bodyS (code := cc) (maxLocals := maxL) (ret := ret) hy ?_ ?_
  · intro args s m h hn
    obtain ⟨m9, meth, c, hn9, h1, h2, h3, h4, -, h5, h6, -⟩ := Cond.codeWith_spec (atoms_spec (ws := ws) h _ (by rw [hw]; exact List.mem_cons_self))
    cases hn.symm.trans hn9
    exact ⟨meth, c, h1, h2, h3, h4, h5, h6⟩
  · intro p e s m args below meth c s₁ B hml hP _
    have hh0 : s₁.heap = s.heap := by rw [B.state]; rfl
    obtain ⟨t, a1, o, b1, b2, b3⟩ := body p e s m args below meth c s₁ B hml hP s₁ hh0 (Stand.of_body B)
    exact ⟨t, o, a1, b1, b2, b3⟩
/-! ===== END ===== -/
/-! ===== BEGIN what the machine throws by itself, no traces kept ===== -/
section VXM
set_option maxHeartbeats 1000000 in
/-- the machine throws cls with the message text, no traces kept: from its note over the frame g to 'throwing' over the same frame (follows the proofs of Stand.vmThrowsMessage, Shelf/KitTracedVmS.lean, and Stand.throwsMessageColdBareV, StandMessageColdV.lean, without the step out of the frame) -/
theorem vx_vmAt {p : Program} {l : Launch} {e : Env} {R : Room} {s : State} {m₀ : MethodId} {args : Array Value} {below : List Frame} {meth : Method} {c : Code} {W : State} {locs : List Loc} {cells slots : Nat}
    (X : Stand p l e R s m₀ args below meth c W locs cells slots) (hexec : p.tables.exec = Jvm.exec) (htr : e.platform.stackTraces = false) {cls : String} {names : List String} {text : String}
    (hcls : Bundle.fit cls = true) (hnames : ∀ n ∈ names, Bundle.fit n = true) (hsoe : (cls == "java/lang/StackOverflowError") = false) (hoom : (cls == "java/lang/OutOfMemoryError") = false)
    (h : ∀ a ∈ Bundle.messageArmAtoms cls names, a.before args s = true)
    (hlocs : ∀ x ∈ locs, ∀ cell, s.heap[x.base]? = some cell → cell.vm.isStatics = false)
    (htext : (text == notModelled) = false) (hlimit : ¬ (stringBytes (stringToUtf16 text)).size > e.platform.arrayLengthLimit) (hheap : ¬ (stringBytes (stringToUtf16 text)).size * componentBytes .byte > e.platform.maxHeapBytes)
    {g : JFrame} (hg : g.method = m₀) (hsize : g.locals.size = c.maxLocals)
    (hRframes : names.length + 4 < R.frames) (hRlocals : 2 * g.monitorRoom + (g.stack.map fun v => v.category).sum + 10240 ≤ R.locals) (hshort : 13 * names.length + 55 ≤ 10240)
    (hRcells : cells + 3 ≤ R.cells) (hRslots : slots + ((stringBytes (stringToUtf16 text)).size + 4 + 6) ≤ R.slots) (hlocks : meth.locks = false) :
    ∃ (S : State) (q : Addr) (ce : Cell), (∀ target, Steps p.tables e below ((S.setTop g).pushFrame (.throwing q)) target → Steps p.tables e below ((W.setTop g).pushFrame (.throwNew cls (some text) none)) target) ∧
      Stand p l e R s m₀ args below meth c S locs (cells + 3) (slots + ((stringBytes (stringToUtf16 text)).size + 4 + 6)) ∧ S.heap[q]? = some ce ∧ s.vm.findClass cls = some ce.cls ∧ ce.vm = .none := by
  have howns : e.platform.frameOwnsMonitors = true := by rw [X.admits.platform]
  have hfin : e.platform.finalization = false := by rw [X.admits.platform]
  have hpl : e.platform.magicAccessors = ({} : Platform).magicAccessors := by rw [X.admits.platform]
  have a : ∀ x, x ∈ Bundle.messageArmAtoms cls names → x.holds args s none s [] = true := fun x hx => h x hx
  obtain ⟨T, Z0, L, -, Y⟩ := ThrowableC.of_atoms (args := args) howns hfin hpl (fun x hx => h x (by simp [Bundle.messageArmAtoms, hx]))
  obtain ⟨Z, M, LZ, LM, hnZ⟩ := Init0T.ofS_atoms (args := args) hpl L Y (fun x hx => h x (by simp [Bundle.messageArmAtoms, hx]))
  obtain ⟨P1, Ps, hlen, L1, hL, hP1m, hlink1, hlink⟩ := Bundle.chainS (args := args) hpl hnZ names cls hcls hnames (fun x hx => h x (by simp [Bundle.messageArmAtoms, hx]))
  obtain ⟨Zs, LZs, hn4, hfitv, hfitc⟩ := StringT.of_atoms (args := args) (fun x hx => h x (by simp [Bundle.messageArmAtoms, hx]))
  have hfound : s.vm.findClass cls = some P1.m.cls := findClass_of_methodNamed hP1m
  obtain ⟨c1, kX, hc1, hk, hord, -, -, hn6⟩ := Cond.instantiable_spec (a (.instantiable cls 6) (by simp [Bundle.messageArmAtoms]))
  cases Option.some.inj (hc1.symm.trans hfound)
  have hinit := Cond.initialized_spec hfound hk (a (.initialized cls) (by simp [Bundle.messageArmAtoms]))
  have hctor : kX.findMethod "<init>" "(Ljava/lang/String;)V" = some P1.m.idx := findMethod_of_methodNamed hP1m hk
  have hsel0 : selectMethod e.platform s.vm P1.m.cls T.fill0 = .method T.fill0 := by
    obtain ⟨c2, r2, m2, q1, q2, q3, q4, -⟩ := Cond.selects_spec (a (.selects cls Bundle.tFill0 Bundle.tFill0) (by simp [Bundle.messageArmAtoms]))
    cases Option.some.inj (q1.symm.trans hfound)
    cases Option.some.inj (q2.symm.trans (State.methodFound?_of_named Y.fill0 (by decide)))
    cases Option.some.inj (q3.symm.trans Y.fill0)
    rw [Launch.admits_selectMethod X.admits]; exact q4
  have hselF : selectMethod e.platform s.vm P1.m.cls T.fill = .method T.fill := by
    obtain ⟨c2, r2, m2, q1, q2, q3, q4, -⟩ := Cond.selects_spec (a (.selects cls Bundle.tFill Bundle.tFill) (by simp [Bundle.messageArmAtoms]))
    cases Option.some.inj (q1.symm.trans hfound)
    cases Option.some.inj (q2.symm.trans (State.methodFound?_of_named Y.fill (by decide)))
    cases Option.some.inj (q3.symm.trans Y.fill)
    rw [Launch.admits_selectMethod X.admits]; exact q4
  obtain ⟨cellS0, hcS0, hiss⟩ := Y.statics
  obtain ⟨u0, hu0⟩ := Cond.staticRefV Y.unassigned L.unassignedStatic L.statics hcS0 hiss (a (.isRef (.static Bundle.tN "UNASSIGNED_STACK" Bundle.steD)) (by simp [Bundle.messageArmAtoms]))
  obtain ⟨sen, hsen⟩ := Cond.staticRefV Y.sentinel L.sentinelStatic L.statics hcS0 hiss (a (.isRef (.static Bundle.tN "SUPPRESSED_SENTINEL" Bundle.listD)) (by simp [Bundle.messageArmAtoms]))
  obtain ⟨ci198, i198, fB, hk198, hg198, ha198, hsB, -, hnB, htB, hffB⟩ := Cond.ownField (t := .object "java/lang/Object") Y.found L.cls (by decide +kernel) (a (.fieldLink Bundle.tN 198 Bundle.tN "backtrace" "Ljava/lang/Object;") (by simp [Bundle.messageArmAtoms])) (a (.lays Bundle.tN Bundle.tN "backtrace" "Ljava/lang/Object;") (by simp [Bundle.messageArmAtoms])) e.platform hpl
  obtain ⟨cellS, hcS', heS, -, hkeep⟩ := X.same.2.2.2.2.2 T.aS cellS0 hcS0
  have hcellS : W.heap[T.aS]? = some cellS := hcS'
  have hout' : ∀ i, (⟨T.aS, i⟩ : Loc) ∉ locs := fun i hmem => by
    have := hlocs _ hmem cellS0 hcS0
    rw [hiss] at this; cases this
  have hknownS : cellS.vm ≠ .unknown := by
    rw [heS]; intro hu
    rw [show cellS0.vm = .unknown from hu] at hiss
    cases hiss
  have hvU : cellS.slots[T.fUnassigned.slot]? = some u0.v := by rw [hkeep _ (hout' _)]; exact hu0
  have hvSen : cellS.slots[T.fSentinel.slot]? = some sen.v := by rw [hkeep _ (hout' _)]; exact hsen
  obtain ⟨iM, hffM⟩ := Y.msg
  obtain ⟨tyC, dC, hdC, hdnC⟩ := Cond.laysAt hfound hk Y.cause (a (.lays cls Bundle.tN "cause" "Ljava/lang/Throwable;") (by simp [Bundle.messageArmAtoms]))
  obtain ⟨tyS, dS, hdS, hdnS⟩ := Cond.laysAt hfound hk Y.stack (a (.lays cls Bundle.tN "stackTrace" Bundle.steD) (by simp [Bundle.messageArmAtoms]))
  obtain ⟨tyP, dP, hdP, hdnP⟩ := Cond.laysAt hfound hk Y.supp (a (.lays cls Bundle.tN "suppressedExceptions" Bundle.listD) (by simp [Bundle.messageArmAtoms]))
  obtain ⟨tyM, dM, hdM, hdnM⟩ := Cond.laysAt hfound hk hffM (a (.lays cls Bundle.tN "detailMessage" "Ljava/lang/String;") (by simp [Bundle.messageArmAtoms]))
  obtain ⟨tyB, dB, hdB, hdnB⟩ := Cond.laysAt hfound hk hffB (a (.lays cls Bundle.tN "backtrace" "Ljava/lang/Object;") (by simp [Bundle.messageArmAtoms]))
  have bC := Cond.laysApart hdB hdC hdnB hdnC (by rw [hnB, Y.causeName]; decide)
  have bS := Cond.laysApart hdB hdS hdnB hdnS (by rw [hnB, Y.stackName]; decide)
  have bP := Cond.laysApart hdB hdP hdnB hdnP (by rw [hnB, Y.suppName]; decide)
  have hbk : ((preparedCellV T.toThrowableT (freshCell P1.m.cls kX) (W.heap.size + 2) u0 sen).withEntry W.cur).slots[fB.slot]? = some .null := by
    have := fresh_default (c := P1.m.cls) tyB
    rw [htB] at this
    simpa [preparedCellV, Cell.setSlot, Cell.withEntry, Array.getElem?_setIfInBounds, bC, bS, bP, bC.symm, bS.symm, bP.symm, defaultValue] using this
  have tkC := Takes.of_laid (v := .ref (W.heap.size + 2)) hk hord tyC (by rw [Y.causeType]; rfl)
  have tkS := Takes.of_laid (v := u0.v) hk hord tyS (by rw [Y.stackType]; exact fits_refV_array _ u0)
  have tkP := Takes.of_laid (v := sen.v) hk hord tyP (by rw [Y.suppType]; exact fits_refV_object _ sen)
  have tkM := Takes.of_laid (v := .ref (W.heap.size + 1)) hk hord tyM (by rw [Y.msgType]; rfl)
  have hskip : SkipFacts T e.platform s (fun u => u) u0 ((preparedCellV T.toThrowableT (freshCell P1.m.cls kX) (W.heap.size + 2) u0 sen).withEntry W.cur) := ⟨{ ci198 := ci198, i198 := i198, fBack := fB }, ⟨hk198, hg198, ha198, hsB⟩, hbk, fun _ _ => rfl⟩
  have h0 : At W g.method c below := by rw [hg]; exact X.here
  obtain ⟨hbeyond, hfreeW⟩ := X.vmMayThrow hsize (.throwNew cls (some text) none) (fun f hf => by cases hf) rfl hRlocals
  have hfr' : W.frames.length + Ps.length + 4 < (e.platform.stackLimits W.me).1 := by have := X.framesAbove hRframes; omega
  have hwd' : (stackUse (.java g :: W.frames.tail)).2 + 13 * Ps.length + 55 ≤ (e.platform.stackLimits W.me).2 := by have := X.stackAbove hsize (K := 13 * Ps.length + 55) (by omega); omega
  have hslots : W.slotsUsed + (stringBytes (stringToUtf16 text)).size + Zs.kS.instanceTypes.size + kX.instanceTypes.size ≤ e.platform.maxSlots := by
    have := X.slotsAbove hRslots
    rw [hn4, hn6]
    omega
  obtain ⟨vm', hW', st⟩ := Steps.vmThrowsMessageColdByV p (s₀ := s) (S := W) (g := g) h0 hexec T L Z LZ M LM X.warmed (t := W.cur) rfl Zs LZs P1 L1 Ps hL hlink1 hlink hsoe hoom hfound hk hinit hord hctor
    (Launch.admits_hotImplicitExceptions X.admits) hbeyond hfreeW htext hlimit hheap (X.cellsAbove hRcells) hslots (hfitv _) (hfitc _)
    (Nn := fun u => u) heapOnly_id (fun _ _ => rfl) (fun _ => rfl) (fun u x y => setCell_twice _ _ _ _) (fun _ => Nat.le_refl _) (cN := ((preparedCellV T.toThrowableT (freshCell P1.m.cls kX) (W.heap.size + 2) u0 sen).withEntry W.cur))
    hsel0 hcellS hknownS hvU tkS (fun _ hu => hu) (fun _ hu => hu) rfl rfl rfl (by simp [preparedCellV, Cell.setSlot, Cell.withEntry]) hskip (fun _ _ hA hW _ hroom _ hrest => L.nativeOff p htr hA hW hroom hrest) hselF hvSen tkC tkP tkM Y.objLocals rfl hfr' hwd'
  rw [plainBareV_eq T.toThrowableT (W.heap.size + 2) u0 sen (.ref (W.heap.size + 1)) W.cur rfl rfl] at st
  obtain ⟨-, -, w3, w4, -, -, -⟩ := withThrown_facts e.platform W Zs text P1.m.cls kX
  have X3 := ((X.pushed (bytesOf Zs.cB (stringToUtf16 text))).pushed (stringAt Zs.cS Zs.kS Zs.fv Zs.fc (stringToUtf16 text) W.heap.size)).pushed (freshCell P1.m.cls kX)
  rw [← withString_eq] at X3
  have X4 := X3.noted hW'
  have ha : (W.heap.size + 2) < ((withThrown W Zs text P1.m.cls kX).setVm vm').heap.size := by show _ < (withThrown W Zs text P1.m.cls kX).heap.size; rw [w3]; omega
  have hcell : ((withThrown W Zs text P1.m.cls kX).setVm vm').heap[(W.heap.size + 2)]? = some (freshCell P1.m.cls kX) := w4
  have X5 := ((((X4.stored hcell T.fCause.slot (.ref (W.heap.size + 2))).storedAgain ha T.fStack.slot u0.v).storedAgain ha T.fSupp.slot sen.v).storedAgain ha T.fStack.slot u0.v).storedAgain ha T.fMsg.slot (.ref (W.heap.size + 1))
  obtain ⟨g₁, hfrM⟩ := X5.frames_eq
  have hU : ((((withThrown W Zs text P1.m.cls kX).setVm vm').setCell (W.heap.size + 2) (plainBareV T.toThrowableT (freshCell P1.m.cls kX) (W.heap.size + 2) u0 sen (.ref (W.heap.size + 1)))).setTop g).pushFrame (.throwing (W.heap.size + 2)) = (((withThrown W Zs text P1.m.cls kX).setVm vm').setCell (W.heap.size + 2) (plainBareV T.toThrowableT (freshCell P1.m.cls kX) (W.heap.size + 2) u0 sen (.ref (W.heap.size + 1)))).setFrames (.throwing (W.heap.size + 2) :: .java g :: below) := by
    rw [State.pushFrame, State.frames_setTop _ hfrM, State.setTop_of_frames _ hfrM, State.setFrames_setFrames]
  have b1 : (bytesOf Zs.cB (stringToUtf16 text)).slots.size = (stringBytes (stringToUtf16 text)).size := by
    rw [(Cell.writeAll_facts _ _).2.2]; simp [bytes0]
  have b2 : (stringAt Zs.cS Zs.kS Zs.fv Zs.fc (stringToUtf16 text) W.heap.size).slots.size = 4 := by simp [string0, Cell.setSlot, hn4]
  have b3 : (freshCell P1.m.cls kX).slots.size = 6 := by simp [hn6]
  rw [b1, b2, b3] at X5
  have e9 : slots + (stringBytes (stringToUtf16 text)).size + 4 + 6 = slots + ((stringBytes (stringToUtf16 text)).size + 4 + 6) := by omega
  rw [e9] at X5
  simp only [List.append_assoc, List.cons_append, List.nil_append] at X5
  refine ⟨((withThrown W Zs text P1.m.cls kX).setVm vm').setCell (W.heap.size + 2) (plainBareV T.toThrowableT (freshCell P1.m.cls kX) (W.heap.size + 2) u0 sen (.ref (W.heap.size + 1))), W.heap.size + 2, _, fun target ht => st _ (by rw [X.tail, ← hU]; exact ht),
    X5.forget (fun y hy => ?_), heapAt_setCell_self _ ha, hfound, rfl⟩
  simp only [List.mem_cons, List.not_mem_nil, or_false] at hy
  have hge : s.heap.size ≤ W.heap.size := X.same.2.1
  rcases hy with rfl | rfl | rfl | rfl | rfl <;> exact Nat.le_trans hge (Nat.le_add_right _ 2)
set_option maxHeartbeats 1000000 in
/-- the machine throws NullPointerException, no traces kept: from its note over the frame g to 'throwing' over the same frame (follows the proof of Stand.vmThrowsNpe, Shelf42/KT2.lean; throwsNpeColdBareVAt, Shelf42/NT91.lean, called) -/
theorem vx_npeAt {p : Program} {l : Launch} {e : Env} {R : Room} {s : State} {m₀ : MethodId} {args : Array Value} {below : List Frame} {meth : Method} {c : Code} {W : State} {locs : List Loc} {cells slots : Nat}
    (X : Stand p l e R s m₀ args below meth c W locs cells slots) (hexec : p.tables.exec = Jvm.exec) (htr : e.platform.stackTraces = false) {n : Nat}
    (h : ∀ a ∈ Bundle.npeArmAtoms n, a.before args s = true)
    (hlocs : ∀ x ∈ locs, ∀ cell, s.heap[x.base]? = some cell → cell.vm.isStatics = false)
    {g : JFrame} (hg : g.method = m₀) (hsize : g.locals.size = c.maxLocals)
    (hRframes : 7 < R.frames) (hRlocals : 2 * g.monitorRoom + (g.stack.map fun v => v.category).sum + 10240 ≤ R.locals)
    (hRcells : cells + 1 ≤ R.cells) (hRslots : slots + n ≤ R.slots) (hlocks : meth.locks = false) :
    ∃ (S : State) (q : Addr) (ce : Cell), (∀ target, Steps p.tables e below ((S.setTop g).pushFrame (.throwing q)) target → Steps p.tables e below ((W.setTop g).pushFrame (.throwNew "java/lang/NullPointerException" none none)) target) ∧
      Stand p l e R s m₀ args below meth c S locs (cells + 1) (slots + n) ∧ S.heap[q]? = some ce ∧ s.vm.findClass "java/lang/NullPointerException" = some ce.cls ∧ ce.vm = .none := by
  have howns : e.platform.frameOwnsMonitors = true := by rw [X.admits.platform]
  have hfin : e.platform.finalization = false := by rw [X.admits.platform]
  have hpl : e.platform.magicAccessors = ({} : Platform).magicAccessors := by rw [X.admits.platform]
  have hpl2 : e.platform.arrayCloneIsPublic = true := by rw [X.admits.platform]
  have a' : ∀ x, x ∈ Bundle.npeArmAtoms n → x.holds args s none s [] = true := fun x hx => h x hx
  obtain ⟨T, Z, L, LZ, Y⟩ := ThrowableC.of_atoms (args := args) howns hfin hpl (fun x hx => h x (by simp [Bundle.npeArmAtoms, hx]))
  obtain ⟨N, LN, hcN, hnNF, hordN, hffS⟩ := NpeC.of_atoms (args := args) hpl hpl2 L Y (fun x hx => h x (by simp [Bundle.npeArmAtoms, hx]))
  obtain ⟨P1, L1, hP1m, hP1s⟩ := PassC.of_atoms (args := args) (s := s) hpl (X := Bundle.nN) (Y := Bundle.rN) (by decide) (by decide) LibCode.NullPointerException.Init0.at_0 LibCode.NullPointerException.Init0.at_1 LibCode.NullPointerException.Init0.at_4 (fun x hx => h x (by simp [Bundle.npeArmAtoms, hx]))
  obtain ⟨PR, LR, hPRm, hPRs⟩ := PassC.of_atoms (args := args) (s := s) hpl (X := Bundle.rN) (Y := Bundle.eN) (by decide) (by decide) LibCode.RuntimeException.Init0.at_0 LibCode.RuntimeException.Init0.at_1 LibCode.RuntimeException.Init0.at_4 (fun x hx => h x (by simp [Bundle.npeArmAtoms, hx]))
  obtain ⟨PE, LEx, hPEm, hPEs⟩ := PassC.of_atoms (args := args) (s := s) hpl (X := Bundle.eN) (Y := Bundle.tN) (by decide) (by decide) LibCode.Exception.Init0.at_0 LibCode.Exception.Init0.at_1 LibCode.Exception.Init0.at_4 (fun x hx => h x (by simp [Bundle.npeArmAtoms, hx]))
  have hfound : s.vm.findClass Bundle.nN = some P1.m.cls := findClass_of_methodNamed hP1m
  have ecls : N.cN = P1.m.cls := Option.some.inj (hcN.symm.trans hfound)
  have hk : s.vm.classes[P1.m.cls]? = some N.kN := by rw [← ecls]; exact LN.cls
  have hinit := Cond.initialized_spec hfound hk (a' (.initialized Bundle.nN) (by simp [Bundle.npeArmAtoms]))
  have hctor : N.kN.findMethod "<init>" "()V" = some P1.m.idx := findMethod_of_methodNamed hP1m hk
  obtain ⟨c1, k1, hc1, hk1, -, -, -, hn⟩ := Cond.instantiable_spec (a' (.instantiable Bundle.nN n) (by simp [Bundle.npeArmAtoms]))
  cases Option.some.inj (hc1.symm.trans hfound)
  cases Option.some.inj (hk1.symm.trans hk)
  have hfsz : (freshCell P1.m.cls N.kN).slots.size = n := by simp [hn]
  have hlink1 : P1.sup = PR.m := Option.some.inj (hP1s.symm.trans hPRm)
  have hlinkR : PR.sup = PE.m := Option.some.inj (hPRs.symm.trans hPEm)
  have hlinkE : PE.sup = Z.m T.toThrowableT := Option.some.inj (hPEs.symm.trans Y.init0)
  have hLs : ∀ P, P ∈ [PR, PE] → P.Links0 e.platform s := fun P hP => by
    simp only [List.mem_cons, List.not_mem_nil, or_false] at hP
    rcases hP with rfl | rfl
    · exact LR
    · exact LEx
  have hsel0 : selectMethod e.platform s.vm P1.m.cls T.fill0 = .method T.fill0 := by
    obtain ⟨c2, r2, m2, q1, q2, q3, q4, -⟩ := Cond.selects_spec (a' (.selects Bundle.nN Bundle.tFill0 Bundle.tFill0) (by simp [Bundle.npeArmAtoms]))
    cases Option.some.inj (q1.symm.trans hfound)
    cases Option.some.inj (q2.symm.trans (State.methodFound?_of_named Y.fill0 (by decide)))
    cases Option.some.inj (q3.symm.trans Y.fill0)
    rw [Launch.admits_selectMethod X.admits]; exact q4
  have hselF : selectMethod e.platform s.vm P1.m.cls T.fill = .method N.fill := by
    obtain ⟨c2, r2, m2, q1, q2, q3, q4, -⟩ := Cond.selects_spec (a' (.selects Bundle.nN Bundle.tFill Bundle.nFill) (by simp [Bundle.npeArmAtoms]))
    cases Option.some.inj (q1.symm.trans hfound)
    cases Option.some.inj (q2.symm.trans (State.methodFound?_of_named Y.fill (by decide)))
    cases Option.some.inj (q3.symm.trans hnNF)
    rw [Launch.admits_selectMethod X.admits]; exact q4
  obtain ⟨cellS0, hcS0, hiss⟩ := Y.statics
  obtain ⟨u0, hu0⟩ := Cond.staticRefV Y.unassigned L.unassignedStatic L.statics hcS0 hiss (a' (.isRef (.static Bundle.tN "UNASSIGNED_STACK" Bundle.steD)) (by simp [Bundle.npeArmAtoms]))
  obtain ⟨sen, hsen⟩ := Cond.staticRefV Y.sentinel L.sentinelStatic L.statics hcS0 hiss (a' (.isRef (.static Bundle.tN "SUPPRESSED_SENTINEL" Bundle.listD)) (by simp [Bundle.npeArmAtoms]))
  obtain ⟨ci198, i198, fB, hk198, hg198, ha198, hsB, -, hnB, htB, hffB⟩ := Cond.ownField (t := .object "java/lang/Object") Y.found L.cls (by decide +kernel) (a' (.fieldLink Bundle.tN 198 Bundle.tN "backtrace" Bundle.objD) (by simp [Bundle.npeArmAtoms])) (a' (.lays Bundle.tN Bundle.tN "backtrace" Bundle.objD) (by simp [Bundle.npeArmAtoms])) e.platform hpl
  obtain ⟨cellS, hcS', heS, -, hkeep⟩ := X.same.2.2.2.2.2 T.aS cellS0 hcS0
  have hcellS : W.heap[T.aS]? = some cellS := hcS'
  have hout' : ∀ i, (⟨T.aS, i⟩ : Loc) ∉ locs := fun i hmem => by
    have := hlocs _ hmem cellS0 hcS0
    rw [hiss] at this; cases this
  have hknownS : cellS.vm ≠ .unknown := by
    rw [heS]; intro hu
    rw [show cellS0.vm = .unknown from hu] at hiss
    cases hiss
  have hvU : cellS.slots[T.fUnassigned.slot]? = some u0.v := by rw [hkeep _ (hout' _)]; exact hu0
  have hvSen : cellS.slots[T.fSentinel.slot]? = some sen.v := by rw [hkeep _ (hout' _)]; exact hsen
  obtain ⟨tyC, dC, hdC, hdnC⟩ := Cond.laysAt hfound hk Y.cause (a' (.lays Bundle.nN Bundle.tN "cause" "Ljava/lang/Throwable;") (by simp [Bundle.npeArmAtoms]))
  obtain ⟨tyS, dS, hdS, hdnS⟩ := Cond.laysAt hfound hk Y.stack (a' (.lays Bundle.nN Bundle.tN "stackTrace" Bundle.steD) (by simp [Bundle.npeArmAtoms]))
  obtain ⟨tyP, dP, hdP, hdnP⟩ := Cond.laysAt hfound hk Y.supp (a' (.lays Bundle.nN Bundle.tN "suppressedExceptions" Bundle.listD) (by simp [Bundle.npeArmAtoms]))
  obtain ⟨tyX, dX, hdX, hdnX⟩ := Cond.laysAt hfound hk hffS (a' (.lays Bundle.nN Bundle.nN "extendedMessageState" "I") (by simp [Bundle.npeArmAtoms, Bundle.npeAtoms]))
  obtain ⟨hnX, htX⟩ := State.fieldFound?_type hffS (t := .int) (by decide +kernel)
  have xC := Cond.laysApart hdC hdX hdnC hdnX (by rw [hnX, Y.causeName]; decide)
  have xS := Cond.laysApart hdS hdX hdnS hdnX (by rw [hnX, Y.stackName]; decide)
  have xP := Cond.laysApart hdP hdX hdnP hdnX (by rw [hnX, Y.suppName]; decide)
  have hv0 : (freshCell P1.m.cls N.kN).slots[N.fState.slot]? = some (.int 0) := by
    have := fresh_default (c := P1.m.cls) tyX
    rw [htX] at this; exact this
  obtain ⟨tyB, dB, hdB, hdnB⟩ := Cond.laysAt hfound hk hffB (a' (.lays Bundle.nN Bundle.tN "backtrace" Bundle.objD) (by simp [Bundle.npeArmAtoms]))
  have bC := Cond.laysApart hdB hdC hdnB hdnC (by rw [hnB, Y.causeName]; decide)
  have bS := Cond.laysApart hdB hdS hdnB hdnS (by rw [hnB, Y.stackName]; decide)
  have bP := Cond.laysApart hdB hdP hdnB hdnP (by rw [hnB, Y.suppName]; decide)
  have bX := Cond.laysApart hdB hdX hdnB hdnX (by rw [hnB, hnX]; decide)
  have hbk : ((npeCell N.toNpeT (preparedCellV T.toThrowableT (freshCell P1.m.cls N.kN) W.heap.size u0 sen) W.cur).withEntry W.cur).slots[fB.slot]? = some .null := by
    have := fresh_default (c := P1.m.cls) tyB
    rw [htB] at this
    simpa [npeCell, preparedCellV, Cell.setSlot, Cell.withEntry, Array.getElem?_setIfInBounds, bC, bS, bP, bX, bC.symm, bS.symm, bP.symm, bX.symm, defaultValue] using this
  have tkC := Takes.of_laid (v := .ref W.heap.size) hk hordN tyC (by rw [Y.causeType]; rfl)
  have tkS := Takes.of_laid (v := u0.v) hk hordN tyS (by rw [Y.stackType]; exact fits_refV_array _ u0)
  have tkP := Takes.of_laid (v := sen.v) hk hordN tyP (by rw [Y.suppType]; exact fits_refV_object _ sen)
  have tkX := Takes.of_laid (v := .int 1) hk hordN tyX (by rw [htX]; rfl)
  have hskip : SkipFacts T e.platform s (fun u => u) u0 ((npeCell N.toNpeT (preparedCellV T.toThrowableT (freshCell P1.m.cls N.kN) W.heap.size u0 sen) W.cur).withEntry W.cur) := ⟨{ ci198 := ci198, i198 := i198, fBack := fB }, ⟨hk198, hg198, ha198, hsB⟩, hbk, fun _ _ => rfl⟩
  obtain ⟨vm', X3, st, -⟩ := X.throwsNpeColdBareVAt hexec hg hsize T L Z LZ N LN P1 L1 [PR, PE] hLs hlink1 ⟨hlinkR, hlinkE, trivial⟩ hfound hk hinit hordN hctor hsel0 hselF hcellS hknownS hvU hvSen
    hv0 xC xS xP tkC tkS tkP tkX Y.objLocals hskip (fun _ _ hA hW _ hroom _ hrest => L.nativeOff p htr hA hW hroom hrest) (by simpa using hRframes) hRlocals (by simp) hRcells (by rw [hn]; exact hRslots)
  have hlt : W.heap.size < ((W.pushCell (freshCell P1.m.cls N.kN)).setVm vm').heap.size := by
    show W.heap.size < (W.pushCell (freshCell P1.m.cls N.kN)).heap.size
    rw [State.heap_size_pushCell]; omega
  rw [hfsz] at X3
  obtain ⟨g₁, hfrM⟩ := X3.frames_eq
  have hU : ((((W.pushCell (freshCell P1.m.cls N.kN)).setVm vm').setCell W.heap.size (npeBareV T.toThrowableT N.toNpeT (freshCell P1.m.cls N.kN) W.heap.size u0 sen)).setTop g).pushFrame (.throwing W.heap.size) = (((W.pushCell (freshCell P1.m.cls N.kN)).setVm vm').setCell W.heap.size (npeBareV T.toThrowableT N.toNpeT (freshCell P1.m.cls N.kN) W.heap.size u0 sen)).setFrames (.throwing W.heap.size :: .java g :: below) := by
    rw [State.pushFrame, State.frames_setTop _ hfrM, State.setTop_of_frames _ hfrM, State.setFrames_setFrames]
  refine ⟨_, W.heap.size, _, fun target ht => st.trans (by rw [← hU]; exact ht), X3.forget (fun y hy => ?_), heapAt_setCell_self _ hlt, hfound, rfl⟩
  simp only [List.mem_cons, List.not_mem_nil, or_false] at hy
  have hge : s.heap.size ≤ W.heap.size := X.same.2.1
  rcases hy with rfl | rfl | rfl | rfl | rfl <;> exact hge
/-- the words of a machine's NullPointerException, but the four that speak of the heap -/
def vx_atN (n : Nat) : List Cond := (Bundle.npeArmAtoms n).filter vx_no
/-- the words of a machine's throw with a message, but the four that speak of the heap -/
def vx_atM (X : String) (names : List String) : List Cond := (Bundle.messageArmAtoms X names).filter vx_no
section
variable {p : Program} {l : Launch} {e : Env} {R : Room} {s : State} {m : MethodId} {args : Array Value} {below : List Frame} {meth : Method} {c : Code} {H : Heap} {locs : List Loc} {cells slots : Nat}
/-- a frame seen from a rebased start, seen from the first start again -/
theorem vx_back9 {T S : State} {R' : Room} {k n : Nat} (X : Stand p l e R s m args below meth c T locs cells slots) (Y : Stand p l e R' ((T.setVm s.vm).setFrames (.invoking m args :: below)) m args below meth c T [] 0 0) (Z : Stand p l e R' ((T.setVm s.vm).setFrames (.invoking m args :: below)) m args below meth c S [] k n) :
    Stand p l e R s m args below meth c S locs (cells + k) (slots + n) := by
  have hW0 : s.WarmedH ((T.setVm s.vm).setFrames (.invoking m args :: below)).vm := State.WarmedH.refl s
  refine { admits := X.admits, cas := X.cas, clock := X.clock, frames := X.frames, room := X.room, hears := X.hears, method := X.method, code := X.code, here := Z.here, tail := Z.tail, warmed := State.WarmedH.trans hW0 Z.warmed, limits := Z.limits.trans (Y.limits.symm.trans X.limits), bytes := Z.bytes.trans (Y.bytes.symm.trans X.bytes), same := ?_ }
  obtain ⟨e1, e2⟩ := Z.same
  rw [State.setFrames_setFrames] at e1
  have h2 : (T.setVm s.vm).sameButNew (S.setVm s.vm) [] k n := ⟨e1, e2⟩
  have h3 := X.same.trans h2
  rw [List.append_nil] at h3
  exact h3
/-- from the machine's note that E is thrown here with this text -/
def vx_Note (p : Program) (l : Launch) (e : Env) (R : Room) (s : State) (m : MethodId) (args : Array Value) (below : List Frame) (meth : Method) (c : Code) (H : Heap) (locs : List Loc) (cells slots : Nat) (Q : State → Prop) (g : JFrame) (E text : String) : Prop :=
  ∀ T : State, T.heap = H → Stand p l e R s m args below meth c T locs cells slots → ∃ t, Steps p.tables e below ((T.setTop g).pushFrame (.throwNew E (some text) none)) t ∧ Q t
theorem vx_vm {pc : Nat} {ls : Array Slot} {rest : List Value} {Q : State → Prop} (hexec : p.tables.exec = Jvm.exec) (hl : l.stackTraces = false) {cls text : String} {names : List String} {nb : Nat} {A : Nat → Prop}
    (hcls : Bundle.fit cls = true) (hnames : ∀ n ∈ names, Bundle.fit n = true) (hsoe : (cls == "java/lang/StackOverflowError") = false) (hoom : (cls == "java/lang/OutOfMemoryError") = false)
    (hat : ∀ w ∈ vx_atM cls names, w.before args s = true) (hgood : ∀ w ∈ vx_atM cls names, vx_ot w = true)
    (hU : vx_Zq Bundle.tN "UNASSIGNED_STACK" Bundle.steD A s s.heap) (hN : vx_Zq Bundle.tN "SUPPRESSED_SENTINEL" Bundle.listD A s s.heap) (hS : va_S A s.heap H locs) (hsize : ls.size = c.maxLocals)
    (htext : (text == notModelled) = false) (hnb : (stringBytes (stringToUtf16 text)).size ≤ nb) (hnb1 : nb ≤ 1000)
    (hRframes : names.length + 4 < R.frames) (hRlocals : (rest.map fun v => v.category).sum + 10240 ≤ R.locals) (hshort : 13 * names.length + 55 ≤ 10240) (hRcells : cells + 3 ≤ R.cells) (hRslots : slots + (nb + 10) ≤ R.slots) (hlocks : meth.locks = false)
    (k : ∀ (H1 : Heap) (q9 : Addr) (ce : Cell), H.size ≤ H1.size → (∀ q : Nat, q < H.size → H1[q]? = H[q]?) → va_S A s.heap H1 locs → H1[q9]? = some ce → ce.vm = .none → s.vm.findClass cls = some ce.cls → vx_W p l e R s m args below meth c H1 locs (cells + 3) (slots + (nb + 10)) Q (F0 m pc ls rest) q9) :
    vx_Note p l e R s m args below meth c H locs cells slots Q (F0 m pc ls rest) cls text := by
  intro T hT X
  have htr : e.platform.stackTraces = false := (show e.platform.stackTraces = l.stackTraces by rw [X.admits.platform]).trans hl
  have Y := vx_rebase X (R' := { frames := R.frames, locals := R.locals, cells := 3, slots := nb + 10 }) (Nat.le_refl _) (Nat.le_refl _) hRcells hRslots
  have hhp : ((T.setVm s.vm).setFrames (.invoking m args :: below)).heap = H := hT
  have hW0 : s.WarmedH ((T.setVm s.vm).setFrames (.invoking m args :: below)).vm := State.WarmedH.refl s
  have hat' : ∀ w ∈ vx_atM cls names, w.before args ((T.setVm s.vm).setFrames (.invoking m args :: below)) = true := fun w hw => vx_ot_at hW0 rfl (hgood w hw) (hat w hw)
  have hU' : vx_Zq Bundle.tN "UNASSIGNED_STACK" Bundle.steD A ((T.setVm s.vm).setFrames (.invoking m args :: below)) ((T.setVm s.vm).setFrames (.invoking m args :: below)).heap := by rw [hhp]; exact vx_Zq.moved hW0.alike (hU.kept hS.2.1)
  have hN' : vx_Zq Bundle.tN "SUPPRESSED_SENTINEL" Bundle.listD A ((T.setVm s.vm).setFrames (.invoking m args :: below)) ((T.setVm s.vm).setFrames (.invoking m args :: below)).heap := by rw [hhp]; exact vx_Zq.moved hW0.alike (hN.kept hS.2.1)
  obtain ⟨S, q, ce, st, Z, hce, hcl', hv⟩ := vx_vmAt Y hexec htr (cls := cls) (names := names) (text := text) hcls hnames hsoe hoom (vx_own hat' (vx_isRefq hU'.1) (vx_isRefq hN'.1) hU'.2.word hN'.2.word) (fun x hx => nomatch hx) htext
    (by rw [Launch.admits_arrayLengthLimit X.admits]; omega) (by rw [Launch.admits_maxHeapBytes X.admits]; simp only [componentBytes]; omega)
    (g := F0 m pc ls rest) rfl hsize hRframes (by show 2 * 0 + (rest.map fun v => v.category).sum + 10240 ≤ R.locals; omega) hshort (by show 0 + 3 ≤ 3; omega) (by show 0 + (_ + 4 + 6) ≤ nb + 10; omega) hlocks
  obtain ⟨f1, f2⟩ := vx_frame Z.same
  have f1' : H.size ≤ S.heap.size := by rw [← hT]; exact f1
  have f2' : ∀ q : Nat, q < H.size → S.heap[q]? = H[q]? := fun q hq => by
    rw [← hT]
    exact f2 q (by rw [← hT] at hq; exact hq) (fun z hz => nomatch hz)
  have X5 := vx_back9 X Y Z
  have X6 : Stand p l e R s m args below meth c S locs (cells + 3) (slots + (nb + 10)) := { X5 with same := X5.same.mono (by omega) (by omega) }
  obtain ⟨t, a1, b1⟩ := k S.heap q ce f1' f2' ⟨Nat.le_trans hS.1 f1', fun q h1 h2 => (f2' q (Nat.lt_of_lt_of_le h1 hS.1)).trans (hS.2.1 q h1 h2), hS.2.2⟩ hce hv hcl' S rfl X6
  exact ⟨t, st t a1, b1⟩
/-- from the machine's note that NullPointerException is thrown here -/
def vx_NoteN (p : Program) (l : Launch) (e : Env) (R : Room) (s : State) (m : MethodId) (args : Array Value) (below : List Frame) (meth : Method) (c : Code) (H : Heap) (locs : List Loc) (cells slots : Nat) (Q : State → Prop) (g : JFrame) : Prop :=
  ∀ T : State, T.heap = H → Stand p l e R s m args below meth c T locs cells slots → ∃ t, Steps p.tables e below ((T.setTop g).pushFrame (.throwNew "java/lang/NullPointerException" none none)) t ∧ Q t
theorem vx_npe {pc : Nat} {ls : Array Slot} {rest : List Value} {Q : State → Prop} (hexec : p.tables.exec = Jvm.exec) (hl : l.stackTraces = false) {nb : Nat} {A : Nat → Prop}
    (hat : ∀ w ∈ vx_atN nb, w.before args s = true) (hgood : ∀ w ∈ vx_atN nb, vx_ot w = true)
    (hU : vx_Zq Bundle.tN "UNASSIGNED_STACK" Bundle.steD A s s.heap) (hN : vx_Zq Bundle.tN "SUPPRESSED_SENTINEL" Bundle.listD A s s.heap) (hS : va_S A s.heap H locs) (hsize : ls.size = c.maxLocals)
    (hRframes : 7 < R.frames) (hRlocals : (rest.map fun v => v.category).sum + 10240 ≤ R.locals) (hRcells : cells + 1 ≤ R.cells) (hRslots : slots + nb ≤ R.slots) (hlocks : meth.locks = false)
    (k : ∀ (H1 : Heap) (q9 : Addr) (ce : Cell), H.size ≤ H1.size → (∀ q : Nat, q < H.size → H1[q]? = H[q]?) → va_S A s.heap H1 locs → H1[q9]? = some ce → ce.vm = .none → s.vm.findClass "java/lang/NullPointerException" = some ce.cls → vx_W p l e R s m args below meth c H1 locs (cells + 1) (slots + nb) Q (F0 m pc ls rest) q9) :
    vx_NoteN p l e R s m args below meth c H locs cells slots Q (F0 m pc ls rest) := by
  intro T hT X
  have htr : e.platform.stackTraces = false := (show e.platform.stackTraces = l.stackTraces by rw [X.admits.platform]).trans hl
  have Y := vx_rebase X (R' := { frames := R.frames, locals := R.locals, cells := 1, slots := nb }) (Nat.le_refl _) (Nat.le_refl _) hRcells hRslots
  have hhp : ((T.setVm s.vm).setFrames (.invoking m args :: below)).heap = H := hT
  have hW0 : s.WarmedH ((T.setVm s.vm).setFrames (.invoking m args :: below)).vm := State.WarmedH.refl s
  have hat' : ∀ w ∈ vx_atN nb, w.before args ((T.setVm s.vm).setFrames (.invoking m args :: below)) = true := fun w hw => vx_ot_at hW0 rfl (hgood w hw) (hat w hw)
  have hU' : vx_Zq Bundle.tN "UNASSIGNED_STACK" Bundle.steD A ((T.setVm s.vm).setFrames (.invoking m args :: below)) ((T.setVm s.vm).setFrames (.invoking m args :: below)).heap := by rw [hhp]; exact vx_Zq.moved hW0.alike (hU.kept hS.2.1)
  have hN' : vx_Zq Bundle.tN "SUPPRESSED_SENTINEL" Bundle.listD A ((T.setVm s.vm).setFrames (.invoking m args :: below)) ((T.setVm s.vm).setFrames (.invoking m args :: below)).heap := by rw [hhp]; exact vx_Zq.moved hW0.alike (hN.kept hS.2.1)
  obtain ⟨S, q, ce, st, Z, hce, hcl', hv⟩ := vx_npeAt Y hexec htr (n := nb) (vx_own hat' (vx_isRefq hU'.1) (vx_isRefq hN'.1) hU'.2.word hN'.2.word) (fun x hx => nomatch hx)
    (g := F0 m pc ls rest) rfl hsize hRframes (by show 2 * 0 + (rest.map fun v => v.category).sum + 10240 ≤ R.locals; omega) (by show 0 + 1 ≤ 1; omega) (by show 0 + nb ≤ nb; omega) hlocks
  obtain ⟨f1, f2⟩ := vx_frame Z.same
  have f1' : H.size ≤ S.heap.size := by rw [← hT]; exact f1
  have f2' : ∀ q : Nat, q < H.size → S.heap[q]? = H[q]? := fun q hq => by
    rw [← hT]
    exact f2 q (by rw [← hT] at hq; exact hq) (fun z hz => nomatch hz)
  have X5 := vx_back9 X Y Z
  have X6 : Stand p l e R s m args below meth c S locs (cells + 1) (slots + nb) := { X5 with same := X5.same.mono (by omega) (by omega) }
  obtain ⟨t, a1, b1⟩ := k S.heap q ce f1' f2' ⟨Nat.le_trans hS.1 f1', fun q h1 h2 => (f2' q (Nat.lt_of_lt_of_le h1 hS.1)).trans (hS.2.1 q h1 h2), hS.2.2⟩ hce hv hcl' S rfl X6
  exact ⟨t, st t a1, b1⟩
variable {Q : State → Prop} {cc : ByteArray} {pc : Nat} {ls : Array Slot} {rest : List Value}
theorem vx_idivZ (hexec : p.tables.exec = Jvm.exec) (hb : c.code = cc) {a b : Int32} (h0 : b = 0) (d : decode cc pc = .ok (.idiv, 1)) (k : vx_Note p l e R s m args below meth c H locs cells slots Q (F0 m pc ls rest) "java/lang/ArithmeticException" "/ by zero") :
    W p l e R s m args below meth c H locs cells slots Q (F0 m pc ls (.int b :: .int a :: rest)) := by
  intro T hT X
  obtain ⟨t, st, q⟩ := k T hT X
  exact ⟨t, X.idivZero hexec (g := F0 m pc ls (.int b :: .int a :: rest)) rfl (a := a) (rest := rest) (by rw [h0]) (by rw [hb]; exact d) t st, q⟩
theorem vx_iremZ (hexec : p.tables.exec = Jvm.exec) (hb : c.code = cc) {a b : Int32} (h0 : b = 0) (d : decode cc pc = .ok (.irem, 1)) (k : vx_Note p l e R s m args below meth c H locs cells slots Q (F0 m pc ls rest) "java/lang/ArithmeticException" "/ by zero") :
    W p l e R s m args below meth c H locs cells slots Q (F0 m pc ls (.int b :: .int a :: rest)) := by
  intro T hT X
  obtain ⟨t, st, q⟩ := k T hT X
  exact ⟨t, X.iremZero hexec (g := F0 m pc ls (.int b :: .int a :: rest)) rfl (a := a) (rest := rest) (by rw [h0]) (by rw [hb]; exact d) t st, q⟩
theorem vx_ldivZ (hexec : p.tables.exec = Jvm.exec) (hb : c.code = cc) {a b : Int64} (h0 : b = 0) (d : decode cc pc = .ok (.ldiv, 1)) (k : vx_Note p l e R s m args below meth c H locs cells slots Q (F0 m pc ls rest) "java/lang/ArithmeticException" "/ by zero") :
    W p l e R s m args below meth c H locs cells slots Q (F0 m pc ls (.long b :: .long a :: rest)) := by
  intro T hT X
  obtain ⟨t, st, q⟩ := k T hT X
  exact ⟨t, X.ldivZero hexec (g := F0 m pc ls (.long b :: .long a :: rest)) rfl (a := a) (rest := rest) (by rw [h0]) (by rw [hb]; exact d) t st, q⟩
theorem vx_lremZ (hexec : p.tables.exec = Jvm.exec) (hb : c.code = cc) {a b : Int64} (h0 : b = 0) (d : decode cc pc = .ok (.lrem, 1)) (k : vx_Note p l e R s m args below meth c H locs cells slots Q (F0 m pc ls rest) "java/lang/ArithmeticException" "/ by zero") :
    W p l e R s m args below meth c H locs cells slots Q (F0 m pc ls (.long b :: .long a :: rest)) := by
  intro T hT X
  obtain ⟨t, st, q⟩ := k T hT X
  exact ⟨t, X.lremZero hexec (g := F0 m pc ls (.long b :: .long a :: rest)) rfl (a := a) (rest := rest) (by rw [h0]) (by rw [hb]; exact d) t st, q⟩
theorem vx_ialdZ {D : va_G} {cl : List vw_C} {ws : va_W} {tys : List (ClassId × FieldType)} {a : Nat} (hexec : p.tables.exec = Jvm.exec) (hb : c.code = cc) (hK : va_K D cl tys s) (hP : va_P D cl ws H) (q0 t0 : Nat) {cA : ClassId} {n : Nat} {f : Nat → Int32} (ha : ws[q0]? = some (a, .inl (cA, n, .inl f))) (ht : tys[t0]? = some (cA, .int)) {i : Int32} (hout : ¬ vp_in i n) (hdg : decode cc pc = .ok (.iaload, 1))
    (k : ∀ tx : String, tx = (toString "Index " ++ toString i ++ toString " out of bounds for length " ++ toString n : String) → vx_Note p l e R s m args below meth c H locs cells slots Q (F0 m pc ls rest) "java/lang/ArrayIndexOutOfBoundsException" tx) : W p l e R s m args below meth c H locs cells slots Q (F0 m pc ls (.int i :: .ref a :: rest)) := by
  intro T hT X
  obtain ⟨t, st, q⟩ := k _ rfl T hT X
  refine ⟨t, ?_, q⟩
  have h1 := X.ialoadOut hexec (by rw [hT]; exact hP q0 _ ha) ((hK.2 t0 _ ht).1 n (fun j => .int (f j))) (j := i) (by show (i < 0 ∨ (arrV _ _ _).slots.size ≤ _); rw [arrV_size]; exact Classical.byContradiction hout) (g := F0 m pc ls (.int i :: .ref a :: rest)) rfl (rest := rest) rfl (by rw [hb]; exact hdg) t
  simp only [arrV_size] at h1
  exact h1 st
theorem vx_iastZ {D : va_G} {cl : List vw_C} {ws : va_W} {tys : List (ClassId × FieldType)} {a : Nat} (hexec : p.tables.exec = Jvm.exec) (hb : c.code = cc) (hK : va_K D cl tys s) (hP : va_P D cl ws H) (q0 t0 : Nat) {cA : ClassId} {n : Nat} {f : Nat → Int32} (ha : ws[q0]? = some (a, .inl (cA, n, .inl f))) (ht : tys[t0]? = some (cA, .int)) {i : Int32} {x : Int32} (hout : ¬ vp_in i n) (hdg : decode cc pc = .ok (.iastore, 1))
    (k : ∀ tx : String, tx = (toString "Index " ++ toString i ++ toString " out of bounds for length " ++ toString n : String) → vx_Note p l e R s m args below meth c H locs cells slots Q (F0 m pc ls rest) "java/lang/ArrayIndexOutOfBoundsException" tx) : W p l e R s m args below meth c H locs cells slots Q (F0 m pc ls (.int x :: .int i :: .ref a :: rest)) := by
  intro T hT X
  obtain ⟨t, st, q⟩ := k _ rfl T hT X
  refine ⟨t, ?_, q⟩
  have h1 := X.iastoreOut hexec (by rw [hT]; exact hP q0 _ ha) ((hK.2 t0 _ ht).1 n (fun j => .int (f j))) (j := i) (by show (i < 0 ∨ (arrV _ _ _).slots.size ≤ _); rw [arrV_size]; exact Classical.byContradiction hout) (g := F0 m pc ls (.int x :: .int i :: .ref a :: rest)) rfl (rest := rest) rfl (by rw [hb]; exact hdg) t
  simp only [arrV_size] at h1
  exact h1 st
theorem vx_baldZ {D : va_G} {cl : List vw_C} {ws : va_W} {tys : List (ClassId × FieldType)} {a : Nat} (hexec : p.tables.exec = Jvm.exec) (hb : c.code = cc) (hK : va_K D cl tys s) (hP : va_P D cl ws H) (q0 t0 : Nat) {cA : ClassId} {n : Nat} {f : Nat → Int32} (ha : ws[q0]? = some (a, .inl (cA, n, .inl f))) (ht : tys[t0]? = some (cA, .byte)) {i : Int32} (hout : ¬ vp_in i n) (hdg : decode cc pc = .ok (.baload, 1))
    (k : ∀ tx : String, tx = (toString "Index " ++ toString i ++ toString " out of bounds for length " ++ toString n : String) → vx_Note p l e R s m args below meth c H locs cells slots Q (F0 m pc ls rest) "java/lang/ArrayIndexOutOfBoundsException" tx) : W p l e R s m args below meth c H locs cells slots Q (F0 m pc ls (.int i :: .ref a :: rest)) := by
  intro T hT X
  obtain ⟨t, st, q⟩ := k _ rfl T hT X
  refine ⟨t, ?_, q⟩
  have h1 := X.baloadOut hexec (by rw [hT]; exact hP q0 _ ha) ((hK.2 t0 _ ht).1 n (fun j => .int (f j))) (j := i) (by show (i < 0 ∨ (arrV _ _ _).slots.size ≤ _); rw [arrV_size]; exact Classical.byContradiction hout) (g := F0 m pc ls (.int i :: .ref a :: rest)) rfl (rest := rest) rfl (by rw [hb]; exact hdg) t
  simp only [arrV_size] at h1
  exact h1 st
theorem vx_bastZ {D : va_G} {cl : List vw_C} {ws : va_W} {tys : List (ClassId × FieldType)} {a : Nat} (hexec : p.tables.exec = Jvm.exec) (hb : c.code = cc) (hK : va_K D cl tys s) (hP : va_P D cl ws H) (q0 t0 : Nat) {cA : ClassId} {n : Nat} {f : Nat → Int32} (ha : ws[q0]? = some (a, .inl (cA, n, .inl f))) (ht : tys[t0]? = some (cA, .byte)) {i : Int32} {x : Int32} (hout : ¬ vp_in i n) (hdg : decode cc pc = .ok (.bastore, 1))
    (k : ∀ tx : String, tx = (toString "Index " ++ toString i ++ toString " out of bounds for length " ++ toString n : String) → vx_Note p l e R s m args below meth c H locs cells slots Q (F0 m pc ls rest) "java/lang/ArrayIndexOutOfBoundsException" tx) : W p l e R s m args below meth c H locs cells slots Q (F0 m pc ls (.int x :: .int i :: .ref a :: rest)) := by
  intro T hT X
  obtain ⟨t, st, q⟩ := k _ rfl T hT X
  refine ⟨t, ?_, q⟩
  have h1 := X.bastoreOut hexec (by rw [hT]; exact hP q0 _ ha) ((hK.2 t0 _ ht).1 n (fun j => .int (f j))) (j := i) (by show (i < 0 ∨ (arrV _ _ _).slots.size ≤ _); rw [arrV_size]; exact Classical.byContradiction hout) (g := F0 m pc ls (.int x :: .int i :: .ref a :: rest)) rfl (rest := rest) rfl (by rw [hb]; exact hdg) t
  simp only [arrV_size] at h1
  exact h1 st
theorem vx_zaldZ {D : va_G} {cl : List vw_C} {ws : va_W} {tys : List (ClassId × FieldType)} {a : Nat} (hexec : p.tables.exec = Jvm.exec) (hb : c.code = cc) (hK : va_K D cl tys s) (hP : va_P D cl ws H) (q0 t0 : Nat) {cA : ClassId} {n : Nat} {f : Nat → Int32} (ha : ws[q0]? = some (a, .inl (cA, n, .inl f))) (ht : tys[t0]? = some (cA, .boolean)) {i : Int32} (hout : ¬ vp_in i n) (hdg : decode cc pc = .ok (.baload, 1))
    (k : ∀ tx : String, tx = (toString "Index " ++ toString i ++ toString " out of bounds for length " ++ toString n : String) → vx_Note p l e R s m args below meth c H locs cells slots Q (F0 m pc ls rest) "java/lang/ArrayIndexOutOfBoundsException" tx) : W p l e R s m args below meth c H locs cells slots Q (F0 m pc ls (.int i :: .ref a :: rest)) := by
  intro T hT X
  obtain ⟨t, st, q⟩ := k _ rfl T hT X
  refine ⟨t, ?_, q⟩
  have h1 := X.baloadOut hexec (by rw [hT]; exact hP q0 _ ha) ((hK.2 t0 _ ht).1 n (fun j => .int (f j))) (j := i) (by show (i < 0 ∨ (arrV _ _ _).slots.size ≤ _); rw [arrV_size]; exact Classical.byContradiction hout) (g := F0 m pc ls (.int i :: .ref a :: rest)) rfl (rest := rest) rfl (by rw [hb]; exact hdg) t
  simp only [arrV_size] at h1
  exact h1 st
theorem vx_zastZ {D : va_G} {cl : List vw_C} {ws : va_W} {tys : List (ClassId × FieldType)} {a : Nat} (hexec : p.tables.exec = Jvm.exec) (hb : c.code = cc) (hK : va_K D cl tys s) (hP : va_P D cl ws H) (q0 t0 : Nat) {cA : ClassId} {n : Nat} {f : Nat → Int32} (ha : ws[q0]? = some (a, .inl (cA, n, .inl f))) (ht : tys[t0]? = some (cA, .boolean)) {i : Int32} {x : Int32} (hout : ¬ vp_in i n) (hdg : decode cc pc = .ok (.bastore, 1))
    (k : ∀ tx : String, tx = (toString "Index " ++ toString i ++ toString " out of bounds for length " ++ toString n : String) → vx_Note p l e R s m args below meth c H locs cells slots Q (F0 m pc ls rest) "java/lang/ArrayIndexOutOfBoundsException" tx) : W p l e R s m args below meth c H locs cells slots Q (F0 m pc ls (.int x :: .int i :: .ref a :: rest)) := by
  intro T hT X
  obtain ⟨t, st, q⟩ := k _ rfl T hT X
  refine ⟨t, ?_, q⟩
  have h1 := X.bastoreOut hexec (by rw [hT]; exact hP q0 _ ha) ((hK.2 t0 _ ht).1 n (fun j => .int (f j))) (j := i) (by show (i < 0 ∨ (arrV _ _ _).slots.size ≤ _); rw [arrV_size]; exact Classical.byContradiction hout) (g := F0 m pc ls (.int x :: .int i :: .ref a :: rest)) rfl (rest := rest) rfl (by rw [hb]; exact hdg) t
  simp only [arrV_size] at h1
  exact h1 st
theorem vx_caldZ {D : va_G} {cl : List vw_C} {ws : va_W} {tys : List (ClassId × FieldType)} {a : Nat} (hexec : p.tables.exec = Jvm.exec) (hb : c.code = cc) (hK : va_K D cl tys s) (hP : va_P D cl ws H) (q0 t0 : Nat) {cA : ClassId} {n : Nat} {f : Nat → Int32} (ha : ws[q0]? = some (a, .inl (cA, n, .inl f))) (ht : tys[t0]? = some (cA, .char)) {i : Int32} (hout : ¬ vp_in i n) (hdg : decode cc pc = .ok (.caload, 1))
    (k : ∀ tx : String, tx = (toString "Index " ++ toString i ++ toString " out of bounds for length " ++ toString n : String) → vx_Note p l e R s m args below meth c H locs cells slots Q (F0 m pc ls rest) "java/lang/ArrayIndexOutOfBoundsException" tx) : W p l e R s m args below meth c H locs cells slots Q (F0 m pc ls (.int i :: .ref a :: rest)) := by
  intro T hT X
  obtain ⟨t, st, q⟩ := k _ rfl T hT X
  refine ⟨t, ?_, q⟩
  have h1 := X.caloadOut hexec (by rw [hT]; exact hP q0 _ ha) ((hK.2 t0 _ ht).1 n (fun j => .int (f j))) (j := i) (by show (i < 0 ∨ (arrV _ _ _).slots.size ≤ _); rw [arrV_size]; exact Classical.byContradiction hout) (g := F0 m pc ls (.int i :: .ref a :: rest)) rfl (rest := rest) rfl (by rw [hb]; exact hdg) t
  simp only [arrV_size] at h1
  exact h1 st
theorem vx_castZ {D : va_G} {cl : List vw_C} {ws : va_W} {tys : List (ClassId × FieldType)} {a : Nat} (hexec : p.tables.exec = Jvm.exec) (hb : c.code = cc) (hK : va_K D cl tys s) (hP : va_P D cl ws H) (q0 t0 : Nat) {cA : ClassId} {n : Nat} {f : Nat → Int32} (ha : ws[q0]? = some (a, .inl (cA, n, .inl f))) (ht : tys[t0]? = some (cA, .char)) {i : Int32} {x : Int32} (hout : ¬ vp_in i n) (hdg : decode cc pc = .ok (.castore, 1))
    (k : ∀ tx : String, tx = (toString "Index " ++ toString i ++ toString " out of bounds for length " ++ toString n : String) → vx_Note p l e R s m args below meth c H locs cells slots Q (F0 m pc ls rest) "java/lang/ArrayIndexOutOfBoundsException" tx) : W p l e R s m args below meth c H locs cells slots Q (F0 m pc ls (.int x :: .int i :: .ref a :: rest)) := by
  intro T hT X
  obtain ⟨t, st, q⟩ := k _ rfl T hT X
  refine ⟨t, ?_, q⟩
  have h1 := X.castoreOut hexec (by rw [hT]; exact hP q0 _ ha) ((hK.2 t0 _ ht).1 n (fun j => .int (f j))) (j := i) (by show (i < 0 ∨ (arrV _ _ _).slots.size ≤ _); rw [arrV_size]; exact Classical.byContradiction hout) (g := F0 m pc ls (.int x :: .int i :: .ref a :: rest)) rfl (rest := rest) rfl (by rw [hb]; exact hdg) t
  simp only [arrV_size] at h1
  exact h1 st
theorem vx_saldZ {D : va_G} {cl : List vw_C} {ws : va_W} {tys : List (ClassId × FieldType)} {a : Nat} (hexec : p.tables.exec = Jvm.exec) (hb : c.code = cc) (hK : va_K D cl tys s) (hP : va_P D cl ws H) (q0 t0 : Nat) {cA : ClassId} {n : Nat} {f : Nat → Int32} (ha : ws[q0]? = some (a, .inl (cA, n, .inl f))) (ht : tys[t0]? = some (cA, .short)) {i : Int32} (hout : ¬ vp_in i n) (hdg : decode cc pc = .ok (.saload, 1))
    (k : ∀ tx : String, tx = (toString "Index " ++ toString i ++ toString " out of bounds for length " ++ toString n : String) → vx_Note p l e R s m args below meth c H locs cells slots Q (F0 m pc ls rest) "java/lang/ArrayIndexOutOfBoundsException" tx) : W p l e R s m args below meth c H locs cells slots Q (F0 m pc ls (.int i :: .ref a :: rest)) := by
  intro T hT X
  obtain ⟨t, st, q⟩ := k _ rfl T hT X
  refine ⟨t, ?_, q⟩
  have h1 := X.saloadOut hexec (by rw [hT]; exact hP q0 _ ha) ((hK.2 t0 _ ht).1 n (fun j => .int (f j))) (j := i) (by show (i < 0 ∨ (arrV _ _ _).slots.size ≤ _); rw [arrV_size]; exact Classical.byContradiction hout) (g := F0 m pc ls (.int i :: .ref a :: rest)) rfl (rest := rest) rfl (by rw [hb]; exact hdg) t
  simp only [arrV_size] at h1
  exact h1 st
theorem vx_sastZ {D : va_G} {cl : List vw_C} {ws : va_W} {tys : List (ClassId × FieldType)} {a : Nat} (hexec : p.tables.exec = Jvm.exec) (hb : c.code = cc) (hK : va_K D cl tys s) (hP : va_P D cl ws H) (q0 t0 : Nat) {cA : ClassId} {n : Nat} {f : Nat → Int32} (ha : ws[q0]? = some (a, .inl (cA, n, .inl f))) (ht : tys[t0]? = some (cA, .short)) {i : Int32} {x : Int32} (hout : ¬ vp_in i n) (hdg : decode cc pc = .ok (.sastore, 1))
    (k : ∀ tx : String, tx = (toString "Index " ++ toString i ++ toString " out of bounds for length " ++ toString n : String) → vx_Note p l e R s m args below meth c H locs cells slots Q (F0 m pc ls rest) "java/lang/ArrayIndexOutOfBoundsException" tx) : W p l e R s m args below meth c H locs cells slots Q (F0 m pc ls (.int x :: .int i :: .ref a :: rest)) := by
  intro T hT X
  obtain ⟨t, st, q⟩ := k _ rfl T hT X
  refine ⟨t, ?_, q⟩
  have h1 := X.sastoreOut hexec (by rw [hT]; exact hP q0 _ ha) ((hK.2 t0 _ ht).1 n (fun j => .int (f j))) (j := i) (by show (i < 0 ∨ (arrV _ _ _).slots.size ≤ _); rw [arrV_size]; exact Classical.byContradiction hout) (g := F0 m pc ls (.int x :: .int i :: .ref a :: rest)) rfl (rest := rest) rfl (by rw [hb]; exact hdg) t
  simp only [arrV_size] at h1
  exact h1 st
theorem vx_laldZ {D : va_G} {cl : List vw_C} {ws : va_W} {tys : List (ClassId × FieldType)} {a : Nat} (hexec : p.tables.exec = Jvm.exec) (hb : c.code = cc) (hK : va_K D cl tys s) (hP : va_P D cl ws H) (q0 t0 : Nat) {cA : ClassId} {n : Nat} {f : Nat → Int64} (ha : ws[q0]? = some (a, .inl (cA, n, .inr (.inl f)))) (ht : tys[t0]? = some (cA, .long)) {i : Int32} (hout : ¬ vp_in i n) (hdg : decode cc pc = .ok (.laload, 1))
    (k : ∀ tx : String, tx = (toString "Index " ++ toString i ++ toString " out of bounds for length " ++ toString n : String) → vx_Note p l e R s m args below meth c H locs cells slots Q (F0 m pc ls rest) "java/lang/ArrayIndexOutOfBoundsException" tx) : W p l e R s m args below meth c H locs cells slots Q (F0 m pc ls (.int i :: .ref a :: rest)) := by
  intro T hT X
  obtain ⟨t, st, q⟩ := k _ rfl T hT X
  refine ⟨t, ?_, q⟩
  have h1 := X.laloadOut hexec (by rw [hT]; exact hP q0 _ ha) ((hK.2 t0 _ ht).1 n (fun j => .long (f j))) (j := i) (by show (i < 0 ∨ (arrV _ _ _).slots.size ≤ _); rw [arrV_size]; exact Classical.byContradiction hout) (g := F0 m pc ls (.int i :: .ref a :: rest)) rfl (rest := rest) rfl (by rw [hb]; exact hdg) t
  simp only [arrV_size] at h1
  exact h1 st
theorem vx_lastZ {D : va_G} {cl : List vw_C} {ws : va_W} {tys : List (ClassId × FieldType)} {a : Nat} (hexec : p.tables.exec = Jvm.exec) (hb : c.code = cc) (hK : va_K D cl tys s) (hP : va_P D cl ws H) (q0 t0 : Nat) {cA : ClassId} {n : Nat} {f : Nat → Int64} (ha : ws[q0]? = some (a, .inl (cA, n, .inr (.inl f)))) (ht : tys[t0]? = some (cA, .long)) {i : Int32} {x : Int64} (hout : ¬ vp_in i n) (hdg : decode cc pc = .ok (.lastore, 1))
    (k : ∀ tx : String, tx = (toString "Index " ++ toString i ++ toString " out of bounds for length " ++ toString n : String) → vx_Note p l e R s m args below meth c H locs cells slots Q (F0 m pc ls rest) "java/lang/ArrayIndexOutOfBoundsException" tx) : W p l e R s m args below meth c H locs cells slots Q (F0 m pc ls (.long x :: .int i :: .ref a :: rest)) := by
  intro T hT X
  obtain ⟨t, st, q⟩ := k _ rfl T hT X
  refine ⟨t, ?_, q⟩
  have h1 := X.lastoreOut hexec (by rw [hT]; exact hP q0 _ ha) ((hK.2 t0 _ ht).1 n (fun j => .long (f j))) (j := i) (by show (i < 0 ∨ (arrV _ _ _).slots.size ≤ _); rw [arrV_size]; exact Classical.byContradiction hout) (g := F0 m pc ls (.long x :: .int i :: .ref a :: rest)) rfl (rest := rest) rfl (by rw [hb]; exact hdg) t
  simp only [arrV_size] at h1
  exact h1 st
theorem vx_faldZ {D : va_G} {cl : List vw_C} {ws : va_W} {tys : List (ClassId × FieldType)} {a : Nat} (hexec : p.tables.exec = Jvm.exec) (hb : c.code = cc) (hK : va_K D cl tys s) (hP : va_P D cl ws H) (q0 t0 : Nat) {cA : ClassId} {n : Nat} {f : Nat → UInt32} (ha : ws[q0]? = some (a, .inl (cA, n, .inr (.inr (.inl f))))) (ht : tys[t0]? = some (cA, .float)) {i : Int32} (hout : ¬ vp_in i n) (hdg : decode cc pc = .ok (.faload, 1))
    (k : ∀ tx : String, tx = (toString "Index " ++ toString i ++ toString " out of bounds for length " ++ toString n : String) → vx_Note p l e R s m args below meth c H locs cells slots Q (F0 m pc ls rest) "java/lang/ArrayIndexOutOfBoundsException" tx) : W p l e R s m args below meth c H locs cells slots Q (F0 m pc ls (.int i :: .ref a :: rest)) := by
  intro T hT X
  obtain ⟨t, st, q⟩ := k _ rfl T hT X
  refine ⟨t, ?_, q⟩
  have h1 := X.faloadOut hexec (by rw [hT]; exact hP q0 _ ha) ((hK.2 t0 _ ht).1 n (fun j => .float (f j))) (j := i) (by show (i < 0 ∨ (arrV _ _ _).slots.size ≤ _); rw [arrV_size]; exact Classical.byContradiction hout) (g := F0 m pc ls (.int i :: .ref a :: rest)) rfl (rest := rest) rfl (by rw [hb]; exact hdg) t
  simp only [arrV_size] at h1
  exact h1 st
theorem vx_fastZ {D : va_G} {cl : List vw_C} {ws : va_W} {tys : List (ClassId × FieldType)} {a : Nat} (hexec : p.tables.exec = Jvm.exec) (hb : c.code = cc) (hK : va_K D cl tys s) (hP : va_P D cl ws H) (q0 t0 : Nat) {cA : ClassId} {n : Nat} {f : Nat → UInt32} (ha : ws[q0]? = some (a, .inl (cA, n, .inr (.inr (.inl f))))) (ht : tys[t0]? = some (cA, .float)) {i : Int32} {x : UInt32} (hout : ¬ vp_in i n) (hdg : decode cc pc = .ok (.fastore, 1))
    (k : ∀ tx : String, tx = (toString "Index " ++ toString i ++ toString " out of bounds for length " ++ toString n : String) → vx_Note p l e R s m args below meth c H locs cells slots Q (F0 m pc ls rest) "java/lang/ArrayIndexOutOfBoundsException" tx) : W p l e R s m args below meth c H locs cells slots Q (F0 m pc ls (.float x :: .int i :: .ref a :: rest)) := by
  intro T hT X
  obtain ⟨t, st, q⟩ := k _ rfl T hT X
  refine ⟨t, ?_, q⟩
  have h1 := X.fastoreOut hexec (by rw [hT]; exact hP q0 _ ha) ((hK.2 t0 _ ht).1 n (fun j => .float (f j))) (j := i) (by show (i < 0 ∨ (arrV _ _ _).slots.size ≤ _); rw [arrV_size]; exact Classical.byContradiction hout) (g := F0 m pc ls (.float x :: .int i :: .ref a :: rest)) rfl (rest := rest) rfl (by rw [hb]; exact hdg) t
  simp only [arrV_size] at h1
  exact h1 st
theorem vx_daldZ {D : va_G} {cl : List vw_C} {ws : va_W} {tys : List (ClassId × FieldType)} {a : Nat} (hexec : p.tables.exec = Jvm.exec) (hb : c.code = cc) (hK : va_K D cl tys s) (hP : va_P D cl ws H) (q0 t0 : Nat) {cA : ClassId} {n : Nat} {f : Nat → UInt64} (ha : ws[q0]? = some (a, .inl (cA, n, .inr (.inr (.inr (.inl f)))))) (ht : tys[t0]? = some (cA, .double)) {i : Int32} (hout : ¬ vp_in i n) (hdg : decode cc pc = .ok (.daload, 1))
    (k : ∀ tx : String, tx = (toString "Index " ++ toString i ++ toString " out of bounds for length " ++ toString n : String) → vx_Note p l e R s m args below meth c H locs cells slots Q (F0 m pc ls rest) "java/lang/ArrayIndexOutOfBoundsException" tx) : W p l e R s m args below meth c H locs cells slots Q (F0 m pc ls (.int i :: .ref a :: rest)) := by
  intro T hT X
  obtain ⟨t, st, q⟩ := k _ rfl T hT X
  refine ⟨t, ?_, q⟩
  have h1 := X.daloadOut hexec (by rw [hT]; exact hP q0 _ ha) ((hK.2 t0 _ ht).1 n (fun j => .double (f j))) (j := i) (by show (i < 0 ∨ (arrV _ _ _).slots.size ≤ _); rw [arrV_size]; exact Classical.byContradiction hout) (g := F0 m pc ls (.int i :: .ref a :: rest)) rfl (rest := rest) rfl (by rw [hb]; exact hdg) t
  simp only [arrV_size] at h1
  exact h1 st
theorem vx_dastZ {D : va_G} {cl : List vw_C} {ws : va_W} {tys : List (ClassId × FieldType)} {a : Nat} (hexec : p.tables.exec = Jvm.exec) (hb : c.code = cc) (hK : va_K D cl tys s) (hP : va_P D cl ws H) (q0 t0 : Nat) {cA : ClassId} {n : Nat} {f : Nat → UInt64} (ha : ws[q0]? = some (a, .inl (cA, n, .inr (.inr (.inr (.inl f)))))) (ht : tys[t0]? = some (cA, .double)) {i : Int32} {x : UInt64} (hout : ¬ vp_in i n) (hdg : decode cc pc = .ok (.dastore, 1))
    (k : ∀ tx : String, tx = (toString "Index " ++ toString i ++ toString " out of bounds for length " ++ toString n : String) → vx_Note p l e R s m args below meth c H locs cells slots Q (F0 m pc ls rest) "java/lang/ArrayIndexOutOfBoundsException" tx) : W p l e R s m args below meth c H locs cells slots Q (F0 m pc ls (.double x :: .int i :: .ref a :: rest)) := by
  intro T hT X
  obtain ⟨t, st, q⟩ := k _ rfl T hT X
  refine ⟨t, ?_, q⟩
  have h1 := X.dastoreOut hexec (by rw [hT]; exact hP q0 _ ha) ((hK.2 t0 _ ht).1 n (fun j => .double (f j))) (j := i) (by show (i < 0 ∨ (arrV _ _ _).slots.size ≤ _); rw [arrV_size]; exact Classical.byContradiction hout) (g := F0 m pc ls (.double x :: .int i :: .ref a :: rest)) rfl (rest := rest) rfl (by rw [hb]; exact hdg) t
  simp only [arrV_size] at h1
  exact h1 st
theorem vx_arraylengthN (hexec : p.tables.exec = Jvm.exec) (hb : c.code = cc) (hdg : decode cc pc = .ok (.arraylength, 1)) (k : vx_NoteN p l e R s m args below meth c H locs cells slots Q (F0 m pc ls rest)) : W p l e R s m args below meth c H locs cells slots Q (F0 m pc ls (.null :: rest)) := by
  intro T hT X
  obtain ⟨t, st, q⟩ := k T hT X
  exact ⟨t, X.arraylengthNull hexec (g := F0 m pc ls (.null :: rest)) rfl (rest := rest) rfl (by rw [hb]; exact hdg) t st, q⟩
theorem vx_ialoadN (hexec : p.tables.exec = Jvm.exec) (hb : c.code = cc) {i : Int32} (hdg : decode cc pc = .ok (.iaload, 1)) (k : vx_NoteN p l e R s m args below meth c H locs cells slots Q (F0 m pc ls rest)) : W p l e R s m args below meth c H locs cells slots Q (F0 m pc ls (.int i :: .null :: rest)) := by
  intro T hT X
  obtain ⟨t, st, q⟩ := k T hT X
  exact ⟨t, X.ialoadNull hexec (g := F0 m pc ls (.int i :: .null :: rest)) rfl (rest := rest) rfl (by rw [hb]; exact hdg) t st, q⟩
theorem vx_laloadN (hexec : p.tables.exec = Jvm.exec) (hb : c.code = cc) {i : Int32} (hdg : decode cc pc = .ok (.laload, 1)) (k : vx_NoteN p l e R s m args below meth c H locs cells slots Q (F0 m pc ls rest)) : W p l e R s m args below meth c H locs cells slots Q (F0 m pc ls (.int i :: .null :: rest)) := by
  intro T hT X
  obtain ⟨t, st, q⟩ := k T hT X
  exact ⟨t, X.laloadNull hexec (g := F0 m pc ls (.int i :: .null :: rest)) rfl (rest := rest) rfl (by rw [hb]; exact hdg) t st, q⟩
theorem vx_faloadN (hexec : p.tables.exec = Jvm.exec) (hb : c.code = cc) {i : Int32} (hdg : decode cc pc = .ok (.faload, 1)) (k : vx_NoteN p l e R s m args below meth c H locs cells slots Q (F0 m pc ls rest)) : W p l e R s m args below meth c H locs cells slots Q (F0 m pc ls (.int i :: .null :: rest)) := by
  intro T hT X
  obtain ⟨t, st, q⟩ := k T hT X
  exact ⟨t, X.faloadNull hexec (g := F0 m pc ls (.int i :: .null :: rest)) rfl (rest := rest) rfl (by rw [hb]; exact hdg) t st, q⟩
theorem vx_daloadN (hexec : p.tables.exec = Jvm.exec) (hb : c.code = cc) {i : Int32} (hdg : decode cc pc = .ok (.daload, 1)) (k : vx_NoteN p l e R s m args below meth c H locs cells slots Q (F0 m pc ls rest)) : W p l e R s m args below meth c H locs cells slots Q (F0 m pc ls (.int i :: .null :: rest)) := by
  intro T hT X
  obtain ⟨t, st, q⟩ := k T hT X
  exact ⟨t, X.daloadNull hexec (g := F0 m pc ls (.int i :: .null :: rest)) rfl (rest := rest) rfl (by rw [hb]; exact hdg) t st, q⟩
theorem vx_aaloadN (hexec : p.tables.exec = Jvm.exec) (hb : c.code = cc) {i : Int32} (hdg : decode cc pc = .ok (.aaload, 1)) (k : vx_NoteN p l e R s m args below meth c H locs cells slots Q (F0 m pc ls rest)) : W p l e R s m args below meth c H locs cells slots Q (F0 m pc ls (.int i :: .null :: rest)) := by
  intro T hT X
  obtain ⟨t, st, q⟩ := k T hT X
  exact ⟨t, X.aaloadNull hexec (g := F0 m pc ls (.int i :: .null :: rest)) rfl (rest := rest) rfl (by rw [hb]; exact hdg) t st, q⟩
theorem vx_baloadN (hexec : p.tables.exec = Jvm.exec) (hb : c.code = cc) {i : Int32} (hdg : decode cc pc = .ok (.baload, 1)) (k : vx_NoteN p l e R s m args below meth c H locs cells slots Q (F0 m pc ls rest)) : W p l e R s m args below meth c H locs cells slots Q (F0 m pc ls (.int i :: .null :: rest)) := by
  intro T hT X
  obtain ⟨t, st, q⟩ := k T hT X
  exact ⟨t, X.baloadNull hexec (g := F0 m pc ls (.int i :: .null :: rest)) rfl (rest := rest) rfl (by rw [hb]; exact hdg) t st, q⟩
theorem vx_caloadN (hexec : p.tables.exec = Jvm.exec) (hb : c.code = cc) {i : Int32} (hdg : decode cc pc = .ok (.caload, 1)) (k : vx_NoteN p l e R s m args below meth c H locs cells slots Q (F0 m pc ls rest)) : W p l e R s m args below meth c H locs cells slots Q (F0 m pc ls (.int i :: .null :: rest)) := by
  intro T hT X
  obtain ⟨t, st, q⟩ := k T hT X
  exact ⟨t, X.caloadNull hexec (g := F0 m pc ls (.int i :: .null :: rest)) rfl (rest := rest) rfl (by rw [hb]; exact hdg) t st, q⟩
theorem vx_saloadN (hexec : p.tables.exec = Jvm.exec) (hb : c.code = cc) {i : Int32} (hdg : decode cc pc = .ok (.saload, 1)) (k : vx_NoteN p l e R s m args below meth c H locs cells slots Q (F0 m pc ls rest)) : W p l e R s m args below meth c H locs cells slots Q (F0 m pc ls (.int i :: .null :: rest)) := by
  intro T hT X
  obtain ⟨t, st, q⟩ := k T hT X
  exact ⟨t, X.saloadNull hexec (g := F0 m pc ls (.int i :: .null :: rest)) rfl (rest := rest) rfl (by rw [hb]; exact hdg) t st, q⟩
theorem vx_iastoreN (hexec : p.tables.exec = Jvm.exec) (hb : c.code = cc) {x : Int32} {i : Int32} (hdg : decode cc pc = .ok (.iastore, 1)) (k : vx_NoteN p l e R s m args below meth c H locs cells slots Q (F0 m pc ls rest)) : W p l e R s m args below meth c H locs cells slots Q (F0 m pc ls (.int x :: .int i :: .null :: rest)) := by
  intro T hT X
  obtain ⟨t, st, q⟩ := k T hT X
  exact ⟨t, X.iastoreNull hexec (g := F0 m pc ls (.int x :: .int i :: .null :: rest)) rfl (rest := rest) rfl (by rw [hb]; exact hdg) t st, q⟩
theorem vx_lastoreN (hexec : p.tables.exec = Jvm.exec) (hb : c.code = cc) {x : Int64} {i : Int32} (hdg : decode cc pc = .ok (.lastore, 1)) (k : vx_NoteN p l e R s m args below meth c H locs cells slots Q (F0 m pc ls rest)) : W p l e R s m args below meth c H locs cells slots Q (F0 m pc ls (.long x :: .int i :: .null :: rest)) := by
  intro T hT X
  obtain ⟨t, st, q⟩ := k T hT X
  exact ⟨t, X.lastoreNull hexec (g := F0 m pc ls (.long x :: .int i :: .null :: rest)) rfl (rest := rest) rfl (by rw [hb]; exact hdg) t st, q⟩
theorem vx_fastoreN (hexec : p.tables.exec = Jvm.exec) (hb : c.code = cc) {x : UInt32} {i : Int32} (hdg : decode cc pc = .ok (.fastore, 1)) (k : vx_NoteN p l e R s m args below meth c H locs cells slots Q (F0 m pc ls rest)) : W p l e R s m args below meth c H locs cells slots Q (F0 m pc ls (.float x :: .int i :: .null :: rest)) := by
  intro T hT X
  obtain ⟨t, st, q⟩ := k T hT X
  exact ⟨t, X.fastoreNull hexec (g := F0 m pc ls (.float x :: .int i :: .null :: rest)) rfl (rest := rest) rfl (by rw [hb]; exact hdg) t st, q⟩
theorem vx_dastoreN (hexec : p.tables.exec = Jvm.exec) (hb : c.code = cc) {x : UInt64} {i : Int32} (hdg : decode cc pc = .ok (.dastore, 1)) (k : vx_NoteN p l e R s m args below meth c H locs cells slots Q (F0 m pc ls rest)) : W p l e R s m args below meth c H locs cells slots Q (F0 m pc ls (.double x :: .int i :: .null :: rest)) := by
  intro T hT X
  obtain ⟨t, st, q⟩ := k T hT X
  exact ⟨t, X.dastoreNull hexec (g := F0 m pc ls (.double x :: .int i :: .null :: rest)) rfl (rest := rest) rfl (by rw [hb]; exact hdg) t st, q⟩
theorem vx_bastoreN (hexec : p.tables.exec = Jvm.exec) (hb : c.code = cc) {x : Int32} {i : Int32} (hdg : decode cc pc = .ok (.bastore, 1)) (k : vx_NoteN p l e R s m args below meth c H locs cells slots Q (F0 m pc ls rest)) : W p l e R s m args below meth c H locs cells slots Q (F0 m pc ls (.int x :: .int i :: .null :: rest)) := by
  intro T hT X
  obtain ⟨t, st, q⟩ := k T hT X
  exact ⟨t, X.bastoreNull hexec (g := F0 m pc ls (.int x :: .int i :: .null :: rest)) rfl (rest := rest) rfl (by rw [hb]; exact hdg) t st, q⟩
theorem vx_castoreN (hexec : p.tables.exec = Jvm.exec) (hb : c.code = cc) {x : Int32} {i : Int32} (hdg : decode cc pc = .ok (.castore, 1)) (k : vx_NoteN p l e R s m args below meth c H locs cells slots Q (F0 m pc ls rest)) : W p l e R s m args below meth c H locs cells slots Q (F0 m pc ls (.int x :: .int i :: .null :: rest)) := by
  intro T hT X
  obtain ⟨t, st, q⟩ := k T hT X
  exact ⟨t, X.castoreNull hexec (g := F0 m pc ls (.int x :: .int i :: .null :: rest)) rfl (rest := rest) rfl (by rw [hb]; exact hdg) t st, q⟩
theorem vx_sastoreN (hexec : p.tables.exec = Jvm.exec) (hb : c.code = cc) {x : Int32} {i : Int32} (hdg : decode cc pc = .ok (.sastore, 1)) (k : vx_NoteN p l e R s m args below meth c H locs cells slots Q (F0 m pc ls rest)) : W p l e R s m args below meth c H locs cells slots Q (F0 m pc ls (.int x :: .int i :: .null :: rest)) := by
  intro T hT X
  obtain ⟨t, st, q⟩ := k T hT X
  exact ⟨t, X.sastoreNull hexec (g := F0 m pc ls (.int x :: .int i :: .null :: rest)) rfl (rest := rest) rfl (by rw [hb]; exact hdg) t st, q⟩
theorem vx_invokeN {own C : String} {index maxL : Nat} {y : MethodName} {bytes : ByteArray} {ret : Option FieldType} (hexec : p.tables.exec = Jvm.exec) (hb : c.code = cc) (hown : s.vm.findClass own = some m.cls) (hlink : (Cond.methodLink own index y).before args s = true) (hinst : (Cond.instanceMethod y).before args s = true) (hcode : (Cond.code y bytes maxL ret).before args s = true) (hsel : (Cond.selects C y y).before args s = true)
    (hx : y.cls ≠ "java/lang/invoke/MethodHandle" ∧ y.cls ≠ "java/lang/invoke/VarHandle") {As : List Value} (hlen : (parseMethodDescriptor y.desc).map (fun d => d.parameters.length) = some As.length) (hdg : decode cc pc = .ok (.invokevirtual index, 3))
    (k : vx_NoteN p l e R s m args below meth c H locs cells slots Q (F0 m pc ls rest)) {st0 : List Value} (hst : st0 = As.reverse ++ .null :: rest) : W p l e R s m args below meth c H locs cells slots Q (F0 m pc ls st0) := by
  intro T hT X
  obtain ⟨r0, r, hn, hrm, hstR, hsigR⟩ := va_Decl.of hinst hcode
  obtain ⟨c2, r2, m2, q1, q2, q3, q4, kP, hkP, hkPi⟩ := Cond.selects_spec hsel
  cases hn.symm.trans q3
  have hl9 : As.length = r.sig.parameters.length := by
    rw [hsigR] at hlen
    exact (Option.some.inj hlen).symm
  obtain ⟨vm', X1, st1⟩ := X.invokevirtualNull hexec hown hlink hn hrm hstR hkP hkPi hx (g := F0 m pc ls st0) rfl (argsL := As) (rest := rest) hl9 hst (by rw [hb]; exact hdg)
  obtain ⟨t, st, q⟩ := k (T.setVm vm') hT X1
  exact ⟨t, st1 t st, q⟩
theorem vx_newarrayZ {atype : ArrayType} (hexec : p.tables.exec = Jvm.exec) (hb : c.code = cc) {n : Int32} (h0 : n < 0) (hdg : decode cc pc = .ok (.newarray atype, 2)) (k : ∀ tx : String, tx = toString n → vx_Note p l e R s m args below meth c H locs cells slots Q (F0 m pc ls rest) "java/lang/NegativeArraySizeException" tx) : W p l e R s m args below meth c H locs cells slots Q (F0 m pc ls (.int n :: rest)) := by
  intro T hT X
  obtain ⟨t, st, q⟩ := k _ rfl T hT X
  exact ⟨t, X.newarrayNegative hexec (g := F0 m pc ls (.int n :: rest)) rfl h0 (rest := rest) rfl (by rw [hb]; exact hdg) t st, q⟩
end
end VXM
/-! ===== END ===== -/
/-! ===== BEGIN an exception as an object: made, kept, thrown later (no traces kept) ===== -/
section VXK
variable {p : Program} {l : Launch} {e : Env} {R : Room} {s : State} {m₀ : MethodId} {args : Array Value} {below : List Frame} {meth : Method} {c : Code} {W : State} {locs : List Loc} {cells slots : Nat}
set_option maxHeartbeats 1000000 in
theorem vx_ctorMadeS (X : Stand p l e R s m₀ args below meth c W locs cells slots) (hexec : p.tables.exec = Jvm.exec) (htr : e.platform.stackTraces = false) {own cls : String} {names : List String} {ic : Nat}
    (hown : s.vm.findClass own = some m₀.cls) (hcls : Bundle.fit cls = true) (hnames : ∀ n ∈ names, Bundle.fit n = true)
    (h : ∀ a ∈ Bundle.ownAtoms own ic cls names, a.before args s = true)
    (hlocs : ∀ x ∈ locs, ∀ cell, s.heap[x.base]? = some cell → cell.vm.isStatics = false)
    {a : Addr} {cX : ClassId} {kX : Class} (hfoundX : s.vm.findClass cls = some cX) (hkX : s.vm.classes[cX]? = some kX) (hcell : W.heap[a]? = some (freshCell cX kX)) (hnew : s.heap.size ≤ a)
    {msg : Value} (hmsg : msg.isRef = true)
    {g : JFrame} (hg : g.method = m₀) (hsize : g.locals.size = c.maxLocals) {rest : List Value} (hstack : g.stack = msg :: .ref a :: .ref a :: rest)
    (hd6 : decode c.code g.pc = .ok (.invokespecial ic, 3))
    (hRframes : names.length + 3 < R.frames) (hRlocals : 2 * g.monitorRoom + ((Value.ref a :: rest).map fun v => v.category).sum + (13 * (names.length + 1) + 42) ≤ R.locals) :
    ∃ (V : State) (ce : Cell) (L : List Loc), Stand p l e R s m₀ args below meth c (V.setCell a ce) (locs ++ L) cells slots ∧ (∀ y ∈ L, y.base = a) ∧ a < V.heap.size ∧ ce.cls = cX ∧ ce.vm = .none ∧
      ∀ target, Steps p.tables e below ((V.setCell a ce).setTop { g with stack := .ref a :: rest, pc := g.pc + 3 }) target → Steps p.tables e below (W.setTop g) target := by
  have howns : e.platform.frameOwnsMonitors = true := by rw [X.admits.platform]
  have hfin : e.platform.finalization = false := by rw [X.admits.platform]
  have hpl : e.platform.magicAccessors = ({} : Platform).magicAccessors := by rw [X.admits.platform]
  have a' : ∀ x, x ∈ Bundle.ownAtoms own ic cls names → x.holds args s none s [] = true := fun x hx => h x hx
  obtain ⟨T, Z0, L, -, Y⟩ := ThrowableC.of_atoms (args := args) howns hfin hpl (fun x hx => h x (by simp [Bundle.ownAtoms, hx]))
  obtain ⟨Z, M, LZ, LM, hnZ⟩ := Init0T.ofS_atoms (args := args) hpl L Y (fun x hx => h x (by simp [Bundle.ownAtoms, hx]))
  obtain ⟨P1, Ps, hlen, L1, hL, hP1m, hlink1, hlink⟩ := Bundle.chainS (args := args) hpl hnZ names cls hcls hnames (fun x hx => h x (by simp [Bundle.ownAtoms, hx]))
  have hfound : s.vm.findClass cls = some P1.m.cls := findClass_of_methodNamed hP1m
  cases Option.some.inj (hfoundX.symm.trans hfound)
  obtain ⟨c1, kX', hc1, hk, hord, -, -, hn6⟩ := Cond.instantiable_spec (a' (.instantiable cls 6) (by simp [Bundle.ownAtoms]))
  cases Option.some.inj (hc1.symm.trans hfound)
  cases Option.some.inj (hkX.symm.trans hk)
  have hsel0 : selectMethod e.platform s.vm P1.m.cls T.fill0 = .method T.fill0 := by
    obtain ⟨c2, r2, m2, q1, q2, q3, q4, -⟩ := Cond.selects_spec (a' (.selects cls Bundle.tFill0 Bundle.tFill0) (by simp [Bundle.ownAtoms]))
    cases Option.some.inj (q1.symm.trans hfound)
    cases Option.some.inj (q2.symm.trans (State.methodFound?_of_named Y.fill0 (by decide)))
    cases Option.some.inj (q3.symm.trans Y.fill0)
    rw [Launch.admits_selectMethod X.admits]; exact q4
  have hselF : selectMethod e.platform s.vm P1.m.cls T.fill = .method T.fill := by
    obtain ⟨c2, r2, m2, q1, q2, q3, q4, -⟩ := Cond.selects_spec (a' (.selects cls Bundle.tFill Bundle.tFill) (by simp [Bundle.ownAtoms]))
    cases Option.some.inj (q1.symm.trans hfound)
    cases Option.some.inj (q2.symm.trans (State.methodFound?_of_named Y.fill (by decide)))
    cases Option.some.inj (q3.symm.trans Y.fill)
    rw [Launch.admits_selectMethod X.admits]; exact q4
  obtain ⟨cellS0, hcS0, hiss⟩ := Y.statics
  obtain ⟨u0, hu0⟩ := Cond.staticRefV Y.unassigned L.unassignedStatic L.statics hcS0 hiss (a' (.isRef (.static Bundle.tN "UNASSIGNED_STACK" Bundle.steD)) (by simp [Bundle.ownAtoms]))
  obtain ⟨sen, hsen⟩ := Cond.staticRefV Y.sentinel L.sentinelStatic L.statics hcS0 hiss (a' (.isRef (.static Bundle.tN "SUPPRESSED_SENTINEL" Bundle.listD)) (by simp [Bundle.ownAtoms]))
  obtain ⟨ci198, i198, fB, hk198, hg198, ha198, hsB, -, hnB, htB, hffB⟩ := Cond.ownField (t := .object "java/lang/Object") Y.found L.cls (by decide +kernel) (a' (.fieldLink Bundle.tN 198 Bundle.tN "backtrace" "Ljava/lang/Object;") (by simp [Bundle.ownAtoms])) (a' (.lays Bundle.tN Bundle.tN "backtrace" "Ljava/lang/Object;") (by simp [Bundle.ownAtoms])) e.platform hpl
  obtain ⟨cellS, hcS', heS, -, hkeep⟩ := X.same.2.2.2.2.2 T.aS cellS0 hcS0
  have hcellS : W.heap[T.aS]? = some cellS := hcS'
  have hout' : ∀ i, (⟨T.aS, i⟩ : Loc) ∉ locs := fun i hmem => by
    have := hlocs _ hmem cellS0 hcS0
    rw [hiss] at this; cases this
  have hknownS : cellS.vm ≠ .unknown := by
    rw [heS]; intro hu
    rw [show cellS0.vm = .unknown from hu] at hiss
    cases hiss
  have hneS : T.aS ≠ a := Nat.ne_of_lt (Nat.lt_of_lt_of_le (Array.getElem?_eq_some_iff.mp hcS0).1 hnew)
  obtain ⟨iM, hffM⟩ := Y.msg
  obtain ⟨tyC, dC, hdC, hdnC⟩ := Cond.laysAt hfound hk Y.cause (a' (.lays cls Bundle.tN "cause" "Ljava/lang/Throwable;") (by simp [Bundle.ownAtoms]))
  obtain ⟨tyS, dS, hdS, hdnS⟩ := Cond.laysAt hfound hk Y.stack (a' (.lays cls Bundle.tN "stackTrace" Bundle.steD) (by simp [Bundle.ownAtoms]))
  obtain ⟨tyP, dP, hdP, hdnP⟩ := Cond.laysAt hfound hk Y.supp (a' (.lays cls Bundle.tN "suppressedExceptions" Bundle.listD) (by simp [Bundle.ownAtoms]))
  obtain ⟨tyM, dM, hdM, hdnM⟩ := Cond.laysAt hfound hk hffM (a' (.lays cls Bundle.tN "detailMessage" "Ljava/lang/String;") (by simp [Bundle.ownAtoms]))
  obtain ⟨tyB, dB, hdB, hdnB⟩ := Cond.laysAt hfound hk hffB (a' (.lays cls Bundle.tN "backtrace" "Ljava/lang/Object;") (by simp [Bundle.ownAtoms]))
  have bC := Cond.laysApart hdB hdC hdnB hdnC (by rw [hnB, Y.causeName]; decide)
  have bS := Cond.laysApart hdB hdS hdnB hdnS (by rw [hnB, Y.stackName]; decide)
  have bP := Cond.laysApart hdB hdP hdnB hdnP (by rw [hnB, Y.suppName]; decide)
  have hskip : SkipFacts T e.platform s (fun u => u) u0 ((preparedCellV T.toThrowableT (freshCell P1.m.cls kX) a u0 sen).withEntry W.cur) :=
    ⟨{ ci198 := ci198, i198 := i198, fBack := fB }, ⟨hk198, hg198, ha198, hsB⟩, by
      have := fresh_default (c := P1.m.cls) tyB
      rw [htB] at this
      simpa [preparedCellV, Cell.setSlot, Cell.withEntry, Array.getElem?_setIfInBounds, bC, bS, bP, bC.symm, bS.symm, bP.symm, defaultValue] using this, fun _ _ => rfl⟩
  obtain ⟨tm, methC, cdC, kC, vm₁, hnC, -, -, -, -, -, -, -, hW₁, st1⟩ := Steps.initColdS (tb := p.tables) (e := e) (below := below) (s := s) (U := W) X.here hexec X.warmed hpl hown (t := Bundle.initS cls) rfl rfl (Bundle.fit_spec hcls).2
    (a' (.methodLink own ic (Bundle.initS cls)) (by simp [Bundle.ownAtoms])) (h (.instanceMethod (Bundle.initS cls)) (by cases names <;> simp [Bundle.ownAtoms, Bundle.chainSAtoms, Bundle.passSAtoms])) (bytes := Bundle.six) (maxL := 2) (h (.code (Bundle.initS cls) Bundle.six 2 none) (by cases names <;> simp [Bundle.ownAtoms, Bundle.chainSAtoms, Bundle.passSAtoms]))
    (f := g) hg (a := a) (msg := msg) (rest := .ref a :: rest) hstack hd6
  cases Option.some.inj (hnC.symm.trans hP1m)
  have X₁ := X.noted hW₁
  obtain ⟨vm₂, X₂, st2⟩ := X₁.ctorMessageOffV hexec (g := { g with stack := .ref a :: rest }) hg hsize T L Z LZ M LM (P1 :: Ps)
    (fun P hP => by rcases List.mem_cons.mp hP with rfl | hP; exact L1; exact hL P hP) ⟨hlink1, hlink⟩ (u0 := u0) (sen := sen) (self := a) hmsg (cell := freshCell P1.m.cls kX) (cellS := cellS)
    hcell (fun _ => by simp) (by simp) rfl rfl hsel0 hselF hcellS hneS hknownS (by rw [hkeep _ (hout' _)]; exact hu0) (by rw [hkeep _ (hout' _)]; exact hsen)
    (Takes.of_laid hk hord tyC (by rw [Y.causeType]; rfl)) (Takes.of_laid hk hord tyS (by rw [Y.stackType]; exact fits_refV_array _ u0)) (Takes.of_laid hk hord tyP (by rw [Y.suppType]; exact fits_refV_object _ sen))
    (Takes.of_laid hk hord tyM (by rw [Y.msgType]; exact fits_refV_object _ ⟨msg, hmsg⟩)) Y.objLocals hskip htr [] hd6
    (by simp only [List.length_cons, hlen]; omega) (by simp only [List.length_cons, hlen]; exact hRlocals)
  have hlt : a < ((W.setVm vm₁).setVm vm₂).heap.size := (Array.getElem?_eq_some_iff.mp hcell).1
  refine ⟨(W.setVm vm₁).setVm vm₂, _, _, X₂, fun y hy => ?_, hlt, rfl, rfl, fun target hwalk => st1 _ (fun acts => ?_)⟩
  · simp only [List.mem_cons, List.not_mem_nil, or_false] at hy
    rcases hy with rfl | rfl | rfl | rfl | rfl <;> rfl
  · rw [doInvoke_state]
    exact st2 _ hwalk
set_option maxHeartbeats 1000000 in
theorem vx_ctorMade0 (X : Stand p l e R s m₀ args below meth c W locs cells slots) (hexec : p.tables.exec = Jvm.exec) (htr : e.platform.stackTraces = false) {own cls : String} {names : List String} {ic : Nat}
    (hown : s.vm.findClass own = some m₀.cls) (hcls : Bundle.fit cls = true) (hnames : ∀ n ∈ names, Bundle.fit n = true)
    (h : ∀ a ∈ Bundle.ownAtoms0 own ic cls names, a.before args s = true)
    (hlocs : ∀ x ∈ locs, ∀ cell, s.heap[x.base]? = some cell → cell.vm.isStatics = false)
    {a : Addr} {cX : ClassId} {kX : Class} (hfoundX : s.vm.findClass cls = some cX) (hkX : s.vm.classes[cX]? = some kX) (hcell : W.heap[a]? = some (freshCell cX kX)) (hnew : s.heap.size ≤ a)
    {g : JFrame} (hg : g.method = m₀) (hsize : g.locals.size = c.maxLocals) {rest : List Value} (hstack : g.stack = .ref a :: .ref a :: rest)
    (hd6 : decode c.code g.pc = .ok (.invokespecial ic, 3))
    (hRframes : names.length + 3 < R.frames) (hRlocals : 2 * g.monitorRoom + ((Value.ref a :: rest).map fun v => v.category).sum + (13 * (names.length + 1) + 41) ≤ R.locals) :
    ∃ (V : State) (ce : Cell) (L : List Loc), Stand p l e R s m₀ args below meth c (V.setCell a ce) (locs ++ L) cells slots ∧ (∀ y ∈ L, y.base = a) ∧ a < V.heap.size ∧ ce.cls = cX ∧ ce.vm = .none ∧
      ∀ target, Steps p.tables e below ((V.setCell a ce).setTop { g with stack := .ref a :: rest, pc := g.pc + 3 }) target → Steps p.tables e below (W.setTop g) target := by
  have howns : e.platform.frameOwnsMonitors = true := by rw [X.admits.platform]
  have hfin : e.platform.finalization = false := by rw [X.admits.platform]
  have hpl : e.platform.magicAccessors = ({} : Platform).magicAccessors := by rw [X.admits.platform]
  have a' : ∀ x, x ∈ Bundle.ownAtoms0 own ic cls names → x.holds args s none s [] = true := fun x hx => h x hx
  obtain ⟨T, Z, L, LZ, Y⟩ := ThrowableC.of_atoms (args := args) howns hfin hpl (fun x hx => h x (by simp [Bundle.ownAtoms0, hx]))
  obtain ⟨P1, Ps, hlen, L1, hL, hP1m, hlink1, hlink⟩ := Bundle.chain0 (args := args) hpl Y.init0 names cls hcls hnames (fun x hx => h x (by simp [Bundle.ownAtoms0, hx]))
  have hfound : s.vm.findClass cls = some P1.m.cls := findClass_of_methodNamed hP1m
  cases Option.some.inj (hfoundX.symm.trans hfound)
  obtain ⟨c1, kX', hc1, hk, hord, -, -, hn6⟩ := Cond.instantiable_spec (a' (.instantiable cls 6) (by simp [Bundle.ownAtoms0]))
  cases Option.some.inj (hc1.symm.trans hfound)
  cases Option.some.inj (hkX.symm.trans hk)
  have hsel0 : selectMethod e.platform s.vm P1.m.cls T.fill0 = .method T.fill0 := by
    obtain ⟨c2, r2, m2, q1, q2, q3, q4, -⟩ := Cond.selects_spec (a' (.selects cls Bundle.tFill0 Bundle.tFill0) (by simp [Bundle.ownAtoms0]))
    cases Option.some.inj (q1.symm.trans hfound)
    cases Option.some.inj (q2.symm.trans (State.methodFound?_of_named Y.fill0 (by decide)))
    cases Option.some.inj (q3.symm.trans Y.fill0)
    rw [Launch.admits_selectMethod X.admits]; exact q4
  have hselF : selectMethod e.platform s.vm P1.m.cls T.fill = .method T.fill := by
    obtain ⟨c2, r2, m2, q1, q2, q3, q4, -⟩ := Cond.selects_spec (a' (.selects cls Bundle.tFill Bundle.tFill) (by simp [Bundle.ownAtoms0]))
    cases Option.some.inj (q1.symm.trans hfound)
    cases Option.some.inj (q2.symm.trans (State.methodFound?_of_named Y.fill (by decide)))
    cases Option.some.inj (q3.symm.trans Y.fill)
    rw [Launch.admits_selectMethod X.admits]; exact q4
  obtain ⟨cellS0, hcS0, hiss⟩ := Y.statics
  obtain ⟨u0, hu0⟩ := Cond.staticRefV Y.unassigned L.unassignedStatic L.statics hcS0 hiss (a' (.isRef (.static Bundle.tN "UNASSIGNED_STACK" Bundle.steD)) (by simp [Bundle.ownAtoms0]))
  obtain ⟨sen, hsen⟩ := Cond.staticRefV Y.sentinel L.sentinelStatic L.statics hcS0 hiss (a' (.isRef (.static Bundle.tN "SUPPRESSED_SENTINEL" Bundle.listD)) (by simp [Bundle.ownAtoms0]))
  obtain ⟨ci198, i198, fB, hk198, hg198, ha198, hsB, -, hnB, htB, hffB⟩ := Cond.ownField (t := .object "java/lang/Object") Y.found L.cls (by decide +kernel) (a' (.fieldLink Bundle.tN 198 Bundle.tN "backtrace" "Ljava/lang/Object;") (by simp [Bundle.ownAtoms0])) (a' (.lays Bundle.tN Bundle.tN "backtrace" "Ljava/lang/Object;") (by simp [Bundle.ownAtoms0])) e.platform hpl
  obtain ⟨cellS, hcS', heS, -, hkeep⟩ := X.same.2.2.2.2.2 T.aS cellS0 hcS0
  have hcellS : W.heap[T.aS]? = some cellS := hcS'
  have hout' : ∀ i, (⟨T.aS, i⟩ : Loc) ∉ locs := fun i hmem => by
    have := hlocs _ hmem cellS0 hcS0
    rw [hiss] at this; cases this
  have hknownS : cellS.vm ≠ .unknown := by
    rw [heS]; intro hu
    rw [show cellS0.vm = .unknown from hu] at hiss
    cases hiss
  have hneS : T.aS ≠ a := Nat.ne_of_lt (Nat.lt_of_lt_of_le (Array.getElem?_eq_some_iff.mp hcS0).1 hnew)
  obtain ⟨iM, hffM⟩ := Y.msg
  obtain ⟨tyC, dC, hdC, hdnC⟩ := Cond.laysAt hfound hk Y.cause (a' (.lays cls Bundle.tN "cause" "Ljava/lang/Throwable;") (by simp [Bundle.ownAtoms0]))
  obtain ⟨tyS, dS, hdS, hdnS⟩ := Cond.laysAt hfound hk Y.stack (a' (.lays cls Bundle.tN "stackTrace" Bundle.steD) (by simp [Bundle.ownAtoms0]))
  obtain ⟨tyP, dP, hdP, hdnP⟩ := Cond.laysAt hfound hk Y.supp (a' (.lays cls Bundle.tN "suppressedExceptions" Bundle.listD) (by simp [Bundle.ownAtoms0]))
  obtain ⟨tyM, dM, hdM, hdnM⟩ := Cond.laysAt hfound hk hffM (a' (.lays cls Bundle.tN "detailMessage" "Ljava/lang/String;") (by simp [Bundle.ownAtoms0]))
  obtain ⟨tyB, dB, hdB, hdnB⟩ := Cond.laysAt hfound hk hffB (a' (.lays cls Bundle.tN "backtrace" "Ljava/lang/Object;") (by simp [Bundle.ownAtoms0]))
  have bC := Cond.laysApart hdB hdC hdnB hdnC (by rw [hnB, Y.causeName]; decide)
  have bS := Cond.laysApart hdB hdS hdnB hdnS (by rw [hnB, Y.stackName]; decide)
  have bP := Cond.laysApart hdB hdP hdnB hdnP (by rw [hnB, Y.suppName]; decide)
  have hskip : SkipFacts T e.platform s (fun u => u) u0 ((preparedCellV T.toThrowableT (freshCell P1.m.cls kX) a u0 sen).withEntry W.cur) :=
    ⟨{ ci198 := ci198, i198 := i198, fBack := fB }, ⟨hk198, hg198, ha198, hsB⟩, by
      have := fresh_default (c := P1.m.cls) tyB
      rw [htB] at this
      simpa [preparedCellV, Cell.setSlot, Cell.withEntry, Array.getElem?_setIfInBounds, bC, bS, bP, bC.symm, bS.symm, bP.symm, defaultValue] using this, fun _ _ => rfl⟩
  obtain ⟨tm, methC, cdC, kC, vm₁, hnC, -, -, -, -, -, -, -, hW₁, st1⟩ := Steps.initCold (tb := p.tables) (e := e) (below := below) (s := s) (U := W) X.here hexec X.warmed hpl hown (t := Bundle.init0 cls) rfl rfl (Bundle.fit_spec hcls).2
    (a' (.methodLink own ic (Bundle.init0 cls)) (by simp [Bundle.ownAtoms0])) (h (.instanceMethod (Bundle.init0 cls)) (by cases names <;> simp [Bundle.ownAtoms0, Bundle.chain0Atoms, Bundle.passAtoms])) (bytes := Bundle.five) (maxL := 1) (h (.code (Bundle.init0 cls) Bundle.five 1 none) (by cases names <;> simp [Bundle.ownAtoms0, Bundle.chain0Atoms, Bundle.passAtoms]))
    (f := g) hg (a := a) (rest := .ref a :: rest) hstack hd6
  cases Option.some.inj (hnC.symm.trans hP1m)
  have X₁ := X.noted hW₁
  obtain ⟨vm₂, X₂, st2⟩ := X₁.ctorPlainOffV hexec (g := { g with stack := .ref a :: rest }) hg hsize T L Z LZ (P1 :: Ps)
    (fun P hP => by rcases List.mem_cons.mp hP with rfl | hP; exact L1; exact hL P hP) ⟨hlink1, hlink⟩ (u0 := u0) (sen := sen) (self := a) (cell := freshCell P1.m.cls kX) (cellS := cellS)
    hcell (fun _ => by simp) (by simp) rfl rfl hsel0 hselF hcellS hneS hknownS (by rw [hkeep _ (hout' _)]; exact hu0) (by rw [hkeep _ (hout' _)]; exact hsen)
    (Takes.of_laid hk hord tyC (by rw [Y.causeType]; rfl)) (Takes.of_laid hk hord tyS (by rw [Y.stackType]; exact fits_refV_array _ u0)) (Takes.of_laid hk hord tyP (by rw [Y.suppType]; exact fits_refV_object _ sen)) Y.objLocals hskip htr [] hd6
    (by simp only [List.length_cons, hlen]; omega) (by simp only [List.length_cons, hlen]; exact hRlocals)
  have hlt : a < ((W.setVm vm₁).setVm vm₂).heap.size := (Array.getElem?_eq_some_iff.mp hcell).1
  refine ⟨(W.setVm vm₁).setVm vm₂, _, _, X₂, fun y hy => ?_, hlt, rfl, rfl, fun target hwalk => st1 _ (fun acts => ?_)⟩
  · simp only [List.mem_cons, List.not_mem_nil, or_false] at hy
    rcases hy with rfl | rfl | rfl | rfl <;> rfl
  · rw [doInvoke_state]
    exact st2 _ hwalk
end VXK
section VXK2
variable {p : Program} {l : Launch} {e : Env} {R : Room} {s : State} {m : MethodId} {args : Array Value} {below : List Frame} {meth : Method} {c : Code} {H : Heap} {locs : List Loc} {cells slots : Nat} {Q : State → Prop}
variable {ls : Array Slot} {rest : List Value} {D : va_G} {cl : List vw_C} {tys : List (ClassId × FieldType)} {ws : va_W}
/-- 'new E("text")' that isn't thrown at once: the object goes on the stack -/
theorem vx_makeS {cc : ByteArray} {pc : Nat} (hexec : p.tables.exec = Jvm.exec) (hb : c.code = cc) (hl : l.stackTraces = false) {own cls text : String} {names : List String} {ik is ic sa ci : Nat} {A : Nat → Prop} {T0 : u_T}
    (hown : s.vm.findClass own = some m.cls) (hcls : Bundle.fit cls = true) (hnames : ∀ n ∈ names, Bundle.fit n = true)
    (hk : (Cond.classLink own ik cls).before args s = true) (hini : (Cond.initialized cls).before args s = true) (hstr : vk_R own is text sa s) (hat : ∀ w ∈ vx_atS own ic cls names, w.before args s = true)
    (hgood : ∀ w ∈ Cond.classLink own ik cls :: Cond.initialized cls :: vx_atS own ic cls names, vx_ot w = true)
    (hU : vx_Zq Bundle.tN "UNASSIGNED_STACK" Bundle.steD A s s.heap) (hN : vx_Zq Bundle.tN "SUPPRESSED_SENTINEL" Bundle.listD A s s.heap) (hS : va_S A s.heap H locs) (hsize : ls.size = c.maxLocals)
    (d0 : decode cc pc = .ok (.new ik, 3)) (d3 : decode cc (pc + 3) = .ok (.dup, 1)) (d4 : decode cc (pc + 4) = .ok (.ldc is, 2)) (d6 : decode cc (pc + 6) = .ok (.invokespecial ic, 3))
    (hK : va_K D cl tys s) (hP : va_P D cl ws H) (hD : va_D A ws) (hA : ∀ q, s.heap.size ≤ q → A q) (hc : cl[ci]? = some (cls, T0, 0))
    (hRframes : names.length + 3 < R.frames) (hRlocals : (rest.map fun v => v.category).sum + (13 * (names.length + 1) + 43) ≤ R.locals) (hRcells : cells + 1 ≤ R.cells) (hRslots : slots + 6 ≤ R.slots)
    (kk : ∀ (q : Nat) (H1 : Heap), va_P D cl (ws ++ [(q, .inr (ci, []))]) H1 → va_D A (ws ++ [(q, .inr (ci, []))]) → va_S A s.heap H1 locs → W p l e R s m args below meth c H1 locs (cells + 1) (slots + 6) Q (F0 m (pc + 9) ls (.ref q :: rest))) :
    W p l e R s m args below meth c H locs cells slots Q (F0 m pc ls rest) := by
  intro T hT X
  subst hT
  have htr : e.platform.stackTraces = false := (show e.platform.stackTraces = l.stackTraces by rw [X.admits.platform]).trans hl
  have Y := vx_rebase X (R' := { frames := R.frames, locals := R.locals, cells := 1, slots := 6 }) (Nat.le_refl _) (Nat.le_refl _) hRcells hRslots
  obtain ⟨s', hA'⟩ : ∃ z, z = (T.setVm s.vm).setFrames (.invoking m args :: below) := ⟨_, rfl⟩
  rw [← hA'] at Y
  have hvm : s'.vm = s.vm := by rw [hA']; rfl
  have hhp : s'.heap = T.heap := by rw [hA']; rfl
  have hW0 : s.WarmedH s'.vm := by rw [hvm]; exact State.WarmedH.refl s
  have hat' : ∀ w ∈ vx_atS own ic cls names, w.before args s' = true := fun w hw => vx_ot_at hW0 hvm.symm (hgood w (List.mem_cons_of_mem _ (List.mem_cons_of_mem _ hw))) (hat w hw)
  have hk' : (Cond.classLink own ik cls).before args s' = true := vx_ot_at hW0 hvm.symm (hgood _ List.mem_cons_self) hk
  have hini' : (Cond.initialized cls).before args s' = true := vx_ot_at hW0 hvm.symm (hgood _ (List.mem_cons_of_mem _ List.mem_cons_self)) hini
  have hU' : vx_Zq Bundle.tN "UNASSIGNED_STACK" Bundle.steD A s' s'.heap := by rw [hhp]; exact vx_Zq.moved hW0.alike (hU.kept hS.2.1)
  have hN' : vx_Zq Bundle.tN "SUPPRESSED_SENTINEL" Bundle.listD A s' s'.heap := by rw [hhp]; exact vx_Zq.moved hW0.alike (hN.kept hS.2.1)
  have h : ∀ w ∈ Bundle.ownAtoms own ic cls names, w.before args s' = true := vx_own hat' (vx_isRefq hU'.1) (vx_isRefq hN'.1) hU'.2.word hN'.2.word
  have hown' : s'.vm.findClass own = some m.cls := by rw [hvm]; exact hown
  have hins : (Cond.instantiable cls 6).before args s' = true := h _ (by simp [Bundle.ownAtoms])
  obtain ⟨vm₁, cX, kX, hfX, hkX, -, -, X₁, st1⟩ := Y.newCold hexec (own := own) (C := cls) (index := ik) (n := 6) hown' hk' hins hini'
    (g := F0 m pc ls rest) rfl (by rw [hb]; exact d0) (Nat.le_refl _) (Nat.le_refl _)
  generalize hT1 : (T.setVm vm₁).pushCell { cls := cX, slots := kX.instanceTypes.map defaultValue, vm := .none } = T1 at X₁ st1
  have hcat : (Value.ref T.heap.size).category = 1 := rfl
  have hcellA : T1.heap[T.heap.size]? = some (freshCell cX kX) := by rw [← hT1]; exact State.heap_pushCell_size _ _
  have d3' : decode c.code (pc + 3) = .ok (.dup, 1) := by rw [hb]; exact d3
  have d4' : decode c.code (pc + 4) = .ok (.ldc is, 2) := by rw [hb]; exact d4
  have hstr' : vk_R own is text sa s' := vk_R.warm hW0 hstr
  obtain ⟨V, ce, L, Z, hL, hlt, hcl9, hvm9, st⟩ := vx_ctorMadeS X₁ hexec htr (own := own) (cls := cls) (names := names) (ic := ic) hown' hcls hnames h (fun x hx => nomatch hx) hfX hkX hcellA (by rw [hhp]; exact Nat.le_refl _) (msg := .ref sa) rfl
    (g := { method := m, pc := pc + 6, locals := ls, stack := .ref sa :: .ref T.heap.size :: .ref T.heap.size :: rest, locked := none }) rfl hsize (rest := rest) rfl
    (by rw [hb]; exact d6) hRframes (by simp only [List.map_cons, List.sum_cons, hcat]; omega)
  have Z0 := Stand.forget (locs := []) Z (fun y hy => by rw [hL y hy, hhp]; exact Nat.le_refl _)
  obtain ⟨f1, f2⟩ := vx_frame Z0.same
  rw [hhp] at f1 f2
  have hcid : ce.cls = D.1 ci := by
    rw [hcl9]
    have h1 := (hK.1 ci _ hc).2.1
    rw [hvm] at hfX
    exact Option.some.inj (hfX.symm.trans h1)
  have hh : (V.setCell T.heap.size ce).heap[T.heap.size]? = some ce := heapAt_setCell_self (s := V) ce hlt
  subst hA'
  have X5 := vx_back9 X Y Z0
  have X6 : Stand p l e R s m args below meth c (V.setCell T.heap.size ce) locs (cells + 1) (slots + 6) := { X5 with same := X5.same.mono (by omega) (by omega) }
  have hk9 : ∀ (k : Nat) (x : Nat × va_E), ws[k]? = some x → (V.setCell T.heap.size ce).heap[x.1]? = T.heap[x.1]? := fun k x hx => f2 x.1 ((hP k x hx).lt) (fun z hz => nomatch hz)
  obtain ⟨t, a1, b1⟩ := kk T.heap.size (V.setCell T.heap.size ce).heap ((hP.kept hk9).app (fun k x hx => by
      have hz : k < 1 := (List.getElem?_eq_some_iff.mp hx).1
      rw [show k = 0 by omega] at hx
      cases hx
      exact ⟨_, hc, ce, hh, hcid, hvm9, fun k hk => absurd hk (Nat.not_lt_zero k)⟩)) (hD.push hP rfl (hA _ hS.1)) ⟨Nat.le_trans hS.1 f1, fun q h1 h2 => (f2 q (Nat.lt_of_lt_of_le h1 hS.1) (fun z hz => nomatch hz)).trans (hS.2.1 q h1 h2), hS.2.2⟩ _ rfl X6
  refine ⟨t, st1 _ ?_, b1⟩
  show Steps p.tables e below (T1.setTop { method := m, pc := pc + 3, locals := ls, stack := .ref T.heap.size :: rest, locked := none }) _
  jvm_step X₁.here [X₁.here.top, hexec, d3', Value.category]
  exact X₁.ldcString hexec (own := own) (text := text) (index := is) (a := sa) hown' hstr'.1 hstr'.2
    (g := { method := m, pc := pc + 4, locals := ls, stack := .ref T.heap.size :: .ref T.heap.size :: rest, locked := none }) rfl d4' _ (st _ a1)
/-- 'new E()' that isn't thrown at once: the object goes on the stack -/
theorem vx_make0 {cc : ByteArray} {pc : Nat} (hexec : p.tables.exec = Jvm.exec) (hb : c.code = cc) (hl : l.stackTraces = false) {own cls : String} {names : List String} {ik ic ci : Nat} {A : Nat → Prop} {T0 : u_T}
    (hown : s.vm.findClass own = some m.cls) (hcls : Bundle.fit cls = true) (hnames : ∀ n ∈ names, Bundle.fit n = true)
    (hk : (Cond.classLink own ik cls).before args s = true) (hini : (Cond.initialized cls).before args s = true) (hat : ∀ w ∈ vx_at0 own ic cls names, w.before args s = true)
    (hgood : ∀ w ∈ Cond.classLink own ik cls :: Cond.initialized cls :: vx_at0 own ic cls names, vx_ot w = true)
    (hU : vx_Zq Bundle.tN "UNASSIGNED_STACK" Bundle.steD A s s.heap) (hN : vx_Zq Bundle.tN "SUPPRESSED_SENTINEL" Bundle.listD A s s.heap) (hS : va_S A s.heap H locs) (hsize : ls.size = c.maxLocals)
    (d0 : decode cc pc = .ok (.new ik, 3)) (d3 : decode cc (pc + 3) = .ok (.dup, 1)) (d4 : decode cc (pc + 4) = .ok (.invokespecial ic, 3))
    (hK : va_K D cl tys s) (hP : va_P D cl ws H) (hD : va_D A ws) (hA : ∀ q, s.heap.size ≤ q → A q) (hc : cl[ci]? = some (cls, T0, 0))
    (hRframes : names.length + 3 < R.frames) (hRlocals : (rest.map fun v => v.category).sum + (13 * (names.length + 1) + 42) ≤ R.locals) (hRcells : cells + 1 ≤ R.cells) (hRslots : slots + 6 ≤ R.slots)
    (kk : ∀ (q : Nat) (H1 : Heap), va_P D cl (ws ++ [(q, .inr (ci, []))]) H1 → va_D A (ws ++ [(q, .inr (ci, []))]) → va_S A s.heap H1 locs → W p l e R s m args below meth c H1 locs (cells + 1) (slots + 6) Q (F0 m (pc + 7) ls (.ref q :: rest))) :
    W p l e R s m args below meth c H locs cells slots Q (F0 m pc ls rest) := by
  intro T hT X
  subst hT
  have htr : e.platform.stackTraces = false := (show e.platform.stackTraces = l.stackTraces by rw [X.admits.platform]).trans hl
  have Y := vx_rebase X (R' := { frames := R.frames, locals := R.locals, cells := 1, slots := 6 }) (Nat.le_refl _) (Nat.le_refl _) hRcells hRslots
  obtain ⟨s', hA'⟩ : ∃ z, z = (T.setVm s.vm).setFrames (.invoking m args :: below) := ⟨_, rfl⟩
  rw [← hA'] at Y
  have hvm : s'.vm = s.vm := by rw [hA']; rfl
  have hhp : s'.heap = T.heap := by rw [hA']; rfl
  have hW0 : s.WarmedH s'.vm := by rw [hvm]; exact State.WarmedH.refl s
  have hat' : ∀ w ∈ vx_at0 own ic cls names, w.before args s' = true := fun w hw => vx_ot_at hW0 hvm.symm (hgood w (List.mem_cons_of_mem _ (List.mem_cons_of_mem _ hw))) (hat w hw)
  have hk' : (Cond.classLink own ik cls).before args s' = true := vx_ot_at hW0 hvm.symm (hgood _ List.mem_cons_self) hk
  have hini' : (Cond.initialized cls).before args s' = true := vx_ot_at hW0 hvm.symm (hgood _ (List.mem_cons_of_mem _ List.mem_cons_self)) hini
  have hU' : vx_Zq Bundle.tN "UNASSIGNED_STACK" Bundle.steD A s' s'.heap := by rw [hhp]; exact vx_Zq.moved hW0.alike (hU.kept hS.2.1)
  have hN' : vx_Zq Bundle.tN "SUPPRESSED_SENTINEL" Bundle.listD A s' s'.heap := by rw [hhp]; exact vx_Zq.moved hW0.alike (hN.kept hS.2.1)
  have h : ∀ w ∈ Bundle.ownAtoms0 own ic cls names, w.before args s' = true := vx_own hat' (vx_isRefq hU'.1) (vx_isRefq hN'.1) hU'.2.word hN'.2.word
  have hown' : s'.vm.findClass own = some m.cls := by rw [hvm]; exact hown
  have hins : (Cond.instantiable cls 6).before args s' = true := h _ (by simp [Bundle.ownAtoms0])
  obtain ⟨vm₁, cX, kX, hfX, hkX, -, -, X₁, st1⟩ := Y.newCold hexec (own := own) (C := cls) (index := ik) (n := 6) hown' hk' hins hini'
    (g := F0 m pc ls rest) rfl (by rw [hb]; exact d0) (Nat.le_refl _) (Nat.le_refl _)
  generalize hT1 : (T.setVm vm₁).pushCell { cls := cX, slots := kX.instanceTypes.map defaultValue, vm := .none } = T1 at X₁ st1
  have hcat : (Value.ref T.heap.size).category = 1 := rfl
  have hcellA : T1.heap[T.heap.size]? = some (freshCell cX kX) := by rw [← hT1]; exact State.heap_pushCell_size _ _
  have d3' : decode c.code (pc + 3) = .ok (.dup, 1) := by rw [hb]; exact d3
  obtain ⟨V, ce, L, Z, hL, hlt, hcl9, hvm9, st⟩ := vx_ctorMade0 X₁ hexec htr (own := own) (cls := cls) (names := names) (ic := ic) hown' hcls hnames h (fun x hx => nomatch hx) hfX hkX hcellA (by rw [hhp]; exact Nat.le_refl _)
    (g := { method := m, pc := pc + 4, locals := ls, stack := .ref T.heap.size :: .ref T.heap.size :: rest, locked := none }) rfl hsize (rest := rest) rfl
    (by rw [hb]; exact d4) hRframes (by simp only [List.map_cons, List.sum_cons, hcat]; omega)
  have Z0 := Stand.forget (locs := []) Z (fun y hy => by rw [hL y hy, hhp]; exact Nat.le_refl _)
  obtain ⟨f1, f2⟩ := vx_frame Z0.same
  rw [hhp] at f1 f2
  have hcid : ce.cls = D.1 ci := by
    rw [hcl9]
    have h1 := (hK.1 ci _ hc).2.1
    rw [hvm] at hfX
    exact Option.some.inj (hfX.symm.trans h1)
  have hh : (V.setCell T.heap.size ce).heap[T.heap.size]? = some ce := heapAt_setCell_self (s := V) ce hlt
  subst hA'
  have X5 := vx_back9 X Y Z0
  have X6 : Stand p l e R s m args below meth c (V.setCell T.heap.size ce) locs (cells + 1) (slots + 6) := { X5 with same := X5.same.mono (by omega) (by omega) }
  have hk9 : ∀ (k : Nat) (x : Nat × va_E), ws[k]? = some x → (V.setCell T.heap.size ce).heap[x.1]? = T.heap[x.1]? := fun k x hx => f2 x.1 ((hP k x hx).lt) (fun z hz => nomatch hz)
  obtain ⟨t, a1, b1⟩ := kk T.heap.size (V.setCell T.heap.size ce).heap ((hP.kept hk9).app (fun k x hx => by
      have hz : k < 1 := (List.getElem?_eq_some_iff.mp hx).1
      rw [show k = 0 by omega] at hx
      cases hx
      exact ⟨_, hc, ce, hh, hcid, hvm9, fun k hk => absurd hk (Nat.not_lt_zero k)⟩)) (hD.push hP rfl (hA _ hS.1)) ⟨Nat.le_trans hS.1 f1, fun q h1 h2 => (f2 q (Nat.lt_of_lt_of_le h1 hS.1) (fun z hz => nomatch hz)).trans (hS.2.1 q h1 h2), hS.2.2⟩ _ rfl X6
  refine ⟨t, st1 _ ?_, b1⟩
  show Steps p.tables e below (T1.setTop { method := m, pc := pc + 3, locals := ls, stack := .ref T.heap.size :: rest, locked := none }) _
  jvm_step X₁.here [X₁.here.top, hexec, d3', Value.category]
  exact st _ a1
/-- 'throw x' of an object that was made before -/
theorem vx_athrow {cc : ByteArray} {pc : Nat} (hexec : p.tables.exec = Jvm.exec) (hb : c.code = cc) {q : Addr} (hdg : decode cc pc = .ok (.athrow, 1)) (k : vx_W p l e R s m args below meth c H locs cells slots Q (F0 m pc ls rest) q) : W p l e R s m args below meth c H locs cells slots Q (F0 m pc ls (.ref q :: rest)) := by
  intro T hT X
  obtain ⟨t, st, hq⟩ := k T hT X
  refine ⟨t, ?_, hq⟩
  have hdg' : decode c.code pc = .ok (.athrow, 1) := by rw [hb]; exact hdg
  jvm_step X.here [X.here.top, hexec, hdg', athrow.wp_sem]
  exact st
end VXK2
/-! ===== END ===== -/
/-! ===== BEGIN a constructor that throws (launches without stack traces) ===== -/
section VXIA
variable {p : Program} {l : Launch} {e : Env} {R : Room} {s : State} {m : MethodId} {args : Array Value} {below : List Frame} {meth : Method} {c : Code} {T : State} {locs : List Loc} {cells slots : Nat}
theorem vx_callI (X : Stand p l e R s m args below meth c T locs cells slots) (hexec : p.tables.exec = Jvm.exec) {own : String} {index : Nat} {y : MethodName} {bytes : ByteArray} {maxL : Nat}
    (hown : s.vm.findClass own = some m.cls) (hy1 : y.name = "<init>") (hlink : (Cond.methodLink own index y).before args s = true) (hinst : (Cond.instanceMethod y).before args s = true)
    (hcode : (Cond.code y bytes maxL none).before args s = true) (hy : y.cls ≠ "java/lang/invoke/MethodHandle" ∧ y.cls ≠ "java/lang/invoke/VarHandle")
    {W9 : Nat} {Pre : Pt → Array Value → Prop} {Post : Pt → Array Value → Option Value → Pt → Prop} {PostX : Pt → Array Value → Addr → Pt → Prop} (hK : vx_Back l R p e below s args y 3 W9 Pre Post PostX)
    {g : JFrame} (hg : g.method = m) (hsize : g.locals.size = c.maxLocals) {a : Addr} {argsL rest : List Value} (hlen : ∀ sig, parseMethodDescriptor y.desc = some sig → argsL.length = sig.parameters.length)
    (hstack : g.stack = argsL.reverse ++ .ref a :: rest) (hW : 2 * g.monitorRoom + (rest.map fun v => v.category).sum ≤ W9) (hdg : decode c.code g.pc = .ok (.invokespecial index, 3))
    (hpre : ∀ vm₁, s.WarmedH vm₁ → Pre ⟨T.setVm vm₁, locs, cells, slots⟩ (Value.ref a :: argsL).toArray) :
    (∃ (v : Option Value) (vm₁ : Vm) (B : Pt), s.WarmedH vm₁ ∧ Stand p l e R s m args below meth c B.U B.locs B.cells B.slots ∧ Post ⟨T.setVm vm₁, locs, cells, slots⟩ (Value.ref a :: argsL).toArray v B ∧
      ∀ target, Steps p.tables e below (B.U.setTop { g with pc := g.pc + 3, stack := v.toList ++ rest }) target → Steps p.tables e below (T.setTop g) target) ∨
    (∃ (q : Addr) (vm₁ : Vm) (B : Pt), s.WarmedH vm₁ ∧ Stand p l e R s m args below meth c B.U B.locs B.cells B.slots ∧ PostX ⟨T.setVm vm₁, locs, cells, slots⟩ (Value.ref a :: argsL).toArray q B ∧
      Steps p.tables e below (T.setTop g) ((B.U.setTop { g with stack := rest }).pushFrame (.throwing q))) := by
  subst hg
  have hpl : e.platform.magicAccessors = ({} : Platform).magicAccessors := by rw [X.admits.platform]
  obtain ⟨mk, methM, cM, kP, vm₁, hnamed, hmethM, hcodeM, -, hlocalsM, -, hkP, -, hW₁, hstep₁⟩ := Steps.initColdArgs (e := e) X.here hexec X.warmed hpl hown hy1 hy hlink hinst hcode (f := g) rfl hlen hstack hdg
  have X₁ := X.noted hW₁
  rcases hK g.method meth c ⟨T.setVm vm₁, locs, cells, slots⟩ { g with stack := rest } (.invokespecial index) mk (Value.ref a :: argsL).toArray X₁ rfl hsize hdg hW (X₁.named hnamed) (hpre vm₁ X₁.warmed) with ⟨v, B, X', hpost, hsteps⟩ | ⟨q, B, X', hpost, hsteps⟩
  · exact Or.inl ⟨v, vm₁, B, X₁.warmed, X', hpost, fun target h => hstep₁ _ fun acts => by rw [doInvoke_state]; exact hsteps.trans h⟩
  · exact Or.inr ⟨q, vm₁, B, X₁.warmed, X', hpost, hstep₁ _ fun acts => by rw [doInvoke_state]; exact hsteps⟩
end VXIA
section VXIB
variable {p : Program} {l : Launch} {e : Env} {R : Room} {s : State} {m : MethodId} {args : Array Value} {below : List Frame} {meth : Method} {c : Code} {H : Heap} {locs : List Loc} {cells slots : Nat}
variable {y : MethodName} {bytes cc : ByteArray} {maxL nL mc ms n index : Nat} {ret : Option FieldType} {ws : List Cond} {rm : Room} {Pc : Array Value → State → Prop} {Qc : Array Value → State → Outcome → State → Prop} {XC : String → State → State → Prop} {free : Addr → Prop} {Ts : List Cond} {own C : String} {b : Addr} {As rest : List Value} {g : JFrame}
theorem vx_runI (S : CallFix p m c cc nL s args Ts own) (hM : vx_Met l y ws rm Pc Qc XC mc ms free) (cw : CallB R s args own index y bytes maxL none ws rm mc ms n ∧ y.name = "<init>" ∧ (Cond.instanceMethod y).before args s = true) (hp : PreS s H Pc (.ref b :: As))
    (hg : g.method = m) (hn : As.length = n) (hsize : g.locals.size = nL) (hstack : g.stack = As.reverse ++ .ref b :: rest) (hW : 2 * g.monitorRoom + (rest.map fun v => v.category).sum ≤ 8) (hdg : decode cc g.pc = .ok (.invokespecial index, 3)) (hf : cells + mc ≤ R.cells ∧ slots + ms ≤ R.slots) :
    vx_Run p l e R s m args below meth c H locs cells slots mc ms g rest (Qc (Value.ref b :: As).toArray) XC free := by
  have hK : vx_Back l R p e below s args y 3 8 (PreOf R mc ms Pc) (PostOf Qc mc ms free) (vx_Post XC mc ms free) := vx_callBack cw.1 hM hp.1
  obtain ⟨⟨-, -, -, -, -, -, hcode, -, hy, hlen, hl⟩, hy1, hin⟩ := cw
  obtain ⟨hx, hb, hml, ho, -⟩ := S
  have hPc := hp.2
  intro T hT X
  rcases vx_callI X hx (bytes := bytes) (maxL := maxL) ho hy1 hl hin hcode hy hK hg (hsize.trans hml.symm) (a := b) (argsL := As) (rest := rest) (fun sig h => hn.trans (hlen sig h)) hstack hW (by rw [hb]; exact hdg)
    (fun vm₁ hW₁ => ⟨hf.1, hf.2, hPc (T.setVm vm₁) hT hW₁⟩) with ⟨v, vm₁, ⟨U', l2, c2, s2⟩, hW₁, X', ⟨g', mk, t, L, e1, e2, hq, h1, hL, h2, h3⟩, st⟩ | ⟨q, vm₁, ⟨U', l2, c2, s2⟩, hW₁, X', ⟨g', mk, t, L, E, ce, e1, e2, hq, hce, hcv, hcl, h1, hL, h2, h3⟩, st⟩
  · dsimp only [Pt.U, Pt.locs, Pt.cells, Pt.slots] at X' e1 e2 h1 h2 h3 st
    subst h1; subst h2; subst h3
    exact Or.inl ⟨v, (T.setVm vm₁).calling g' mk (Value.ref b :: As).toArray, t, U', L, hT, X', hL, e1, e2, hq, st⟩
  · dsimp only [Pt.U, Pt.locs, Pt.cells, Pt.slots] at X' e1 e2 h1 h2 h3 st hcl
    subst h1; subst h2; subst h3
    exact Or.inr ⟨q, (T.setVm vm₁).calling g' mk (Value.ref b :: As).toArray, t, U', L, E, ce, hT, X', hL, e1, e2, hq, hce, hcv, vx_cls hW₁ hcl, st⟩
end VXIB
/-! ===== END ===== -/
/-! ===== BEGIN a private constructor of a nest mate that throws ===== -/
section VXIC
variable {p : Program} {l : Launch} {e : Env} {R : Room} {s : State} {m : MethodId} {args : Array Value} {below : List Frame} {meth : Method} {c : Code} {T : State} {locs : List Loc} {cells slots : Nat}
theorem vx_callIN (X : Stand p l e R s m args below meth c T locs cells slots) (hexec : p.tables.exec = Jvm.exec) {own : String} {index : Nat} {host : String} {y : MethodName} {bytes : ByteArray} {maxL : Nat}
    (hown : s.vm.findClass own = some m.cls) (hy1 : y.name = "<init>") (hlink : (Cond.methodLinkNest own index y host).before args s = true) (hinst : (Cond.instanceMethod y).before args s = true)
    (hcode : (Cond.code y bytes maxL none).before args s = true) (hy : y.cls ≠ "java/lang/invoke/MethodHandle" ∧ y.cls ≠ "java/lang/invoke/VarHandle")
    {W9 : Nat} {Pre : Pt → Array Value → Prop} {Post : Pt → Array Value → Option Value → Pt → Prop} {PostX : Pt → Array Value → Addr → Pt → Prop} (hK : vx_Back l R p e below s args y 3 W9 Pre Post PostX)
    {g : JFrame} (hg : g.method = m) (hsize : g.locals.size = c.maxLocals) {a : Addr} {argsL rest : List Value} (hlen : ∀ sig, parseMethodDescriptor y.desc = some sig → argsL.length = sig.parameters.length)
    (hstack : g.stack = argsL.reverse ++ .ref a :: rest) (hW : 2 * g.monitorRoom + (rest.map fun v => v.category).sum ≤ W9) (hdg : decode c.code g.pc = .ok (.invokespecial index, 3))
    (hpre : ∀ vm₁, s.WarmedH vm₁ → Pre ⟨T.setVm vm₁, locs, cells, slots⟩ (Value.ref a :: argsL).toArray) :
    (∃ (v : Option Value) (vm₁ : Vm) (B : Pt), s.WarmedH vm₁ ∧ Stand p l e R s m args below meth c B.U B.locs B.cells B.slots ∧ Post ⟨T.setVm vm₁, locs, cells, slots⟩ (Value.ref a :: argsL).toArray v B ∧
      ∀ target, Steps p.tables e below (B.U.setTop { g with pc := g.pc + 3, stack := v.toList ++ rest }) target → Steps p.tables e below (T.setTop g) target) ∨
    (∃ (q : Addr) (vm₁ : Vm) (B : Pt), s.WarmedH vm₁ ∧ Stand p l e R s m args below meth c B.U B.locs B.cells B.slots ∧ PostX ⟨T.setVm vm₁, locs, cells, slots⟩ (Value.ref a :: argsL).toArray q B ∧
      Steps p.tables e below (T.setTop g) ((B.U.setTop { g with stack := rest }).pushFrame (.throwing q))) := by
  subst hg
  have hpl : e.platform.magicAccessors = ({} : Platform).magicAccessors := by rw [X.admits.platform]
  obtain ⟨mk, methM, cM, kP, vm₁, hnamed, hmethM, hcodeM, -, hlocalsM, -, hkP, -, hW₁, hstep₁⟩ := Steps.initColdArgsNest (e := e) X.here hexec X.warmed hpl hown hy1 hy hlink hinst hcode (f := g) rfl hlen hstack hdg
  have X₁ := X.noted hW₁
  rcases hK g.method meth c ⟨T.setVm vm₁, locs, cells, slots⟩ { g with stack := rest } (.invokespecial index) mk (Value.ref a :: argsL).toArray X₁ rfl hsize hdg hW (X₁.named hnamed) (hpre vm₁ X₁.warmed) with ⟨v, B, X', hpost, hsteps⟩ | ⟨q, B, X', hpost, hsteps⟩
  · exact Or.inl ⟨v, vm₁, B, X₁.warmed, X', hpost, fun target h => hstep₁ _ fun acts => by rw [doInvoke_state]; exact hsteps.trans h⟩
  · exact Or.inr ⟨q, vm₁, B, X₁.warmed, X', hpost, hstep₁ _ fun acts => by rw [doInvoke_state]; exact hsteps⟩
end VXIC
section VXID
variable {p : Program} {l : Launch} {e : Env} {R : Room} {s : State} {m : MethodId} {args : Array Value} {below : List Frame} {meth : Method} {c : Code} {H : Heap} {locs : List Loc} {cells slots : Nat}
theorem vx_runIN {y : MethodName} {bytes cc : ByteArray} {maxL nL mc ms n index : Nat} {ws : List Cond} {rm : Room} {Pc : Array Value → State → Prop} {Qc : Array Value → State → Outcome → State → Prop} {XC : String → State → State → Prop} {free : Addr → Prop} {Ts : List Cond} {own host : String} {b : Addr} {As rest : List Value} {g : JFrame}
    (S : CallFix p m c cc nL s args Ts own) (hM : vx_Met l y ws rm Pc Qc XC mc ms free) (cw : va_CN R s args own index y host bytes maxL none ws rm mc ms n ∧ y.name = "<init>" ∧ (Cond.instanceMethod y).before args s = true) (hp : PreS s H Pc (.ref b :: As))
    (hg : g.method = m) (hn : As.length = n) (hsize : g.locals.size = nL) (hstack : g.stack = As.reverse ++ .ref b :: rest) (hW : 2 * g.monitorRoom + (rest.map fun v => v.category).sum ≤ 8) (hdg : decode cc g.pc = .ok (.invokespecial index, 3)) (hf : cells + mc ≤ R.cells ∧ slots + ms ≤ R.slots) :
    vx_Run p l e R s m args below meth c H locs cells slots mc ms g rest (Qc (Value.ref b :: As).toArray) XC free := by
  obtain ⟨⟨⟨hrc, hrs, hfr, hlo, hws, hcw⟩, hcode, hini, hy, hlen, hl⟩, hx1, hx2⟩ := cw
  have hK : vx_Back l R p e below s args y 3 8 (PreOf R mc ms Pc) (PostOf Qc mc ms free) (vx_Post XC mc ms free) := vx_back (bytes := bytes) (maxL := maxL) (ret := none) hM hp.1 hrc hrs hfr hlo hws hcw (fun a' U hW => word_at hW (Or.inl (by first | rfl | simp [Cond.onTables, Cond.keeps, Cond.steady])) hini)
  obtain ⟨hx, hb, hml, ho, -⟩ := S
  have hPc := hp.2
  intro T hT X
  rcases vx_callIN X hx (bytes := bytes) (maxL := maxL) ho hx1 hl hx2 hcode hy hK hg (hsize.trans hml.symm) (a := b) (argsL := As) (rest := rest) (fun sig h => hn.trans (hlen sig h)) hstack hW (by rw [hb]; exact hdg)
    (fun vm₁ hW₁ => ⟨hf.1, hf.2, hPc (T.setVm vm₁) hT hW₁⟩) with ⟨v, vm₁, ⟨U', l2, c2, s2⟩, hW₁, X', ⟨g', mk, t, L, e1, e2, hq, h1, hL, h2, h3⟩, st⟩ | ⟨q, vm₁, ⟨U', l2, c2, s2⟩, hW₁, X', ⟨g', mk, t, L, E, ce, e1, e2, hq, hce, hcv, hcl, h1, hL, h2, h3⟩, st⟩
  · dsimp only [Pt.U, Pt.locs, Pt.cells, Pt.slots] at X' e1 e2 h1 h2 h3 st
    subst h1; subst h2; subst h3
    exact Or.inl ⟨v, (T.setVm vm₁).calling g' mk (Value.ref b :: As).toArray, t, U', L, hT, X', hL, e1, e2, hq, st⟩
  · dsimp only [Pt.U, Pt.locs, Pt.cells, Pt.slots] at X' e1 e2 h1 h2 h3 st hcl
    subst h1; subst h2; subst h3
    exact Or.inr ⟨q, (T.setVm vm₁).calling g' mk (Value.ref b :: As).toArray, t, U', L, E, ce, hT, X', hL, e1, e2, hq, hce, hcv, vx_cls hW₁ hcl, st⟩
end VXID
/-! ===== END ===== -/
/-! ===== BEGIN a method of a class above, found by the receiver, that may throw (follows va_callVU, va_runU of this kit) ===== -/
section
variable {p : Program} {l : Launch} {e : Env} {R : Room} {s : State} {m : MethodId} {args : Array Value} {below : List Frame} {meth : Method} {c : Code} {H : Heap} {locs : List Loc} {cells slots : Nat}
theorem vx_callVU {T : State} {locs : List Loc} {cells slots : Nat} (X : Stand p l e R s m args below meth c T locs cells slots) (hexec : p.tables.exec = Jvm.exec) {own C owner : String} {index : Nat} {x y : MethodName} {bytes : ByteArray} {maxL : Nat} {ret : Option FieldType}
    (hown : s.vm.findClass own = some m.cls) (hlink : (Cond.methodLink own index x).before args s = true) (hsame : (Cond.sameMethod x.cls owner x.name x.desc).before args s = true)
    (hd0 : va_Decl s ⟨owner, x.name, x.desc⟩) (howner : owner ≠ "java/lang/invoke/MethodHandle" ∧ owner ≠ "java/lang/invoke/VarHandle")
    (hsel : (Cond.selects C x y).before args s = true) (hinst : (Cond.instanceMethod y).before args s = true) (hcode : (Cond.code y bytes maxL ret).before args s = true)
    {W : Nat} {Pre : Pt → Array Value → Prop} {Post : Pt → Array Value → Option Value → Pt → Prop} {PostX : Pt → Array Value → Addr → Pt → Prop} (hK : vx_Back l R p e below s args y 3 W Pre Post PostX)
    {b : Addr} {cellB : Cell} (hcell : T.heap[b]? = some cellB) (hobj : cellB.vm.isStatics = false) (hcls : s.vm.findClass C = some cellB.cls)
    {g : JFrame} (hg : g.method = m) (hsize : g.locals.size = c.maxLocals) {argsL rest : List Value} (hlen : ∀ sig, parseMethodDescriptor x.desc = some sig → argsL.length = sig.parameters.length)
    (hstack : g.stack = argsL.reverse ++ .ref b :: rest) (hW : 2 * g.monitorRoom + (rest.map fun v => v.category).sum ≤ W) (hdg : decode c.code g.pc = .ok (.invokevirtual index, 3))
    (hpre : ∀ vm₁, s.WarmedH vm₁ → Pre ⟨T.setVm vm₁, locs, cells, slots⟩ (Value.ref b :: argsL).toArray) :
    (∃ (v : Option Value) (vm₁ : Vm) (B : Pt), s.WarmedH vm₁ ∧ Stand p l e R s m args below meth c B.U B.locs B.cells B.slots ∧ Post ⟨T.setVm vm₁, locs, cells, slots⟩ (Value.ref b :: argsL).toArray v B ∧
      ∀ target, Steps p.tables e below (B.U.setTop { g with pc := g.pc + 3, stack := v.toList ++ rest }) target → Steps p.tables e below (T.setTop g) target) ∨
    (∃ (q : Addr) (vm₁ : Vm) (B : Pt), s.WarmedH vm₁ ∧ Stand p l e R s m args below meth c B.U B.locs B.cells B.slots ∧ PostX ⟨T.setVm vm₁, locs, cells, slots⟩ (Value.ref b :: argsL).toArray q B ∧
      Steps p.tables e below (T.setTop g) ((B.U.setTop { g with stack := rest }).pushFrame (.throwing q))) := by
  obtain ⟨r0, r, hn, hrm, hstR, hsigR⟩ := hd0
  obtain ⟨cn, ck, r1, hcn, hck, hni, hf, hn1⟩ := Cond.sameMethod_found hsame
  cases hn.symm.trans hn1
  obtain ⟨mk, methM, hnamed, hmethM, -, habM⟩ := Cond.instanceMethod_spec hinst
  obtain ⟨c2, r2, m2, q1, q2, q3, q4, kP, hkP, hkPi⟩ := Cond.selects_spec hsel
  cases hcls.symm.trans q1
  cases hf.symm.trans q2
  cases hnamed.symm.trans q3
  have hselP : selectMethod e.platform s.vm cellB.cls r0 = .method mk := by rw [Launch.admits_selectMethod X.admits]; exact q4
  obtain ⟨vm₁, X₁, hstep₁⟩ := X.invokevirtualUp hexec hown hlink hsame howner hn hrm hstR (a := b) (cell := cellB) hcell
    (fun z h => by rw [h] at hobj; cases hobj) hselP hmethM habM hkP hkPi (g := g) hg (argsL := argsL) (rest := rest) (hlen _ hsigR) hstack hdg
  rcases hK m meth c ⟨T.setVm vm₁, locs, cells, slots⟩ { g with stack := rest } (.invokevirtual index) mk (Value.ref b :: argsL).toArray X₁ hg hsize hdg hW (X₁.named hnamed) (hpre vm₁ X₁.warmed) with ⟨v, B, X', hpost, hsteps⟩ | ⟨q, B, X', hpost, hsteps⟩
  · exact Or.inl ⟨v, vm₁, B, X₁.warmed, X', hpost, fun target h => hstep₁ _ fun acts => by rw [doInvoke_state]; exact hsteps.trans h⟩
  · exact Or.inr ⟨q, vm₁, B, X₁.warmed, X', hpost, hstep₁ _ fun acts => by rw [doInvoke_state]; exact hsteps⟩
theorem vx_runU {x y : MethodName} {bytes cc : ByteArray} {maxL nL mc ms n index : Nat} {ret : Option FieldType} {ws : List Cond} {rm : Room} {Pc : Array Value → State → Prop} {Qc : Array Value → State → Outcome → State → Prop} {XC : String → State → State → Prop} {free : Addr → Prop} {Ts : List Cond} {own C owner : String} {b : Addr} {As rest : List Value} {g : JFrame}
    (S : CallFix p m c cc nL s args Ts own) (hM : vx_Met l y ws rm Pc Qc XC mc ms free) (cw : va_CU R s args own C owner index x y bytes maxL ret ws rm mc ms n) (hp : PreV s H C b Pc As)
    (hg : g.method = m) (hn : As.length = n) (hsize : g.locals.size = nL) (hstack : g.stack = As.reverse ++ .ref b :: rest) (hW : 2 * g.monitorRoom + (rest.map fun v => v.category).sum ≤ 8) (hdg : decode cc g.pc = .ok (.invokevirtual index, 3)) (hf : cells + mc ≤ R.cells ∧ slots + ms ≤ R.slots) :
    vx_Run p l e R s m args below meth c H locs cells slots mc ms g rest (Qc (Value.ref b :: As).toArray) XC free := by
  obtain ⟨hrc, hrs, hfr, hlo, hws, hcw⟩ := cw.back
  have hini := cw.init
  have hK : vx_Back l R p e below s args y 3 8 (PreOf R mc ms Pc) (PostOf Qc mc ms free) (vx_Post XC mc ms free) := vx_back (bytes := bytes) (maxL := maxL) (ret := ret) hM hp.1 hrc hrs hfr hlo hws hcw (fun a' U hW => word_at hW (Or.inl (by first | rfl | simp [Cond.onTables, Cond.keeps, Cond.steady])) hini)
  obtain ⟨hx, hb, hml, ho, -⟩ := S
  obtain ⟨-, ⟨cellB, hcB, hoB, hclB⟩, hPc⟩ := hp
  intro T hT X
  rcases vx_callVU X hx (C := C) (owner := owner) (bytes := bytes) (maxL := maxL) (ret := ret) ho cw.link cw.same cw.decl cw.notMH cw.sel cw.inst cw.code hK (by rw [hT]; exact hcB) hoB hclB hg (hsize.trans hml.symm) (argsL := As) (rest := rest) (fun sig h => hn.trans (cw.len sig h)) hstack hW (by rw [hb]; exact hdg)
    (fun vm₁ hW₁ => ⟨hf.1, hf.2, hPc (T.setVm vm₁) hT hW₁⟩) with ⟨v, vm₁, ⟨U', l2, c2, s2⟩, hW₁, X', ⟨g', mk, t, L, e1, e2, hq, h1, hL, h2, h3⟩, st⟩ | ⟨q, vm₁, ⟨U', l2, c2, s2⟩, hW₁, X', ⟨g', mk, t, L, E, ce, e1, e2, hq, hce, hcv, hcl, h1, hL, h2, h3⟩, st⟩
  · dsimp only [Pt.U, Pt.locs, Pt.cells, Pt.slots] at X' e1 e2 h1 h2 h3 st
    subst h1; subst h2; subst h3
    exact Or.inl ⟨v, (T.setVm vm₁).calling g' mk (Value.ref b :: As).toArray, t, U', L, hT, X', hL, e1, e2, hq, st⟩
  · dsimp only [Pt.U, Pt.locs, Pt.cells, Pt.slots] at X' e1 e2 h1 h2 h3 st hcl
    subst h1; subst h2; subst h3
    exact Or.inr ⟨q, (T.setVm vm₁).calling g' mk (Value.ref b :: As).toArray, t, U', L, E, ce, hT, X', hL, e1, e2, hq, hce, hcv, vx_cls hW₁ hcl, st⟩
end
/-! ===== END ===== -/
/-! ===== BEGIN super.m(..) that may throw (follows va_callSU, va_runSU) ===== -/
section
variable {p : Program} {l : Launch} {e : Env} {R : Room} {s : State} {m : MethodId} {args : Array Value} {below : List Frame} {meth : Method} {c : Code} {H : Heap} {locs : List Loc} {cells slots : Nat}
theorem vx_callSU {T : State} {locs : List Loc} {cells slots : Nat} (X : Stand p l e R s m args below meth c T locs cells slots) (hexec : p.tables.exec = Jvm.exec) {own : String} {index : Nat} {y : MethodName} {bytes : ByteArray} {maxL : Nat} {ret : Option FieldType}
    (hown : s.vm.findClass own = some m.cls) (hlink : (Cond.methodLink own index y).before args s = true) (hsame : (Cond.sameMethod y.cls y.cls y.name y.desc).before args s = true) (hsup : (Cond.superclass own y.cls).before args s = true)
    (hinst : (Cond.instanceMethod y).before args s = true) (hcode : (Cond.code y bytes maxL ret).before args s = true) (hno : y.name ≠ "<init>")
    {W : Nat} {Pre : Pt → Array Value → Prop} {Post : Pt → Array Value → Option Value → Pt → Prop} {PostX : Pt → Array Value → Addr → Pt → Prop} (hK : vx_Back l R p e below s args y 3 W Pre Post PostX)
    {b : Addr} {cellB : Cell} {kB : Class} (hcell : T.heap[b]? = some cellB) (hobj : cellB.vm.isStatics = false) (hkB : s.vm.classes[cellB.cls]? = some kB)
    {g : JFrame} (hg : g.method = m) (hsize : g.locals.size = c.maxLocals) {argsL rest : List Value} (hlen : ∀ sig, parseMethodDescriptor y.desc = some sig → argsL.length = sig.parameters.length)
    (hstack : g.stack = argsL.reverse ++ .ref b :: rest) (hW : 2 * g.monitorRoom + (rest.map fun v => v.category).sum ≤ W) (hdg : decode c.code g.pc = .ok (.invokespecial index, 3))
    (hpre : ∀ vm₁, s.WarmedH vm₁ → Pre ⟨T.setVm vm₁, locs, cells, slots⟩ (Value.ref b :: argsL).toArray) :
    (∃ (v : Option Value) (vm₁ : Vm) (B : Pt), s.WarmedH vm₁ ∧ Stand p l e R s m args below meth c B.U B.locs B.cells B.slots ∧ Post ⟨T.setVm vm₁, locs, cells, slots⟩ (Value.ref b :: argsL).toArray v B ∧
      ∀ target, Steps p.tables e below (B.U.setTop { g with pc := g.pc + 3, stack := v.toList ++ rest }) target → Steps p.tables e below (T.setTop g) target) ∨
    (∃ (q : Addr) (vm₁ : Vm) (B : Pt), s.WarmedH vm₁ ∧ Stand p l e R s m args below meth c B.U B.locs B.cells B.slots ∧ PostX ⟨T.setVm vm₁, locs, cells, slots⟩ (Value.ref b :: argsL).toArray q B ∧
      Steps p.tables e below (T.setTop g) ((B.U.setTop { g with stack := rest }).pushFrame (.throwing q))) := by
  obtain ⟨mk, methM, hnamed, hmethM, hstM, habM⟩ := Cond.instanceMethod_spec hinst
  obtain ⟨methM', cM, hmethM', -, -, -, -, -, -, hsigM⟩ := Cond.code_spec hnamed hcode
  cases hmethM.symm.trans hmethM'
  obtain ⟨ps, dk, kp, hps, hdk, hkp, hsuper, -, -, hnid⟩ := Cond.superclass_spec hown hsup
  have hn : s.methodNamed? ⟨y.cls, y.name, y.desc⟩ = some mk := hnamed
  have hpm : ps = mk.cls := Option.some.inj (hps.symm.trans (findClass_of_methodNamed hnamed))
  have hsub : s.vm.isSubclass ps mk.cls = true := by rw [hpm]; simp [Vm.isSubclass, Vm.isSubclassAux]
  obtain ⟨vm₁, X₁, hstep₁⟩ := X.invokespecialUp hexec hown hlink hsame hn hmethM hstM habM hno hdk hnid hps hsuper hsub (a := b) (cell := cellB) hcell
    (fun z h => by rw [h] at hobj; cases hobj) hkB (g := g) hg (argsL := argsL) (rest := rest) (hlen _ hsigM) hstack hdg
  rcases hK m meth c ⟨T.setVm vm₁, locs, cells, slots⟩ { g with stack := rest } (.invokespecial index) mk (Value.ref b :: argsL).toArray X₁ hg hsize hdg hW (X₁.named hnamed) (hpre vm₁ X₁.warmed) with ⟨v, B, X', hpost, hsteps⟩ | ⟨q, B, X', hpost, hsteps⟩
  · exact Or.inl ⟨v, vm₁, B, X₁.warmed, X', hpost, fun target h => hstep₁ _ (by rw [doInvoke_state]; exact hsteps.trans h)⟩
  · exact Or.inr ⟨q, vm₁, B, X₁.warmed, X', hpost, hstep₁ _ (by rw [doInvoke_state]; exact hsteps)⟩
theorem vx_runSU {y : MethodName} {bytes cc : ByteArray} {maxL nL mc ms n index : Nat} {ret : Option FieldType} {ws : List Cond} {rm : Room} {Pc : Array Value → State → Prop} {Qc : Array Value → State → Outcome → State → Prop} {XC : String → State → State → Prop} {free : Addr → Prop} {Ts : List Cond} {own C : String} {cC : ClassId} {b : Addr} {As rest : List Value} {g : JFrame}
    (hat : ClassAt s C cC) (S : CallFix p m c cc nL s args Ts own) (hM : vx_Met l y ws rm Pc Qc XC mc ms free) (cw : va_CS R s args own index y bytes maxL ret ws rm mc ms n) (hp : PreV s H C b Pc As)
    (hg : g.method = m) (hn : As.length = n) (hsize : g.locals.size = nL) (hstack : g.stack = As.reverse ++ .ref b :: rest) (hW : 2 * g.monitorRoom + (rest.map fun v => v.category).sum ≤ 8) (hdg : decode cc g.pc = .ok (.invokespecial index, 3)) (hf : cells + mc ≤ R.cells ∧ slots + ms ≤ R.slots) :
    vx_Run p l e R s m args below meth c H locs cells slots mc ms g rest (Qc (Value.ref b :: As).toArray) XC free := by
  obtain ⟨⟨hrc, hrs, hfr, hlo, hws, hcw⟩, hl1, hl2, hl3, hl4, hini, hcode, hno, hlen⟩ := cw
  have hK : vx_Back l R p e below s args y 3 8 (PreOf R mc ms Pc) (PostOf Qc mc ms free) (vx_Post XC mc ms free) := vx_back (bytes := bytes) (maxL := maxL) (ret := ret) hM hp.1 hrc hrs hfr hlo hws hcw (fun a' U hW => word_at hW (Or.inl (by first | rfl | simp [Cond.onTables, Cond.keeps, Cond.steady])) hini)
  obtain ⟨hx, hb, hml, ho, -⟩ := S
  obtain ⟨-, ⟨cellB, hcB, hoB, hclB⟩, hPc⟩ := hp
  obtain ⟨hfc, kB, hkB, -⟩ := hat
  cases hfc.symm.trans hclB
  intro T hT X
  rcases vx_callSU X hx (bytes := bytes) (maxL := maxL) (ret := ret) ho hl1 hl2 hl3 hl4 hcode hno hK (by rw [hT]; exact hcB) hoB hkB hg (hsize.trans hml.symm) (argsL := As) (rest := rest) (fun sig h => hn.trans (hlen sig h)) hstack hW (by rw [hb]; exact hdg)
    (fun vm₁ hW₁ => ⟨hf.1, hf.2, hPc (T.setVm vm₁) hT hW₁⟩) with ⟨v, vm₁, ⟨U', l2, c2, s2⟩, hW₁, X', ⟨g', mk, t, L, e1, e2, hq, h1, hL, h2, h3⟩, st⟩ | ⟨q, vm₁, ⟨U', l2, c2, s2⟩, hW₁, X', ⟨g', mk, t, L, E, ce, e1, e2, hq, hce, hcv, hcl, h1, hL, h2, h3⟩, st⟩
  · dsimp only [Pt.U, Pt.locs, Pt.cells, Pt.slots] at X' e1 e2 h1 h2 h3 st
    subst h1; subst h2; subst h3
    exact Or.inl ⟨v, (T.setVm vm₁).calling g' mk (Value.ref b :: As).toArray, t, U', L, hT, X', hL, e1, e2, hq, st⟩
  · dsimp only [Pt.U, Pt.locs, Pt.cells, Pt.slots] at X' e1 e2 h1 h2 h3 st hcl
    subst h1; subst h2; subst h3
    exact Or.inr ⟨q, (T.setVm vm₁).calling g' mk (Value.ref b :: As).toArray, t, U', L, E, ce, hT, X', hL, e1, e2, hq, hce, hcv, vx_cls hW₁ hcl, st⟩
end
/-! ===== END ===== -/
/-! ===== BEGIN a private method of a nest mate that may throw (follows va_callVN, va_callSN, va_runVN, va_runSN) ===== -/
section
variable {p : Program} {l : Launch} {e : Env} {R : Room} {s : State} {m : MethodId} {args : Array Value} {below : List Frame} {meth : Method} {c : Code} {H : Heap} {locs : List Loc} {cells slots : Nat}
variable {T : State}
theorem vx_callVN (X : Stand p l e R s m args below meth c T locs cells slots) (hexec : p.tables.exec = Jvm.exec) {own C : String} {index : Nat} {host : String} {y : MethodName} {bytes : ByteArray} {maxL : Nat} {ret : Option FieldType}
    (hown : s.vm.findClass own = some m.cls) (hlink : (Cond.methodLinkNest own index y host).before args s = true) (hinst : (Cond.instanceMethod y).before args s = true) (hsel : (Cond.selects C y y).before args s = true)
    (hcode : (Cond.code y bytes maxL ret).before args s = true) (hy : y.cls ≠ "java/lang/invoke/MethodHandle" ∧ y.cls ≠ "java/lang/invoke/VarHandle")
    {W : Nat} {Pre : Pt → Array Value → Prop} {Post : Pt → Array Value → Option Value → Pt → Prop} {PostX : Pt → Array Value → Addr → Pt → Prop} (hK : vx_Back l R p e below s args y 3 W Pre Post PostX)
    {b : Addr} {cellB : Cell} (hcell : T.heap[b]? = some cellB) (hobj : cellB.vm.isStatics = false) (hcls : s.vm.findClass C = some cellB.cls)
    {g : JFrame} (hg : g.method = m) (hsize : g.locals.size = c.maxLocals) {argsL rest : List Value} (hlen : ∀ sig, parseMethodDescriptor y.desc = some sig → argsL.length = sig.parameters.length)
    (hstack : g.stack = argsL.reverse ++ .ref b :: rest) (hW : 2 * g.monitorRoom + (rest.map fun v => v.category).sum ≤ W) (hdg : decode c.code g.pc = .ok (.invokevirtual index, 3))
    (hpre : ∀ vm₁, s.WarmedH vm₁ → Pre ⟨T.setVm vm₁, locs, cells, slots⟩ (Value.ref b :: argsL).toArray) :
    (∃ (v : Option Value) (vm₁ : Vm) (B : Pt), s.WarmedH vm₁ ∧ Stand p l e R s m args below meth c B.U B.locs B.cells B.slots ∧ Post ⟨T.setVm vm₁, locs, cells, slots⟩ (Value.ref b :: argsL).toArray v B ∧
      ∀ target, Steps p.tables e below (B.U.setTop { g with pc := g.pc + 3, stack := v.toList ++ rest }) target → Steps p.tables e below (T.setTop g) target) ∨
    (∃ (q : Addr) (vm₁ : Vm) (B : Pt), s.WarmedH vm₁ ∧ Stand p l e R s m args below meth c B.U B.locs B.cells B.slots ∧ PostX ⟨T.setVm vm₁, locs, cells, slots⟩ (Value.ref b :: argsL).toArray q B ∧
      Steps p.tables e below (T.setTop g) ((B.U.setTop { g with stack := rest }).pushFrame (.throwing q))) := by
  obtain ⟨mk, methM, hnamed, hmethM, hstM, habM⟩ := Cond.instanceMethod_spec hinst
  obtain ⟨methM', cM, hmethM', -, -, -, -, -, -, hsigM⟩ := Cond.code_spec hnamed hcode
  cases hmethM.symm.trans hmethM'
  obtain ⟨c2, r2, m2, q1, q2, q3, q4, kP, hkP, hkPi⟩ := Cond.selects_spec hsel
  cases hcls.symm.trans q1
  cases (State.methodFound?_of_named hnamed hy).symm.trans q2
  cases hnamed.symm.trans q3
  have hselP : selectMethod e.platform s.vm cellB.cls mk = .method mk := by rw [Launch.admits_selectMethod X.admits]; exact q4
  obtain ⟨vm₁, X₁, hstep₁⟩ := X.invokevirtualNest hexec hown hlink hnamed hmethM hstM hkP hkPi hy (a := b) (cell := cellB) hcell
    (fun z h => by rw [h] at hobj; cases hobj) hselP hmethM habM hkP hkPi (g := g) hg (argsL := argsL) (rest := rest) (hlen _ hsigM) hstack hdg
  rcases hK m meth c ⟨T.setVm vm₁, locs, cells, slots⟩ { g with stack := rest } (.invokevirtual index) mk (Value.ref b :: argsL).toArray X₁ hg hsize hdg hW (X₁.named hnamed) (hpre vm₁ X₁.warmed) with ⟨v, B, X', hpost, hsteps⟩ | ⟨q, B, X', hpost, hsteps⟩
  · exact Or.inl ⟨v, vm₁, B, X₁.warmed, X', hpost, fun target h => hstep₁ _ fun acts => by rw [doInvoke_state]; exact hsteps.trans h⟩
  · exact Or.inr ⟨q, vm₁, B, X₁.warmed, X', hpost, hstep₁ _ fun acts => by rw [doInvoke_state]; exact hsteps⟩
theorem vx_callSN (X : Stand p l e R s m args below meth c T locs cells slots) (hexec : p.tables.exec = Jvm.exec) {own : String} {index : Nat} {host : String} {y : MethodName} {bytes : ByteArray} {maxL : Nat} {ret : Option FieldType}
    (hown : s.vm.findClass own = some m.cls) (hlink : (Cond.methodLinkNest own index y host).before args s = true) (hstat : (Cond.static y).before args s = true) (hinit : (Cond.initialized y.cls).before args s = true)
    (hcode : (Cond.code y bytes maxL ret).before args s = true) (hy : y.cls ≠ "java/lang/invoke/MethodHandle" ∧ y.cls ≠ "java/lang/invoke/VarHandle")
    {W : Nat} {Pre : Pt → Array Value → Prop} {Post : Pt → Array Value → Option Value → Pt → Prop} {PostX : Pt → Array Value → Addr → Pt → Prop} (hK : vx_Back l R p e below s args y 3 W Pre Post PostX)
    {g : JFrame} (hg : g.method = m) (hsize : g.locals.size = c.maxLocals) {argsL rest : List Value} (hlen : ∀ sig, parseMethodDescriptor y.desc = some sig → argsL.length = sig.parameters.length)
    (hstack : g.stack = argsL.reverse ++ rest) (hW : 2 * g.monitorRoom + (rest.map fun v => v.category).sum ≤ W) (hdg : decode c.code g.pc = .ok (.invokestatic index, 3))
    (hpre : ∀ vm₁, s.WarmedH vm₁ → Pre ⟨T.setVm vm₁, locs, cells, slots⟩ argsL.toArray) :
    (∃ (v : Option Value) (vm₁ : Vm) (B : Pt), s.WarmedH vm₁ ∧ Stand p l e R s m args below meth c B.U B.locs B.cells B.slots ∧ Post ⟨T.setVm vm₁, locs, cells, slots⟩ argsL.toArray v B ∧
      ∀ target, Steps p.tables e below (B.U.setTop { g with pc := g.pc + 3, stack := v.toList ++ rest }) target → Steps p.tables e below (T.setTop g) target) ∨
    (∃ (q : Addr) (vm₁ : Vm) (B : Pt), s.WarmedH vm₁ ∧ Stand p l e R s m args below meth c B.U B.locs B.cells B.slots ∧ PostX ⟨T.setVm vm₁, locs, cells, slots⟩ argsL.toArray q B ∧
      Steps p.tables e below (T.setTop g) ((B.U.setTop { g with stack := rest }).pushFrame (.throwing q))) := by
  obtain ⟨mk, hnamed⟩ := Cond.code_named hcode
  obtain ⟨methM, cM, hmethM, -, -, -, -, -, -, hsigM⟩ := Cond.code_spec hnamed hcode
  have hstatic : methM.isStatic = true := Cond.static_spec hnamed hmethM hstat
  obtain ⟨kP, hkP, -⟩ := className_of_methodNamed hnamed
  have hinitP : kP.init = .initialized := Cond.initialized_spec (findClass_of_methodNamed hnamed) hkP hinit
  obtain ⟨vm₁, X₁, hstep₁⟩ := X.invokestaticNest hexec hown hlink hnamed hmethM hstatic hkP hinitP hy (g := g) hg (argsL := argsL) (rest := rest) (hlen _ hsigM) hstack hdg
  rcases hK m meth c ⟨T.setVm vm₁, locs, cells, slots⟩ { g with stack := rest } (.invokestatic index) mk argsL.toArray X₁ hg hsize hdg hW (X₁.named hnamed) (hpre vm₁ X₁.warmed) with ⟨v, B, X', hpost, hsteps⟩ | ⟨q, B, X', hpost, hsteps⟩
  · exact Or.inl ⟨v, vm₁, B, X₁.warmed, X', hpost, fun target h => hstep₁ _ fun acts => by rw [doInvoke_state]; exact hsteps.trans h⟩
  · exact Or.inr ⟨q, vm₁, B, X₁.warmed, X', hpost, hstep₁ _ fun acts => by rw [doInvoke_state]; exact hsteps⟩
theorem vx_runVN {y : MethodName} {bytes cc : ByteArray} {maxL nL mc ms n index : Nat} {ret : Option FieldType} {ws : List Cond} {rm : Room} {Pc : Array Value → State → Prop} {Qc : Array Value → State → Outcome → State → Prop} {XC : String → State → State → Prop} {free : Addr → Prop} {Ts : List Cond} {own C host : String} {b : Addr} {As rest : List Value} {g : JFrame}
    (S : CallFix p m c cc nL s args Ts own) (hM : vx_Met l y ws rm Pc Qc XC mc ms free) (cw : va_CN R s args own index y host bytes maxL ret ws rm mc ms n ∧ (Cond.instanceMethod y).before args s = true ∧ (Cond.selects C y y).before args s = true) (hp : PreV s H C b Pc As)
    (hg : g.method = m) (hn : As.length = n) (hsize : g.locals.size = nL) (hstack : g.stack = As.reverse ++ .ref b :: rest) (hW : 2 * g.monitorRoom + (rest.map fun v => v.category).sum ≤ 8) (hdg : decode cc g.pc = .ok (.invokevirtual index, 3)) (hf : cells + mc ≤ R.cells ∧ slots + ms ≤ R.slots) :
    vx_Run p l e R s m args below meth c H locs cells slots mc ms g rest (Qc (Value.ref b :: As).toArray) XC free := by
  obtain ⟨⟨⟨hrc, hrs, hfr, hlo, hws, hcw⟩, hcode, hini, hy, hlen, hl⟩, hx1, hx2⟩ := cw
  have hK : vx_Back l R p e below s args y 3 8 (PreOf R mc ms Pc) (PostOf Qc mc ms free) (vx_Post XC mc ms free) := vx_back (bytes := bytes) (maxL := maxL) (ret := ret) hM hp.1 hrc hrs hfr hlo hws hcw (fun a' U hW => word_at hW (Or.inl (by first | rfl | simp [Cond.onTables, Cond.keeps, Cond.steady])) hini)
  obtain ⟨hx, hb, hml, ho, -⟩ := S
  obtain ⟨-, ⟨cellB, hcB, hoB, hclB⟩, hPc⟩ := hp
  intro T hT X
  rcases vx_callVN X hx (C := C) (bytes := bytes) (maxL := maxL) (ret := ret) ho hl hx1 hx2 hcode hy hK (by rw [hT]; exact hcB) hoB hclB hg (hsize.trans hml.symm) (argsL := As) (rest := rest) (fun sig h => hn.trans (hlen sig h)) hstack hW (by rw [hb]; exact hdg)
    (fun vm₁ hW₁ => ⟨hf.1, hf.2, hPc (T.setVm vm₁) hT hW₁⟩) with ⟨v, vm₁, ⟨U', l2, c2, s2⟩, hW₁, X', ⟨g', mk, t, L, e1, e2, hq, h1, hL, h2, h3⟩, st⟩ | ⟨q, vm₁, ⟨U', l2, c2, s2⟩, hW₁, X', ⟨g', mk, t, L, E, ce, e1, e2, hq, hce, hcv, hcl, h1, hL, h2, h3⟩, st⟩
  · dsimp only [Pt.U, Pt.locs, Pt.cells, Pt.slots] at X' e1 e2 h1 h2 h3 st
    subst h1; subst h2; subst h3
    exact Or.inl ⟨v, (T.setVm vm₁).calling g' mk (Value.ref b :: As).toArray, t, U', L, hT, X', hL, e1, e2, hq, st⟩
  · dsimp only [Pt.U, Pt.locs, Pt.cells, Pt.slots] at X' e1 e2 h1 h2 h3 st hcl
    subst h1; subst h2; subst h3
    exact Or.inr ⟨q, (T.setVm vm₁).calling g' mk (Value.ref b :: As).toArray, t, U', L, E, ce, hT, X', hL, e1, e2, hq, hce, hcv, vx_cls hW₁ hcl, st⟩
theorem vx_runSN {y : MethodName} {bytes cc : ByteArray} {maxL nL mc ms n index : Nat} {ret : Option FieldType} {ws : List Cond} {rm : Room} {Pc : Array Value → State → Prop} {Qc : Array Value → State → Outcome → State → Prop} {XC : String → State → State → Prop} {free : Addr → Prop} {Ts : List Cond} {own host : String} {As rest : List Value} {g : JFrame}
    (S : CallFix p m c cc nL s args Ts own) (hM : vx_Met l y ws rm Pc Qc XC mc ms free) (cw : va_CN R s args own index y host bytes maxL ret ws rm mc ms n ∧ (Cond.static y).before args s = true ∧ True) (hp : PreS s H Pc As)
    (hg : g.method = m) (hn : As.length = n) (hsize : g.locals.size = nL) (hstack : g.stack = As.reverse ++ rest) (hW : 2 * g.monitorRoom + (rest.map fun v => v.category).sum ≤ 8) (hdg : decode cc g.pc = .ok (.invokestatic index, 3)) (hf : cells + mc ≤ R.cells ∧ slots + ms ≤ R.slots) :
    vx_Run p l e R s m args below meth c H locs cells slots mc ms g rest (Qc As.toArray) XC free := by
  obtain ⟨⟨⟨hrc, hrs, hfr, hlo, hws, hcw⟩, hcode, hini, hy, hlen, hl⟩, hx1, hx2⟩ := cw
  have hK : vx_Back l R p e below s args y 3 8 (PreOf R mc ms Pc) (PostOf Qc mc ms free) (vx_Post XC mc ms free) := vx_back (bytes := bytes) (maxL := maxL) (ret := ret) hM hp.1 hrc hrs hfr hlo hws hcw (fun a' U hW => word_at hW (Or.inl (by first | rfl | simp [Cond.onTables, Cond.keeps, Cond.steady])) hini)
  obtain ⟨hx, hb, hml, ho, -⟩ := S
  have hPc := hp.2
  intro T hT X
  rcases vx_callSN X hx (bytes := bytes) (maxL := maxL) (ret := ret) ho hl hx1 hini hcode hy hK hg (hsize.trans hml.symm) (argsL := As) (rest := rest) (fun sig h => hn.trans (hlen sig h)) hstack hW (by rw [hb]; exact hdg)
    (fun vm₁ hW₁ => ⟨hf.1, hf.2, hPc (T.setVm vm₁) hT hW₁⟩) with ⟨v, vm₁, ⟨U', l2, c2, s2⟩, hW₁, X', ⟨g', mk, t, L, e1, e2, hq, h1, hL, h2, h3⟩, st⟩ | ⟨q, vm₁, ⟨U', l2, c2, s2⟩, hW₁, X', ⟨g', mk, t, L, E, ce, e1, e2, hq, hce, hcv, hcl, h1, hL, h2, h3⟩, st⟩
  · dsimp only [Pt.U, Pt.locs, Pt.cells, Pt.slots] at X' e1 e2 h1 h2 h3 st
    subst h1; subst h2; subst h3
    exact Or.inl ⟨v, (T.setVm vm₁).calling g' mk As.toArray, t, U', L, hT, X', hL, e1, e2, hq, st⟩
  · dsimp only [Pt.U, Pt.locs, Pt.cells, Pt.slots] at X' e1 e2 h1 h2 h3 st hcl
    subst h1; subst h2; subst h3
    exact Or.inr ⟨q, (T.setVm vm₁).calling g' mk As.toArray, t, U', L, E, ce, hT, X', hL, e1, e2, hq, hce, hcv, vx_cls hW₁ hcl, st⟩
end
/-! ===== END ===== -/
/-! ===== BEGIN calls by an interface of methods that may throw (vx_callIF, vx_runF follow va_callIF, va_runF of this kit) ===== -/
section
variable {p : Program} {l : Launch} {e : Env} {R : Room} {s : State} {m : MethodId} {args : Array Value} {below : List Frame} {meth : Method} {c : Code} {H : Heap} {locs : List Loc} {cells slots : Nat} {Q : State → Prop}
variable {mc ms : Nat} {free : Addr → Prop} {A0 A1 : Nat → Prop} {H0 : Heap} {a : Array Value} {pc : Nat} {ls : Array Slot} {st0 rest : List Value}
def vx_Run5 (p : Program) (l : Launch) (e : Env) (R : Room) (s : State) (m : MethodId) (args : Array Value) (below : List Frame) (meth : Method) (c : Code) (H : Heap) (locs : List Loc) (cells slots mc ms : Nat) (g : JFrame) (rest : List Value) (Qa : State → Outcome → State → Prop) (XC : String → State → State → Prop) (free : Addr → Prop) : Prop :=
  ∀ T : State, T.heap = H → Stand p l e R s m args below meth c T locs cells slots →
    (∃ (v : Option Value) (st₀ t T' : State) (L : List Loc), st₀.heap = H ∧ Stand p l e R s m args below meth c T' (locs ++ L) (cells + mc) (slots + ms) ∧ (∀ q ∈ L, free q.base) ∧ T'.heap = t.heap ∧ T'.vm = t.vm ∧ Qa st₀ (.returned v) t ∧
      Goes p e below T g T' { g with pc := g.pc + 5, stack := v.toList ++ rest }) ∨
    (∃ (q : Addr) (st₀ t T' : State) (L : List Loc) (E : String) (ce : Cell), st₀.heap = H ∧ Stand p l e R s m args below meth c T' (locs ++ L) (cells + mc) (slots + ms) ∧ (∀ z ∈ L, free z.base) ∧ T'.heap = t.heap ∧ T'.vm = t.vm ∧ XC E st₀ t ∧ t.heap[q]? = some ce ∧ ce.vm = .none ∧ s.vm.findClass E = some ce.cls ∧
      Steps p.tables e below (T.setTop g) ((T'.setTop { g with stack := rest }).pushFrame (.throwing q)))
theorem vx_callIF {T : State} (X : Stand p l e R s m args below meth c T locs cells slots) (hexec : p.tables.exec = Jvm.exec) {own C : String} {index count : Nat} {x y : MethodName} {bytes : ByteArray} {maxL : Nat} {ret : Option FieldType}
    (hown : s.vm.findClass own = some m.cls) (hlink : (Cond.methodLink own index x).before args s = true) (hdecl : (Cond.declares x).before args s = true) (hface : (Cond.interfaceMethod x.cls x.cls x.name x.desc).before args s = true)
    (hsel : (Cond.selects C x y).before args s = true) (hinst : (Cond.instanceMethod y).before args s = true) (hpub : (Cond.publicMethod y).before args s = true) (hunh : (Cond.unhidden C x.name x.desc).before args s = true)
    (hcast : (Cond.castable C x.cls).before args s = true) (hcode : (Cond.code y bytes maxL ret).before args s = true) (hx : x.cls ≠ "java/lang/invoke/MethodHandle" ∧ x.cls ≠ "java/lang/invoke/VarHandle")
    {W9 : Nat} {Pre : Pt → Array Value → Prop} {Post : Pt → Array Value → Option Value → Pt → Prop} {PostX : Pt → Array Value → Addr → Pt → Prop} (hK : vx_Back l R p e below s args y 5 W9 Pre Post PostX)
    {b : Addr} {cellB : Cell} {kB : Class} (hcell : T.heap[b]? = some cellB) (hobj : cellB.vm.isStatics = false) (hcls : s.vm.findClass C = some cellB.cls) (hkB : s.vm.classes[cellB.cls]? = some kB)
    {g : JFrame} (hg : g.method = m) (hsize : g.locals.size = c.maxLocals) {argsL rest : List Value} (hlen : ∀ sig, parseMethodDescriptor x.desc = some sig → argsL.length = sig.parameters.length)
    (hstack : g.stack = argsL.reverse ++ .ref b :: rest) (hW : 2 * g.monitorRoom + (rest.map fun v => v.category).sum ≤ W9) (hdg : decode c.code g.pc = .ok (.invokeinterface index count, 5))
    (hpre : ∀ vm₁, s.WarmedH vm₁ → Pre ⟨T.setVm vm₁, locs, cells, slots⟩ (Value.ref b :: argsL).toArray) :
    (∃ (v : Option Value) (vm₁ : Vm) (B : Pt), s.WarmedH vm₁ ∧ Stand p l e R s m args below meth c B.U B.locs B.cells B.slots ∧ Post ⟨T.setVm vm₁, locs, cells, slots⟩ (Value.ref b :: argsL).toArray v B ∧
      ∀ target, Steps p.tables e below (B.U.setTop { g with pc := g.pc + 5, stack := v.toList ++ rest }) target → Steps p.tables e below (T.setTop g) target) ∨
    (∃ (q : Addr) (vm₁ : Vm) (B : Pt), s.WarmedH vm₁ ∧ Stand p l e R s m args below meth c B.U B.locs B.cells B.slots ∧ PostX ⟨T.setVm vm₁, locs, cells, slots⟩ (Value.ref b :: argsL).toArray q B ∧
      Steps p.tables e below (T.setTop g) ((B.U.setTop { g with stack := rest }).pushFrame (.throwing q))) := by
  obtain ⟨r0, r, hn, hrm, hstR, hsigR⟩ := Cond.declares_spec hdecl
  obtain ⟨cL, kL, r1, hcL, hkL, hiL, hfoundL, hn1⟩ := Cond.interfaceMethod_spec hface
  cases hn.symm.trans hn1
  have hr0cls : r0.cls = cL := Option.some.inj ((findClass_of_methodNamed hn).symm.trans hcL)
  obtain ⟨hnameR, hdescR⟩ := name_of_methodNamed hn hrm
  obtain ⟨mk, methM, hnamed, hmethM, -, habM⟩ := Cond.instanceMethod_spec hinst
  obtain ⟨c2, r2, m2, q1, q2, q3, q4, -⟩ := Cond.selects_spec hsel
  cases hcls.symm.trans q1
  cases hfoundL.symm.trans q2
  cases hnamed.symm.trans q3
  have hselP : selectMethod e.platform s.vm cellB.cls r0 = .method mk := by rw [Launch.admits_selectMethod X.admits]; exact q4
  have hpubM : hasFlag methM.accessFlags Acc.public_ = true := Cond.publicMethod_spec hnamed hmethM hpub
  have hway : ((cellB.cls :: s.vm.superclasses cellB.cls).any fun k => (declaredIn s.vm r.name r.desc k).any fun (_, z) => z.isPrivate || z.isStatic) = false := by
    rw [hnameR, hdescR]; exact Cond.unhidden_spec hcls hunh
  obtain ⟨c3, t3, w1, w2, w3⟩ := Cond.castable_spec hcast
  cases hcls.symm.trans w1
  cases hcL.symm.trans w2
  obtain ⟨vm₁, X₁, hstep₁⟩ := X.invokeinterface hexec hown hlink hn hrm hstR (by rw [hr0cls]; exact hkL) hiL hx (a := b) (cell := cellB) (kcell := kB) hcell
    (fun z h => by rw [h] at hobj; cases hobj) hkB (by rw [hr0cls]; exact w3) hselP hmethM hway hpubM habM (g := g) hg (argsL := argsL) (rest := rest) (hlen _ hsigR) hstack hdg
  rcases hK m meth c ⟨T.setVm vm₁, locs, cells, slots⟩ { g with stack := rest } (.invokeinterface index count) mk (Value.ref b :: argsL).toArray X₁ hg hsize hdg hW (X₁.named hnamed) (hpre vm₁ X₁.warmed) with ⟨v, B, X', hpost, hsteps⟩ | ⟨q, B, X', hpost, hsteps⟩
  · exact Or.inl ⟨v, vm₁, B, X₁.warmed, X', hpost, fun target h => hstep₁ _ fun acts => by rw [doInvoke_state]; exact hsteps.trans h⟩
  · exact Or.inr ⟨q, vm₁, B, X₁.warmed, X', hpost, hstep₁ _ fun acts => by rw [doInvoke_state]; exact hsteps⟩
theorem vx_runF {x y : MethodName} {bytes cc : ByteArray} {maxL nL mc ms n index count : Nat} {ret : Option FieldType} {ws : List Cond} {rm : Room} {Pc : Array Value → State → Prop} {Qc : Array Value → State → Outcome → State → Prop} {XC : String → State → State → Prop} {free : Addr → Prop} {Ts : List Cond} {own C : String} {cC : ClassId} {b : Addr} {As rest : List Value} {g : JFrame}
    (hat : ClassAt s C cC) (S : CallFix p m c cc nL s args Ts own) (hM : vx_Met l y ws rm Pc Qc XC mc ms free) (cw : va_CI R s args own C index x y bytes maxL ret ws rm mc ms n) (hp : PreV s H C b Pc As)
    (hg : g.method = m) (hn : As.length = n) (hsize : g.locals.size = nL) (hstack : g.stack = As.reverse ++ .ref b :: rest) (hW : 2 * g.monitorRoom + (rest.map fun v => v.category).sum ≤ 8) (hdg : decode cc g.pc = .ok (.invokeinterface index count, 5)) (hf : cells + mc ≤ R.cells ∧ slots + ms ≤ R.slots) :
    vx_Run5 p l e R s m args below meth c H locs cells slots mc ms g rest (Qc (Value.ref b :: As).toArray) XC free := by
  obtain ⟨hrc, hrs, hfr, hlo, hws, hcw⟩ := cw.back
  have hini := cw.init
  have hK : vx_Back l R p e below s args y 5 8 (PreOf R mc ms Pc) (PostOf Qc mc ms free) (vx_Post XC mc ms free) := vx_back (bytes := bytes) (maxL := maxL) (ret := ret) hM hp.1 hrc hrs hfr hlo hws hcw (fun a' U hW => word_at hW (Or.inl (by first | rfl | simp [Cond.onTables, Cond.keeps, Cond.steady])) hini)
  obtain ⟨hx, hb, hml, ho, -⟩ := S
  obtain ⟨-, ⟨cellB, hcB, hoB, hclB⟩, hPc⟩ := hp
  obtain ⟨hfc, kB, hkB, -⟩ := hat
  cases hfc.symm.trans hclB
  intro T hT X
  rcases vx_callIF X hx (C := C) (bytes := bytes) (maxL := maxL) (ret := ret) ho cw.link cw.decl cw.face cw.sel cw.inst cw.pub cw.unh cw.cast cw.code cw.notMH hK (by rw [hT]; exact hcB) hoB hclB hkB hg (hsize.trans hml.symm) (argsL := As) (rest := rest) (fun sig h => hn.trans (cw.len sig h)) hstack hW (by rw [hb]; exact hdg)
    (fun vm₁ hW₁ => ⟨hf.1, hf.2, hPc (T.setVm vm₁) hT hW₁⟩) with ⟨v, vm₁, ⟨U', l2, c2, s2⟩, hW₁, X', ⟨g', mk, t, L, e1, e2, hq, h1, hL, h2, h3⟩, st⟩ | ⟨q, vm₁, ⟨U', l2, c2, s2⟩, hW₁, X', ⟨g', mk, t, L, E, ce, e1, e2, hq, hce, hcv, hcl, h1, hL, h2, h3⟩, st⟩
  · dsimp only [Pt.U, Pt.locs, Pt.cells, Pt.slots] at X' e1 e2 h1 h2 h3 st
    subst h1; subst h2; subst h3
    exact Or.inl ⟨v, (T.setVm vm₁).calling g' mk (Value.ref b :: As).toArray, t, U', L, hT, X', hL, e1, e2, hq, st⟩
  · dsimp only [Pt.U, Pt.locs, Pt.cells, Pt.slots] at X' e1 e2 h1 h2 h3 st hcl
    subst h1; subst h2; subst h3
    exact Or.inr ⟨q, (T.setVm vm₁).calling g' mk (Value.ref b :: As).toArray, t, U', L, E, ce, hT, X', hL, e1, e2, hq, hce, hcv, vx_cls hW₁ hcl, st⟩
theorem vx_callFv {S SX : Type} {post : S → Prop} {px : SX → Prop} {B : S → State → Prop} {BX : String → SX → State → Prop} {AX : Nat → Prop} (hr : vx_Run5 p l e R s m args below meth c H locs cells slots mc ms (F0 m pc ls st0) rest (va_Qv post B A1 a) (vx_X px BX AX) free) (hS : va_S A0 H0 H locs) (hA : ∀ q, q < H.size → A1 q → A0 q) (hf : ∀ q, free q → A0 q) (hAX : ∀ q, q < H.size → AX q → A0 q)
    (kx : ∀ (E : String) (ce : Cell) (q9 : Addr) (u : SX) (t : State) (H1 : Heap) (locs1 : List Loc), t.heap = H1 → s.vm.Alike t.vm → px u → BX E u t → H.size ≤ H1.size → (∀ q : Nat, q < H.size → ¬ AX q → H1[q]? = H[q]?) → va_S A0 H0 H1 locs1 → H1[q9]? = some ce → ce.vm = .none → s.vm.findClass E = some ce.cls → vx_W p l e R s m args below meth c H1 locs1 (cells + mc) (slots + ms) Q (F0 m pc ls rest) q9)
    (kk : ∀ (u : S) (t : State) (H1 : Heap) (locs1 : List Loc), t.heap = H1 → s.vm.Alike t.vm → post u → B u t → H.size ≤ H1.size → (∀ q : Nat, q < H.size → ¬ A1 q → H1[q]? = H[q]?) → va_S A0 H0 H1 locs1 → W p l e R s m args below meth c H1 locs1 (cells + mc) (slots + ms) Q (F0 m (pc + 5) ls (rest))) : W p l e R s m args below meth c H locs cells slots Q (F0 m pc ls st0) := by
  intro T hT X
  rcases hr T hT X with ⟨v, st₀, t, T', L, h0, X', hL, e1, e2, ⟨⟨u, hv, hp, hb⟩, hF⟩, st⟩ | ⟨q, st₀, t, T', L, E, ce, h0, X', hL, e1, e2, ⟨u, hp, hb, hF⟩, hce, hcv, hcl, st⟩
  · cases hv
    obtain ⟨k1, k2, k3⟩ := vx_keep h0 e1 hS hA hf hL hF
    obtain ⟨t2, a1, b1⟩ := kk u t T'.heap (locs ++ L) e1.symm (by rw [← e2]; exact X'.warmed.alike) hp hb k1 k2 k3 T' rfl X'
    exact ⟨t2, st t2 a1, b1⟩
  · obtain ⟨k1, k2, k3⟩ := vx_keep h0 e1 hS hAX hf hL hF
    obtain ⟨t2, a1, b1⟩ := kx E ce q u t T'.heap (locs ++ L) e1.symm (by rw [← e2]; exact X'.warmed.alike) hp hb k1 k2 k3 (by rw [e1]; exact hce) hcv hcl T' rfl X'
    exact ⟨t2, st.trans a1, b1⟩
theorem vx_callFi {S SX : Type} {post : Int32 → S → Prop} {px : SX → Prop} {B : S → State → Prop} {BX : String → SX → State → Prop} {AX : Nat → Prop} (hr : vx_Run5 p l e R s m args below meth c H locs cells slots mc ms (F0 m pc ls st0) rest (va_Qi post B A1 a) (vx_X px BX AX) free) (hS : va_S A0 H0 H locs) (hA : ∀ q, q < H.size → A1 q → A0 q) (hf : ∀ q, free q → A0 q) (hAX : ∀ q, q < H.size → AX q → A0 q)
    (kx : ∀ (E : String) (ce : Cell) (q9 : Addr) (u : SX) (t : State) (H1 : Heap) (locs1 : List Loc), t.heap = H1 → s.vm.Alike t.vm → px u → BX E u t → H.size ≤ H1.size → (∀ q : Nat, q < H.size → ¬ AX q → H1[q]? = H[q]?) → va_S A0 H0 H1 locs1 → H1[q9]? = some ce → ce.vm = .none → s.vm.findClass E = some ce.cls → vx_W p l e R s m args below meth c H1 locs1 (cells + mc) (slots + ms) Q (F0 m pc ls rest) q9)
    (kk : ∀ (r : Int32) (u : S) (t : State) (H1 : Heap) (locs1 : List Loc), t.heap = H1 → s.vm.Alike t.vm → post r u → B u t → H.size ≤ H1.size → (∀ q : Nat, q < H.size → ¬ A1 q → H1[q]? = H[q]?) → va_S A0 H0 H1 locs1 → W p l e R s m args below meth c H1 locs1 (cells + mc) (slots + ms) Q (F0 m (pc + 5) ls (.int r :: rest))) : W p l e R s m args below meth c H locs cells slots Q (F0 m pc ls st0) := by
  intro T hT X
  rcases hr T hT X with ⟨v, st₀, t, T', L, h0, X', hL, e1, e2, ⟨⟨r, u, hv, hp, hb⟩, hF⟩, st⟩ | ⟨q, st₀, t, T', L, E, ce, h0, X', hL, e1, e2, ⟨u, hp, hb, hF⟩, hce, hcv, hcl, st⟩
  · cases hv
    obtain ⟨k1, k2, k3⟩ := vx_keep h0 e1 hS hA hf hL hF
    obtain ⟨t2, a1, b1⟩ := kk r u t T'.heap (locs ++ L) e1.symm (by rw [← e2]; exact X'.warmed.alike) hp hb k1 k2 k3 T' rfl X'
    exact ⟨t2, st t2 a1, b1⟩
  · obtain ⟨k1, k2, k3⟩ := vx_keep h0 e1 hS hAX hf hL hF
    obtain ⟨t2, a1, b1⟩ := kx E ce q u t T'.heap (locs ++ L) e1.symm (by rw [← e2]; exact X'.warmed.alike) hp hb k1 k2 k3 (by rw [e1]; exact hce) hcv hcl T' rfl X'
    exact ⟨t2, st.trans a1, b1⟩
theorem vx_callFl {S SX : Type} {post : Int64 → S → Prop} {px : SX → Prop} {B : S → State → Prop} {BX : String → SX → State → Prop} {AX : Nat → Prop} (hr : vx_Run5 p l e R s m args below meth c H locs cells slots mc ms (F0 m pc ls st0) rest (va_Ql post B A1 a) (vx_X px BX AX) free) (hS : va_S A0 H0 H locs) (hA : ∀ q, q < H.size → A1 q → A0 q) (hf : ∀ q, free q → A0 q) (hAX : ∀ q, q < H.size → AX q → A0 q)
    (kx : ∀ (E : String) (ce : Cell) (q9 : Addr) (u : SX) (t : State) (H1 : Heap) (locs1 : List Loc), t.heap = H1 → s.vm.Alike t.vm → px u → BX E u t → H.size ≤ H1.size → (∀ q : Nat, q < H.size → ¬ AX q → H1[q]? = H[q]?) → va_S A0 H0 H1 locs1 → H1[q9]? = some ce → ce.vm = .none → s.vm.findClass E = some ce.cls → vx_W p l e R s m args below meth c H1 locs1 (cells + mc) (slots + ms) Q (F0 m pc ls rest) q9)
    (kk : ∀ (r : Int64) (u : S) (t : State) (H1 : Heap) (locs1 : List Loc), t.heap = H1 → s.vm.Alike t.vm → post r u → B u t → H.size ≤ H1.size → (∀ q : Nat, q < H.size → ¬ A1 q → H1[q]? = H[q]?) → va_S A0 H0 H1 locs1 → W p l e R s m args below meth c H1 locs1 (cells + mc) (slots + ms) Q (F0 m (pc + 5) ls (.long r :: rest))) : W p l e R s m args below meth c H locs cells slots Q (F0 m pc ls st0) := by
  intro T hT X
  rcases hr T hT X with ⟨v, st₀, t, T', L, h0, X', hL, e1, e2, ⟨⟨r, u, hv, hp, hb⟩, hF⟩, st⟩ | ⟨q, st₀, t, T', L, E, ce, h0, X', hL, e1, e2, ⟨u, hp, hb, hF⟩, hce, hcv, hcl, st⟩
  · cases hv
    obtain ⟨k1, k2, k3⟩ := vx_keep h0 e1 hS hA hf hL hF
    obtain ⟨t2, a1, b1⟩ := kk r u t T'.heap (locs ++ L) e1.symm (by rw [← e2]; exact X'.warmed.alike) hp hb k1 k2 k3 T' rfl X'
    exact ⟨t2, st t2 a1, b1⟩
  · obtain ⟨k1, k2, k3⟩ := vx_keep h0 e1 hS hAX hf hL hF
    obtain ⟨t2, a1, b1⟩ := kx E ce q u t T'.heap (locs ++ L) e1.symm (by rw [← e2]; exact X'.warmed.alike) hp hb k1 k2 k3 (by rw [e1]; exact hce) hcv hcl T' rfl X'
    exact ⟨t2, st.trans a1, b1⟩
theorem vx_callFf {S SX : Type} {post : UInt32 → S → Prop} {px : SX → Prop} {B : S → State → Prop} {BX : String → SX → State → Prop} {AX : Nat → Prop} (hr : vx_Run5 p l e R s m args below meth c H locs cells slots mc ms (F0 m pc ls st0) rest (va_Qf post B A1 a) (vx_X px BX AX) free) (hS : va_S A0 H0 H locs) (hA : ∀ q, q < H.size → A1 q → A0 q) (hf : ∀ q, free q → A0 q) (hAX : ∀ q, q < H.size → AX q → A0 q)
    (kx : ∀ (E : String) (ce : Cell) (q9 : Addr) (u : SX) (t : State) (H1 : Heap) (locs1 : List Loc), t.heap = H1 → s.vm.Alike t.vm → px u → BX E u t → H.size ≤ H1.size → (∀ q : Nat, q < H.size → ¬ AX q → H1[q]? = H[q]?) → va_S A0 H0 H1 locs1 → H1[q9]? = some ce → ce.vm = .none → s.vm.findClass E = some ce.cls → vx_W p l e R s m args below meth c H1 locs1 (cells + mc) (slots + ms) Q (F0 m pc ls rest) q9)
    (kk : ∀ (r : UInt32) (u : S) (t : State) (H1 : Heap) (locs1 : List Loc), t.heap = H1 → s.vm.Alike t.vm → post r u → B u t → H.size ≤ H1.size → (∀ q : Nat, q < H.size → ¬ A1 q → H1[q]? = H[q]?) → va_S A0 H0 H1 locs1 → W p l e R s m args below meth c H1 locs1 (cells + mc) (slots + ms) Q (F0 m (pc + 5) ls (.float r :: rest))) : W p l e R s m args below meth c H locs cells slots Q (F0 m pc ls st0) := by
  intro T hT X
  rcases hr T hT X with ⟨v, st₀, t, T', L, h0, X', hL, e1, e2, ⟨⟨r, u, hv, hp, hb⟩, hF⟩, st⟩ | ⟨q, st₀, t, T', L, E, ce, h0, X', hL, e1, e2, ⟨u, hp, hb, hF⟩, hce, hcv, hcl, st⟩
  · cases hv
    obtain ⟨k1, k2, k3⟩ := vx_keep h0 e1 hS hA hf hL hF
    obtain ⟨t2, a1, b1⟩ := kk r u t T'.heap (locs ++ L) e1.symm (by rw [← e2]; exact X'.warmed.alike) hp hb k1 k2 k3 T' rfl X'
    exact ⟨t2, st t2 a1, b1⟩
  · obtain ⟨k1, k2, k3⟩ := vx_keep h0 e1 hS hAX hf hL hF
    obtain ⟨t2, a1, b1⟩ := kx E ce q u t T'.heap (locs ++ L) e1.symm (by rw [← e2]; exact X'.warmed.alike) hp hb k1 k2 k3 (by rw [e1]; exact hce) hcv hcl T' rfl X'
    exact ⟨t2, st.trans a1, b1⟩
theorem vx_callFd {S SX : Type} {post : UInt64 → S → Prop} {px : SX → Prop} {B : S → State → Prop} {BX : String → SX → State → Prop} {AX : Nat → Prop} (hr : vx_Run5 p l e R s m args below meth c H locs cells slots mc ms (F0 m pc ls st0) rest (va_Qd post B A1 a) (vx_X px BX AX) free) (hS : va_S A0 H0 H locs) (hA : ∀ q, q < H.size → A1 q → A0 q) (hf : ∀ q, free q → A0 q) (hAX : ∀ q, q < H.size → AX q → A0 q)
    (kx : ∀ (E : String) (ce : Cell) (q9 : Addr) (u : SX) (t : State) (H1 : Heap) (locs1 : List Loc), t.heap = H1 → s.vm.Alike t.vm → px u → BX E u t → H.size ≤ H1.size → (∀ q : Nat, q < H.size → ¬ AX q → H1[q]? = H[q]?) → va_S A0 H0 H1 locs1 → H1[q9]? = some ce → ce.vm = .none → s.vm.findClass E = some ce.cls → vx_W p l e R s m args below meth c H1 locs1 (cells + mc) (slots + ms) Q (F0 m pc ls rest) q9)
    (kk : ∀ (r : UInt64) (u : S) (t : State) (H1 : Heap) (locs1 : List Loc), t.heap = H1 → s.vm.Alike t.vm → post r u → B u t → H.size ≤ H1.size → (∀ q : Nat, q < H.size → ¬ A1 q → H1[q]? = H[q]?) → va_S A0 H0 H1 locs1 → W p l e R s m args below meth c H1 locs1 (cells + mc) (slots + ms) Q (F0 m (pc + 5) ls (.double r :: rest))) : W p l e R s m args below meth c H locs cells slots Q (F0 m pc ls st0) := by
  intro T hT X
  rcases hr T hT X with ⟨v, st₀, t, T', L, h0, X', hL, e1, e2, ⟨⟨r, u, hv, hp, hb⟩, hF⟩, st⟩ | ⟨q, st₀, t, T', L, E, ce, h0, X', hL, e1, e2, ⟨u, hp, hb, hF⟩, hce, hcv, hcl, st⟩
  · cases hv
    obtain ⟨k1, k2, k3⟩ := vx_keep h0 e1 hS hA hf hL hF
    obtain ⟨t2, a1, b1⟩ := kk r u t T'.heap (locs ++ L) e1.symm (by rw [← e2]; exact X'.warmed.alike) hp hb k1 k2 k3 T' rfl X'
    exact ⟨t2, st t2 a1, b1⟩
  · obtain ⟨k1, k2, k3⟩ := vx_keep h0 e1 hS hAX hf hL hF
    obtain ⟨t2, a1, b1⟩ := kx E ce q u t T'.heap (locs ++ L) e1.symm (by rw [← e2]; exact X'.warmed.alike) hp hb k1 k2 k3 (by rw [e1]; exact hce) hcv hcl T' rfl X'
    exact ⟨t2, st.trans a1, b1⟩
end
/-! ===== END ===== -/
/-! ===== BEGIN by an interface, a method with a table of its own that may throw (follows va_callIFW, va_runFW) ===== -/
section
variable {p : Program} {l : Launch} {e : Env} {R : Room} {s : State} {m : MethodId} {args : Array Value} {below : List Frame} {meth : Method} {c : Code} {H : Heap} {locs : List Loc} {cells slots : Nat}
theorem vx_callIFW {T : State} (X : Stand p l e R s m args below meth c T locs cells slots) (hexec : p.tables.exec = Jvm.exec) {own C : String} {index count : Nat} {x y : MethodName} {bytes : ByteArray} {maxL : Nat} {ret : Option FieldType} {hh : List (Nat × Nat × Nat × Nat)}
    (hown : s.vm.findClass own = some m.cls) (hlink : (Cond.methodLink own index x).before args s = true) (hdecl : (Cond.declares x).before args s = true) (hface : (Cond.interfaceMethod x.cls x.cls x.name x.desc).before args s = true)
    (hsel : (Cond.selects C x y).before args s = true) (hinst : (Cond.instanceMethod y).before args s = true) (hpub : (Cond.publicMethod y).before args s = true) (hunh : (Cond.unhidden C x.name x.desc).before args s = true)
    (hcast : (Cond.castable C x.cls).before args s = true) (hcode : (Cond.codeWith y bytes maxL ret hh).before args s = true) (hx : x.cls ≠ "java/lang/invoke/MethodHandle" ∧ x.cls ≠ "java/lang/invoke/VarHandle")
    {W : Nat} {Pre : Pt → Array Value → Prop} {Post : Pt → Array Value → Option Value → Pt → Prop} {PostX : Pt → Array Value → Addr → Pt → Prop} (hK : vx_Back l R p e below s args y 5 W Pre Post PostX)
    {b : Addr} {cellB : Cell} {kB : Class} (hcell : T.heap[b]? = some cellB) (hobj : cellB.vm.isStatics = false) (hcls : s.vm.findClass C = some cellB.cls) (hkB : s.vm.classes[cellB.cls]? = some kB)
    {g : JFrame} (hg : g.method = m) (hsize : g.locals.size = c.maxLocals) {argsL rest : List Value} (hlen : ∀ sig, parseMethodDescriptor x.desc = some sig → argsL.length = sig.parameters.length)
    (hstack : g.stack = argsL.reverse ++ .ref b :: rest) (hW : 2 * g.monitorRoom + (rest.map fun v => v.category).sum ≤ W) (hdg : decode c.code g.pc = .ok (.invokeinterface index count, 5))
    (hpre : ∀ vm₁, s.WarmedH vm₁ → Pre ⟨T.setVm vm₁, locs, cells, slots⟩ (Value.ref b :: argsL).toArray) :
    (∃ (v : Option Value) (vm₁ : Vm) (B : Pt), s.WarmedH vm₁ ∧ Stand p l e R s m args below meth c B.U B.locs B.cells B.slots ∧ Post ⟨T.setVm vm₁, locs, cells, slots⟩ (Value.ref b :: argsL).toArray v B ∧
      ∀ target, Steps p.tables e below (B.U.setTop { g with pc := g.pc + 5, stack := v.toList ++ rest }) target → Steps p.tables e below (T.setTop g) target) ∨
    (∃ (q : Addr) (vm₁ : Vm) (B : Pt), s.WarmedH vm₁ ∧ Stand p l e R s m args below meth c B.U B.locs B.cells B.slots ∧ PostX ⟨T.setVm vm₁, locs, cells, slots⟩ (Value.ref b :: argsL).toArray q B ∧
      Steps p.tables e below (T.setTop g) ((B.U.setTop { g with stack := rest }).pushFrame (.throwing q))) := by
  obtain ⟨r0, r, hn, hrm, hstR, hsigR⟩ := Cond.declares_spec hdecl
  obtain ⟨cL, kL, r1, hcL, hkL, hiL, hfoundL, hn1⟩ := Cond.interfaceMethod_spec hface
  cases hn.symm.trans hn1
  have hr0cls : r0.cls = cL := Option.some.inj ((findClass_of_methodNamed hn).symm.trans hcL)
  obtain ⟨hnameR, hdescR⟩ := name_of_methodNamed hn hrm
  obtain ⟨mk, methM, hnamed, hmethM, -, habM⟩ := Cond.instanceMethod_spec hinst
  obtain ⟨c2, r2, m2, q1, q2, q3, q4, -⟩ := Cond.selects_spec hsel
  cases hcls.symm.trans q1
  cases hfoundL.symm.trans q2
  cases hnamed.symm.trans q3
  have hselP : selectMethod e.platform s.vm cellB.cls r0 = .method mk := by rw [Launch.admits_selectMethod X.admits]; exact q4
  have hpubM : hasFlag methM.accessFlags Acc.public_ = true := Cond.publicMethod_spec hnamed hmethM hpub
  have hway : ((cellB.cls :: s.vm.superclasses cellB.cls).any fun k => (declaredIn s.vm r.name r.desc k).any fun (_, z) => z.isPrivate || z.isStatic) = false := by
    rw [hnameR, hdescR]; exact Cond.unhidden_spec hcls hunh
  obtain ⟨c3, t3, w1, w2, w3⟩ := Cond.castable_spec hcast
  cases hcls.symm.trans w1
  cases hcL.symm.trans w2
  obtain ⟨vm₁, X₁, hstep₁⟩ := X.invokeinterface hexec hown hlink hn hrm hstR (by rw [hr0cls]; exact hkL) hiL hx (a := b) (cell := cellB) (kcell := kB) hcell
    (fun z h => by rw [h] at hobj; cases hobj) hkB (by rw [hr0cls]; exact w3) hselP hmethM hway hpubM habM (g := g) hg (argsL := argsL) (rest := rest) (hlen _ hsigR) hstack hdg
  rcases hK m meth c ⟨T.setVm vm₁, locs, cells, slots⟩ { g with stack := rest } (.invokeinterface index count) mk (Value.ref b :: argsL).toArray X₁ hg hsize hdg hW (X₁.named hnamed) (hpre vm₁ X₁.warmed) with ⟨v, B, X', hpost, hsteps⟩ | ⟨q, B, X', hpost, hsteps⟩
  · exact Or.inl ⟨v, vm₁, B, X₁.warmed, X', hpost, fun target h => hstep₁ _ fun acts => by rw [doInvoke_state]; exact hsteps.trans h⟩
  · exact Or.inr ⟨q, vm₁, B, X₁.warmed, X', hpost, hstep₁ _ fun acts => by rw [doInvoke_state]; exact hsteps⟩
theorem vx_runFW {x y : MethodName} {bytes cc : ByteArray} {maxL nL mc ms n index count : Nat} {ret : Option FieldType} {hh : List (Nat × Nat × Nat × Nat)} {ws : List Cond} {rm : Room} {Pc : Array Value → State → Prop} {Qc : Array Value → State → Outcome → State → Prop} {XC : String → State → State → Prop} {free : Addr → Prop} {Ts : List Cond} {own C : String} {cC : ClassId} {b : Addr} {As rest : List Value} {g : JFrame}
    (hat : ClassAt s C cC) (S : CallFix p m c cc nL s args Ts own) (hM : vx_Met l y ws rm Pc Qc XC mc ms free) (cw : va_CIW R s args own C index x y bytes maxL ret hh ws rm mc ms n) (hp : PreV s H C b Pc As)
    (hg : g.method = m) (hn : As.length = n) (hsize : g.locals.size = nL) (hstack : g.stack = As.reverse ++ .ref b :: rest) (hW : 2 * g.monitorRoom + (rest.map fun v => v.category).sum ≤ 8) (hdg : decode cc g.pc = .ok (.invokeinterface index count, 5)) (hf : cells + mc ≤ R.cells ∧ slots + ms ≤ R.slots) :
    vx_Run5 p l e R s m args below meth c H locs cells slots mc ms g rest (Qc (Value.ref b :: As).toArray) XC free := by
  obtain ⟨hrc, hrs, hfr, hlo, hws, hcw⟩ := cw.back
  have hini := cw.init
  have hK : vx_Back l R p e below s args y 5 8 (PreOf R mc ms Pc) (PostOf Qc mc ms free) (vx_Post XC mc ms free) := vx_backW (hh := hh) (bytes := bytes) (maxL := maxL) (ret := ret) hM hp.1 hrc hrs hfr hlo hws hcw (fun a' U hW => word_at hW (Or.inl (by first | rfl | simp [Cond.onTables, Cond.keeps, Cond.steady])) hini)
  obtain ⟨hx, hb, hml, ho, -⟩ := S
  obtain ⟨-, ⟨cellB, hcB, hoB, hclB⟩, hPc⟩ := hp
  obtain ⟨hfc, kB, hkB, -⟩ := hat
  cases hfc.symm.trans hclB
  intro T hT X
  rcases vx_callIFW X hx (C := C) (hh := hh) (bytes := bytes) (maxL := maxL) (ret := ret) ho cw.link cw.decl cw.face cw.sel cw.inst cw.pub cw.unh cw.cast cw.code cw.notMH hK (by rw [hT]; exact hcB) hoB hclB hkB hg (hsize.trans hml.symm) (argsL := As) (rest := rest) (fun sig h => hn.trans (cw.len sig h)) hstack hW (by rw [hb]; exact hdg)
    (fun vm₁ hW₁ => ⟨hf.1, hf.2, hPc (T.setVm vm₁) hT hW₁⟩) with ⟨v, vm₁, ⟨U', l2, c2, s2⟩, hW₁, X', ⟨g', mk, t, L, e1, e2, hq, h1, hL, h2, h3⟩, st⟩ | ⟨q, vm₁, ⟨U', l2, c2, s2⟩, hW₁, X', ⟨g', mk, t, L, E, ce, e1, e2, hq, hce, hcv, hcl, h1, hL, h2, h3⟩, st⟩
  · dsimp only [Pt.U, Pt.locs, Pt.cells, Pt.slots] at X' e1 e2 h1 h2 h3 st
    subst h1; subst h2; subst h3
    exact Or.inl ⟨v, (T.setVm vm₁).calling g' mk (Value.ref b :: As).toArray, t, U', L, hT, X', hL, e1, e2, hq, st⟩
  · dsimp only [Pt.U, Pt.locs, Pt.cells, Pt.slots] at X' e1 e2 h1 h2 h3 st hcl
    subst h1; subst h2; subst h3
    exact Or.inr ⟨q, (T.setVm vm₁).calling g' mk (Value.ref b :: As).toArray, t, U', L, E, ce, hT, X', hL, e1, e2, hq, hce, hcv, vx_cls hW₁ hcl, st⟩
end
/-! ===== END ===== -/
/-! ===== BEGIN .. of methods that hand back an object of the pool ===== -/
section
variable {p : Program} {l : Launch} {e : Env} {R : Room} {s : State} {m : MethodId} {args : Array Value} {below : List Frame} {meth : Method} {c : Code} {H : Heap} {locs : List Loc} {cells slots : Nat} {Q : State → Prop}
variable {mc ms : Nat} {free : Addr → Prop} {A0 A1 : Nat → Prop} {H0 : Heap} {a : Array Value} {pc : Nat} {ls : Array Slot} {st0 rest : List Value}
theorem vx_callq {S SX : Type} {post : Option Nat → S → Prop} {px : SX → Prop} {B : S → State → Prop} {BX : String → SX → State → Prop} {AX : Nat → Prop} (hr : vx_Run p l e R s m args below meth c H locs cells slots mc ms (F0 m pc ls st0) rest (va_Qq post B A1 a) (vx_X px BX AX) free) (hS : va_S A0 H0 H locs) (hA : ∀ q, q < H.size → A1 q → A0 q) (hf : ∀ q, free q → A0 q) (hAX : ∀ q, q < H.size → AX q → A0 q)
    (kx : ∀ (E : String) (ce : Cell) (q9 : Addr) (u : SX) (t : State) (H1 : Heap) (locs1 : List Loc), t.heap = H1 → s.vm.Alike t.vm → px u → BX E u t → H.size ≤ H1.size → (∀ q : Nat, q < H.size → ¬ AX q → H1[q]? = H[q]?) → va_S A0 H0 H1 locs1 → H1[q9]? = some ce → ce.vm = .none → s.vm.findClass E = some ce.cls → vx_W p l e R s m args below meth c H1 locs1 (cells + mc) (slots + ms) Q (F0 m pc ls rest) q9)
    (kk : ∀ (r : Option Nat) (u : S) (t : State) (H1 : Heap) (locs1 : List Loc), t.heap = H1 → s.vm.Alike t.vm → post r u → B u t → H.size ≤ H1.size → (∀ q : Nat, q < H.size → ¬ A1 q → H1[q]? = H[q]?) → va_S A0 H0 H1 locs1 → W p l e R s m args below meth c H1 locs1 (cells + mc) (slots + ms) Q (F0 m (pc + 3) ls (va_rf r :: rest))) : W p l e R s m args below meth c H locs cells slots Q (F0 m pc ls st0) := by
  intro T hT X
  rcases hr T hT X with ⟨v, st₀, t, T', L, h0, X', hL, e1, e2, ⟨⟨r, u, hv, hp, hb⟩, hF⟩, st⟩ | ⟨q, st₀, t, T', L, E, ce, h0, X', hL, e1, e2, ⟨u, hp, hb, hF⟩, hce, hcv, hcl, st⟩
  · cases hv
    obtain ⟨k1, k2, k3⟩ := vx_keep h0 e1 hS hA hf hL hF
    obtain ⟨t2, a1, b1⟩ := kk r u t T'.heap (locs ++ L) e1.symm (by rw [← e2]; exact X'.warmed.alike) hp hb k1 k2 k3 T' rfl X'
    exact ⟨t2, st t2 a1, b1⟩
  · obtain ⟨k1, k2, k3⟩ := vx_keep h0 e1 hS hAX hf hL hF
    obtain ⟨t2, a1, b1⟩ := kx E ce q u t T'.heap (locs ++ L) e1.symm (by rw [← e2]; exact X'.warmed.alike) hp hb k1 k2 k3 (by rw [e1]; exact hce) hcv hcl T' rfl X'
    exact ⟨t2, st.trans a1, b1⟩
end
/-! ===== END ===== -/
/-! ===== BEGIN .. a constant ===== -/
section
variable {p : Program} {l : Launch} {e : Env} {R : Room} {s : State} {m : MethodId} {args : Array Value} {below : List Frame} {meth : Method} {c : Code} {H : Heap} {locs : List Loc} {cells slots : Nat} {Q : State → Prop}
variable {mc ms : Nat} {free : Addr → Prop} {A0 A1 : Nat → Prop} {H0 : Heap} {a : Array Value} {pc : Nat} {ls : Array Slot} {st0 rest : List Value}
theorem vx_calle {ad : Nat → Nat} {S SX : Type} {post : Option Nat → S → Prop} {px : SX → Prop} {B : S → State → Prop} {BX : String → SX → State → Prop} {AX : Nat → Prop} (hr : vx_Run p l e R s m args below meth c H locs cells slots mc ms (F0 m pc ls st0) rest (va_Qe ad post B A1 a) (vx_X px BX AX) free) (hS : va_S A0 H0 H locs) (hA : ∀ q, q < H.size → A1 q → A0 q) (hf : ∀ q, free q → A0 q) (hAX : ∀ q, q < H.size → AX q → A0 q)
    (kx : ∀ (E : String) (ce : Cell) (q9 : Addr) (u : SX) (t : State) (H1 : Heap) (locs1 : List Loc), t.heap = H1 → s.vm.Alike t.vm → px u → BX E u t → H.size ≤ H1.size → (∀ q : Nat, q < H.size → ¬ AX q → H1[q]? = H[q]?) → va_S A0 H0 H1 locs1 → H1[q9]? = some ce → ce.vm = .none → s.vm.findClass E = some ce.cls → vx_W p l e R s m args below meth c H1 locs1 (cells + mc) (slots + ms) Q (F0 m pc ls rest) q9)
    (kk : ∀ (r : Option Nat) (u : S) (t : State) (H1 : Heap) (locs1 : List Loc), t.heap = H1 → s.vm.Alike t.vm → post r u → B u t → H.size ≤ H1.size → (∀ q : Nat, q < H.size → ¬ A1 q → H1[q]? = H[q]?) → va_S A0 H0 H1 locs1 → W p l e R s m args below meth c H1 locs1 (cells + mc) (slots + ms) Q (F0 m (pc + 3) ls (va_re ad r :: rest))) : W p l e R s m args below meth c H locs cells slots Q (F0 m pc ls st0) := by
  intro T hT X
  rcases hr T hT X with ⟨v, st₀, t, T', L, h0, X', hL, e1, e2, ⟨⟨r, u, hv, hp, hb⟩, hF⟩, st⟩ | ⟨q, st₀, t, T', L, E, ce, h0, X', hL, e1, e2, ⟨u, hp, hb, hF⟩, hce, hcv, hcl, st⟩
  · cases hv
    obtain ⟨k1, k2, k3⟩ := vx_keep h0 e1 hS hA hf hL hF
    obtain ⟨t2, a1, b1⟩ := kk r u t T'.heap (locs ++ L) e1.symm (by rw [← e2]; exact X'.warmed.alike) hp hb k1 k2 k3 T' rfl X'
    exact ⟨t2, st t2 a1, b1⟩
  · obtain ⟨k1, k2, k3⟩ := vx_keep h0 e1 hS hAX hf hL hF
    obtain ⟨t2, a1, b1⟩ := kx E ce q u t T'.heap (locs ++ L) e1.symm (by rw [← e2]; exact X'.warmed.alike) hp hb k1 k2 k3 (by rw [e1]; exact hce) hcv hcl T' rfl X'
    exact ⟨t2, st.trans a1, b1⟩
end
/-! ===== END ===== -/
/-! ===== BEGIN .. by an interface, an object ===== -/
section
variable {p : Program} {l : Launch} {e : Env} {R : Room} {s : State} {m : MethodId} {args : Array Value} {below : List Frame} {meth : Method} {c : Code} {H : Heap} {locs : List Loc} {cells slots : Nat} {Q : State → Prop}
variable {mc ms : Nat} {free : Addr → Prop} {A0 A1 : Nat → Prop} {H0 : Heap} {a : Array Value} {pc : Nat} {ls : Array Slot} {st0 rest : List Value}
theorem vx_callFq {S SX : Type} {post : Option Nat → S → Prop} {px : SX → Prop} {B : S → State → Prop} {BX : String → SX → State → Prop} {AX : Nat → Prop} (hr : vx_Run5 p l e R s m args below meth c H locs cells slots mc ms (F0 m pc ls st0) rest (va_Qq post B A1 a) (vx_X px BX AX) free) (hS : va_S A0 H0 H locs) (hA : ∀ q, q < H.size → A1 q → A0 q) (hf : ∀ q, free q → A0 q) (hAX : ∀ q, q < H.size → AX q → A0 q)
    (kx : ∀ (E : String) (ce : Cell) (q9 : Addr) (u : SX) (t : State) (H1 : Heap) (locs1 : List Loc), t.heap = H1 → s.vm.Alike t.vm → px u → BX E u t → H.size ≤ H1.size → (∀ q : Nat, q < H.size → ¬ AX q → H1[q]? = H[q]?) → va_S A0 H0 H1 locs1 → H1[q9]? = some ce → ce.vm = .none → s.vm.findClass E = some ce.cls → vx_W p l e R s m args below meth c H1 locs1 (cells + mc) (slots + ms) Q (F0 m pc ls rest) q9)
    (kk : ∀ (r : Option Nat) (u : S) (t : State) (H1 : Heap) (locs1 : List Loc), t.heap = H1 → s.vm.Alike t.vm → post r u → B u t → H.size ≤ H1.size → (∀ q : Nat, q < H.size → ¬ A1 q → H1[q]? = H[q]?) → va_S A0 H0 H1 locs1 → W p l e R s m args below meth c H1 locs1 (cells + mc) (slots + ms) Q (F0 m (pc + 5) ls (va_rf r :: rest))) : W p l e R s m args below meth c H locs cells slots Q (F0 m pc ls st0) := by
  intro T hT X
  rcases hr T hT X with ⟨v, st₀, t, T', L, h0, X', hL, e1, e2, ⟨⟨r, u, hv, hp, hb⟩, hF⟩, st⟩ | ⟨q, st₀, t, T', L, E, ce, h0, X', hL, e1, e2, ⟨u, hp, hb, hF⟩, hce, hcv, hcl, st⟩
  · cases hv
    obtain ⟨k1, k2, k3⟩ := vx_keep h0 e1 hS hA hf hL hF
    obtain ⟨t2, a1, b1⟩ := kk r u t T'.heap (locs ++ L) e1.symm (by rw [← e2]; exact X'.warmed.alike) hp hb k1 k2 k3 T' rfl X'
    exact ⟨t2, st t2 a1, b1⟩
  · obtain ⟨k1, k2, k3⟩ := vx_keep h0 e1 hS hAX hf hL hF
    obtain ⟨t2, a1, b1⟩ := kx E ce q u t T'.heap (locs ++ L) e1.symm (by rw [← e2]; exact X'.warmed.alike) hp hb k1 k2 k3 (by rw [e1]; exact hce) hcv hcl T' rfl X'
    exact ⟨t2, st.trans a1, b1⟩
end
/-! ===== END ===== -/
/-! ===== BEGIN .. by an interface, a constant ===== -/
section
variable {p : Program} {l : Launch} {e : Env} {R : Room} {s : State} {m : MethodId} {args : Array Value} {below : List Frame} {meth : Method} {c : Code} {H : Heap} {locs : List Loc} {cells slots : Nat} {Q : State → Prop}
variable {mc ms : Nat} {free : Addr → Prop} {A0 A1 : Nat → Prop} {H0 : Heap} {a : Array Value} {pc : Nat} {ls : Array Slot} {st0 rest : List Value}
theorem vx_callFe {ad : Nat → Nat} {S SX : Type} {post : Option Nat → S → Prop} {px : SX → Prop} {B : S → State → Prop} {BX : String → SX → State → Prop} {AX : Nat → Prop} (hr : vx_Run5 p l e R s m args below meth c H locs cells slots mc ms (F0 m pc ls st0) rest (va_Qe ad post B A1 a) (vx_X px BX AX) free) (hS : va_S A0 H0 H locs) (hA : ∀ q, q < H.size → A1 q → A0 q) (hf : ∀ q, free q → A0 q) (hAX : ∀ q, q < H.size → AX q → A0 q)
    (kx : ∀ (E : String) (ce : Cell) (q9 : Addr) (u : SX) (t : State) (H1 : Heap) (locs1 : List Loc), t.heap = H1 → s.vm.Alike t.vm → px u → BX E u t → H.size ≤ H1.size → (∀ q : Nat, q < H.size → ¬ AX q → H1[q]? = H[q]?) → va_S A0 H0 H1 locs1 → H1[q9]? = some ce → ce.vm = .none → s.vm.findClass E = some ce.cls → vx_W p l e R s m args below meth c H1 locs1 (cells + mc) (slots + ms) Q (F0 m pc ls rest) q9)
    (kk : ∀ (r : Option Nat) (u : S) (t : State) (H1 : Heap) (locs1 : List Loc), t.heap = H1 → s.vm.Alike t.vm → post r u → B u t → H.size ≤ H1.size → (∀ q : Nat, q < H.size → ¬ A1 q → H1[q]? = H[q]?) → va_S A0 H0 H1 locs1 → W p l e R s m args below meth c H1 locs1 (cells + mc) (slots + ms) Q (F0 m (pc + 5) ls (va_re ad r :: rest))) : W p l e R s m args below meth c H locs cells slots Q (F0 m pc ls st0) := by
  intro T hT X
  rcases hr T hT X with ⟨v, st₀, t, T', L, h0, X', hL, e1, e2, ⟨⟨r, u, hv, hp, hb⟩, hF⟩, st⟩ | ⟨q, st₀, t, T', L, E, ce, h0, X', hL, e1, e2, ⟨u, hp, hb, hF⟩, hce, hcv, hcl, st⟩
  · cases hv
    obtain ⟨k1, k2, k3⟩ := vx_keep h0 e1 hS hA hf hL hF
    obtain ⟨t2, a1, b1⟩ := kk r u t T'.heap (locs ++ L) e1.symm (by rw [← e2]; exact X'.warmed.alike) hp hb k1 k2 k3 T' rfl X'
    exact ⟨t2, st t2 a1, b1⟩
  · obtain ⟨k1, k2, k3⟩ := vx_keep h0 e1 hS hAX hf hL hF
    obtain ⟨t2, a1, b1⟩ := kx E ce q u t T'.heap (locs ++ L) e1.symm (by rw [← e2]; exact X'.warmed.alike) hp hb k1 k2 k3 (by rw [e1]; exact hce) hcv hcl T' rfl X'
    exact ⟨t2, st.trans a1, b1⟩
end
/-! ===== END ===== -/
/-! ===== BEGIN what the machine throws by itself: null at a field, at athrow ===== -/
section VXM2
variable {p : Program} {l : Launch} {e : Env} {R : Room} {s : State} {m : MethodId} {args : Array Value} {below : List Frame} {meth : Method} {c : Code} {H : Heap} {locs : List Loc} {cells slots : Nat}
variable {Q : State → Prop} {cc : ByteArray} {pc : Nat} {ls : Array Slot} {rest : List Value}
theorem vx_getfN {D cl tys} {own ref C : String} {T : u_T} {N ci index : Nat} {Ts : List Cond} (hexec : p.tables.exec = Jvm.exec) (hb : c.code = cc) (hts : ∀ w ∈ Ts, w.before args s = true) (hin : ∀ w ∈ u_ws C T N, w ∈ Ts) (hown : s.vm.findClass own = some m.cls) (hK : va_K D cl tys s) (hc : cl[ci]? = some (C, T, N)) (k : Nat) (hk : k < N) (hlink : (Cond.fieldLink own index ref (T k).2.1 (T k).2.2.1).before args s = true) (hsame : ∀ x, s.fieldFound? (T k).1 (T k).2.1 (T k).2.2.1 = some x → s.fieldFound? ref (T k).2.1 (T k).2.2.1 = some x) (hdg : decode cc pc = .ok (.getfield index, 3)) (kk : vx_NoteN p l e R s m args below meth c H locs cells slots Q (F0 m pc ls rest)) : W p l e R s m args below meth c H locs cells slots Q (F0 m pc ls (.null :: rest)) := by
  obtain ⟨hS, hfc, kC, hkC, -⟩ := hK.1 ci _ hc
  obtain ⟨cf, kf, fi, f, hi, -⟩ := hS k hk
  intro U hU X
  obtain ⟨vm', X1, st1⟩ := X.getfieldNull hexec hown hlink (hsame _ hi) (u_facts hfc hkC (u_lays hts hin hk) hi).1 (g := F0 m pc ls (.null :: rest)) rfl (rest := rest) rfl (by rw [hb]; exact hdg)
  obtain ⟨t, st, q⟩ := kk (U.setVm vm') hU X1
  exact ⟨t, st1 t st, q⟩
theorem vx_getfNN {D cl tys} {own ref C host : String} {T : u_T} {N ci index : Nat} {Ts : List Cond} (hexec : p.tables.exec = Jvm.exec) (hb : c.code = cc) (hts : ∀ w ∈ Ts, w.before args s = true) (hin : ∀ w ∈ u_ws C T N, w ∈ Ts) (hown : s.vm.findClass own = some m.cls) (hK : va_K D cl tys s) (hc : cl[ci]? = some (C, T, N)) (k : Nat) (hk : k < N) (hlink : (Cond.fieldLinkNest own index ref (T k).2.1 (T k).2.2.1 host).before args s = true) (hsame : ∀ x, s.fieldFound? (T k).1 (T k).2.1 (T k).2.2.1 = some x → s.fieldFound? ref (T k).2.1 (T k).2.2.1 = some x) (hdg : decode cc pc = .ok (.getfield index, 3)) (kk : vx_NoteN p l e R s m args below meth c H locs cells slots Q (F0 m pc ls rest)) : W p l e R s m args below meth c H locs cells slots Q (F0 m pc ls (.null :: rest)) := by
  obtain ⟨hS, hfc, kC, hkC, -⟩ := hK.1 ci _ hc
  obtain ⟨cf, kf, fi, f, hi, -⟩ := hS k hk
  intro U hU X
  obtain ⟨vm', X1, st1⟩ := X.getfieldNullNest hexec hown hlink (hsame _ hi) (u_facts hfc hkC (u_lays hts hin hk) hi).1 (g := F0 m pc ls (.null :: rest)) rfl (rest := rest) rfl (by rw [hb]; exact hdg)
  obtain ⟨t, st, q⟩ := kk (U.setVm vm') hU X1
  exact ⟨t, st1 t st, q⟩
theorem vx_putfN {D cl tys} {own ref C : String} {T : u_T} {N ci index : Nat} {Ts : List Cond} (hexec : p.tables.exec = Jvm.exec) (hb : c.code = cc) (hts : ∀ w ∈ Ts, w.before args s = true) (hin : ∀ w ∈ u_ws C T N, w ∈ Ts) (hown : s.vm.findClass own = some m.cls) (hK : va_K D cl tys s) (hc : cl[ci]? = some (C, T, N)) (k : Nat) (hk : k < N) (hlink : (Cond.fieldLink own index ref (T k).2.1 (T k).2.2.1).before args s = true) (hsame : ∀ x, s.fieldFound? (T k).1 (T k).2.1 (T k).2.2.1 = some x → s.fieldFound? ref (T k).2.1 (T k).2.2.1 = some x) (hfin : (T k).2.2.2 = false) {v : Value} (hdg : decode cc pc = .ok (.putfield index, 3)) (kk : vx_NoteN p l e R s m args below meth c H locs cells slots Q (F0 m pc ls rest)) : W p l e R s m args below meth c H locs cells slots Q (F0 m pc ls (v :: .null :: rest)) := by
  obtain ⟨hS, hfc, kC, hkC, -⟩ := hK.1 ci _ hc
  obtain ⟨cf, kf, fi, f, hi, -⟩ := hS k hk
  have hlay := hts _ (hin _ (u_in_lay hk))
  unfold u_lay at hlay
  rw [if_neg (by rw [hfin]; decide)] at hlay
  obtain ⟨c9, k9, cf9, kf9, fi9, f9, -, -, hi9, hst9, hnf9, -⟩ := Cond.lays_spec hlay
  cases hi.symm.trans hi9
  intro U hU X
  obtain ⟨vm', X1, st1⟩ := X.putfieldNull hexec hown hlink (hsame _ hi) hst9 hnf9 (g := F0 m pc ls (v :: .null :: rest)) rfl (v := v) (rest := rest) rfl (by rw [hb]; exact hdg)
  obtain ⟨t, st, q⟩ := kk (U.setVm vm') hU X1
  exact ⟨t, st1 t st, q⟩
theorem vx_putfNN {D cl tys} {own ref C host : String} {T : u_T} {N ci index : Nat} {Ts : List Cond} (hexec : p.tables.exec = Jvm.exec) (hb : c.code = cc) (hts : ∀ w ∈ Ts, w.before args s = true) (hin : ∀ w ∈ u_ws C T N, w ∈ Ts) (hown : s.vm.findClass own = some m.cls) (hK : va_K D cl tys s) (hc : cl[ci]? = some (C, T, N)) (k : Nat) (hk : k < N) (hlink : (Cond.fieldLinkNest own index ref (T k).2.1 (T k).2.2.1 host).before args s = true) (hsame : ∀ x, s.fieldFound? (T k).1 (T k).2.1 (T k).2.2.1 = some x → s.fieldFound? ref (T k).2.1 (T k).2.2.1 = some x) (hfin : (T k).2.2.2 = false) {v : Value} (hdg : decode cc pc = .ok (.putfield index, 3)) (kk : vx_NoteN p l e R s m args below meth c H locs cells slots Q (F0 m pc ls rest)) : W p l e R s m args below meth c H locs cells slots Q (F0 m pc ls (v :: .null :: rest)) := by
  obtain ⟨hS, hfc, kC, hkC, -⟩ := hK.1 ci _ hc
  obtain ⟨cf, kf, fi, f, hi, -⟩ := hS k hk
  have hlay := hts _ (hin _ (u_in_lay hk))
  unfold u_lay at hlay
  rw [if_neg (by rw [hfin]; decide)] at hlay
  obtain ⟨c9, k9, cf9, kf9, fi9, f9, -, -, hi9, hst9, hnf9, -⟩ := Cond.lays_spec hlay
  cases hi.symm.trans hi9
  intro U hU X
  obtain ⟨vm', X1, st1⟩ := X.putfieldNullNest hexec hown hlink (hsame _ hi) hst9 hnf9 (g := F0 m pc ls (v :: .null :: rest)) rfl (v := v) (rest := rest) rfl (by rw [hb]; exact hdg)
  obtain ⟨t, st, q⟩ := kk (U.setVm vm') hU X1
  exact ⟨t, st1 t st, q⟩
theorem vx_athrowN (hexec : p.tables.exec = Jvm.exec) (hb : c.code = cc) (hdg : decode cc pc = .ok (.athrow, 1)) (k : vx_NoteN p l e R s m args below meth c H locs cells slots Q (F0 m pc ls rest)) : W p l e R s m args below meth c H locs cells slots Q (F0 m pc ls (.null :: rest)) := by
  intro T hT X
  obtain ⟨t, st, q⟩ := k T hT X
  exact ⟨t, X.athrowNull hexec (g := F0 m pc ls (.null :: rest)) rfl (rest := rest) rfl (by rw [hb]; exact hdg) t st, q⟩
end VXM2
/-! ===== END ===== -/
end
section
/-! the integers -/
def iI (z : Int) : Int32 := Int32.ofInt z
abbrev Rg (z : Int) : Prop := -2147483648 ≤ z ∧ z < 2147483648
theorem iI_add (a b : Int) : iI (a + b) = iI a + iI b := Int32.ofInt_add a b
theorem iI_sub (a b : Int) : iI (a - b) = iI a - iI b := Int32.ofInt_sub a b
theorem iI_mul (a b : Int) : iI (a * b) = iI a * iI b := Int32.ofInt_mul a b
theorem iI_toInt {z : Int} (h : Rg z) : (iI z).toInt = z := by
  unfold iI; rw [Int32.toInt_ofInt]; obtain ⟨h1, h2⟩ := h
  rw [Int.bmod_def]; simp only [Int32.size]; split <;> omega
theorem iI_self (x : Int32) : iI x.toInt = x := Int32.ofInt_toInt x
theorem iI_rg (x : Int32) : Rg x.toInt := ⟨Int32.le_toInt x, Int32.toInt_lt x⟩
theorem iI_lt {a b : Int} (ha : Rg a) (hb : Rg b) : iI a < iI b ↔ a < b := by rw [Int32.lt_iff_toInt_lt, iI_toInt ha, iI_toInt hb]
theorem iI_le {a b : Int} (ha : Rg a) (hb : Rg b) : iI a ≤ iI b ↔ a ≤ b := by rw [Int32.le_iff_toInt_le, iI_toInt ha, iI_toInt hb]
theorem iI_eq {a b : Int} (ha : Rg a) (hb : Rg b) : iI a = iI b ↔ a = b := by
  constructor
  · intro h; rw [← iI_toInt ha, ← iI_toInt hb, h]
  · intro h; rw [h]
theorem iI_nat (n : Nat) : iI (n : Int) = nI n := by unfold iI nI; exact Int32.ofInt_eq_ofNat
theorem iI_in {z : Int} {N : Nat} (h : 0 ≤ z ∧ z < N) (hN : N < 2147483648) : vp_in (iI z) N := by
  obtain ⟨k, rfl⟩ := Int.eq_ofNat_of_zero_le h.1
  rw [iI_nat]; exact vp_in_nI (by omega) (by omega)
theorem iI_cl {z : Int} (h : 0 ≤ z ∧ z < 2147483648) : (iI z).toNatClampNeg = z.toNat := by
  obtain ⟨k, rfl⟩ := Int.eq_ofNat_of_zero_le h.1
  rw [iI_nat, nI_clamp (by omega)]; simp
/-! the abstract heap: ints, references (below 1000: the cells of the run, from 1000: constants), one double -/
abbrev Wo : Type := (Nat → Nat → Int) × (Nat → Nat → Option Nat) × UInt64
abbrev Ga : Type := (Nat → ClassId) × (Nat → Nat → Nat) × (Nat → ClassId) × (Nat → Nat) × Nat × (Nat → Nat) × Nat
abbrev gD (Γ : Ga) : va_G := (Γ.1, Γ.2.1)
abbrev gC (Γ : Ga) : Nat → ClassId := Γ.2.2.1
abbrev gad (Γ : Ga) : Nat → Nat := Γ.2.2.2.1
abbrev gB (Γ : Ga) : Nat := Γ.2.2.2.2.1
/-- where the law's own cells lie -/
abbrev gN (Γ : Ga) : Nat → Nat := Γ.2.2.2.2.2.1
abbrev gH (Γ : Ga) : Nat := Γ.2.2.2.2.2.2
def gA (Γ : Ga) : Nat → Prop := fun q => (gB Γ ≤ q ∧ q < gB Γ + 243) ∨ gH Γ ≤ q
def rl (Γ : Ga) (a : Nat) : Nat := if a < 243 then gB Γ + a else if a < 1000 then gN Γ (a - 243) else gad Γ (a - 1000)
theorem rl_lt {Γ : Ga} {a : Nat} (h : a < 243) : rl Γ a = gB Γ + a := if_pos h
theorem rl_nw {Γ : Ga} {i : Nat} (h : i < 757) : rl Γ (243 + i) = gN Γ i := by unfold rl; rw [if_neg (by omega), if_pos (by omega), Nat.add_sub_cancel_left]
theorem rl_ad {Γ : Ga} (k : Nat) : rl Γ (1000 + k) = gad Γ k := by unfold rl; rw [if_neg (by omega), if_neg (by omega), Nat.add_sub_cancel_left]
/-- the law's cells among the first n lie where they may, each apart -/
def Nn (Γ : Ga) (n : Nat) : Prop := n ≤ 1000 ∧ ∀ i, 243 + i < n → gH Γ ≤ gN Γ i ∧ (gN Γ i < gB Γ ∨ gB Γ + 243 ≤ gN Γ i) ∧ ∀ j, j < i → gN Γ j ≠ gN Γ i
theorem Nn.le {Γ : Ga} {n : Nat} (h : n ≤ 243) : Nn Γ n := ⟨by omega, fun i hi => by omega⟩
def stk (o : Nat) : Nat := if o = 0 then 1 else if o = 1 then 10 else if o = 2 then 11 else if o = 3 then 12 else if o < 14 then 2 else if o < 17 then 3 else 4
def kd (a : Nat) : Nat :=
  if a = 0 then 0 else if a < 64 then stk ((a - 1) % 21) else if a = 64 then 13 else if a < 68 then 5 else if a = 68 then 6 else if a = 69 then 14
  else if a = 70 then 15 else if a < 73 then 16 else if a = 73 then 8 else if a = 74 then 17 else if a < 243 then stk ((a - 75) % 21)
  else if a = 243 then 7 else if a < 248 then 18 else if a = 248 then 19 else if a = 249 then 20 else if a = 250 then 21 else if a = 251 then 22
  else if a = 252 then 23 else 24
abbrev clss : List vw_C := [(RX8, TX8, 12), (RX7, TX7, 11), (RX4, TX4, 6), (RX1, TX1, 6), (RX3, TX3, 3), (RX5, TX5, 2), (RX6, TX6, 7), (RJ0, TJ0, 4), (RJ4, TJ4, 4)]
abbrev gT (Γ : Ga) : List (ClassId × FieldType) := [(gC Γ 0, .int), (gC Γ 1, .char), (gC Γ 2, .byte), (gC Γ 3, .object RX4), (gC Γ 4, .object RX1), (gC Γ 5, .object RX3), (gC Γ 6, .object RX7), (gC Γ 7, .object RX2)]
def nf (k : Nat) : Nat := match k with | 0 => 12 | 1 => 11 | 2 => 6 | 3 => 6 | 4 => 3 | 5 => 2 | 6 => 7 | 7 => 4 | _ => 4
/-- which fields are references -/
def rfm (k i : Nat) : Bool := match k with
  | 0 => i == 0 || i == 1 || i == 2 || i == 4 || i == 6 || i == 7 || i == 8 || i == 9 || i == 11
  | 1 => i < 3
  | 6 => i == 0 || i == 2 || i == 3 || i == 4
  | 7 => i == 0
  | 8 => i == 0
  | _ => false
def tyk (k : Nat) : Nat := match k with | 10 => 3 | 11 => 4 | 12 => 5 | 13 => 6 | 14 => 1 | 15 => 7 | 16 => 0 | 17 => 2 | 23 => 8 | 24 => 9 | _ => 0
def lnk (k : Nat) : Nat := match k with | 10 => 10 | 11 => 3 | 12 => 4 | 13 => 8 | 14 => 60 | 15 => 20 | 16 => 20 | 17 => 16 | 18 => 111 | 19 => 888 | 20 => 60 | 21 => 63 | 22 => 40 | _ => 1
def isRk (k : Nat) : Bool := k == 10 || k == 11 || k == 12 || k == 13 || k == 15
def fv (Γ : Ga) (ω : Wo) (k a i : Nat) : Value := if rfm k i then va_rf ((ω.2.1 a i).map (rl Γ)) else .int (iI (ω.1 a i))
def EO (Γ : Ga) (ω : Wo) (k a : Nat) : va_E := .inr (k, (List.range (nf k)).map (fv Γ ω k a))
def EI (Γ : Ga) (ω : Wo) (k a : Nat) : va_E := .inl (gC Γ (tyk k), lnk k, .inl fun j => iI (ω.1 a j))
def ER (Γ : Ga) (ω : Wo) (k a : Nat) : va_E := .inl (gC Γ (tyk k), lnk k, .inr (.inr (.inr (.inr fun j => (ω.2.1 a j).map (rl Γ)))))
def EK (Γ : Ga) (ω : Wo) (k a : Nat) : va_E :=
  if k < 9 then EO Γ ω k a else if isRk k then ER Γ ω k a
  else if k = 23 then .inl (gC Γ 8, 1, .inr (.inl fun j => Int64.ofInt (ω.1 a j)))
  else if k = 24 then .inl (gC Γ 9, 1, .inr (.inr (.inr (.inl fun _ => ω.2.2))))
  else EI Γ ω k a
/-- κ: the kinds of the cells (the run's own: kd) -/
def WE (Γ : Ga) (ω : Wo) (a : Nat) (κ : Nat → Nat := kd) : va_E := EK Γ ω (κ a) a
def WL (Γ : Ga) (n : Nat) (ω : Wo) (κ : Nat → Nat := kd) : va_W := (List.range n).map fun a => (rl Γ a, WE Γ ω a κ)
theorem WL_get {Γ : Ga} {n : Nat} {ω : Wo} {a : Nat} {κ : Nat → Nat} (h : a < n) : (WL Γ n ω κ)[a]? = some (rl Γ a, WE Γ ω a κ) := by
  simp [WL, h]
theorem WL_set {Γ : Ga} {n : Nat} {ω ω' : Wo} {a : Nat} {e : va_E} {κ : Nat → Nat} (he : WE Γ ω' a κ = e) (ho : ∀ x, x ≠ a → WE Γ ω' x κ = WE Γ ω x κ) : (WL Γ n ω κ).set a (rl Γ a, e) = WL Γ n ω' κ := by
  apply List.ext_getElem?
  intro i
  rw [List.getElem?_set]
  by_cases hi : i < n
  · rw [WL_get hi, WL_get hi]
    by_cases hx : a = i
    · subst hx; rw [if_pos rfl, if_pos (by simpa [WL] using hi), he]
    · rw [if_neg hx, ho i (fun h => hx h.symm)]
  · have h1 : ∀ ω, (WL Γ n ω κ)[i]? = none := fun ω => by rw [List.getElem?_eq_none]; simp [WL]; omega
    rw [h1, h1]
    by_cases hx : a = i
    · subst hx; rw [if_pos rfl, if_neg (by simp [WL]; omega)]
    · rw [if_neg hx]
/-- the words of the tables that every method is handed -/
def WS : List Cond := lw_tbl.filter goodWord
theorem WS_of {w : Cond} (i : Nat) (h : (lw_tbl[i]?).any (fun v => decide (v = w) && goodWord v) = true) : w ∈ WS := by
  cases hv : lw_tbl[i]? with
  | none => rw [hv] at h; cases h
  | some v =>
    rw [hv] at h
    simp only [Option.any_some, Bool.and_eq_true, decide_eq_true_eq] at h
    obtain ⟨rfl, h2⟩ := h
    exact List.mem_filter.mpr ⟨List.mem_of_getElem? hv, h2⟩
theorem WS_good {w : Cond} (h : w ∈ WS) : goodWord w = true := (List.mem_filter.mp h).2
theorem WS_in {ws : List Cond} (h : ∀ w ∈ ws, w ∈ WS) : GoodIn WS ws := fun w hw => ⟨h w hw, good_of_word (WS_good (h w hw))⟩
/-! what is said of the tables and of what lies below the run -/
abbrev dnm : List String := ["MEMBER", "LEAVE", "TRAIN", "BOAT", "CALL", "BORROW", "GIVE_BACK", "LIMIT", "PASS"]
abbrev dF : List (String × String × String × List Int32) := [("java/lang/Enum", "ordinal", "I", [0, 1, 2, 3, 4, 5, 6, 7, 8]), (RX2, "letter", "I", [109, 120, 117, 98, 99, 111, 103, 108, 116]), (RX2, "digitsOfFirst", "I", [1, 1, 1, 1, 1, 1, 1, 2, 2]), (RX2, "digitsOfSecond", "I", [0, 0, 0, 1, 1, 2, 0, 0, 0])]
abbrev swm : List Int32 := [1, 2, 3, 4, 5, 6, 7, 8, 0]
abbrev strL : List (Nat × String) := [(383, "refused"), (100, "the hours are out of range"), (118, "no such member"), (155, "no such number of a member"), (466, "no such boat"), (184, "no such number of a boat"), (471, "there is no crew for the boat"), (224, "the boat could not be called out"), (473, "the boat is not out"), (239, "no such loan"), (256, "no such number of a loan"), (268, "no such place"), (278, "the text buffer is full"), (288, "the text has a fault"), (305, "a command is refused"), (311, "there is no such reason"), (331, "no such character of the line"), (339, "there are no members"), (370, "no such account"), (372, "there is nothing to undo"), (374, "there is no snapshot")]
abbrev nstM : List (String × Nat × MethodName × String) := [(RX7, 54, yX4_init, RX8), (RX7, 55, yX1_init, RX8), (RX7, 56, yX3_init, RX8), (RX8, 36, yX5_init, RX8), (RX8, 49, yX6_init, RX8), (RX7, 117, yX8_heightAt, RX8), (RX7, 150, yX8_isIn, RX8)]
/-- the JDK's own constants that the writing of a line reads -/
def Kb (Γ : Ga) (U : State) (H : Heap) : Prop :=
  va_Z "java/lang/String" "COMPACT_STRINGS" "Z" (.int 1) (gA Γ) U H ∧ va_Z "java/lang/Integer" "DigitOnes" "[B" (.ref (gad Γ 11)) (gA Γ) U H ∧
  va_T .byte (gad Γ 11) 100 (fun i => .int (iI ((48 + i % 10 : Nat) : Int))) (gA Γ) U H ∧ ∃ v : Value, v.category = 1 ∧ va_Z "jdk/internal/util/Preconditions" "SIOOBE_FORMATTER" "Ljava/util/function/BiFunction;" v (gA Γ) U H
theorem Kb.moved {Γ : Ga} {u U : State} {H : Heap} (hvm : u.vm.Alike U.vm) (h : Kb Γ u H) : Kb Γ U H := ⟨va_Z.moved hvm h.1, va_Z.moved hvm h.2.1, va_T.moved hvm h.2.2.1, let ⟨v, hv, hz⟩ := h.2.2.2; ⟨v, hv, va_Z.moved hvm hz⟩⟩
theorem Kb.kept {Γ : Ga} {U : State} {H H1 : Heap} (h : Kb Γ U H) (hq : ∀ a : Nat, a < H.size → ¬ gA Γ a → H1[a]? = H[a]?) : Kb Γ U H1 := ⟨va_Z.kept h.1 hq, va_Z.kept h.2.1 hq, va_T.kept h.2.2.1 hq, let ⟨v, hv, hz⟩ := h.2.2.2; ⟨v, hv, va_Z.kept hz hq⟩⟩
def Ks (Γ : Ga) (U : State) (H : Heap) : Prop :=
  va_En RX2 "LBoatRota$Deed;" dnm dF (gad Γ) (gA Γ) U H ∧ va_Z RX8 "DEEDS" "[LBoatRota$Deed;" (.ref (gad Γ 9)) (gA Γ) U H ∧
  va_T (.object RX2) (gad Γ 9) 9 (fun i => .ref (gad Γ i)) (gA Γ) U H ∧ va_Z RX0 "$SwitchMap$BoatRota$Deed" "[I" (.ref (gad Γ 10)) (gA Γ) U H ∧
  va_T .int (gad Γ 10) 9 (fun i => .int (swm.getD i 0)) (gA Γ) U H ∧ vx_Zq Bundle.tN "UNASSIGNED_STACK" Bundle.steD (gA Γ) U H ∧ vx_Zq Bundle.tN "SUPPRESSED_SENTINEL" Bundle.listD (gA Γ) U H ∧ Kb Γ U H
theorem va_Nw.warmP {s U : State} {y : MethodName} (hW : s.WarmedH U.vm) (h : va_Nw (.privateMethod y) s) : va_Nw (.privateMethod y) U := Cond.privateMethod_warm hW h
def Kt (U : State) : Prop := (∀ q ∈ nstM, va_Nw (.methodLinkNest q.1 q.2.1 q.2.2.1 q.2.2.2) U) ∧ (va_Nw (.fieldLinkNest RX6 56 RX8 "DEEDS" "[LBoatRota$Deed;" RX8) U ∧ va_Nw (.privateMethod yJ5_ensureCapacityInternal_d00df) U) ∧ ∀ q ∈ strL, ∃ a, vk_R RX8 q.1 q.2 a U
def Kx (Γ : Ga) (U : State) : Prop := va_K (gD Γ) clss (gT Γ) U ∧ Ks Γ U U.heap ∧ Kt U
theorem Ks.moved {Γ : Ga} {u U : State} {H : Heap} (hvm : u.vm.Alike U.vm) (h : Ks Γ u H) : Ks Γ U H :=
  ⟨va_En.moved hvm h.1, va_Z.moved hvm h.2.1, va_T.moved hvm h.2.2.1, va_Z.moved hvm h.2.2.2.1, va_T.moved hvm h.2.2.2.2.1, vx_Zq.moved hvm h.2.2.2.2.2.1, vx_Zq.moved hvm h.2.2.2.2.2.2.1, h.2.2.2.2.2.2.2.moved hvm⟩
theorem Ks.kept {Γ : Ga} {U : State} {H H1 : Heap} (h : Ks Γ U H) (hq : ∀ a : Nat, a < H.size → ¬ gA Γ a → H1[a]? = H[a]?) : Ks Γ U H1 :=
  ⟨va_En.kept h.1 hq, va_Z.kept h.2.1 hq, va_T.kept h.2.2.1 hq, va_Z.kept h.2.2.2.1 hq, va_T.kept h.2.2.2.2.1 hq, vx_Zq.kept h.2.2.2.2.2.1 hq, vx_Zq.kept h.2.2.2.2.2.2.1 hq, h.2.2.2.2.2.2.2.kept hq⟩
theorem Kt.warm {s U : State} (hW : s.WarmedH U.vm) (h : Kt s) : Kt U :=
  ⟨fun q hq => va_Nw.warmM hW (h.1 q hq), ⟨va_Nw.warmF hW h.2.1.1, va_Nw.warmP hW h.2.1.2⟩, fun q hq => let ⟨a, ha⟩ := h.2.2 q hq; ⟨a, vk_R.warm hW ha⟩⟩
theorem Kt.same {u U : State} (hv : u.vm = U.vm) (h : Kt u) : Kt U :=
  ⟨fun q hq => va_Nw.same rfl hv (h.1 q hq), ⟨va_Nw.same rfl hv h.2.1.1, va_Nw.same rfl hv h.2.1.2⟩, fun q hq => let ⟨a, ha⟩ := h.2.2 q hq; ⟨a, vk_R.same hv.symm ha⟩⟩
theorem Kx.next {Γ : Ga} {s U : State} {H : Heap} {locs : List Loc} (h : Kx Γ s) (hW : s.WarmedH U.vm) (hU : U.heap = H) (hS : va_S (gA Γ) s.heap H locs) : Kx Γ U :=
  ⟨va_K.moved hW.alike h.1, by rw [hU]; exact (h.2.1.kept hS.2.1).moved hW.alike, h.2.2.warm hW⟩
theorem Kx.calling {Γ : Ga} {U : State} (g : JFrame) (mk : MethodId) (a : Array Value) (h : Kx Γ U) : Kx Γ (U.calling g mk a) :=
  ⟨va_K.moved (Vm.Alike.refl _) h.1, Ks.moved (Vm.Alike.refl _) h.2.1, h.2.2.same rfl⟩
/-- the heap holds the run's cells -/
def Rp (Γ : Ga) (n : Nat) (ω : Wo) (H : Heap) (κ : Nat → Nat := kd) : Prop := va_P (gD Γ) clss (WL Γ n ω κ) H ∧ (∀ a i, Rg (ω.1 a i)) ∧ Nn Γ n
theorem Nn.inj {Γ : Ga} {n : Nat} (h : Nn Γ n) {i j : Nat} (hi : i < n) (hj : j < n) (e : rl Γ i = rl Γ j) : i = j := by
  have hn := h.1
  have key : ∀ a b, a < n → b < n → a < b → rl Γ a ≠ rl Γ b := by
    intro a b ha hb hab e
    by_cases h2 : b < 243
    · rw [rl_lt (by omega), rl_lt h2] at e; omega
    · obtain ⟨k, rfl⟩ : ∃ k, b = 243 + k := ⟨b - 243, by omega⟩
      obtain ⟨q1, q2, q3⟩ := h.2 k hb
      rw [rl_nw (by omega)] at e
      by_cases h1 : a < 243
      · rw [rl_lt h1] at e; omega
      · obtain ⟨m, rfl⟩ : ∃ m, a = 243 + m := ⟨a - 243, by omega⟩
        rw [rl_nw (by omega)] at e
        exact q3 m (by omega) e
  rcases Nat.lt_trichotomy i j with q | q | q
  · exact (key i j hi hj q e).elim
  · exact q
  · exact (key j i hj hi q e.symm).elim
theorem Nn.gA {Γ : Ga} {n : Nat} (h : Nn Γ n) {i : Nat} (hi : i < n) : gA Γ (rl Γ i) := by
  by_cases h1 : i < 243
  · rw [rl_lt h1]; left; omega
  · obtain ⟨k, rfl⟩ : ∃ k, i = 243 + k := ⟨i - 243, by omega⟩
    have hn := h.1
    rw [rl_nw (by omega)]; right; exact (h.2 k hi).1
theorem Rp.D0 {Γ : Ga} {n : Nat} {ω : Wo} {κ : Nat → Nat} (hn : Nn Γ n) : va_D (gA Γ) (WL Γ n ω κ) := by
  have hx : ∀ (i : Nat) (p : Nat × va_E), (WL Γ n ω κ)[i]? = some p → i < n ∧ p = (rl Γ i, WE Γ ω i κ) := by
    intro i p h
    by_cases hi : i < n
    · rw [WL_get hi] at h; exact ⟨hi, (Option.some.inj h).symm⟩
    · rw [List.getElem?_eq_none (by simp [WL]; omega)] at h; cases h
  refine ⟨fun i j p q hp hq h => ?_, fun k q hq => ?_⟩
  · obtain ⟨h1, rfl⟩ := hx i p hp
    obtain ⟨h2, rfl⟩ := hx j q hq
    exact hn.inj h1 h2 h
  · obtain ⟨h1, rfl⟩ := hx k q hq
    exact hn.gA h1
theorem Rp.D {Γ : Ga} {n : Nat} {ω : Wo} {H : Heap} {κ : Nat → Nat} (h : Rp Γ n ω H κ) : va_D (gA Γ) (WL Γ n ω κ) := Rp.D0 h.2.2
theorem Rp.lt {Γ : Ga} {n : Nat} {ω : Wo} {H : Heap} {κ : Nat → Nat} (h : Rp Γ n ω H κ) {a : Nat} (ha : a < n) : rl Γ a < H.size := (h.1 a _ (WL_get ha)).lt
theorem Rp.size {Γ : Ga} {n : Nat} {ω : Wo} {H : Heap} {κ : Nat → Nat} (h : Rp Γ n ω H κ) (hn : 0 < n) (h2 : n ≤ 243) : gB Γ + n ≤ H.size := by
  have := h.lt (a := n - 1) (by omega)
  rw [rl_lt (by omega)] at this; omega
theorem fa_and (a b : Nat) : nI a &&& nI b = nI (a &&& b) := by
  apply Int32.toBitVec_inj.mp; simp [nI, Int32.toBitVec_ofNat]
theorem fa_or (a b : Nat) : nI a ||| nI b = nI (a ||| b) := by
  apply Int32.toBitVec_inj.mp; simp [nI, Int32.toBitVec_ofNat]
theorem nx_m1 {a : Nat} (h : a < 4294967296) : nI a ^^^ iI (-1) = nI (4294967295 - a) := by
  apply Int32.toBitVec_inj.mp
  have h1 : (iI (-1)).toBitVec = BitVec.allOnes 32 := by decide
  rw [Int32.toBitVec_xor, h1, BitVec.xor_allOnes]
  apply BitVec.eq_of_toNat_eq
  simp [nI, Int32.toBitVec_ofNat, BitVec.toNat_not]
  omega
theorem nx_shl {a k : Nat} (h : k < 31) : nI a <<< (nI k &&& 31) = nI (a * 2 ^ k) := by
  have hs : ((nI k &&& 31).toBitVec.smod 32).toNat = k := by
    have : ∀ n, n < 31 → ((nI n &&& 31).toBitVec.smod 32).toNat = n := by decide +kernel
    exact this k h
  apply Int32.toBitVec_inj.mp
  apply BitVec.eq_of_toNat_eq
  rw [pk_shl _ _ k hs]
  simp [nI, Int32.toBitVec_ofNat, Nat.mod_mul_mod]
theorem nx_shr {a k : Nat} (h : k < 31) (ha : a < 2147483648) : nI a >>> (nI k &&& 31) = nI (a / 2 ^ k) := by
  refine pk_shrN (by omega) _ k ?_
  have : ∀ n, n < 31 → ((nI n &&& 31).toBitVec.smod 32).toNat = n := by decide +kernel
  exact this k h
theorem iI_ne0 {b : Int} (h : 0 < b ∧ b < 2147483648) : ¬ iI b = 0 := by
  intro q
  have := (iI_eq (a := b) (b := 0) ⟨by omega, by omega⟩ ⟨by omega, by omega⟩).mp q
  omega
theorem iI_div {a b : Int} (ha : 0 ≤ a ∧ a < 2147483648) (hb : 0 < b ∧ b < 2147483648) : iI a / iI b = iI (a / b) := by
  obtain ⟨x, rfl⟩ := Int.eq_ofNat_of_zero_le ha.1
  obtain ⟨y, rfl⟩ := Int.eq_ofNat_of_zero_le (Int.le_of_lt hb.1)
  rw [iI_nat, iI_nat, pk_div (by omega) (by omega) (by omega), ← iI_nat]; rfl
theorem iI_rem {a b : Int} (ha : 0 ≤ a ∧ a < 2147483648) (hb : 0 < b ∧ b < 2147483648) : iI a - iI a / iI b * iI b = iI (a % b) := by
  obtain ⟨x, rfl⟩ := Int.eq_ofNat_of_zero_le ha.1
  obtain ⟨y, rfl⟩ := Int.eq_ofNat_of_zero_le (Int.le_of_lt hb.1)
  rw [iI_nat, iI_nat, pk_rem (by omega) (by omega) (by omega), ← iI_nat]; rfl
theorem iI_char (a : Int) : ((iI a).toUInt32 % 65536).toInt32 = iI (a % 65536) := by
  rw [pk_char]
  have h0 : 0 ≤ a % 65536 := Int.emod_nonneg _ (by decide)
  obtain ⟨k, hk⟩ := Int.eq_ofNat_of_zero_le h0
  rw [hk, iI_nat]; congr 1
  have h1 : (iI a).toBitVec = BitVec.ofInt 32 a := rfl
  rw [h1]
  have h2 : ((BitVec.ofInt 32 a).toNat : Int) = a % 4294967296 := by rw [BitVec.toNat_ofInt]; have := Int.emod_nonneg a (show (4294967296 : Int) ≠ 0 by decide); simp; omega
  omega
end
section
/-! the walk's judgement over the abstract heap, and its rows -/
def lk (ls : Array Slot) (L : List (Option Value)) : Prop := ls.size = L.length ∧ lv_wf ls ∧ ∀ (i : Nat) (v : Value), L[i]? = some (some v) → ls[i]? = some (.val v)
def lz : Nat → List (Option Value) → List (Nat × Value)
  | _, [] => []
  | i, none :: T => lz (i + 1) T
  | i, some v :: T => (i, v) :: lz (i + 1) T
theorem lz_mem : ∀ (L : List (Option Value)) (k j : Nat) (v : Value), (j, v) ∈ lz k L ↔ k ≤ j ∧ L[j - k]? = some (some v) := by
  intro L
  induction L with
  | nil => intro k j v; simp [lz]
  | cons a T ih =>
    intro k j v
    have h0 : ∀ j', k + 1 ≤ j' → (a :: T)[j' - k]? = T[j' - (k + 1)]? := by
      intro j' hj
      have : j' - k = (j' - (k + 1)) + 1 := by omega
      rw [this, List.getElem?_cons_succ]
    cases a with
    | none =>
      show (j, v) ∈ lz (k + 1) T ↔ _
      rw [ih]
      constructor
      · rintro ⟨h1, h2⟩; exact ⟨by omega, by rw [h0 j h1]; exact h2⟩
      · rintro ⟨h1, h2⟩
        rcases Nat.eq_or_lt_of_le h1 with h | h
        · subst h; simp at h2
        · exact ⟨h, by rw [← h0 j h]; exact h2⟩
    | some w =>
      show (j, v) ∈ (k, w) :: lz (k + 1) T ↔ _
      rw [List.mem_cons, ih]
      constructor
      · rintro (h | ⟨h1, h2⟩)
        · cases h; exact ⟨Nat.le_refl _, by simp⟩
        · exact ⟨by omega, by rw [h0 j h1]; exact h2⟩
      · rintro ⟨h1, h2⟩
        rcases Nat.eq_or_lt_of_le h1 with h | h
        · subst h; simp at h2; subst h2; exact Or.inl rfl
        · exact Or.inr ⟨h, by rw [← h0 j h]; exact h2⟩
theorem lk.has {ls : Array Slot} {L : List (Option Value)} (h : lk ls L) : lv_has ls L.length (lz 0 L) := by
  refine ⟨h.1, h.2.1, fun q hq => ?_⟩
  obtain ⟨j, v⟩ := q
  obtain ⟨-, h2⟩ := (lz_mem L 0 j v).mp hq
  exact h.2.2 j v (by simpa using h2)
def okp : Option Value → Bool
  | some v => v.category == 1
  | none => true
theorem lk.set {ls' : Array Slot} {L : List (Option Value)} {i : Nat} {x : Value} (hi : i < L.length) (hp : i = 0 ∨ okp (L.getD (i - 1) none) = true)
    (h : lv_has ls' L.length ((i, x) :: (lz 0 L).filter (fun q => !(q.1 == i) && !(q.1 + 1 == i && q.2.category == 2)))) : lk ls' (L.set i (some x)) := by
  refine ⟨by rw [h.1, List.length_set], h.2.1, fun j v hj => ?_⟩
  rw [List.getElem?_set] at hj
  by_cases e : i = j
  · subst e
    rw [if_pos rfl, if_pos hi] at hj
    cases hj
    exact h.2.2 (i, x) List.mem_cons_self
  · rw [if_neg e] at hj
    refine h.2.2 (j, v) (List.mem_cons_of_mem _ (List.mem_filter.mpr ⟨(lz_mem L 0 j v).mpr ⟨Nat.zero_le _, by simpa using hj⟩, ?_⟩))
    have e1 : (j == i) = false := by simpa using fun h => e h.symm
    simp only [e1, Bool.not_false, Bool.true_and, Bool.not_eq_true', Bool.and_eq_false_iff]
    by_cases e2 : j + 1 = i
    · right
      rcases hp with hp | hp
      · omega
      · have : L.getD (i - 1) none = some v := by rw [List.getD_eq_getElem?_getD, show i - 1 = j by omega, hj]; rfl
        rw [this] at hp
        have h1 : v.category = 1 := by simpa [okp] using hp
        simp [h1]
    · left; simpa using e2
def Cx (Γ : Ga) (p : Program) (l : Launch) (s : State) (m : MethodId) (args : Array Value) (meth : Method) (c : Code) (cc : ByteArray) (own : String) (nL : Nat) : Prop :=
  p.tables.exec = Jvm.exec ∧ c.code = cc ∧ c.maxLocals = nL ∧ s.vm.findClass own = some m.cls ∧ (∀ w ∈ WS, w.before args s = true) ∧ Kx Γ s ∧ meth.locks = false
def J (Γ : Ga) (p : Program) (l : Launch) (e : Env) (R : Room) (s : State) (m : MethodId) (args : Array Value) (below : List Frame) (meth : Method) (c : Code) (Q : State → Prop) (n ce sl : Nat) (pc : Nat) (L : List (Option Value)) (S : List Value) (ω : Wo) (κ : Nat → Nat := kd) : Prop :=
  ∀ (H : Heap) (locs : List Loc) (ls : Array Slot), Rp Γ n ω H κ → va_S (gA Γ) s.heap H locs → lk ls L → W p l e R s m args below meth c H locs ce sl Q (F0 m pc ls S)
section ROWS
variable {κ : Nat → Nat} {Γ : Ga} {p : Program} {l : Launch} {e : Env} {R : Room} {s : State} {m : MethodId} {args : Array Value} {below : List Frame} {meth : Method} {c : Code} {Q : State → Prop} {n ce sl : Nat} {cc : ByteArray} {own : String} {nL pc pc' : Nat} {L : List (Option Value)} {S : List Value} {ω : Wo}

theorem j_iconst (C : Cx Γ p l s m args meth c cc own nL) {z : Int} (d : Dx cc pc (.iconst z) 1 pc') (kk : J Γ p l e R s m args below meth c Q n ce sl pc' L (.int (iI z) :: S) ω κ) : J Γ p l e R s m args below meth c Q n ce sl pc L S ω κ := by
  intro H locs ls hP hS hl
  obtain ⟨hd, rfl⟩ := d
  exact lv_iconst C.1 C.2.1 hd rfl (kk H locs ls hP hS hl)
theorem j_bipush (C : Cx Γ p l s m args meth c cc own nL) {z : Int} (hz : (Int8.ofInt z).toInt32 = Int32.ofInt z) (d : Dx cc pc (.bipush z) 2 pc') (kk : J Γ p l e R s m args below meth c Q n ce sl pc' L (.int (iI z) :: S) ω κ) : J Γ p l e R s m args below meth c Q n ce sl pc L S ω κ := by
  intro H locs ls hP hS hl
  obtain ⟨hd, rfl⟩ := d
  exact lv_bipush C.1 C.2.1 hd hz (kk H locs ls hP hS hl)
theorem j_sipush (C : Cx Γ p l s m args meth c cc own nL) {z : Int} (hz : (Int16.ofInt z).toInt32 = Int32.ofInt z) (d : Dx cc pc (.sipush z) 3 pc') (kk : J Γ p l e R s m args below meth c Q n ce sl pc' L (.int (iI z) :: S) ω κ) : J Γ p l e R s m args below meth c Q n ce sl pc L S ω κ := by
  intro H locs ls hP hS hl
  obtain ⟨hd, rfl⟩ := d
  exact lv_sipush C.1 C.2.1 hd hz (kk H locs ls hP hS hl)
theorem j_null (C : Cx Γ p l s m args meth c cc own nL)  (d : Dx cc pc (.aconst_null) 1 pc') (kk : J Γ p l e R s m args below meth c Q n ce sl pc' L (.null :: S) ω κ) : J Γ p l e R s m args below meth c Q n ce sl pc L S ω κ := by
  intro H locs ls hP hS hl
  obtain ⟨hd, rfl⟩ := d
  exact lv_null C.1 C.2.1 hd (kk H locs ls hP hS hl)
theorem j_iadd (C : Cx Γ p l s m args meth c cc own nL) {a b : Int} (d : Dx cc pc (.iadd) 1 pc') (kk : J Γ p l e R s m args below meth c Q n ce sl pc' L (.int (iI (a + b)) :: S) ω κ) : J Γ p l e R s m args below meth c Q n ce sl pc L (.int (iI b) :: .int (iI a) :: S) ω κ := by
  intro H locs ls hP hS hl
  obtain ⟨hd, rfl⟩ := d
  refine lv_iadd C.1 C.2.1 hd ?_
  rw [← iI_add]
  exact kk H locs ls hP hS hl
theorem j_isub (C : Cx Γ p l s m args meth c cc own nL) {a b : Int} (d : Dx cc pc (.isub) 1 pc') (kk : J Γ p l e R s m args below meth c Q n ce sl pc' L (.int (iI (a - b)) :: S) ω κ) : J Γ p l e R s m args below meth c Q n ce sl pc L (.int (iI b) :: .int (iI a) :: S) ω κ := by
  intro H locs ls hP hS hl
  obtain ⟨hd, rfl⟩ := d
  refine lv_isub C.1 C.2.1 hd ?_
  rw [← iI_sub]
  exact kk H locs ls hP hS hl
theorem j_imul (C : Cx Γ p l s m args meth c cc own nL) {a b : Int} (d : Dx cc pc (.imul) 1 pc') (kk : J Γ p l e R s m args below meth c Q n ce sl pc' L (.int (iI (a * b)) :: S) ω κ) : J Γ p l e R s m args below meth c Q n ce sl pc L (.int (iI b) :: .int (iI a) :: S) ω κ := by
  intro H locs ls hP hS hl
  obtain ⟨hd, rfl⟩ := d
  refine lv_imul C.1 C.2.1 hd ?_
  rw [← iI_mul]
  exact kk H locs ls hP hS hl
theorem j_iand (C : Cx Γ p l s m args meth c cc own nL) {a b : Nat} (d : Dx cc pc (.iand) 1 pc') (kk : J Γ p l e R s m args below meth c Q n ce sl pc' L (.int (iI ((a &&& b : Nat) : Int)) :: S) ω κ) : J Γ p l e R s m args below meth c Q n ce sl pc L (.int (iI (b : Int)) :: .int (iI (a : Int)) :: S) ω κ := by
  intro H locs ls hP hS hl
  obtain ⟨hd, rfl⟩ := d
  refine lv_iand C.1 C.2.1 hd ?_
  rw [iI_nat, iI_nat, fa_and, ← iI_nat]
  exact kk H locs ls hP hS hl
theorem j_ior (C : Cx Γ p l s m args meth c cc own nL) {a b : Nat} (d : Dx cc pc (.ior) 1 pc') (kk : J Γ p l e R s m args below meth c Q n ce sl pc' L (.int (iI ((a ||| b : Nat) : Int)) :: S) ω κ) : J Γ p l e R s m args below meth c Q n ce sl pc L (.int (iI (b : Int)) :: .int (iI (a : Int)) :: S) ω κ := by
  intro H locs ls hP hS hl
  obtain ⟨hd, rfl⟩ := d
  refine lv_ior C.1 C.2.1 hd ?_
  rw [iI_nat, iI_nat, fa_or, ← iI_nat]
  exact kk H locs ls hP hS hl
theorem j_ixorm (C : Cx Γ p l s m args meth c cc own nL) {a : Nat} (h : a < 4294967296) (d : Dx cc pc (.ixor) 1 pc') (kk : J Γ p l e R s m args below meth c Q n ce sl pc' L (.int (iI ((4294967295 - a : Nat) : Int)) :: S) ω κ) : J Γ p l e R s m args below meth c Q n ce sl pc L (.int (iI (-1)) :: .int (iI (a : Int)) :: S) ω κ := by
  intro H locs ls hP hS hl
  obtain ⟨hd, rfl⟩ := d
  refine lv_ixor C.1 C.2.1 hd ?_
  rw [iI_nat, nx_m1 h, ← iI_nat]
  exact kk H locs ls hP hS hl
theorem j_ishl (C : Cx Γ p l s m args meth c cc own nL) {a k : Nat} (h : k < 31) (d : Dx cc pc (.ishl) 1 pc') (kk : J Γ p l e R s m args below meth c Q n ce sl pc' L (.int (iI ((a * 2 ^ k : Nat) : Int)) :: S) ω κ) : J Γ p l e R s m args below meth c Q n ce sl pc L (.int (iI (k : Int)) :: .int (iI (a : Int)) :: S) ω κ := by
  intro H locs ls hP hS hl
  obtain ⟨hd, rfl⟩ := d
  refine lv_ishl C.1 C.2.1 hd ?_
  rw [iI_nat, iI_nat, nx_shl h, ← iI_nat]
  exact kk H locs ls hP hS hl
theorem j_ishr (C : Cx Γ p l s m args meth c cc own nL) {a k : Nat} (h : k < 31) (ha : a < 2147483648) (d : Dx cc pc (.ishr) 1 pc') (kk : J Γ p l e R s m args below meth c Q n ce sl pc' L (.int (iI ((a / 2 ^ k : Nat) : Int)) :: S) ω κ) : J Γ p l e R s m args below meth c Q n ce sl pc L (.int (iI (k : Int)) :: .int (iI (a : Int)) :: S) ω κ := by
  intro H locs ls hP hS hl
  obtain ⟨hd, rfl⟩ := d
  refine lv_ishr C.1 C.2.1 hd ?_
  rw [iI_nat, iI_nat, nx_shr h ha, ← iI_nat]
  exact kk H locs ls hP hS hl
theorem j_idiv (C : Cx Γ p l s m args meth c cc own nL) {a b : Int} (ha : 0 ≤ a ∧ a < 2147483648) (hb : 0 < b ∧ b < 2147483648) (d : Dx cc pc (.idiv) 1 pc') (kk : J Γ p l e R s m args below meth c Q n ce sl pc' L (.int (iI (a / b)) :: S) ω κ) : J Γ p l e R s m args below meth c Q n ce sl pc L (.int (iI b) :: .int (iI a) :: S) ω κ := by
  intro H locs ls hP hS hl
  obtain ⟨hd, rfl⟩ := d
  refine lv_idiv C.1 C.2.1 hd (iI_ne0 hb) ?_
  rw [iI_div ha hb]
  exact kk H locs ls hP hS hl
theorem j_irem (C : Cx Γ p l s m args meth c cc own nL) {a b : Int} (ha : 0 ≤ a ∧ a < 2147483648) (hb : 0 < b ∧ b < 2147483648) (d : Dx cc pc (.irem) 1 pc') (kk : J Γ p l e R s m args below meth c Q n ce sl pc' L (.int (iI (a % b)) :: S) ω κ) : J Γ p l e R s m args below meth c Q n ce sl pc L (.int (iI b) :: .int (iI a) :: S) ω κ := by
  intro H locs ls hP hS hl
  obtain ⟨hd, rfl⟩ := d
  refine lv_irem C.1 C.2.1 hd (iI_ne0 hb) ?_
  rw [iI_rem ha hb]
  exact kk H locs ls hP hS hl
theorem j_i2c (C : Cx Γ p l s m args meth c cc own nL) {a : Int} (d : Dx cc pc (.i2c) 1 pc') (kk : J Γ p l e R s m args below meth c Q n ce sl pc' L (.int (iI (a % 65536)) :: S) ω κ) : J Γ p l e R s m args below meth c Q n ce sl pc L (.int (iI a) :: S) ω κ := by
  intro H locs ls hP hS hl
  obtain ⟨hd, rfl⟩ := d
  refine lv_i2c C.1 C.2.1 hd (iI_char a) ?_
  exact kk H locs ls hP hS hl
theorem j_dup (C : Cx Γ p l s m args meth c cc own nL) {v : Value} (hv : v.category = 1) (d : Dx cc pc (.dup) 1 pc') (kk : J Γ p l e R s m args below meth c Q n ce sl pc' L (v :: v :: S) ω κ) : J Γ p l e R s m args below meth c Q n ce sl pc L (v :: S) ω κ := by
  intro H locs ls hP hS hl
  obtain ⟨hd, rfl⟩ := d
  exact lv_dup C.1 C.2.1 hd hv (kk H locs ls hP hS hl)
theorem j_pop (C : Cx Γ p l s m args meth c cc own nL) {v : Value} (hv : v.category = 1) (d : Dx cc pc (.pop) 1 pc') (kk : J Γ p l e R s m args below meth c Q n ce sl pc' L S ω κ) : J Γ p l e R s m args below meth c Q n ce sl pc L (v :: S) ω κ := by
  intro H locs ls hP hS hl
  obtain ⟨hd, rfl⟩ := d
  exact lv_pop C.1 C.2.1 hd hv (kk H locs ls hP hS hl)
theorem j_dup2 (C : Cx Γ p l s m args meth c cc own nL) {v w : Value} (hv : v.category = 1) (hw : w.category = 1) (d : Dx cc pc (.dup2) 1 pc') (kk : J Γ p l e R s m args below meth c Q n ce sl pc' L (v :: w :: v :: w :: S) ω κ) : J Γ p l e R s m args below meth c Q n ce sl pc L (v :: w :: S) ω κ := by
  intro H locs ls hP hS hl
  obtain ⟨hd, rfl⟩ := d
  exact lv_dup2_11 C.1 C.2.1 hd hv hw (kk H locs ls hP hS hl)
theorem j_dup_x1 (C : Cx Γ p l s m args meth c cc own nL) {v w : Value} (hv : v.category = 1) (hw : w.category = 1) (d : Dx cc pc (.dup_x1) 1 pc') (kk : J Γ p l e R s m args below meth c Q n ce sl pc' L (v :: w :: v :: S) ω κ) : J Γ p l e R s m args below meth c Q n ce sl pc L (v :: w :: S) ω κ := by
  intro H locs ls hP hS hl
  obtain ⟨hd, rfl⟩ := d
  exact lv_dup_x1 C.1 C.2.1 hd hv hw (kk H locs ls hP hS hl)
theorem j_iload0 (C : Cx Γ p l s m args meth c cc own nL) {x : Int32} {T : List (Option Value)} (d : Dx cc pc (.iload_n 0) 1 pc') (kk : J Γ p l e R s m args below meth c Q n ce sl pc' (some (.int x) :: T) (.int x :: S) ω κ) : J Γ p l e R s m args below meth c Q n ce sl pc (some (.int x) :: T) S ω κ := by
  intro H locs ls hP hS hl
  obtain ⟨hd, rfl⟩ := d
  exact lv_iload_n C.1 C.2.1 hd rfl (hl.2.2 0 _ rfl) (kk H locs ls hP hS hl)
theorem j_aload0 (C : Cx Γ p l s m args meth c cc own nL) {x : Nat} {T : List (Option Value)} (d : Dx cc pc (.aload_n 0) 1 pc') (kk : J Γ p l e R s m args below meth c Q n ce sl pc' (some (.ref x) :: T) (.ref x :: S) ω κ) : J Γ p l e R s m args below meth c Q n ce sl pc (some (.ref x) :: T) S ω κ := by
  intro H locs ls hP hS hl
  obtain ⟨hd, rfl⟩ := d
  exact lv_aload_n C.1 C.2.1 hd rfl (hl.2.2 0 _ rfl) (kk H locs ls hP hS hl)
theorem j_aload0N (C : Cx Γ p l s m args meth c cc own nL) {T : List (Option Value)} (d : Dx cc pc (.aload_n 0) 1 pc') (kk : J Γ p l e R s m args below meth c Q n ce sl pc' (some .null :: T) (.null :: S) ω κ) : J Γ p l e R s m args below meth c Q n ce sl pc (some .null :: T) S ω κ := by
  intro H locs ls hP hS hl
  obtain ⟨hd, rfl⟩ := d
  exact lv_aload_nN C.1 C.2.1 hd rfl (hl.2.2 0 _ rfl) (kk H locs ls hP hS hl)
theorem j_istore0 (C : Cx Γ p l s m args meth c cc own nL) {x : Int32} {w : Option Value} {T : List (Option Value)} (d : Dx cc pc (.istore_n 0) 1 pc') (kk : J Γ p l e R s m args below meth c Q n ce sl pc' (some (.int x) :: T) S ω κ) : J Γ p l e R s m args below meth c Q n ce sl pc (w :: T) (.int x :: S) ω κ := by
  intro H locs ls hP hS hl
  obtain ⟨hd, rfl⟩ := d
  refine lv_istore_n C.1 C.2.1 hd rfl hl.has (show 0 < _ by simp) rfl (fun ls2 h2 => kk H locs ls2 hP hS (lk.set (L := (w :: T)) (i := 0) (by simp) (Or.inl rfl) h2))
theorem j_astore0 (C : Cx Γ p l s m args meth c cc own nL) {x : Nat} {w : Option Value} {T : List (Option Value)} (d : Dx cc pc (.astore_n 0) 1 pc') (kk : J Γ p l e R s m args below meth c Q n ce sl pc' (some (.ref x) :: T) S ω κ) : J Γ p l e R s m args below meth c Q n ce sl pc (w :: T) (.ref x :: S) ω κ := by
  intro H locs ls hP hS hl
  obtain ⟨hd, rfl⟩ := d
  refine lv_astore_n C.1 C.2.1 hd rfl hl.has (show 0 < _ by simp) rfl (fun ls2 h2 => kk H locs ls2 hP hS (lk.set (L := (w :: T)) (i := 0) (by simp) (Or.inl rfl) h2))
theorem j_astore0N (C : Cx Γ p l s m args meth c cc own nL)  {w : Option Value} {T : List (Option Value)} (d : Dx cc pc (.astore_n 0) 1 pc') (kk : J Γ p l e R s m args below meth c Q n ce sl pc' (some (.null) :: T) S ω κ) : J Γ p l e R s m args below meth c Q n ce sl pc (w :: T) (.null :: S) ω κ := by
  intro H locs ls hP hS hl
  obtain ⟨hd, rfl⟩ := d
  refine lv_astore_nN C.1 C.2.1 hd rfl hl.has (show 0 < _ by simp) rfl (fun ls2 h2 => kk H locs ls2 hP hS (lk.set (L := (w :: T)) (i := 0) (by simp) (Or.inl rfl) h2))
theorem j_iinc0 (C : Cx Γ p l s m args meth c cc own nL) {a z : Int} {T : List (Option Value)} (d : Dx cc pc (.iinc 0 z) 3 pc') (kk : J Γ p l e R s m args below meth c Q n ce sl pc' (some (.int (iI (a + z))) :: T) S ω κ) : J Γ p l e R s m args below meth c Q n ce sl pc (some (.int (iI a)) :: T) S ω κ := by
  intro H locs ls hP hS hl
  obtain ⟨hd, rfl⟩ := d
  obtain ⟨k, hk⟩ := List.getElem?_of_mem ((lz_mem (some (.int (iI a)) :: T) 0 0 (.int (iI a))).mpr ⟨Nat.zero_le _, by simp⟩)
  exact lv_iinc C.1 C.2.1 hd hl.has hk (iI_add a z).symm (by simp) rfl (fun ls2 h2 => kk H locs ls2 hP hS (lk.set (L := (some (.int (iI a)) :: T)) (i := 0) (by simp) (Or.inl rfl) h2))
theorem j_iload1 (C : Cx Γ p l s m args meth c cc own nL) {v0 : Option Value} {x : Int32} {T : List (Option Value)} (d : Dx cc pc (.iload_n 1) 1 pc') (kk : J Γ p l e R s m args below meth c Q n ce sl pc' (v0 :: some (.int x) :: T) (.int x :: S) ω κ) : J Γ p l e R s m args below meth c Q n ce sl pc (v0 :: some (.int x) :: T) S ω κ := by
  intro H locs ls hP hS hl
  obtain ⟨hd, rfl⟩ := d
  exact lv_iload_n C.1 C.2.1 hd rfl (hl.2.2 1 _ rfl) (kk H locs ls hP hS hl)
theorem j_aload1 (C : Cx Γ p l s m args meth c cc own nL) {v0 : Option Value} {x : Nat} {T : List (Option Value)} (d : Dx cc pc (.aload_n 1) 1 pc') (kk : J Γ p l e R s m args below meth c Q n ce sl pc' (v0 :: some (.ref x) :: T) (.ref x :: S) ω κ) : J Γ p l e R s m args below meth c Q n ce sl pc (v0 :: some (.ref x) :: T) S ω κ := by
  intro H locs ls hP hS hl
  obtain ⟨hd, rfl⟩ := d
  exact lv_aload_n C.1 C.2.1 hd rfl (hl.2.2 1 _ rfl) (kk H locs ls hP hS hl)
theorem j_aload1N (C : Cx Γ p l s m args meth c cc own nL) {v0 : Option Value} {T : List (Option Value)} (d : Dx cc pc (.aload_n 1) 1 pc') (kk : J Γ p l e R s m args below meth c Q n ce sl pc' (v0 :: some .null :: T) (.null :: S) ω κ) : J Γ p l e R s m args below meth c Q n ce sl pc (v0 :: some .null :: T) S ω κ := by
  intro H locs ls hP hS hl
  obtain ⟨hd, rfl⟩ := d
  exact lv_aload_nN C.1 C.2.1 hd rfl (hl.2.2 1 _ rfl) (kk H locs ls hP hS hl)
theorem j_istore1 (C : Cx Γ p l s m args meth c cc own nL) {v0 : Option Value} {x : Int32} {w : Option Value} {T : List (Option Value)} (ho : okp v0 = true) (d : Dx cc pc (.istore_n 1) 1 pc') (kk : J Γ p l e R s m args below meth c Q n ce sl pc' (v0 :: some (.int x) :: T) S ω κ) : J Γ p l e R s m args below meth c Q n ce sl pc (v0 :: w :: T) (.int x :: S) ω κ := by
  intro H locs ls hP hS hl
  obtain ⟨hd, rfl⟩ := d
  refine lv_istore_n C.1 C.2.1 hd rfl hl.has (show 1 < _ by simp) rfl (fun ls2 h2 => kk H locs ls2 hP hS (lk.set (L := (v0 :: w :: T)) (i := 1) (by simp) (Or.inr ho) h2))
theorem j_astore1 (C : Cx Γ p l s m args meth c cc own nL) {v0 : Option Value} {x : Nat} {w : Option Value} {T : List (Option Value)} (ho : okp v0 = true) (d : Dx cc pc (.astore_n 1) 1 pc') (kk : J Γ p l e R s m args below meth c Q n ce sl pc' (v0 :: some (.ref x) :: T) S ω κ) : J Γ p l e R s m args below meth c Q n ce sl pc (v0 :: w :: T) (.ref x :: S) ω κ := by
  intro H locs ls hP hS hl
  obtain ⟨hd, rfl⟩ := d
  refine lv_astore_n C.1 C.2.1 hd rfl hl.has (show 1 < _ by simp) rfl (fun ls2 h2 => kk H locs ls2 hP hS (lk.set (L := (v0 :: w :: T)) (i := 1) (by simp) (Or.inr ho) h2))
theorem j_astore1N (C : Cx Γ p l s m args meth c cc own nL) {v0 : Option Value}  {w : Option Value} {T : List (Option Value)} (ho : okp v0 = true) (d : Dx cc pc (.astore_n 1) 1 pc') (kk : J Γ p l e R s m args below meth c Q n ce sl pc' (v0 :: some (.null) :: T) S ω κ) : J Γ p l e R s m args below meth c Q n ce sl pc (v0 :: w :: T) (.null :: S) ω κ := by
  intro H locs ls hP hS hl
  obtain ⟨hd, rfl⟩ := d
  refine lv_astore_nN C.1 C.2.1 hd rfl hl.has (show 1 < _ by simp) rfl (fun ls2 h2 => kk H locs ls2 hP hS (lk.set (L := (v0 :: w :: T)) (i := 1) (by simp) (Or.inr ho) h2))
theorem j_iinc1 (C : Cx Γ p l s m args meth c cc own nL) {v0 : Option Value} {a z : Int} {T : List (Option Value)} (ho : okp v0 = true) (d : Dx cc pc (.iinc 1 z) 3 pc') (kk : J Γ p l e R s m args below meth c Q n ce sl pc' (v0 :: some (.int (iI (a + z))) :: T) S ω κ) : J Γ p l e R s m args below meth c Q n ce sl pc (v0 :: some (.int (iI a)) :: T) S ω κ := by
  intro H locs ls hP hS hl
  obtain ⟨hd, rfl⟩ := d
  obtain ⟨k, hk⟩ := List.getElem?_of_mem ((lz_mem (v0 :: some (.int (iI a)) :: T) 0 1 (.int (iI a))).mpr ⟨Nat.zero_le _, by simp⟩)
  exact lv_iinc C.1 C.2.1 hd hl.has hk (iI_add a z).symm (by simp) rfl (fun ls2 h2 => kk H locs ls2 hP hS (lk.set (L := (v0 :: some (.int (iI a)) :: T)) (i := 1) (by simp) (Or.inr ho) h2))
theorem j_iload2 (C : Cx Γ p l s m args meth c cc own nL) {v0 v1 : Option Value} {x : Int32} {T : List (Option Value)} (d : Dx cc pc (.iload_n 2) 1 pc') (kk : J Γ p l e R s m args below meth c Q n ce sl pc' (v0 :: v1 :: some (.int x) :: T) (.int x :: S) ω κ) : J Γ p l e R s m args below meth c Q n ce sl pc (v0 :: v1 :: some (.int x) :: T) S ω κ := by
  intro H locs ls hP hS hl
  obtain ⟨hd, rfl⟩ := d
  exact lv_iload_n C.1 C.2.1 hd rfl (hl.2.2 2 _ rfl) (kk H locs ls hP hS hl)
theorem j_aload2 (C : Cx Γ p l s m args meth c cc own nL) {v0 v1 : Option Value} {x : Nat} {T : List (Option Value)} (d : Dx cc pc (.aload_n 2) 1 pc') (kk : J Γ p l e R s m args below meth c Q n ce sl pc' (v0 :: v1 :: some (.ref x) :: T) (.ref x :: S) ω κ) : J Γ p l e R s m args below meth c Q n ce sl pc (v0 :: v1 :: some (.ref x) :: T) S ω κ := by
  intro H locs ls hP hS hl
  obtain ⟨hd, rfl⟩ := d
  exact lv_aload_n C.1 C.2.1 hd rfl (hl.2.2 2 _ rfl) (kk H locs ls hP hS hl)
theorem j_aload2N (C : Cx Γ p l s m args meth c cc own nL) {v0 v1 : Option Value} {T : List (Option Value)} (d : Dx cc pc (.aload_n 2) 1 pc') (kk : J Γ p l e R s m args below meth c Q n ce sl pc' (v0 :: v1 :: some .null :: T) (.null :: S) ω κ) : J Γ p l e R s m args below meth c Q n ce sl pc (v0 :: v1 :: some .null :: T) S ω κ := by
  intro H locs ls hP hS hl
  obtain ⟨hd, rfl⟩ := d
  exact lv_aload_nN C.1 C.2.1 hd rfl (hl.2.2 2 _ rfl) (kk H locs ls hP hS hl)
theorem j_istore2 (C : Cx Γ p l s m args meth c cc own nL) {v0 v1 : Option Value} {x : Int32} {w : Option Value} {T : List (Option Value)} (ho : okp v1 = true) (d : Dx cc pc (.istore_n 2) 1 pc') (kk : J Γ p l e R s m args below meth c Q n ce sl pc' (v0 :: v1 :: some (.int x) :: T) S ω κ) : J Γ p l e R s m args below meth c Q n ce sl pc (v0 :: v1 :: w :: T) (.int x :: S) ω κ := by
  intro H locs ls hP hS hl
  obtain ⟨hd, rfl⟩ := d
  refine lv_istore_n C.1 C.2.1 hd rfl hl.has (show 2 < _ by simp) rfl (fun ls2 h2 => kk H locs ls2 hP hS (lk.set (L := (v0 :: v1 :: w :: T)) (i := 2) (by simp) (Or.inr ho) h2))
theorem j_astore2 (C : Cx Γ p l s m args meth c cc own nL) {v0 v1 : Option Value} {x : Nat} {w : Option Value} {T : List (Option Value)} (ho : okp v1 = true) (d : Dx cc pc (.astore_n 2) 1 pc') (kk : J Γ p l e R s m args below meth c Q n ce sl pc' (v0 :: v1 :: some (.ref x) :: T) S ω κ) : J Γ p l e R s m args below meth c Q n ce sl pc (v0 :: v1 :: w :: T) (.ref x :: S) ω κ := by
  intro H locs ls hP hS hl
  obtain ⟨hd, rfl⟩ := d
  refine lv_astore_n C.1 C.2.1 hd rfl hl.has (show 2 < _ by simp) rfl (fun ls2 h2 => kk H locs ls2 hP hS (lk.set (L := (v0 :: v1 :: w :: T)) (i := 2) (by simp) (Or.inr ho) h2))
theorem j_astore2N (C : Cx Γ p l s m args meth c cc own nL) {v0 v1 : Option Value}  {w : Option Value} {T : List (Option Value)} (ho : okp v1 = true) (d : Dx cc pc (.astore_n 2) 1 pc') (kk : J Γ p l e R s m args below meth c Q n ce sl pc' (v0 :: v1 :: some (.null) :: T) S ω κ) : J Γ p l e R s m args below meth c Q n ce sl pc (v0 :: v1 :: w :: T) (.null :: S) ω κ := by
  intro H locs ls hP hS hl
  obtain ⟨hd, rfl⟩ := d
  refine lv_astore_nN C.1 C.2.1 hd rfl hl.has (show 2 < _ by simp) rfl (fun ls2 h2 => kk H locs ls2 hP hS (lk.set (L := (v0 :: v1 :: w :: T)) (i := 2) (by simp) (Or.inr ho) h2))
theorem j_iinc2 (C : Cx Γ p l s m args meth c cc own nL) {v0 v1 : Option Value} {a z : Int} {T : List (Option Value)} (ho : okp v1 = true) (d : Dx cc pc (.iinc 2 z) 3 pc') (kk : J Γ p l e R s m args below meth c Q n ce sl pc' (v0 :: v1 :: some (.int (iI (a + z))) :: T) S ω κ) : J Γ p l e R s m args below meth c Q n ce sl pc (v0 :: v1 :: some (.int (iI a)) :: T) S ω κ := by
  intro H locs ls hP hS hl
  obtain ⟨hd, rfl⟩ := d
  obtain ⟨k, hk⟩ := List.getElem?_of_mem ((lz_mem (v0 :: v1 :: some (.int (iI a)) :: T) 0 2 (.int (iI a))).mpr ⟨Nat.zero_le _, by simp⟩)
  exact lv_iinc C.1 C.2.1 hd hl.has hk (iI_add a z).symm (by simp) rfl (fun ls2 h2 => kk H locs ls2 hP hS (lk.set (L := (v0 :: v1 :: some (.int (iI a)) :: T)) (i := 2) (by simp) (Or.inr ho) h2))
theorem j_iload3 (C : Cx Γ p l s m args meth c cc own nL) {v0 v1 v2 : Option Value} {x : Int32} {T : List (Option Value)} (d : Dx cc pc (.iload_n 3) 1 pc') (kk : J Γ p l e R s m args below meth c Q n ce sl pc' (v0 :: v1 :: v2 :: some (.int x) :: T) (.int x :: S) ω κ) : J Γ p l e R s m args below meth c Q n ce sl pc (v0 :: v1 :: v2 :: some (.int x) :: T) S ω κ := by
  intro H locs ls hP hS hl
  obtain ⟨hd, rfl⟩ := d
  exact lv_iload_n C.1 C.2.1 hd rfl (hl.2.2 3 _ rfl) (kk H locs ls hP hS hl)
theorem j_aload3 (C : Cx Γ p l s m args meth c cc own nL) {v0 v1 v2 : Option Value} {x : Nat} {T : List (Option Value)} (d : Dx cc pc (.aload_n 3) 1 pc') (kk : J Γ p l e R s m args below meth c Q n ce sl pc' (v0 :: v1 :: v2 :: some (.ref x) :: T) (.ref x :: S) ω κ) : J Γ p l e R s m args below meth c Q n ce sl pc (v0 :: v1 :: v2 :: some (.ref x) :: T) S ω κ := by
  intro H locs ls hP hS hl
  obtain ⟨hd, rfl⟩ := d
  exact lv_aload_n C.1 C.2.1 hd rfl (hl.2.2 3 _ rfl) (kk H locs ls hP hS hl)
theorem j_aload3N (C : Cx Γ p l s m args meth c cc own nL) {v0 v1 v2 : Option Value} {T : List (Option Value)} (d : Dx cc pc (.aload_n 3) 1 pc') (kk : J Γ p l e R s m args below meth c Q n ce sl pc' (v0 :: v1 :: v2 :: some .null :: T) (.null :: S) ω κ) : J Γ p l e R s m args below meth c Q n ce sl pc (v0 :: v1 :: v2 :: some .null :: T) S ω κ := by
  intro H locs ls hP hS hl
  obtain ⟨hd, rfl⟩ := d
  exact lv_aload_nN C.1 C.2.1 hd rfl (hl.2.2 3 _ rfl) (kk H locs ls hP hS hl)
theorem j_istore3 (C : Cx Γ p l s m args meth c cc own nL) {v0 v1 v2 : Option Value} {x : Int32} {w : Option Value} {T : List (Option Value)} (ho : okp v2 = true) (d : Dx cc pc (.istore_n 3) 1 pc') (kk : J Γ p l e R s m args below meth c Q n ce sl pc' (v0 :: v1 :: v2 :: some (.int x) :: T) S ω κ) : J Γ p l e R s m args below meth c Q n ce sl pc (v0 :: v1 :: v2 :: w :: T) (.int x :: S) ω κ := by
  intro H locs ls hP hS hl
  obtain ⟨hd, rfl⟩ := d
  refine lv_istore_n C.1 C.2.1 hd rfl hl.has (show 3 < _ by simp) rfl (fun ls2 h2 => kk H locs ls2 hP hS (lk.set (L := (v0 :: v1 :: v2 :: w :: T)) (i := 3) (by simp) (Or.inr ho) h2))
theorem j_astore3 (C : Cx Γ p l s m args meth c cc own nL) {v0 v1 v2 : Option Value} {x : Nat} {w : Option Value} {T : List (Option Value)} (ho : okp v2 = true) (d : Dx cc pc (.astore_n 3) 1 pc') (kk : J Γ p l e R s m args below meth c Q n ce sl pc' (v0 :: v1 :: v2 :: some (.ref x) :: T) S ω κ) : J Γ p l e R s m args below meth c Q n ce sl pc (v0 :: v1 :: v2 :: w :: T) (.ref x :: S) ω κ := by
  intro H locs ls hP hS hl
  obtain ⟨hd, rfl⟩ := d
  refine lv_astore_n C.1 C.2.1 hd rfl hl.has (show 3 < _ by simp) rfl (fun ls2 h2 => kk H locs ls2 hP hS (lk.set (L := (v0 :: v1 :: v2 :: w :: T)) (i := 3) (by simp) (Or.inr ho) h2))
theorem j_astore3N (C : Cx Γ p l s m args meth c cc own nL) {v0 v1 v2 : Option Value}  {w : Option Value} {T : List (Option Value)} (ho : okp v2 = true) (d : Dx cc pc (.astore_n 3) 1 pc') (kk : J Γ p l e R s m args below meth c Q n ce sl pc' (v0 :: v1 :: v2 :: some (.null) :: T) S ω κ) : J Γ p l e R s m args below meth c Q n ce sl pc (v0 :: v1 :: v2 :: w :: T) (.null :: S) ω κ := by
  intro H locs ls hP hS hl
  obtain ⟨hd, rfl⟩ := d
  refine lv_astore_nN C.1 C.2.1 hd rfl hl.has (show 3 < _ by simp) rfl (fun ls2 h2 => kk H locs ls2 hP hS (lk.set (L := (v0 :: v1 :: v2 :: w :: T)) (i := 3) (by simp) (Or.inr ho) h2))
theorem j_iinc3 (C : Cx Γ p l s m args meth c cc own nL) {v0 v1 v2 : Option Value} {a z : Int} {T : List (Option Value)} (ho : okp v2 = true) (d : Dx cc pc (.iinc 3 z) 3 pc') (kk : J Γ p l e R s m args below meth c Q n ce sl pc' (v0 :: v1 :: v2 :: some (.int (iI (a + z))) :: T) S ω κ) : J Γ p l e R s m args below meth c Q n ce sl pc (v0 :: v1 :: v2 :: some (.int (iI a)) :: T) S ω κ := by
  intro H locs ls hP hS hl
  obtain ⟨hd, rfl⟩ := d
  obtain ⟨k, hk⟩ := List.getElem?_of_mem ((lz_mem (v0 :: v1 :: v2 :: some (.int (iI a)) :: T) 0 3 (.int (iI a))).mpr ⟨Nat.zero_le _, by simp⟩)
  exact lv_iinc C.1 C.2.1 hd hl.has hk (iI_add a z).symm (by simp) rfl (fun ls2 h2 => kk H locs ls2 hP hS (lk.set (L := (v0 :: v1 :: v2 :: some (.int (iI a)) :: T)) (i := 3) (by simp) (Or.inr ho) h2))
theorem j_iload4 (C : Cx Γ p l s m args meth c cc own nL) {v0 v1 v2 v3 : Option Value} {x : Int32} {T : List (Option Value)} (d : Dx cc pc (.iload 4) 2 pc') (kk : J Γ p l e R s m args below meth c Q n ce sl pc' (v0 :: v1 :: v2 :: v3 :: some (.int x) :: T) (.int x :: S) ω κ) : J Γ p l e R s m args below meth c Q n ce sl pc (v0 :: v1 :: v2 :: v3 :: some (.int x) :: T) S ω κ := by
  intro H locs ls hP hS hl
  obtain ⟨hd, rfl⟩ := d
  exact lv_iload C.1 C.2.1 hd (hl.2.2 4 _ rfl) (kk H locs ls hP hS hl)
theorem j_aload4 (C : Cx Γ p l s m args meth c cc own nL) {v0 v1 v2 v3 : Option Value} {x : Nat} {T : List (Option Value)} (d : Dx cc pc (.aload 4) 2 pc') (kk : J Γ p l e R s m args below meth c Q n ce sl pc' (v0 :: v1 :: v2 :: v3 :: some (.ref x) :: T) (.ref x :: S) ω κ) : J Γ p l e R s m args below meth c Q n ce sl pc (v0 :: v1 :: v2 :: v3 :: some (.ref x) :: T) S ω κ := by
  intro H locs ls hP hS hl
  obtain ⟨hd, rfl⟩ := d
  exact lv_aload C.1 C.2.1 hd (hl.2.2 4 _ rfl) (kk H locs ls hP hS hl)
theorem j_aload4N (C : Cx Γ p l s m args meth c cc own nL) {v0 v1 v2 v3 : Option Value} {T : List (Option Value)} (d : Dx cc pc (.aload 4) 2 pc') (kk : J Γ p l e R s m args below meth c Q n ce sl pc' (v0 :: v1 :: v2 :: v3 :: some .null :: T) (.null :: S) ω κ) : J Γ p l e R s m args below meth c Q n ce sl pc (v0 :: v1 :: v2 :: v3 :: some .null :: T) S ω κ := by
  intro H locs ls hP hS hl
  obtain ⟨hd, rfl⟩ := d
  exact lv_aloadN C.1 C.2.1 hd (hl.2.2 4 _ rfl) (kk H locs ls hP hS hl)
theorem j_istore4 (C : Cx Γ p l s m args meth c cc own nL) {v0 v1 v2 v3 : Option Value} {x : Int32} {w : Option Value} {T : List (Option Value)} (ho : okp v3 = true) (d : Dx cc pc (.istore 4) 2 pc') (kk : J Γ p l e R s m args below meth c Q n ce sl pc' (v0 :: v1 :: v2 :: v3 :: some (.int x) :: T) S ω κ) : J Γ p l e R s m args below meth c Q n ce sl pc (v0 :: v1 :: v2 :: v3 :: w :: T) (.int x :: S) ω κ := by
  intro H locs ls hP hS hl
  obtain ⟨hd, rfl⟩ := d
  refine lv_istore C.1 C.2.1 hd hl.has (show 4 < _ by simp) rfl (fun ls2 h2 => kk H locs ls2 hP hS (lk.set (L := (v0 :: v1 :: v2 :: v3 :: w :: T)) (i := 4) (by simp) (Or.inr ho) h2))
theorem j_astore4 (C : Cx Γ p l s m args meth c cc own nL) {v0 v1 v2 v3 : Option Value} {x : Nat} {w : Option Value} {T : List (Option Value)} (ho : okp v3 = true) (d : Dx cc pc (.astore 4) 2 pc') (kk : J Γ p l e R s m args below meth c Q n ce sl pc' (v0 :: v1 :: v2 :: v3 :: some (.ref x) :: T) S ω κ) : J Γ p l e R s m args below meth c Q n ce sl pc (v0 :: v1 :: v2 :: v3 :: w :: T) (.ref x :: S) ω κ := by
  intro H locs ls hP hS hl
  obtain ⟨hd, rfl⟩ := d
  refine lv_astore C.1 C.2.1 hd hl.has (show 4 < _ by simp) rfl (fun ls2 h2 => kk H locs ls2 hP hS (lk.set (L := (v0 :: v1 :: v2 :: v3 :: w :: T)) (i := 4) (by simp) (Or.inr ho) h2))
theorem j_astore4N (C : Cx Γ p l s m args meth c cc own nL) {v0 v1 v2 v3 : Option Value}  {w : Option Value} {T : List (Option Value)} (ho : okp v3 = true) (d : Dx cc pc (.astore 4) 2 pc') (kk : J Γ p l e R s m args below meth c Q n ce sl pc' (v0 :: v1 :: v2 :: v3 :: some (.null) :: T) S ω κ) : J Γ p l e R s m args below meth c Q n ce sl pc (v0 :: v1 :: v2 :: v3 :: w :: T) (.null :: S) ω κ := by
  intro H locs ls hP hS hl
  obtain ⟨hd, rfl⟩ := d
  refine lv_astoreN C.1 C.2.1 hd hl.has (show 4 < _ by simp) rfl (fun ls2 h2 => kk H locs ls2 hP hS (lk.set (L := (v0 :: v1 :: v2 :: v3 :: w :: T)) (i := 4) (by simp) (Or.inr ho) h2))
theorem j_iinc4 (C : Cx Γ p l s m args meth c cc own nL) {v0 v1 v2 v3 : Option Value} {a z : Int} {T : List (Option Value)} (ho : okp v3 = true) (d : Dx cc pc (.iinc 4 z) 3 pc') (kk : J Γ p l e R s m args below meth c Q n ce sl pc' (v0 :: v1 :: v2 :: v3 :: some (.int (iI (a + z))) :: T) S ω κ) : J Γ p l e R s m args below meth c Q n ce sl pc (v0 :: v1 :: v2 :: v3 :: some (.int (iI a)) :: T) S ω κ := by
  intro H locs ls hP hS hl
  obtain ⟨hd, rfl⟩ := d
  obtain ⟨k, hk⟩ := List.getElem?_of_mem ((lz_mem (v0 :: v1 :: v2 :: v3 :: some (.int (iI a)) :: T) 0 4 (.int (iI a))).mpr ⟨Nat.zero_le _, by simp⟩)
  exact lv_iinc C.1 C.2.1 hd hl.has hk (iI_add a z).symm (by simp) rfl (fun ls2 h2 => kk H locs ls2 hP hS (lk.set (L := (v0 :: v1 :: v2 :: v3 :: some (.int (iI a)) :: T)) (i := 4) (by simp) (Or.inr ho) h2))
theorem j_iload5 (C : Cx Γ p l s m args meth c cc own nL) {v0 v1 v2 v3 v4 : Option Value} {x : Int32} {T : List (Option Value)} (d : Dx cc pc (.iload 5) 2 pc') (kk : J Γ p l e R s m args below meth c Q n ce sl pc' (v0 :: v1 :: v2 :: v3 :: v4 :: some (.int x) :: T) (.int x :: S) ω κ) : J Γ p l e R s m args below meth c Q n ce sl pc (v0 :: v1 :: v2 :: v3 :: v4 :: some (.int x) :: T) S ω κ := by
  intro H locs ls hP hS hl
  obtain ⟨hd, rfl⟩ := d
  exact lv_iload C.1 C.2.1 hd (hl.2.2 5 _ rfl) (kk H locs ls hP hS hl)
theorem j_aload5 (C : Cx Γ p l s m args meth c cc own nL) {v0 v1 v2 v3 v4 : Option Value} {x : Nat} {T : List (Option Value)} (d : Dx cc pc (.aload 5) 2 pc') (kk : J Γ p l e R s m args below meth c Q n ce sl pc' (v0 :: v1 :: v2 :: v3 :: v4 :: some (.ref x) :: T) (.ref x :: S) ω κ) : J Γ p l e R s m args below meth c Q n ce sl pc (v0 :: v1 :: v2 :: v3 :: v4 :: some (.ref x) :: T) S ω κ := by
  intro H locs ls hP hS hl
  obtain ⟨hd, rfl⟩ := d
  exact lv_aload C.1 C.2.1 hd (hl.2.2 5 _ rfl) (kk H locs ls hP hS hl)
theorem j_aload5N (C : Cx Γ p l s m args meth c cc own nL) {v0 v1 v2 v3 v4 : Option Value} {T : List (Option Value)} (d : Dx cc pc (.aload 5) 2 pc') (kk : J Γ p l e R s m args below meth c Q n ce sl pc' (v0 :: v1 :: v2 :: v3 :: v4 :: some .null :: T) (.null :: S) ω κ) : J Γ p l e R s m args below meth c Q n ce sl pc (v0 :: v1 :: v2 :: v3 :: v4 :: some .null :: T) S ω κ := by
  intro H locs ls hP hS hl
  obtain ⟨hd, rfl⟩ := d
  exact lv_aloadN C.1 C.2.1 hd (hl.2.2 5 _ rfl) (kk H locs ls hP hS hl)
theorem j_istore5 (C : Cx Γ p l s m args meth c cc own nL) {v0 v1 v2 v3 v4 : Option Value} {x : Int32} {w : Option Value} {T : List (Option Value)} (ho : okp v4 = true) (d : Dx cc pc (.istore 5) 2 pc') (kk : J Γ p l e R s m args below meth c Q n ce sl pc' (v0 :: v1 :: v2 :: v3 :: v4 :: some (.int x) :: T) S ω κ) : J Γ p l e R s m args below meth c Q n ce sl pc (v0 :: v1 :: v2 :: v3 :: v4 :: w :: T) (.int x :: S) ω κ := by
  intro H locs ls hP hS hl
  obtain ⟨hd, rfl⟩ := d
  refine lv_istore C.1 C.2.1 hd hl.has (show 5 < _ by simp) rfl (fun ls2 h2 => kk H locs ls2 hP hS (lk.set (L := (v0 :: v1 :: v2 :: v3 :: v4 :: w :: T)) (i := 5) (by simp) (Or.inr ho) h2))
theorem j_astore5 (C : Cx Γ p l s m args meth c cc own nL) {v0 v1 v2 v3 v4 : Option Value} {x : Nat} {w : Option Value} {T : List (Option Value)} (ho : okp v4 = true) (d : Dx cc pc (.astore 5) 2 pc') (kk : J Γ p l e R s m args below meth c Q n ce sl pc' (v0 :: v1 :: v2 :: v3 :: v4 :: some (.ref x) :: T) S ω κ) : J Γ p l e R s m args below meth c Q n ce sl pc (v0 :: v1 :: v2 :: v3 :: v4 :: w :: T) (.ref x :: S) ω κ := by
  intro H locs ls hP hS hl
  obtain ⟨hd, rfl⟩ := d
  refine lv_astore C.1 C.2.1 hd hl.has (show 5 < _ by simp) rfl (fun ls2 h2 => kk H locs ls2 hP hS (lk.set (L := (v0 :: v1 :: v2 :: v3 :: v4 :: w :: T)) (i := 5) (by simp) (Or.inr ho) h2))
theorem j_astore5N (C : Cx Γ p l s m args meth c cc own nL) {v0 v1 v2 v3 v4 : Option Value}  {w : Option Value} {T : List (Option Value)} (ho : okp v4 = true) (d : Dx cc pc (.astore 5) 2 pc') (kk : J Γ p l e R s m args below meth c Q n ce sl pc' (v0 :: v1 :: v2 :: v3 :: v4 :: some (.null) :: T) S ω κ) : J Γ p l e R s m args below meth c Q n ce sl pc (v0 :: v1 :: v2 :: v3 :: v4 :: w :: T) (.null :: S) ω κ := by
  intro H locs ls hP hS hl
  obtain ⟨hd, rfl⟩ := d
  refine lv_astoreN C.1 C.2.1 hd hl.has (show 5 < _ by simp) rfl (fun ls2 h2 => kk H locs ls2 hP hS (lk.set (L := (v0 :: v1 :: v2 :: v3 :: v4 :: w :: T)) (i := 5) (by simp) (Or.inr ho) h2))
theorem j_iinc5 (C : Cx Γ p l s m args meth c cc own nL) {v0 v1 v2 v3 v4 : Option Value} {a z : Int} {T : List (Option Value)} (ho : okp v4 = true) (d : Dx cc pc (.iinc 5 z) 3 pc') (kk : J Γ p l e R s m args below meth c Q n ce sl pc' (v0 :: v1 :: v2 :: v3 :: v4 :: some (.int (iI (a + z))) :: T) S ω κ) : J Γ p l e R s m args below meth c Q n ce sl pc (v0 :: v1 :: v2 :: v3 :: v4 :: some (.int (iI a)) :: T) S ω κ := by
  intro H locs ls hP hS hl
  obtain ⟨hd, rfl⟩ := d
  obtain ⟨k, hk⟩ := List.getElem?_of_mem ((lz_mem (v0 :: v1 :: v2 :: v3 :: v4 :: some (.int (iI a)) :: T) 0 5 (.int (iI a))).mpr ⟨Nat.zero_le _, by simp⟩)
  exact lv_iinc C.1 C.2.1 hd hl.has hk (iI_add a z).symm (by simp) rfl (fun ls2 h2 => kk H locs ls2 hP hS (lk.set (L := (v0 :: v1 :: v2 :: v3 :: v4 :: some (.int (iI a)) :: T)) (i := 5) (by simp) (Or.inr ho) h2))
theorem j_iload6 (C : Cx Γ p l s m args meth c cc own nL) {v0 v1 v2 v3 v4 v5 : Option Value} {x : Int32} {T : List (Option Value)} (d : Dx cc pc (.iload 6) 2 pc') (kk : J Γ p l e R s m args below meth c Q n ce sl pc' (v0 :: v1 :: v2 :: v3 :: v4 :: v5 :: some (.int x) :: T) (.int x :: S) ω κ) : J Γ p l e R s m args below meth c Q n ce sl pc (v0 :: v1 :: v2 :: v3 :: v4 :: v5 :: some (.int x) :: T) S ω κ := by
  intro H locs ls hP hS hl
  obtain ⟨hd, rfl⟩ := d
  exact lv_iload C.1 C.2.1 hd (hl.2.2 6 _ rfl) (kk H locs ls hP hS hl)
theorem j_aload6 (C : Cx Γ p l s m args meth c cc own nL) {v0 v1 v2 v3 v4 v5 : Option Value} {x : Nat} {T : List (Option Value)} (d : Dx cc pc (.aload 6) 2 pc') (kk : J Γ p l e R s m args below meth c Q n ce sl pc' (v0 :: v1 :: v2 :: v3 :: v4 :: v5 :: some (.ref x) :: T) (.ref x :: S) ω κ) : J Γ p l e R s m args below meth c Q n ce sl pc (v0 :: v1 :: v2 :: v3 :: v4 :: v5 :: some (.ref x) :: T) S ω κ := by
  intro H locs ls hP hS hl
  obtain ⟨hd, rfl⟩ := d
  exact lv_aload C.1 C.2.1 hd (hl.2.2 6 _ rfl) (kk H locs ls hP hS hl)
theorem j_aload6N (C : Cx Γ p l s m args meth c cc own nL) {v0 v1 v2 v3 v4 v5 : Option Value} {T : List (Option Value)} (d : Dx cc pc (.aload 6) 2 pc') (kk : J Γ p l e R s m args below meth c Q n ce sl pc' (v0 :: v1 :: v2 :: v3 :: v4 :: v5 :: some .null :: T) (.null :: S) ω κ) : J Γ p l e R s m args below meth c Q n ce sl pc (v0 :: v1 :: v2 :: v3 :: v4 :: v5 :: some .null :: T) S ω κ := by
  intro H locs ls hP hS hl
  obtain ⟨hd, rfl⟩ := d
  exact lv_aloadN C.1 C.2.1 hd (hl.2.2 6 _ rfl) (kk H locs ls hP hS hl)
theorem j_istore6 (C : Cx Γ p l s m args meth c cc own nL) {v0 v1 v2 v3 v4 v5 : Option Value} {x : Int32} {w : Option Value} {T : List (Option Value)} (ho : okp v5 = true) (d : Dx cc pc (.istore 6) 2 pc') (kk : J Γ p l e R s m args below meth c Q n ce sl pc' (v0 :: v1 :: v2 :: v3 :: v4 :: v5 :: some (.int x) :: T) S ω κ) : J Γ p l e R s m args below meth c Q n ce sl pc (v0 :: v1 :: v2 :: v3 :: v4 :: v5 :: w :: T) (.int x :: S) ω κ := by
  intro H locs ls hP hS hl
  obtain ⟨hd, rfl⟩ := d
  refine lv_istore C.1 C.2.1 hd hl.has (show 6 < _ by simp) rfl (fun ls2 h2 => kk H locs ls2 hP hS (lk.set (L := (v0 :: v1 :: v2 :: v3 :: v4 :: v5 :: w :: T)) (i := 6) (by simp) (Or.inr ho) h2))
theorem j_astore6 (C : Cx Γ p l s m args meth c cc own nL) {v0 v1 v2 v3 v4 v5 : Option Value} {x : Nat} {w : Option Value} {T : List (Option Value)} (ho : okp v5 = true) (d : Dx cc pc (.astore 6) 2 pc') (kk : J Γ p l e R s m args below meth c Q n ce sl pc' (v0 :: v1 :: v2 :: v3 :: v4 :: v5 :: some (.ref x) :: T) S ω κ) : J Γ p l e R s m args below meth c Q n ce sl pc (v0 :: v1 :: v2 :: v3 :: v4 :: v5 :: w :: T) (.ref x :: S) ω κ := by
  intro H locs ls hP hS hl
  obtain ⟨hd, rfl⟩ := d
  refine lv_astore C.1 C.2.1 hd hl.has (show 6 < _ by simp) rfl (fun ls2 h2 => kk H locs ls2 hP hS (lk.set (L := (v0 :: v1 :: v2 :: v3 :: v4 :: v5 :: w :: T)) (i := 6) (by simp) (Or.inr ho) h2))
theorem j_astore6N (C : Cx Γ p l s m args meth c cc own nL) {v0 v1 v2 v3 v4 v5 : Option Value}  {w : Option Value} {T : List (Option Value)} (ho : okp v5 = true) (d : Dx cc pc (.astore 6) 2 pc') (kk : J Γ p l e R s m args below meth c Q n ce sl pc' (v0 :: v1 :: v2 :: v3 :: v4 :: v5 :: some (.null) :: T) S ω κ) : J Γ p l e R s m args below meth c Q n ce sl pc (v0 :: v1 :: v2 :: v3 :: v4 :: v5 :: w :: T) (.null :: S) ω κ := by
  intro H locs ls hP hS hl
  obtain ⟨hd, rfl⟩ := d
  refine lv_astoreN C.1 C.2.1 hd hl.has (show 6 < _ by simp) rfl (fun ls2 h2 => kk H locs ls2 hP hS (lk.set (L := (v0 :: v1 :: v2 :: v3 :: v4 :: v5 :: w :: T)) (i := 6) (by simp) (Or.inr ho) h2))
theorem j_iinc6 (C : Cx Γ p l s m args meth c cc own nL) {v0 v1 v2 v3 v4 v5 : Option Value} {a z : Int} {T : List (Option Value)} (ho : okp v5 = true) (d : Dx cc pc (.iinc 6 z) 3 pc') (kk : J Γ p l e R s m args below meth c Q n ce sl pc' (v0 :: v1 :: v2 :: v3 :: v4 :: v5 :: some (.int (iI (a + z))) :: T) S ω κ) : J Γ p l e R s m args below meth c Q n ce sl pc (v0 :: v1 :: v2 :: v3 :: v4 :: v5 :: some (.int (iI a)) :: T) S ω κ := by
  intro H locs ls hP hS hl
  obtain ⟨hd, rfl⟩ := d
  obtain ⟨k, hk⟩ := List.getElem?_of_mem ((lz_mem (v0 :: v1 :: v2 :: v3 :: v4 :: v5 :: some (.int (iI a)) :: T) 0 6 (.int (iI a))).mpr ⟨Nat.zero_le _, by simp⟩)
  exact lv_iinc C.1 C.2.1 hd hl.has hk (iI_add a z).symm (by simp) rfl (fun ls2 h2 => kk H locs ls2 hP hS (lk.set (L := (v0 :: v1 :: v2 :: v3 :: v4 :: v5 :: some (.int (iI a)) :: T)) (i := 6) (by simp) (Or.inr ho) h2))
theorem j_iload7 (C : Cx Γ p l s m args meth c cc own nL) {v0 v1 v2 v3 v4 v5 v6 : Option Value} {x : Int32} {T : List (Option Value)} (d : Dx cc pc (.iload 7) 2 pc') (kk : J Γ p l e R s m args below meth c Q n ce sl pc' (v0 :: v1 :: v2 :: v3 :: v4 :: v5 :: v6 :: some (.int x) :: T) (.int x :: S) ω κ) : J Γ p l e R s m args below meth c Q n ce sl pc (v0 :: v1 :: v2 :: v3 :: v4 :: v5 :: v6 :: some (.int x) :: T) S ω κ := by
  intro H locs ls hP hS hl
  obtain ⟨hd, rfl⟩ := d
  exact lv_iload C.1 C.2.1 hd (hl.2.2 7 _ rfl) (kk H locs ls hP hS hl)
theorem j_aload7 (C : Cx Γ p l s m args meth c cc own nL) {v0 v1 v2 v3 v4 v5 v6 : Option Value} {x : Nat} {T : List (Option Value)} (d : Dx cc pc (.aload 7) 2 pc') (kk : J Γ p l e R s m args below meth c Q n ce sl pc' (v0 :: v1 :: v2 :: v3 :: v4 :: v5 :: v6 :: some (.ref x) :: T) (.ref x :: S) ω κ) : J Γ p l e R s m args below meth c Q n ce sl pc (v0 :: v1 :: v2 :: v3 :: v4 :: v5 :: v6 :: some (.ref x) :: T) S ω κ := by
  intro H locs ls hP hS hl
  obtain ⟨hd, rfl⟩ := d
  exact lv_aload C.1 C.2.1 hd (hl.2.2 7 _ rfl) (kk H locs ls hP hS hl)
theorem j_aload7N (C : Cx Γ p l s m args meth c cc own nL) {v0 v1 v2 v3 v4 v5 v6 : Option Value} {T : List (Option Value)} (d : Dx cc pc (.aload 7) 2 pc') (kk : J Γ p l e R s m args below meth c Q n ce sl pc' (v0 :: v1 :: v2 :: v3 :: v4 :: v5 :: v6 :: some .null :: T) (.null :: S) ω κ) : J Γ p l e R s m args below meth c Q n ce sl pc (v0 :: v1 :: v2 :: v3 :: v4 :: v5 :: v6 :: some .null :: T) S ω κ := by
  intro H locs ls hP hS hl
  obtain ⟨hd, rfl⟩ := d
  exact lv_aloadN C.1 C.2.1 hd (hl.2.2 7 _ rfl) (kk H locs ls hP hS hl)
theorem j_istore7 (C : Cx Γ p l s m args meth c cc own nL) {v0 v1 v2 v3 v4 v5 v6 : Option Value} {x : Int32} {w : Option Value} {T : List (Option Value)} (ho : okp v6 = true) (d : Dx cc pc (.istore 7) 2 pc') (kk : J Γ p l e R s m args below meth c Q n ce sl pc' (v0 :: v1 :: v2 :: v3 :: v4 :: v5 :: v6 :: some (.int x) :: T) S ω κ) : J Γ p l e R s m args below meth c Q n ce sl pc (v0 :: v1 :: v2 :: v3 :: v4 :: v5 :: v6 :: w :: T) (.int x :: S) ω κ := by
  intro H locs ls hP hS hl
  obtain ⟨hd, rfl⟩ := d
  refine lv_istore C.1 C.2.1 hd hl.has (show 7 < _ by simp) rfl (fun ls2 h2 => kk H locs ls2 hP hS (lk.set (L := (v0 :: v1 :: v2 :: v3 :: v4 :: v5 :: v6 :: w :: T)) (i := 7) (by simp) (Or.inr ho) h2))
theorem j_astore7 (C : Cx Γ p l s m args meth c cc own nL) {v0 v1 v2 v3 v4 v5 v6 : Option Value} {x : Nat} {w : Option Value} {T : List (Option Value)} (ho : okp v6 = true) (d : Dx cc pc (.astore 7) 2 pc') (kk : J Γ p l e R s m args below meth c Q n ce sl pc' (v0 :: v1 :: v2 :: v3 :: v4 :: v5 :: v6 :: some (.ref x) :: T) S ω κ) : J Γ p l e R s m args below meth c Q n ce sl pc (v0 :: v1 :: v2 :: v3 :: v4 :: v5 :: v6 :: w :: T) (.ref x :: S) ω κ := by
  intro H locs ls hP hS hl
  obtain ⟨hd, rfl⟩ := d
  refine lv_astore C.1 C.2.1 hd hl.has (show 7 < _ by simp) rfl (fun ls2 h2 => kk H locs ls2 hP hS (lk.set (L := (v0 :: v1 :: v2 :: v3 :: v4 :: v5 :: v6 :: w :: T)) (i := 7) (by simp) (Or.inr ho) h2))
theorem j_astore7N (C : Cx Γ p l s m args meth c cc own nL) {v0 v1 v2 v3 v4 v5 v6 : Option Value}  {w : Option Value} {T : List (Option Value)} (ho : okp v6 = true) (d : Dx cc pc (.astore 7) 2 pc') (kk : J Γ p l e R s m args below meth c Q n ce sl pc' (v0 :: v1 :: v2 :: v3 :: v4 :: v5 :: v6 :: some (.null) :: T) S ω κ) : J Γ p l e R s m args below meth c Q n ce sl pc (v0 :: v1 :: v2 :: v3 :: v4 :: v5 :: v6 :: w :: T) (.null :: S) ω κ := by
  intro H locs ls hP hS hl
  obtain ⟨hd, rfl⟩ := d
  refine lv_astoreN C.1 C.2.1 hd hl.has (show 7 < _ by simp) rfl (fun ls2 h2 => kk H locs ls2 hP hS (lk.set (L := (v0 :: v1 :: v2 :: v3 :: v4 :: v5 :: v6 :: w :: T)) (i := 7) (by simp) (Or.inr ho) h2))
theorem j_iinc7 (C : Cx Γ p l s m args meth c cc own nL) {v0 v1 v2 v3 v4 v5 v6 : Option Value} {a z : Int} {T : List (Option Value)} (ho : okp v6 = true) (d : Dx cc pc (.iinc 7 z) 3 pc') (kk : J Γ p l e R s m args below meth c Q n ce sl pc' (v0 :: v1 :: v2 :: v3 :: v4 :: v5 :: v6 :: some (.int (iI (a + z))) :: T) S ω κ) : J Γ p l e R s m args below meth c Q n ce sl pc (v0 :: v1 :: v2 :: v3 :: v4 :: v5 :: v6 :: some (.int (iI a)) :: T) S ω κ := by
  intro H locs ls hP hS hl
  obtain ⟨hd, rfl⟩ := d
  obtain ⟨k, hk⟩ := List.getElem?_of_mem ((lz_mem (v0 :: v1 :: v2 :: v3 :: v4 :: v5 :: v6 :: some (.int (iI a)) :: T) 0 7 (.int (iI a))).mpr ⟨Nat.zero_le _, by simp⟩)
  exact lv_iinc C.1 C.2.1 hd hl.has hk (iI_add a z).symm (by simp) rfl (fun ls2 h2 => kk H locs ls2 hP hS (lk.set (L := (v0 :: v1 :: v2 :: v3 :: v4 :: v5 :: v6 :: some (.int (iI a)) :: T)) (i := 7) (by simp) (Or.inr ho) h2))
theorem j_iload8 (C : Cx Γ p l s m args meth c cc own nL) {v0 v1 v2 v3 v4 v5 v6 v7 : Option Value} {x : Int32} {T : List (Option Value)} (d : Dx cc pc (.iload 8) 2 pc') (kk : J Γ p l e R s m args below meth c Q n ce sl pc' (v0 :: v1 :: v2 :: v3 :: v4 :: v5 :: v6 :: v7 :: some (.int x) :: T) (.int x :: S) ω κ) : J Γ p l e R s m args below meth c Q n ce sl pc (v0 :: v1 :: v2 :: v3 :: v4 :: v5 :: v6 :: v7 :: some (.int x) :: T) S ω κ := by
  intro H locs ls hP hS hl
  obtain ⟨hd, rfl⟩ := d
  exact lv_iload C.1 C.2.1 hd (hl.2.2 8 _ rfl) (kk H locs ls hP hS hl)
theorem j_aload8 (C : Cx Γ p l s m args meth c cc own nL) {v0 v1 v2 v3 v4 v5 v6 v7 : Option Value} {x : Nat} {T : List (Option Value)} (d : Dx cc pc (.aload 8) 2 pc') (kk : J Γ p l e R s m args below meth c Q n ce sl pc' (v0 :: v1 :: v2 :: v3 :: v4 :: v5 :: v6 :: v7 :: some (.ref x) :: T) (.ref x :: S) ω κ) : J Γ p l e R s m args below meth c Q n ce sl pc (v0 :: v1 :: v2 :: v3 :: v4 :: v5 :: v6 :: v7 :: some (.ref x) :: T) S ω κ := by
  intro H locs ls hP hS hl
  obtain ⟨hd, rfl⟩ := d
  exact lv_aload C.1 C.2.1 hd (hl.2.2 8 _ rfl) (kk H locs ls hP hS hl)
theorem j_aload8N (C : Cx Γ p l s m args meth c cc own nL) {v0 v1 v2 v3 v4 v5 v6 v7 : Option Value} {T : List (Option Value)} (d : Dx cc pc (.aload 8) 2 pc') (kk : J Γ p l e R s m args below meth c Q n ce sl pc' (v0 :: v1 :: v2 :: v3 :: v4 :: v5 :: v6 :: v7 :: some .null :: T) (.null :: S) ω κ) : J Γ p l e R s m args below meth c Q n ce sl pc (v0 :: v1 :: v2 :: v3 :: v4 :: v5 :: v6 :: v7 :: some .null :: T) S ω κ := by
  intro H locs ls hP hS hl
  obtain ⟨hd, rfl⟩ := d
  exact lv_aloadN C.1 C.2.1 hd (hl.2.2 8 _ rfl) (kk H locs ls hP hS hl)
theorem j_istore8 (C : Cx Γ p l s m args meth c cc own nL) {v0 v1 v2 v3 v4 v5 v6 v7 : Option Value} {x : Int32} {w : Option Value} {T : List (Option Value)} (ho : okp v7 = true) (d : Dx cc pc (.istore 8) 2 pc') (kk : J Γ p l e R s m args below meth c Q n ce sl pc' (v0 :: v1 :: v2 :: v3 :: v4 :: v5 :: v6 :: v7 :: some (.int x) :: T) S ω κ) : J Γ p l e R s m args below meth c Q n ce sl pc (v0 :: v1 :: v2 :: v3 :: v4 :: v5 :: v6 :: v7 :: w :: T) (.int x :: S) ω κ := by
  intro H locs ls hP hS hl
  obtain ⟨hd, rfl⟩ := d
  refine lv_istore C.1 C.2.1 hd hl.has (show 8 < _ by simp) rfl (fun ls2 h2 => kk H locs ls2 hP hS (lk.set (L := (v0 :: v1 :: v2 :: v3 :: v4 :: v5 :: v6 :: v7 :: w :: T)) (i := 8) (by simp) (Or.inr ho) h2))
theorem j_astore8 (C : Cx Γ p l s m args meth c cc own nL) {v0 v1 v2 v3 v4 v5 v6 v7 : Option Value} {x : Nat} {w : Option Value} {T : List (Option Value)} (ho : okp v7 = true) (d : Dx cc pc (.astore 8) 2 pc') (kk : J Γ p l e R s m args below meth c Q n ce sl pc' (v0 :: v1 :: v2 :: v3 :: v4 :: v5 :: v6 :: v7 :: some (.ref x) :: T) S ω κ) : J Γ p l e R s m args below meth c Q n ce sl pc (v0 :: v1 :: v2 :: v3 :: v4 :: v5 :: v6 :: v7 :: w :: T) (.ref x :: S) ω κ := by
  intro H locs ls hP hS hl
  obtain ⟨hd, rfl⟩ := d
  refine lv_astore C.1 C.2.1 hd hl.has (show 8 < _ by simp) rfl (fun ls2 h2 => kk H locs ls2 hP hS (lk.set (L := (v0 :: v1 :: v2 :: v3 :: v4 :: v5 :: v6 :: v7 :: w :: T)) (i := 8) (by simp) (Or.inr ho) h2))
theorem j_astore8N (C : Cx Γ p l s m args meth c cc own nL) {v0 v1 v2 v3 v4 v5 v6 v7 : Option Value}  {w : Option Value} {T : List (Option Value)} (ho : okp v7 = true) (d : Dx cc pc (.astore 8) 2 pc') (kk : J Γ p l e R s m args below meth c Q n ce sl pc' (v0 :: v1 :: v2 :: v3 :: v4 :: v5 :: v6 :: v7 :: some (.null) :: T) S ω κ) : J Γ p l e R s m args below meth c Q n ce sl pc (v0 :: v1 :: v2 :: v3 :: v4 :: v5 :: v6 :: v7 :: w :: T) (.null :: S) ω κ := by
  intro H locs ls hP hS hl
  obtain ⟨hd, rfl⟩ := d
  refine lv_astoreN C.1 C.2.1 hd hl.has (show 8 < _ by simp) rfl (fun ls2 h2 => kk H locs ls2 hP hS (lk.set (L := (v0 :: v1 :: v2 :: v3 :: v4 :: v5 :: v6 :: v7 :: w :: T)) (i := 8) (by simp) (Or.inr ho) h2))
theorem j_iinc8 (C : Cx Γ p l s m args meth c cc own nL) {v0 v1 v2 v3 v4 v5 v6 v7 : Option Value} {a z : Int} {T : List (Option Value)} (ho : okp v7 = true) (d : Dx cc pc (.iinc 8 z) 3 pc') (kk : J Γ p l e R s m args below meth c Q n ce sl pc' (v0 :: v1 :: v2 :: v3 :: v4 :: v5 :: v6 :: v7 :: some (.int (iI (a + z))) :: T) S ω κ) : J Γ p l e R s m args below meth c Q n ce sl pc (v0 :: v1 :: v2 :: v3 :: v4 :: v5 :: v6 :: v7 :: some (.int (iI a)) :: T) S ω κ := by
  intro H locs ls hP hS hl
  obtain ⟨hd, rfl⟩ := d
  obtain ⟨k, hk⟩ := List.getElem?_of_mem ((lz_mem (v0 :: v1 :: v2 :: v3 :: v4 :: v5 :: v6 :: v7 :: some (.int (iI a)) :: T) 0 8 (.int (iI a))).mpr ⟨Nat.zero_le _, by simp⟩)
  exact lv_iinc C.1 C.2.1 hd hl.has hk (iI_add a z).symm (by simp) rfl (fun ls2 h2 => kk H locs ls2 hP hS (lk.set (L := (v0 :: v1 :: v2 :: v3 :: v4 :: v5 :: v6 :: v7 :: some (.int (iI a)) :: T)) (i := 8) (by simp) (Or.inr ho) h2))
theorem j_iload9 (C : Cx Γ p l s m args meth c cc own nL) {v0 v1 v2 v3 v4 v5 v6 v7 v8 : Option Value} {x : Int32} {T : List (Option Value)} (d : Dx cc pc (.iload 9) 2 pc') (kk : J Γ p l e R s m args below meth c Q n ce sl pc' (v0 :: v1 :: v2 :: v3 :: v4 :: v5 :: v6 :: v7 :: v8 :: some (.int x) :: T) (.int x :: S) ω κ) : J Γ p l e R s m args below meth c Q n ce sl pc (v0 :: v1 :: v2 :: v3 :: v4 :: v5 :: v6 :: v7 :: v8 :: some (.int x) :: T) S ω κ := by
  intro H locs ls hP hS hl
  obtain ⟨hd, rfl⟩ := d
  exact lv_iload C.1 C.2.1 hd (hl.2.2 9 _ rfl) (kk H locs ls hP hS hl)
theorem j_aload9 (C : Cx Γ p l s m args meth c cc own nL) {v0 v1 v2 v3 v4 v5 v6 v7 v8 : Option Value} {x : Nat} {T : List (Option Value)} (d : Dx cc pc (.aload 9) 2 pc') (kk : J Γ p l e R s m args below meth c Q n ce sl pc' (v0 :: v1 :: v2 :: v3 :: v4 :: v5 :: v6 :: v7 :: v8 :: some (.ref x) :: T) (.ref x :: S) ω κ) : J Γ p l e R s m args below meth c Q n ce sl pc (v0 :: v1 :: v2 :: v3 :: v4 :: v5 :: v6 :: v7 :: v8 :: some (.ref x) :: T) S ω κ := by
  intro H locs ls hP hS hl
  obtain ⟨hd, rfl⟩ := d
  exact lv_aload C.1 C.2.1 hd (hl.2.2 9 _ rfl) (kk H locs ls hP hS hl)
theorem j_aload9N (C : Cx Γ p l s m args meth c cc own nL) {v0 v1 v2 v3 v4 v5 v6 v7 v8 : Option Value} {T : List (Option Value)} (d : Dx cc pc (.aload 9) 2 pc') (kk : J Γ p l e R s m args below meth c Q n ce sl pc' (v0 :: v1 :: v2 :: v3 :: v4 :: v5 :: v6 :: v7 :: v8 :: some .null :: T) (.null :: S) ω κ) : J Γ p l e R s m args below meth c Q n ce sl pc (v0 :: v1 :: v2 :: v3 :: v4 :: v5 :: v6 :: v7 :: v8 :: some .null :: T) S ω κ := by
  intro H locs ls hP hS hl
  obtain ⟨hd, rfl⟩ := d
  exact lv_aloadN C.1 C.2.1 hd (hl.2.2 9 _ rfl) (kk H locs ls hP hS hl)
theorem j_istore9 (C : Cx Γ p l s m args meth c cc own nL) {v0 v1 v2 v3 v4 v5 v6 v7 v8 : Option Value} {x : Int32} {w : Option Value} {T : List (Option Value)} (ho : okp v8 = true) (d : Dx cc pc (.istore 9) 2 pc') (kk : J Γ p l e R s m args below meth c Q n ce sl pc' (v0 :: v1 :: v2 :: v3 :: v4 :: v5 :: v6 :: v7 :: v8 :: some (.int x) :: T) S ω κ) : J Γ p l e R s m args below meth c Q n ce sl pc (v0 :: v1 :: v2 :: v3 :: v4 :: v5 :: v6 :: v7 :: v8 :: w :: T) (.int x :: S) ω κ := by
  intro H locs ls hP hS hl
  obtain ⟨hd, rfl⟩ := d
  refine lv_istore C.1 C.2.1 hd hl.has (show 9 < _ by simp) rfl (fun ls2 h2 => kk H locs ls2 hP hS (lk.set (L := (v0 :: v1 :: v2 :: v3 :: v4 :: v5 :: v6 :: v7 :: v8 :: w :: T)) (i := 9) (by simp) (Or.inr ho) h2))
theorem j_astore9 (C : Cx Γ p l s m args meth c cc own nL) {v0 v1 v2 v3 v4 v5 v6 v7 v8 : Option Value} {x : Nat} {w : Option Value} {T : List (Option Value)} (ho : okp v8 = true) (d : Dx cc pc (.astore 9) 2 pc') (kk : J Γ p l e R s m args below meth c Q n ce sl pc' (v0 :: v1 :: v2 :: v3 :: v4 :: v5 :: v6 :: v7 :: v8 :: some (.ref x) :: T) S ω κ) : J Γ p l e R s m args below meth c Q n ce sl pc (v0 :: v1 :: v2 :: v3 :: v4 :: v5 :: v6 :: v7 :: v8 :: w :: T) (.ref x :: S) ω κ := by
  intro H locs ls hP hS hl
  obtain ⟨hd, rfl⟩ := d
  refine lv_astore C.1 C.2.1 hd hl.has (show 9 < _ by simp) rfl (fun ls2 h2 => kk H locs ls2 hP hS (lk.set (L := (v0 :: v1 :: v2 :: v3 :: v4 :: v5 :: v6 :: v7 :: v8 :: w :: T)) (i := 9) (by simp) (Or.inr ho) h2))
theorem j_astore9N (C : Cx Γ p l s m args meth c cc own nL) {v0 v1 v2 v3 v4 v5 v6 v7 v8 : Option Value}  {w : Option Value} {T : List (Option Value)} (ho : okp v8 = true) (d : Dx cc pc (.astore 9) 2 pc') (kk : J Γ p l e R s m args below meth c Q n ce sl pc' (v0 :: v1 :: v2 :: v3 :: v4 :: v5 :: v6 :: v7 :: v8 :: some (.null) :: T) S ω κ) : J Γ p l e R s m args below meth c Q n ce sl pc (v0 :: v1 :: v2 :: v3 :: v4 :: v5 :: v6 :: v7 :: v8 :: w :: T) (.null :: S) ω κ := by
  intro H locs ls hP hS hl
  obtain ⟨hd, rfl⟩ := d
  refine lv_astoreN C.1 C.2.1 hd hl.has (show 9 < _ by simp) rfl (fun ls2 h2 => kk H locs ls2 hP hS (lk.set (L := (v0 :: v1 :: v2 :: v3 :: v4 :: v5 :: v6 :: v7 :: v8 :: w :: T)) (i := 9) (by simp) (Or.inr ho) h2))
theorem j_iinc9 (C : Cx Γ p l s m args meth c cc own nL) {v0 v1 v2 v3 v4 v5 v6 v7 v8 : Option Value} {a z : Int} {T : List (Option Value)} (ho : okp v8 = true) (d : Dx cc pc (.iinc 9 z) 3 pc') (kk : J Γ p l e R s m args below meth c Q n ce sl pc' (v0 :: v1 :: v2 :: v3 :: v4 :: v5 :: v6 :: v7 :: v8 :: some (.int (iI (a + z))) :: T) S ω κ) : J Γ p l e R s m args below meth c Q n ce sl pc (v0 :: v1 :: v2 :: v3 :: v4 :: v5 :: v6 :: v7 :: v8 :: some (.int (iI a)) :: T) S ω κ := by
  intro H locs ls hP hS hl
  obtain ⟨hd, rfl⟩ := d
  obtain ⟨k, hk⟩ := List.getElem?_of_mem ((lz_mem (v0 :: v1 :: v2 :: v3 :: v4 :: v5 :: v6 :: v7 :: v8 :: some (.int (iI a)) :: T) 0 9 (.int (iI a))).mpr ⟨Nat.zero_le _, by simp⟩)
  exact lv_iinc C.1 C.2.1 hd hl.has hk (iI_add a z).symm (by simp) rfl (fun ls2 h2 => kk H locs ls2 hP hS (lk.set (L := (v0 :: v1 :: v2 :: v3 :: v4 :: v5 :: v6 :: v7 :: v8 :: some (.int (iI a)) :: T)) (i := 9) (by simp) (Or.inr ho) h2))
theorem j_iinc0n (C : Cx Γ p l s m args meth c cc own nL) {a : Nat} {T : List (Option Value)} (d : Dx cc pc (.iinc 0 1) 3 pc') (kk : J Γ p l e R s m args below meth c Q n ce sl pc' (some (.int (iI ((a + 1 : Nat) : Int))) :: T) S ω κ) : J Γ p l e R s m args below meth c Q n ce sl pc (some (.int (iI (a : Int))) :: T) S ω κ := by
  intro H locs ls hP hS hl
  obtain ⟨hd, rfl⟩ := d
  exact j_iinc0 C ⟨hd, rfl⟩ kk H locs ls hP hS hl
theorem j_iinc1n (C : Cx Γ p l s m args meth c cc own nL) {v0 : Option Value} {a : Nat} {T : List (Option Value)} (ho : okp v0 = true) (d : Dx cc pc (.iinc 1 1) 3 pc') (kk : J Γ p l e R s m args below meth c Q n ce sl pc' (v0 :: some (.int (iI ((a + 1 : Nat) : Int))) :: T) S ω κ) : J Γ p l e R s m args below meth c Q n ce sl pc (v0 :: some (.int (iI (a : Int))) :: T) S ω κ := by
  intro H locs ls hP hS hl
  obtain ⟨hd, rfl⟩ := d
  exact j_iinc1 C ho ⟨hd, rfl⟩ kk H locs ls hP hS hl
theorem j_iinc2n (C : Cx Γ p l s m args meth c cc own nL) {v0 v1 : Option Value} {a : Nat} {T : List (Option Value)} (ho : okp v1 = true) (d : Dx cc pc (.iinc 2 1) 3 pc') (kk : J Γ p l e R s m args below meth c Q n ce sl pc' (v0 :: v1 :: some (.int (iI ((a + 1 : Nat) : Int))) :: T) S ω κ) : J Γ p l e R s m args below meth c Q n ce sl pc (v0 :: v1 :: some (.int (iI (a : Int))) :: T) S ω κ := by
  intro H locs ls hP hS hl
  obtain ⟨hd, rfl⟩ := d
  exact j_iinc2 C ho ⟨hd, rfl⟩ kk H locs ls hP hS hl
theorem j_iinc3n (C : Cx Γ p l s m args meth c cc own nL) {v0 v1 v2 : Option Value} {a : Nat} {T : List (Option Value)} (ho : okp v2 = true) (d : Dx cc pc (.iinc 3 1) 3 pc') (kk : J Γ p l e R s m args below meth c Q n ce sl pc' (v0 :: v1 :: v2 :: some (.int (iI ((a + 1 : Nat) : Int))) :: T) S ω κ) : J Γ p l e R s m args below meth c Q n ce sl pc (v0 :: v1 :: v2 :: some (.int (iI (a : Int))) :: T) S ω κ := by
  intro H locs ls hP hS hl
  obtain ⟨hd, rfl⟩ := d
  exact j_iinc3 C ho ⟨hd, rfl⟩ kk H locs ls hP hS hl
theorem j_iinc4n (C : Cx Γ p l s m args meth c cc own nL) {v0 v1 v2 v3 : Option Value} {a : Nat} {T : List (Option Value)} (ho : okp v3 = true) (d : Dx cc pc (.iinc 4 1) 3 pc') (kk : J Γ p l e R s m args below meth c Q n ce sl pc' (v0 :: v1 :: v2 :: v3 :: some (.int (iI ((a + 1 : Nat) : Int))) :: T) S ω κ) : J Γ p l e R s m args below meth c Q n ce sl pc (v0 :: v1 :: v2 :: v3 :: some (.int (iI (a : Int))) :: T) S ω κ := by
  intro H locs ls hP hS hl
  obtain ⟨hd, rfl⟩ := d
  exact j_iinc4 C ho ⟨hd, rfl⟩ kk H locs ls hP hS hl
theorem j_iinc5n (C : Cx Γ p l s m args meth c cc own nL) {v0 v1 v2 v3 v4 : Option Value} {a : Nat} {T : List (Option Value)} (ho : okp v4 = true) (d : Dx cc pc (.iinc 5 1) 3 pc') (kk : J Γ p l e R s m args below meth c Q n ce sl pc' (v0 :: v1 :: v2 :: v3 :: v4 :: some (.int (iI ((a + 1 : Nat) : Int))) :: T) S ω κ) : J Γ p l e R s m args below meth c Q n ce sl pc (v0 :: v1 :: v2 :: v3 :: v4 :: some (.int (iI (a : Int))) :: T) S ω κ := by
  intro H locs ls hP hS hl
  obtain ⟨hd, rfl⟩ := d
  exact j_iinc5 C ho ⟨hd, rfl⟩ kk H locs ls hP hS hl
theorem j_iinc6n (C : Cx Γ p l s m args meth c cc own nL) {v0 v1 v2 v3 v4 v5 : Option Value} {a : Nat} {T : List (Option Value)} (ho : okp v5 = true) (d : Dx cc pc (.iinc 6 1) 3 pc') (kk : J Γ p l e R s m args below meth c Q n ce sl pc' (v0 :: v1 :: v2 :: v3 :: v4 :: v5 :: some (.int (iI ((a + 1 : Nat) : Int))) :: T) S ω κ) : J Γ p l e R s m args below meth c Q n ce sl pc (v0 :: v1 :: v2 :: v3 :: v4 :: v5 :: some (.int (iI (a : Int))) :: T) S ω κ := by
  intro H locs ls hP hS hl
  obtain ⟨hd, rfl⟩ := d
  exact j_iinc6 C ho ⟨hd, rfl⟩ kk H locs ls hP hS hl
theorem j_iinc7n (C : Cx Γ p l s m args meth c cc own nL) {v0 v1 v2 v3 v4 v5 v6 : Option Value} {a : Nat} {T : List (Option Value)} (ho : okp v6 = true) (d : Dx cc pc (.iinc 7 1) 3 pc') (kk : J Γ p l e R s m args below meth c Q n ce sl pc' (v0 :: v1 :: v2 :: v3 :: v4 :: v5 :: v6 :: some (.int (iI ((a + 1 : Nat) : Int))) :: T) S ω κ) : J Γ p l e R s m args below meth c Q n ce sl pc (v0 :: v1 :: v2 :: v3 :: v4 :: v5 :: v6 :: some (.int (iI (a : Int))) :: T) S ω κ := by
  intro H locs ls hP hS hl
  obtain ⟨hd, rfl⟩ := d
  exact j_iinc7 C ho ⟨hd, rfl⟩ kk H locs ls hP hS hl
theorem j_iinc8n (C : Cx Γ p l s m args meth c cc own nL) {v0 v1 v2 v3 v4 v5 v6 v7 : Option Value} {a : Nat} {T : List (Option Value)} (ho : okp v7 = true) (d : Dx cc pc (.iinc 8 1) 3 pc') (kk : J Γ p l e R s m args below meth c Q n ce sl pc' (v0 :: v1 :: v2 :: v3 :: v4 :: v5 :: v6 :: v7 :: some (.int (iI ((a + 1 : Nat) : Int))) :: T) S ω κ) : J Γ p l e R s m args below meth c Q n ce sl pc (v0 :: v1 :: v2 :: v3 :: v4 :: v5 :: v6 :: v7 :: some (.int (iI (a : Int))) :: T) S ω κ := by
  intro H locs ls hP hS hl
  obtain ⟨hd, rfl⟩ := d
  exact j_iinc8 C ho ⟨hd, rfl⟩ kk H locs ls hP hS hl
theorem j_iinc9n (C : Cx Γ p l s m args meth c cc own nL) {v0 v1 v2 v3 v4 v5 v6 v7 v8 : Option Value} {a : Nat} {T : List (Option Value)} (ho : okp v8 = true) (d : Dx cc pc (.iinc 9 1) 3 pc') (kk : J Γ p l e R s m args below meth c Q n ce sl pc' (v0 :: v1 :: v2 :: v3 :: v4 :: v5 :: v6 :: v7 :: v8 :: some (.int (iI ((a + 1 : Nat) : Int))) :: T) S ω κ) : J Γ p l e R s m args below meth c Q n ce sl pc (v0 :: v1 :: v2 :: v3 :: v4 :: v5 :: v6 :: v7 :: v8 :: some (.int (iI (a : Int))) :: T) S ω κ := by
  intro H locs ls hP hS hl
  obtain ⟨hd, rfl⟩ := d
  exact j_iinc9 C ho ⟨hd, rfl⟩ kk H locs ls hP hS hl
theorem j_goto (C : Cx Γ p l s m args meth c cc own nL) {tgt : Nat}  (d : Dc cc pc (fun o => .goto o) tgt pc') (kk : J Γ p l e R s m args below meth c Q n ce sl tgt L S ω κ) : J Γ p l e R s m args below meth c Q n ce sl pc L S ω κ := by
  intro H locs ls hP hS hl
  obtain ⟨off, hd, ht, rfl⟩ := d
  exact lv_goto C.1 C.2.1 hd ht (kk H locs ls hP hS hl)
theorem j_icmp_eq (C : Cx Γ p l s m args meth c cc own nL) {tgt : Nat} {a b : Int} (ha : Rg a) (hb : Rg b) (d : Dc cc pc (fun o => .if_icmp .eq o) tgt pc') (kt : a = b → J Γ p l e R s m args below meth c Q n ce sl tgt L S ω κ) (kf : a ≠ b → J Γ p l e R s m args below meth c Q n ce sl pc' L S ω κ) : J Γ p l e R s m args below meth c Q n ce sl pc L (.int (iI b) :: .int (iI a) :: S) ω κ := by
  intro H locs ls hP hS hl
  obtain ⟨off, hd, ht, rfl⟩ := d
  exact lv_icmp_eq C.1 C.2.1 hd ht (fun q => kt ((iI_eq ha hb).mp q) H locs ls hP hS hl) (fun q => kf (fun r => q ((iI_eq ha hb).mpr r)) H locs ls hP hS hl)
theorem j_if_eq (C : Cx Γ p l s m args meth c cc own nL) {tgt : Nat} {a : Int} (ha : Rg a) (d : Dc cc pc (fun o => .ifCond .eq o) tgt pc') (kt : a = 0 → J Γ p l e R s m args below meth c Q n ce sl tgt L S ω κ) (kf : a ≠ 0 → J Γ p l e R s m args below meth c Q n ce sl pc' L S ω κ) : J Γ p l e R s m args below meth c Q n ce sl pc L (.int (iI a) :: S) ω κ := by
  intro H locs ls hP hS hl
  obtain ⟨off, hd, ht, rfl⟩ := d
  have hb : Rg 0 := by decide
  have e0 : iI 0 = 0 := rfl
  exact lv_if_eq C.1 C.2.1 hd ht (fun q => kt ((iI_eq ha hb).mp q) H locs ls hP hS hl) (fun q => kf (fun r => q ((iI_eq ha hb).mpr r)) H locs ls hP hS hl)
theorem j_icmp_ne (C : Cx Γ p l s m args meth c cc own nL) {tgt : Nat} {a b : Int} (ha : Rg a) (hb : Rg b) (d : Dc cc pc (fun o => .if_icmp .ne o) tgt pc') (kt : a ≠ b → J Γ p l e R s m args below meth c Q n ce sl tgt L S ω κ) (kf : a = b → J Γ p l e R s m args below meth c Q n ce sl pc' L S ω κ) : J Γ p l e R s m args below meth c Q n ce sl pc L (.int (iI b) :: .int (iI a) :: S) ω κ := by
  intro H locs ls hP hS hl
  obtain ⟨off, hd, ht, rfl⟩ := d
  exact lv_icmp_ne C.1 C.2.1 hd ht (fun q => kt (fun r => q ((iI_eq ha hb).mpr r)) H locs ls hP hS hl) (fun q => kf ((iI_eq ha hb).mp q) H locs ls hP hS hl)
theorem j_if_ne (C : Cx Γ p l s m args meth c cc own nL) {tgt : Nat} {a : Int} (ha : Rg a) (d : Dc cc pc (fun o => .ifCond .ne o) tgt pc') (kt : a ≠ 0 → J Γ p l e R s m args below meth c Q n ce sl tgt L S ω κ) (kf : a = 0 → J Γ p l e R s m args below meth c Q n ce sl pc' L S ω κ) : J Γ p l e R s m args below meth c Q n ce sl pc L (.int (iI a) :: S) ω κ := by
  intro H locs ls hP hS hl
  obtain ⟨off, hd, ht, rfl⟩ := d
  have hb : Rg 0 := by decide
  have e0 : iI 0 = 0 := rfl
  exact lv_if_ne C.1 C.2.1 hd ht (fun q => kt (fun r => q ((iI_eq ha hb).mpr r)) H locs ls hP hS hl) (fun q => kf ((iI_eq ha hb).mp q) H locs ls hP hS hl)
theorem j_icmp_lt (C : Cx Γ p l s m args meth c cc own nL) {tgt : Nat} {a b : Int} (ha : Rg a) (hb : Rg b) (d : Dc cc pc (fun o => .if_icmp .lt o) tgt pc') (kt : a < b → J Γ p l e R s m args below meth c Q n ce sl tgt L S ω κ) (kf : b ≤ a → J Γ p l e R s m args below meth c Q n ce sl pc' L S ω κ) : J Γ p l e R s m args below meth c Q n ce sl pc L (.int (iI b) :: .int (iI a) :: S) ω κ := by
  intro H locs ls hP hS hl
  obtain ⟨off, hd, ht, rfl⟩ := d
  exact lv_icmp_lt C.1 C.2.1 hd ht (fun q => kt ((iI_lt ha hb).mp q) H locs ls hP hS hl) (fun q => kf (Int.not_lt.mp (fun r => q ((iI_lt ha hb).mpr r))) H locs ls hP hS hl)
theorem j_if_lt (C : Cx Γ p l s m args meth c cc own nL) {tgt : Nat} {a : Int} (ha : Rg a) (d : Dc cc pc (fun o => .ifCond .lt o) tgt pc') (kt : a < 0 → J Γ p l e R s m args below meth c Q n ce sl tgt L S ω κ) (kf : 0 ≤ a → J Γ p l e R s m args below meth c Q n ce sl pc' L S ω κ) : J Γ p l e R s m args below meth c Q n ce sl pc L (.int (iI a) :: S) ω κ := by
  intro H locs ls hP hS hl
  obtain ⟨off, hd, ht, rfl⟩ := d
  have hb : Rg 0 := by decide
  have e0 : iI 0 = 0 := rfl
  exact lv_if_lt C.1 C.2.1 hd ht (fun q => kt ((iI_lt ha hb).mp q) H locs ls hP hS hl) (fun q => kf (Int.not_lt.mp (fun r => q ((iI_lt ha hb).mpr r))) H locs ls hP hS hl)
theorem j_icmp_ge (C : Cx Γ p l s m args meth c cc own nL) {tgt : Nat} {a b : Int} (ha : Rg a) (hb : Rg b) (d : Dc cc pc (fun o => .if_icmp .ge o) tgt pc') (kt : b ≤ a → J Γ p l e R s m args below meth c Q n ce sl tgt L S ω κ) (kf : a < b → J Γ p l e R s m args below meth c Q n ce sl pc' L S ω κ) : J Γ p l e R s m args below meth c Q n ce sl pc L (.int (iI b) :: .int (iI a) :: S) ω κ := by
  intro H locs ls hP hS hl
  obtain ⟨off, hd, ht, rfl⟩ := d
  exact lv_icmp_ge C.1 C.2.1 hd ht (fun q => kt ((iI_le hb ha).mp q) H locs ls hP hS hl) (fun q => kf (Int.not_le.mp (fun r => q ((iI_le hb ha).mpr r))) H locs ls hP hS hl)
theorem j_if_ge (C : Cx Γ p l s m args meth c cc own nL) {tgt : Nat} {a : Int} (ha : Rg a) (d : Dc cc pc (fun o => .ifCond .ge o) tgt pc') (kt : 0 ≤ a → J Γ p l e R s m args below meth c Q n ce sl tgt L S ω κ) (kf : a < 0 → J Γ p l e R s m args below meth c Q n ce sl pc' L S ω κ) : J Γ p l e R s m args below meth c Q n ce sl pc L (.int (iI a) :: S) ω κ := by
  intro H locs ls hP hS hl
  obtain ⟨off, hd, ht, rfl⟩ := d
  have hb : Rg 0 := by decide
  have e0 : iI 0 = 0 := rfl
  exact lv_if_ge C.1 C.2.1 hd ht (fun q => kt ((iI_le hb ha).mp q) H locs ls hP hS hl) (fun q => kf (Int.not_le.mp (fun r => q ((iI_le hb ha).mpr r))) H locs ls hP hS hl)
theorem j_icmp_gt (C : Cx Γ p l s m args meth c cc own nL) {tgt : Nat} {a b : Int} (ha : Rg a) (hb : Rg b) (d : Dc cc pc (fun o => .if_icmp .gt o) tgt pc') (kt : b < a → J Γ p l e R s m args below meth c Q n ce sl tgt L S ω κ) (kf : a ≤ b → J Γ p l e R s m args below meth c Q n ce sl pc' L S ω κ) : J Γ p l e R s m args below meth c Q n ce sl pc L (.int (iI b) :: .int (iI a) :: S) ω κ := by
  intro H locs ls hP hS hl
  obtain ⟨off, hd, ht, rfl⟩ := d
  exact lv_icmp_gt C.1 C.2.1 hd ht (fun q => kt ((iI_lt hb ha).mp q) H locs ls hP hS hl) (fun q => kf (Int.not_lt.mp (fun r => q ((iI_lt hb ha).mpr r))) H locs ls hP hS hl)
theorem j_if_gt (C : Cx Γ p l s m args meth c cc own nL) {tgt : Nat} {a : Int} (ha : Rg a) (d : Dc cc pc (fun o => .ifCond .gt o) tgt pc') (kt : 0 < a → J Γ p l e R s m args below meth c Q n ce sl tgt L S ω κ) (kf : a ≤ 0 → J Γ p l e R s m args below meth c Q n ce sl pc' L S ω κ) : J Γ p l e R s m args below meth c Q n ce sl pc L (.int (iI a) :: S) ω κ := by
  intro H locs ls hP hS hl
  obtain ⟨off, hd, ht, rfl⟩ := d
  have hb : Rg 0 := by decide
  have e0 : iI 0 = 0 := rfl
  exact lv_if_gt C.1 C.2.1 hd ht (fun q => kt ((iI_lt hb ha).mp q) H locs ls hP hS hl) (fun q => kf (Int.not_lt.mp (fun r => q ((iI_lt hb ha).mpr r))) H locs ls hP hS hl)
theorem j_icmp_le (C : Cx Γ p l s m args meth c cc own nL) {tgt : Nat} {a b : Int} (ha : Rg a) (hb : Rg b) (d : Dc cc pc (fun o => .if_icmp .le o) tgt pc') (kt : a ≤ b → J Γ p l e R s m args below meth c Q n ce sl tgt L S ω κ) (kf : b < a → J Γ p l e R s m args below meth c Q n ce sl pc' L S ω κ) : J Γ p l e R s m args below meth c Q n ce sl pc L (.int (iI b) :: .int (iI a) :: S) ω κ := by
  intro H locs ls hP hS hl
  obtain ⟨off, hd, ht, rfl⟩ := d
  exact lv_icmp_le C.1 C.2.1 hd ht (fun q => kt ((iI_le ha hb).mp q) H locs ls hP hS hl) (fun q => kf (Int.not_le.mp (fun r => q ((iI_le ha hb).mpr r))) H locs ls hP hS hl)
theorem j_if_le (C : Cx Γ p l s m args meth c cc own nL) {tgt : Nat} {a : Int} (ha : Rg a) (d : Dc cc pc (fun o => .ifCond .le o) tgt pc') (kt : a ≤ 0 → J Γ p l e R s m args below meth c Q n ce sl tgt L S ω κ) (kf : 0 < a → J Γ p l e R s m args below meth c Q n ce sl pc' L S ω κ) : J Γ p l e R s m args below meth c Q n ce sl pc L (.int (iI a) :: S) ω κ := by
  intro H locs ls hP hS hl
  obtain ⟨off, hd, ht, rfl⟩ := d
  have hb : Rg 0 := by decide
  have e0 : iI 0 = 0 := rfl
  exact lv_if_le C.1 C.2.1 hd ht (fun q => kt ((iI_le ha hb).mp q) H locs ls hP hS hl) (fun q => kf (Int.not_le.mp (fun r => q ((iI_le ha hb).mpr r))) H locs ls hP hS hl)
def bI (P : Prop) [Decidable P] : Int := if P then 1 else 0
theorem bI_t {P : Prop} [Decidable P] (h : P) : bI P = 1 := if_pos h
theorem bI_f {P : Prop} [Decidable P] (h : ¬ P) : bI P = 0 := if_neg h
theorem bI_rg (P : Prop) [Decidable P] : Rg (bI P) := by unfold bI; split <;> decide
theorem j_ifeqb (C : Cx Γ p l s m args meth c cc own nL) {tgt : Nat} {P : Prop} [Decidable P] (d : Dc cc pc (fun o => .ifCond .eq o) tgt pc') (kt : P → J Γ p l e R s m args below meth c Q n ce sl pc' L S ω κ) (kf : ¬ P → J Γ p l e R s m args below meth c Q n ce sl tgt L S ω κ) : J Γ p l e R s m args below meth c Q n ce sl pc L (.int (iI (bI P)) :: S) ω κ := by
  intro H locs ls hP hS hl
  obtain ⟨off, hd, ht, rfl⟩ := d
  exact j_if_eq C (bI_rg P) ⟨off, hd, ht, rfl⟩ (fun q => kf (fun h => by rw [bI_t h] at q; cases q)) (fun q => kt (Decidable.byContradiction fun h => q (bI_f h))) H locs ls hP hS hl
theorem j_ifneb (C : Cx Γ p l s m args meth c cc own nL) {tgt : Nat} {P : Prop} [Decidable P] (d : Dc cc pc (fun o => .ifCond .ne o) tgt pc') (kt : P → J Γ p l e R s m args below meth c Q n ce sl tgt L S ω κ) (kf : ¬ P → J Γ p l e R s m args below meth c Q n ce sl pc' L S ω κ) : J Γ p l e R s m args below meth c Q n ce sl pc L (.int (iI (bI P)) :: S) ω κ := by
  intro H locs ls hP hS hl
  obtain ⟨off, hd, ht, rfl⟩ := d
  exact j_if_ne C (bI_rg P) ⟨off, hd, ht, rfl⟩ (fun q => kt (Decidable.byContradiction fun h => q (bI_f h))) (fun q => kf (fun h => by rw [bI_t h] at q; cases q)) H locs ls hP hS hl
theorem j_ifnonnull (C : Cx Γ p l s m args meth c cc own nL) {tgt : Nat} {x : Nat} (d : Dc cc pc (fun o => .ifnonnull o) tgt pc') (kk : J Γ p l e R s m args below meth c Q n ce sl tgt L S ω κ) : J Γ p l e R s m args below meth c Q n ce sl pc L (.ref x :: S) ω κ := by
  intro H locs ls hP hS hl
  obtain ⟨off, hd, ht, rfl⟩ := d
  exact lv_ifnonnull C.1 C.2.1 hd ht (kk H locs ls hP hS hl)
theorem j_ifnonnullN (C : Cx Γ p l s m args meth c cc own nL) {tgt : Nat}  (d : Dc cc pc (fun o => .ifnonnull o) tgt pc') (kk : J Γ p l e R s m args below meth c Q n ce sl pc' L S ω κ) : J Γ p l e R s m args below meth c Q n ce sl pc L (.null :: S) ω κ := by
  intro H locs ls hP hS hl
  obtain ⟨off, hd, ht, rfl⟩ := d
  exact lv_ifnonnullN C.1 C.2.1 hd (kk H locs ls hP hS hl)
end ROWS
end
section
/-! rows that touch the heap -/
def wi (ω : Wo) (a k : Nat) (v : Int) : Wo := (fun x y => if x = a then (if y = k then v else ω.1 x y) else ω.1 x y, ω.2)
def wr (ω : Wo) (a k : Nat) (v : Option Nat) : Wo := (ω.1, fun x y => if x = a then (if y = k then v else ω.2.1 x y) else ω.2.1 x y, ω.2.2)
theorem WE_ne {Γ : Ga} {ω ω' : Wo} {x : Nat} {κ : Nat → Nat} (h1 : ω'.1 x = ω.1 x) (h2 : ω'.2.1 x = ω.2.1 x) (h3 : κ x ≠ 24 ∨ ω'.2.2 = ω.2.2) : WE Γ ω' x κ = WE Γ ω x κ := by
  unfold WE EK EO EI ER
  have e1 : fv Γ ω' (κ x) x = fv Γ ω (κ x) x := by funext i; unfold fv; rw [h1, h2]
  rw [e1, h1, h2]
  split
  · rfl
  · split
    · rfl
    · split
      · rfl
      · split
        · rename_i h; rcases h3 with h3 | h3
          · exact absurd h h3
          · rw [h3]
        · rfl
/-- a is a cell of kind kk among the first n -/
def At (n a kk : Nat) (κ : Nat → Nat := kd) : Prop := a < n ∧ a < 1000 ∧ κ a = kk
def Fk (own : String) (idx kk k : Nat) : Prop := ∃ (Cn : String) (T : u_T) (ty : Nat → FieldType), clss[kk]? = some (Cn, T, nf kk) ∧ k < nf kk ∧ (∀ w ∈ u_ws Cn T (nf kk), w ∈ WS) ∧ Cond.fieldLink own idx Cn (T k).2.1 (T k).2.2.1 ∈ WS ∧ (T k).1 = Cn ∧
  (∀ k, k < nf kk → parseFieldDescriptor (T k).2.2.1 = some (ty k)) ∧ (∀ a, a < nf kk → ∀ b, b < nf kk → a ≠ b → (T a).2.1 ≠ (T b).2.1)
def Fty (kk k : Nat) (ty : FieldType) (fin : Bool) : Prop := ∃ q : vw_C, clss[kk]? = some q ∧ parseFieldDescriptor (q.2.1 k).2.2.1 = some ty ∧ (q.2.1 k).2.2.2 = fin
theorem fv_get {Γ : Ga} {ω : Wo} {kk a k : Nat} (h : k < nf kk) : ((List.range (nf kk)).map (fv Γ ω kk a))[k]? = some (fv Γ ω kk a k) := by simp [h]
theorem WE_obj {Γ : Ga} {ω : Wo} {a kk : Nat} {κ : Nat → Nat} (h : κ a = kk) (hk : kk < 9) : WE Γ ω a κ = .inr (kk, (List.range (nf kk)).map (fv Γ ω kk a)) := by
  unfold WE EK; rw [h, if_pos hk]; rfl
theorem Fk.lt {own : String} {idx kk k : Nat} (F : Fk own idx kk k) : kk < 9 := by
  obtain ⟨Cn, T, ty, h, -⟩ := F
  exact (List.getElem?_eq_some_iff.mp h).1
section HEAP
variable {κ : Nat → Nat} {Γ : Ga} {p : Program} {l : Launch} {e : Env} {R : Room} {s : State} {m : MethodId} {args : Array Value} {below : List Frame} {meth : Method} {c : Code} {Q : State → Prop} {n ce sl : Nat} {cc : ByteArray} {own : String} {nL pc pc' idx a kk k : Nat} {L : List (Option Value)} {S : List Value} {ω : Wo}
theorem j_get (C : Cx Γ p l s m args meth c cc own nL) (F : Fk own idx kk k) (ha : At n a kk κ) (d : Dx cc pc (.getfield idx) 3 pc') (kx : J Γ p l e R s m args below meth c Q n ce sl pc' L (fv Γ ω kk a k :: S) ω κ) : J Γ p l e R s m args below meth c Q n ce sl pc L (.ref (rl Γ a) :: S) ω κ := by
  intro H locs ls hP hS hl
  have hlt := F.lt
  obtain ⟨Cn, T, ty, hc, hk, hin, hlink, hsame, -, -⟩ := F
  obtain ⟨hd, rfl⟩ := d
  have he : (WL Γ n ω κ)[a]? = some (rl Γ a, .inr (kk, (List.range (nf kk)).map (fv Γ ω kk a))) := by rw [WL_get ha.1, WE_obj ha.2.2 hlt]
  exact va_get C.1 C.2.1 C.2.2.2.2.1 hin C.2.2.2.1 C.2.2.2.2.2.1.1 hP.1 a he hc k hk (C.2.2.2.2.1 _ hlink) (fun x h => by rw [← hsame]; exact h) (fv_get hk) hd (kx H locs ls hP hS hl)
theorem j_geti (C : Cx Γ p l s m args meth c cc own nL) (F : Fk own idx kk k) (ha : At n a kk κ) (hr : rfm kk k = false) {v : Int} (he : ω.1 a k = v) (d : Dx cc pc (.getfield idx) 3 pc') (kx : Rg v → J Γ p l e R s m args below meth c Q n ce sl pc' L (.int (iI v) :: S) ω κ) : J Γ p l e R s m args below meth c Q n ce sl pc L (.ref (rl Γ a) :: S) ω κ := by
  intro H locs ls hP hS hl
  refine j_get C F ha d ?_ H locs ls hP hS hl
  have : fv Γ ω kk a k = .int (iI v) := by unfold fv; rw [hr, he]; rfl
  rw [this]
  exact kx (he ▸ hP.2.1 a k)
theorem j_getr (C : Cx Γ p l s m args meth c cc own nL) (F : Fk own idx kk k) (ha : At n a kk κ) (hr : rfm kk k = true) {b : Nat} (he : ω.2.1 a k = some b) (d : Dx cc pc (.getfield idx) 3 pc') (kx : J Γ p l e R s m args below meth c Q n ce sl pc' L (.ref (rl Γ b) :: S) ω κ) : J Γ p l e R s m args below meth c Q n ce sl pc L (.ref (rl Γ a) :: S) ω κ := by
  refine j_get C F ha d ?_
  have : fv Γ ω kk a k = .ref (rl Γ b) := by unfold fv; rw [hr, he]; rfl
  rw [this]
  exact kx
theorem fv_set_i {Γ : Ga} {ω : Wo} {kk a k : Nat} {v : Int} (hk : k < nf kk) (hr : rfm kk k = false) : ((List.range (nf kk)).map (fv Γ ω kk a)).set k (.int (iI v)) = (List.range (nf kk)).map (fv Γ (wi ω a k v) kk a) := by
  apply List.ext_getElem?
  intro i
  rw [List.getElem?_set]
  by_cases hi : i < nf kk
  · by_cases e : k = i
    · subst e
      simp [hi, fv, hr, wi]
    · rw [if_neg e]
      have e2 : ¬ i = k := fun q => e q.symm
      simp [hi, fv, wi, e2]
  · have : ¬ k = i := by omega
    rw [if_neg this]
    simp [hi]
theorem fv_set_r {Γ : Ga} {ω : Wo} {kk a k : Nat} {v : Nat} (hk : k < nf kk) (hr : rfm kk k = true) : ((List.range (nf kk)).map (fv Γ ω kk a)).set k (.ref (rl Γ v)) = (List.range (nf kk)).map (fv Γ (wr ω a k (some v)) kk a) := by
  apply List.ext_getElem?
  intro i
  rw [List.getElem?_set]
  by_cases hi : i < nf kk
  · by_cases e : k = i
    · subst e
      simp [hi, fv, hr, wr, va_rf]
    · rw [if_neg e]
      have e2 : ¬ i = k := fun q => e q.symm
      simp [hi, fv, wr, e2]
  · have : ¬ k = i := by omega
    rw [if_neg this]
    simp [hi]
theorem wi_ne {ω : Wo} {a k x : Nat} {v : Int} (h : x ≠ a) : (wi ω a k v).1 x = ω.1 x := by funext y; simp [wi, h]
theorem wr_ne {ω : Wo} {a k x : Nat} {v : Option Nat} (h : x ≠ a) : (wr ω a k v).2.1 x = ω.2.1 x := by funext y; simp [wr, h]
theorem wi_rg {ω : Wo} {a k : Nat} {v : Int} (h : ∀ x y, Rg (ω.1 x y)) (hv : Rg v) : ∀ x y, Rg ((wi ω a k v).1 x y) := by
  intro x y
  show Rg (if x = a then (if y = k then v else ω.1 x y) else ω.1 x y)
  split
  · split
    · exact hv
    · exact h x y
  · exact h x y
theorem j_puti (C : Cx Γ p l s m args meth c cc own nL) (F : Fk own idx kk k) (ha : At n a kk κ) (hr : rfm kk k = false) {ty : FieldType} (hf : Fty kk k ty false) {v : Int} (hn : narrow ty (.int (iI v)) = .int (iI v)) (hfit : fits ty (.int (iI v)) = true) (hv : Rg v) (d : Dx cc pc (.putfield idx) 3 pc') (kx : J Γ p l e R s m args below meth c Q n ce sl pc' L S (wi ω a k v) κ) : J Γ p l e R s m args below meth c Q n ce sl pc L (.int (iI v) :: .ref (rl Γ a) :: S) ω κ := by
  intro H locs ls hP hS hl
  have hlt := F.lt
  obtain ⟨Cn, T, ty0, hc, hk, hin, hlink, hsame, hty, hnm⟩ := F
  obtain ⟨q, hq, hf1, hf2⟩ := hf
  cases Option.some.inj (hc.symm.trans hq)
  obtain ⟨hd, rfl⟩ := d
  have he : (WL Γ n ω κ)[a]? = some (rl Γ a, .inr (kk, (List.range (nf kk)).map (fv Γ ω kk a))) := by rw [WL_get ha.1, WE_obj ha.2.2 hlt]
  refine va_put C.1 C.2.1 C.2.2.2.2.1 hin ty0 hty hnm C.2.2.2.1 C.2.2.2.2.2.1.1 hP.1 hP.D hS a he hc k hk (C.2.2.2.2.1 _ hlink) (fun x h => by rw [← hsame]; exact h) hf2 hf1 hn hfit (by simp [hk]) hd fun H1 locs1 h1 _ h3 => ?_
  rw [WL_set (ω' := wi ω a k v) (by rw [WE_obj ha.2.2 hlt, fv_set_i hk hr]) (fun x hx => WE_ne (wi_ne hx) rfl (Or.inr rfl))] at h1
  exact kx H1 locs1 ls ⟨h1, wi_rg hP.2.1 hv, hP.2.2⟩ h3 hl
theorem j_putI (C : Cx Γ p l s m args meth c cc own nL) (F : Fk own idx kk k) (ha : At n a kk κ) (hr : rfm kk k = false) (hf : Fty kk k .int false) {v : Int} (hv : Rg v) (d : Dx cc pc (.putfield idx) 3 pc') (kx : J Γ p l e R s m args below meth c Q n ce sl pc' L S (wi ω a k v) κ) : J Γ p l e R s m args below meth c Q n ce sl pc L (.int (iI v) :: .ref (rl Γ a) :: S) ω κ :=
  j_puti C F ha hr hf rfl rfl hv d kx
theorem j_putB (C : Cx Γ p l s m args meth c cc own nL) (F : Fk own idx kk k) (ha : At n a kk κ) (hr : rfm kk k = false) (hf : Fty kk k .boolean false) {v : Int} (hv : v = 0 ∨ v = 1) (d : Dx cc pc (.putfield idx) 3 pc') (kx : J Γ p l e R s m args below meth c Q n ce sl pc' L S (wi ω a k v) κ) : J Γ p l e R s m args below meth c Q n ce sl pc L (.int (iI v) :: .ref (rl Γ a) :: S) ω κ :=
  j_puti C F ha hr hf (by rcases hv with rfl | rfl <;> rfl) (by rcases hv with rfl | rfl <;> rfl) (by rcases hv with rfl | rfl <;> decide) d kx
/-! arrays -/
def arrI (kk : Nat) : Bool := !(decide (kk < 9)) && !(isRk kk) && kk != 23 && kk != 24
theorem WE_int {Γ : Ga} {ω : Wo} {a kk : Nat} {κ : Nat → Nat} (h : κ a = kk) (hk : arrI kk = true) : WE Γ ω a κ = .inl (gC Γ (tyk kk), lnk kk, .inl fun j => iI (ω.1 a j)) := by
  simp only [arrI, Bool.and_eq_true, Bool.not_eq_true', decide_eq_false_iff_not, bne_iff_ne, ne_eq] at hk
  unfold WE EK EI; rw [h, if_neg hk.1.1.1, hk.1.1.2, if_neg (by decide), if_neg hk.1.2, if_neg hk.2]
theorem WE_ref {Γ : Ga} {ω : Wo} {a kk : Nat} {κ : Nat → Nat} (h : κ a = kk) (hk : isRk kk = true) : WE Γ ω a κ = .inl (gC Γ (tyk kk), lnk kk, .inr (.inr (.inr (.inr fun j => (ω.2.1 a j).map (rl Γ))))) := by
  have h9 : ¬ kk < 9 := by
    intro q
    have : ∀ z, z < 9 → isRk z = false := by decide
    rw [this kk q] at hk; cases hk
  unfold WE EK ER; rw [h, if_neg h9, if_pos hk]
theorem j_aldg {ty : FieldType} (C : Cx Γ p l s m args meth c cc own nL) (ha : At n a kk κ) (hk : arrI kk = true) (hty : (gT Γ)[tyk kk]? = some (gC Γ (tyk kk), ty)) {i : Int} {N : Nat} (hN : lnk kk = N) (hi : 0 ≤ i ∧ i < N) (hNs : N < 2147483648) {v : Int} (he : ω.1 a i.toNat = v)
    (hop : (ty = .int ∧ Dx cc pc (.iaload) 1 pc') ∨ (ty = .char ∧ Dx cc pc (.caload) 1 pc')) (kx : Rg v → J Γ p l e R s m args below meth c Q n ce sl pc' L (.int (iI v) :: S) ω κ) : J Γ p l e R s m args below meth c Q n ce sl pc L (.int (iI i) :: .ref (rl Γ a) :: S) ω κ := by
  intro H locs ls hP hS hl
  subst hN
  have hw : (WL Γ n ω κ)[a]? = some (rl Γ a, .inl (gC Γ (tyk kk), lnk kk, .inl fun j => iI (ω.1 a j))) := by rw [WL_get ha.1, WE_int ha.2.2 hk]
  have hin : vp_in (iI i) (lnk kk) := iI_in hi hNs
  have hcl : (iI i).toNatClampNeg = i.toNat := iI_cl ⟨hi.1, by omega⟩
  have hr := hP.2.1 a i.toNat
  rw [he] at hr
  have K := kx hr H locs ls hP hS hl
  rcases hop with ⟨rfl, hd, rfl⟩ | ⟨rfl, hd, rfl⟩
  · refine va_iald C.1 C.2.1 C.2.2.2.2.2.1.1 hP.1 a (tyk kk) hw hty hin hd ?_
    rw [hcl, he]; exact K
  · refine va_cald C.1 C.2.1 C.2.2.2.2.2.1.1 hP.1 a (tyk kk) hw hty hin hd ?_
    rw [hcl, he]; exact K
theorem j_iald (C : Cx Γ p l s m args meth c cc own nL) (ha : At n a kk κ) (hk : arrI kk = true ∧ tyk kk = 0) {i : Int} {N : Nat} (hN : lnk kk = N) (hNs : N < 2147483648) (hi : 0 ≤ i ∧ i < N) {v : Int} (he : ω.1 a i.toNat = v) (d : Dx cc pc (.iaload) 1 pc')
    (kx : Rg v → J Γ p l e R s m args below meth c Q n ce sl pc' L (.int (iI v) :: S) ω κ) : J Γ p l e R s m args below meth c Q n ce sl pc L (.int (iI i) :: .ref (rl Γ a) :: S) ω κ :=
  j_aldg C ha hk.1 (by rw [hk.2]; rfl) hN hi hNs he (Or.inl ⟨rfl, d⟩) kx
theorem j_cald (C : Cx Γ p l s m args meth c cc own nL) (ha : At n a 14 κ) {i : Int} (hi : 0 ≤ i ∧ i < 60) {v : Int} (he : ω.1 a i.toNat = v) (d : Dx cc pc (.caload) 1 pc')
    (kx : Rg v → J Γ p l e R s m args below meth c Q n ce sl pc' L (.int (iI v) :: S) ω κ) : J Γ p l e R s m args below meth c Q n ce sl pc L (.int (iI i) :: .ref (rl Γ a) :: S) ω κ :=
  j_aldg C ha rfl rfl (N := 60) rfl hi (by decide) he (Or.inr ⟨rfl, d⟩) kx
theorem EI_set {Γ : Ga} {ω : Wo} {a kk k : Nat} {v : Int} {κ : Nat → Nat} (h : κ a = kk) (hk : arrI kk = true) : WE Γ (wi ω a k v) a κ = .inl (gC Γ (tyk kk), lnk kk, .inl (upd (fun j => iI (ω.1 a j)) k (iI v))) := by
  rw [WE_int h hk]
  congr 4
  funext j
  by_cases e : j = k
  · simp [wi, upd, e]
  · simp [wi, upd, e]
theorem j_iast (C : Cx Γ p l s m args meth c cc own nL) (ha : At n a kk κ) (hk : arrI kk = true ∧ tyk kk = 0) {i : Int} {N : Nat} (hN : lnk kk = N) (hNs : N < 2147483648) (hi : 0 ≤ i ∧ i < N) {v : Int} (hv : Rg v) (d : Dx cc pc (.iastore) 1 pc')
    (kx : J Γ p l e R s m args below meth c Q n ce sl pc' L S (wi ω a i.toNat v) κ) : J Γ p l e R s m args below meth c Q n ce sl pc L (.int (iI v) :: .int (iI i) :: .ref (rl Γ a) :: S) ω κ := by
  intro H locs ls hP hS hl
  subst hN
  have hw : (WL Γ n ω κ)[a]? = some (rl Γ a, .inl (gC Γ (tyk kk), lnk kk, .inl fun j => iI (ω.1 a j))) := by rw [WL_get ha.1, WE_int ha.2.2 hk.1]
  have hin : vp_in (iI i) (lnk kk) := iI_in hi hNs
  have hcl : (iI i).toNatClampNeg = i.toNat := iI_cl ⟨hi.1, by omega⟩
  obtain ⟨hd, rfl⟩ := d
  refine va_iast C.1 C.2.1 C.2.2.2.2.2.1.1 hP.1 hP.D hS a (tyk kk) hw (by rw [hk.2]; rfl) hin hd fun H1 locs1 h1 _ h3 => ?_
  rw [WL_set (ω' := wi ω a i.toNat v) (by rw [EI_set ha.2.2 hk.1, hcl]) (fun x hx => WE_ne (wi_ne hx) rfl (Or.inr rfl))] at h1
  exact kx H1 locs1 ls ⟨h1, wi_rg hP.2.1 hv, hP.2.2⟩ h3 hl
theorem j_cast (C : Cx Γ p l s m args meth c cc own nL) (ha : At n a 14 κ) {i : Int} (hi : 0 ≤ i ∧ i < 60) {v : Int} (hv : 0 ≤ v ∧ v < 65536) (d : Dx cc pc (.castore) 1 pc')
    (kx : J Γ p l e R s m args below meth c Q n ce sl pc' L S (wi ω a i.toNat v) κ) : J Γ p l e R s m args below meth c Q n ce sl pc L (.int (iI v) :: .int (iI i) :: .ref (rl Γ a) :: S) ω κ := by
  intro H locs ls hP hS hl
  have hw : (WL Γ n ω κ)[a]? = some (rl Γ a, .inl (gC Γ (tyk 14), lnk 14, .inl fun j => iI (ω.1 a j))) := by rw [WL_get ha.1, WE_int ha.2.2 rfl]
  have hin : vp_in (iI i) (lnk 14) := iI_in hi (by decide)
  have hcl : (iI i).toNatClampNeg = i.toNat := iI_cl ⟨hi.1, by omega⟩
  obtain ⟨hd, rfl⟩ := d
  refine va_cast C.1 C.2.1 C.2.2.2.2.2.1.1 hP.1 hP.D hS a (tyk 14) hw rfl hin hd fun H1 locs1 h1 _ h3 => ?_
  have hnar : vp_nar .char (iI v) = iI v := by
    obtain ⟨q, rfl⟩ := Int.eq_ofNat_of_zero_le hv.1
    rw [iI_nat]
    have := (pk_charN (q := q) (by omega)).1
    unfold vp_nar; rw [this]
  rw [hnar, WL_set (ω' := wi ω a i.toNat v) (by rw [EI_set ha.2.2 rfl, hcl]) (fun x hx => WE_ne (wi_ne hx) rfl (Or.inr rfl))] at h1
  exact kx H1 locs1 ls ⟨h1, wi_rg hP.2.1 ⟨by omega, by omega⟩, hP.2.2⟩ h3 hl
theorem j_aald (C : Cx Γ p l s m args meth c cc own nL) (ha : At n a kk κ) (hk : isRk kk = true) {Cn : String} (hty : (gT Γ)[tyk kk]? = some (gC Γ (tyk kk), .object Cn)) {i : Int} {N : Nat} (hN : lnk kk = N) (hNs : N < 2147483648) (hi : 0 ≤ i ∧ i < N) {b : Nat} (he : ω.2.1 a i.toNat = some b) (d : Dx cc pc (.aaload) 1 pc')
    (kx : J Γ p l e R s m args below meth c Q n ce sl pc' L (.ref (rl Γ b) :: S) ω κ) : J Γ p l e R s m args below meth c Q n ce sl pc L (.int (iI i) :: .ref (rl Γ a) :: S) ω κ := by
  intro H locs ls hP hS hl
  subst hN
  have hw : (WL Γ n ω κ)[a]? = some (rl Γ a, .inl (gC Γ (tyk kk), lnk kk, .inr (.inr (.inr (.inr fun j => (ω.2.1 a j).map (rl Γ)))))) := by rw [WL_get ha.1, WE_ref ha.2.2 hk]
  have hin : vp_in (iI i) (lnk kk) := iI_in hi hNs
  have hcl : (iI i).toNatClampNeg = i.toNat := iI_cl ⟨hi.1, by omega⟩
  obtain ⟨hd, rfl⟩ := d
  refine va_aldq C.1 C.2.1 C.2.2.2.2.2.1.1 hP.1 a (tyk kk) hw hty hin hd ?_
  rw [hcl, he]
  exact kx H locs ls hP hS hl
theorem j_aast (C : Cx Γ p l s m args meth c cc own nL) (ha : At n a kk κ) (hk : isRk kk = true) {r : vw_C} {kb b : Nat} (hc : clss[kb]? = some r) (hty : (gT Γ)[tyk kk]? = some (gC Γ (tyk kk), .object r.1)) (hb : At n b kb κ) {i : Int} {N : Nat} (hN : lnk kk = N) (hNs : N < 2147483648) (hi : 0 ≤ i ∧ i < N) (d : Dx cc pc (.aastore) 1 pc')
    (kx : J Γ p l e R s m args below meth c Q n ce sl pc' L S (wr ω a i.toNat (some b)) κ) : J Γ p l e R s m args below meth c Q n ce sl pc L (.ref (rl Γ b) :: .int (iI i) :: .ref (rl Γ a) :: S) ω κ := by
  intro H locs ls hP hS hl
  have h9 : kb < 9 := (List.getElem?_eq_some_iff.mp hc).1
  subst hN
  have hw : (WL Γ n ω κ)[a]? = some (rl Γ a, .inl (gC Γ (tyk kk), lnk kk, .inr (.inr (.inr (.inr fun j => (ω.2.1 a j).map (rl Γ)))))) := by rw [WL_get ha.1, WE_ref ha.2.2 hk]
  have hw2 : (WL Γ n ω κ)[b]? = some (rl Γ b, .inr (kb, (List.range (nf kb)).map (fv Γ ω kb b))) := by rw [WL_get hb.1, WE_obj hb.2.2 h9]
  have hin : vp_in (iI i) (lnk kk) := iI_in hi hNs
  have hcl : (iI i).toNatClampNeg = i.toNat := iI_cl ⟨hi.1, by omega⟩
  obtain ⟨hd, rfl⟩ := d
  refine va_astq C.1 C.2.1 C.2.2.2.2.2.1.1 hP.1 hP.D hS a (tyk kk) b kb hw hty hw2 hc hin hd fun H1 locs1 h1 _ h3 => ?_
  rw [WL_set (ω := ω) (ω' := wr ω a i.toNat (some b)) (by
    rw [WE_ref ha.2.2 hk, hcl]; congr 7
    funext j
    by_cases e : j = i.toNat
    · simp [wr, va_up, e]
    · simp [wr, va_up, e]) (fun x hx => WE_ne rfl (wr_ne hx) (Or.inr rfl))] at h1
  exact kx H1 locs1 ls ⟨h1, hP.2⟩ h3 hl
end HEAP
end
section
/-! contracts over the abstract heap, entry, ends, calls -/
def rmk (d mc ms : Nat) : Room := { frames := d, cells := mc, slots := ms, locals := 64 * d }
def Pcx (Γ : Ga) (as : List Value) (ω : Wo) (n : Nat := 243) (κ : Nat → Nat := kd) : Array Value → State → Prop := fun a U => a = as.toArray ∧ Kx Γ U ∧ Rp Γ n ω U.heap κ
theorem Pcx.blind {Γ : Ga} {as : List Value} {ω : Wo} {n : Nat} {κ : Nat → Nat} : FrameBlind (Pcx Γ as ω n κ) := fun a U g mk h => ⟨h.1, h.2.1.calling g mk a, h.2.2⟩
abbrev Bx (Γ : Ga) (n : Nat := 243) (κ : Nat → Nat := kd) : Wo → State → Prop := fun ω' t => Rp Γ n ω' t.heap κ
def QI (Γ : Ga) (Po : Int → Wo → Prop) (n : Nat := 243) (κ : Nat → Nat := kd) : Array Value → State → Outcome → State → Prop := va_Qi (fun (r : Int32) (ω' : Wo) => ∃ z, r = iI z ∧ Rg z ∧ Po z ω') (Bx Γ n κ) (gA Γ)
def QV (Γ : Ga) (Po : Wo → Prop) (n : Nat := 243) (κ : Nat → Nat := kd) : Array Value → State → Outcome → State → Prop := va_Qv Po (Bx Γ n κ) (gA Γ)
def CI (Γ : Ga) (l : Launch) (y : MethodName) (bytes : ByteArray) (maxL : Nat) (rt : FieldType) (d : Nat) (as : List Value) (ω : Wo) (Po : Int → Wo → Prop) (n : Nat := 243) (κ : Nat → Nat := kd) : Prop :=
  Met l y (.code y bytes maxL (some rt) :: WS) (rmk d 0 0) (Pcx Γ as ω n κ) (QI Γ Po n κ) 0 0 (gA Γ)
def CV (Γ : Ga) (l : Launch) (y : MethodName) (bytes : ByteArray) (maxL : Nat) (d : Nat) (as : List Value) (ω : Wo) (Po : Wo → Prop) (n : Nat := 243) (κ : Nat → Nat := kd) : Prop :=
  Met l y (.code y bytes maxL none :: WS) (rmk d 0 0) (Pcx Γ as ω n κ) (QV Γ Po n κ) 0 0 (gA Γ)
theorem lk.entry {as : List Value} {maxL k : Nat} {L : List (Option Value)} (hk : maxL = as.length + k) (hL : L = as.map some ++ List.replicate k none) (hc : as.all (fun v => v.category == 1) = true) : lk ((lg_sl as ++ List.replicate (maxL - (lg_sl as).length) Slot.unset).toArray) L := by
  have h1 : ∀ as : List Value, as.all (fun v => v.category == 1) = true → (lg_sl as).length = as.length := by
    intro as
    induction as with
    | nil => intro _; rfl
    | cons a t ih =>
      intro h
      simp only [List.all_cons, Bool.and_eq_true, beq_iff_eq] at h
      have := ih h.2
      show ((if a.category = 2 then [Slot.val a, Slot.second] else [Slot.val a]) ++ lg_sl t).length = _
      rw [if_neg (by rw [h.1]; decide), List.length_append, this]
      simp; omega
  have h2 : ∀ (as : List Value) (i : Nat), as.all (fun v => v.category == 1) = true → ∀ (j : Nat) (v : Value), as[j]? = some v → (i + j, v) ∈ lv_args i as := by
    intro as
    induction as with
    | nil => intro i _ j v h; simp at h
    | cons a t ih =>
      intro i h j v hj
      simp only [List.all_cons, Bool.and_eq_true, beq_iff_eq] at h
      cases j with
      | zero => simp at hj; subst hj; simp [lv_args]
      | succ j =>
        simp at hj
        have := ih (i + 1) h.2 j v hj
        simp only [lv_args, h.1, List.mem_cons]
        right
        have e : i + (j + 1) = i + 1 + j := by omega
        rw [e]; exact this
  have hl := lv_entry as (n := maxL) (by rw [h1 as hc]; omega)
  refine ⟨by rw [hl.1, hL]; simp [hk], hl.2.1, fun i v hi => ?_⟩
  rw [hL, List.getElem?_append] at hi
  split at hi
  · rename_i hlt
    rw [List.getElem?_map] at hi
    cases hv : as[i]? with
    | none => rw [hv] at hi; cases hi
    | some w =>
      rw [hv] at hi
      cases hi
      have := h2 as 0 hc i v hv
      rw [Nat.zero_add] at this
      exact hl.2.2 (i, v) this
  · rw [List.getElem?_replicate] at hi
    split at hi <;> cases hi
section CALLS
variable {κ : Nat → Nat} {Γ : Ga} {p : Program} {l : Launch} {e : Env} {R : Room} {s : State} {m : MethodId} {args : Array Value} {below : List Frame} {meth : Method} {c : Code} {Q : State → Prop} {n ce sl : Nat} {cc : ByteArray} {own : String} {nL pc pc' idx a kk k : Nat} {L : List (Option Value)} {S : List Value} {ω : Wo}
theorem Met.ofJ {y : MethodName} {bytes : ByteArray} {maxL d mc ms k : Nat} {ret : Option FieldType} {as : List Value} {Qc : Array Value → State → Outcome → State → Prop} (L : List (Option Value)) (hy : plainName y.cls = true) (hk : maxL = as.length + k) (hL : L = as.map some ++ List.replicate k none) (hc : as.all (fun v => v.category == 1) = true)
    (body : ∀ p e s m args below meth c, Cx Γ p l s m args meth c bytes y.cls maxL → meth.sig.returnType = ret → J Γ p l e (rmk d mc ms) s m args below meth c (MQ below Qc args s mc ms (gA Γ)) n 0 0 0 L [] ω κ) :
    Met l y (.code y bytes maxL ret :: WS) (rmk d mc ms) (Pcx Γ as ω n κ) Qc mc ms (gA Γ) := by
  refine Met.ofW (cc := bytes) (maxL := maxL) (ret := ret) hy rfl ?_
  intro p e s m args below meth c s₁ B hml hv
  obtain ⟨rfl, hK, hR⟩ := hv
  have hts : ∀ w ∈ (Cond.code y bytes maxL ret :: WS), w.before as.toArray s = true := atoms_spec B.pre
  have C : Cx Γ p l s m as.toArray meth c bytes y.cls maxL := ⟨B.exec, B.bytes, hml, findClass_of_methodNamed B.named, fun w hw => hts w (List.mem_cons_of_mem _ hw), hK, B.notSynchronized⟩
  have K := body p e s m as.toArray below meth c C B.returns
  have hlk := lk.entry hk hL hc
  rw [lg_entry_eq]
  exact K s.heap [] _ hR va_S.rf hlk
/-- what a call needs of the tables -/
def Oc (y : MethodName) (bytes : ByteArray) (maxL : Nat) (ret : Option FieldType) (na : Nat) : Prop := (Cond.instanceMethod y ∈ WS ∧ Cond.selects y.cls y y ∈ WS) ∧ Cond.initialized y.cls ∈ WS ∧ Cond.code y bytes maxL ret ∈ WS ∧ (y.cls ≠ "java/lang/invoke/MethodHandle" ∧ y.cls ≠ "java/lang/invoke/VarHandle" ∧ (parseMethodDescriptor y.desc).map (fun d => d.parameters.length) = some na)
def Os (y : MethodName) (bytes : ByteArray) (maxL : Nat) (ret : Option FieldType) (na : Nat) : Prop := Cond.static y ∈ WS ∧ Cond.initialized y.cls ∈ WS ∧ Cond.code y bytes maxL ret ∈ WS ∧ (y.cls ≠ "java/lang/invoke/MethodHandle" ∧ y.cls ≠ "java/lang/invoke/VarHandle" ∧ (parseMethodDescriptor y.desc).map (fun d => d.parameters.length) = some na)
def Lk (own : String) (idx : Nat) (y : MethodName) : Prop := Cond.methodLink own idx y ∈ WS
theorem inWS {y : MethodName} {bytes : ByteArray} {maxL : Nat} {ret : Option FieldType} (h : Cond.code y bytes maxL ret ∈ WS) : GoodIn WS (Cond.code y bytes maxL ret :: WS) :=
  WS_in fun w hw => (List.mem_cons.mp hw).elim (fun q => q ▸ h) (fun q => q)
theorem Rp.recv {kk a : Nat} {q : vw_C} {H : Heap} (hK : va_K (gD Γ) clss (gT Γ) s) (hR : Rp Γ n ω H κ) (ha : At n a kk κ) (hq : clss[kk]? = some q) : ∃ cell : Cell, H[rl Γ a]? = some cell ∧ cell.vm.isStatics = false ∧ s.vm.findClass q.1 = some cell.cls := by
  have h9 : kk < 9 := (List.getElem?_eq_some_iff.mp hq).1
  exact va_recv hK hR.1 hq (by rw [WL_get ha.1, WE_obj ha.2.2 h9])
/-- the receiver's class -/
def Rc (kk : Nat) (y : MethodName) : Prop := ∃ q : vw_C, clss[kk]? = some q ∧ q.1 = y.cls
theorem j_runV {y : MethodName} {bytes : ByteArray} {maxL d D na mx sx : Nat} {ret : Option FieldType} {as : List Value} {Qc : Array Value → State → Outcome → State → Prop} {H : Heap} {locs : List Loc} {ls : Array Slot} (C : Cx Γ p l s m args meth c cc own nL)
    (hM : Met l y (.code y bytes maxL ret :: WS) (rmk d 0 0) (Pcx Γ (.ref (rl Γ a) :: as) ω n κ) Qc 0 0 (gA Γ)) (O : Oc y bytes maxL ret na) (K : Lk own idx y) (hrc : Rc kk y) (ha : At n a kk κ) (hD : d + 1 ≤ D ∧ maxL ≤ 40) (hn : as.length = na) (dd : decode cc pc = .ok (.invokevirtual idx, 3)) (hL : L.length = nL)
    (hcat : (S.map fun v => v.category).sum ≤ 8) (hce : ce ≤ mx ∧ sl ≤ sx) (hP : Rp Γ n ω H κ) (hS : va_S (gA Γ) s.heap H locs) (hl : lk ls L) :
    va_Run p l e (rmk D mx sx) s m args below meth c H locs ce sl 0 0 (F0 m pc ls (as.reverse ++ .ref (rl Γ a) :: S)) S (Qc (Value.ref (rl Γ a) :: as).toArray) (gA Γ) := by
  obtain ⟨⟨o1, o2⟩, o3, o4, o5⟩ := O
  obtain ⟨q, hq, hqc⟩ := hrc
  refine va_runV (Ts := WS) (n := na) ⟨C.1, C.2.1, C.2.2.1, C.2.2.2.1, C.2.2.2.2.1⟩ hM (C := y.cls) (cwV na C.2.2.2.2.1 ?_ rfl rfl rfl ⟨rfl, o5⟩ ⟨hD.1, ?_⟩) ⟨Pcx.blind, ?_, ?_⟩ rfl hn (hl.1.trans hL) rfl (lv_room hcat) dd ⟨?_, ?_⟩
  · refine WS_in fun w hw => ?_
    unfold wsV at hw
    rcases List.mem_append.mp hw with h | h
    · simp only [List.mem_cons, List.not_mem_nil, or_false] at h
      rcases h with rfl | rfl | rfl | rfl
      · exact K
      · exact o1
      · exact o2
      · exact o3
    · exact (List.mem_cons.mp h).elim (fun q => q ▸ o4) (fun q => q)
  · show 8 + (maxL + 11) + 64 * d ≤ 64 * D
    omega
  · rw [← hqc]; exact Rp.recv C.2.2.2.2.2.1.1 hP ha hq
  · intro U hU hW
    exact ⟨rfl, C.2.2.2.2.2.1.next hW hU hS, by rw [hU]; exact hP⟩
  · show ce + 0 ≤ mx
    omega
  · show sl + 0 ≤ sx
    omega
theorem j_runS {y : MethodName} {bytes : ByteArray} {maxL d D na mx sx : Nat} {ret : Option FieldType} {as : List Value} {Qc : Array Value → State → Outcome → State → Prop} {H : Heap} {locs : List Loc} {ls : Array Slot} (C : Cx Γ p l s m args meth c cc own nL)
    (hM : Met l y (.code y bytes maxL ret :: WS) (rmk d 0 0) (Pcx Γ as ω n κ) Qc 0 0 (gA Γ)) (O : Os y bytes maxL ret na) (K : Lk own idx y) (hD : d + 1 ≤ D ∧ maxL ≤ 40) (hn : as.length = na) (dd : decode cc pc = .ok (.invokestatic idx, 3)) (hL : L.length = nL)
    (hcat : (S.map fun v => v.category).sum ≤ 8) (hce : ce ≤ mx ∧ sl ≤ sx) (hP : Rp Γ n ω H κ) (hS : va_S (gA Γ) s.heap H locs) (hl : lk ls L) :
    va_Run p l e (rmk D mx sx) s m args below meth c H locs ce sl 0 0 (F0 m pc ls (as.reverse ++ S)) S (Qc as.toArray) (gA Γ) := by
  obtain ⟨o1, o3, o4, o5⟩ := O
  refine va_runS (Ts := WS) (n := na) ⟨C.1, C.2.1, C.2.2.1, C.2.2.2.1, C.2.2.2.2.1⟩ hM ⟨callB_of na C.2.2.2.2.1 (inWS o4) rfl rfl rfl (C.2.2.2.2.1 _ o3) (C.2.2.2.2.1 _ K) o5 ⟨hD.1, ?_⟩, C.2.2.2.2.1 _ o1⟩ ⟨Pcx.blind, ?_⟩ rfl hn (hl.1.trans hL) rfl (lv_room hcat) dd ⟨?_, ?_⟩
  · show 8 + (maxL + 11) + 64 * d ≤ 64 * D
    omega
  · intro U hU hW
    exact ⟨rfl, C.2.2.2.2.2.1.next hW hU hS, by rw [hU]; exact hP⟩
  · show ce + 0 ≤ mx
    omega
  · show sl + 0 ≤ sx
    omega
/-- a private static method of a nest mate -/
theorem j_runSN {y : MethodName} {host : String} {bytes : ByteArray} {maxL d D na mx sx : Nat} {ret : Option FieldType} {as : List Value} {Qc : Array Value → State → Outcome → State → Prop} {H : Heap} {locs : List Loc} {ls : Array Slot} (C : Cx Γ p l s m args meth c cc own nL)
    (hM : Met l y (.code y bytes maxL ret :: WS) (rmk d 0 0) (Pcx Γ as ω n κ) Qc 0 0 (gA Γ)) (O : Os y bytes maxL ret na) (K : (own, idx, y, host) ∈ nstM) (hD : d + 1 ≤ D ∧ maxL ≤ 40) (hn : as.length = na) (dd : decode cc pc = .ok (.invokestatic idx, 3)) (hL : L.length = nL)
    (hcat : (S.map fun v => v.category).sum ≤ 8) (hce : ce ≤ mx ∧ sl ≤ sx) (hP : Rp Γ n ω H κ) (hS : va_S (gA Γ) s.heap H locs) (hl : lk ls L) :
    va_Run p l e (rmk D mx sx) s m args below meth c H locs ce sl 0 0 (F0 m pc ls (as.reverse ++ S)) S (Qc as.toArray) (gA Γ) := by
  obtain ⟨o1, o3, o4, o5⟩ := O
  refine va_runSN (Ts := WS) (n := na) (host := host) ⟨C.1, C.2.1, C.2.2.1, C.2.2.2.1, C.2.2.2.2.1⟩ hM ⟨va_cnB na C.2.2.2.2.1 (inWS o4) rfl rfl rfl (C.2.2.2.2.2.1.2.2.1 _ K) (C.2.2.2.2.1 _ o3) o5 ⟨hD.1, ?_⟩, C.2.2.2.2.1 _ o1, trivial⟩ ⟨Pcx.blind, ?_⟩ rfl hn (hl.1.trans hL) rfl (lv_room hcat) dd ⟨?_, ?_⟩
  · show 8 + (maxL + 11) + 64 * d ≤ 64 * D
    omega
  · intro U hU hW
    exact ⟨rfl, C.2.2.2.2.2.1.next hW hU hS, by rw [hU]; exact hP⟩
  · show ce + 0 ≤ mx
    omega
  · show sl + 0 ≤ sx
    omega
theorem j_kI {st : List Value} {as : List Value} {Po : Int → Wo → Prop} {H : Heap} {locs : List Loc} {ls : Array Slot} (hr : va_Run p l e R s m args below meth c H locs ce sl 0 0 (F0 m pc ls st) S (QI Γ Po n κ as.toArray) (gA Γ)) (hS : va_S (gA Γ) s.heap H locs) (hl : lk ls L)
    (kx : ∀ (z : Int) (ω' : Wo), Rg z → Po z ω' → J Γ p l e R s m args below meth c Q n ce sl (pc + 3) L (.int (iI z) :: S) ω' κ) : W p l e R s m args below meth c H locs ce sl Q (F0 m pc ls st) := by
  refine va_calli hr hS (fun q _ h => h) (fun q h => h) (fun r ω' t H1 locs1 ht hvm hpo hB _ _ hS1 => ?_)
  obtain ⟨z, rfl, hz0, hz⟩ := hpo
  have hB : Rp Γ n ω' t.heap κ := hB
  rw [ht] at hB
  exact kx z ω' hz0 hz H1 locs1 ls hB hS1 hl
theorem j_kV {st : List Value} {as : List Value} {Po : Wo → Prop} {H : Heap} {locs : List Loc} {ls : Array Slot} (hr : va_Run p l e R s m args below meth c H locs ce sl 0 0 (F0 m pc ls st) S (QV Γ Po n κ as.toArray) (gA Γ)) (hS : va_S (gA Γ) s.heap H locs) (hl : lk ls L)
    (kx : ∀ (ω' : Wo), Po ω' → J Γ p l e R s m args below meth c Q n ce sl (pc + 3) L S ω' κ) : W p l e R s m args below meth c H locs ce sl Q (F0 m pc ls st) := by
  refine va_callv hr hS (fun q _ h => h) (fun q h => h) (fun ω' t H1 locs1 ht hvm hpo hB _ _ hS1 => ?_)
  have hB : Rp Γ n ω' t.heap κ := hB
  rw [ht] at hB
  exact kx ω' hpo H1 locs1 ls hB hS1 hl
theorem j_cVI0 {y : MethodName} {bytes : ByteArray} {maxL d D mx sx : Nat} {rt : FieldType} {Po : Int → Wo → Prop} (C : Cx Γ p l s m args meth c cc own nL) (hM : CI Γ l y bytes maxL rt d (.ref (rl Γ a) :: []) ω Po n κ) (O : Oc y bytes maxL (some rt) 0) (K : Lk own idx y) (hrc : Rc kk y) (ha : At n a kk κ) (hD : d + 1 ≤ D ∧ maxL ≤ 40) (hL : L.length = nL) (hcat : (S.map fun v => v.category).sum ≤ 8) (hce : ce ≤ mx ∧ sl ≤ sx) (dd : Dx cc pc (.invokevirtual idx) 3 pc') (kx : ∀ (z : Int) (ω' : Wo), Rg z → Po z ω' → J Γ p l e (rmk D mx sx) s m args below meth c Q n ce sl pc' L (.int (iI z) :: S) ω' κ) : J Γ p l e (rmk D mx sx) s m args below meth c Q n ce sl pc L (.ref (rl Γ a) :: S) ω κ := by
  intro H locs ls hP hS hl
  obtain ⟨hd, rfl⟩ := dd
  exact j_kI (j_runV (as := []) C hM O K hrc ha hD rfl hd hL hcat hce hP hS hl) hS hl kx
theorem j_cVV0 {y : MethodName} {bytes : ByteArray} {maxL d D mx sx : Nat} {Po : Wo → Prop} (C : Cx Γ p l s m args meth c cc own nL) (hM : CV Γ l y bytes maxL d (.ref (rl Γ a) :: []) ω Po n κ) (O : Oc y bytes maxL none 0) (K : Lk own idx y) (hrc : Rc kk y) (ha : At n a kk κ) (hD : d + 1 ≤ D ∧ maxL ≤ 40) (hL : L.length = nL) (hcat : (S.map fun v => v.category).sum ≤ 8) (hce : ce ≤ mx ∧ sl ≤ sx) (dd : Dx cc pc (.invokevirtual idx) 3 pc') (kx : ∀ (ω' : Wo), Po ω' → J Γ p l e (rmk D mx sx) s m args below meth c Q n ce sl pc' L S ω' κ) : J Γ p l e (rmk D mx sx) s m args below meth c Q n ce sl pc L (.ref (rl Γ a) :: S) ω κ := by
  intro H locs ls hP hS hl
  obtain ⟨hd, rfl⟩ := dd
  exact j_kV (j_runV (as := []) C hM O K hrc ha hD rfl hd hL hcat hce hP hS hl) hS hl kx
theorem j_cSI0 {y : MethodName} {bytes : ByteArray} {maxL d D mx sx : Nat} {rt : FieldType} {Po : Int → Wo → Prop} (C : Cx Γ p l s m args meth c cc own nL) (hM : CI Γ l y bytes maxL rt d [] ω Po n κ) (O : Os y bytes maxL (some rt) 0) (K : Lk own idx y) (hD : d + 1 ≤ D ∧ maxL ≤ 40) (hL : L.length = nL) (hcat : (S.map fun v => v.category).sum ≤ 8) (hce : ce ≤ mx ∧ sl ≤ sx) (dd : Dx cc pc (.invokestatic idx) 3 pc') (kx : ∀ (z : Int) (ω' : Wo), Rg z → Po z ω' → J Γ p l e (rmk D mx sx) s m args below meth c Q n ce sl pc' L (.int (iI z) :: S) ω' κ) : J Γ p l e (rmk D mx sx) s m args below meth c Q n ce sl pc L (S) ω κ := by
  intro H locs ls hP hS hl
  obtain ⟨hd, rfl⟩ := dd
  exact j_kI (j_runS (as := []) C hM O K hD rfl hd hL hcat hce hP hS hl) hS hl kx
theorem j_cSV0 {y : MethodName} {bytes : ByteArray} {maxL d D mx sx : Nat} {Po : Wo → Prop} (C : Cx Γ p l s m args meth c cc own nL) (hM : CV Γ l y bytes maxL d [] ω Po n κ) (O : Os y bytes maxL none 0) (K : Lk own idx y) (hD : d + 1 ≤ D ∧ maxL ≤ 40) (hL : L.length = nL) (hcat : (S.map fun v => v.category).sum ≤ 8) (hce : ce ≤ mx ∧ sl ≤ sx) (dd : Dx cc pc (.invokestatic idx) 3 pc') (kx : ∀ (ω' : Wo), Po ω' → J Γ p l e (rmk D mx sx) s m args below meth c Q n ce sl pc' L S ω' κ) : J Γ p l e (rmk D mx sx) s m args below meth c Q n ce sl pc L (S) ω κ := by
  intro H locs ls hP hS hl
  obtain ⟨hd, rfl⟩ := dd
  exact j_kV (j_runS (as := []) C hM O K hD rfl hd hL hcat hce hP hS hl) hS hl kx
theorem j_cNI0 {y : MethodName} {bytes : ByteArray} {maxL d D mx sx : Nat} {rt : FieldType} {host : String} {Po : Int → Wo → Prop} (C : Cx Γ p l s m args meth c cc own nL) (hM : CI Γ l y bytes maxL rt d [] ω Po n κ) (O : Os y bytes maxL (some rt) 0) (K : (own, idx, y, host) ∈ nstM) (hD : d + 1 ≤ D ∧ maxL ≤ 40) (hL : L.length = nL) (hcat : (S.map fun v => v.category).sum ≤ 8) (hce : ce ≤ mx ∧ sl ≤ sx) (dd : Dx cc pc (.invokestatic idx) 3 pc') (kx : ∀ (z : Int) (ω' : Wo), Rg z → Po z ω' → J Γ p l e (rmk D mx sx) s m args below meth c Q n ce sl pc' L (.int (iI z) :: S) ω' κ) : J Γ p l e (rmk D mx sx) s m args below meth c Q n ce sl pc L (S) ω κ := by
  intro H locs ls hP hS hl
  obtain ⟨hd, rfl⟩ := dd
  exact j_kI (j_runSN (as := []) C hM O K hD rfl hd hL hcat hce hP hS hl) hS hl kx
theorem j_cNV0 {y : MethodName} {bytes : ByteArray} {maxL d D mx sx : Nat} {host : String} {Po : Wo → Prop} (C : Cx Γ p l s m args meth c cc own nL) (hM : CV Γ l y bytes maxL d [] ω Po n κ) (O : Os y bytes maxL none 0) (K : (own, idx, y, host) ∈ nstM) (hD : d + 1 ≤ D ∧ maxL ≤ 40) (hL : L.length = nL) (hcat : (S.map fun v => v.category).sum ≤ 8) (hce : ce ≤ mx ∧ sl ≤ sx) (dd : Dx cc pc (.invokestatic idx) 3 pc') (kx : ∀ (ω' : Wo), Po ω' → J Γ p l e (rmk D mx sx) s m args below meth c Q n ce sl pc' L S ω' κ) : J Γ p l e (rmk D mx sx) s m args below meth c Q n ce sl pc L (S) ω κ := by
  intro H locs ls hP hS hl
  obtain ⟨hd, rfl⟩ := dd
  exact j_kV (j_runSN (as := []) C hM O K hD rfl hd hL hcat hce hP hS hl) hS hl kx
theorem j_cVI1 {y : MethodName} {bytes : ByteArray} {maxL d D mx sx : Nat} {rt : FieldType} {x1 : Value} {Po : Int → Wo → Prop} (C : Cx Γ p l s m args meth c cc own nL) (hM : CI Γ l y bytes maxL rt d (.ref (rl Γ a) :: [x1]) ω Po n κ) (O : Oc y bytes maxL (some rt) 1) (K : Lk own idx y) (hrc : Rc kk y) (ha : At n a kk κ) (hD : d + 1 ≤ D ∧ maxL ≤ 40) (hL : L.length = nL) (hcat : (S.map fun v => v.category).sum ≤ 8) (hce : ce ≤ mx ∧ sl ≤ sx) (dd : Dx cc pc (.invokevirtual idx) 3 pc') (kx : ∀ (z : Int) (ω' : Wo), Rg z → Po z ω' → J Γ p l e (rmk D mx sx) s m args below meth c Q n ce sl pc' L (.int (iI z) :: S) ω' κ) : J Γ p l e (rmk D mx sx) s m args below meth c Q n ce sl pc L (x1 :: .ref (rl Γ a) :: S) ω κ := by
  intro H locs ls hP hS hl
  obtain ⟨hd, rfl⟩ := dd
  exact j_kI (j_runV (as := [x1]) C hM O K hrc ha hD rfl hd hL hcat hce hP hS hl) hS hl kx
theorem j_cVV1 {y : MethodName} {bytes : ByteArray} {maxL d D mx sx : Nat} {x1 : Value} {Po : Wo → Prop} (C : Cx Γ p l s m args meth c cc own nL) (hM : CV Γ l y bytes maxL d (.ref (rl Γ a) :: [x1]) ω Po n κ) (O : Oc y bytes maxL none 1) (K : Lk own idx y) (hrc : Rc kk y) (ha : At n a kk κ) (hD : d + 1 ≤ D ∧ maxL ≤ 40) (hL : L.length = nL) (hcat : (S.map fun v => v.category).sum ≤ 8) (hce : ce ≤ mx ∧ sl ≤ sx) (dd : Dx cc pc (.invokevirtual idx) 3 pc') (kx : ∀ (ω' : Wo), Po ω' → J Γ p l e (rmk D mx sx) s m args below meth c Q n ce sl pc' L S ω' κ) : J Γ p l e (rmk D mx sx) s m args below meth c Q n ce sl pc L (x1 :: .ref (rl Γ a) :: S) ω κ := by
  intro H locs ls hP hS hl
  obtain ⟨hd, rfl⟩ := dd
  exact j_kV (j_runV (as := [x1]) C hM O K hrc ha hD rfl hd hL hcat hce hP hS hl) hS hl kx
theorem j_cSI1 {y : MethodName} {bytes : ByteArray} {maxL d D mx sx : Nat} {rt : FieldType} {x1 : Value} {Po : Int → Wo → Prop} (C : Cx Γ p l s m args meth c cc own nL) (hM : CI Γ l y bytes maxL rt d [x1] ω Po n κ) (O : Os y bytes maxL (some rt) 1) (K : Lk own idx y) (hD : d + 1 ≤ D ∧ maxL ≤ 40) (hL : L.length = nL) (hcat : (S.map fun v => v.category).sum ≤ 8) (hce : ce ≤ mx ∧ sl ≤ sx) (dd : Dx cc pc (.invokestatic idx) 3 pc') (kx : ∀ (z : Int) (ω' : Wo), Rg z → Po z ω' → J Γ p l e (rmk D mx sx) s m args below meth c Q n ce sl pc' L (.int (iI z) :: S) ω' κ) : J Γ p l e (rmk D mx sx) s m args below meth c Q n ce sl pc L (x1 :: S) ω κ := by
  intro H locs ls hP hS hl
  obtain ⟨hd, rfl⟩ := dd
  exact j_kI (j_runS (as := [x1]) C hM O K hD rfl hd hL hcat hce hP hS hl) hS hl kx
theorem j_cSV1 {y : MethodName} {bytes : ByteArray} {maxL d D mx sx : Nat} {x1 : Value} {Po : Wo → Prop} (C : Cx Γ p l s m args meth c cc own nL) (hM : CV Γ l y bytes maxL d [x1] ω Po n κ) (O : Os y bytes maxL none 1) (K : Lk own idx y) (hD : d + 1 ≤ D ∧ maxL ≤ 40) (hL : L.length = nL) (hcat : (S.map fun v => v.category).sum ≤ 8) (hce : ce ≤ mx ∧ sl ≤ sx) (dd : Dx cc pc (.invokestatic idx) 3 pc') (kx : ∀ (ω' : Wo), Po ω' → J Γ p l e (rmk D mx sx) s m args below meth c Q n ce sl pc' L S ω' κ) : J Γ p l e (rmk D mx sx) s m args below meth c Q n ce sl pc L (x1 :: S) ω κ := by
  intro H locs ls hP hS hl
  obtain ⟨hd, rfl⟩ := dd
  exact j_kV (j_runS (as := [x1]) C hM O K hD rfl hd hL hcat hce hP hS hl) hS hl kx
theorem j_cNI1 {y : MethodName} {bytes : ByteArray} {maxL d D mx sx : Nat} {rt : FieldType} {host : String} {x1 : Value} {Po : Int → Wo → Prop} (C : Cx Γ p l s m args meth c cc own nL) (hM : CI Γ l y bytes maxL rt d [x1] ω Po n κ) (O : Os y bytes maxL (some rt) 1) (K : (own, idx, y, host) ∈ nstM) (hD : d + 1 ≤ D ∧ maxL ≤ 40) (hL : L.length = nL) (hcat : (S.map fun v => v.category).sum ≤ 8) (hce : ce ≤ mx ∧ sl ≤ sx) (dd : Dx cc pc (.invokestatic idx) 3 pc') (kx : ∀ (z : Int) (ω' : Wo), Rg z → Po z ω' → J Γ p l e (rmk D mx sx) s m args below meth c Q n ce sl pc' L (.int (iI z) :: S) ω' κ) : J Γ p l e (rmk D mx sx) s m args below meth c Q n ce sl pc L (x1 :: S) ω κ := by
  intro H locs ls hP hS hl
  obtain ⟨hd, rfl⟩ := dd
  exact j_kI (j_runSN (as := [x1]) C hM O K hD rfl hd hL hcat hce hP hS hl) hS hl kx
theorem j_cNV1 {y : MethodName} {bytes : ByteArray} {maxL d D mx sx : Nat} {host : String} {x1 : Value} {Po : Wo → Prop} (C : Cx Γ p l s m args meth c cc own nL) (hM : CV Γ l y bytes maxL d [x1] ω Po n κ) (O : Os y bytes maxL none 1) (K : (own, idx, y, host) ∈ nstM) (hD : d + 1 ≤ D ∧ maxL ≤ 40) (hL : L.length = nL) (hcat : (S.map fun v => v.category).sum ≤ 8) (hce : ce ≤ mx ∧ sl ≤ sx) (dd : Dx cc pc (.invokestatic idx) 3 pc') (kx : ∀ (ω' : Wo), Po ω' → J Γ p l e (rmk D mx sx) s m args below meth c Q n ce sl pc' L S ω' κ) : J Γ p l e (rmk D mx sx) s m args below meth c Q n ce sl pc L (x1 :: S) ω κ := by
  intro H locs ls hP hS hl
  obtain ⟨hd, rfl⟩ := dd
  exact j_kV (j_runSN (as := [x1]) C hM O K hD rfl hd hL hcat hce hP hS hl) hS hl kx
theorem j_cVI2 {y : MethodName} {bytes : ByteArray} {maxL d D mx sx : Nat} {rt : FieldType} {x1 x2 : Value} {Po : Int → Wo → Prop} (C : Cx Γ p l s m args meth c cc own nL) (hM : CI Γ l y bytes maxL rt d (.ref (rl Γ a) :: [x1, x2]) ω Po n κ) (O : Oc y bytes maxL (some rt) 2) (K : Lk own idx y) (hrc : Rc kk y) (ha : At n a kk κ) (hD : d + 1 ≤ D ∧ maxL ≤ 40) (hL : L.length = nL) (hcat : (S.map fun v => v.category).sum ≤ 8) (hce : ce ≤ mx ∧ sl ≤ sx) (dd : Dx cc pc (.invokevirtual idx) 3 pc') (kx : ∀ (z : Int) (ω' : Wo), Rg z → Po z ω' → J Γ p l e (rmk D mx sx) s m args below meth c Q n ce sl pc' L (.int (iI z) :: S) ω' κ) : J Γ p l e (rmk D mx sx) s m args below meth c Q n ce sl pc L (x2 :: x1 :: .ref (rl Γ a) :: S) ω κ := by
  intro H locs ls hP hS hl
  obtain ⟨hd, rfl⟩ := dd
  exact j_kI (j_runV (as := [x1, x2]) C hM O K hrc ha hD rfl hd hL hcat hce hP hS hl) hS hl kx
theorem j_cVV2 {y : MethodName} {bytes : ByteArray} {maxL d D mx sx : Nat} {x1 x2 : Value} {Po : Wo → Prop} (C : Cx Γ p l s m args meth c cc own nL) (hM : CV Γ l y bytes maxL d (.ref (rl Γ a) :: [x1, x2]) ω Po n κ) (O : Oc y bytes maxL none 2) (K : Lk own idx y) (hrc : Rc kk y) (ha : At n a kk κ) (hD : d + 1 ≤ D ∧ maxL ≤ 40) (hL : L.length = nL) (hcat : (S.map fun v => v.category).sum ≤ 8) (hce : ce ≤ mx ∧ sl ≤ sx) (dd : Dx cc pc (.invokevirtual idx) 3 pc') (kx : ∀ (ω' : Wo), Po ω' → J Γ p l e (rmk D mx sx) s m args below meth c Q n ce sl pc' L S ω' κ) : J Γ p l e (rmk D mx sx) s m args below meth c Q n ce sl pc L (x2 :: x1 :: .ref (rl Γ a) :: S) ω κ := by
  intro H locs ls hP hS hl
  obtain ⟨hd, rfl⟩ := dd
  exact j_kV (j_runV (as := [x1, x2]) C hM O K hrc ha hD rfl hd hL hcat hce hP hS hl) hS hl kx
theorem j_cSI2 {y : MethodName} {bytes : ByteArray} {maxL d D mx sx : Nat} {rt : FieldType} {x1 x2 : Value} {Po : Int → Wo → Prop} (C : Cx Γ p l s m args meth c cc own nL) (hM : CI Γ l y bytes maxL rt d [x1, x2] ω Po n κ) (O : Os y bytes maxL (some rt) 2) (K : Lk own idx y) (hD : d + 1 ≤ D ∧ maxL ≤ 40) (hL : L.length = nL) (hcat : (S.map fun v => v.category).sum ≤ 8) (hce : ce ≤ mx ∧ sl ≤ sx) (dd : Dx cc pc (.invokestatic idx) 3 pc') (kx : ∀ (z : Int) (ω' : Wo), Rg z → Po z ω' → J Γ p l e (rmk D mx sx) s m args below meth c Q n ce sl pc' L (.int (iI z) :: S) ω' κ) : J Γ p l e (rmk D mx sx) s m args below meth c Q n ce sl pc L (x2 :: x1 :: S) ω κ := by
  intro H locs ls hP hS hl
  obtain ⟨hd, rfl⟩ := dd
  exact j_kI (j_runS (as := [x1, x2]) C hM O K hD rfl hd hL hcat hce hP hS hl) hS hl kx
theorem j_cSV2 {y : MethodName} {bytes : ByteArray} {maxL d D mx sx : Nat} {x1 x2 : Value} {Po : Wo → Prop} (C : Cx Γ p l s m args meth c cc own nL) (hM : CV Γ l y bytes maxL d [x1, x2] ω Po n κ) (O : Os y bytes maxL none 2) (K : Lk own idx y) (hD : d + 1 ≤ D ∧ maxL ≤ 40) (hL : L.length = nL) (hcat : (S.map fun v => v.category).sum ≤ 8) (hce : ce ≤ mx ∧ sl ≤ sx) (dd : Dx cc pc (.invokestatic idx) 3 pc') (kx : ∀ (ω' : Wo), Po ω' → J Γ p l e (rmk D mx sx) s m args below meth c Q n ce sl pc' L S ω' κ) : J Γ p l e (rmk D mx sx) s m args below meth c Q n ce sl pc L (x2 :: x1 :: S) ω κ := by
  intro H locs ls hP hS hl
  obtain ⟨hd, rfl⟩ := dd
  exact j_kV (j_runS (as := [x1, x2]) C hM O K hD rfl hd hL hcat hce hP hS hl) hS hl kx
theorem j_cNI2 {y : MethodName} {bytes : ByteArray} {maxL d D mx sx : Nat} {rt : FieldType} {host : String} {x1 x2 : Value} {Po : Int → Wo → Prop} (C : Cx Γ p l s m args meth c cc own nL) (hM : CI Γ l y bytes maxL rt d [x1, x2] ω Po n κ) (O : Os y bytes maxL (some rt) 2) (K : (own, idx, y, host) ∈ nstM) (hD : d + 1 ≤ D ∧ maxL ≤ 40) (hL : L.length = nL) (hcat : (S.map fun v => v.category).sum ≤ 8) (hce : ce ≤ mx ∧ sl ≤ sx) (dd : Dx cc pc (.invokestatic idx) 3 pc') (kx : ∀ (z : Int) (ω' : Wo), Rg z → Po z ω' → J Γ p l e (rmk D mx sx) s m args below meth c Q n ce sl pc' L (.int (iI z) :: S) ω' κ) : J Γ p l e (rmk D mx sx) s m args below meth c Q n ce sl pc L (x2 :: x1 :: S) ω κ := by
  intro H locs ls hP hS hl
  obtain ⟨hd, rfl⟩ := dd
  exact j_kI (j_runSN (as := [x1, x2]) C hM O K hD rfl hd hL hcat hce hP hS hl) hS hl kx
theorem j_cNV2 {y : MethodName} {bytes : ByteArray} {maxL d D mx sx : Nat} {host : String} {x1 x2 : Value} {Po : Wo → Prop} (C : Cx Γ p l s m args meth c cc own nL) (hM : CV Γ l y bytes maxL d [x1, x2] ω Po n κ) (O : Os y bytes maxL none 2) (K : (own, idx, y, host) ∈ nstM) (hD : d + 1 ≤ D ∧ maxL ≤ 40) (hL : L.length = nL) (hcat : (S.map fun v => v.category).sum ≤ 8) (hce : ce ≤ mx ∧ sl ≤ sx) (dd : Dx cc pc (.invokestatic idx) 3 pc') (kx : ∀ (ω' : Wo), Po ω' → J Γ p l e (rmk D mx sx) s m args below meth c Q n ce sl pc' L S ω' κ) : J Γ p l e (rmk D mx sx) s m args below meth c Q n ce sl pc L (x2 :: x1 :: S) ω κ := by
  intro H locs ls hP hS hl
  obtain ⟨hd, rfl⟩ := dd
  exact j_kV (j_runSN (as := [x1, x2]) C hM O K hD rfl hd hL hcat hce hP hS hl) hS hl kx
theorem j_cVI3 {y : MethodName} {bytes : ByteArray} {maxL d D mx sx : Nat} {rt : FieldType} {x1 x2 x3 : Value} {Po : Int → Wo → Prop} (C : Cx Γ p l s m args meth c cc own nL) (hM : CI Γ l y bytes maxL rt d (.ref (rl Γ a) :: [x1, x2, x3]) ω Po n κ) (O : Oc y bytes maxL (some rt) 3) (K : Lk own idx y) (hrc : Rc kk y) (ha : At n a kk κ) (hD : d + 1 ≤ D ∧ maxL ≤ 40) (hL : L.length = nL) (hcat : (S.map fun v => v.category).sum ≤ 8) (hce : ce ≤ mx ∧ sl ≤ sx) (dd : Dx cc pc (.invokevirtual idx) 3 pc') (kx : ∀ (z : Int) (ω' : Wo), Rg z → Po z ω' → J Γ p l e (rmk D mx sx) s m args below meth c Q n ce sl pc' L (.int (iI z) :: S) ω' κ) : J Γ p l e (rmk D mx sx) s m args below meth c Q n ce sl pc L (x3 :: x2 :: x1 :: .ref (rl Γ a) :: S) ω κ := by
  intro H locs ls hP hS hl
  obtain ⟨hd, rfl⟩ := dd
  exact j_kI (j_runV (as := [x1, x2, x3]) C hM O K hrc ha hD rfl hd hL hcat hce hP hS hl) hS hl kx
theorem j_cVV3 {y : MethodName} {bytes : ByteArray} {maxL d D mx sx : Nat} {x1 x2 x3 : Value} {Po : Wo → Prop} (C : Cx Γ p l s m args meth c cc own nL) (hM : CV Γ l y bytes maxL d (.ref (rl Γ a) :: [x1, x2, x3]) ω Po n κ) (O : Oc y bytes maxL none 3) (K : Lk own idx y) (hrc : Rc kk y) (ha : At n a kk κ) (hD : d + 1 ≤ D ∧ maxL ≤ 40) (hL : L.length = nL) (hcat : (S.map fun v => v.category).sum ≤ 8) (hce : ce ≤ mx ∧ sl ≤ sx) (dd : Dx cc pc (.invokevirtual idx) 3 pc') (kx : ∀ (ω' : Wo), Po ω' → J Γ p l e (rmk D mx sx) s m args below meth c Q n ce sl pc' L S ω' κ) : J Γ p l e (rmk D mx sx) s m args below meth c Q n ce sl pc L (x3 :: x2 :: x1 :: .ref (rl Γ a) :: S) ω κ := by
  intro H locs ls hP hS hl
  obtain ⟨hd, rfl⟩ := dd
  exact j_kV (j_runV (as := [x1, x2, x3]) C hM O K hrc ha hD rfl hd hL hcat hce hP hS hl) hS hl kx
theorem j_cSI3 {y : MethodName} {bytes : ByteArray} {maxL d D mx sx : Nat} {rt : FieldType} {x1 x2 x3 : Value} {Po : Int → Wo → Prop} (C : Cx Γ p l s m args meth c cc own nL) (hM : CI Γ l y bytes maxL rt d [x1, x2, x3] ω Po n κ) (O : Os y bytes maxL (some rt) 3) (K : Lk own idx y) (hD : d + 1 ≤ D ∧ maxL ≤ 40) (hL : L.length = nL) (hcat : (S.map fun v => v.category).sum ≤ 8) (hce : ce ≤ mx ∧ sl ≤ sx) (dd : Dx cc pc (.invokestatic idx) 3 pc') (kx : ∀ (z : Int) (ω' : Wo), Rg z → Po z ω' → J Γ p l e (rmk D mx sx) s m args below meth c Q n ce sl pc' L (.int (iI z) :: S) ω' κ) : J Γ p l e (rmk D mx sx) s m args below meth c Q n ce sl pc L (x3 :: x2 :: x1 :: S) ω κ := by
  intro H locs ls hP hS hl
  obtain ⟨hd, rfl⟩ := dd
  exact j_kI (j_runS (as := [x1, x2, x3]) C hM O K hD rfl hd hL hcat hce hP hS hl) hS hl kx
theorem j_cSV3 {y : MethodName} {bytes : ByteArray} {maxL d D mx sx : Nat} {x1 x2 x3 : Value} {Po : Wo → Prop} (C : Cx Γ p l s m args meth c cc own nL) (hM : CV Γ l y bytes maxL d [x1, x2, x3] ω Po n κ) (O : Os y bytes maxL none 3) (K : Lk own idx y) (hD : d + 1 ≤ D ∧ maxL ≤ 40) (hL : L.length = nL) (hcat : (S.map fun v => v.category).sum ≤ 8) (hce : ce ≤ mx ∧ sl ≤ sx) (dd : Dx cc pc (.invokestatic idx) 3 pc') (kx : ∀ (ω' : Wo), Po ω' → J Γ p l e (rmk D mx sx) s m args below meth c Q n ce sl pc' L S ω' κ) : J Γ p l e (rmk D mx sx) s m args below meth c Q n ce sl pc L (x3 :: x2 :: x1 :: S) ω κ := by
  intro H locs ls hP hS hl
  obtain ⟨hd, rfl⟩ := dd
  exact j_kV (j_runS (as := [x1, x2, x3]) C hM O K hD rfl hd hL hcat hce hP hS hl) hS hl kx
theorem j_cNI3 {y : MethodName} {bytes : ByteArray} {maxL d D mx sx : Nat} {rt : FieldType} {host : String} {x1 x2 x3 : Value} {Po : Int → Wo → Prop} (C : Cx Γ p l s m args meth c cc own nL) (hM : CI Γ l y bytes maxL rt d [x1, x2, x3] ω Po n κ) (O : Os y bytes maxL (some rt) 3) (K : (own, idx, y, host) ∈ nstM) (hD : d + 1 ≤ D ∧ maxL ≤ 40) (hL : L.length = nL) (hcat : (S.map fun v => v.category).sum ≤ 8) (hce : ce ≤ mx ∧ sl ≤ sx) (dd : Dx cc pc (.invokestatic idx) 3 pc') (kx : ∀ (z : Int) (ω' : Wo), Rg z → Po z ω' → J Γ p l e (rmk D mx sx) s m args below meth c Q n ce sl pc' L (.int (iI z) :: S) ω' κ) : J Γ p l e (rmk D mx sx) s m args below meth c Q n ce sl pc L (x3 :: x2 :: x1 :: S) ω κ := by
  intro H locs ls hP hS hl
  obtain ⟨hd, rfl⟩ := dd
  exact j_kI (j_runSN (as := [x1, x2, x3]) C hM O K hD rfl hd hL hcat hce hP hS hl) hS hl kx
theorem j_cNV3 {y : MethodName} {bytes : ByteArray} {maxL d D mx sx : Nat} {host : String} {x1 x2 x3 : Value} {Po : Wo → Prop} (C : Cx Γ p l s m args meth c cc own nL) (hM : CV Γ l y bytes maxL d [x1, x2, x3] ω Po n κ) (O : Os y bytes maxL none 3) (K : (own, idx, y, host) ∈ nstM) (hD : d + 1 ≤ D ∧ maxL ≤ 40) (hL : L.length = nL) (hcat : (S.map fun v => v.category).sum ≤ 8) (hce : ce ≤ mx ∧ sl ≤ sx) (dd : Dx cc pc (.invokestatic idx) 3 pc') (kx : ∀ (ω' : Wo), Po ω' → J Γ p l e (rmk D mx sx) s m args below meth c Q n ce sl pc' L S ω' κ) : J Γ p l e (rmk D mx sx) s m args below meth c Q n ce sl pc L (x3 :: x2 :: x1 :: S) ω κ := by
  intro H locs ls hP hS hl
  obtain ⟨hd, rfl⟩ := dd
  exact j_kV (j_runSN (as := [x1, x2, x3]) C hM O K hD rfl hd hL hcat hce hP hS hl) hS hl kx
theorem QI_end {Po : Int → Wo → Prop} {z : Int} {H : Heap} {locs : List Loc} (h0 : Rg z) (h : Po z ω) (hP : Rp Γ n ω H κ) (hS : va_S (gA Γ) s.heap H locs) (t : State) (ht : t.heap = H) : QI Γ Po n κ args s (.returned (some (.int (iI z)))) t :=
  ⟨⟨iI z, ω, rfl, ⟨z, rfl, h0, h⟩, by show Rp Γ n ω t.heap κ; rw [ht]; exact hP⟩, hS.F ht⟩
theorem j_iret {Po : Int → Wo → Prop} {z : Int} (C : Cx Γ p l s m args meth c cc own nL) (hr : meth.sig.returnType = some .int) (d : Dx cc pc (.ireturn) 1 pc') (h0 : Rg z) (h : Po z ω) : J Γ p l e R s m args below meth c (MQ below (QI Γ Po n κ) args s ce sl (gA Γ)) n ce sl pc L [.int (iI z)] ω κ := by
  intro H locs ls hP hS hl
  exact W.iret C.1 C.2.1 hr (fun t ht _ => QI_end h0 h hP hS t ht) hS.2.2 d.1 C.2.2.2.2.2.2
theorem j_zret {Po : Int → Wo → Prop} {z : Int} (C : Cx Γ p l s m args meth c cc own nL) (hr : meth.sig.returnType = some .boolean) (d : Dx cc pc (.ireturn) 1 pc') (hz : z = 0 ∨ z = 1) (h : Po z ω) : J Γ p l e R s m args below meth c (MQ below (QI Γ Po n κ) args s ce sl (gA Γ)) n ce sl pc L [.int (iI z)] ω κ := by
  intro H locs ls hP hS hl
  exact W.zret C.1 C.2.1 hr (by rcases hz with rfl | rfl <;> rfl) (fun t ht _ => QI_end (by rcases hz with rfl | rfl <;> decide) h hP hS t ht) hS.2.2 d.1 C.2.2.2.2.2.2
theorem j_cret {Po : Int → Wo → Prop} {z : Int} (C : Cx Γ p l s m args meth c cc own nL) (hr : meth.sig.returnType = some .char) (d : Dx cc pc (.ireturn) 1 pc') (hz : 0 ≤ z ∧ z < 65536) (h : Po z ω) : J Γ p l e R s m args below meth c (MQ below (QI Γ Po n κ) args s ce sl (gA Γ)) n ce sl pc L [.int (iI z)] ω κ := by
  intro H locs ls hP hS hl
  refine W.zret C.1 C.2.1 hr ?_ (fun t ht _ => QI_end ⟨by omega, by omega⟩ h hP hS t ht) hS.2.2 d.1 C.2.2.2.2.2.2
  obtain ⟨q, rfl⟩ := Int.eq_ofNat_of_zero_le hz.1
  rw [iI_nat]; exact (pk_charN (q := q) (by omega)).1
theorem j_vret {Po : Wo → Prop} (C : Cx Γ p l s m args meth c cc own nL) (hr : meth.sig.returnType = none) (d : Dx cc pc (.return_) 1 pc') (h : Po ω) : J Γ p l e R s m args below meth c (MQ below (QV Γ Po n κ) args s ce sl (gA Γ)) n ce sl pc L [] ω κ := by
  intro H locs ls hP hS hl
  exact W.vret C.1 C.2.1 hr (fun t ht _ => ⟨⟨ω, rfl, h, by show Rp Γ n ω t.heap κ; rw [ht]; exact hP⟩, hS.F ht⟩) hS.2.2 d.1 C.2.2.2.2.2.2
theorem j_conv {L' : List (Option Value)} {S' : List Value} {ω' : Wo} (hL : L = L') (hS : S = S') (hω : ω = ω') (kk : J Γ p l e R s m args below meth c Q n ce sl pc L' S' ω' κ) : J Γ p l e R s m args below meth c Q n ce sl pc L S ω κ := by subst hL; subst hS; subst hω; exact kk
end CALLS
end
section
theorem WS_sub {ws : List Cond} (ps : List Nat) (h : ((ws.zip ps).all (fun q => (lw_tbl[q.2]?).any (fun v => decide (v = q.1) && goodWord v)) && ws.length == ps.length) = true) : ∀ w ∈ ws, w ∈ WS := by
  intro w hw
  simp only [Bool.and_eq_true, List.all_eq_true, beq_iff_eq] at h
  obtain ⟨i, hi⟩ := List.getElem?_of_mem hw
  obtain ⟨hl, e⟩ := List.getElem?_eq_some_iff.mp hi
  have hp : i < ps.length := by rw [← h.2]; exact hl
  have hz : (w, ps[i]) ∈ ws.zip ps := List.mem_iff_getElem?.mpr ⟨i, by rw [List.getElem?_zip_eq_some]; exact ⟨hi, List.getElem?_eq_getElem hp⟩⟩
  exact WS_of ps[i] (h.1 _ hz)
theorem uwX8 : ∀ w ∈ u_ws RX8 TX8 12, w ∈ WS := WS_sub [872, 874, 876, 878, 880, 882, 884, 886, 888, 890, 892, 894] (by decide +kernel)
theorem ty_0_3 : Fty 0 3 .boolean false := ⟨_, rfl, by decide +kernel, rfl⟩
theorem ty_0_5 : Fty 0 5 .int false := ⟨_, rfl, by decide +kernel, rfl⟩
theorem ty_0_10 : Fty 0 10 .int false := ⟨_, rfl, by decide +kernel, rfl⟩
theorem uwX7 : ∀ w ∈ u_ws RX7 TX7 11, w ∈ WS := WS_sub [754, 756, 758, 760, 762, 764, 766, 768, 770, 772, 774] (by decide +kernel)
theorem ty_1_3 : Fty 1 3 .int false := ⟨_, rfl, by decide +kernel, rfl⟩
theorem ty_1_4 : Fty 1 4 .int false := ⟨_, rfl, by decide +kernel, rfl⟩
theorem ty_1_5 : Fty 1 5 .int false := ⟨_, rfl, by decide +kernel, rfl⟩
theorem ty_1_6 : Fty 1 6 .int false := ⟨_, rfl, by decide +kernel, rfl⟩
theorem ty_1_7 : Fty 1 7 .int false := ⟨_, rfl, by decide +kernel, rfl⟩
theorem ty_1_8 : Fty 1 8 .int false := ⟨_, rfl, by decide +kernel, rfl⟩
theorem ty_1_9 : Fty 1 9 .int false := ⟨_, rfl, by decide +kernel, rfl⟩
theorem ty_1_10 : Fty 1 10 .int false := ⟨_, rfl, by decide +kernel, rfl⟩
theorem uwX4 : ∀ w ∈ u_ws RX4 TX4 6, w ∈ WS := WS_sub [662, 664, 666, 668, 670, 672] (by decide +kernel)
theorem ty_2_0 : Fty 2 0 .int false := ⟨_, rfl, by decide +kernel, rfl⟩
theorem ty_2_1 : Fty 2 1 .int false := ⟨_, rfl, by decide +kernel, rfl⟩
theorem ty_2_2 : Fty 2 2 .int false := ⟨_, rfl, by decide +kernel, rfl⟩
theorem ty_2_3 : Fty 2 3 .int false := ⟨_, rfl, by decide +kernel, rfl⟩
theorem ty_2_4 : Fty 2 4 .int false := ⟨_, rfl, by decide +kernel, rfl⟩
theorem ty_2_5 : Fty 2 5 .int false := ⟨_, rfl, by decide +kernel, rfl⟩
theorem uwX1 : ∀ w ∈ u_ws RX1 TX1 6, w ∈ WS := WS_sub [698, 700, 702, 704, 706, 708] (by decide +kernel)
theorem ty_3_0 : Fty 3 0 .int false := ⟨_, rfl, by decide +kernel, rfl⟩
theorem ty_3_1 : Fty 3 1 .int false := ⟨_, rfl, by decide +kernel, rfl⟩
theorem ty_3_2 : Fty 3 2 .int false := ⟨_, rfl, by decide +kernel, rfl⟩
theorem ty_3_3 : Fty 3 3 .int false := ⟨_, rfl, by decide +kernel, rfl⟩
theorem ty_3_4 : Fty 3 4 .int false := ⟨_, rfl, by decide +kernel, rfl⟩
theorem ty_3_5 : Fty 3 5 .int false := ⟨_, rfl, by decide +kernel, rfl⟩
theorem uwX3 : ∀ w ∈ u_ws RX3 TX3 3, w ∈ WS := WS_sub [725, 727, 729] (by decide +kernel)
theorem ty_4_0 : Fty 4 0 .int false := ⟨_, rfl, by decide +kernel, rfl⟩
theorem ty_4_1 : Fty 4 1 .int false := ⟨_, rfl, by decide +kernel, rfl⟩
theorem ty_4_2 : Fty 4 2 .int false := ⟨_, rfl, by decide +kernel, rfl⟩
theorem uwX5 : ∀ w ∈ u_ws RX5 TX5 2, w ∈ WS := WS_sub [787, 789] (by decide +kernel)
theorem ty_5_0 : Fty 5 0 .int false := ⟨_, rfl, by decide +kernel, rfl⟩
theorem ty_5_1 : Fty 5 1 .int false := ⟨_, rfl, by decide +kernel, rfl⟩
theorem uwX6 : ∀ w ∈ u_ws RX6 TX6 7, w ∈ WS := WS_sub [812, 814, 816, 818, 820, 822, 824] (by decide +kernel)
theorem ty_6_1 : Fty 6 1 .int false := ⟨_, rfl, by decide +kernel, rfl⟩
theorem ty_6_5 : Fty 6 5 .int false := ⟨_, rfl, by decide +kernel, rfl⟩
theorem ty_6_6 : Fty 6 6 .int false := ⟨_, rfl, by decide +kernel, rfl⟩
theorem ty_7_1 : Fty 7 1 .byte true := ⟨_, rfl, by decide +kernel, rfl⟩
theorem ty_7_2 : Fty 7 2 .int false := ⟨_, rfl, by decide +kernel, rfl⟩
theorem ty_7_3 : Fty 7 3 .boolean false := ⟨_, rfl, by decide +kernel, rfl⟩
theorem uwJ4 : ∀ w ∈ u_ws RJ4 TJ4 4, w ∈ WS := WS_sub [851, 853, 855, 857] (by decide +kernel)
theorem ty_8_1 : Fty 8 1 .byte false := ⟨_, rfl, by decide +kernel, rfl⟩
theorem ty_8_2 : Fty 8 2 .boolean false := ⟨_, rfl, by decide +kernel, rfl⟩
theorem ty_8_3 : Fty 8 3 .int false := ⟨_, rfl, by decide +kernel, rfl⟩
theorem oX1_start : Oc yX1_start cX1_start 3 none 2 := ⟨⟨(WS_of 398 (by decide +kernel)), (WS_of 399 (by decide +kernel))⟩, (WS_of 31 (by decide +kernel)), (WS_of 400 (by decide +kernel)), ⟨by decide +kernel, by decide +kernel, by decide +kernel⟩⟩
theorem oX1_isOut : Oc yX1_isOut cX1_isOut 1 (some .boolean) 0 := ⟨⟨(WS_of 155 (by decide +kernel)), (WS_of 156 (by decide +kernel))⟩, (WS_of 31 (by decide +kernel)), (WS_of 157 (by decide +kernel)), ⟨by decide +kernel, by decide +kernel, by decide +kernel⟩⟩
theorem oX1_oarsNeeded : Oc yX1_oarsNeeded cX1_oarsNeeded 1 (some .int) 0 := ⟨⟨(WS_of 194 (by decide +kernel)), (WS_of 195 (by decide +kernel))⟩, (WS_of 31 (by decide +kernel)), (WS_of 196 (by decide +kernel)), ⟨by decide +kernel, by decide +kernel, by decide +kernel⟩⟩
theorem oX1_skilledNeeded : Oc yX1_skilledNeeded cX1_skilledNeeded 1 (some .int) 0 := ⟨⟨(WS_of 185 (by decide +kernel)), (WS_of 186 (by decide +kernel))⟩, (WS_of 31 (by decide +kernel)), (WS_of 187 (by decide +kernel)), ⟨by decide +kernel, by decide +kernel, by decide +kernel⟩⟩
theorem oX1_copyFrom : Oc yX1_copyFrom cX1_copyFrom 2 none 1 := ⟨⟨(WS_of 256 (by decide +kernel)), (WS_of 257 (by decide +kernel))⟩, (WS_of 31 (by decide +kernel)), (WS_of 258 (by decide +kernel)), ⟨by decide +kernel, by decide +kernel, by decide +kernel⟩⟩
theorem oX3_start : Oc yX3_start cX3_start 3 none 2 := ⟨⟨(WS_of 429 (by decide +kernel)), (WS_of 430 (by decide +kernel))⟩, (WS_of 32 (by decide +kernel)), (WS_of 431 (by decide +kernel)), ⟨by decide +kernel, by decide +kernel, by decide +kernel⟩⟩
theorem oX3_copyFrom : Oc yX3_copyFrom cX3_copyFrom 2 none 1 := ⟨⟨(WS_of 260 (by decide +kernel)), (WS_of 261 (by decide +kernel))⟩, (WS_of 32 (by decide +kernel)), (WS_of 262 (by decide +kernel)), ⟨by decide +kernel, by decide +kernel, by decide +kernel⟩⟩
theorem oX4_start : Oc yX4_start cX4_start 2 none 1 := ⟨⟨(WS_of 373 (by decide +kernel)), (WS_of 374 (by decide +kernel))⟩, (WS_of 30 (by decide +kernel)), (WS_of 375 (by decide +kernel)), ⟨by decide +kernel, by decide +kernel, by decide +kernel⟩⟩
theorem oX4_isOut : Oc yX4_isOut cX4_isOut 1 (some .boolean) 0 := ⟨⟨(WS_of 302 (by decide +kernel)), (WS_of 303 (by decide +kernel))⟩, (WS_of 30 (by decide +kernel)), (WS_of 304 (by decide +kernel)), ⟨by decide +kernel, by decide +kernel, by decide +kernel⟩⟩
theorem oX4_isAble : Oc yX4_isAble cX4_isAble 2 (some .boolean) 1 := ⟨⟨(WS_of 170 (by decide +kernel)), (WS_of 171 (by decide +kernel))⟩, (WS_of 30 (by decide +kernel)), (WS_of 172 (by decide +kernel)), ⟨by decide +kernel, by decide +kernel, by decide +kernel⟩⟩
theorem oX4_copyFrom : Oc yX4_copyFrom cX4_copyFrom 2 none 1 := ⟨⟨(WS_of 252 (by decide +kernel)), (WS_of 253 (by decide +kernel))⟩, (WS_of 30 (by decide +kernel)), (WS_of 254 (by decide +kernel)), ⟨by decide +kernel, by decide +kernel, by decide +kernel⟩⟩
theorem oX5_isThere : Oc yX5_isThere cX5_isThere 1 (some .boolean) 0 := ⟨⟨(WS_of 210 (by decide +kernel)), (WS_of 211 (by decide +kernel))⟩, (WS_of 33 (by decide +kernel)), (WS_of 212 (by decide +kernel)), ⟨by decide +kernel, by decide +kernel, by decide +kernel⟩⟩
theorem oX5_set : Oc yX5_set cX5_set 3 none 2 := ⟨⟨(WS_of 151 (by decide +kernel)), (WS_of 152 (by decide +kernel))⟩, (WS_of 33 (by decide +kernel)), (WS_of 153 (by decide +kernel)), ⟨by decide +kernel, by decide +kernel, by decide +kernel⟩⟩
theorem oX5_clear : Oc yX5_clear cX5_clear 1 none 0 := ⟨⟨(WS_of 189 (by decide +kernel)), (WS_of 190 (by decide +kernel))⟩, (WS_of 33 (by decide +kernel)), (WS_of 191 (by decide +kernel)), ⟨by decide +kernel, by decide +kernel, by decide +kernel⟩⟩
theorem oX5_copyFrom : Oc yX5_copyFrom cX5_copyFrom 2 none 1 := ⟨⟨(WS_of 336 (by decide +kernel)), (WS_of 337 (by decide +kernel))⟩, (WS_of 33 (by decide +kernel)), (WS_of 338 (by decide +kernel)), ⟨by decide +kernel, by decide +kernel, by decide +kernel⟩⟩
theorem oX6_add : Oc yX6_add cX6_add 2 none 1 := ⟨⟨(WS_of 1203 (by decide +kernel)), (WS_of 1204 (by decide +kernel))⟩, (WS_of 34 (by decide +kernel)), (WS_of 1205 (by decide +kernel)), ⟨by decide +kernel, by decide +kernel, by decide +kernel⟩⟩
theorem oX6_read : Oc yX6_read cX6_read 3 (some .int) 0 := ⟨⟨(WS_of 1216 (by decide +kernel)), (WS_of 1217 (by decide +kernel))⟩, (WS_of 34 (by decide +kernel)), (WS_of 1218 (by decide +kernel)), ⟨by decide +kernel, by decide +kernel, by decide +kernel⟩⟩
theorem oX6_readCommand : Oc yX6_readCommand cX6_readCommand 5 (some .boolean) 1 := ⟨⟨(WS_of 1221 (by decide +kernel)), (WS_of 21 (by decide +kernel))⟩, (WS_of 34 (by decide +kernel)), (WS_of 1222 (by decide +kernel)), ⟨by decide +kernel, by decide +kernel, by decide +kernel⟩⟩
theorem oX6_readDeed : Oc yX6_readDeed cX6_readDeed 2 (some (.object "BoatRota$Deed")) 0 := ⟨⟨(WS_of 1225 (by decide +kernel)), (WS_of 22 (by decide +kernel))⟩, (WS_of 34 (by decide +kernel)), (WS_of 1226 (by decide +kernel)), ⟨by decide +kernel, by decide +kernel, by decide +kernel⟩⟩
theorem oX6_readNumber : Oc yX6_readNumber cX6_readNumber 4 (some .int) 1 := ⟨⟨(WS_of 1231 (by decide +kernel)), (WS_of 23 (by decide +kernel))⟩, (WS_of 34 (by decide +kernel)), (WS_of 1232 (by decide +kernel)), ⟨by decide +kernel, by decide +kernel, by decide +kernel⟩⟩
theorem oX6_isDigitNext : Oc yX6_isDigitNext cX6_isDigitNext 1 (some .boolean) 0 := ⟨⟨(WS_of 1235 (by decide +kernel)), (WS_of 24 (by decide +kernel))⟩, (WS_of 34 (by decide +kernel)), (WS_of 1236 (by decide +kernel)), ⟨by decide +kernel, by decide +kernel, by decide +kernel⟩⟩
theorem oX7_copyFrom : Oc yX7_copyFrom cX7_copyFrom 3 none 1 := ⟨⟨(WS_of 248 (by decide +kernel)), (WS_of 249 (by decide +kernel))⟩, (WS_of 29 (by decide +kernel)), (WS_of 250 (by decide +kernel)), ⟨by decide +kernel, by decide +kernel, by decide +kernel⟩⟩
theorem oX7_hasMember : Oc yX7_hasMember cX7_hasMember 2 (some .boolean) 1 := ⟨⟨(WS_of 298 (by decide +kernel)), (WS_of 299 (by decide +kernel))⟩, (WS_of 29 (by decide +kernel)), (WS_of 300 (by decide +kernel)), ⟨by decide +kernel, by decide +kernel, by decide +kernel⟩⟩
theorem oX7_hasBoat : Oc yX7_hasBoat cX7_hasBoat 2 (some .boolean) 1 := ⟨⟨(WS_of 69 (by decide +kernel)), (WS_of 70 (by decide +kernel))⟩, (WS_of 29 (by decide +kernel)), (WS_of 71 (by decide +kernel)), ⟨by decide +kernel, by decide +kernel, by decide +kernel⟩⟩
theorem oX7_hasLoan : Oc yX7_hasLoan cX7_hasLoan 2 (some .boolean) 1 := ⟨⟨(WS_of 323 (by decide +kernel)), (WS_of 324 (by decide +kernel))⟩, (WS_of 29 (by decide +kernel)), (WS_of 325 (by decide +kernel)), ⟨by decide +kernel, by decide +kernel, by decide +kernel⟩⟩
theorem oX7_judgeMember : Oc yX7_judgeMember cX7_judgeMember 3 none 2 := ⟨⟨(WS_of 290 (by decide +kernel)), (WS_of 291 (by decide +kernel))⟩, (WS_of 29 (by decide +kernel)), (WS_of 292 (by decide +kernel)), ⟨by decide +kernel, by decide +kernel, by decide +kernel⟩⟩
theorem oX7_addMember : Oc yX7_addMember cX7_addMember 2 (some .int) 1 := ⟨⟨(WS_of 369 (by decide +kernel)), (WS_of 370 (by decide +kernel))⟩, (WS_of 29 (by decide +kernel)), (WS_of 371 (by decide +kernel)), ⟨by decide +kernel, by decide +kernel, by decide +kernel⟩⟩
theorem oX7_judgeLeave : Oc yX7_judgeLeave cX7_judgeLeave 3 none 2 := ⟨⟨(WS_of 294 (by decide +kernel)), (WS_of 295 (by decide +kernel))⟩, (WS_of 29 (by decide +kernel)), (WS_of 296 (by decide +kernel)), ⟨by decide +kernel, by decide +kernel, by decide +kernel⟩⟩
theorem oX7_letGo : Oc yX7_letGo cX7_letGo 2 (some .int) 1 := ⟨⟨(WS_of 377 (by decide +kernel)), (WS_of 378 (by decide +kernel))⟩, (WS_of 29 (by decide +kernel)), (WS_of 379 (by decide +kernel)), ⟨by decide +kernel, by decide +kernel, by decide +kernel⟩⟩
theorem oX7_judgeTrain : Oc yX7_judgeTrain cX7_judgeTrain 3 none 2 := ⟨⟨(WS_of 306 (by decide +kernel)), (WS_of 307 (by decide +kernel))⟩, (WS_of 29 (by decide +kernel)), (WS_of 308 (by decide +kernel)), ⟨by decide +kernel, by decide +kernel, by decide +kernel⟩⟩
theorem oX7_raiseSkill : Oc yX7_raiseSkill cX7_raiseSkill 2 (some .int) 1 := ⟨⟨(WS_of 390 (by decide +kernel)), (WS_of 391 (by decide +kernel))⟩, (WS_of 29 (by decide +kernel)), (WS_of 392 (by decide +kernel)), ⟨by decide +kernel, by decide +kernel, by decide +kernel⟩⟩
theorem oX7_judgeBoat : Oc yX7_judgeBoat cX7_judgeBoat 4 none 3 := ⟨⟨(WS_of 311 (by decide +kernel)), (WS_of 312 (by decide +kernel))⟩, (WS_of 29 (by decide +kernel)), (WS_of 313 (by decide +kernel)), ⟨by decide +kernel, by decide +kernel, by decide +kernel⟩⟩
theorem oX7_addBoat : Oc yX7_addBoat cX7_addBoat 3 (some .int) 2 := ⟨⟨(WS_of 394 (by decide +kernel)), (WS_of 395 (by decide +kernel))⟩, (WS_of 29 (by decide +kernel)), (WS_of 396 (by decide +kernel)), ⟨by decide +kernel, by decide +kernel, by decide +kernel⟩⟩
theorem oX7_judgeCall : Oc yX7_judgeCall cX7_judgeCall 5 none 3 := ⟨⟨(WS_of 146 (by decide +kernel)), (WS_of 147 (by decide +kernel))⟩, (WS_of 29 (by decide +kernel)), (WS_of 148 (by decide +kernel)), ⟨by decide +kernel, by decide +kernel, by decide +kernel⟩⟩
theorem oX7_judgeCrew : Oc yX7_judgeCrew cX7_judgeCrew 7 none 2 := ⟨⟨(WS_of 162 (by decide +kernel)), (WS_of 163 (by decide +kernel))⟩, (WS_of 29 (by decide +kernel)), (WS_of 164 (by decide +kernel)), ⟨by decide +kernel, by decide +kernel, by decide +kernel⟩⟩
theorem oX7_sendOut : Oc yX7_sendOut cX7_sendOut 6 (some .int) 2 := ⟨⟨(WS_of 402 (by decide +kernel)), (WS_of 403 (by decide +kernel))⟩, (WS_of 29 (by decide +kernel)), (WS_of 404 (by decide +kernel)), ⟨by decide +kernel, by decide +kernel, by decide +kernel⟩⟩
theorem oX7_judgeBorrow : Oc yX7_judgeBorrow cX7_judgeBorrow 4 none 3 := ⟨⟨(WS_of 315 (by decide +kernel)), (WS_of 316 (by decide +kernel))⟩, (WS_of 29 (by decide +kernel)), (WS_of 317 (by decide +kernel)), ⟨by decide +kernel, by decide +kernel, by decide +kernel⟩⟩
theorem oX7_addLoan : Oc yX7_addLoan cX7_addLoan 3 (some .int) 2 := ⟨⟨(WS_of 425 (by decide +kernel)), (WS_of 426 (by decide +kernel))⟩, (WS_of 29 (by decide +kernel)), (WS_of 427 (by decide +kernel)), ⟨by decide +kernel, by decide +kernel, by decide +kernel⟩⟩
theorem oX7_judgeGiveBack : Oc yX7_judgeGiveBack cX7_judgeGiveBack 3 none 2 := ⟨⟨(WS_of 319 (by decide +kernel)), (WS_of 320 (by decide +kernel))⟩, (WS_of 29 (by decide +kernel)), (WS_of 321 (by decide +kernel)), ⟨by decide +kernel, by decide +kernel, by decide +kernel⟩⟩
theorem oX7_endLoan : Oc yX7_endLoan cX7_endLoan 2 (some .int) 1 := ⟨⟨(WS_of 433 (by decide +kernel)), (WS_of 434 (by decide +kernel))⟩, (WS_of 29 (by decide +kernel)), (WS_of 435 (by decide +kernel)), ⟨by decide +kernel, by decide +kernel, by decide +kernel⟩⟩
theorem oX7_removeLoan : Oc yX7_removeLoan cX7_removeLoan 4 none 1 := ⟨⟨(WS_of 438 (by decide +kernel)), (WS_of 11 (by decide +kernel))⟩, (WS_of 29 (by decide +kernel)), (WS_of 439 (by decide +kernel)), ⟨by decide +kernel, by decide +kernel, by decide +kernel⟩⟩
theorem oX7_judgeLimit : Oc yX7_judgeLimit cX7_judgeLimit 3 none 2 := ⟨⟨(WS_of 327 (by decide +kernel)), (WS_of 328 (by decide +kernel))⟩, (WS_of 29 (by decide +kernel)), (WS_of 329 (by decide +kernel)), ⟨by decide +kernel, by decide +kernel, by decide +kernel⟩⟩
theorem oX7_setLimit : Oc yX7_setLimit cX7_setLimit 3 (some .int) 1 := ⟨⟨(WS_of 441 (by decide +kernel)), (WS_of 442 (by decide +kernel))⟩, (WS_of 29 (by decide +kernel)), (WS_of 443 (by decide +kernel)), ⟨by decide +kernel, by decide +kernel, by decide +kernel⟩⟩
theorem oX7_judgePass : Oc yX7_judgePass cX7_judgePass 3 none 2 := ⟨⟨(WS_of 331 (by decide +kernel)), (WS_of 332 (by decide +kernel))⟩, (WS_of 29 (by decide +kernel)), (WS_of 333 (by decide +kernel)), ⟨by decide +kernel, by decide +kernel, by decide +kernel⟩⟩
theorem oX7_passHours : Oc yX7_passHours cX7_passHours 4 (some .int) 1 := ⟨⟨(WS_of 445 (by decide +kernel)), (WS_of 446 (by decide +kernel))⟩, (WS_of 29 (by decide +kernel)), (WS_of 447 (by decide +kernel)), ⟨by decide +kernel, by decide +kernel, by decide +kernel⟩⟩
theorem oX7_tireMembers : Oc yX7_tireMembers cX7_tireMembers 3 none 0 := ⟨⟨(WS_of 450 (by decide +kernel)), (WS_of 12 (by decide +kernel))⟩, (WS_of 29 (by decide +kernel)), (WS_of 451 (by decide +kernel)), ⟨by decide +kernel, by decide +kernel, by decide +kernel⟩⟩
theorem oX7_sailBoats : Oc yX7_sailBoats cX7_sailBoats 2 none 0 := ⟨⟨(WS_of 454 (by decide +kernel)), (WS_of 13 (by decide +kernel))⟩, (WS_of 29 (by decide +kernel)), (WS_of 455 (by decide +kernel)), ⟨by decide +kernel, by decide +kernel, by decide +kernel⟩⟩
theorem oX7_sailBoat : Oc yX7_sailBoat cX7_sailBoat 3 none 1 := ⟨⟨(WS_of 458 (by decide +kernel)), (WS_of 14 (by decide +kernel))⟩, (WS_of 29 (by decide +kernel)), (WS_of 459 (by decide +kernel)), ⟨by decide +kernel, by decide +kernel, by decide +kernel⟩⟩
theorem oX7_bringIn : Oc yX7_bringIn cX7_bringIn 3 none 1 := ⟨⟨(WS_of 462 (by decide +kernel)), (WS_of 15 (by decide +kernel))⟩, (WS_of 29 (by decide +kernel)), (WS_of 463 (by decide +kernel)), ⟨by decide +kernel, by decide +kernel, by decide +kernel⟩⟩
theorem oX7_ageLoans : Oc yX7_ageLoans cX7_ageLoans 6 none 0 := ⟨⟨(WS_of 466 (by decide +kernel)), (WS_of 16 (by decide +kernel))⟩, (WS_of 29 (by decide +kernel)), (WS_of 467 (by decide +kernel)), ⟨by decide +kernel, by decide +kernel, by decide +kernel⟩⟩
theorem oX7_allOars : Oc yX7_allOars cX7_allOars 3 (some .int) 0 := ⟨⟨(WS_of 202 (by decide +kernel)), (WS_of 203 (by decide +kernel))⟩, (WS_of 29 (by decide +kernel)), (WS_of 204 (by decide +kernel)), ⟨by decide +kernel, by decide +kernel, by decide +kernel⟩⟩
theorem oX7_oarsOut : Oc yX7_oarsOut cX7_oarsOut 3 (some .int) 0 := ⟨⟨(WS_of 206 (by decide +kernel)), (WS_of 207 (by decide +kernel))⟩, (WS_of 29 (by decide +kernel)), (WS_of 208 (by decide +kernel)), ⟨by decide +kernel, by decide +kernel, by decide +kernel⟩⟩
theorem oX7_freeOars : Oc yX7_freeOars cX7_freeOars 1 (some .int) 0 := ⟨⟨(WS_of 198 (by decide +kernel)), (WS_of 199 (by decide +kernel))⟩, (WS_of 29 (by decide +kernel)), (WS_of 200 (by decide +kernel)), ⟨by decide +kernel, by decide +kernel, by decide +kernel⟩⟩
theorem oX7_boatsOut : Oc yX7_boatsOut cX7_boatsOut 3 (some .int) 0 := ⟨⟨(WS_of 223 (by decide +kernel)), (WS_of 224 (by decide +kernel))⟩, (WS_of 29 (by decide +kernel)), (WS_of 225 (by decide +kernel)), ⟨by decide +kernel, by decide +kernel, by decide +kernel⟩⟩
theorem oX7_everyone : Oc yX7_everyone cX7_everyone 1 (some .int) 0 := ⟨⟨(WS_of 385 (by decide +kernel)), (WS_of 386 (by decide +kernel))⟩, (WS_of 29 (by decide +kernel)), (WS_of 387 (by decide +kernel)), ⟨by decide +kernel, by decide +kernel, by decide +kernel⟩⟩
theorem oX7_staying : Oc yX7_staying cX7_staying 1 (some .int) 0 := ⟨⟨(WS_of 381 (by decide +kernel)), (WS_of 382 (by decide +kernel))⟩, (WS_of 29 (by decide +kernel)), (WS_of 383 (by decide +kernel)), ⟨by decide +kernel, by decide +kernel, by decide +kernel⟩⟩
theorem oX7_membersAt : Oc yX7_membersAt cX7_membersAt 4 (some .int) 1 := ⟨⟨(WS_of 218 (by decide +kernel)), (WS_of 219 (by decide +kernel))⟩, (WS_of 29 (by decide +kernel)), (WS_of 220 (by decide +kernel)), ⟨by decide +kernel, by decide +kernel, by decide +kernel⟩⟩
theorem oX7_ableMembers : Oc yX7_ableMembers cX7_ableMembers 3 (some .int) 0 := ⟨⟨(WS_of 166 (by decide +kernel)), (WS_of 167 (by decide +kernel))⟩, (WS_of 29 (by decide +kernel)), (WS_of 168 (by decide +kernel)), ⟨by decide +kernel, by decide +kernel, by decide +kernel⟩⟩
theorem oX7_skilledMembers : Oc yX7_skilledMembers cX7_skilledMembers 4 (some .int) 1 := ⟨⟨(WS_of 181 (by decide +kernel)), (WS_of 2 (by decide +kernel))⟩, (WS_of 29 (by decide +kernel)), (WS_of 183 (by decide +kernel)), ⟨by decide +kernel, by decide +kernel, by decide +kernel⟩⟩
theorem oX7_wearinessOf : Oc yX7_wearinessOf cX7_wearinessOf 4 (some .int) 1 := ⟨⟨(WS_of 1298 (by decide +kernel)), (WS_of 1299 (by decide +kernel))⟩, (WS_of 29 (by decide +kernel)), (WS_of 1300 (by decide +kernel)), ⟨by decide +kernel, by decide +kernel, by decide +kernel⟩⟩
theorem oX7_chosenCoxswain : Oc yX7_chosenCoxswain cX7_chosenCoxswain 1 (some .int) 0 := ⟨⟨(WS_of 407 (by decide +kernel)), (WS_of 8 (by decide +kernel))⟩, (WS_of 29 (by decide +kernel)), (WS_of 408 (by decide +kernel)), ⟨by decide +kernel, by decide +kernel, by decide +kernel⟩⟩
theorem oX7_chosenCrew : Oc yX7_chosenCrew cX7_chosenCrew 4 (some .int) 1 := ⟨⟨(WS_of 414 (by decide +kernel)), (WS_of 415 (by decide +kernel))⟩, (WS_of 29 (by decide +kernel)), (WS_of 416 (by decide +kernel)), ⟨by decide +kernel, by decide +kernel, by decide +kernel⟩⟩
theorem oX7_filledUp : Oc yX7_filledUp cX7_filledUp 7 (some .int) 3 := ⟨⟨(WS_of 419 (by decide +kernel)), (WS_of 10 (by decide +kernel))⟩, (WS_of 29 (by decide +kernel)), (WS_of 420 (by decide +kernel)), ⟨by decide +kernel, by decide +kernel, by decide +kernel⟩⟩
theorem oX7_leastWearyOf : Oc yX7_leastWearyOf cX7_leastWearyOf 5 (some .int) 1 := ⟨⟨(WS_of 411 (by decide +kernel)), (WS_of 9 (by decide +kernel))⟩, (WS_of 29 (by decide +kernel)), (WS_of 412 (by decide +kernel)), ⟨by decide +kernel, by decide +kernel, by decide +kernel⟩⟩
theorem oX7_leastWearinessOfAll : Oc yX7_leastWearinessOfAll cX7_leastWearinessOfAll 8 (some .int) 1 := ⟨⟨(WS_of 1316 (by decide +kernel)), (WS_of 1317 (by decide +kernel))⟩, (WS_of 29 (by decide +kernel)), (WS_of 1318 (by decide +kernel)), ⟨by decide +kernel, by decide +kernel, by decide +kernel⟩⟩
theorem oX7_memberInPlace : Oc yX7_memberInPlace cX7_memberInPlace 5 (some .int) 3 := ⟨⟨(WS_of 555 (by decide +kernel)), (WS_of 556 (by decide +kernel))⟩, (WS_of 29 (by decide +kernel)), (WS_of 557 (by decide +kernel)), ⟨by decide +kernel, by decide +kernel, by decide +kernel⟩⟩
theorem oX7_countBefore : Oc yX7_countBefore cX7_countBefore 7 (some .int) 3 := ⟨⟨(WS_of 560 (by decide +kernel)), (WS_of 18 (by decide +kernel))⟩, (WS_of 29 (by decide +kernel)), (WS_of 561 (by decide +kernel)), ⟨by decide +kernel, by decide +kernel, by decide +kernel⟩⟩
theorem oX7_isFresher : Oc yX7_isFresher cX7_isFresher 5 (some .boolean) 2 := ⟨⟨(WS_of 568 (by decide +kernel)), (WS_of 20 (by decide +kernel))⟩, (WS_of 29 (by decide +kernel)), (WS_of 569 (by decide +kernel)), ⟨by decide +kernel, by decide +kernel, by decide +kernel⟩⟩
theorem oX7_isBusier : Oc yX7_isBusier cX7_isBusier 5 (some .boolean) 2 := ⟨⟨(WS_of 564 (by decide +kernel)), (WS_of 19 (by decide +kernel))⟩, (WS_of 29 (by decide +kernel)), (WS_of 565 (by decide +kernel)), ⟨by decide +kernel, by decide +kernel, by decide +kernel⟩⟩
theorem oX8_member : Oc yX8_member cX8_member 2 (some .int) 1 := ⟨⟨(WS_of 901 (by decide +kernel)), (WS_of 902 (by decide +kernel))⟩, (WS_of 28 (by decide +kernel)), (WS_of 903 (by decide +kernel)), ⟨by decide +kernel, by decide +kernel, by decide +kernel⟩⟩
theorem oX8_leave : Oc yX8_leave cX8_leave 2 (some .int) 1 := ⟨⟨(WS_of 932 (by decide +kernel)), (WS_of 933 (by decide +kernel))⟩, (WS_of 28 (by decide +kernel)), (WS_of 934 (by decide +kernel)), ⟨by decide +kernel, by decide +kernel, by decide +kernel⟩⟩
theorem oX8_train : Oc yX8_train cX8_train 2 (some .int) 1 := ⟨⟨(WS_of 941 (by decide +kernel)), (WS_of 942 (by decide +kernel))⟩, (WS_of 28 (by decide +kernel)), (WS_of 943 (by decide +kernel)), ⟨by decide +kernel, by decide +kernel, by decide +kernel⟩⟩
theorem oX8_boat : Oc yX8_boat cX8_boat 3 (some .int) 2 := ⟨⟨(WS_of 910 (by decide +kernel)), (WS_of 911 (by decide +kernel))⟩, (WS_of 28 (by decide +kernel)), (WS_of 912 (by decide +kernel)), ⟨by decide +kernel, by decide +kernel, by decide +kernel⟩⟩
theorem oX8_call : Oc yX8_call cX8_call 3 (some .int) 2 := ⟨⟨(WS_of 268 (by decide +kernel)), (WS_of 269 (by decide +kernel))⟩, (WS_of 28 (by decide +kernel)), (WS_of 270 (by decide +kernel)), ⟨by decide +kernel, by decide +kernel, by decide +kernel⟩⟩
theorem oX8_borrow : Oc yX8_borrow cX8_borrow 3 (some .int) 2 := ⟨⟨(WS_of 919 (by decide +kernel)), (WS_of 920 (by decide +kernel))⟩, (WS_of 28 (by decide +kernel)), (WS_of 921 (by decide +kernel)), ⟨by decide +kernel, by decide +kernel, by decide +kernel⟩⟩
theorem oX8_giveBack : Oc yX8_giveBack cX8_giveBack 2 (some .int) 1 := ⟨⟨(WS_of 950 (by decide +kernel)), (WS_of 951 (by decide +kernel))⟩, (WS_of 28 (by decide +kernel)), (WS_of 952 (by decide +kernel)), ⟨by decide +kernel, by decide +kernel, by decide +kernel⟩⟩
theorem oX8_limit : Oc yX8_limit cX8_limit 2 (some .int) 1 := ⟨⟨(WS_of 473 (by decide +kernel)), (WS_of 474 (by decide +kernel))⟩, (WS_of 28 (by decide +kernel)), (WS_of 475 (by decide +kernel)), ⟨by decide +kernel, by decide +kernel, by decide +kernel⟩⟩
theorem oX8_pass : Oc yX8_pass cX8_pass 2 (some .int) 1 := ⟨⟨(WS_of 482 (by decide +kernel)), (WS_of 483 (by decide +kernel))⟩, (WS_of 28 (by decide +kernel)), (WS_of 484 (by decide +kernel)), ⟨by decide +kernel, by decide +kernel, by decide +kernel⟩⟩
theorem oX8_memberOf : Oc yX8_memberOf cX8_memberOf 4 (some .int) 2 := ⟨⟨(WS_of 1249 (by decide +kernel)), (WS_of 1250 (by decide +kernel))⟩, (WS_of 28 (by decide +kernel)), (WS_of 1251 (by decide +kernel)), ⟨by decide +kernel, by decide +kernel, by decide +kernel⟩⟩
theorem oX8_boatOf : Oc yX8_boatOf cX8_boatOf 4 (some .int) 2 := ⟨⟨(WS_of 1258 (by decide +kernel)), (WS_of 1259 (by decide +kernel))⟩, (WS_of 28 (by decide +kernel)), (WS_of 1260 (by decide +kernel)), ⟨by decide +kernel, by decide +kernel, by decide +kernel⟩⟩
theorem oX8_crew : Oc yX8_crew cX8_crew 2 (some .int) 1 := ⟨⟨(WS_of 1263 (by decide +kernel)), (WS_of 1264 (by decide +kernel))⟩, (WS_of 28 (by decide +kernel)), (WS_of 1265 (by decide +kernel)), ⟨by decide +kernel, by decide +kernel, by decide +kernel⟩⟩
theorem oX8_able : Oc yX8_able cX8_able 1 (some .int) 0 := ⟨⟨(WS_of 1331 (by decide +kernel)), (WS_of 1332 (by decide +kernel))⟩, (WS_of 28 (by decide +kernel)), (WS_of 1333 (by decide +kernel)), ⟨by decide +kernel, by decide +kernel, by decide +kernel⟩⟩
theorem oX8_wouldGo : Oc yX8_wouldGo cX8_wouldGo 2 (some .int) 1 := ⟨⟨(WS_of 1305 (by decide +kernel)), (WS_of 1306 (by decide +kernel))⟩, (WS_of 28 (by decide +kernel)), (WS_of 1307 (by decide +kernel)), ⟨by decide +kernel, by decide +kernel, by decide +kernel⟩⟩
theorem oX8_weariness : Oc yX8_weariness cX8_weariness 2 (some .int) 1 := ⟨⟨(WS_of 1287 (by decide +kernel)), (WS_of 1288 (by decide +kernel))⟩, (WS_of 28 (by decide +kernel)), (WS_of 1289 (by decide +kernel)), ⟨by decide +kernel, by decide +kernel, by decide +kernel⟩⟩
theorem oX8_wearinessAgain : Oc yX8_wearinessAgain cX8_wearinessAgain 2 (some .int) 1 := ⟨⟨(WS_of 1312 (by decide +kernel)), (WS_of 1313 (by decide +kernel))⟩, (WS_of 28 (by decide +kernel)), (WS_of 1314 (by decide +kernel)), ⟨by decide +kernel, by decide +kernel, by decide +kernel⟩⟩
theorem oX8_wouldRefuse : Oc yX8_wouldRefuse cX8_wouldRefuse 2 (some .int) 1 := ⟨⟨(WS_of 60 (by decide +kernel)), (WS_of 61 (by decide +kernel))⟩, (WS_of 28 (by decide +kernel)), (WS_of 62 (by decide +kernel)), ⟨by decide +kernel, by decide +kernel, by decide +kernel⟩⟩
theorem oX8_callableIn : Oc yX8_callableIn cX8_callableIn 3 (some .int) 1 := ⟨⟨(WS_of 513 (by decide +kernel)), (WS_of 514 (by decide +kernel))⟩, (WS_of 28 (by decide +kernel)), (WS_of 515 (by decide +kernel)), ⟨by decide +kernel, by decide +kernel, by decide +kernel⟩⟩
theorem oX8_homeIn : Oc yX8_homeIn cX8_homeIn 3 (some .int) 1 := ⟨⟨(WS_of 537 (by decide +kernel)), (WS_of 538 (by decide +kernel))⟩, (WS_of 28 (by decide +kernel)), (WS_of 539 (by decide +kernel)), ⟨by decide +kernel, by decide +kernel, by decide +kernel⟩⟩
theorem oX8_homeInAgain : Oc yX8_homeInAgain cX8_homeInAgain 4 (some .int) 1 := ⟨⟨(WS_of 1325 (by decide +kernel)), (WS_of 1326 (by decide +kernel))⟩, (WS_of 28 (by decide +kernel)), (WS_of 1327 (by decide +kernel)), ⟨by decide +kernel, by decide +kernel, by decide +kernel⟩⟩
theorem oX8_loanOf : Oc yX8_loanOf cX8_loanOf 4 (some .int) 2 := ⟨⟨(WS_of 1267 (by decide +kernel)), (WS_of 1268 (by decide +kernel))⟩, (WS_of 28 (by decide +kernel)), (WS_of 1269 (by decide +kernel)), ⟨by decide +kernel, by decide +kernel, by decide +kernel⟩⟩
theorem oX8_free : Oc yX8_free cX8_free 1 (some .int) 0 := ⟨⟨(WS_of 1336 (by decide +kernel)), (WS_of 1337 (by decide +kernel))⟩, (WS_of 28 (by decide +kernel)), (WS_of 1338 (by decide +kernel)), ⟨by decide +kernel, by decide +kernel, by decide +kernel⟩⟩
theorem oX8_least : Oc yX8_least cX8_least 3 (some .int) 1 := ⟨⟨(WS_of 550 (by decide +kernel)), (WS_of 551 (by decide +kernel))⟩, (WS_of 28 (by decide +kernel)), (WS_of 552 (by decide +kernel)), ⟨by decide +kernel, by decide +kernel, by decide +kernel⟩⟩
theorem oX8_busiest : Oc yX8_busiest cX8_busiest 3 (some .int) 1 := ⟨⟨(WS_of 575 (by decide +kernel)), (WS_of 576 (by decide +kernel))⟩, (WS_of 28 (by decide +kernel)), (WS_of 577 (by decide +kernel)), ⟨by decide +kernel, by decide +kernel, by decide +kernel⟩⟩
theorem oX8_append : Oc yX8_append cX8_append 2 (some .int) 1 := ⟨⟨(WS_of 1198 (by decide +kernel)), (WS_of 1199 (by decide +kernel))⟩, (WS_of 28 (by decide +kernel)), (WS_of 1200 (by decide +kernel)), ⟨by decide +kernel, by decide +kernel, by decide +kernel⟩⟩
theorem oX8_commands : Oc yX8_commands cX8_commands 2 (some .int) 0 := ⟨⟨(WS_of 1212 (by decide +kernel)), (WS_of 1213 (by decide +kernel))⟩, (WS_of 28 (by decide +kernel)), (WS_of 1214 (by decide +kernel)), ⟨by decide +kernel, by decide +kernel, by decide +kernel⟩⟩
theorem oX8_account : Oc yX8_account cX8_account 2 (some .int) 1 := ⟨⟨(WS_of 214 (by decide +kernel)), (WS_of 215 (by decide +kernel))⟩, (WS_of 28 (by decide +kernel)), (WS_of 216 (by decide +kernel)), ⟨by decide +kernel, by decide +kernel, by decide +kernel⟩⟩
theorem oX8_undo : Oc yX8_undo cX8_undo 1 (some .int) 0 := ⟨⟨(WS_of 584 (by decide +kernel)), (WS_of 585 (by decide +kernel))⟩, (WS_of 28 (by decide +kernel)), (WS_of 586 (by decide +kernel)), ⟨by decide +kernel, by decide +kernel, by decide +kernel⟩⟩
theorem oX8_save : Oc yX8_save cX8_save 1 (some .int) 0 := ⟨⟨(WS_of 244 (by decide +kernel)), (WS_of 245 (by decide +kernel))⟩, (WS_of 28 (by decide +kernel)), (WS_of 246 (by decide +kernel)), ⟨by decide +kernel, by decide +kernel, by decide +kernel⟩⟩
theorem oX8_restore : Oc yX8_restore cX8_restore 1 (some .int) 0 := ⟨⟨(WS_of 607 (by decide +kernel)), (WS_of 608 (by decide +kernel))⟩, (WS_of 28 (by decide +kernel)), (WS_of 609 (by decide +kernel)), ⟨by decide +kernel, by decide +kernel, by decide +kernel⟩⟩
theorem oX8_change : Oc yX8_change cX8_change 4 (some .int) 3 := ⟨⟨(WS_of 275 (by decide +kernel)), (WS_of 3 (by decide +kernel))⟩, (WS_of 28 (by decide +kernel)), (WS_of 276 (by decide +kernel)), ⟨by decide +kernel, by decide +kernel, by decide +kernel⟩⟩
theorem oX8_judge : Oc yX8_judge cX8_judge 4 none 3 := ⟨⟨(WS_of 279 (by decide +kernel)), (WS_of 4 (by decide +kernel))⟩, (WS_of 28 (by decide +kernel)), (WS_of 280 (by decide +kernel)), ⟨by decide +kernel, by decide +kernel, by decide +kernel⟩⟩
theorem oX8_carryOut : Oc yX8_carryOut cX8_carryOut 4 (some .int) 3 := ⟨⟨(WS_of 366 (by decide +kernel)), (WS_of 7 (by decide +kernel))⟩, (WS_of 28 (by decide +kernel)), (WS_of 367 (by decide +kernel)), ⟨by decide +kernel, by decide +kernel, by decide +kernel⟩⟩
theorem oX8_carryOutAll : Oc yX8_carryOutAll cX8_carryOutAll 2 (some .int) 0 := ⟨⟨(WS_of 1241 (by decide +kernel)), (WS_of 25 (by decide +kernel))⟩, (WS_of 28 (by decide +kernel)), (WS_of 1242 (by decide +kernel)), ⟨by decide +kernel, by decide +kernel, by decide +kernel⟩⟩
theorem oX8_remember : Oc yX8_remember cX8_remember 2 none 1 := ⟨⟨(WS_of 358 (by decide +kernel)), (WS_of 5 (by decide +kernel))⟩, (WS_of 28 (by decide +kernel)), (WS_of 359 (by decide +kernel)), ⟨by decide +kernel, by decide +kernel, by decide +kernel⟩⟩
theorem oX8_forgetOldest : Oc yX8_forgetOldest cX8_forgetOldest 3 none 0 := ⟨⟨(WS_of 362 (by decide +kernel)), (WS_of 6 (by decide +kernel))⟩, (WS_of 28 (by decide +kernel)), (WS_of 363 (by decide +kernel)), ⟨by decide +kernel, by decide +kernel, by decide +kernel⟩⟩
theorem oX8_requireBoat : Oc yX8_requireBoat cX8_requireBoat 2 none 1 := ⟨⟨(WS_of 65 (by decide +kernel)), (WS_of 0 (by decide +kernel))⟩, (WS_of 28 (by decide +kernel)), (WS_of 67 (by decide +kernel)), ⟨by decide +kernel, by decide +kernel, by decide +kernel⟩⟩
theorem oX8_requireCrew : Oc yX8_requireCrew cX8_requireCrew 2 none 1 := ⟨⟨(WS_of 1292 (by decide +kernel)), (WS_of 26 (by decide +kernel))⟩, (WS_of 28 (by decide +kernel)), (WS_of 1293 (by decide +kernel)), ⟨by decide +kernel, by decide +kernel, by decide +kernel⟩⟩
theorem oX8_requireOut : Oc yX8_requireOut cX8_requireOut 2 none 1 := ⟨⟨(WS_of 542 (by decide +kernel)), (WS_of 17 (by decide +kernel))⟩, (WS_of 28 (by decide +kernel)), (WS_of 543 (by decide +kernel)), ⟨by decide +kernel, by decide +kernel, by decide +kernel⟩⟩
theorem oX8_heightAt : Os yX8_heightAt cX8_heightAt 2 (some .int) 1 := ⟨(WS_of 159 (by decide +kernel)), (WS_of 28 (by decide +kernel)), (WS_of 160 (by decide +kernel)), ⟨by decide +kernel, by decide +kernel, by decide +kernel⟩⟩
theorem oX8_isIn : Os yX8_isIn cX8_isIn 2 (some .boolean) 2 := ⟨(WS_of 422 (by decide +kernel)), (WS_of 28 (by decide +kernel)), (WS_of 423 (by decide +kernel)), ⟨by decide +kernel, by decide +kernel, by decide +kernel⟩⟩
theorem kX8_157 : Lk RX8 157 yX8_requireBoat := WS_of 63 (by decide +kernel)
theorem kX8_463 : Lk RX8 463 yX7_hasBoat := WS_of 68 (by decide +kernel)
theorem kX8_205 : Lk RX8 205 yX7_judgeCall := WS_of 145 (by decide +kernel)
theorem kX7_113 : Lk RX7 113 yX7_hasBoat := WS_of 149 (by decide +kernel)
theorem kX7_67 : Lk RX7 67 yX5_set := WS_of 150 (by decide +kernel)
theorem kX7_116 : Lk RX7 116 yX1_isOut := WS_of 154 (by decide +kernel)
theorem kX7_123 : Lk RX7 123 yX7_judgeCrew := WS_of 161 (by decide +kernel)
theorem kX7_132 : Lk RX7 132 yX7_ableMembers := WS_of 165 (by decide +kernel)
theorem kX7_215 : Lk RX7 215 yX4_isAble := WS_of 169 (by decide +kernel)
theorem kX7_95 : Lk RX7 95 yJ6_bitCount_0f7a4 := WS_of 173 (by decide +kernel)
theorem kX7_138 : Lk RX7 138 yX7_skilledMembers := WS_of 179 (by decide +kernel)
theorem kX7_141 : Lk RX7 141 yX1_skilledNeeded := WS_of 184 (by decide +kernel)
theorem kX7_73 : Lk RX7 73 yX5_clear := WS_of 188 (by decide +kernel)
theorem kX5_18 : Lk RX5 18 yX5_set := WS_of 192 (by decide +kernel)
theorem kX7_126 : Lk RX7 126 yX1_oarsNeeded := WS_of 193 (by decide +kernel)
theorem kX7_129 : Lk RX7 129 yX7_freeOars := WS_of 197 (by decide +kernel)
theorem kX7_205 : Lk RX7 205 yX7_allOars := WS_of 201 (by decide +kernel)
theorem kX7_199 : Lk RX7 199 yX7_oarsOut := WS_of 205 (by decide +kernel)
theorem kX7_105 : Lk RX7 105 yX5_isThere := WS_of 209 (by decide +kernel)
theorem kX8_186 : Lk RX8 186 yX7_membersAt := WS_of 217 (by decide +kernel)
theorem kX8_342 : Lk RX8 342 yJ6_bitCount_0f7a4 := WS_of 221 (by decide +kernel)
theorem kX8_359 : Lk RX8 359 yX7_boatsOut := WS_of 222 (by decide +kernel)
theorem kX8_350 : Lk RX8 350 yX7_allOars := WS_of 226 (by decide +kernel)
theorem kX8_212 : Lk RX8 212 yX7_copyFrom := WS_of 247 (by decide +kernel)
theorem kX7_57 : Lk RX7 57 yX4_copyFrom := WS_of 251 (by decide +kernel)
theorem kX7_61 : Lk RX7 61 yX1_copyFrom := WS_of 255 (by decide +kernel)
theorem kX7_64 : Lk RX7 64 yX3_copyFrom := WS_of 259 (by decide +kernel)
theorem kX8_70 : Lk RX8 70 yX8_change := WS_of 273 (by decide +kernel)
theorem kX8_376 : Lk RX8 376 yX8_judge := WS_of 277 (by decide +kernel)
theorem kX8_397 : Lk RX8 397 yX7_judgeMember := WS_of 289 (by decide +kernel)
theorem kX8_401 : Lk RX8 401 yX7_judgeLeave := WS_of 293 (by decide +kernel)
theorem kX7_80 : Lk RX7 80 yX7_hasMember := WS_of 297 (by decide +kernel)
theorem kX7_87 : Lk RX7 87 yX4_isOut := WS_of 301 (by decide +kernel)
theorem kX8_404 : Lk RX8 404 yX7_judgeTrain := WS_of 305 (by decide +kernel)
theorem kX7_101 : Lk RX7 101 yX7_judgeLeave := WS_of 309 (by decide +kernel)
theorem kX8_407 : Lk RX8 407 yX7_judgeBoat := WS_of 310 (by decide +kernel)
theorem kX8_410 : Lk RX8 410 yX7_judgeBorrow := WS_of 314 (by decide +kernel)
theorem kX8_413 : Lk RX8 413 yX7_judgeGiveBack := WS_of 318 (by decide +kernel)
theorem kX7_166 : Lk RX7 166 yX7_hasLoan := WS_of 322 (by decide +kernel)
theorem kX8_416 : Lk RX8 416 yX7_judgeLimit := WS_of 326 (by decide +kernel)
theorem kX8_419 : Lk RX8 419 yX7_judgePass := WS_of 330 (by decide +kernel)
theorem kX8_216 : Lk RX8 216 yX5_isThere := WS_of 334 (by decide +kernel)
theorem kX8_300 : Lk RX8 300 yX5_copyFrom := WS_of 335 (by decide +kernel)
theorem kX8_380 : Lk RX8 380 yX5_clear := WS_of 339 (by decide +kernel)
theorem kX8_308 : Lk RX8 308 yX8_remember := WS_of 356 (by decide +kernel)
theorem kX8_456 : Lk RX8 456 yX8_forgetOldest := WS_of 360 (by decide +kernel)
theorem kX8_385 : Lk RX8 385 yX8_carryOut := WS_of 364 (by decide +kernel)
theorem kX8_422 : Lk RX8 422 yX7_addMember := WS_of 368 (by decide +kernel)
theorem kX7_76 : Lk RX7 76 yX4_start := WS_of 372 (by decide +kernel)
theorem kX8_425 : Lk RX8 425 yX7_letGo := WS_of 376 (by decide +kernel)
theorem kX7_91 : Lk RX7 91 yX7_staying := WS_of 380 (by decide +kernel)
theorem kX7_209 : Lk RX7 209 yX7_everyone := WS_of 384 (by decide +kernel)
theorem kX7_212 : Lk RX7 212 yX7_membersAt := WS_of 388 (by decide +kernel)
theorem kX8_428 : Lk RX8 428 yX7_raiseSkill := WS_of 389 (by decide +kernel)
theorem kX8_431 : Lk RX8 431 yX7_addBoat := WS_of 393 (by decide +kernel)
theorem kX7_111 : Lk RX7 111 yX1_start := WS_of 397 (by decide +kernel)
theorem kX8_434 : Lk RX8 434 yX7_sendOut := WS_of 401 (by decide +kernel)
theorem kX7_144 : Lk RX7 144 yX7_chosenCoxswain := WS_of 405 (by decide +kernel)
theorem kX7_218 : Lk RX7 218 yX7_leastWearyOf := WS_of 409 (by decide +kernel)
theorem kX7_147 : Lk RX7 147 yX7_chosenCrew := WS_of 413 (by decide +kernel)
theorem kX7_221 : Lk RX7 221 yX7_filledUp := WS_of 417 (by decide +kernel)
theorem kX8_437 : Lk RX8 437 yX7_addLoan := WS_of 424 (by decide +kernel)
theorem kX7_165 : Lk RX7 165 yX3_start := WS_of 428 (by decide +kernel)
theorem kX8_440 : Lk RX8 440 yX7_endLoan := WS_of 432 (by decide +kernel)
theorem kX7_172 : Lk RX7 172 yX7_removeLoan := WS_of 436 (by decide +kernel)
theorem kX8_443 : Lk RX8 443 yX7_setLimit := WS_of 440 (by decide +kernel)
theorem kX8_219 : Lk RX8 219 yX7_passHours := WS_of 444 (by decide +kernel)
theorem kX7_175 : Lk RX7 175 yX7_tireMembers := WS_of 448 (by decide +kernel)
theorem kX7_178 : Lk RX7 178 yX7_sailBoats := WS_of 452 (by decide +kernel)
theorem kX7_190 : Lk RX7 190 yX7_sailBoat := WS_of 456 (by decide +kernel)
theorem kX7_193 : Lk RX7 193 yX7_bringIn := WS_of 460 (by decide +kernel)
theorem kX7_181 : Lk RX7 181 yX7_ageLoans := WS_of 464 (by decide +kernel)
theorem kX8_227 : Lk RX8 227 yX8_requireOut := WS_of 540 (by decide +kernel)
theorem kX8_173 : Lk RX8 173 yX1_isOut := WS_of 544 (by decide +kernel)
theorem kX8_261 : Lk RX8 261 yX7_staying := WS_of 553 (by decide +kernel)
theorem kX8_264 : Lk RX8 264 yX7_memberInPlace := WS_of 554 (by decide +kernel)
theorem kX7_234 : Lk RX7 234 yX7_countBefore := WS_of 558 (by decide +kernel)
theorem kX7_238 : Lk RX7 238 yX7_isBusier := WS_of 562 (by decide +kernel)
theorem kX7_241 : Lk RX7 241 yX7_isFresher := WS_of 566 (by decide +kernel)
theorem kX8_270 : Lk RX8 270 yX7_everyone := WS_of 578 (by decide +kernel)
theorem kX8_11 : Lk RX8 11 yX7_init := WS_of 629 (by decide +kernel)
theorem fX4_9 : Fk RX4 9 2 0 := ⟨RX4, TX4, tyX4, rfl, by decide, uwX4, WS_of 644 (by decide +kernel), rfl, tyX4_ok, nmX4⟩
theorem fX7_108 : Fk RX7 108 2 0 := ⟨RX4, TX4, tyX4, rfl, by decide, uwX4, WS_of 645 (by decide +kernel), rfl, tyX4_ok, nmX4⟩
theorem fX8_125 : Fk RX8 125 2 0 := ⟨RX4, TX4, tyX4, rfl, by decide, uwX4, WS_of 646 (by decide +kernel), rfl, tyX4_ok, nmX4⟩
theorem fX4_15 : Fk RX4 15 2 1 := ⟨RX4, TX4, tyX4, rfl, by decide, uwX4, WS_of 647 (by decide +kernel), rfl, tyX4_ok, nmX4⟩
theorem fX7_84 : Fk RX7 84 2 1 := ⟨RX4, TX4, tyX4, rfl, by decide, uwX4, WS_of 648 (by decide +kernel), rfl, tyX4_ok, nmX4⟩
theorem fX8_130 : Fk RX8 130 2 1 := ⟨RX4, TX4, tyX4, rfl, by decide, uwX4, WS_of 649 (by decide +kernel), rfl, tyX4_ok, nmX4⟩
theorem fX4_18 : Fk RX4 18 2 2 := ⟨RX4, TX4, tyX4, rfl, by decide, uwX4, WS_of 650 (by decide +kernel), rfl, tyX4_ok, nmX4⟩
theorem fX8_133 : Fk RX8 133 2 2 := ⟨RX4, TX4, tyX4, rfl, by decide, uwX4, WS_of 651 (by decide +kernel), rfl, tyX4_ok, nmX4⟩
theorem fX7_184 : Fk RX7 184 2 2 := ⟨RX4, TX4, tyX4, rfl, by decide, uwX4, WS_of 652 (by decide +kernel), rfl, tyX4_ok, nmX4⟩
theorem fX4_21 : Fk RX4 21 2 3 := ⟨RX4, TX4, tyX4, rfl, by decide, uwX4, WS_of 653 (by decide +kernel), rfl, tyX4_ok, nmX4⟩
theorem fX8_146 : Fk RX8 146 2 3 := ⟨RX4, TX4, tyX4, rfl, by decide, uwX4, WS_of 654 (by decide +kernel), rfl, tyX4_ok, nmX4⟩
theorem fX7_187 : Fk RX7 187 2 3 := ⟨RX4, TX4, tyX4, rfl, by decide, uwX4, WS_of 655 (by decide +kernel), rfl, tyX4_ok, nmX4⟩
theorem fX4_24 : Fk RX4 24 2 4 := ⟨RX4, TX4, tyX4, rfl, by decide, uwX4, WS_of 656 (by decide +kernel), rfl, tyX4_ok, nmX4⟩
theorem fX8_149 : Fk RX8 149 2 4 := ⟨RX4, TX4, tyX4, rfl, by decide, uwX4, WS_of 657 (by decide +kernel), rfl, tyX4_ok, nmX4⟩
theorem fX7_154 : Fk RX7 154 2 4 := ⟨RX4, TX4, tyX4, rfl, by decide, uwX4, WS_of 658 (by decide +kernel), rfl, tyX4_ok, nmX4⟩
theorem fX4_27 : Fk RX4 27 2 5 := ⟨RX4, TX4, tyX4, rfl, by decide, uwX4, WS_of 659 (by decide +kernel), rfl, tyX4_ok, nmX4⟩
theorem fX8_152 : Fk RX8 152 2 5 := ⟨RX4, TX4, tyX4, rfl, by decide, uwX4, WS_of 660 (by decide +kernel), rfl, tyX4_ok, nmX4⟩
theorem fX7_155 : Fk RX7 155 2 5 := ⟨RX4, TX4, tyX4, rfl, by decide, uwX4, WS_of 661 (by decide +kernel), rfl, tyX4_ok, nmX4⟩
theorem fX1_9 : Fk RX1 9 3 0 := ⟨RX1, TX1, tyX1, rfl, by decide, uwX1, WS_of 680 (by decide +kernel), rfl, tyX1_ok, nmX1⟩
theorem fX8_165 : Fk RX8 165 3 0 := ⟨RX1, TX1, tyX1, rfl, by decide, uwX1, WS_of 681 (by decide +kernel), rfl, tyX1_ok, nmX1⟩
theorem fX7_120 : Fk RX7 120 3 0 := ⟨RX1, TX1, tyX1, rfl, by decide, uwX1, WS_of 682 (by decide +kernel), rfl, tyX1_ok, nmX1⟩
theorem fX1_15 : Fk RX1 15 3 1 := ⟨RX1, TX1, tyX1, rfl, by decide, uwX1, WS_of 683 (by decide +kernel), rfl, tyX1_ok, nmX1⟩
theorem fX8_170 : Fk RX8 170 3 1 := ⟨RX1, TX1, tyX1, rfl, by decide, uwX1, WS_of 684 (by decide +kernel), rfl, tyX1_ok, nmX1⟩
theorem fX7_135 : Fk RX7 135 3 1 := ⟨RX1, TX1, tyX1, rfl, by decide, uwX1, WS_of 685 (by decide +kernel), rfl, tyX1_ok, nmX1⟩
theorem fX1_18 : Fk RX1 18 3 2 := ⟨RX1, TX1, tyX1, rfl, by decide, uwX1, WS_of 686 (by decide +kernel), rfl, tyX1_ok, nmX1⟩
theorem fX8_180 : Fk RX8 180 3 2 := ⟨RX1, TX1, tyX1, rfl, by decide, uwX1, WS_of 687 (by decide +kernel), rfl, tyX1_ok, nmX1⟩
theorem fX7_158 : Fk RX7 158 3 2 := ⟨RX1, TX1, tyX1, rfl, by decide, uwX1, WS_of 688 (by decide +kernel), rfl, tyX1_ok, nmX1⟩
theorem fX1_21 : Fk RX1 21 3 3 := ⟨RX1, TX1, tyX1, rfl, by decide, uwX1, WS_of 689 (by decide +kernel), rfl, tyX1_ok, nmX1⟩
theorem fX8_174 : Fk RX8 174 3 3 := ⟨RX1, TX1, tyX1, rfl, by decide, uwX1, WS_of 690 (by decide +kernel), rfl, tyX1_ok, nmX1⟩
theorem fX7_161 : Fk RX7 161 3 3 := ⟨RX1, TX1, tyX1, rfl, by decide, uwX1, WS_of 691 (by decide +kernel), rfl, tyX1_ok, nmX1⟩
theorem fX1_24 : Fk RX1 24 3 4 := ⟨RX1, TX1, tyX1, rfl, by decide, uwX1, WS_of 692 (by decide +kernel), rfl, tyX1_ok, nmX1⟩
theorem fX8_177 : Fk RX8 177 3 4 := ⟨RX1, TX1, tyX1, rfl, by decide, uwX1, WS_of 693 (by decide +kernel), rfl, tyX1_ok, nmX1⟩
theorem fX7_196 : Fk RX7 196 3 4 := ⟨RX1, TX1, tyX1, rfl, by decide, uwX1, WS_of 694 (by decide +kernel), rfl, tyX1_ok, nmX1⟩
theorem fX1_27 : Fk RX1 27 3 5 := ⟨RX1, TX1, tyX1, rfl, by decide, uwX1, WS_of 695 (by decide +kernel), rfl, tyX1_ok, nmX1⟩
theorem fX8_183 : Fk RX8 183 3 5 := ⟨RX1, TX1, tyX1, rfl, by decide, uwX1, WS_of 696 (by decide +kernel), rfl, tyX1_ok, nmX1⟩
theorem fX7_164 : Fk RX7 164 3 5 := ⟨RX1, TX1, tyX1, rfl, by decide, uwX1, WS_of 697 (by decide +kernel), rfl, tyX1_ok, nmX1⟩
theorem fX3_7 : Fk RX3 7 4 0 := ⟨RX3, TX3, tyX3, rfl, by decide, uwX3, WS_of 716 (by decide +kernel), rfl, tyX3_ok, nmX3⟩
theorem fX7_169 : Fk RX7 169 4 0 := ⟨RX3, TX3, tyX3, rfl, by decide, uwX3, WS_of 717 (by decide +kernel), rfl, tyX3_ok, nmX3⟩
theorem fX8_245 : Fk RX8 245 4 0 := ⟨RX3, TX3, tyX3, rfl, by decide, uwX3, WS_of 718 (by decide +kernel), rfl, tyX3_ok, nmX3⟩
theorem fX3_13 : Fk RX3 13 4 1 := ⟨RX3, TX3, tyX3, rfl, by decide, uwX3, WS_of 719 (by decide +kernel), rfl, tyX3_ok, nmX3⟩
theorem fX8_250 : Fk RX8 250 4 1 := ⟨RX3, TX3, tyX3, rfl, by decide, uwX3, WS_of 720 (by decide +kernel), rfl, tyX3_ok, nmX3⟩
theorem fX7_202 : Fk RX7 202 4 1 := ⟨RX3, TX3, tyX3, rfl, by decide, uwX3, WS_of 721 (by decide +kernel), rfl, tyX3_ok, nmX3⟩
theorem fX3_16 : Fk RX3 16 4 2 := ⟨RX3, TX3, tyX3, rfl, by decide, uwX3, WS_of 722 (by decide +kernel), rfl, tyX3_ok, nmX3⟩
theorem fX8_253 : Fk RX8 253 4 2 := ⟨RX3, TX3, tyX3, rfl, by decide, uwX3, WS_of 723 (by decide +kernel), rfl, tyX3_ok, nmX3⟩
theorem fX7_208 : Fk RX7 208 4 2 := ⟨RX3, TX3, tyX3, rfl, by decide, uwX3, WS_of 724 (by decide +kernel), rfl, tyX3_ok, nmX3⟩
theorem fX7_11 : Fk RX7 11 1 0 := ⟨RX7, TX7, tyX7, rfl, by decide, uwX7, WS_of 732 (by decide +kernel), rfl, tyX7_ok, nmX7⟩
theorem fX8_121 : Fk RX8 121 1 0 := ⟨RX7, TX7, tyX7, rfl, by decide, uwX7, WS_of 733 (by decide +kernel), rfl, tyX7_ok, nmX7⟩
theorem fX7_19 : Fk RX7 19 1 1 := ⟨RX7, TX7, tyX7, rfl, by decide, uwX7, WS_of 734 (by decide +kernel), rfl, tyX7_ok, nmX7⟩
theorem fX8_161 : Fk RX8 161 1 1 := ⟨RX7, TX7, tyX7, rfl, by decide, uwX7, WS_of 735 (by decide +kernel), rfl, tyX7_ok, nmX7⟩
theorem fX7_25 : Fk RX7 25 1 2 := ⟨RX7, TX7, tyX7, rfl, by decide, uwX7, WS_of 736 (by decide +kernel), rfl, tyX7_ok, nmX7⟩
theorem fX8_241 : Fk RX8 241 1 2 := ⟨RX7, TX7, tyX7, rfl, by decide, uwX7, WS_of 737 (by decide +kernel), rfl, tyX7_ok, nmX7⟩
theorem fX7_29 : Fk RX7 29 1 3 := ⟨RX7, TX7, tyX7, rfl, by decide, uwX7, WS_of 738 (by decide +kernel), rfl, tyX7_ok, nmX7⟩
theorem fX8_353 : Fk RX8 353 1 3 := ⟨RX7, TX7, tyX7, rfl, by decide, uwX7, WS_of 739 (by decide +kernel), rfl, tyX7_ok, nmX7⟩
theorem fX7_33 : Fk RX7 33 1 4 := ⟨RX7, TX7, tyX7, rfl, by decide, uwX7, WS_of 740 (by decide +kernel), rfl, tyX7_ok, nmX7⟩
theorem fX8_356 : Fk RX8 356 1 4 := ⟨RX7, TX7, tyX7, rfl, by decide, uwX7, WS_of 741 (by decide +kernel), rfl, tyX7_ok, nmX7⟩
theorem fX7_36 : Fk RX7 36 1 5 := ⟨RX7, TX7, tyX7, rfl, by decide, uwX7, WS_of 742 (by decide +kernel), rfl, tyX7_ok, nmX7⟩
theorem fX8_362 : Fk RX8 362 1 5 := ⟨RX7, TX7, tyX7, rfl, by decide, uwX7, WS_of 743 (by decide +kernel), rfl, tyX7_ok, nmX7⟩
theorem fX7_39 : Fk RX7 39 1 6 := ⟨RX7, TX7, tyX7, rfl, by decide, uwX7, WS_of 744 (by decide +kernel), rfl, tyX7_ok, nmX7⟩
theorem fX8_105 : Fk RX8 105 1 6 := ⟨RX7, TX7, tyX7, rfl, by decide, uwX7, WS_of 745 (by decide +kernel), rfl, tyX7_ok, nmX7⟩
theorem fX7_42 : Fk RX7 42 1 7 := ⟨RX7, TX7, tyX7, rfl, by decide, uwX7, WS_of 746 (by decide +kernel), rfl, tyX7_ok, nmX7⟩
theorem fX8_140 : Fk RX8 140 1 7 := ⟨RX7, TX7, tyX7, rfl, by decide, uwX7, WS_of 747 (by decide +kernel), rfl, tyX7_ok, nmX7⟩
theorem fX7_45 : Fk RX7 45 1 8 := ⟨RX7, TX7, tyX7, rfl, by decide, uwX7, WS_of 748 (by decide +kernel), rfl, tyX7_ok, nmX7⟩
theorem fX8_365 : Fk RX8 365 1 8 := ⟨RX7, TX7, tyX7, rfl, by decide, uwX7, WS_of 749 (by decide +kernel), rfl, tyX7_ok, nmX7⟩
theorem fX7_48 : Fk RX7 48 1 9 := ⟨RX7, TX7, tyX7, rfl, by decide, uwX7, WS_of 750 (by decide +kernel), rfl, tyX7_ok, nmX7⟩
theorem fX8_366 : Fk RX8 366 1 9 := ⟨RX7, TX7, tyX7, rfl, by decide, uwX7, WS_of 751 (by decide +kernel), rfl, tyX7_ok, nmX7⟩
theorem fX7_51 : Fk RX7 51 1 10 := ⟨RX7, TX7, tyX7, rfl, by decide, uwX7, WS_of 752 (by decide +kernel), rfl, tyX7_ok, nmX7⟩
theorem fX8_369 : Fk RX8 369 1 10 := ⟨RX7, TX7, tyX7, rfl, by decide, uwX7, WS_of 753 (by decide +kernel), rfl, tyX7_ok, nmX7⟩
theorem fX5_9 : Fk RX5 9 5 0 := ⟨RX5, TX5, tyX5, rfl, by decide, uwX5, WS_of 784 (by decide +kernel), rfl, tyX5_ok, nmX5⟩
theorem fX8_209 : Fk RX8 209 5 0 := ⟨RX5, TX5, tyX5, rfl, by decide, uwX5, WS_of 785 (by decide +kernel), rfl, tyX5_ok, nmX5⟩
theorem fX5_15 : Fk RX5 15 5 1 := ⟨RX5, TX5, tyX5, rfl, by decide, uwX5, WS_of 786 (by decide +kernel), rfl, tyX5_ok, nmX5⟩
theorem fX6_9 : Fk RX6 9 6 0 := ⟨RX6, TX6, tyX6, rfl, by decide, uwX6, WS_of 800 (by decide +kernel), rfl, tyX6_ok, nmX6⟩
theorem fX6_15 : Fk RX6 15 6 1 := ⟨RX6, TX6, tyX6, rfl, by decide, uwX6, WS_of 801 (by decide +kernel), rfl, tyX6_ok, nmX6⟩
theorem fX8_273 : Fk RX8 273 6 1 := ⟨RX6, TX6, tyX6, rfl, by decide, uwX6, WS_of 802 (by decide +kernel), rfl, tyX6_ok, nmX6⟩
theorem fX6_21 : Fk RX6 21 6 2 := ⟨RX6, TX6, tyX6, rfl, by decide, uwX6, WS_of 803 (by decide +kernel), rfl, tyX6_ok, nmX6⟩
theorem fX8_446 : Fk RX8 446 6 2 := ⟨RX6, TX6, tyX6, rfl, by decide, uwX6, WS_of 804 (by decide +kernel), rfl, tyX6_ok, nmX6⟩
theorem fX6_25 : Fk RX6 25 6 3 := ⟨RX6, TX6, tyX6, rfl, by decide, uwX6, WS_of 805 (by decide +kernel), rfl, tyX6_ok, nmX6⟩
theorem fX8_450 : Fk RX8 450 6 3 := ⟨RX6, TX6, tyX6, rfl, by decide, uwX6, WS_of 806 (by decide +kernel), rfl, tyX6_ok, nmX6⟩
theorem fX6_29 : Fk RX6 29 6 4 := ⟨RX6, TX6, tyX6, rfl, by decide, uwX6, WS_of 807 (by decide +kernel), rfl, tyX6_ok, nmX6⟩
theorem fX8_453 : Fk RX8 453 6 4 := ⟨RX6, TX6, tyX6, rfl, by decide, uwX6, WS_of 808 (by decide +kernel), rfl, tyX6_ok, nmX6⟩
theorem fX6_32 : Fk RX6 32 6 5 := ⟨RX6, TX6, tyX6, rfl, by decide, uwX6, WS_of 809 (by decide +kernel), rfl, tyX6_ok, nmX6⟩
theorem fX8_293 : Fk RX8 293 6 5 := ⟨RX6, TX6, tyX6, rfl, by decide, uwX6, WS_of 810 (by decide +kernel), rfl, tyX6_ok, nmX6⟩
theorem fX6_35 : Fk RX6 35 6 6 := ⟨RX6, TX6, tyX6, rfl, by decide, uwX6, WS_of 811 (by decide +kernel), rfl, tyX6_ok, nmX6⟩
theorem kX8_59 : Lk RX8 59 yJ4_init_da8c8 := WS_of 831 (by decide +kernel)
theorem fX8_12 : Fk RX8 12 0 0 := ⟨RX8, TX8, tyX8, rfl, by decide, uwX8, WS_of 860 (by decide +kernel), rfl, tyX8_ok, nmX8⟩
theorem fX8_16 : Fk RX8 16 0 1 := ⟨RX8, TX8, tyX8, rfl, by decide, uwX8, WS_of 861 (by decide +kernel), rfl, tyX8_ok, nmX8⟩
theorem fX8_19 : Fk RX8 19 0 2 := ⟨RX8, TX8, tyX8, rfl, by decide, uwX8, WS_of 862 (by decide +kernel), rfl, tyX8_ok, nmX8⟩
theorem fX8_22 : Fk RX8 22 0 3 := ⟨RX8, TX8, tyX8, rfl, by decide, uwX8, WS_of 863 (by decide +kernel), rfl, tyX8_ok, nmX8⟩
theorem fX8_26 : Fk RX8 26 0 4 := ⟨RX8, TX8, tyX8, rfl, by decide, uwX8, WS_of 864 (by decide +kernel), rfl, tyX8_ok, nmX8⟩
theorem fX8_30 : Fk RX8 30 0 5 := ⟨RX8, TX8, tyX8, rfl, by decide, uwX8, WS_of 865 (by decide +kernel), rfl, tyX8_ok, nmX8⟩
theorem fX8_37 : Fk RX8 37 0 6 := ⟨RX8, TX8, tyX8, rfl, by decide, uwX8, WS_of 866 (by decide +kernel), rfl, tyX8_ok, nmX8⟩
theorem fX8_41 : Fk RX8 41 0 7 := ⟨RX8, TX8, tyX8, rfl, by decide, uwX8, WS_of 867 (by decide +kernel), rfl, tyX8_ok, nmX8⟩
theorem fX8_44 : Fk RX8 44 0 8 := ⟨RX8, TX8, tyX8, rfl, by decide, uwX8, WS_of 868 (by decide +kernel), rfl, tyX8_ok, nmX8⟩
theorem fX8_50 : Fk RX8 50 0 9 := ⟨RX8, TX8, tyX8, rfl, by decide, uwX8, WS_of 869 (by decide +kernel), rfl, tyX8_ok, nmX8⟩
theorem fX8_54 : Fk RX8 54 0 10 := ⟨RX8, TX8, tyX8, rfl, by decide, uwX8, WS_of 870 (by decide +kernel), rfl, tyX8_ok, nmX8⟩
theorem fX8_60 : Fk RX8 60 0 11 := ⟨RX8, TX8, tyX8, rfl, by decide, uwX8, WS_of 871 (by decide +kernel), rfl, tyX8_ok, nmX8⟩
theorem kX8_281 : Lk RX8 281 yX6_add := WS_of 1202 (by decide +kernel)
theorem kX8_285 : Lk RX8 285 yX6_read := WS_of 1215 (by decide +kernel)
theorem kX6_38 : Lk RX6 38 yX6_readCommand := WS_of 1219 (by decide +kernel)
theorem kX6_42 : Lk RX6 42 yX6_readDeed := WS_of 1223 (by decide +kernel)
theorem kX6_49 : Lk RX6 49 yX6_readNumber := WS_of 1229 (by decide +kernel)
theorem kX6_62 : Lk RX6 62 yX6_isDigitNext := WS_of 1233 (by decide +kernel)
theorem kX6_66 : Lk RX6 66 yJ9_max_7cf53 := WS_of 1237 (by decide +kernel)
theorem kX8_290 : Lk RX8 290 yX8_carryOutAll := WS_of 1239 (by decide +kernel)
theorem kX8_296 : Lk RX8 296 yX5_set := WS_of 1243 (by decide +kernel)
theorem kX8_112 : Lk RX8 112 yX7_hasMember := WS_of 1252 (by decide +kernel)
theorem kX8_136 : Lk RX8 136 yX4_isOut := WS_of 1254 (by decide +kernel)
theorem kX8_143 : Lk RX8 143 yX4_isAble := WS_of 1255 (by decide +kernel)
theorem kX8_236 : Lk RX8 236 yX7_hasLoan := WS_of 1270 (by decide +kernel)
theorem kX8_193 : Lk RX8 193 yX8_requireCrew := WS_of 1290 (by decide +kernel)
theorem kX8_468 : Lk RX8 468 yX7_judgeCrew := WS_of 1294 (by decide +kernel)
theorem kX8_196 : Lk RX8 196 yX7_chosenCrew := WS_of 1296 (by decide +kernel)
theorem kX8_199 : Lk RX8 199 yX7_wearinessOf := WS_of 1297 (by decide +kernel)
theorem kX8_202 : Lk RX8 202 yX7_leastWearinessOfAll := WS_of 1315 (by decide +kernel)
theorem kX7_225 : Lk RX7 225 yX7_wearinessOf := WS_of 1319 (by decide +kernel)
theorem kX7_228 : Lk RX7 228 yJ9_min_7cf53 := WS_of 1320 (by decide +kernel)
theorem kX8_230 : Lk RX8 230 yJ9_max_7cf53 := WS_of 1328 (by decide +kernel)
theorem kX8_108 : Lk RX8 108 yX8_heightAt := WS_of 1329 (by decide +kernel)
theorem kX8_189 : Lk RX8 189 yX7_ableMembers := WS_of 1334 (by decide +kernel)
theorem kX8_258 : Lk RX8 258 yX7_freeOars := WS_of 1339 (by decide +kernel)
end
section
theorem uwJ0 : ∀ w ∈ u_ws RJ0 TJ0 4, w ∈ WS := WS_sub [507, 509, 1163, 1165] (by decide +kernel)
theorem oJ6_getChars_ba4f3 : Os yJ6_getChars_ba4f3 cJ6_getChars_ba4f3 7 (some .int) 3 := ⟨(WS_of 1089 (by decide +kernel)), (WS_of 43 (by decide +kernel)), (WS_of 1090 (by decide +kernel)), ⟨by decide +kernel, by decide +kernel, by decide +kernel⟩⟩
theorem oJ6_stringSize_0f7a4 : Os yJ6_stringSize_0f7a4 cJ6_stringSize_0f7a4 4 (some .int) 1 := ⟨(WS_of 1086 (by decide +kernel)), (WS_of 43 (by decide +kernel)), (WS_of 1087 (by decide +kernel)), ⟨by decide +kernel, by decide +kernel, by decide +kernel⟩⟩
theorem oJ6_bitCount_0f7a4 : Os yJ6_bitCount_0f7a4 cJ6_bitCount_0f7a4 1 (some .int) 1 := ⟨(WS_of 174 (by decide +kernel)), (WS_of 43 (by decide +kernel)), (WS_of 175 (by decide +kernel)), ⟨by decide +kernel, by decide +kernel, by decide +kernel⟩⟩
theorem oJ9_max_7cf53 : Os yJ9_max_7cf53 cJ9_max_7cf53 2 (some .int) 2 := ⟨(WS_of 981 (by decide +kernel)), (WS_of 52 (by decide +kernel)), (WS_of 982 (by decide +kernel)), ⟨by decide +kernel, by decide +kernel, by decide +kernel⟩⟩
theorem oJ9_min_7cf53 : Os yJ9_min_7cf53 cJ9_min_7cf53 2 (some .int) 2 := ⟨(WS_of 999 (by decide +kernel)), (WS_of 52 (by decide +kernel)), (WS_of 1000 (by decide +kernel)), ⟨by decide +kernel, by decide +kernel, by decide +kernel⟩⟩
theorem oJ0_length_8abf5 : Oc yJ0_length_8abf5 cJ0_length_8abf5 1 (some .int) 0 := ⟨⟨(WS_of 1036 (by decide +kernel)), (WS_of 1037 (by decide +kernel))⟩, (WS_of 37 (by decide +kernel)), (WS_of 1038 (by decide +kernel)), ⟨by decide +kernel, by decide +kernel, by decide +kernel⟩⟩
theorem oJ0_charAt_5068e : Oc yJ0_charAt_5068e cJ0_charAt_5068e 2 (some .char) 1 := ⟨⟨(WS_of 1174 (by decide +kernel)), (WS_of 1175 (by decide +kernel))⟩, (WS_of 37 (by decide +kernel)), (WS_of 1176 (by decide +kernel)), ⟨by decide +kernel, by decide +kernel, by decide +kernel⟩⟩
theorem oJ0_getBytes_840e7 : Oc yJ0_getBytes_840e7 cJ0_getBytes_840e7 4 none 3 := ⟨⟨(WS_of 1073 (by decide +kernel)), (WS_of 1074 (by decide +kernel))⟩, (WS_of 37 (by decide +kernel)), (WS_of 1075 (by decide +kernel)), ⟨by decide +kernel, by decide +kernel, by decide +kernel⟩⟩
theorem oJ0_coder_7d493 : Oc yJ0_coder_7d493 cJ0_coder_7d493 1 (some .byte) 0 := ⟨⟨(WS_of 1040 (by decide +kernel)), (WS_of 1041 (by decide +kernel))⟩, (WS_of 37 (by decide +kernel)), (WS_of 1042 (by decide +kernel)), ⟨by decide +kernel, by decide +kernel, by decide +kernel⟩⟩
theorem oJ0_isLatin1_aae02 : Oc yJ0_isLatin1_aae02 cJ0_isLatin1_aae02 1 (some .boolean) 0 := ⟨⟨(WS_of 1178 (by decide +kernel)), (WS_of 1179 (by decide +kernel))⟩, (WS_of 37 (by decide +kernel)), (WS_of 1180 (by decide +kernel)), ⟨by decide +kernel, by decide +kernel, by decide +kernel⟩⟩
theorem oJ0_checkIndex_df160 : Os yJ0_checkIndex_df160 cJ0_checkIndex_df160 2 none 2 := ⟨(WS_of 1185 (by decide +kernel)), (WS_of 37 (by decide +kernel)), (WS_of 1186 (by decide +kernel)), ⟨by decide +kernel, by decide +kernel, by decide +kernel⟩⟩
theorem oJ0_checkBoundsOffCount_cabcc : Os yJ0_checkBoundsOffCount_cabcc cJ0_checkBoundsOffCount_cabcc 3 (some .int) 3 := ⟨(WS_of 1067 (by decide +kernel)), (WS_of 37 (by decide +kernel)), (WS_of 1068 (by decide +kernel)), ⟨by decide +kernel, by decide +kernel, by decide +kernel⟩⟩
theorem oJ0_checkBoundsBeginEnd_23922 : Os yJ0_checkBoundsBeginEnd_23922 cJ0_checkBoundsBeginEnd_23922 3 none 3 := ⟨(WS_of 1019 (by decide +kernel)), (WS_of 37 (by decide +kernel)), (WS_of 1020 (by decide +kernel)), ⟨by decide +kernel, by decide +kernel, by decide +kernel⟩⟩
theorem oJ4_append_15ec4 : Oc yJ4_append_15ec4 cJ4_append_15ec4 2 (some (.object "java/lang/StringBuilder")) 1 := ⟨⟨(WS_of 959 (by decide +kernel)), (WS_of 960 (by decide +kernel))⟩, (WS_of 36 (by decide +kernel)), (WS_of 961 (by decide +kernel)), ⟨by decide +kernel, by decide +kernel, by decide +kernel⟩⟩
theorem oJ4_append_bf812 : Oc yJ4_append_bf812 cJ4_append_bf812 2 (some (.object "java/lang/StringBuilder")) 1 := ⟨⟨(WS_of 1079 (by decide +kernel)), (WS_of 1080 (by decide +kernel))⟩, (WS_of 36 (by decide +kernel)), (WS_of 1081 (by decide +kernel)), ⟨by decide +kernel, by decide +kernel, by decide +kernel⟩⟩
theorem oJ4_toString_0e30d : Oc yJ4_toString_0e30d cJ4_toString_0e30d 1 (some (.object "java/lang/String")) 0 := ⟨⟨(WS_of 1106 (by decide +kernel)), (WS_of 1107 (by decide +kernel))⟩, (WS_of 36 (by decide +kernel)), (WS_of 1108 (by decide +kernel)), ⟨by decide +kernel, by decide +kernel, by decide +kernel⟩⟩
theorem oJ1_charAt_3b067 : Os yJ1_charAt_3b067 cJ1_charAt_3b067 2 (some .char) 2 := ⟨(WS_of 1182 (by decide +kernel)), (WS_of 57 (by decide +kernel)), (WS_of 1183 (by decide +kernel)), ⟨by decide +kernel, by decide +kernel, by decide +kernel⟩⟩
theorem oJ1_inflate_0e8fd : Os yJ1_inflate_0e8fd cJ1_inflate_0e8fd 5 none 5 := ⟨(WS_of 1058 (by decide +kernel)), (WS_of 57 (by decide +kernel)), (WS_of 1059 (by decide +kernel)), ⟨by decide +kernel, by decide +kernel, by decide +kernel⟩⟩
theorem oJ7_copyOf_9075b : Os yJ7_copyOf_9075b cJ7_copyOf_9075b 3 (some (.array .byte)) 2 := ⟨(WS_of 989 (by decide +kernel)), (WS_of 54 (by decide +kernel)), (WS_of 990 (by decide +kernel)), ⟨by decide +kernel, by decide +kernel, by decide +kernel⟩⟩
theorem oJ7_checkLength_df160 : Os yJ7_checkLength_df160 cJ7_checkLength_df160 2 none 2 := ⟨(WS_of 1138 (by decide +kernel)), (WS_of 54 (by decide +kernel)), (WS_of 1139 (by decide +kernel)), ⟨by decide +kernel, by decide +kernel, by decide +kernel⟩⟩
theorem oJ7_copyOfRange_39247 : Os yJ7_copyOfRange_39247 cJ7_copyOfRange_39247 3 (some (.array .byte)) 3 := ⟨(WS_of 1132 (by decide +kernel)), (WS_of 54 (by decide +kernel)), (WS_of 1133 (by decide +kernel)), ⟨by decide +kernel, by decide +kernel, by decide +kernel⟩⟩
theorem oJ7_copyOfRangeByte_39247 : Os yJ7_copyOfRangeByte_39247 cJ7_copyOfRangeByte_39247 5 (some (.array .byte)) 3 := ⟨(WS_of 1135 (by decide +kernel)), (WS_of 54 (by decide +kernel)), (WS_of 1136 (by decide +kernel)), ⟨by decide +kernel, by decide +kernel, by decide +kernel⟩⟩
theorem oJ3_checkIndex_8e157 : Os yJ3_checkIndex_8e157 cJ3_checkIndex_8e157 3 (some .int) 3 := ⟨(WS_of 1188 (by decide +kernel)), (WS_of 56 (by decide +kernel)), (WS_of 1189 (by decide +kernel)), ⟨by decide +kernel, by decide +kernel, by decide +kernel⟩⟩
theorem oJ3_checkFromToIndex_8c36e : Os yJ3_checkFromToIndex_8c36e cJ3_checkFromToIndex_8c36e 4 (some .int) 4 := ⟨(WS_of 1024 (by decide +kernel)), (WS_of 56 (by decide +kernel)), (WS_of 1025 (by decide +kernel)), ⟨by decide +kernel, by decide +kernel, by decide +kernel⟩⟩
theorem oJ3_checkFromIndexSize_8c36e : Os yJ3_checkFromIndexSize_8c36e cJ3_checkFromIndexSize_8c36e 4 (some .int) 4 := ⟨(WS_of 1070 (by decide +kernel)), (WS_of 56 (by decide +kernel)), (WS_of 1071 (by decide +kernel)), ⟨by decide +kernel, by decide +kernel, by decide +kernel⟩⟩
theorem oL_cell : Os yL_cell cL_cell 3 (some .int) 2 := ⟨(WS_of 615 (by decide +kernel)), (WS_of 27 (by decide +kernel)), (WS_of 616 (by decide +kernel)), ⟨by decide +kernel, by decide +kernel, by decide +kernel⟩⟩
theorem oL_in : Os yL_in cL_in 3 (some .int) 3 := ⟨(WS_of 612 (by decide +kernel)), (WS_of 27 (by decide +kernel)), (WS_of 613 (by decide +kernel)), ⟨by decide +kernel, by decide +kernel, by decide +kernel⟩⟩
theorem oL_does : Os yL_does cL_does 4 (some .int) 2 := ⟨(WS_of 1170 (by decide +kernel)), (WS_of 27 (by decide +kernel)), (WS_of 1171 (by decide +kernel)), ⟨by decide +kernel, by decide +kernel, by decide +kernel⟩⟩
theorem oL_bits : Os yL_bits cL_bits 1 (some .int) 1 := ⟨(WS_of 1280 (by decide +kernel)), (WS_of 27 (by decide +kernel)), (WS_of 1281 (by decide +kernel)), ⟨by decide +kernel, by decide +kernel, by decide +kernel⟩⟩
theorem oL_begun : Os yL_begun cL_begun 4 (some (.object "BoatRota")) 1 := ⟨(WS_of 621 (by decide +kernel)), (WS_of 27 (by decide +kernel)), (WS_of 622 (by decide +kernel)), ⟨by decide +kernel, by decide +kernel, by decide +kernel⟩⟩
theorem oL_acts : Os yL_acts cL_acts 5 (some .int) 3 := ⟨(WS_of 926 (by decide +kernel)), (WS_of 27 (by decide +kernel)), (WS_of 927 (by decide +kernel)), ⟨by decide +kernel, by decide +kernel, by decide +kernel⟩⟩
theorem oL_seen : Os yL_seen cL_seen 4 (some (.array .int)) 1 := ⟨(WS_of 1246 (by decide +kernel)), (WS_of 27 (by decide +kernel)), (WS_of 1247 (by decide +kernel)), ⟨by decide +kernel, by decide +kernel, by decide +kernel⟩⟩
theorem oL_areAlike : Os yL_areAlike cL_areAlike 3 (some .boolean) 2 := ⟨(WS_of 1274 (by decide +kernel)), (WS_of 27 (by decide +kernel)), (WS_of 1275 (by decide +kernel)), ⟨by decide +kernel, by decide +kernel, by decide +kernel⟩⟩
theorem kL_232 : Lk RL 232 yX8_wouldRefuse := WS_of 59 (by decide +kernel)
theorem kL_166 : Lk RL 166 yX8_account := WS_of 213 (by decide +kernel)
theorem kL_223 : Lk RL 223 yX8_save := WS_of 243 (by decide +kernel)
theorem kL_132 : Lk RL 132 yL_call := WS_of 263 (by decide +kernel)
theorem kL_28 : Lk RL 28 yX8_call := WS_of 267 (by decide +kernel)
theorem kL_128 : Lk RL 128 yL_limit := WS_of 469 (by decide +kernel)
theorem kL_37 : Lk RL 37 yX8_limit := WS_of 472 (by decide +kernel)
theorem kL_130 : Lk RL 130 yL_pass := WS_of 478 (by decide +kernel)
theorem kL_40 : Lk RL 40 yX8_pass := WS_of 481 (by decide +kernel)
theorem kL_226 : Lk RL 226 yL_callableIn := WS_of 487 (by decide +kernel)
theorem kL_57 : Lk RL 57 yX8_callableIn := WS_of 512 (by decide +kernel)
theorem kL_190 : Lk RL 190 yL_homeIn := WS_of 533 (by decide +kernel)
theorem kL_60 : Lk RL 60 yX8_homeIn := WS_of 536 (by decide +kernel)
theorem kL_228 : Lk RL 228 yL_least := WS_of 546 (by decide +kernel)
theorem kL_66 : Lk RL 66 yX8_least := WS_of 549 (by decide +kernel)
theorem kL_230 : Lk RL 230 yL_busiest := WS_of 571 (by decide +kernel)
theorem kL_69 : Lk RL 69 yX8_busiest := WS_of 574 (by decide +kernel)
theorem kL_221 : Lk RL 221 yL_undo := WS_of 579 (by decide +kernel)
theorem kL_78 : Lk RL 78 yX8_undo := WS_of 583 (by decide +kernel)
theorem kL_235 : Lk RL 235 yL_restore := WS_of 603 (by decide +kernel)
theorem kL_83 : Lk RL 83 yX8_restore := WS_of 606 (by decide +kernel)
theorem kL_116 : Lk RL 116 yL_in := WS_of 611 (by decide +kernel)
theorem kL_86 : Lk RL 86 yL_cell := WS_of 614 (by decide +kernel)
theorem kL_200 : Lk RL 200 yL_begun := WS_of 620 (by decide +kernel)
theorem kL_115 : Lk RL 115 yX8_init := WS_of 624 (by decide +kernel)
theorem kJ4_1 : Lk RJ4 1 yJ5_init_d00df := WS_of 834 (by decide +kernel)
theorem kL_120 : Lk RL 120 yL_member := WS_of 897 (by decide +kernel)
theorem kL_9 : Lk RL 9 yX8_member := WS_of 900 (by decide +kernel)
theorem kL_123 : Lk RL 123 yL_boat := WS_of 906 (by decide +kernel)
theorem kL_24 : Lk RL 24 yX8_boat := WS_of 909 (by decide +kernel)
theorem kL_126 : Lk RL 126 yL_borrow := WS_of 915 (by decide +kernel)
theorem kL_31 : Lk RL 31 yX8_borrow := WS_of 918 (by decide +kernel)
theorem kL_212 : Lk RL 212 yL_acts := WS_of 925 (by decide +kernel)
theorem kL_135 : Lk RL 135 yL_leave := WS_of 928 (by decide +kernel)
theorem kL_18 : Lk RL 18 yX8_leave := WS_of 931 (by decide +kernel)
theorem kL_137 : Lk RL 137 yL_train := WS_of 937 (by decide +kernel)
theorem kL_21 : Lk RL 21 yX8_train := WS_of 940 (by decide +kernel)
theorem kL_139 : Lk RL 139 yL_giveBack := WS_of 946 (by decide +kernel)
theorem kL_34 : Lk RL 34 yX8_giveBack := WS_of 949 (by decide +kernel)
theorem kL_143 : Lk RL 143 yJ4_init_da8c8 := WS_of 956 (by decide +kernel)
theorem kL_146 : Lk RL 146 yJ4_append_15ec4 := WS_of 958 (by decide +kernel)
theorem kJ4_29 : Lk RJ4 29 yJ5_append_cf1ce := WS_of 962 (by decide +kernel)
theorem kJ5_204 : Lk RJ5 204 yJ5_appendNull_278bc := WS_of 965 (by decide +kernel)
theorem kJ5_100 : Lk RJ5 100 yJ5_ensureCapacityInternal_d00df := WS_of 969 (by decide +kernel)
theorem kJ5_104 : Lk RJ5 104 yJ5_newCapacity_0f7a4 := WS_of 973 (by decide +kernel)
theorem kJ5_108 : Lk RJ5 108 yJ7_copyOf_9075b := WS_of 988 (by decide +kernel)
theorem kJ7_304 : Lk RJ7 304 yJ9_min_7cf53 := WS_of 998 (by decide +kernel)
theorem kJ5_83 : Lk RJ5 83 yJ5_isLatin1_aae02 := WS_of 1004 (by decide +kernel)
theorem kJ0_1062 : Lk RJ0 1062 yJ3_checkFromToIndex_8c36e := WS_of 1023 (by decide +kernel)
theorem kJ5_32 : Lk RJ5 32 yJ0_length_8abf5 := WS_of 1035 (by decide +kernel)
theorem kJ0_335 : Lk RJ0 335 yJ0_coder_7d493 := WS_of 1039 (by decide +kernel)
theorem kJ5_208 : Lk RJ5 208 yJ5_putStringAt_47b60 := WS_of 1044 (by decide +kernel)
theorem kJ5_397 : Lk RJ5 397 yJ5_inflateIfNeededFor_a7421 := WS_of 1048 (by decide +kernel)
theorem kJ5_40 : Lk RJ5 40 yJ0_coder_7d493 := WS_of 1052 (by decide +kernel)
theorem kJ5_195 : Lk RJ5 195 yJ5_inflate_da8c8 := WS_of 1053 (by decide +kernel)
theorem kJ5_125 : Lk RJ5 125 yJ1_inflate_0e8fd := WS_of 1057 (by decide +kernel)
theorem kJ0_1065 : Lk RJ0 1065 yJ3_checkFromIndexSize_8c36e := WS_of 1069 (by decide +kernel)
theorem kJ5_399 : Lk RJ5 399 yJ0_getBytes_840e7 := WS_of 1072 (by decide +kernel)
theorem kJ0_106 : Lk RJ0 106 yJ1_inflate_0e8fd := WS_of 1077 (by decide +kernel)
theorem kL_149 : Lk RL 149 yJ4_append_bf812 := WS_of 1078 (by decide +kernel)
theorem kJ4_53 : Lk RJ4 53 yJ5_append_c97b9 := WS_of 1082 (by decide +kernel)
theorem kJ5_245 : Lk RJ5 245 yJ6_stringSize_0f7a4 := WS_of 1085 (by decide +kernel)
theorem kJ5_248 : Lk RJ5 248 yJ6_getChars_ba4f3 := WS_of 1088 (by decide +kernel)
theorem kL_156 : Lk RL 156 yJ4_toString_0e30d := WS_of 1105 (by decide +kernel)
theorem kJ4_137 : Lk RJ4 137 yJ0_init_81219 := WS_of 1110 (by decide +kernel)
theorem kJ0_489 : Lk RJ0 489 yJ0_init_db425 := WS_of 1113 (by decide +kernel)
theorem kJ0_552 : Lk RJ0 552 yJ5_getValue_6d5f1 := WS_of 1117 (by decide +kernel)
theorem kJ0_549 : Lk RJ0 549 yJ5_length_8abf5 := WS_of 1122 (by decide +kernel)
theorem kJ4_343 : Lk RJ4 343 yJ5_length_8abf5 := WS_of 1128 (by decide +kernel)
theorem kJ0_1047 : Lk RJ0 1047 yJ5_isLatin1_aae02 := WS_of 1130 (by decide +kernel)
theorem kJ0_54 : Lk RJ0 54 yJ7_copyOfRange_39247 := WS_of 1131 (by decide +kernel)
theorem kJ7_339 : Lk RJ7 339 yJ7_copyOfRangeByte_39247 := WS_of 1134 (by decide +kernel)
theorem kJ7_343 : Lk RJ7 343 yJ7_checkLength_df160 := WS_of 1137 (by decide +kernel)
theorem kJ7_47 : Lk RJ7 47 yJ4_init_da8c8 := WS_of 1142 (by decide +kernel)
theorem kJ7_54 : Lk RJ7 54 yJ4_append_bf812 := WS_of 1143 (by decide +kernel)
theorem kJ7_50 : Lk RJ7 50 yJ4_append_15ec4 := WS_of 1145 (by decide +kernel)
theorem kJ7_61 : Lk RJ7 61 yJ4_toString_0e30d := WS_of 1146 (by decide +kernel)
theorem fJ0_9 : Fk RJ0 9 7 0 := ⟨RJ0, TJ0, tyJ0, rfl, by decide, uwJ0, WS_of 1161 (by decide +kernel), rfl, tyJ0_ok, nmJ0⟩
theorem fJ0_15 : Fk RJ0 15 7 1 := ⟨RJ0, TJ0, tyJ0, rfl, by decide, uwJ0, WS_of 1162 (by decide +kernel), rfl, tyJ0_ok, nmJ0⟩
theorem kL_162 : Lk RL 162 yL_does := WS_of 1169 (by decide +kernel)
theorem kL_93 : Lk RL 93 yJ0_length_8abf5 := WS_of 1172 (by decide +kernel)
theorem kL_98 : Lk RL 98 yJ0_charAt_5068e := WS_of 1173 (by decide +kernel)
theorem kJ0_492 : Lk RJ0 492 yJ0_isLatin1_aae02 := WS_of 1177 (by decide +kernel)
theorem kJ0_495 : Lk RJ0 495 yJ1_charAt_3b067 := WS_of 1181 (by decide +kernel)
theorem kJ1_9 : Lk RJ1 9 yJ0_checkIndex_df160 := WS_of 1184 (by decide +kernel)
theorem kJ0_1059 : Lk RJ0 1059 yJ3_checkIndex_8e157 := WS_of 1187 (by decide +kernel)
theorem kL_102 : Lk RL 102 yX8_append := WS_of 1197 (by decide +kernel)
theorem kL_107 : Lk RL 107 yL_commands := WS_of 1207 (by decide +kernel)
theorem kL_72 : Lk RL 72 yX8_commands := WS_of 1211 (by decide +kernel)
theorem kL_208 : Lk RL 208 yL_seen := WS_of 1245 (by decide +kernel)
theorem kL_169 : Lk RL 169 yX8_memberOf := WS_of 1248 (by decide +kernel)
theorem kL_172 : Lk RL 172 yX8_boatOf := WS_of 1257 (by decide +kernel)
theorem kL_175 : Lk RL 175 yX8_crew := WS_of 1262 (by decide +kernel)
theorem kL_178 : Lk RL 178 yX8_loanOf := WS_of 1266 (by decide +kernel)
theorem kL_217 : Lk RL 217 yL_areAlike := WS_of 1273 (by decide +kernel)
theorem kL_204 : Lk RL 204 yL_isWell := WS_of 1276 (by decide +kernel)
theorem kL_181 : Lk RL 181 yL_bits := WS_of 1279 (by decide +kernel)
theorem kL_110 : Lk RL 110 yJ6_bitCount_0f7a4 := WS_of 1282 (by decide +kernel)
theorem kL_184 : Lk RL 184 yL_weariness := WS_of 1283 (by decide +kernel)
theorem kL_51 : Lk RL 51 yX8_weariness := WS_of 1286 (by decide +kernel)
theorem kL_186 : Lk RL 186 yL_wouldGo := WS_of 1301 (by decide +kernel)
theorem kL_43 : Lk RL 43 yX8_wouldGo := WS_of 1304 (by decide +kernel)
theorem kL_188 : Lk RL 188 yL_wearinessAgain := WS_of 1308 (by decide +kernel)
theorem kL_54 : Lk RL 54 yX8_wearinessAgain := WS_of 1311 (by decide +kernel)
theorem kL_192 : Lk RL 192 yL_homeInAgain := WS_of 1321 (by decide +kernel)
theorem kL_63 : Lk RL 63 yX8_homeInAgain := WS_of 1324 (by decide +kernel)
theorem kL_194 : Lk RL 194 yX8_able := WS_of 1330 (by decide +kernel)
theorem kL_197 : Lk RL 197 yX8_free := WS_of 1335 (by decide +kernel)
end
section
/-! the word of a long method's code -/
theorem WS_at {w : Cond} (i : Nat) (h : lw_tbl[i]? = some w) (hg : goodWord w = true) : w ∈ WS := List.mem_filter.mpr ⟨List.mem_of_getElem? h, hg⟩
set_option maxRecDepth 100000 in
set_option maxHeartbeats 4000000 in
theorem wL_isWell : Cond.code yL_isWell cL_isWell 15 (some .boolean) ∈ WS := WS_at 1278 (by rfl) (by rfl)
theorem oL_isWell : Os yL_isWell cL_isWell 15 (some .boolean) 1 := ⟨WS_of 1277 (by decide +kernel), WS_of 27 (by decide +kernel), wL_isWell, ⟨by decide +kernel, by decide +kernel, by decide +kernel⟩⟩
end
