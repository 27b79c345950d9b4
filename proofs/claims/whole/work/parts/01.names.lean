-- ===== PART A: goes FIRST, ahead of the names: the tables' words, and 'selects' of the private methods out of them =====
/-- a private method of a class that the tables say can be made, by its rows of tables_1 -/
def lw_okq (q : MethodName × Nat) : Prop := (q.1.cls ≠ "java/lang/invoke/MethodHandle" ∧ q.1.cls ≠ "java/lang/invoke/VarHandle") ∧ Cond.instantiable q.1.cls q.2 ∈ tables_1 ∧ Cond.privateMethod q.1 ∈ tables_1 ∧ Cond.instanceMethod q.1 ∈ tables_1
theorem lw_p0 : lw_okq (⟨"BoatRota", "change", "(LBoatRota$Deed;II)I"⟩, 12) := ⟨⟨by decide +kernel, by decide +kernel⟩, List.mem_of_getElem? (i := 36) (by decide +kernel), List.mem_of_getElem? (i := 393) (by decide +kernel), List.mem_of_getElem? (i := 394) (by decide +kernel)⟩
theorem lw_p1 : lw_okq (⟨"BoatRota", "judge", "(LBoatRota$Deed;II)V"⟩, 12) := ⟨⟨by decide +kernel, by decide +kernel⟩, List.mem_of_getElem? (i := 36) (by decide +kernel), List.mem_of_getElem? (i := 397) (by decide +kernel), List.mem_of_getElem? (i := 398) (by decide +kernel)⟩
theorem lw_p2 : lw_okq (⟨"BoatRota$Station", "skilledMembers", "(I)I"⟩, 11) := ⟨⟨by decide +kernel, by decide +kernel⟩, List.mem_of_getElem? (i := 44) (by decide +kernel), List.mem_of_getElem? (i := 469) (by decide +kernel), List.mem_of_getElem? (i := 470) (by decide +kernel)⟩
theorem lw_p3 : lw_okq (⟨"java/lang/Throwable", "fillInStackTrace", "(I)Ljava/lang/Throwable;"⟩, 6) := ⟨⟨by decide +kernel, by decide +kernel⟩, List.mem_of_getElem? (i := 547) (by decide +kernel), List.mem_of_getElem? (i := 545) (by decide +kernel), List.mem_of_getElem? (i := 546) (by decide +kernel)⟩
theorem lw_p4 : lw_okq (⟨"BoatRota", "remember", "(LBoatRota$Station;)V"⟩, 12) := ⟨⟨by decide +kernel, by decide +kernel⟩, List.mem_of_getElem? (i := 36) (by decide +kernel), List.mem_of_getElem? (i := 576) (by decide +kernel), List.mem_of_getElem? (i := 577) (by decide +kernel)⟩
theorem lw_p5 : lw_okq (⟨"BoatRota", "forgetOldest", "()V"⟩, 12) := ⟨⟨by decide +kernel, by decide +kernel⟩, List.mem_of_getElem? (i := 36) (by decide +kernel), List.mem_of_getElem? (i := 580) (by decide +kernel), List.mem_of_getElem? (i := 581) (by decide +kernel)⟩
theorem lw_p6 : lw_okq (⟨"BoatRota", "carryOut", "(LBoatRota$Deed;II)I"⟩, 12) := ⟨⟨by decide +kernel, by decide +kernel⟩, List.mem_of_getElem? (i := 36) (by decide +kernel), List.mem_of_getElem? (i := 584) (by decide +kernel), List.mem_of_getElem? (i := 585) (by decide +kernel)⟩
theorem lw_p7 : lw_okq (⟨"BoatRota$Station", "chosenCoxswain", "()I"⟩, 11) := ⟨⟨by decide +kernel, by decide +kernel⟩, List.mem_of_getElem? (i := 44) (by decide +kernel), List.mem_of_getElem? (i := 628) (by decide +kernel), List.mem_of_getElem? (i := 629) (by decide +kernel)⟩
theorem lw_p8 : lw_okq (⟨"BoatRota$Station", "leastWearyOf", "(I)I"⟩, 11) := ⟨⟨by decide +kernel, by decide +kernel⟩, List.mem_of_getElem? (i := 44) (by decide +kernel), List.mem_of_getElem? (i := 632) (by decide +kernel), List.mem_of_getElem? (i := 633) (by decide +kernel)⟩
theorem lw_p9 : lw_okq (⟨"BoatRota$Station", "filledUp", "(III)I"⟩, 11) := ⟨⟨by decide +kernel, by decide +kernel⟩, List.mem_of_getElem? (i := 44) (by decide +kernel), List.mem_of_getElem? (i := 640) (by decide +kernel), List.mem_of_getElem? (i := 641) (by decide +kernel)⟩
theorem lw_p10 : lw_okq (⟨"BoatRota$Station", "removeLoan", "(I)V"⟩, 11) := ⟨⟨by decide +kernel, by decide +kernel⟩, List.mem_of_getElem? (i := 44) (by decide +kernel), List.mem_of_getElem? (i := 659) (by decide +kernel), List.mem_of_getElem? (i := 660) (by decide +kernel)⟩
theorem lw_p11 : lw_okq (⟨"BoatRota$Station", "tireMembers", "()V"⟩, 11) := ⟨⟨by decide +kernel, by decide +kernel⟩, List.mem_of_getElem? (i := 44) (by decide +kernel), List.mem_of_getElem? (i := 671) (by decide +kernel), List.mem_of_getElem? (i := 672) (by decide +kernel)⟩
theorem lw_p12 : lw_okq (⟨"BoatRota$Station", "sailBoats", "()V"⟩, 11) := ⟨⟨by decide +kernel, by decide +kernel⟩, List.mem_of_getElem? (i := 44) (by decide +kernel), List.mem_of_getElem? (i := 675) (by decide +kernel), List.mem_of_getElem? (i := 676) (by decide +kernel)⟩
theorem lw_p13 : lw_okq (⟨"BoatRota$Station", "sailBoat", "(I)V"⟩, 11) := ⟨⟨by decide +kernel, by decide +kernel⟩, List.mem_of_getElem? (i := 44) (by decide +kernel), List.mem_of_getElem? (i := 679) (by decide +kernel), List.mem_of_getElem? (i := 680) (by decide +kernel)⟩
theorem lw_p14 : lw_okq (⟨"BoatRota$Station", "bringIn", "(I)V"⟩, 11) := ⟨⟨by decide +kernel, by decide +kernel⟩, List.mem_of_getElem? (i := 44) (by decide +kernel), List.mem_of_getElem? (i := 683) (by decide +kernel), List.mem_of_getElem? (i := 684) (by decide +kernel)⟩
theorem lw_p15 : lw_okq (⟨"BoatRota$Station", "ageLoans", "()V"⟩, 11) := ⟨⟨by decide +kernel, by decide +kernel⟩, List.mem_of_getElem? (i := 44) (by decide +kernel), List.mem_of_getElem? (i := 687) (by decide +kernel), List.mem_of_getElem? (i := 688) (by decide +kernel)⟩
def lw_privs_1 : List (MethodName × Nat) := [(⟨"BoatRota", "change", "(LBoatRota$Deed;II)I"⟩, 12), (⟨"BoatRota", "judge", "(LBoatRota$Deed;II)V"⟩, 12), (⟨"BoatRota$Station", "skilledMembers", "(I)I"⟩, 11), (⟨"java/lang/Throwable", "fillInStackTrace", "(I)Ljava/lang/Throwable;"⟩, 6), (⟨"BoatRota", "remember", "(LBoatRota$Station;)V"⟩, 12), (⟨"BoatRota", "forgetOldest", "()V"⟩, 12), (⟨"BoatRota", "carryOut", "(LBoatRota$Deed;II)I"⟩, 12), (⟨"BoatRota$Station", "chosenCoxswain", "()I"⟩, 11), (⟨"BoatRota$Station", "leastWearyOf", "(I)I"⟩, 11), (⟨"BoatRota$Station", "filledUp", "(III)I"⟩, 11), (⟨"BoatRota$Station", "removeLoan", "(I)V"⟩, 11), (⟨"BoatRota$Station", "tireMembers", "()V"⟩, 11), (⟨"BoatRota$Station", "sailBoats", "()V"⟩, 11), (⟨"BoatRota$Station", "sailBoat", "(I)V"⟩, 11), (⟨"BoatRota$Station", "bringIn", "(I)V"⟩, 11), (⟨"BoatRota$Station", "ageLoans", "()V"⟩, 11)]
theorem lw_r1 : ∀ q ∈ lw_privs_1, lw_okq q := List.forall_mem_cons.mpr ⟨lw_p0, List.forall_mem_cons.mpr ⟨lw_p1, List.forall_mem_cons.mpr ⟨lw_p2, List.forall_mem_cons.mpr ⟨lw_p3, List.forall_mem_cons.mpr ⟨lw_p4, List.forall_mem_cons.mpr ⟨lw_p5, List.forall_mem_cons.mpr ⟨lw_p6, List.forall_mem_cons.mpr ⟨lw_p7, List.forall_mem_cons.mpr ⟨lw_p8, List.forall_mem_cons.mpr ⟨lw_p9, List.forall_mem_cons.mpr ⟨lw_p10, List.forall_mem_cons.mpr ⟨lw_p11, List.forall_mem_cons.mpr ⟨lw_p12, List.forall_mem_cons.mpr ⟨lw_p13, List.forall_mem_cons.mpr ⟨lw_p14, List.forall_mem_cons.mpr ⟨lw_p15, fun _ h => absurd h List.not_mem_nil⟩⟩⟩⟩⟩⟩⟩⟩⟩⟩⟩⟩⟩⟩⟩⟩
theorem lw_p16 : lw_okq (⟨"BoatRota", "requireBoat", "(I)V"⟩, 12) := ⟨⟨by decide +kernel, by decide +kernel⟩, List.mem_of_getElem? (i := 36) (by decide +kernel), List.mem_of_getElem? (i := 843) (by decide +kernel), List.mem_of_getElem? (i := 844) (by decide +kernel)⟩
theorem lw_p17 : lw_okq (⟨"BoatRota", "requireCrew", "(I)V"⟩, 12) := ⟨⟨by decide +kernel, by decide +kernel⟩, List.mem_of_getElem? (i := 36) (by decide +kernel), List.mem_of_getElem? (i := 867) (by decide +kernel), List.mem_of_getElem? (i := 868) (by decide +kernel)⟩
theorem lw_p18 : lw_okq (⟨"BoatRota", "requireOut", "(I)V"⟩, 12) := ⟨⟨by decide +kernel, by decide +kernel⟩, List.mem_of_getElem? (i := 36) (by decide +kernel), List.mem_of_getElem? (i := 937) (by decide +kernel), List.mem_of_getElem? (i := 938) (by decide +kernel)⟩
theorem lw_p19 : lw_okq (⟨"BoatRota$Station", "countBefore", "(IIZ)I"⟩, 11) := ⟨⟨by decide +kernel, by decide +kernel⟩, List.mem_of_getElem? (i := 44) (by decide +kernel), List.mem_of_getElem? (i := 974) (by decide +kernel), List.mem_of_getElem? (i := 975) (by decide +kernel)⟩
theorem lw_p20 : lw_okq (⟨"BoatRota$Station", "isBusier", "(II)Z"⟩, 11) := ⟨⟨by decide +kernel, by decide +kernel⟩, List.mem_of_getElem? (i := 44) (by decide +kernel), List.mem_of_getElem? (i := 978) (by decide +kernel), List.mem_of_getElem? (i := 979) (by decide +kernel)⟩
theorem lw_p21 : lw_okq (⟨"BoatRota$Station", "isFresher", "(II)Z"⟩, 11) := ⟨⟨by decide +kernel, by decide +kernel⟩, List.mem_of_getElem? (i := 44) (by decide +kernel), List.mem_of_getElem? (i := 982) (by decide +kernel), List.mem_of_getElem? (i := 983) (by decide +kernel)⟩
theorem lw_p22 : lw_okq (⟨"BoatRota$Script", "readCommand", "(I)Z"⟩, 7) := ⟨⟨by decide +kernel, by decide +kernel⟩, List.mem_of_getElem? (i := 210) (by decide +kernel), List.mem_of_getElem? (i := 1034) (by decide +kernel), List.mem_of_getElem? (i := 1035) (by decide +kernel)⟩
theorem lw_p23 : lw_okq (⟨"BoatRota$Script", "readDeed", "()LBoatRota$Deed;"⟩, 7) := ⟨⟨by decide +kernel, by decide +kernel⟩, List.mem_of_getElem? (i := 210) (by decide +kernel), List.mem_of_getElem? (i := 1038) (by decide +kernel), List.mem_of_getElem? (i := 1039) (by decide +kernel)⟩
theorem lw_p24 : lw_okq (⟨"BoatRota$Script", "readNumber", "(I)I"⟩, 7) := ⟨⟨by decide +kernel, by decide +kernel⟩, List.mem_of_getElem? (i := 210) (by decide +kernel), List.mem_of_getElem? (i := 1044) (by decide +kernel), List.mem_of_getElem? (i := 1045) (by decide +kernel)⟩
theorem lw_p25 : lw_okq (⟨"BoatRota$Script", "isDigitNext", "()Z"⟩, 7) := ⟨⟨by decide +kernel, by decide +kernel⟩, List.mem_of_getElem? (i := 210) (by decide +kernel), List.mem_of_getElem? (i := 1048) (by decide +kernel), List.mem_of_getElem? (i := 1049) (by decide +kernel)⟩
theorem lw_p26 : lw_okq (⟨"BoatRota", "carryOutAll", "()I"⟩, 12) := ⟨⟨by decide +kernel, by decide +kernel⟩, List.mem_of_getElem? (i := 36) (by decide +kernel), List.mem_of_getElem? (i := 1054) (by decide +kernel), List.mem_of_getElem? (i := 1055) (by decide +kernel)⟩
theorem lw_p27 : lw_okq (⟨"BoatRota", "writeCrew", "(II)V"⟩, 12) := ⟨⟨by decide +kernel, by decide +kernel⟩, List.mem_of_getElem? (i := 36) (by decide +kernel), List.mem_of_getElem? (i := 1351) (by decide +kernel), List.mem_of_getElem? (i := 1352) (by decide +kernel)⟩
theorem lw_p28 : lw_okq (⟨"BoatRotaModel", "keeps", "()V"⟩, 20) := ⟨⟨by decide +kernel, by decide +kernel⟩, List.mem_of_getElem? (i := 1428) (by decide +kernel), List.mem_of_getElem? (i := 1503) (by decide +kernel), List.mem_of_getElem? (i := 1504) (by decide +kernel)⟩
theorem lw_p29 : lw_okq (⟨"BoatRotaModel", "comes", "(I)I"⟩, 20) := ⟨⟨by decide +kernel, by decide +kernel⟩, List.mem_of_getElem? (i := 1428) (by decide +kernel), List.mem_of_getElem? (i := 1510) (by decide +kernel), List.mem_of_getElem? (i := 1511) (by decide +kernel)⟩
theorem lw_p30 : lw_okq (⟨"BoatRotaModel", "isOutside", "(Z)Z"⟩, 20) := ⟨⟨by decide +kernel, by decide +kernel⟩, List.mem_of_getElem? (i := 1428) (by decide +kernel), List.mem_of_getElem? (i := 1517) (by decide +kernel), List.mem_of_getElem? (i := 1518) (by decide +kernel)⟩
theorem lw_p31 : lw_okq (⟨"BoatRotaModel", "isRefused", "(ZII)Z"⟩, 20) := ⟨⟨by decide +kernel, by decide +kernel⟩, List.mem_of_getElem? (i := 1428) (by decide +kernel), List.mem_of_getElem? (i := 1521) (by decide +kernel), List.mem_of_getElem? (i := 1522) (by decide +kernel)⟩
def lw_privs_2 : List (MethodName × Nat) := [(⟨"BoatRota", "requireBoat", "(I)V"⟩, 12), (⟨"BoatRota", "requireCrew", "(I)V"⟩, 12), (⟨"BoatRota", "requireOut", "(I)V"⟩, 12), (⟨"BoatRota$Station", "countBefore", "(IIZ)I"⟩, 11), (⟨"BoatRota$Station", "isBusier", "(II)Z"⟩, 11), (⟨"BoatRota$Station", "isFresher", "(II)Z"⟩, 11), (⟨"BoatRota$Script", "readCommand", "(I)Z"⟩, 7), (⟨"BoatRota$Script", "readDeed", "()LBoatRota$Deed;"⟩, 7), (⟨"BoatRota$Script", "readNumber", "(I)I"⟩, 7), (⟨"BoatRota$Script", "isDigitNext", "()Z"⟩, 7), (⟨"BoatRota", "carryOutAll", "()I"⟩, 12), (⟨"BoatRota", "writeCrew", "(II)V"⟩, 12), (⟨"BoatRotaModel", "keeps", "()V"⟩, 20), (⟨"BoatRotaModel", "comes", "(I)I"⟩, 20), (⟨"BoatRotaModel", "isOutside", "(Z)Z"⟩, 20), (⟨"BoatRotaModel", "isRefused", "(ZII)Z"⟩, 20)]
theorem lw_r2 : ∀ q ∈ lw_privs_2, lw_okq q := List.forall_mem_cons.mpr ⟨lw_p16, List.forall_mem_cons.mpr ⟨lw_p17, List.forall_mem_cons.mpr ⟨lw_p18, List.forall_mem_cons.mpr ⟨lw_p19, List.forall_mem_cons.mpr ⟨lw_p20, List.forall_mem_cons.mpr ⟨lw_p21, List.forall_mem_cons.mpr ⟨lw_p22, List.forall_mem_cons.mpr ⟨lw_p23, List.forall_mem_cons.mpr ⟨lw_p24, List.forall_mem_cons.mpr ⟨lw_p25, List.forall_mem_cons.mpr ⟨lw_p26, List.forall_mem_cons.mpr ⟨lw_p27, List.forall_mem_cons.mpr ⟨lw_p28, List.forall_mem_cons.mpr ⟨lw_p29, List.forall_mem_cons.mpr ⟨lw_p30, List.forall_mem_cons.mpr ⟨lw_p31, fun _ h => absurd h List.not_mem_nil⟩⟩⟩⟩⟩⟩⟩⟩⟩⟩⟩⟩⟩⟩⟩⟩
theorem lw_p32 : lw_okq (⟨"BoatRotaModel", "sets", "(III)V"⟩, 20) := ⟨⟨by decide +kernel, by decide +kernel⟩, List.mem_of_getElem? (i := 1428) (by decide +kernel), List.mem_of_getElem? (i := 1525) (by decide +kernel), List.mem_of_getElem? (i := 1526) (by decide +kernel)⟩
theorem lw_p33 : lw_okq (⟨"BoatRotaModel", "ends", "(II)I"⟩, 20) := ⟨⟨by decide +kernel, by decide +kernel⟩, List.mem_of_getElem? (i := 1428) (by decide +kernel), List.mem_of_getElem? (i := 1529) (by decide +kernel), List.mem_of_getElem? (i := 1530) (by decide +kernel)⟩
theorem lw_p34 : lw_okq (⟨"BoatRotaModel", "changed", "()V"⟩, 20) := ⟨⟨by decide +kernel, by decide +kernel⟩, List.mem_of_getElem? (i := 1428) (by decide +kernel), List.mem_of_getElem? (i := 1533) (by decide +kernel), List.mem_of_getElem? (i := 1534) (by decide +kernel)⟩
theorem lw_p35 : lw_okq (⟨"BoatRotaModel", "leaves", "(I)I"⟩, 20) := ⟨⟨by decide +kernel, by decide +kernel⟩, List.mem_of_getElem? (i := 1428) (by decide +kernel), List.mem_of_getElem? (i := 1541) (by decide +kernel), List.mem_of_getElem? (i := 1542) (by decide +kernel)⟩
theorem lw_p36 : lw_okq (⟨"BoatRotaModel", "isNotAshore", "(I)Z"⟩, 20) := ⟨⟨by decide +kernel, by decide +kernel⟩, List.mem_of_getElem? (i := 1428) (by decide +kernel), List.mem_of_getElem? (i := 1545) (by decide +kernel), List.mem_of_getElem? (i := 1546) (by decide +kernel)⟩
theorem lw_p37 : lw_okq (⟨"BoatRotaModel", "isMember", "(I)Z"⟩, 20) := ⟨⟨by decide +kernel, by decide +kernel⟩, List.mem_of_getElem? (i := 1428) (by decide +kernel), List.mem_of_getElem? (i := 1549) (by decide +kernel), List.mem_of_getElem? (i := 1550) (by decide +kernel)⟩
theorem lw_p38 : lw_okq (⟨"BoatRotaModel", "of", "(II)I"⟩, 20) := ⟨⟨by decide +kernel, by decide +kernel⟩, List.mem_of_getElem? (i := 1428) (by decide +kernel), List.mem_of_getElem? (i := 1553) (by decide +kernel), List.mem_of_getElem? (i := 1554) (by decide +kernel)⟩
theorem lw_p39 : lw_okq (⟨"BoatRotaModel", "remaining", "()I"⟩, 20) := ⟨⟨by decide +kernel, by decide +kernel⟩, List.mem_of_getElem? (i := 1428) (by decide +kernel), List.mem_of_getElem? (i := 1557) (by decide +kernel), List.mem_of_getElem? (i := 1558) (by decide +kernel)⟩
theorem lw_p40 : lw_okq (⟨"BoatRotaModel", "trains", "(I)I"⟩, 20) := ⟨⟨by decide +kernel, by decide +kernel⟩, List.mem_of_getElem? (i := 1428) (by decide +kernel), List.mem_of_getElem? (i := 1565) (by decide +kernel), List.mem_of_getElem? (i := 1566) (by decide +kernel)⟩
theorem lw_p41 : lw_okq (⟨"BoatRotaModel", "builds", "(II)I"⟩, 20) := ⟨⟨by decide +kernel, by decide +kernel⟩, List.mem_of_getElem? (i := 1428) (by decide +kernel), List.mem_of_getElem? (i := 1573) (by decide +kernel), List.mem_of_getElem? (i := 1574) (by decide +kernel)⟩
theorem lw_p42 : lw_okq (⟨"BoatRotaModel", "setsBoat", "(III)V"⟩, 20) := ⟨⟨by decide +kernel, by decide +kernel⟩, List.mem_of_getElem? (i := 1428) (by decide +kernel), List.mem_of_getElem? (i := 1577) (by decide +kernel), List.mem_of_getElem? (i := 1578) (by decide +kernel)⟩
theorem lw_p43 : lw_okq (⟨"BoatRotaModel", "calls", "(II)I"⟩, 20) := ⟨⟨by decide +kernel, by decide +kernel⟩, List.mem_of_getElem? (i := 1428) (by decide +kernel), List.mem_of_getElem? (i := 1585) (by decide +kernel), List.mem_of_getElem? (i := 1586) (by decide +kernel)⟩
theorem lw_p44 : lw_okq (⟨"BoatRotaModel", "isBoat", "(I)Z"⟩, 20) := ⟨⟨by decide +kernel, by decide +kernel⟩, List.mem_of_getElem? (i := 1428) (by decide +kernel), List.mem_of_getElem? (i := 1589) (by decide +kernel), List.mem_of_getElem? (i := 1590) (by decide +kernel)⟩
theorem lw_p45 : lw_okq (⟨"BoatRotaModel", "whyNot", "(I)I"⟩, 20) := ⟨⟨by decide +kernel, by decide +kernel⟩, List.mem_of_getElem? (i := 1428) (by decide +kernel), List.mem_of_getElem? (i := 1593) (by decide +kernel), List.mem_of_getElem? (i := 1594) (by decide +kernel)⟩
theorem lw_p46 : lw_okq (⟨"BoatRotaModel", "ofBoat", "(II)I"⟩, 20) := ⟨⟨by decide +kernel, by decide +kernel⟩, List.mem_of_getElem? (i := 1428) (by decide +kernel), List.mem_of_getElem? (i := 1597) (by decide +kernel), List.mem_of_getElem? (i := 1598) (by decide +kernel)⟩
theorem lw_p47 : lw_okq (⟨"BoatRotaModel", "isLow", "(I)Z"⟩, 20) := ⟨⟨by decide +kernel, by decide +kernel⟩, List.mem_of_getElem? (i := 1428) (by decide +kernel), List.mem_of_getElem? (i := 1601) (by decide +kernel), List.mem_of_getElem? (i := 1602) (by decide +kernel)⟩
def lw_privs_3 : List (MethodName × Nat) := [(⟨"BoatRotaModel", "sets", "(III)V"⟩, 20), (⟨"BoatRotaModel", "ends", "(II)I"⟩, 20), (⟨"BoatRotaModel", "changed", "()V"⟩, 20), (⟨"BoatRotaModel", "leaves", "(I)I"⟩, 20), (⟨"BoatRotaModel", "isNotAshore", "(I)Z"⟩, 20), (⟨"BoatRotaModel", "isMember", "(I)Z"⟩, 20), (⟨"BoatRotaModel", "of", "(II)I"⟩, 20), (⟨"BoatRotaModel", "remaining", "()I"⟩, 20), (⟨"BoatRotaModel", "trains", "(I)I"⟩, 20), (⟨"BoatRotaModel", "builds", "(II)I"⟩, 20), (⟨"BoatRotaModel", "setsBoat", "(III)V"⟩, 20), (⟨"BoatRotaModel", "calls", "(II)I"⟩, 20), (⟨"BoatRotaModel", "isBoat", "(I)Z"⟩, 20), (⟨"BoatRotaModel", "whyNot", "(I)I"⟩, 20), (⟨"BoatRotaModel", "ofBoat", "(II)I"⟩, 20), (⟨"BoatRotaModel", "isLow", "(I)Z"⟩, 20)]
theorem lw_r3 : ∀ q ∈ lw_privs_3, lw_okq q := List.forall_mem_cons.mpr ⟨lw_p32, List.forall_mem_cons.mpr ⟨lw_p33, List.forall_mem_cons.mpr ⟨lw_p34, List.forall_mem_cons.mpr ⟨lw_p35, List.forall_mem_cons.mpr ⟨lw_p36, List.forall_mem_cons.mpr ⟨lw_p37, List.forall_mem_cons.mpr ⟨lw_p38, List.forall_mem_cons.mpr ⟨lw_p39, List.forall_mem_cons.mpr ⟨lw_p40, List.forall_mem_cons.mpr ⟨lw_p41, List.forall_mem_cons.mpr ⟨lw_p42, List.forall_mem_cons.mpr ⟨lw_p43, List.forall_mem_cons.mpr ⟨lw_p44, List.forall_mem_cons.mpr ⟨lw_p45, List.forall_mem_cons.mpr ⟨lw_p46, List.forall_mem_cons.mpr ⟨lw_p47, fun _ h => absurd h List.not_mem_nil⟩⟩⟩⟩⟩⟩⟩⟩⟩⟩⟩⟩⟩⟩⟩⟩
theorem lw_p48 : lw_okq (⟨"BoatRotaModel", "heightAt", "(I)I"⟩, 20) := ⟨⟨by decide +kernel, by decide +kernel⟩, List.mem_of_getElem? (i := 1428) (by decide +kernel), List.mem_of_getElem? (i := 1605) (by decide +kernel), List.mem_of_getElem? (i := 1606) (by decide +kernel)⟩
theorem lw_p49 : lw_okq (⟨"BoatRotaModel", "whyNoCrew", "(I)I"⟩, 20) := ⟨⟨by decide +kernel, by decide +kernel⟩, List.mem_of_getElem? (i := 1428) (by decide +kernel), List.mem_of_getElem? (i := 1609) (by decide +kernel), List.mem_of_getElem? (i := 1610) (by decide +kernel)⟩
theorem lw_p50 : lw_okq (⟨"BoatRotaModel", "ableSet", "()I"⟩, 20) := ⟨⟨by decide +kernel, by decide +kernel⟩, List.mem_of_getElem? (i := 1428) (by decide +kernel), List.mem_of_getElem? (i := 1613) (by decide +kernel), List.mem_of_getElem? (i := 1614) (by decide +kernel)⟩
theorem lw_p51 : lw_okq (⟨"BoatRotaModel", "isAble", "(I)Z"⟩, 20) := ⟨⟨by decide +kernel, by decide +kernel⟩, List.mem_of_getElem? (i := 1428) (by decide +kernel), List.mem_of_getElem? (i := 1617) (by decide +kernel), List.mem_of_getElem? (i := 1618) (by decide +kernel)⟩
theorem lw_p52 : lw_okq (⟨"BoatRotaModel", "leastOf", "(II)I"⟩, 20) := ⟨⟨by decide +kernel, by decide +kernel⟩, List.mem_of_getElem? (i := 1428) (by decide +kernel), List.mem_of_getElem? (i := 1621) (by decide +kernel), List.mem_of_getElem? (i := 1622) (by decide +kernel)⟩
theorem lw_p53 : lw_okq (⟨"BoatRotaModel", "skilled", "(I)I"⟩, 20) := ⟨⟨by decide +kernel, by decide +kernel⟩, List.mem_of_getElem? (i := 1428) (by decide +kernel), List.mem_of_getElem? (i := 1628) (by decide +kernel), List.mem_of_getElem? (i := 1629) (by decide +kernel)⟩
theorem lw_p54 : lw_okq (⟨"BoatRotaModel", "must", "(I)I"⟩, 20) := ⟨⟨by decide +kernel, by decide +kernel⟩, List.mem_of_getElem? (i := 1428) (by decide +kernel), List.mem_of_getElem? (i := 1632) (by decide +kernel), List.mem_of_getElem? (i := 1633) (by decide +kernel)⟩
theorem lw_p55 : lw_okq (⟨"BoatRotaModel", "freeOars", "()I"⟩, 20) := ⟨⟨by decide +kernel, by decide +kernel⟩, List.mem_of_getElem? (i := 1428) (by decide +kernel), List.mem_of_getElem? (i := 1636) (by decide +kernel), List.mem_of_getElem? (i := 1637) (by decide +kernel)⟩
theorem lw_p56 : lw_okq (⟨"BoatRotaModel", "allOars", "()I"⟩, 20) := ⟨⟨by decide +kernel, by decide +kernel⟩, List.mem_of_getElem? (i := 1428) (by decide +kernel), List.mem_of_getElem? (i := 1640) (by decide +kernel), List.mem_of_getElem? (i := 1641) (by decide +kernel)⟩
theorem lw_p57 : lw_okq (⟨"BoatRotaModel", "ofLoan", "(II)I"⟩, 20) := ⟨⟨by decide +kernel, by decide +kernel⟩, List.mem_of_getElem? (i := 1428) (by decide +kernel), List.mem_of_getElem? (i := 1644) (by decide +kernel), List.mem_of_getElem? (i := 1645) (by decide +kernel)⟩
theorem lw_p58 : lw_okq (⟨"BoatRotaModel", "oarsOut", "()I"⟩, 20) := ⟨⟨by decide +kernel, by decide +kernel⟩, List.mem_of_getElem? (i := 1428) (by decide +kernel), List.mem_of_getElem? (i := 1648) (by decide +kernel), List.mem_of_getElem? (i := 1649) (by decide +kernel)⟩
theorem lw_p59 : lw_okq (⟨"BoatRotaModel", "lacking", "(II)I"⟩, 20) := ⟨⟨by decide +kernel, by decide +kernel⟩, List.mem_of_getElem? (i := 1428) (by decide +kernel), List.mem_of_getElem? (i := 1652) (by decide +kernel), List.mem_of_getElem? (i := 1653) (by decide +kernel)⟩
theorem lw_p60 : lw_okq (⟨"BoatRotaModel", "crewFor", "(I)I"⟩, 20) := ⟨⟨by decide +kernel, by decide +kernel⟩, List.mem_of_getElem? (i := 1428) (by decide +kernel), List.mem_of_getElem? (i := 1656) (by decide +kernel), List.mem_of_getElem? (i := 1657) (by decide +kernel)⟩
theorem lw_p61 : lw_okq (⟨"BoatRotaModel", "borrows", "(II)I"⟩, 20) := ⟨⟨by decide +kernel, by decide +kernel⟩, List.mem_of_getElem? (i := 1428) (by decide +kernel), List.mem_of_getElem? (i := 1664) (by decide +kernel), List.mem_of_getElem? (i := 1665) (by decide +kernel)⟩
theorem lw_p62 : lw_okq (⟨"BoatRotaModel", "givesBack", "(I)I"⟩, 20) := ⟨⟨by decide +kernel, by decide +kernel⟩, List.mem_of_getElem? (i := 1428) (by decide +kernel), List.mem_of_getElem? (i := 1672) (by decide +kernel), List.mem_of_getElem? (i := 1673) (by decide +kernel)⟩
theorem lw_p63 : lw_okq (⟨"BoatRotaModel", "isLoan", "(I)Z"⟩, 20) := ⟨⟨by decide +kernel, by decide +kernel⟩, List.mem_of_getElem? (i := 1428) (by decide +kernel), List.mem_of_getElem? (i := 1676) (by decide +kernel), List.mem_of_getElem? (i := 1677) (by decide +kernel)⟩
def lw_privs_4 : List (MethodName × Nat) := [(⟨"BoatRotaModel", "heightAt", "(I)I"⟩, 20), (⟨"BoatRotaModel", "whyNoCrew", "(I)I"⟩, 20), (⟨"BoatRotaModel", "ableSet", "()I"⟩, 20), (⟨"BoatRotaModel", "isAble", "(I)Z"⟩, 20), (⟨"BoatRotaModel", "leastOf", "(II)I"⟩, 20), (⟨"BoatRotaModel", "skilled", "(I)I"⟩, 20), (⟨"BoatRotaModel", "must", "(I)I"⟩, 20), (⟨"BoatRotaModel", "freeOars", "()I"⟩, 20), (⟨"BoatRotaModel", "allOars", "()I"⟩, 20), (⟨"BoatRotaModel", "ofLoan", "(II)I"⟩, 20), (⟨"BoatRotaModel", "oarsOut", "()I"⟩, 20), (⟨"BoatRotaModel", "lacking", "(II)I"⟩, 20), (⟨"BoatRotaModel", "crewFor", "(I)I"⟩, 20), (⟨"BoatRotaModel", "borrows", "(II)I"⟩, 20), (⟨"BoatRotaModel", "givesBack", "(I)I"⟩, 20), (⟨"BoatRotaModel", "isLoan", "(I)Z"⟩, 20)]
theorem lw_r4 : ∀ q ∈ lw_privs_4, lw_okq q := List.forall_mem_cons.mpr ⟨lw_p48, List.forall_mem_cons.mpr ⟨lw_p49, List.forall_mem_cons.mpr ⟨lw_p50, List.forall_mem_cons.mpr ⟨lw_p51, List.forall_mem_cons.mpr ⟨lw_p52, List.forall_mem_cons.mpr ⟨lw_p53, List.forall_mem_cons.mpr ⟨lw_p54, List.forall_mem_cons.mpr ⟨lw_p55, List.forall_mem_cons.mpr ⟨lw_p56, List.forall_mem_cons.mpr ⟨lw_p57, List.forall_mem_cons.mpr ⟨lw_p58, List.forall_mem_cons.mpr ⟨lw_p59, List.forall_mem_cons.mpr ⟨lw_p60, List.forall_mem_cons.mpr ⟨lw_p61, List.forall_mem_cons.mpr ⟨lw_p62, List.forall_mem_cons.mpr ⟨lw_p63, fun _ h => absurd h List.not_mem_nil⟩⟩⟩⟩⟩⟩⟩⟩⟩⟩⟩⟩⟩⟩⟩⟩
theorem lw_p64 : lw_okq (⟨"BoatRotaModel", "takesLoan", "(I)V"⟩, 20) := ⟨⟨by decide +kernel, by decide +kernel⟩, List.mem_of_getElem? (i := 1428) (by decide +kernel), List.mem_of_getElem? (i := 1680) (by decide +kernel), List.mem_of_getElem? (i := 1681) (by decide +kernel)⟩
theorem lw_p65 : lw_okq (⟨"BoatRotaModel", "limits", "(I)I"⟩, 20) := ⟨⟨by decide +kernel, by decide +kernel⟩, List.mem_of_getElem? (i := 1428) (by decide +kernel), List.mem_of_getElem? (i := 1688) (by decide +kernel), List.mem_of_getElem? (i := 1689) (by decide +kernel)⟩
theorem lw_p66 : lw_okq (⟨"BoatRotaModel", "passes", "(I)I"⟩, 20) := ⟨⟨by decide +kernel, by decide +kernel⟩, List.mem_of_getElem? (i := 1428) (by decide +kernel), List.mem_of_getElem? (i := 1696) (by decide +kernel), List.mem_of_getElem? (i := 1697) (by decide +kernel)⟩
theorem lw_p67 : lw_okq (⟨"BoatRotaModel", "hourGoes", "()V"⟩, 20) := ⟨⟨by decide +kernel, by decide +kernel⟩, List.mem_of_getElem? (i := 1428) (by decide +kernel), List.mem_of_getElem? (i := 1700) (by decide +kernel), List.mem_of_getElem? (i := 1701) (by decide +kernel)⟩
theorem lw_p68 : lw_okq (⟨"BoatRotaModel", "memberGoes", "(I)V"⟩, 20) := ⟨⟨by decide +kernel, by decide +kernel⟩, List.mem_of_getElem? (i := 1428) (by decide +kernel), List.mem_of_getElem? (i := 1704) (by decide +kernel), List.mem_of_getElem? (i := 1705) (by decide +kernel)⟩
theorem lw_p69 : lw_okq (⟨"BoatRotaModel", "boatGoes", "(I)V"⟩, 20) := ⟨⟨by decide +kernel, by decide +kernel⟩, List.mem_of_getElem? (i := 1428) (by decide +kernel), List.mem_of_getElem? (i := 1711) (by decide +kernel), List.mem_of_getElem? (i := 1712) (by decide +kernel)⟩
theorem lw_p70 : lw_okq (⟨"BoatRotaModel", "comesIn", "(I)V"⟩, 20) := ⟨⟨by decide +kernel, by decide +kernel⟩, List.mem_of_getElem? (i := 1428) (by decide +kernel), List.mem_of_getElem? (i := 1715) (by decide +kernel), List.mem_of_getElem? (i := 1716) (by decide +kernel)⟩
theorem lw_p71 : lw_okq (⟨"BoatRotaModel", "loansGo", "()V"⟩, 20) := ⟨⟨by decide +kernel, by decide +kernel⟩, List.mem_of_getElem? (i := 1428) (by decide +kernel), List.mem_of_getElem? (i := 1719) (by decide +kernel), List.mem_of_getElem? (i := 1720) (by decide +kernel)⟩
theorem lw_p72 : lw_okq (⟨"BoatRotaModel", "isThrown", "(ZI)Z"⟩, 20) := ⟨⟨by decide +kernel, by decide +kernel⟩, List.mem_of_getElem? (i := 1428) (by decide +kernel), List.mem_of_getElem? (i := 1727) (by decide +kernel), List.mem_of_getElem? (i := 1728) (by decide +kernel)⟩
theorem lw_p73 : lw_okq (⟨"BoatRotaModel", "crewOf", "(I)I"⟩, 20) := ⟨⟨by decide +kernel, by decide +kernel⟩, List.mem_of_getElem? (i := 1428) (by decide +kernel), List.mem_of_getElem? (i := 1743) (by decide +kernel), List.mem_of_getElem? (i := 1744) (by decide +kernel)⟩
theorem lw_p74 : lw_okq (⟨"BoatRotaModel", "isLess", "(II)Z"⟩, 20) := ⟨⟨by decide +kernel, by decide +kernel⟩, List.mem_of_getElem? (i := 1428) (by decide +kernel), List.mem_of_getElem? (i := 1793) (by decide +kernel), List.mem_of_getElem? (i := 1794) (by decide +kernel)⟩
theorem lw_p75 : lw_okq (⟨"BoatRotaModel", "isBusier", "(II)Z"⟩, 20) := ⟨⟨by decide +kernel, by decide +kernel⟩, List.mem_of_getElem? (i := 1428) (by decide +kernel), List.mem_of_getElem? (i := 1801) (by decide +kernel), List.mem_of_getElem? (i := 1802) (by decide +kernel)⟩
theorem lw_p76 : lw_okq (⟨"BoatRotaModel", "isText", "()Z"⟩, 20) := ⟨⟨by decide +kernel, by decide +kernel⟩, List.mem_of_getElem? (i := 1428) (by decide +kernel), List.mem_of_getElem? (i := 1813) (by decide +kernel), List.mem_of_getElem? (i := 1814) (by decide +kernel)⟩
theorem lw_p77 : lw_okq (⟨"BoatRotaModel", "readsCommand", "()Z"⟩, 20) := ⟨⟨by decide +kernel, by decide +kernel⟩, List.mem_of_getElem? (i := 1428) (by decide +kernel), List.mem_of_getElem? (i := 1817) (by decide +kernel), List.mem_of_getElem? (i := 1818) (by decide +kernel)⟩
theorem lw_p78 : lw_okq (⟨"BoatRotaModel", "sign", "()I"⟩, 20) := ⟨⟨by decide +kernel, by decide +kernel⟩, List.mem_of_getElem? (i := 1428) (by decide +kernel), List.mem_of_getElem? (i := 1821) (by decide +kernel), List.mem_of_getElem? (i := 1822) (by decide +kernel)⟩
theorem lw_p79 : lw_okq (⟨"BoatRotaModel", "isNumber", "(II)Z"⟩, 20) := ⟨⟨by decide +kernel, by decide +kernel⟩, List.mem_of_getElem? (i := 1428) (by decide +kernel), List.mem_of_getElem? (i := 1828) (by decide +kernel), List.mem_of_getElem? (i := 1829) (by decide +kernel)⟩
def lw_privs_5 : List (MethodName × Nat) := [(⟨"BoatRotaModel", "takesLoan", "(I)V"⟩, 20), (⟨"BoatRotaModel", "limits", "(I)I"⟩, 20), (⟨"BoatRotaModel", "passes", "(I)I"⟩, 20), (⟨"BoatRotaModel", "hourGoes", "()V"⟩, 20), (⟨"BoatRotaModel", "memberGoes", "(I)V"⟩, 20), (⟨"BoatRotaModel", "boatGoes", "(I)V"⟩, 20), (⟨"BoatRotaModel", "comesIn", "(I)V"⟩, 20), (⟨"BoatRotaModel", "loansGo", "()V"⟩, 20), (⟨"BoatRotaModel", "isThrown", "(ZI)Z"⟩, 20), (⟨"BoatRotaModel", "crewOf", "(I)I"⟩, 20), (⟨"BoatRotaModel", "isLess", "(II)Z"⟩, 20), (⟨"BoatRotaModel", "isBusier", "(II)Z"⟩, 20), (⟨"BoatRotaModel", "isText", "()Z"⟩, 20), (⟨"BoatRotaModel", "readsCommand", "()Z"⟩, 20), (⟨"BoatRotaModel", "sign", "()I"⟩, 20), (⟨"BoatRotaModel", "isNumber", "(II)Z"⟩, 20)]
theorem lw_r5 : ∀ q ∈ lw_privs_5, lw_okq q := List.forall_mem_cons.mpr ⟨lw_p64, List.forall_mem_cons.mpr ⟨lw_p65, List.forall_mem_cons.mpr ⟨lw_p66, List.forall_mem_cons.mpr ⟨lw_p67, List.forall_mem_cons.mpr ⟨lw_p68, List.forall_mem_cons.mpr ⟨lw_p69, List.forall_mem_cons.mpr ⟨lw_p70, List.forall_mem_cons.mpr ⟨lw_p71, List.forall_mem_cons.mpr ⟨lw_p72, List.forall_mem_cons.mpr ⟨lw_p73, List.forall_mem_cons.mpr ⟨lw_p74, List.forall_mem_cons.mpr ⟨lw_p75, List.forall_mem_cons.mpr ⟨lw_p76, List.forall_mem_cons.mpr ⟨lw_p77, List.forall_mem_cons.mpr ⟨lw_p78, List.forall_mem_cons.mpr ⟨lw_p79, fun _ h => absurd h List.not_mem_nil⟩⟩⟩⟩⟩⟩⟩⟩⟩⟩⟩⟩⟩⟩⟩⟩
theorem lw_p80 : lw_okq (⟨"BoatRotaModel", "isSign", "(I)Z"⟩, 20) := ⟨⟨by decide +kernel, by decide +kernel⟩, List.mem_of_getElem? (i := 1428) (by decide +kernel), List.mem_of_getElem? (i := 1832) (by decide +kernel), List.mem_of_getElem? (i := 1833) (by decide +kernel)⟩
theorem lw_p81 : lw_okq (⟨"BoatRotaModel", "does", "(I)I"⟩, 20) := ⟨⟨by decide +kernel, by decide +kernel⟩, List.mem_of_getElem? (i := 1428) (by decide +kernel), List.mem_of_getElem? (i := 1836) (by decide +kernel), List.mem_of_getElem? (i := 1837) (by decide +kernel)⟩
theorem lw_p82 : lw_okq (⟨"BoatRotaModel", "isCause", "(I)V"⟩, 20) := ⟨⟨by decide +kernel, by decide +kernel⟩, List.mem_of_getElem? (i := 1428) (by decide +kernel), List.mem_of_getElem? (i := 1840) (by decide +kernel), List.mem_of_getElem? (i := 1841) (by decide +kernel)⟩
theorem lw_p83 : lw_okq (⟨"BoatRotaModel", "puts", "(I)V"⟩, 20) := ⟨⟨by decide +kernel, by decide +kernel⟩, List.mem_of_getElem? (i := 1428) (by decide +kernel), List.mem_of_getElem? (i := 1856) (by decide +kernel), List.mem_of_getElem? (i := 1857) (by decide +kernel)⟩
theorem lw_p84 : lw_okq (⟨"BoatRotaModel", "boatsOut", "()I"⟩, 20) := ⟨⟨by decide +kernel, by decide +kernel⟩, List.mem_of_getElem? (i := 1428) (by decide +kernel), List.mem_of_getElem? (i := 1876) (by decide +kernel), List.mem_of_getElem? (i := 1877) (by decide +kernel)⟩
def lw_privs_6 : List (MethodName × Nat) := [(⟨"BoatRotaModel", "isSign", "(I)Z"⟩, 20), (⟨"BoatRotaModel", "does", "(I)I"⟩, 20), (⟨"BoatRotaModel", "isCause", "(I)V"⟩, 20), (⟨"BoatRotaModel", "puts", "(I)V"⟩, 20), (⟨"BoatRotaModel", "boatsOut", "()I"⟩, 20)]
theorem lw_r6 : ∀ q ∈ lw_privs_6, lw_okq q := List.forall_mem_cons.mpr ⟨lw_p80, List.forall_mem_cons.mpr ⟨lw_p81, List.forall_mem_cons.mpr ⟨lw_p82, List.forall_mem_cons.mpr ⟨lw_p83, List.forall_mem_cons.mpr ⟨lw_p84, fun _ h => absurd h List.not_mem_nil⟩⟩⟩⟩⟩
def lw_privs : List (MethodName × Nat) := lw_privs_1 ++ (lw_privs_2 ++ (lw_privs_3 ++ (lw_privs_4 ++ (lw_privs_5 ++ (lw_privs_6)))))
def lw_tbl : List Cond := k2_sels lw_privs ++ tables_1
theorem lw_privs_ok : ∀ q ∈ lw_privs, lw_okq q := by
  show ∀ q ∈ lw_privs_1 ++ (lw_privs_2 ++ (lw_privs_3 ++ (lw_privs_4 ++ (lw_privs_5 ++ (lw_privs_6))))), lw_okq q
  exact List.forall_mem_append.mpr ⟨lw_r1, List.forall_mem_append.mpr ⟨lw_r2, List.forall_mem_append.mpr ⟨lw_r3, List.forall_mem_append.mpr ⟨lw_r4, List.forall_mem_append.mpr ⟨lw_r5, lw_r6⟩⟩⟩⟩⟩
/-- the streams that the claim lets the run draw from -/
abbrev lw_cs : List Choice := [Jvm.Choice.named "NaN.bits"]
theorem lw_bits : nanBits ∈ lw_cs := by first | decide | exact List.mem_cons_self | simp [lw_cs, nanBits]
def RX0 : String := "BoatRota$1"
def TX0 : u_T := fun k => match k with
  | _ => ("", "", "", false)
def tyX0 : Nat → FieldType := fun k => match k with
  | _ => .int
theorem nmX0 : ∀ a, a < 0 → ∀ b, b < 0 → a ≠ b → (TX0 a).2.1 ≠ (TX0 b).2.1 := by decide +kernel
theorem tyX0_ok : ∀ k, k < 0 → parseFieldDescriptor (TX0 k).2.2.1 = some (tyX0 k) := by decide +kernel
def RX1 : String := "BoatRota$Boat"
def TX1 : u_T := fun k => match k with
  | 0 => ("BoatRota$Boat", "draft", "I", false)
  | 1 => ("BoatRota$Boat", "seats", "I", false)
  | 2 => ("BoatRota$Boat", "coxswain", "I", false)
  | 3 => ("BoatRota$Boat", "hoursLeft", "I", false)
  | 4 => ("BoatRota$Boat", "hoursWaited", "I", false)
  | _ => ("BoatRota$Boat", "callOuts", "I", false)
def tyX1 : Nat → FieldType := fun k => match k with
  | 0 => .int
  | 1 => .int
  | 2 => .int
  | 3 => .int
  | 4 => .int
  | _ => .int
theorem nmX1 : ∀ a, a < 6 → ∀ b, b < 6 → a ≠ b → (TX1 a).2.1 ≠ (TX1 b).2.1 := by decide +kernel
theorem tyX1_ok : ∀ k, k < 6 → parseFieldDescriptor (TX1 k).2.2.1 = some (tyX1 k) := by decide +kernel
abbrev cX1_init : ByteArray := prog_3_method_1_code
def yX1_init : MethodName := ⟨RX1, "<init>", "()V"⟩
abbrev cX1_start : ByteArray := prog_3_method_2_code
def yX1_start : MethodName := ⟨RX1, "start", "(II)V"⟩
abbrev cX1_isOut : ByteArray := prog_3_method_3_code
def yX1_isOut : MethodName := ⟨RX1, "isOut", "()Z"⟩
abbrev cX1_oarsNeeded : ByteArray := prog_3_method_4_code
def yX1_oarsNeeded : MethodName := ⟨RX1, "oarsNeeded", "()I"⟩
abbrev cX1_skilledNeeded : ByteArray := prog_3_method_5_code
def yX1_skilledNeeded : MethodName := ⟨RX1, "skilledNeeded", "()I"⟩
abbrev cX1_copyFrom : ByteArray := prog_3_method_6_code
def yX1_copyFrom : MethodName := ⟨RX1, "copyFrom", "(LBoatRota$Boat;)V"⟩
def RX2 : String := "BoatRota$Deed"
def TX2 : u_T := fun k => match k with
  | _ => ("", "", "", false)
def tyX2 : Nat → FieldType := fun k => match k with
  | _ => .int
theorem nmX2 : ∀ a, a < 0 → ∀ b, b < 0 → a ≠ b → (TX2 a).2.1 ≠ (TX2 b).2.1 := by decide +kernel
theorem tyX2_ok : ∀ k, k < 0 → parseFieldDescriptor (TX2 k).2.2.1 = some (tyX2 k) := by decide +kernel
def RX3 : String := "BoatRota$Loan"
def TX3 : u_T := fun k => match k with
  | 0 => ("BoatRota$Loan", "oars", "I", false)
  | 1 => ("BoatRota$Loan", "hoursUntilDue", "I", false)
  | _ => ("BoatRota$Loan", "hoursLate", "I", false)
def tyX3 : Nat → FieldType := fun k => match k with
  | 0 => .int
  | 1 => .int
  | _ => .int
theorem nmX3 : ∀ a, a < 3 → ∀ b, b < 3 → a ≠ b → (TX3 a).2.1 ≠ (TX3 b).2.1 := by decide +kernel
theorem tyX3_ok : ∀ k, k < 3 → parseFieldDescriptor (TX3 k).2.2.1 = some (tyX3 k) := by decide +kernel
abbrev cX3_init : ByteArray := prog_5_method_1_code
def yX3_init : MethodName := ⟨RX3, "<init>", "()V"⟩
abbrev cX3_start : ByteArray := prog_5_method_2_code
def yX3_start : MethodName := ⟨RX3, "start", "(II)V"⟩
abbrev cX3_copyFrom : ByteArray := prog_5_method_3_code
def yX3_copyFrom : MethodName := ⟨RX3, "copyFrom", "(LBoatRota$Loan;)V"⟩
def RX4 : String := "BoatRota$Member"
def TX4 : u_T := fun k => match k with
  | 0 => ("BoatRota$Member", "skill", "I", false)
  | 1 => ("BoatRota$Member", "place", "I", false)
  | 2 => ("BoatRota$Member", "weariness", "I", false)
  | 3 => ("BoatRota$Member", "hoursOut", "I", false)
  | 4 => ("BoatRota$Member", "callOuts", "I", false)
  | _ => ("BoatRota$Member", "callOutsAsCoxswain", "I", false)
def tyX4 : Nat → FieldType := fun k => match k with
  | 0 => .int
  | 1 => .int
  | 2 => .int
  | 3 => .int
  | 4 => .int
  | _ => .int
theorem nmX4 : ∀ a, a < 6 → ∀ b, b < 6 → a ≠ b → (TX4 a).2.1 ≠ (TX4 b).2.1 := by decide +kernel
theorem tyX4_ok : ∀ k, k < 6 → parseFieldDescriptor (TX4 k).2.2.1 = some (tyX4 k) := by decide +kernel
abbrev cX4_init : ByteArray := prog_6_method_1_code
def yX4_init : MethodName := ⟨RX4, "<init>", "()V"⟩
abbrev cX4_start : ByteArray := prog_6_method_2_code
def yX4_start : MethodName := ⟨RX4, "start", "(I)V"⟩
abbrev cX4_isOut : ByteArray := prog_6_method_3_code
def yX4_isOut : MethodName := ⟨RX4, "isOut", "()Z"⟩
abbrev cX4_isAble : ByteArray := prog_6_method_4_code
def yX4_isAble : MethodName := ⟨RX4, "isAble", "(I)Z"⟩
abbrev cX4_copyFrom : ByteArray := prog_6_method_5_code
def yX4_copyFrom : MethodName := ⟨RX4, "copyFrom", "(LBoatRota$Member;)V"⟩
def RX5 : String := "BoatRota$Refusal"
def TX5 : u_T := fun k => match k with
  | 0 => ("BoatRota$Refusal", "number", "I", false)
  | _ => ("BoatRota$Refusal", "detail", "I", false)
def tyX5 : Nat → FieldType := fun k => match k with
  | 0 => .int
  | _ => .int
theorem nmX5 : ∀ a, a < 2 → ∀ b, b < 2 → a ≠ b → (TX5 a).2.1 ≠ (TX5 b).2.1 := by decide +kernel
theorem tyX5_ok : ∀ k, k < 2 → parseFieldDescriptor (TX5 k).2.2.1 = some (tyX5 k) := by decide +kernel
abbrev cX5_init : ByteArray := prog_7_method_1_code
def yX5_init : MethodName := ⟨RX5, "<init>", "()V"⟩
abbrev cX5_isThere : ByteArray := prog_7_method_2_code
def yX5_isThere : MethodName := ⟨RX5, "isThere", "()Z"⟩
abbrev cX5_set : ByteArray := prog_7_method_3_code
def yX5_set : MethodName := ⟨RX5, "set", "(II)V"⟩
abbrev cX5_clear : ByteArray := prog_7_method_4_code
def yX5_clear : MethodName := ⟨RX5, "clear", "()V"⟩
abbrev cX5_copyFrom : ByteArray := prog_7_method_5_code
def yX5_copyFrom : MethodName := ⟨RX5, "copyFrom", "(LBoatRota$Refusal;)V"⟩
def RX6 : String := "BoatRota$Script"
def TX6 : u_T := fun k => match k with
  | 0 => ("BoatRota$Script", "signs", "[C", true)
  | 1 => ("BoatRota$Script", "length", "I", false)
  | 2 => ("BoatRota$Script", "deeds", "[LBoatRota$Deed;", true)
  | 3 => ("BoatRota$Script", "firsts", "[I", true)
  | 4 => ("BoatRota$Script", "seconds", "[I", true)
  | 5 => ("BoatRota$Script", "count", "I", false)
  | _ => ("BoatRota$Script", "at", "I", false)
def tyX6 : Nat → FieldType := fun k => match k with
  | 0 => .array .char
  | 1 => .int
  | 2 => .array (.object "BoatRota$Deed")
  | 3 => .array .int
  | 4 => .array .int
  | 5 => .int
  | _ => .int
theorem nmX6 : ∀ a, a < 7 → ∀ b, b < 7 → a ≠ b → (TX6 a).2.1 ≠ (TX6 b).2.1 := by decide +kernel
theorem tyX6_ok : ∀ k, k < 7 → parseFieldDescriptor (TX6 k).2.2.1 = some (tyX6 k) := by decide +kernel
abbrev cX6_init : ByteArray := prog_8_method_1_code
def yX6_init : MethodName := ⟨RX6, "<init>", "()V"⟩
abbrev cX6_add : ByteArray := prog_8_method_2_code
def yX6_add : MethodName := ⟨RX6, "add", "(C)V"⟩
abbrev cX6_read : ByteArray := prog_8_method_3_code
def yX6_read : MethodName := ⟨RX6, "read", "()I"⟩
abbrev cX6_readCommand : ByteArray := prog_8_method_4_code
def yX6_readCommand : MethodName := ⟨RX6, "readCommand", "(I)Z"⟩
abbrev cX6_readDeed : ByteArray := prog_8_method_5_code
def yX6_readDeed : MethodName := ⟨RX6, "readDeed", "()LBoatRota$Deed;"⟩
abbrev cX6_readNumber : ByteArray := prog_8_method_6_code
def yX6_readNumber : MethodName := ⟨RX6, "readNumber", "(I)I"⟩
abbrev cX6_isDigitNext : ByteArray := prog_8_method_7_code
def yX6_isDigitNext : MethodName := ⟨RX6, "isDigitNext", "()Z"⟩
def RX7 : String := "BoatRota$Station"
def TX7 : u_T := fun k => match k with
  | 0 => ("BoatRota$Station", "members", "[LBoatRota$Member;", true)
  | 1 => ("BoatRota$Station", "boats", "[LBoatRota$Boat;", true)
  | 2 => ("BoatRota$Station", "loans", "[LBoatRota$Loan;", true)
  | 3 => ("BoatRota$Station", "memberCount", "I", false)
  | 4 => ("BoatRota$Station", "boatCount", "I", false)
  | 5 => ("BoatRota$Station", "loanCount", "I", false)
  | 6 => ("BoatRota$Station", "hour", "I", false)
  | 7 => ("BoatRota$Station", "limit", "I", false)
  | 8 => ("BoatRota$Station", "callOuts", "I", false)
  | 9 => ("BoatRota$Station", "boatsCameIn", "I", false)
  | _ => ("BoatRota$Station", "hoursLate", "I", false)
def tyX7 : Nat → FieldType := fun k => match k with
  | 0 => .array (.object "BoatRota$Member")
  | 1 => .array (.object "BoatRota$Boat")
  | 2 => .array (.object "BoatRota$Loan")
  | 3 => .int
  | 4 => .int
  | 5 => .int
  | 6 => .int
  | 7 => .int
  | 8 => .int
  | 9 => .int
  | _ => .int
theorem nmX7 : ∀ a, a < 11 → ∀ b, b < 11 → a ≠ b → (TX7 a).2.1 ≠ (TX7 b).2.1 := by decide +kernel
theorem tyX7_ok : ∀ k, k < 11 → parseFieldDescriptor (TX7 k).2.2.1 = some (tyX7 k) := by decide +kernel
abbrev cX7_init : ByteArray := prog_9_method_1_code
def yX7_init : MethodName := ⟨RX7, "<init>", "()V"⟩
abbrev cX7_copyFrom : ByteArray := prog_9_method_2_code
def yX7_copyFrom : MethodName := ⟨RX7, "copyFrom", "(LBoatRota$Station;)V"⟩
abbrev cX7_hasMember : ByteArray := prog_9_method_3_code
def yX7_hasMember : MethodName := ⟨RX7, "hasMember", "(I)Z"⟩
abbrev cX7_hasBoat : ByteArray := prog_9_method_4_code
def yX7_hasBoat : MethodName := ⟨RX7, "hasBoat", "(I)Z"⟩
abbrev cX7_hasLoan : ByteArray := prog_9_method_5_code
def yX7_hasLoan : MethodName := ⟨RX7, "hasLoan", "(I)Z"⟩
abbrev cX7_judgeMember : ByteArray := prog_9_method_6_code
def yX7_judgeMember : MethodName := ⟨RX7, "judgeMember", "(ILBoatRota$Refusal;)V"⟩
abbrev cX7_addMember : ByteArray := prog_9_method_7_code
def yX7_addMember : MethodName := ⟨RX7, "addMember", "(I)I"⟩
abbrev cX7_judgeLeave : ByteArray := prog_9_method_8_code
def yX7_judgeLeave : MethodName := ⟨RX7, "judgeLeave", "(ILBoatRota$Refusal;)V"⟩
abbrev cX7_letGo : ByteArray := prog_9_method_9_code
def yX7_letGo : MethodName := ⟨RX7, "letGo", "(I)I"⟩
abbrev cX7_judgeTrain : ByteArray := prog_9_method_10_code
def yX7_judgeTrain : MethodName := ⟨RX7, "judgeTrain", "(ILBoatRota$Refusal;)V"⟩
abbrev cX7_raiseSkill : ByteArray := prog_9_method_11_code
def yX7_raiseSkill : MethodName := ⟨RX7, "raiseSkill", "(I)I"⟩
abbrev cX7_judgeBoat : ByteArray := prog_9_method_12_code
def yX7_judgeBoat : MethodName := ⟨RX7, "judgeBoat", "(IILBoatRota$Refusal;)V"⟩
abbrev cX7_addBoat : ByteArray := prog_9_method_13_code
def yX7_addBoat : MethodName := ⟨RX7, "addBoat", "(II)I"⟩
abbrev cX7_judgeCall : ByteArray := prog_9_method_14_code
def yX7_judgeCall : MethodName := ⟨RX7, "judgeCall", "(IILBoatRota$Refusal;)V"⟩
abbrev cX7_judgeCrew : ByteArray := prog_9_method_15_code
def yX7_judgeCrew : MethodName := ⟨RX7, "judgeCrew", "(ILBoatRota$Refusal;)V"⟩
abbrev cX7_sendOut : ByteArray := prog_9_method_16_code
def yX7_sendOut : MethodName := ⟨RX7, "sendOut", "(II)I"⟩
abbrev cX7_judgeBorrow : ByteArray := prog_9_method_17_code
def yX7_judgeBorrow : MethodName := ⟨RX7, "judgeBorrow", "(IILBoatRota$Refusal;)V"⟩
abbrev cX7_addLoan : ByteArray := prog_9_method_18_code
def yX7_addLoan : MethodName := ⟨RX7, "addLoan", "(II)I"⟩
abbrev cX7_judgeGiveBack : ByteArray := prog_9_method_19_code
def yX7_judgeGiveBack : MethodName := ⟨RX7, "judgeGiveBack", "(ILBoatRota$Refusal;)V"⟩
abbrev cX7_endLoan : ByteArray := prog_9_method_20_code
def yX7_endLoan : MethodName := ⟨RX7, "endLoan", "(I)I"⟩
abbrev cX7_removeLoan : ByteArray := prog_9_method_21_code
def yX7_removeLoan : MethodName := ⟨RX7, "removeLoan", "(I)V"⟩
abbrev cX7_judgeLimit : ByteArray := prog_9_method_22_code
def yX7_judgeLimit : MethodName := ⟨RX7, "judgeLimit", "(ILBoatRota$Refusal;)V"⟩
abbrev cX7_setLimit : ByteArray := prog_9_method_23_code
def yX7_setLimit : MethodName := ⟨RX7, "setLimit", "(I)I"⟩
abbrev cX7_judgePass : ByteArray := prog_9_method_24_code
def yX7_judgePass : MethodName := ⟨RX7, "judgePass", "(ILBoatRota$Refusal;)V"⟩
abbrev cX7_passHours : ByteArray := prog_9_method_25_code
def yX7_passHours : MethodName := ⟨RX7, "passHours", "(I)I"⟩
abbrev cX7_tireMembers : ByteArray := prog_9_method_26_code
def yX7_tireMembers : MethodName := ⟨RX7, "tireMembers", "()V"⟩
abbrev cX7_sailBoats : ByteArray := prog_9_method_27_code
def yX7_sailBoats : MethodName := ⟨RX7, "sailBoats", "()V"⟩
abbrev cX7_sailBoat : ByteArray := prog_9_method_28_code
def yX7_sailBoat : MethodName := ⟨RX7, "sailBoat", "(I)V"⟩
abbrev cX7_bringIn : ByteArray := prog_9_method_29_code
def yX7_bringIn : MethodName := ⟨RX7, "bringIn", "(I)V"⟩
abbrev cX7_ageLoans : ByteArray := prog_9_method_30_code
def yX7_ageLoans : MethodName := ⟨RX7, "ageLoans", "()V"⟩
abbrev cX7_allOars : ByteArray := prog_9_method_31_code
def yX7_allOars : MethodName := ⟨RX7, "allOars", "()I"⟩
abbrev cX7_oarsOut : ByteArray := prog_9_method_32_code
def yX7_oarsOut : MethodName := ⟨RX7, "oarsOut", "()I"⟩
abbrev cX7_freeOars : ByteArray := prog_9_method_33_code
def yX7_freeOars : MethodName := ⟨RX7, "freeOars", "()I"⟩
abbrev cX7_boatsOut : ByteArray := prog_9_method_34_code
def yX7_boatsOut : MethodName := ⟨RX7, "boatsOut", "()I"⟩
abbrev cX7_everyone : ByteArray := prog_9_method_35_code
def yX7_everyone : MethodName := ⟨RX7, "everyone", "()I"⟩
abbrev cX7_staying : ByteArray := prog_9_method_36_code
def yX7_staying : MethodName := ⟨RX7, "staying", "()I"⟩
abbrev cX7_membersAt : ByteArray := prog_9_method_37_code
def yX7_membersAt : MethodName := ⟨RX7, "membersAt", "(I)I"⟩
abbrev cX7_ableMembers : ByteArray := prog_9_method_38_code
def yX7_ableMembers : MethodName := ⟨RX7, "ableMembers", "()I"⟩
abbrev cX7_skilledMembers : ByteArray := prog_9_method_39_code
def yX7_skilledMembers : MethodName := ⟨RX7, "skilledMembers", "(I)I"⟩
abbrev cX7_wearinessOf : ByteArray := prog_9_method_40_code
def yX7_wearinessOf : MethodName := ⟨RX7, "wearinessOf", "(I)I"⟩
abbrev cX7_chosenCoxswain : ByteArray := prog_9_method_41_code
def yX7_chosenCoxswain : MethodName := ⟨RX7, "chosenCoxswain", "()I"⟩
abbrev cX7_chosenCrew : ByteArray := prog_9_method_42_code
def yX7_chosenCrew : MethodName := ⟨RX7, "chosenCrew", "(I)I"⟩
abbrev cX7_filledUp : ByteArray := prog_9_method_43_code
def yX7_filledUp : MethodName := ⟨RX7, "filledUp", "(III)I"⟩
abbrev cX7_leastWearyOf : ByteArray := prog_9_method_44_code
def yX7_leastWearyOf : MethodName := ⟨RX7, "leastWearyOf", "(I)I"⟩
abbrev cX7_leastWearinessOfAll : ByteArray := prog_9_method_45_code
def yX7_leastWearinessOfAll : MethodName := ⟨RX7, "leastWearinessOfAll", "(I)I"⟩
abbrev cX7_memberInPlace : ByteArray := prog_9_method_46_code
def yX7_memberInPlace : MethodName := ⟨RX7, "memberInPlace", "(IIZ)I"⟩
abbrev cX7_countBefore : ByteArray := prog_9_method_47_code
def yX7_countBefore : MethodName := ⟨RX7, "countBefore", "(IIZ)I"⟩
abbrev cX7_isFresher : ByteArray := prog_9_method_48_code
def yX7_isFresher : MethodName := ⟨RX7, "isFresher", "(II)Z"⟩
abbrev cX7_isBusier : ByteArray := prog_9_method_49_code
def yX7_isBusier : MethodName := ⟨RX7, "isBusier", "(II)Z"⟩
def RX8 : String := "BoatRota"
def TX8 : u_T := fun k => match k with
  | 0 => ("BoatRota", "station", "LBoatRota$Station;", true)
  | 1 => ("BoatRota", "spare", "LBoatRota$Station;", true)
  | 2 => ("BoatRota", "snapshot", "LBoatRota$Station;", true)
  | 3 => ("BoatRota", "isSaved", "Z", false)
  | 4 => ("BoatRota", "past", "[LBoatRota$Station;", true)
  | 5 => ("BoatRota", "pastCount", "I", false)
  | 6 => ("BoatRota", "kept", "LBoatRota$Refusal;", true)
  | 7 => ("BoatRota", "keptCause", "LBoatRota$Refusal;", true)
  | 8 => ("BoatRota", "found", "LBoatRota$Refusal;", true)
  | 9 => ("BoatRota", "script", "LBoatRota$Script;", true)
  | 10 => ("BoatRota", "latestFault", "I", false)
  | _ => ("BoatRota", "written", "Ljava/lang/StringBuilder;", true)
def tyX8 : Nat → FieldType := fun k => match k with
  | 0 => .object "BoatRota$Station"
  | 1 => .object "BoatRota$Station"
  | 2 => .object "BoatRota$Station"
  | 3 => .boolean
  | 4 => .array (.object "BoatRota$Station")
  | 5 => .int
  | 6 => .object "BoatRota$Refusal"
  | 7 => .object "BoatRota$Refusal"
  | 8 => .object "BoatRota$Refusal"
  | 9 => .object "BoatRota$Script"
  | 10 => .int
  | _ => .object "java/lang/StringBuilder"
theorem nmX8 : ∀ a, a < 12 → ∀ b, b < 12 → a ≠ b → (TX8 a).2.1 ≠ (TX8 b).2.1 := by decide +kernel
theorem tyX8_ok : ∀ k, k < 12 → parseFieldDescriptor (TX8 k).2.2.1 = some (tyX8 k) := by decide +kernel
abbrev cX8_init : ByteArray := prog_1_method_1_code
def yX8_init : MethodName := ⟨RX8, "<init>", "()V"⟩
abbrev cX8_member : ByteArray := prog_1_method_2_code
def yX8_member : MethodName := ⟨RX8, "member", "(I)I"⟩
abbrev cX8_leave : ByteArray := prog_1_method_3_code
def yX8_leave : MethodName := ⟨RX8, "leave", "(I)I"⟩
abbrev cX8_train : ByteArray := prog_1_method_4_code
def yX8_train : MethodName := ⟨RX8, "train", "(I)I"⟩
abbrev cX8_boat : ByteArray := prog_1_method_5_code
def yX8_boat : MethodName := ⟨RX8, "boat", "(II)I"⟩
abbrev cX8_call : ByteArray := prog_1_method_6_code
def yX8_call : MethodName := ⟨RX8, "call", "(II)I"⟩
abbrev cX8_borrow : ByteArray := prog_1_method_7_code
def yX8_borrow : MethodName := ⟨RX8, "borrow", "(II)I"⟩
abbrev cX8_giveBack : ByteArray := prog_1_method_8_code
def yX8_giveBack : MethodName := ⟨RX8, "giveBack", "(I)I"⟩
abbrev cX8_limit : ByteArray := prog_1_method_9_code
def yX8_limit : MethodName := ⟨RX8, "limit", "(I)I"⟩
abbrev cX8_pass : ByteArray := prog_1_method_10_code
def yX8_pass : MethodName := ⟨RX8, "pass", "(I)I"⟩
abbrev cX8_height : ByteArray := prog_1_method_11_code
def yX8_height : MethodName := ⟨RX8, "height", "(I)I"⟩
abbrev cX8_memberOf : ByteArray := prog_1_method_12_code
def yX8_memberOf : MethodName := ⟨RX8, "memberOf", "(II)I"⟩
abbrev cX8_boatOf : ByteArray := prog_1_method_13_code
def yX8_boatOf : MethodName := ⟨RX8, "boatOf", "(II)I"⟩
abbrev cX8_crew : ByteArray := prog_1_method_14_code
def yX8_crew : MethodName := ⟨RX8, "crew", "(I)I"⟩
abbrev cX8_able : ByteArray := prog_1_method_15_code
def yX8_able : MethodName := ⟨RX8, "able", "()I"⟩
abbrev cX8_wouldGo : ByteArray := prog_1_method_16_code
def yX8_wouldGo : MethodName := ⟨RX8, "wouldGo", "(I)I"⟩
abbrev cX8_weariness : ByteArray := prog_1_method_17_code
def yX8_weariness : MethodName := ⟨RX8, "weariness", "(I)I"⟩
abbrev cX8_wearinessAgain : ByteArray := prog_1_method_18_code
def yX8_wearinessAgain : MethodName := ⟨RX8, "wearinessAgain", "(I)I"⟩
abbrev cX8_wouldRefuse : ByteArray := prog_1_method_19_code
def yX8_wouldRefuse : MethodName := ⟨RX8, "wouldRefuse", "(I)I"⟩
abbrev cX8_callableIn : ByteArray := prog_1_method_20_code
def yX8_callableIn : MethodName := ⟨RX8, "callableIn", "(I)I"⟩
abbrev cX8_homeIn : ByteArray := prog_1_method_21_code
def yX8_homeIn : MethodName := ⟨RX8, "homeIn", "(I)I"⟩
abbrev cX8_homeInAgain : ByteArray := prog_1_method_22_code
def yX8_homeInAgain : MethodName := ⟨RX8, "homeInAgain", "(I)I"⟩
abbrev cX8_loanOf : ByteArray := prog_1_method_23_code
def yX8_loanOf : MethodName := ⟨RX8, "loanOf", "(II)I"⟩
abbrev cX8_free : ByteArray := prog_1_method_24_code
def yX8_free : MethodName := ⟨RX8, "free", "()I"⟩
abbrev cX8_least : ByteArray := prog_1_method_25_code
def yX8_least : MethodName := ⟨RX8, "least", "(I)I"⟩
abbrev cX8_busiest : ByteArray := prog_1_method_26_code
def yX8_busiest : MethodName := ⟨RX8, "busiest", "(I)I"⟩
abbrev cX8_append : ByteArray := prog_1_method_27_code
def yX8_append : MethodName := ⟨RX8, "append", "(C)I"⟩
abbrev cX8_commands : ByteArray := prog_1_method_28_code
def yX8_commands : MethodName := ⟨RX8, "commands", "()I"⟩
abbrev cX8_faultPosition : ByteArray := prog_1_method_29_code
def yX8_faultPosition : MethodName := ⟨RX8, "faultPosition", "()I"⟩
abbrev cX8_reason : ByteArray := prog_1_method_30_code
def yX8_reason : MethodName := ⟨RX8, "reason", "(ZZ)I"⟩
abbrev cX8_line : ByteArray := prog_1_method_31_code
def yX8_line : MethodName := ⟨RX8, "line", "(I)I"⟩
abbrev cX8_character : ByteArray := prog_1_method_32_code
def yX8_character : MethodName := ⟨RX8, "character", "(I)C"⟩
abbrev cX8_meanWeariness : ByteArray := prog_1_method_33_code
def yX8_meanWeariness : MethodName := ⟨RX8, "meanWeariness", "()D"⟩
abbrev cX8_outShare : ByteArray := prog_1_method_34_code
def yX8_outShare : MethodName := ⟨RX8, "outShare", "()F"⟩
abbrev cX8_account : ByteArray := prog_1_method_35_code
def yX8_account : MethodName := ⟨RX8, "account", "(I)I"⟩
abbrev cX8_undo : ByteArray := prog_1_method_36_code
def yX8_undo : MethodName := ⟨RX8, "undo", "()I"⟩
abbrev cX8_save : ByteArray := prog_1_method_37_code
def yX8_save : MethodName := ⟨RX8, "save", "()I"⟩
abbrev cX8_restore : ByteArray := prog_1_method_38_code
def yX8_restore : MethodName := ⟨RX8, "restore", "()I"⟩
abbrev cX8_change : ByteArray := prog_1_method_39_code
def yX8_change : MethodName := ⟨RX8, "change", "(LBoatRota$Deed;II)I"⟩
abbrev cX8_judge : ByteArray := prog_1_method_40_code
def yX8_judge : MethodName := ⟨RX8, "judge", "(LBoatRota$Deed;II)V"⟩
abbrev cX8_carryOut : ByteArray := prog_1_method_41_code
def yX8_carryOut : MethodName := ⟨RX8, "carryOut", "(LBoatRota$Deed;II)I"⟩
abbrev cX8_carryOutAll : ByteArray := prog_1_method_42_code
def yX8_carryOutAll : MethodName := ⟨RX8, "carryOutAll", "()I"⟩
abbrev cX8_remember : ByteArray := prog_1_method_43_code
def yX8_remember : MethodName := ⟨RX8, "remember", "(LBoatRota$Station;)V"⟩
abbrev cX8_forgetOldest : ByteArray := prog_1_method_44_code
def yX8_forgetOldest : MethodName := ⟨RX8, "forgetOldest", "()V"⟩
abbrev cX8_writeCrew : ByteArray := prog_1_method_45_code
def yX8_writeCrew : MethodName := ⟨RX8, "writeCrew", "(II)V"⟩
abbrev cX8_requireBoat : ByteArray := prog_1_method_46_code
def yX8_requireBoat : MethodName := ⟨RX8, "requireBoat", "(I)V"⟩
abbrev cX8_requireCrew : ByteArray := prog_1_method_47_code
def yX8_requireCrew : MethodName := ⟨RX8, "requireCrew", "(I)V"⟩
abbrev cX8_requireOut : ByteArray := prog_1_method_48_code
def yX8_requireOut : MethodName := ⟨RX8, "requireOut", "(I)V"⟩
abbrev cX8_heightAt : ByteArray := prog_1_method_49_code
def yX8_heightAt : MethodName := ⟨RX8, "heightAt", "(I)I"⟩
abbrev cX8_isIn : ByteArray := prog_1_method_50_code
def yX8_isIn : MethodName := ⟨RX8, "isIn", "(II)Z"⟩
def RX9 : String := "BoatRotaModel"
def TX9 : u_T := fun k => match k with
  | 0 => ("BoatRotaModel", "s", "[I", true)
  | 1 => ("BoatRotaModel", "was", "[I", true)
  | 2 => ("BoatRotaModel", "thought", "[I", true)
  | 3 => ("BoatRotaModel", "saved", "[I", true)
  | 4 => ("BoatRotaModel", "past", "[I", true)
  | 5 => ("BoatRotaModel", "changes", "I", false)
  | 6 => ("BoatRotaModel", "thrown", "I", false)
  | 7 => ("BoatRotaModel", "reason", "I", false)
  | 8 => ("BoatRotaModel", "detail", "I", false)
  | 9 => ("BoatRotaModel", "cause", "I", false)
  | 10 => ("BoatRotaModel", "causeDetail", "I", false)
  | 11 => ("BoatRotaModel", "faultAt", "I", false)
  | 12 => ("BoatRotaModel", "isSaved", "Z", false)
  | 13 => ("BoatRotaModel", "tape", "[I", true)
  | 14 => ("BoatRotaModel", "orders", "[I", true)
  | 15 => ("BoatRotaModel", "taped", "I", false)
  | 16 => ("BoatRotaModel", "here", "I", false)
  | 17 => ("BoatRotaModel", "orderMany", "I", false)
  | 18 => ("BoatRotaModel", "line", "[I", true)
  | _ => ("BoatRotaModel", "lined", "I", false)
def tyX9 : Nat → FieldType := fun k => match k with
  | 0 => .array .int
  | 1 => .array .int
  | 2 => .array .int
  | 3 => .array .int
  | 4 => .array .int
  | 5 => .int
  | 6 => .int
  | 7 => .int
  | 8 => .int
  | 9 => .int
  | 10 => .int
  | 11 => .int
  | 12 => .boolean
  | 13 => .array .int
  | 14 => .array .int
  | 15 => .int
  | 16 => .int
  | 17 => .int
  | 18 => .array .int
  | _ => .int
theorem nmX9 : ∀ a, a < 20 → ∀ b, b < 20 → a ≠ b → (TX9 a).2.1 ≠ (TX9 b).2.1 := by decide +kernel
theorem tyX9_ok : ∀ k, k < 20 → parseFieldDescriptor (TX9 k).2.2.1 = some (tyX9 k) := by decide +kernel
abbrev cX9_init : ByteArray := prog_11_method_1_code
def yX9_init : MethodName := ⟨RX9, "<init>", "()V"⟩
abbrev cX9_thrown : ByteArray := prog_11_method_2_code
def yX9_thrown : MethodName := ⟨RX9, "thrown", "()I"⟩
abbrev cX9_isIn : ByteArray := prog_11_method_3_code
def yX9_isIn : MethodName := ⟨RX9, "isIn", "(III)Z"⟩
abbrev cX9_greater : ByteArray := prog_11_method_4_code
def yX9_greater : MethodName := ⟨RX9, "greater", "(II)I"⟩
abbrev cX9_copies : ByteArray := prog_11_method_5_code
def yX9_copies : MethodName := ⟨RX9, "copies", "([II[II)V"⟩
abbrev cX9_keeps : ByteArray := prog_11_method_6_code
def yX9_keeps : MethodName := ⟨RX9, "keeps", "()V"⟩
abbrev cX9_changed : ByteArray := prog_11_method_7_code
def yX9_changed : MethodName := ⟨RX9, "changed", "()V"⟩
abbrev cX9_ends : ByteArray := prog_11_method_8_code
def yX9_ends : MethodName := ⟨RX9, "ends", "(II)I"⟩
abbrev cX9_isThrown : ByteArray := prog_11_method_9_code
def yX9_isThrown : MethodName := ⟨RX9, "isThrown", "(ZI)Z"⟩
abbrev cX9_isRefused : ByteArray := prog_11_method_10_code
def yX9_isRefused : MethodName := ⟨RX9, "isRefused", "(ZII)Z"⟩
abbrev cX9_of : ByteArray := prog_11_method_11_code
def yX9_of : MethodName := ⟨RX9, "of", "(II)I"⟩
abbrev cX9_sets : ByteArray := prog_11_method_12_code
def yX9_sets : MethodName := ⟨RX9, "sets", "(III)V"⟩
abbrev cX9_ofBoat : ByteArray := prog_11_method_13_code
def yX9_ofBoat : MethodName := ⟨RX9, "ofBoat", "(II)I"⟩
abbrev cX9_setsBoat : ByteArray := prog_11_method_14_code
def yX9_setsBoat : MethodName := ⟨RX9, "setsBoat", "(III)V"⟩
abbrev cX9_ofLoan : ByteArray := prog_11_method_15_code
def yX9_ofLoan : MethodName := ⟨RX9, "ofLoan", "(II)I"⟩
abbrev cX9_isMember : ByteArray := prog_11_method_16_code
def yX9_isMember : MethodName := ⟨RX9, "isMember", "(I)Z"⟩
abbrev cX9_isBoat : ByteArray := prog_11_method_17_code
def yX9_isBoat : MethodName := ⟨RX9, "isBoat", "(I)Z"⟩
abbrev cX9_isLoan : ByteArray := prog_11_method_18_code
def yX9_isLoan : MethodName := ⟨RX9, "isLoan", "(I)Z"⟩
abbrev cX9_isOutside : ByteArray := prog_11_method_19_code
def yX9_isOutside : MethodName := ⟨RX9, "isOutside", "(Z)Z"⟩
abbrev cX9_heightAt : ByteArray := prog_11_method_20_code
def yX9_heightAt : MethodName := ⟨RX9, "heightAt", "(I)I"⟩
abbrev cX9_isLow : ByteArray := prog_11_method_21_code
def yX9_isLow : MethodName := ⟨RX9, "isLow", "(I)Z"⟩
abbrev cX9_allOars : ByteArray := prog_11_method_22_code
def yX9_allOars : MethodName := ⟨RX9, "allOars", "()I"⟩
abbrev cX9_oarsOut : ByteArray := prog_11_method_23_code
def yX9_oarsOut : MethodName := ⟨RX9, "oarsOut", "()I"⟩
abbrev cX9_freeOars : ByteArray := prog_11_method_24_code
def yX9_freeOars : MethodName := ⟨RX9, "freeOars", "()I"⟩
abbrev cX9_comes : ByteArray := prog_11_method_25_code
def yX9_comes : MethodName := ⟨RX9, "comes", "(I)I"⟩
abbrev cX9_member : ByteArray := prog_11_method_26_code
def yX9_member : MethodName := ⟨RX9, "member", "(I)I"⟩
abbrev cX9_remaining : ByteArray := prog_11_method_27_code
def yX9_remaining : MethodName := ⟨RX9, "remaining", "()I"⟩
abbrev cX9_isNotAshore : ByteArray := prog_11_method_28_code
def yX9_isNotAshore : MethodName := ⟨RX9, "isNotAshore", "(I)Z"⟩
abbrev cX9_leaves : ByteArray := prog_11_method_29_code
def yX9_leaves : MethodName := ⟨RX9, "leaves", "(I)I"⟩
abbrev cX9_leave : ByteArray := prog_11_method_30_code
def yX9_leave : MethodName := ⟨RX9, "leave", "(I)I"⟩
abbrev cX9_trains : ByteArray := prog_11_method_31_code
def yX9_trains : MethodName := ⟨RX9, "trains", "(I)I"⟩
abbrev cX9_train : ByteArray := prog_11_method_32_code
def yX9_train : MethodName := ⟨RX9, "train", "(I)I"⟩
abbrev cX9_isAble : ByteArray := prog_11_method_33_code
def yX9_isAble : MethodName := ⟨RX9, "isAble", "(I)Z"⟩
abbrev cX9_ableSet : ByteArray := prog_11_method_34_code
def yX9_ableSet : MethodName := ⟨RX9, "ableSet", "()I"⟩
abbrev cX9_bits : ByteArray := prog_11_method_35_code
def yX9_bits : MethodName := ⟨RX9, "bits", "(I)I"⟩
abbrev cX9_builds : ByteArray := prog_11_method_36_code
def yX9_builds : MethodName := ⟨RX9, "builds", "(II)I"⟩
abbrev cX9_boat : ByteArray := prog_11_method_37_code
def yX9_boat : MethodName := ⟨RX9, "boat", "(II)I"⟩
abbrev cX9_leastOf : ByteArray := prog_11_method_38_code
def yX9_leastOf : MethodName := ⟨RX9, "leastOf", "(II)I"⟩
abbrev cX9_skilled : ByteArray := prog_11_method_39_code
def yX9_skilled : MethodName := ⟨RX9, "skilled", "(I)I"⟩
abbrev cX9_must : ByteArray := prog_11_method_40_code
def yX9_must : MethodName := ⟨RX9, "must", "(I)I"⟩
abbrev cX9_whyNoCrew : ByteArray := prog_11_method_41_code
def yX9_whyNoCrew : MethodName := ⟨RX9, "whyNoCrew", "(I)I"⟩
abbrev cX9_crewFor : ByteArray := prog_11_method_42_code
def yX9_crewFor : MethodName := ⟨RX9, "crewFor", "(I)I"⟩
abbrev cX9_whyNot : ByteArray := prog_11_method_43_code
def yX9_whyNot : MethodName := ⟨RX9, "whyNot", "(I)I"⟩
abbrev cX9_lacking : ByteArray := prog_11_method_44_code
def yX9_lacking : MethodName := ⟨RX9, "lacking", "(II)I"⟩
abbrev cX9_calls : ByteArray := prog_11_method_45_code
def yX9_calls : MethodName := ⟨RX9, "calls", "(II)I"⟩
abbrev cX9_call : ByteArray := prog_11_method_46_code
def yX9_call : MethodName := ⟨RX9, "call", "(II)I"⟩
abbrev cX9_borrows : ByteArray := prog_11_method_47_code
def yX9_borrows : MethodName := ⟨RX9, "borrows", "(II)I"⟩
abbrev cX9_borrow : ByteArray := prog_11_method_48_code
def yX9_borrow : MethodName := ⟨RX9, "borrow", "(II)I"⟩
abbrev cX9_takesLoan : ByteArray := prog_11_method_49_code
def yX9_takesLoan : MethodName := ⟨RX9, "takesLoan", "(I)V"⟩
abbrev cX9_givesBack : ByteArray := prog_11_method_50_code
def yX9_givesBack : MethodName := ⟨RX9, "givesBack", "(I)I"⟩
abbrev cX9_giveBack : ByteArray := prog_11_method_51_code
def yX9_giveBack : MethodName := ⟨RX9, "giveBack", "(I)I"⟩
abbrev cX9_limits : ByteArray := prog_11_method_52_code
def yX9_limits : MethodName := ⟨RX9, "limits", "(I)I"⟩
abbrev cX9_limit : ByteArray := prog_11_method_53_code
def yX9_limit : MethodName := ⟨RX9, "limit", "(I)I"⟩
abbrev cX9_memberGoes : ByteArray := prog_11_method_54_code
def yX9_memberGoes : MethodName := ⟨RX9, "memberGoes", "(I)V"⟩
abbrev cX9_comesIn : ByteArray := prog_11_method_55_code
def yX9_comesIn : MethodName := ⟨RX9, "comesIn", "(I)V"⟩
abbrev cX9_boatGoes : ByteArray := prog_11_method_56_code
def yX9_boatGoes : MethodName := ⟨RX9, "boatGoes", "(I)V"⟩
abbrev cX9_loansGo : ByteArray := prog_11_method_57_code
def yX9_loansGo : MethodName := ⟨RX9, "loansGo", "()V"⟩
abbrev cX9_hourGoes : ByteArray := prog_11_method_58_code
def yX9_hourGoes : MethodName := ⟨RX9, "hourGoes", "()V"⟩
abbrev cX9_passes : ByteArray := prog_11_method_59_code
def yX9_passes : MethodName := ⟨RX9, "passes", "(I)I"⟩
abbrev cX9_pass : ByteArray := prog_11_method_60_code
def yX9_pass : MethodName := ⟨RX9, "pass", "(I)I"⟩
abbrev cX9_height : ByteArray := prog_11_method_61_code
def yX9_height : MethodName := ⟨RX9, "height", "(I)I"⟩
abbrev cX9_memberOf : ByteArray := prog_11_method_62_code
def yX9_memberOf : MethodName := ⟨RX9, "memberOf", "(II)I"⟩
abbrev cX9_boatOf : ByteArray := prog_11_method_63_code
def yX9_boatOf : MethodName := ⟨RX9, "boatOf", "(II)I"⟩
abbrev cX9_crewOf : ByteArray := prog_11_method_64_code
def yX9_crewOf : MethodName := ⟨RX9, "crewOf", "(I)I"⟩
abbrev cX9_crew : ByteArray := prog_11_method_65_code
def yX9_crew : MethodName := ⟨RX9, "crew", "(I)I"⟩
abbrev cX9_able : ByteArray := prog_11_method_66_code
def yX9_able : MethodName := ⟨RX9, "able", "()I"⟩
abbrev cX9_wouldGo : ByteArray := prog_11_method_67_code
def yX9_wouldGo : MethodName := ⟨RX9, "wouldGo", "(I)I"⟩
abbrev cX9_weariness : ByteArray := prog_11_method_68_code
def yX9_weariness : MethodName := ⟨RX9, "weariness", "(I)I"⟩
abbrev cX9_wearinessAgain : ByteArray := prog_11_method_69_code
def yX9_wearinessAgain : MethodName := ⟨RX9, "wearinessAgain", "(I)I"⟩
abbrev cX9_wouldRefuse : ByteArray := prog_11_method_70_code
def yX9_wouldRefuse : MethodName := ⟨RX9, "wouldRefuse", "(I)I"⟩
abbrev cX9_callableIn : ByteArray := prog_11_method_71_code
def yX9_callableIn : MethodName := ⟨RX9, "callableIn", "(I)I"⟩
abbrev cX9_homeIn : ByteArray := prog_11_method_72_code
def yX9_homeIn : MethodName := ⟨RX9, "homeIn", "(I)I"⟩
abbrev cX9_homeInAgain : ByteArray := prog_11_method_73_code
def yX9_homeInAgain : MethodName := ⟨RX9, "homeInAgain", "(I)I"⟩
abbrev cX9_loanOf : ByteArray := prog_11_method_74_code
def yX9_loanOf : MethodName := ⟨RX9, "loanOf", "(II)I"⟩
abbrev cX9_free : ByteArray := prog_11_method_75_code
def yX9_free : MethodName := ⟨RX9, "free", "()I"⟩
abbrev cX9_isLess : ByteArray := prog_11_method_76_code
def yX9_isLess : MethodName := ⟨RX9, "isLess", "(II)Z"⟩
abbrev cX9_least : ByteArray := prog_11_method_77_code
def yX9_least : MethodName := ⟨RX9, "least", "(I)I"⟩
abbrev cX9_isBusier : ByteArray := prog_11_method_78_code
def yX9_isBusier : MethodName := ⟨RX9, "isBusier", "(II)Z"⟩
abbrev cX9_busiest : ByteArray := prog_11_method_79_code
def yX9_busiest : MethodName := ⟨RX9, "busiest", "(I)I"⟩
abbrev cX9_append : ByteArray := prog_11_method_80_code
def yX9_append : MethodName := ⟨RX9, "append", "(C)I"⟩
abbrev cX9_sign : ByteArray := prog_11_method_81_code
def yX9_sign : MethodName := ⟨RX9, "sign", "()I"⟩
abbrev cX9_isSign : ByteArray := prog_11_method_82_code
def yX9_isSign : MethodName := ⟨RX9, "isSign", "(I)Z"⟩
abbrev cX9_isNumber : ByteArray := prog_11_method_83_code
def yX9_isNumber : MethodName := ⟨RX9, "isNumber", "(II)Z"⟩
abbrev cX9_isWord : ByteArray := prog_11_method_84_code
def yX9_isWord : MethodName := ⟨RX9, "isWord", "(I)Z"⟩
abbrev cX9_readsCommand : ByteArray := prog_11_method_85_code
def yX9_readsCommand : MethodName := ⟨RX9, "readsCommand", "()Z"⟩
abbrev cX9_isText : ByteArray := prog_11_method_86_code
def yX9_isText : MethodName := ⟨RX9, "isText", "()Z"⟩
abbrev cX9_does : ByteArray := prog_11_method_87_code
def yX9_does : MethodName := ⟨RX9, "does", "(I)I"⟩
abbrev cX9_isCause : ByteArray := prog_11_method_88_code
def yX9_isCause : MethodName := ⟨RX9, "isCause", "(I)V"⟩
abbrev cX9_commands : ByteArray := prog_11_method_89_code
def yX9_commands : MethodName := ⟨RX9, "commands", "()I"⟩
abbrev cX9_faultPosition : ByteArray := prog_11_method_90_code
def yX9_faultPosition : MethodName := ⟨RX9, "faultPosition", "()I"⟩
abbrev cX9_reason : ByteArray := prog_11_method_91_code
def yX9_reason : MethodName := ⟨RX9, "reason", "(ZZ)I"⟩
abbrev cX9_puts : ByteArray := prog_11_method_92_code
def yX9_puts : MethodName := ⟨RX9, "puts", "(I)V"⟩
abbrev cX9_line : ByteArray := prog_11_method_93_code
def yX9_line : MethodName := ⟨RX9, "line", "(I)I"⟩
abbrev cX9_character : ByteArray := prog_11_method_94_code
def yX9_character : MethodName := ⟨RX9, "character", "(I)C"⟩
abbrev cX9_meanWeariness : ByteArray := prog_11_method_95_code
def yX9_meanWeariness : MethodName := ⟨RX9, "meanWeariness", "()D"⟩
abbrev cX9_outShare : ByteArray := prog_11_method_96_code
def yX9_outShare : MethodName := ⟨RX9, "outShare", "()F"⟩
abbrev cX9_boatsOut : ByteArray := prog_11_method_97_code
def yX9_boatsOut : MethodName := ⟨RX9, "boatsOut", "()I"⟩
abbrev cX9_account : ByteArray := prog_11_method_98_code
def yX9_account : MethodName := ⟨RX9, "account", "(I)I"⟩
abbrev cX9_undo : ByteArray := prog_11_method_99_code
def yX9_undo : MethodName := ⟨RX9, "undo", "()I"⟩
abbrev cX9_save : ByteArray := prog_11_method_100_code
def yX9_save : MethodName := ⟨RX9, "save", "()I"⟩
abbrev cX9_restore : ByteArray := prog_11_method_101_code
def yX9_restore : MethodName := ⟨RX9, "restore", "()I"⟩
def RJ5 : String := "java/lang/AbstractStringBuilder"
def TJ5 : u_T := fun k => match k with
  | _ => ("", "", "", false)
def tyJ5 : Nat → FieldType := fun k => match k with
  | _ => .int
theorem nmJ5 : ∀ a, a < 0 → ∀ b, b < 0 → a ≠ b → (TJ5 a).2.1 ≠ (TJ5 b).2.1 := by decide +kernel
theorem tyJ5_ok : ∀ k, k < 0 → parseFieldDescriptor (TJ5 k).2.2.1 = some (tyJ5 k) := by decide +kernel
abbrev cJ5_init_d00df : ByteArray := prog_13_method_2_code
def yJ5_init_d00df : MethodName := ⟨RJ5, "<init>", "(I)V"⟩
abbrev cJ5_length_8abf5 : ByteArray := prog_13_method_6_code
def yJ5_length_8abf5 : MethodName := ⟨RJ5, "length", "()I"⟩
abbrev cJ5_ensureCapacityInternal_d00df : ByteArray := prog_13_method_9_code
def yJ5_ensureCapacityInternal_d00df : MethodName := ⟨RJ5, "ensureCapacityInternal", "(I)V"⟩
abbrev cJ5_newCapacity_0f7a4 : ByteArray := prog_13_method_10_code
def yJ5_newCapacity_0f7a4 : MethodName := ⟨RJ5, "newCapacity", "(I)I"⟩
abbrev cJ5_inflate_da8c8 : ByteArray := prog_13_method_11_code
def yJ5_inflate_da8c8 : MethodName := ⟨RJ5, "inflate", "()V"⟩
abbrev cJ5_setLength_d00df : ByteArray := prog_13_method_13_code
def yJ5_setLength_d00df : MethodName := ⟨RJ5, "setLength", "(I)V"⟩
abbrev cJ5_charAt_5068e : ByteArray := prog_13_method_14_code
def yJ5_charAt_5068e : MethodName := ⟨RJ5, "charAt", "(I)C"⟩
abbrev cJ5_append_cf1ce : ByteArray := prog_13_method_22_code
def yJ5_append_cf1ce : MethodName := ⟨RJ5, "append", "(Ljava/lang/String;)Ljava/lang/AbstractStringBuilder;"⟩
abbrev cJ5_appendNull_278bc : ByteArray := prog_13_method_26_code
def yJ5_appendNull_278bc : MethodName := ⟨RJ5, "appendNull", "()Ljava/lang/AbstractStringBuilder;"⟩
abbrev cJ5_append_3fe6f : ByteArray := prog_13_method_31_code
def yJ5_append_3fe6f : MethodName := ⟨RJ5, "append", "(C)Ljava/lang/AbstractStringBuilder;"⟩
abbrev cJ5_append_c97b9 : ByteArray := prog_13_method_32_code
def yJ5_append_c97b9 : MethodName := ⟨RJ5, "append", "(I)Ljava/lang/AbstractStringBuilder;"⟩
abbrev cJ5_getValue_6d5f1 : ByteArray := prog_13_method_64_code
def yJ5_getValue_6d5f1 : MethodName := ⟨RJ5, "getValue", "()[B"⟩
abbrev cJ5_isLatin1_aae02 : ByteArray := prog_13_method_68_code
def yJ5_isLatin1_aae02 : MethodName := ⟨RJ5, "isLatin1", "()Z"⟩
abbrev cJ5_inflateIfNeededFor_a7421 : ByteArray := prog_13_method_71_code
def yJ5_inflateIfNeededFor_a7421 : MethodName := ⟨RJ5, "inflateIfNeededFor", "(Ljava/lang/String;)V"⟩
abbrev cJ5_putStringAt_47b60 : ByteArray := prog_13_method_73_code
def yJ5_putStringAt_47b60 : MethodName := ⟨RJ5, "putStringAt", "(ILjava/lang/String;)V"⟩
def RJx29ce0 : String := "java/lang/Enum"
def TJx29ce0 : u_T := fun k => match k with
  | _ => ("", "", "", false)
def tyJx29ce0 : Nat → FieldType := fun k => match k with
  | _ => .int
theorem nmJx29ce0 : ∀ a, a < 0 → ∀ b, b < 0 → a ≠ b → (TJx29ce0 a).2.1 ≠ (TJx29ce0 b).2.1 := by decide +kernel
theorem tyJx29ce0_ok : ∀ k, k < 0 → parseFieldDescriptor (TJx29ce0 k).2.2.1 = some (tyJx29ce0 k) := by decide +kernel
abbrev cJx29ce0_ordinal_8abf5 : ByteArray := prog_20_method_2_code
def yJx29ce0_ordinal_8abf5 : MethodName := ⟨RJx29ce0, "ordinal", "()I"⟩
def RJ6 : String := "java/lang/Integer"
def TJ6 : u_T := fun k => match k with
  | _ => ("", "", "", false)
def tyJ6 : Nat → FieldType := fun k => match k with
  | _ => .int
theorem nmJ6 : ∀ a, a < 0 → ∀ b, b < 0 → a ≠ b → (TJ6 a).2.1 ≠ (TJ6 b).2.1 := by decide +kernel
theorem tyJ6_ok : ∀ k, k < 0 → parseFieldDescriptor (TJ6 k).2.2.1 = some (tyJ6 k) := by decide +kernel
abbrev cJ6_getChars_ba4f3 : ByteArray := prog_25_method_12_code
def yJ6_getChars_ba4f3 : MethodName := ⟨RJ6, "getChars", "(II[B)I"⟩
abbrev cJ6_stringSize_0f7a4 : ByteArray := prog_25_method_13_code
def yJ6_stringSize_0f7a4 : MethodName := ⟨RJ6, "stringSize", "(I)I"⟩
abbrev cJ6_bitCount_0f7a4 : ByteArray := prog_25_method_49_code
def yJ6_bitCount_0f7a4 : MethodName := ⟨RJ6, "bitCount", "(I)I"⟩
def RJ9 : String := "java/lang/Math"
def TJ9 : u_T := fun k => match k with
  | _ => ("", "", "", false)
def tyJ9 : Nat → FieldType := fun k => match k with
  | _ => .int
theorem nmJ9 : ∀ a, a < 0 → ∀ b, b < 0 → a ≠ b → (TJ9 a).2.1 ≠ (TJ9 b).2.1 := by decide +kernel
theorem tyJ9_ok : ∀ k, k < 0 → parseFieldDescriptor (TJ9 k).2.2.1 = some (tyJ9 k) := by decide +kernel
abbrev cJ9_max_7cf53 : ByteArray := prog_26_method_65_code
def yJ9_max_7cf53 : MethodName := ⟨RJ9, "max", "(II)I"⟩
abbrev cJ9_min_7cf53 : ByteArray := prog_26_method_69_code
def yJ9_min_7cf53 : MethodName := ⟨RJ9, "min", "(II)I"⟩
def RJ4 : String := "java/lang/StringBuilder"
def TJ4 : u_T := fun k => match k with
  | 0 => ("java/lang/AbstractStringBuilder", "value", "[B", false)
  | 1 => ("java/lang/AbstractStringBuilder", "coder", "B", false)
  | 2 => ("java/lang/AbstractStringBuilder", "maybeLatin1", "Z", false)
  | _ => ("java/lang/AbstractStringBuilder", "count", "I", false)
def tyJ4 : Nat → FieldType := fun k => match k with
  | 0 => .array .byte
  | 1 => .byte
  | 2 => .boolean
  | _ => .int
theorem nmJ4 : ∀ a, a < 4 → ∀ b, b < 4 → a ≠ b → (TJ4 a).2.1 ≠ (TJ4 b).2.1 := by decide +kernel
theorem tyJ4_ok : ∀ k, k < 4 → parseFieldDescriptor (TJ4 k).2.2.1 = some (tyJ4 k) := by decide +kernel
abbrev cJ4_init_da8c8 : ByteArray := prog_30_method_1_code
def yJ4_init_da8c8 : MethodName := ⟨RJ4, "<init>", "()V"⟩
abbrev cJ4_append_15ec4 : ByteArray := prog_30_method_7_code
def yJ4_append_15ec4 : MethodName := ⟨RJ4, "append", "(Ljava/lang/String;)Ljava/lang/StringBuilder;"⟩
abbrev cJ4_append_cf468 : ByteArray := prog_30_method_14_code
def yJ4_append_cf468 : MethodName := ⟨RJ4, "append", "(C)Ljava/lang/StringBuilder;"⟩
abbrev cJ4_append_bf812 : ByteArray := prog_30_method_15_code
def yJ4_append_bf812 : MethodName := ⟨RJ4, "append", "(I)Ljava/lang/StringBuilder;"⟩
abbrev cJ4_toString_0e30d : ByteArray := prog_30_method_42_code
def yJ4_toString_0e30d : MethodName := ⟨RJ4, "toString", "()Ljava/lang/String;"⟩
abbrev cJ4_charAt_5068e : ByteArray := prog_30_method_88_code
def yJ4_charAt_5068e : MethodName := ⟨RJ4, "charAt", "(I)C"⟩
abbrev cJ4_setLength_d00df : ByteArray := prog_30_method_89_code
def yJ4_setLength_d00df : MethodName := ⟨RJ4, "setLength", "(I)V"⟩
abbrev cJ4_length_8abf5 : ByteArray := prog_30_method_93_code
def yJ4_length_8abf5 : MethodName := ⟨RJ4, "length", "()I"⟩
def RL : String := "BoatRotaLaw"
abbrev cL_member : ByteArray := method_3_code
def yL_member : MethodName := ⟨RL, "member", "(LBoatRota;I[J)I"⟩
abbrev cL_leave : ByteArray := method_4_code
def yL_leave : MethodName := ⟨RL, "leave", "(LBoatRota;I[J)I"⟩
abbrev cL_train : ByteArray := method_5_code
def yL_train : MethodName := ⟨RL, "train", "(LBoatRota;I[J)I"⟩
abbrev cL_boat : ByteArray := method_6_code
def yL_boat : MethodName := ⟨RL, "boat", "(LBoatRota;II[J)I"⟩
abbrev cL_call : ByteArray := method_7_code
def yL_call : MethodName := ⟨RL, "call", "(LBoatRota;II[J)I"⟩
abbrev cL_borrow : ByteArray := method_8_code
def yL_borrow : MethodName := ⟨RL, "borrow", "(LBoatRota;II[J)I"⟩
abbrev cL_giveBack : ByteArray := method_9_code
def yL_giveBack : MethodName := ⟨RL, "giveBack", "(LBoatRota;I[J)I"⟩
abbrev cL_limit : ByteArray := method_10_code
def yL_limit : MethodName := ⟨RL, "limit", "(LBoatRota;I[J)I"⟩
abbrev cL_pass : ByteArray := method_11_code
def yL_pass : MethodName := ⟨RL, "pass", "(LBoatRota;I[J)I"⟩
abbrev cL_height : ByteArray := method_12_code
def yL_height : MethodName := ⟨RL, "height", "(LBoatRota;I[J)I"⟩
abbrev cL_memberOf : ByteArray := method_13_code
def yL_memberOf : MethodName := ⟨RL, "memberOf", "(LBoatRota;II[J)I"⟩
abbrev cL_boatOf : ByteArray := method_14_code
def yL_boatOf : MethodName := ⟨RL, "boatOf", "(LBoatRota;II[J)I"⟩
abbrev cL_crew : ByteArray := method_15_code
def yL_crew : MethodName := ⟨RL, "crew", "(LBoatRota;I[J)I"⟩
abbrev cL_wouldGo : ByteArray := method_16_code
def yL_wouldGo : MethodName := ⟨RL, "wouldGo", "(LBoatRota;I[J)I"⟩
abbrev cL_weariness : ByteArray := method_17_code
def yL_weariness : MethodName := ⟨RL, "weariness", "(LBoatRota;I[J)I"⟩
abbrev cL_wearinessAgain : ByteArray := method_18_code
def yL_wearinessAgain : MethodName := ⟨RL, "wearinessAgain", "(LBoatRota;I[J)I"⟩
abbrev cL_wouldRefuse : ByteArray := method_19_code
def yL_wouldRefuse : MethodName := ⟨RL, "wouldRefuse", "(LBoatRota;I[J)I"⟩
abbrev cL_callableIn : ByteArray := method_20_code
def yL_callableIn : MethodName := ⟨RL, "callableIn", "(LBoatRota;I[J)I"⟩
abbrev cL_homeIn : ByteArray := method_21_code
def yL_homeIn : MethodName := ⟨RL, "homeIn", "(LBoatRota;I[J)I"⟩
abbrev cL_homeInAgain : ByteArray := method_22_code
def yL_homeInAgain : MethodName := ⟨RL, "homeInAgain", "(LBoatRota;I[J)I"⟩
abbrev cL_loanOf : ByteArray := method_23_code
def yL_loanOf : MethodName := ⟨RL, "loanOf", "(LBoatRota;II[J)I"⟩
abbrev cL_least : ByteArray := method_24_code
def yL_least : MethodName := ⟨RL, "least", "(LBoatRota;I[J)I"⟩
abbrev cL_busiest : ByteArray := method_25_code
def yL_busiest : MethodName := ⟨RL, "busiest", "(LBoatRota;I[J)I"⟩
abbrev cL_append : ByteArray := method_26_code
def yL_append : MethodName := ⟨RL, "append", "(LBoatRota;C[J)I"⟩
abbrev cL_commands : ByteArray := method_27_code
def yL_commands : MethodName := ⟨RL, "commands", "(LBoatRota;[J)I"⟩
abbrev cL_reason : ByteArray := method_28_code
def yL_reason : MethodName := ⟨RL, "reason", "(LBoatRota;ZZ[J)I"⟩
abbrev cL_line : ByteArray := method_29_code
def yL_line : MethodName := ⟨RL, "line", "(LBoatRota;I[J)I"⟩
abbrev cL_character : ByteArray := method_30_code
def yL_character : MethodName := ⟨RL, "character", "(LBoatRota;I[J)I"⟩
abbrev cL_meanWeariness : ByteArray := method_31_code
def yL_meanWeariness : MethodName := ⟨RL, "meanWeariness", "(LBoatRota;[D)I"⟩
abbrev cL_account : ByteArray := method_32_code
def yL_account : MethodName := ⟨RL, "account", "(LBoatRota;I[J)I"⟩
abbrev cL_undo : ByteArray := method_33_code
def yL_undo : MethodName := ⟨RL, "undo", "(LBoatRota;[J)I"⟩
abbrev cL_restore : ByteArray := method_34_code
def yL_restore : MethodName := ⟨RL, "restore", "(LBoatRota;[J)I"⟩
abbrev cL_law : ByteArray := code
def yL_law : MethodName := ⟨RL, "law", "([I)Z"⟩
