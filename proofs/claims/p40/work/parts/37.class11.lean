set_option maxRecDepth 100000 in
set_option maxHeartbeats 4000000 in
theorem c_X8_requireBoat {Γ : Ga} {l : Launch} {ω : Wo} (hsl : l.stackTraces = false) (hR : CR ω) {σ : Row} (hS : St ω 1 σ) {M : Int} (hI : RI M σ) (hWI : WI σ)  {a : Int} (ha : Rg a) : XV Γ l yX8_requireBoat cX8_requireBoat 2 6 1 [.ref (rl Γ 0), .int (iI a)] ω (fun ω' => (0 ≤ a ∧ a ≤ σ 2 - 1) ∧ ω = ω') (fun E ω' => ω = ω' ∧ E = eIdx ∧ ¬ (0 ≤ a ∧ a ≤ σ 2 - 1)) := by
  refine MetX.ofJ (k := 0) [some (.ref (rl Γ 0)), some (.int (iI a))] (by decide) rfl rfl rfl (fun p e s mm args below meth c C hK2 hxt hrt => ?_)
  have hB := bs1
  have g := hI.s
  have gc := hI.c
  have gM := hI.2.1
  refine j_aload0 C dX8_requireBoat_0 ?_
  refine j_getr C fX8_12 at_0 rfl hR.1 dX8_requireBoat_1 ?_
  refine j_iload1 C dX8_requireBoat_4 ?_
  refine j_cVI1 C (c_X7_hasBoat hB (by exact hS) (by exact hI) (by exact hWI) ⟨by omega, by omega⟩) oX7_hasBoat kX8_463 ⟨_, rfl, rfl⟩ (at_st bs1) ⟨by decide, by decide⟩ rfl (Nat.le_of_ble_eq_true rfl) ⟨by decide, by decide⟩ dX8_requireBoat_5 ?_
  rintro _ _ hz5 ⟨rfl, rfl⟩
  refine j_ifneb C dX8_requireBoat_8 (fun hc8 => ?_) (fun hc8 => ?_)
  · -- 8 T
    refine j_xr (by decide) ?_
    refine j_vret C hrt dX8_requireBoat_22 ?_
    exact ⟨by assumption, rfl⟩
  · -- 8 F
    refine j_throwW hsl C hK2 hxt th_116 (List.mem_of_getElem? (i := 3) rfl) rfl dX8_requireBoat_11 dX8_requireBoat_14 dX8_requireBoat_15 dX8_requireBoat_18 dX8_requireBoat_21 (by decide) (Nat.le_of_ble_eq_true rfl) ⟨by decide, by decide⟩ ⟨by decide, by decide⟩ ?_
    exact ⟨rfl, rfl, by assumption⟩

set_option maxRecDepth 100000 in
set_option maxHeartbeats 4000000 in
theorem c_X8_memberOf {Γ : Ga} {l : Launch} {ω : Wo} (hsl : l.stackTraces = false) (hR : CR ω) {σ : Row} (hS : St ω 1 σ) {M : Int} (hI : RI M σ) (hWI : WI σ)  {a b : Int} (ha : Rg a) (hb : Rg b) : XI Γ l yX8_memberOf cX8_memberOf 4 .int 6 1 [.ref (rl Γ 0), .int (iI a), .int (iI b)] ω (fun z ω' => z = (qMember σ a b).2 ∧ (qMember σ a b).1 = 0 ∧ ω = ω') (fun E ω' => ω = ω' ∧ ((E = eIdx ∧ (qMember σ a b).1 = 1) ∨ (E = eArg ∧ (qMember σ a b).1 = 2))) := by
  refine MetX.ofJ (k := 1) [some (.ref (rl Γ 0)), some (.int (iI a)), some (.int (iI b)), none] (by decide) rfl rfl rfl (fun p e s mm args below meth c C hK2 hxt hrt => ?_)
  have hB := bs1
  have g := hI.s
  have gc := hI.c
  have gM := hI.2.1
  refine j_aload0 C dX8_memberOf_0 ?_
  refine j_getr C fX8_12 at_0 rfl hR.1 dX8_memberOf_1 ?_
  refine j_iload1 C dX8_memberOf_4 ?_
  refine j_cVI1 C (c_X7_hasMember hB (by exact hS) (by exact hI) (by exact hWI) ⟨by omega, by omega⟩) oX7_hasMember kX8_112 ⟨_, rfl, rfl⟩ (at_st bs1) ⟨by decide, by decide⟩ rfl (Nat.le_of_ble_eq_true rfl) ⟨by decide, by decide⟩ dX8_memberOf_5 ?_
  rintro _ _ hz5 ⟨rfl, rfl⟩
  refine j_ifneb C dX8_memberOf_8 (fun hc8 => ?_) (fun hc8 => ?_)
  · -- 8 T
    obtain ⟨k, rfl⟩ := Int.eq_ofNat_of_zero_le hc8.1
    have gm := hI.m k (by omega)
    have gp := plc_w hI hWI (k := k) (by omega)
    have gpk := plc_c (s := σ) (k := k) (by omega) (fun h => by have := gp; omega)
    refine j_aload0 C dX8_memberOf_21 ?_
    refine j_getr C fX8_12 at_0 rfl hR.1 dX8_memberOf_22 ?_
    refine j_getr C fX8_121 (at_st bs1) rfl hS.r.a0 dX8_memberOf_25 ?_
    refine j_iload1 C dX8_memberOf_28 ?_
    refine j_aald C (at_mA hB) rfl (Cn := RX4) rfl (N := 10) rfl (by decide) ⟨by omega, by omega⟩ (hS.r.m k (by omega)) dX8_memberOf_29 ?_
    refine j_astore3 C rfl dX8_memberOf_30 ?_
    refine j_iload2 C dX8_memberOf_31 ?_
    by_cases hb7 : 0 ≤ b ∧ b ≤ 7
    obtain h | h | h | h | h | h | h | h : b = 0 ∨ b = 1 ∨ b = 2 ∨ b = 3 ∨ b = 4 ∨ b = 5 ∨ b = 6 ∨ b = 7 := by omega
    all_goals try subst h
    · -- 32 case 0
      refine j_tswIn C (by decide) (by decide) (off := 48) rfl (tgt := 80) (by decide) dX8_memberOf_32 ?_
      refine j_aload3 C dX8_memberOf_80 ?_
      refine j_geti C fX8_125 (at_m hB (by omega)) rfl (hS.m0 k (by omega)) dX8_memberOf_81 (fun hr81 => ?_)
      refine j_xr (by decide) ?_
      refine j_iret C hrt dX8_memberOf_84 ⟨by omega, by omega⟩ ?_
      refine ⟨?_, ?_, rfl⟩ <;> (unfold qMember; repeat (first | rw [if_pos (by omega)] | rw [if_neg (by omega)]); try first | rfl | (dsimp only; omega))
    · -- 32 case 1
      refine j_tswIn C (by decide) (by decide) (off := 53) rfl (tgt := 85) (by decide) dX8_memberOf_32 ?_
      refine j_aload3 C dX8_memberOf_85 ?_
      refine j_geti C fX8_130 (at_m hB (by omega)) rfl (hS.m1 k (by omega)) dX8_memberOf_86 (fun hr86 => ?_)
      refine j_iconst C dX8_memberOf_89 ?_
      refine j_icmp_ne C ⟨by omega, by omega⟩ ⟨by omega, by omega⟩ dX8_memberOf_90 (fun hc90 => ?_) (fun hc90 => ?_)
      · -- 90 T
        refine j_aload3 C dX8_memberOf_97 ?_
        refine j_geti C fX8_130 (at_m hB (by omega)) rfl (hS.m1 k (by omega)) dX8_memberOf_98 (fun hr98 => ?_)
        refine j_bipush C (by decide) dX8_memberOf_101 ?_
        refine j_icmp_ne C ⟨by omega, by omega⟩ ⟨by omega, by omega⟩ dX8_memberOf_103 (fun hc103 => ?_) (fun hc103 => ?_)
        · -- 103 T
          refine j_iconst C dX8_memberOf_110 ?_
          refine j_xr (by decide) ?_
          refine j_iret C hrt dX8_memberOf_111 ⟨by omega, by omega⟩ ?_
          refine ⟨?_, ?_, rfl⟩ <;> (unfold qMember; repeat (first | rw [if_pos (by omega)] | rw [if_neg (by omega)]); try first | rfl | (dsimp only; omega))
        · -- 103 F
          refine j_iconst C dX8_memberOf_106 ?_
          refine j_goto C dX8_memberOf_107 ?_
          refine j_xr (by decide) ?_
          refine j_iret C hrt dX8_memberOf_111 ⟨by omega, by omega⟩ ?_
          refine ⟨?_, ?_, rfl⟩ <;> (unfold qMember; repeat (first | rw [if_pos (by omega)] | rw [if_neg (by omega)]); try first | rfl | (dsimp only; omega))
      · -- 90 F
        refine j_iconst C dX8_memberOf_93 ?_
        refine j_goto C dX8_memberOf_94 ?_
        refine j_xr (by decide) ?_
        refine j_iret C hrt dX8_memberOf_111 ⟨by omega, by omega⟩ ?_
        refine ⟨?_, ?_, rfl⟩ <;> (unfold qMember; repeat (first | rw [if_pos (by omega)] | rw [if_neg (by omega)]); try first | rfl | (dsimp only; omega))
    · -- 32 case 2
      refine j_tswIn C (by decide) (by decide) (off := 80) rfl (tgt := 112) (by decide) dX8_memberOf_32 ?_
      refine j_aload3 C dX8_memberOf_112 ?_
      refine j_geti C fX8_133 (at_m hB (by omega)) rfl (hS.m2 k (by omega)) dX8_memberOf_113 (fun hr113 => ?_)
      refine j_xr (by decide) ?_
      refine j_iret C hrt dX8_memberOf_116 ⟨by omega, by omega⟩ ?_
      refine ⟨?_, ?_, rfl⟩ <;> (unfold qMember; repeat (first | rw [if_pos (by omega)] | rw [if_neg (by omega)]); try first | rfl | (dsimp only; omega))
    · -- 32 case 3
      refine j_tswIn C (by decide) (by decide) (off := 85) rfl (tgt := 117) (by decide) dX8_memberOf_32 ?_
      refine j_aload3 C dX8_memberOf_117 ?_
      refine j_cVI0 C (c_X4_isOut (at_m hB (by omega)) (hS.m1 k (by omega))) oX4_isOut kX8_136 ⟨_, rfl, rfl⟩ (at_m hB (by omega)) ⟨by decide, by decide⟩ rfl (Nat.le_of_ble_eq_true rfl) ⟨by decide, by decide⟩ dX8_memberOf_118 ?_
      rintro _ _ hz118 ⟨rfl, rfl⟩
      refine j_ifeqb C dX8_memberOf_121 (fun hc121 => ?_) (fun hc121 => ?_)
      · -- 121 T
        refine j_aload3 C dX8_memberOf_124 ?_
        refine j_geti C fX8_130 (at_m hB (by omega)) rfl (hS.m1 k (by omega)) dX8_memberOf_125 (fun hr125 => ?_)
        refine j_goto C dX8_memberOf_128 ?_
        refine j_xr (by decide) ?_
        refine j_iret C hrt dX8_memberOf_132 ⟨by omega, by omega⟩ ?_
        refine ⟨?_, ?_, rfl⟩ <;> (unfold qMember; repeat (first | rw [if_pos (by omega)] | rw [if_neg (by omega)]); try first | rfl | (dsimp only; omega))
      · -- 121 F
        refine j_iconst C dX8_memberOf_131 ?_
        refine j_xr (by decide) ?_
        refine j_iret C hrt dX8_memberOf_132 ⟨by omega, by omega⟩ ?_
        refine ⟨?_, ?_, rfl⟩ <;> (unfold qMember; repeat (first | rw [if_pos (by omega)] | rw [if_neg (by omega)]); try first | rfl | (dsimp only; omega))
    · -- 32 case 4
      refine j_tswIn C (by decide) (by decide) (off := 101) rfl (tgt := 133) (by decide) dX8_memberOf_32 ?_
      refine j_aload3 C dX8_memberOf_133 ?_
      refine j_aload0 C dX8_memberOf_134 ?_
      refine j_getr C fX8_12 at_0 rfl hR.1 dX8_memberOf_135 ?_
      refine j_geti C fX8_140 (at_st bs1) rfl hS.c7 dX8_memberOf_138 (fun hr138 => ?_)
      refine j_cVI1 C (c_X4_isAble (at_m hB (by omega)) (hS.m1 k (by omega)) (hS.m2 k (by omega)) ⟨by omega, by omega⟩) oX4_isAble kX8_143 ⟨_, rfl, rfl⟩ (at_m hB (by omega)) ⟨by decide, by decide⟩ rfl (Nat.le_of_ble_eq_true rfl) ⟨by decide, by decide⟩ dX8_memberOf_141 ?_
      rintro _ _ hz141 ⟨rfl, rfl⟩
      refine j_ifeqb C dX8_memberOf_144 (fun hc144 => ?_) (fun hc144 => ?_)
      · -- 144 T
        refine j_iconst C dX8_memberOf_147 ?_
        refine j_goto C dX8_memberOf_148 ?_
        refine j_xr (by decide) ?_
        refine j_iret C hrt dX8_memberOf_152 ⟨by omega, by omega⟩ ?_
        refine ⟨?_, ?_, rfl⟩ <;> (unfold qMember; repeat (first | rw [if_pos (by omega)] | rw [if_neg (by omega)]); try first | rfl | (dsimp only; omega))
      · -- 144 F
        refine j_iconst C dX8_memberOf_151 ?_
        refine j_xr (by decide) ?_
        refine j_iret C hrt dX8_memberOf_152 ⟨by omega, by omega⟩ ?_
        refine ⟨?_, ?_, rfl⟩ <;> (unfold qMember; repeat (first | rw [if_pos (by omega)] | rw [if_neg (by omega)]); try first | rfl | (dsimp only; omega))
    · -- 32 case 5
      refine j_tswIn C (by decide) (by decide) (off := 121) rfl (tgt := 153) (by decide) dX8_memberOf_32 ?_
      refine j_aload3 C dX8_memberOf_153 ?_
      refine j_geti C fX8_146 (at_m hB (by omega)) rfl (hS.m3 k (by omega)) dX8_memberOf_154 (fun hr154 => ?_)
      refine j_xr (by decide) ?_
      refine j_iret C hrt dX8_memberOf_157 ⟨by omega, by omega⟩ ?_
      refine ⟨?_, ?_, rfl⟩ <;> (unfold qMember; repeat (first | rw [if_pos (by omega)] | rw [if_neg (by omega)]); try first | rfl | (dsimp only; omega))
    · -- 32 case 6
      refine j_tswIn C (by decide) (by decide) (off := 126) rfl (tgt := 158) (by decide) dX8_memberOf_32 ?_
      refine j_aload3 C dX8_memberOf_158 ?_
      refine j_geti C fX8_149 (at_m hB (by omega)) rfl (hS.m4 k (by omega)) dX8_memberOf_159 (fun hr159 => ?_)
      refine j_xr (by decide) ?_
      refine j_iret C hrt dX8_memberOf_162 ⟨by omega, by omega⟩ ?_
      refine ⟨?_, ?_, rfl⟩ <;> (unfold qMember; repeat (first | rw [if_pos (by omega)] | rw [if_neg (by omega)]); try first | rfl | (dsimp only; omega))
    · -- 32 case 7
      refine j_tswIn C (by decide) (by decide) (off := 131) rfl (tgt := 163) (by decide) dX8_memberOf_32 ?_
      refine j_aload3 C dX8_memberOf_163 ?_
      refine j_geti C fX8_152 (at_m hB (by omega)) rfl (hS.m5 k (by omega)) dX8_memberOf_164 (fun hr164 => ?_)
      refine j_xr (by decide) ?_
      refine j_iret C hrt dX8_memberOf_167 ⟨by omega, by omega⟩ ?_
      refine ⟨?_, ?_, rfl⟩ <;> (unfold qMember; repeat (first | rw [if_pos (by omega)] | rw [if_neg (by omega)]); try first | rfl | (dsimp only; omega))
    · -- 32 case None
      refine j_tswOut C ⟨by omega, by omega⟩ (by omega) (tgt := 168) (by decide) dX8_memberOf_32 ?_
      refine j_throw hsl C hK2 hxt th_98 (List.mem_of_getElem? (i := 2) rfl) rfl dX8_memberOf_168 dX8_memberOf_171 dX8_memberOf_172 dX8_memberOf_174 dX8_memberOf_177 (by decide) (Nat.le_of_ble_eq_true rfl) ⟨by decide, by decide⟩ ⟨by decide, by decide⟩ ?_
      refine ⟨rfl, ?_⟩
      right; refine ⟨rfl, ?_⟩
      unfold qMember; repeat (first | rw [if_pos (by omega)] | rw [if_neg (by omega)])
  · -- 8 F
    refine j_throw hsl C hK2 hxt th_116 (List.mem_of_getElem? (i := 1) rfl) rfl dX8_memberOf_11 dX8_memberOf_14 dX8_memberOf_15 dX8_memberOf_17 dX8_memberOf_20 (by decide) (Nat.le_of_ble_eq_true rfl) ⟨by decide, by decide⟩ ⟨by decide, by decide⟩ ?_
    refine ⟨rfl, ?_⟩
    left; refine ⟨rfl, ?_⟩
    unfold qMember; repeat (first | rw [if_pos (by omega)] | rw [if_neg (by omega)])
set_option maxRecDepth 100000 in
set_option maxHeartbeats 4000000 in
theorem c_X8_boatOf {Γ : Ga} {l : Launch} {ω : Wo} (hsl : l.stackTraces = false) (hR : CR ω) {σ : Row} (hS : St ω 1 σ) {M : Int} (hI : RI M σ) (hWI : WI σ)  {a b : Int} (ha : Rg a) (hb : Rg b) : XI Γ l yX8_boatOf cX8_boatOf 4 .int 7 2 [.ref (rl Γ 0), .int (iI a), .int (iI b)] ω (fun z ω' => z = (qBoat σ a b).2 ∧ (qBoat σ a b).1 = 0 ∧ ω = ω') (fun E ω' => ω = ω' ∧ ((E = eIdx ∧ (qBoat σ a b).1 = 1) ∨ (E = eArg ∧ (qBoat σ a b).1 = 2))) := by
  refine MetX.ofJ (k := 1) [some (.ref (rl Γ 0)), some (.int (iI a)), some (.int (iI b)), none] (by decide) rfl rfl rfl (fun p e s mm args below meth c C hK2 hxt hrt => ?_)
  have hB := bs1
  have g := hI.s
  have gc := hI.c
  have gM := hI.2.1
  refine j_aload0 C dX8_boatOf_0 ?_
  refine j_iload1 C dX8_boatOf_1 ?_
  refine j_xVV1 C hK2 hxt (c_X8_requireBoat hsl (by exact hR) (by exact hS) (by exact hI) (by exact hWI) ⟨by omega, by omega⟩) oX8_requireBoat kX8_157 ⟨_, rfl, rfl⟩ at_0 ⟨by decide, by decide⟩ rfl (Nat.le_of_ble_eq_true rfl) ⟨by decide, by decide⟩ ⟨by decide, by decide⟩ dX8_boatOf_2 (by rintro E ω1 ⟨rfl, rfl, hE⟩; refine ⟨rfl, Or.inl ⟨rfl, ?_⟩⟩; unfold qBoat; rw [if_pos hE]) ?_
  rintro _ ⟨hc2, rfl⟩
  obtain ⟨k, rfl⟩ := Int.eq_ofNat_of_zero_le hc2.1
  have gb := hI.b k (by omega)
  have gwb := hWI.2.2.2 k (by omega)
  refine j_aload0 C dX8_boatOf_5 ?_
  refine j_getr C fX8_12 at_0 rfl hR.1 dX8_boatOf_6 ?_
  refine j_getr C fX8_161 (at_st bs1) rfl hS.r.a1 dX8_boatOf_9 ?_
  refine j_iload1 C dX8_boatOf_12 ?_
  refine j_aald C (at_bA hB) rfl (Cn := RX1) rfl (N := 3) rfl (by decide) ⟨by omega, by omega⟩ (hS.r.b k (by omega)) dX8_boatOf_13 ?_
  refine j_astore3 C rfl dX8_boatOf_14 ?_
  refine j_iload2 C dX8_boatOf_15 ?_
  by_cases hb7 : 0 ≤ b ∧ b ≤ 6
  obtain h | h | h | h | h | h | h : b = 0 ∨ b = 1 ∨ b = 2 ∨ b = 3 ∨ b = 4 ∨ b = 5 ∨ b = 6 := by omega
  all_goals try subst h
  · -- 16 case 0
    refine j_tswIn C (by decide) (by decide) (off := 44) rfl (tgt := 60) (by decide) dX8_boatOf_16 ?_
    refine j_aload3 C dX8_boatOf_60 ?_
    refine j_geti C fX8_165 (at_b hB (by omega)) rfl (hS.b0 k (by omega)) dX8_boatOf_61 (fun hr61 => ?_)
    refine j_xr (by decide) ?_
    refine j_iret C hrt dX8_boatOf_64 ⟨by omega, by omega⟩ ?_
    refine ⟨?_, ?_, rfl⟩ <;> (unfold qBoat; repeat (first | rw [if_pos (by omega)] | rw [if_neg (by omega)]); try first | rfl | (dsimp only; omega))
  · -- 16 case 1
    refine j_tswIn C (by decide) (by decide) (off := 49) rfl (tgt := 65) (by decide) dX8_boatOf_16 ?_
    refine j_aload3 C dX8_boatOf_65 ?_
    refine j_geti C fX8_170 (at_b hB (by omega)) rfl (hS.b1 k (by omega)) dX8_boatOf_66 (fun hr66 => ?_)
    refine j_xr (by decide) ?_
    refine j_iret C hrt dX8_boatOf_69 ⟨by omega, by omega⟩ ?_
    refine ⟨?_, ?_, rfl⟩ <;> (unfold qBoat; repeat (first | rw [if_pos (by omega)] | rw [if_neg (by omega)]); try first | rfl | (dsimp only; omega))
  · -- 16 case 2
    refine j_tswIn C (by decide) (by decide) (off := 54) rfl (tgt := 70) (by decide) dX8_boatOf_16 ?_
    refine j_aload3 C dX8_boatOf_70 ?_
    refine j_cVI0 C (c_X1_isOut (at_b hB (by omega)) (hS.b2 k (by omega))) oX1_isOut kX8_173 ⟨_, rfl, rfl⟩ (at_b hB (by omega)) ⟨by decide, by decide⟩ rfl (Nat.le_of_ble_eq_true rfl) ⟨by decide, by decide⟩ dX8_boatOf_71 ?_
    rintro _ _ hz71 ⟨rfl, rfl⟩
    refine j_ifeqb C dX8_boatOf_74 (fun hc74 => ?_) (fun hc74 => ?_)
    · -- 74 T
      refine j_iconst C dX8_boatOf_77 ?_
      refine j_goto C dX8_boatOf_78 ?_
      refine j_xr (by decide) ?_
      refine j_iret C hrt dX8_boatOf_82 ⟨by omega, by omega⟩ ?_
      refine ⟨?_, ?_, rfl⟩ <;> (unfold qBoat; repeat (first | rw [if_pos (by omega)] | rw [if_neg (by omega)]); try first | rfl | (dsimp only; omega))
    · -- 74 F
      refine j_iconst C dX8_boatOf_81 ?_
      refine j_xr (by decide) ?_
      refine j_iret C hrt dX8_boatOf_82 ⟨by omega, by omega⟩ ?_
      refine ⟨?_, ?_, rfl⟩ <;> (unfold qBoat; repeat (first | rw [if_pos (by omega)] | rw [if_neg (by omega)]); try first | rfl | (dsimp only; omega))
  · -- 16 case 3
    refine j_tswIn C (by decide) (by decide) (off := 67) rfl (tgt := 83) (by decide) dX8_boatOf_16 ?_
    refine j_aload3 C dX8_boatOf_83 ?_
    refine j_geti C fX8_174 (at_b hB (by omega)) rfl (hS.b3 k (by omega)) dX8_boatOf_84 (fun hr84 => ?_)
    refine j_xr (by decide) ?_
    refine j_iret C hrt dX8_boatOf_87 ⟨by omega, by omega⟩ ?_
    refine ⟨?_, ?_, rfl⟩ <;> (unfold qBoat; repeat (first | rw [if_pos (by omega)] | rw [if_neg (by omega)]); try first | rfl | (dsimp only; omega))
  · -- 16 case 4
    refine j_tswIn C (by decide) (by decide) (off := 72) rfl (tgt := 88) (by decide) dX8_boatOf_16 ?_
    refine j_aload3 C dX8_boatOf_88 ?_
    refine j_geti C fX8_177 (at_b hB (by omega)) rfl (hS.b4 k (by omega)) dX8_boatOf_89 (fun hr89 => ?_)
    refine j_xr (by decide) ?_
    refine j_iret C hrt dX8_boatOf_92 ⟨by omega, by omega⟩ ?_
    refine ⟨?_, ?_, rfl⟩ <;> (unfold qBoat; repeat (first | rw [if_pos (by omega)] | rw [if_neg (by omega)]); try first | rfl | (dsimp only; omega))
  · -- 16 case 5
    refine j_tswIn C (by decide) (by decide) (off := 77) rfl (tgt := 93) (by decide) dX8_boatOf_16 ?_
    refine j_aload3 C dX8_boatOf_93 ?_
    refine j_geti C fX8_180 (at_b hB (by omega)) rfl (hS.b2 k (by omega)) dX8_boatOf_94 (fun hr94 => ?_)
    refine j_xr (by decide) ?_
    refine j_iret C hrt dX8_boatOf_97 ⟨by omega, by omega⟩ ?_
    refine ⟨?_, ?_, rfl⟩ <;> (unfold qBoat; repeat (first | rw [if_pos (by omega)] | rw [if_neg (by omega)]); try first | rfl | (dsimp only; omega))
  · -- 16 case 6
    refine j_tswIn C (by decide) (by decide) (off := 82) rfl (tgt := 98) (by decide) dX8_boatOf_16 ?_
    refine j_aload3 C dX8_boatOf_98 ?_
    refine j_geti C fX8_183 (at_b hB (by omega)) rfl (hS.b5 k (by omega)) dX8_boatOf_99 (fun hr99 => ?_)
    refine j_xr (by decide) ?_
    refine j_iret C hrt dX8_boatOf_102 ⟨by omega, by omega⟩ ?_
    refine ⟨?_, ?_, rfl⟩ <;> (unfold qBoat; repeat (first | rw [if_pos (by omega)] | rw [if_neg (by omega)]); try first | rfl | (dsimp only; omega))
  · -- 16 case None
    refine j_tswOut C ⟨by omega, by omega⟩ (by omega) (tgt := 103) (by decide) dX8_boatOf_16 ?_
    refine j_throw hsl C hK2 hxt th_98 (List.mem_of_getElem? (i := 4) rfl) rfl dX8_boatOf_103 dX8_boatOf_106 dX8_boatOf_107 dX8_boatOf_109 dX8_boatOf_112 (by decide) (Nat.le_of_ble_eq_true rfl) ⟨by decide, by decide⟩ ⟨by decide, by decide⟩ ?_
    refine ⟨rfl, ?_⟩
    right; refine ⟨rfl, ?_⟩
    unfold qBoat; repeat (first | rw [if_pos (by omega)] | rw [if_neg (by omega)])
set_option maxRecDepth 100000 in
set_option maxHeartbeats 4000000 in
theorem c_X8_crew {Γ : Ga} {l : Launch} {ω : Wo} (hsl : l.stackTraces = false) (hR : CR ω) {σ : Row} (hS : St ω 1 σ) {M : Int} (hI : RI M σ) (hWI : WI σ)  {a : Int} (ha : Rg a) : XI Γ l yX8_crew cX8_crew 2 .int 7 1 [.ref (rl Γ 0), .int (iI a)] ω (fun z ω' => z = (qCrew σ a).2 ∧ (qCrew σ a).1 = 0 ∧ ω = ω') (fun E ω' => ω = ω' ∧ ((E = eIdx ∧ (qCrew σ a).1 = 1))) := by
  refine MetX.ofJ (k := 0) [some (.ref (rl Γ 0)), some (.int (iI a))] (by decide) rfl rfl rfl (fun p e s mm args below meth c C hK2 hxt hrt => ?_)
  have hB := bs1
  have g := hI.s
  have gc := hI.c
  have gM := hI.2.1
  refine j_aload0 C dX8_crew_0 ?_
  refine j_iload1 C dX8_crew_1 ?_
  refine j_xVV1 C hK2 hxt (c_X8_requireBoat hsl (by exact hR) (by exact hS) (by exact hI) (by exact hWI) ⟨by omega, by omega⟩) oX8_requireBoat kX8_157 ⟨_, rfl, rfl⟩ at_0 ⟨by decide, by decide⟩ rfl (Nat.le_of_ble_eq_true rfl) ⟨by decide, by decide⟩ ⟨by decide, by decide⟩ dX8_crew_2 (by rintro E ω1 ⟨rfl, rfl, hE⟩; refine ⟨rfl, rfl, ?_⟩; unfold qCrew; rw [if_pos hE]) ?_
  rintro _ ⟨hc2, rfl⟩
  refine j_aload0 C dX8_crew_5 ?_
  refine j_getr C fX8_12 at_0 rfl hR.1 dX8_crew_6 ?_
  refine j_iload1 C dX8_crew_9 ?_
  refine j_cVI1 C (c_X7_membersAt hB (by exact hS) (by exact hI) (by exact hWI) ⟨by omega, by omega⟩) oX7_membersAt kX8_186 ⟨_, rfl, rfl⟩ (at_st bs1) ⟨by decide, by decide⟩ rfl (Nat.le_of_ble_eq_true rfl) ⟨by decide, by decide⟩ dX8_crew_10 ?_
  rintro _ _ hz10 ⟨rfl, rfl⟩
  refine j_xr (by decide) ?_
  refine j_iret C hrt dX8_crew_13 ⟨by omega, by omega⟩ ?_
  rw [atUp_crew hI hWI (by omega) (cM σ) (Nat.le_refl _)]
  refine ⟨?_, ?_, rfl⟩ <;> (unfold qCrew; repeat (first | rw [if_pos (by omega)] | rw [if_neg (by omega)]); try first | rfl | (dsimp only; omega))
set_option maxRecDepth 100000 in
set_option maxHeartbeats 4000000 in
theorem c_X8_loanOf {Γ : Ga} {l : Launch} {ω : Wo} (hsl : l.stackTraces = false) (hR : CR ω) {σ : Row} (hS : St ω 1 σ) {M : Int} (hI : RI M σ) (hWI : WI σ)  {a b : Int} (ha : Rg a) (hb : Rg b) : XI Γ l yX8_loanOf cX8_loanOf 4 .int 6 1 [.ref (rl Γ 0), .int (iI a), .int (iI b)] ω (fun z ω' => z = (qLoan σ a b).2 ∧ (qLoan σ a b).1 = 0 ∧ ω = ω') (fun E ω' => ω = ω' ∧ ((E = eIdx ∧ (qLoan σ a b).1 = 1) ∨ (E = eArg ∧ (qLoan σ a b).1 = 2))) := by
  refine MetX.ofJ (k := 1) [some (.ref (rl Γ 0)), some (.int (iI a)), some (.int (iI b)), none] (by decide) rfl rfl rfl (fun p e s mm args below meth c C hK2 hxt hrt => ?_)
  have hB := bs1
  have g := hI.s
  have gc := hI.c
  have gM := hI.2.1
  refine j_aload0 C dX8_loanOf_0 ?_
  refine j_getr C fX8_12 at_0 rfl hR.1 dX8_loanOf_1 ?_
  refine j_iload1 C dX8_loanOf_4 ?_
  refine j_cVI1 C (c_X7_hasLoan hB (by exact hS) (by exact hI) (by exact hWI) ⟨by omega, by omega⟩) oX7_hasLoan kX8_236 ⟨_, rfl, rfl⟩ (at_st bs1) ⟨by decide, by decide⟩ rfl (Nat.le_of_ble_eq_true rfl) ⟨by decide, by decide⟩ dX8_loanOf_5 ?_
  rintro _ _ hz5 ⟨rfl, rfl⟩
  refine j_ifneb C dX8_loanOf_8 (fun hc8 => ?_) (fun hc8 => ?_)
  · -- 8 T
    obtain ⟨k, rfl⟩ := Int.eq_ofNat_of_zero_le hc8.1
    have gl := hI.l k (by omega)
    refine j_aload0 C dX8_loanOf_21 ?_
    refine j_getr C fX8_12 at_0 rfl hR.1 dX8_loanOf_22 ?_
    refine j_getr C fX8_241 (at_st bs1) rfl hS.r.a2 dX8_loanOf_25 ?_
    refine j_iload1 C dX8_loanOf_28 ?_
    obtain ⟨la29, ha29, hb29, hc29⟩ := hS.r.l k (by omega)
    refine j_aald C (at_lA hB) rfl (Cn := RX3) rfl (N := 4) rfl (by decide) ⟨by omega, by omega⟩ ha29 dX8_loanOf_29 ?_
    refine j_astore3 C rfl dX8_loanOf_30 ?_
    refine j_iload2 C dX8_loanOf_31 ?_
    by_cases hb7 : 0 ≤ b ∧ b ≤ 2
    obtain h | h | h : b = 0 ∨ b = 1 ∨ b = 2 := by omega
    all_goals try subst h
    · -- 32 case 0
      refine j_tswIn C (by decide) (by decide) (off := 28) rfl (tgt := 60) (by decide) dX8_loanOf_32 ?_
      refine j_aload3 C dX8_loanOf_60 ?_
      refine j_geti C fX8_245 (at_lx hB hb29 hc29) rfl (hS.l0 k (by omega) ha29) dX8_loanOf_61 (fun hr61 => ?_)
      refine j_xr (by decide) ?_
      refine j_iret C hrt dX8_loanOf_64 ⟨by omega, by omega⟩ ?_
      refine ⟨?_, ?_, rfl⟩ <;> (unfold qLoan; repeat (first | rw [if_pos (by omega)] | rw [if_neg (by omega)]); try first | rfl | (dsimp only; omega))
    · -- 32 case 1
      refine j_tswIn C (by decide) (by decide) (off := 33) rfl (tgt := 65) (by decide) dX8_loanOf_32 ?_
      refine j_aload3 C dX8_loanOf_65 ?_
      refine j_geti C fX8_250 (at_lx hB hb29 hc29) rfl (hS.l1 k (by omega) ha29) dX8_loanOf_66 (fun hr66 => ?_)
      refine j_xr (by decide) ?_
      refine j_iret C hrt dX8_loanOf_69 ⟨by omega, by omega⟩ ?_
      refine ⟨?_, ?_, rfl⟩ <;> (unfold qLoan; repeat (first | rw [if_pos (by omega)] | rw [if_neg (by omega)]); try first | rfl | (dsimp only; omega))
    · -- 32 case 2
      refine j_tswIn C (by decide) (by decide) (off := 38) rfl (tgt := 70) (by decide) dX8_loanOf_32 ?_
      refine j_aload3 C dX8_loanOf_70 ?_
      refine j_geti C fX8_253 (at_lx hB hb29 hc29) rfl (hS.l2 k (by omega) ha29) dX8_loanOf_71 (fun hr71 => ?_)
      refine j_xr (by decide) ?_
      refine j_iret C hrt dX8_loanOf_74 ⟨by omega, by omega⟩ ?_
      refine ⟨?_, ?_, rfl⟩ <;> (unfold qLoan; repeat (first | rw [if_pos (by omega)] | rw [if_neg (by omega)]); try first | rfl | (dsimp only; omega))
    · -- 32 case None
      refine j_tswOut C ⟨by omega, by omega⟩ (by omega) (tgt := 75) (by decide) dX8_loanOf_32 ?_
      refine j_throwW hsl C hK2 hxt th_98 (List.mem_of_getElem? (i := 9) rfl) rfl dX8_loanOf_75 dX8_loanOf_78 dX8_loanOf_79 dX8_loanOf_82 dX8_loanOf_85 (by decide) (Nat.le_of_ble_eq_true rfl) ⟨by decide, by decide⟩ ⟨by decide, by decide⟩ ?_
      refine ⟨rfl, ?_⟩
      right; refine ⟨rfl, ?_⟩
      unfold qLoan; repeat (first | rw [if_pos (by omega)] | rw [if_neg (by omega)])
  · -- 8 F
    refine j_throw hsl C hK2 hxt th_116 (List.mem_of_getElem? (i := 8) rfl) rfl dX8_loanOf_11 dX8_loanOf_14 dX8_loanOf_15 dX8_loanOf_17 dX8_loanOf_20 (by decide) (Nat.le_of_ble_eq_true rfl) ⟨by decide, by decide⟩ ⟨by decide, by decide⟩ ?_
    refine ⟨rfl, ?_⟩
    left; refine ⟨rfl, ?_⟩
    unfold qLoan; repeat (first | rw [if_pos (by omega)] | rw [if_neg (by omega)])
set_option maxRecDepth 100000 in
set_option maxHeartbeats 4000000 in
theorem c_X8_able {Γ : Ga} {l : Launch} {ω : Wo} (hsl : l.stackTraces = false) (hR : CR ω) {σ : Row} (hS : St ω 1 σ) {M : Int} (hI : RI M σ) (hWI : WI σ)   : CI Γ l yX8_able cX8_able 1 .int 2 [.ref (rl Γ 0)] ω (fun z ω' => z = (ableS σ : Int) ∧ ω = ω') := by
  refine Met.ofJ (k := 0) [some (.ref (rl Γ 0))] (by decide) rfl rfl rfl (fun p e s mm args below meth c C hrt => ?_)
  have hB := bs1
  have g := hI.s
  have gc := hI.c
  have gM := hI.2.1
  refine j_aload0 C dX8_able_0 ?_
  refine j_getr C fX8_12 at_0 rfl hR.1 dX8_able_1 ?_
  refine j_cVI0 C (c_X7_ableMembers hB (by exact hS) (by exact hI) (by exact hWI)) oX7_ableMembers kX8_189 ⟨_, rfl, rfl⟩ (at_st bs1) ⟨by decide, by decide⟩ rfl (Nat.le_of_ble_eq_true rfl) ⟨by decide, by decide⟩ dX8_able_4 ?_
  rintro _ _ hz4 ⟨rfl, rfl⟩
  refine j_iret C hrt dX8_able_7 ⟨by omega, by omega⟩ ?_
  exact ⟨rfl, rfl⟩
set_option maxRecDepth 100000 in
set_option maxHeartbeats 4000000 in
theorem c_X8_free {Γ : Ga} {l : Launch} {ω : Wo} (hsl : l.stackTraces = false) (hR : CR ω) {σ : Row} (hS : St ω 1 σ) {M : Int} (hI : RI M σ) (hWI : WI σ)   : CI Γ l yX8_free cX8_free 1 .int 3 [.ref (rl Γ 0)] ω (fun z ω' => z = freeO σ ∧ ω = ω') := by
  refine Met.ofJ (k := 0) [some (.ref (rl Γ 0))] (by decide) rfl rfl rfl (fun p e s mm args below meth c C hrt => ?_)
  have hB := bs1
  have g := hI.s
  have gc := hI.c
  have gM := hI.2.1
  refine j_aload0 C dX8_free_0 ?_
  refine j_getr C fX8_12 at_0 rfl hR.1 dX8_free_1 ?_
  refine j_cVI0 C (c_X7_freeOars hB (by exact hS) (by exact hI) (by exact hWI)) oX7_freeOars kX8_258 ⟨_, rfl, rfl⟩ (at_st bs1) ⟨by decide, by decide⟩ rfl (Nat.le_of_ble_eq_true rfl) ⟨by decide, by decide⟩ dX8_free_4 ?_
  rintro _ _ hz4 ⟨rfl, rfl⟩
  refine j_iret C hrt dX8_free_7 ⟨by omega, by omega⟩ ?_
  exact ⟨rfl, rfl⟩
set_option maxRecDepth 100000 in
set_option maxHeartbeats 4000000 in
theorem c_X8_account {Γ : Ga} {l : Launch} {ω : Wo} (hsl : l.stackTraces = false) (hR : CR ω) {σ : Row} (hS : St ω 1 σ) {M : Int} (hI : RI M σ) (hWI : WI σ)  {a : Int} (ha : Rg a) : XI Γ l yX8_account cX8_account 2 .int 6 1 [.ref (rl Γ 0), .int (iI a)] ω (fun z ω' => z = (qAcc σ (ω.1 0 5) (ω.1 68 1) a).2 ∧ (qAcc σ (ω.1 0 5) (ω.1 68 1) a).1 = 0 ∧ ω = ω') (fun E ω' => ω = ω' ∧ ((E = eArg ∧ (qAcc σ (ω.1 0 5) (ω.1 68 1) a).1 = 1))) := by
  refine MetX.ofJ (k := 0) [some (.ref (rl Γ 0)), some (.int (iI a))] (by decide) rfl rfl rfl (fun p e s mm args below meth c C hK2 hxt hrt => ?_)
  have hB := bs1
  have g := hI.s
  have gc := hI.c
  have gM := hI.2.1
  have gat := atUp_lt σ (-2) (cM σ)
  have gst := stayUp_rg σ (cM σ)
  refine j_iload1 C dX8_account_0 ?_
  by_cases hb7 : 0 ≤ a ∧ a ≤ 12
  obtain h | h | h | h | h | h | h | h | h | h | h | h | h : a = 0 ∨ a = 1 ∨ a = 2 ∨ a = 3 ∨ a = 4 ∨ a = 5 ∨ a = 6 ∨ a = 7 ∨ a = 8 ∨ a = 9 ∨ a = 10 ∨ a = 11 ∨ a = 12 := by omega
  all_goals try subst h
  · -- 1 case 0
    refine j_tswIn C (by decide) (by decide) (off := 67) rfl (tgt := 68) (by decide) dX8_account_1 ?_
    refine j_aload0 C dX8_account_68 ?_
    refine j_getr C fX8_12 at_0 rfl hR.1 dX8_account_69 ?_
    refine j_geti C fX8_105 (at_st bs1) rfl hS.c6 dX8_account_72 (fun hr72 => ?_)
    refine j_xr (by decide) ?_
    refine j_iret C hrt dX8_account_75 ⟨by omega, by omega⟩ ?_
    refine ⟨?_, ?_, rfl⟩ <;> (unfold qAcc; repeat (first | rw [if_pos (by omega)] | rw [if_neg (by omega)]); try first | rfl | (dsimp only; omega))
  · -- 1 case 1
    refine j_tswIn C (by decide) (by decide) (off := 75) rfl (tgt := 76) (by decide) dX8_account_1 ?_
    refine j_aload0 C dX8_account_76 ?_
    refine j_getr C fX8_12 at_0 rfl hR.1 dX8_account_77 ?_
    refine j_geti C fX8_353 (at_st bs1) rfl hS.c3 dX8_account_80 (fun hr80 => ?_)
    refine j_xr (by decide) ?_
    refine j_iret C hrt dX8_account_83 ⟨by omega, by omega⟩ ?_
    refine ⟨?_, ?_, rfl⟩ <;> (unfold qAcc; repeat (first | rw [if_pos (by omega)] | rw [if_neg (by omega)]); try first | rfl | (dsimp only; omega))
  · -- 1 case 2
    refine j_tswIn C (by decide) (by decide) (off := 83) rfl (tgt := 84) (by decide) dX8_account_1 ?_
    refine j_aload0 C dX8_account_84 ?_
    refine j_getr C fX8_12 at_0 rfl hR.1 dX8_account_85 ?_
    refine j_bipush C (by decide) dX8_account_88 ?_
    refine j_cVI1 C (c_X7_membersAt hB (by exact hS) (by exact hI) (by exact hWI) ⟨by omega, by omega⟩) oX7_membersAt kX8_186 ⟨_, rfl, rfl⟩ (at_st bs1) ⟨by decide, by decide⟩ rfl (Nat.le_of_ble_eq_true rfl) ⟨by decide, by decide⟩ dX8_account_90 ?_
    rintro _ _ hz90 ⟨rfl, rfl⟩
    refine j_cSI1 C (c_J6_bitCount (p10 gat (by omega))) oJ6_bitCount_0f7a4 kX8_342 ⟨by decide, by decide⟩ rfl (Nat.le_of_ble_eq_true rfl) ⟨by decide, by decide⟩ dX8_account_93 ?_
    rintro _ _ hz93 ⟨rfl, rfl⟩
    rw [bits_gone hI hWI] at hz93 ⊢
    refine j_xr (by decide) ?_
    refine j_iret C hrt dX8_account_96 ⟨by omega, by omega⟩ ?_
    refine ⟨?_, ?_, rfl⟩ <;> (unfold qAcc; repeat (first | rw [if_pos (by omega)] | rw [if_neg (by omega)]); try first | rfl | (dsimp only; omega))
  · -- 1 case 3
    refine j_tswIn C (by decide) (by decide) (off := 96) rfl (tgt := 97) (by decide) dX8_account_1 ?_
    refine j_aload0 C dX8_account_97 ?_
    refine j_getr C fX8_12 at_0 rfl hR.1 dX8_account_98 ?_
    refine j_geti C fX8_356 (at_st bs1) rfl hS.c4 dX8_account_101 (fun hr101 => ?_)
    refine j_xr (by decide) ?_
    refine j_iret C hrt dX8_account_104 ⟨by omega, by omega⟩ ?_
    refine ⟨?_, ?_, rfl⟩ <;> (unfold qAcc; repeat (first | rw [if_pos (by omega)] | rw [if_neg (by omega)]); try first | rfl | (dsimp only; omega))
  · -- 1 case 4
    refine j_tswIn C (by decide) (by decide) (off := 104) rfl (tgt := 105) (by decide) dX8_account_1 ?_
    refine j_aload0 C dX8_account_105 ?_
    refine j_getr C fX8_12 at_0 rfl hR.1 dX8_account_106 ?_
    refine j_cVI0 C (c_X7_boatsOut hB (by exact hS) (by exact hI) (by exact hWI)) oX7_boatsOut kX8_359 ⟨_, rfl, rfl⟩ (at_st bs1) ⟨by decide, by decide⟩ rfl (Nat.le_of_ble_eq_true rfl) ⟨by decide, by decide⟩ dX8_account_109 ?_
    rintro _ _ hz109 ⟨rfl, rfl⟩
    refine j_xr (by decide) ?_
    refine j_iret C hrt dX8_account_112 ⟨by omega, by omega⟩ ?_
    refine ⟨?_, ?_, rfl⟩ <;> (unfold qAcc; repeat (first | rw [if_pos (by omega)] | rw [if_neg (by omega)]); try first | rfl | (dsimp only; omega))
  · -- 1 case 5
    refine j_tswIn C (by decide) (by decide) (off := 112) rfl (tgt := 113) (by decide) dX8_account_1 ?_
    refine j_aload0 C dX8_account_113 ?_
    refine j_getr C fX8_12 at_0 rfl hR.1 dX8_account_114 ?_
    refine j_geti C fX8_362 (at_st bs1) rfl hS.c5 dX8_account_117 (fun hr117 => ?_)
    refine j_xr (by decide) ?_
    refine j_iret C hrt dX8_account_120 ⟨by omega, by omega⟩ ?_
    refine ⟨?_, ?_, rfl⟩ <;> (unfold qAcc; repeat (first | rw [if_pos (by omega)] | rw [if_neg (by omega)]); try first | rfl | (dsimp only; omega))
  · -- 1 case 6
    refine j_tswIn C (by decide) (by decide) (off := 120) rfl (tgt := 121) (by decide) dX8_account_1 ?_
    refine j_aload0 C dX8_account_121 ?_
    refine j_getr C fX8_12 at_0 rfl hR.1 dX8_account_122 ?_
    refine j_cVI0 C (c_X7_allOars hB (by exact hS) (by exact hI) (by exact hWI)) oX7_allOars kX8_350 ⟨_, rfl, rfl⟩ (at_st bs1) ⟨by decide, by decide⟩ rfl (Nat.le_of_ble_eq_true rfl) ⟨by decide, by decide⟩ dX8_account_125 ?_
    rintro _ _ hz125 ⟨rfl, rfl⟩
    refine j_xr (by decide) ?_
    refine j_iret C hrt dX8_account_128 ⟨by omega, by omega⟩ ?_
    refine ⟨?_, ?_, rfl⟩ <;> (unfold qAcc; repeat (first | rw [if_pos (by omega)] | rw [if_neg (by omega)]); try first | rfl | (dsimp only; omega))
  · -- 1 case 7
    refine j_tswIn C (by decide) (by decide) (off := 128) rfl (tgt := 129) (by decide) dX8_account_1 ?_
    refine j_aload0 C dX8_account_129 ?_
    refine j_getr C fX8_12 at_0 rfl hR.1 dX8_account_130 ?_
    refine j_geti C fX8_365 (at_st bs1) rfl hS.c8 dX8_account_133 (fun hr133 => ?_)
    refine j_xr (by decide) ?_
    refine j_iret C hrt dX8_account_136 ⟨by omega, by omega⟩ ?_
    refine ⟨?_, ?_, rfl⟩ <;> (unfold qAcc; repeat (first | rw [if_pos (by omega)] | rw [if_neg (by omega)]); try first | rfl | (dsimp only; omega))
  · -- 1 case 8
    refine j_tswIn C (by decide) (by decide) (off := 136) rfl (tgt := 137) (by decide) dX8_account_1 ?_
    refine j_aload0 C dX8_account_137 ?_
    refine j_getr C fX8_12 at_0 rfl hR.1 dX8_account_138 ?_
    refine j_geti C fX8_366 (at_st bs1) rfl hS.c9 dX8_account_141 (fun hr141 => ?_)
    refine j_xr (by decide) ?_
    refine j_iret C hrt dX8_account_144 ⟨by omega, by omega⟩ ?_
    refine ⟨?_, ?_, rfl⟩ <;> (unfold qAcc; repeat (first | rw [if_pos (by omega)] | rw [if_neg (by omega)]); try first | rfl | (dsimp only; omega))
  · -- 1 case 9
    refine j_tswIn C (by decide) (by decide) (off := 144) rfl (tgt := 145) (by decide) dX8_account_1 ?_
    refine j_aload0 C dX8_account_145 ?_
    refine j_getr C fX8_12 at_0 rfl hR.1 dX8_account_146 ?_
    refine j_geti C fX8_369 (at_st bs1) rfl hS.c10 dX8_account_149 (fun hr149 => ?_)
    refine j_xr (by decide) ?_
    refine j_iret C hrt dX8_account_152 ⟨by omega, by omega⟩ ?_
    refine ⟨?_, ?_, rfl⟩ <;> (unfold qAcc; repeat (first | rw [if_pos (by omega)] | rw [if_neg (by omega)]); try first | rfl | (dsimp only; omega))
  · -- 1 case 10
    refine j_tswIn C (by decide) (by decide) (off := 152) rfl (tgt := 153) (by decide) dX8_account_1 ?_
    refine j_aload0 C dX8_account_153 ?_
    refine j_getr C fX8_12 at_0 rfl hR.1 dX8_account_154 ?_
    refine j_geti C fX8_140 (at_st bs1) rfl hS.c7 dX8_account_157 (fun hr157 => ?_)
    refine j_xr (by decide) ?_
    refine j_iret C hrt dX8_account_160 ⟨by omega, by omega⟩ ?_
    refine ⟨?_, ?_, rfl⟩ <;> (unfold qAcc; repeat (first | rw [if_pos (by omega)] | rw [if_neg (by omega)]); try first | rfl | (dsimp only; omega))
  · -- 1 case 11
    refine j_tswIn C (by decide) (by decide) (off := 160) rfl (tgt := 161) (by decide) dX8_account_1 ?_
    refine j_aload0 C dX8_account_161 ?_
    refine j_geti C fX8_30 at_0 rfl rfl dX8_account_162 (fun hr162 => ?_)
    refine j_xr (by decide) ?_
    refine j_iret C hrt dX8_account_165 ⟨by omega, by omega⟩ ?_
    refine ⟨?_, ?_, rfl⟩ <;> (unfold qAcc; repeat (first | rw [if_pos (by omega)] | rw [if_neg (by omega)]); try first | rfl | (dsimp only; omega))
  · -- 1 case 12
    refine j_tswIn C (by decide) (by decide) (off := 165) rfl (tgt := 166) (by decide) dX8_account_1 ?_
    refine j_aload0 C dX8_account_166 ?_
    refine j_getr C fX8_50 at_0 rfl hR.2.2.2.2.2.2.2.1 dX8_account_167 ?_
    refine j_geti C fX8_273 at_68 rfl rfl dX8_account_170 (fun hr170 => ?_)
    refine j_xr (by decide) ?_
    refine j_iret C hrt dX8_account_173 ⟨by omega, by omega⟩ ?_
    refine ⟨?_, ?_, rfl⟩ <;> (unfold qAcc; repeat (first | rw [if_pos (by omega)] | rw [if_neg (by omega)]); try first | rfl | (dsimp only; omega))
  · -- 1 case None
    refine j_tswOut C ⟨by omega, by omega⟩ (by omega) (tgt := 174) (by decide) dX8_account_1 ?_
    refine j_throwW hsl C hK2 hxt th_98 (List.mem_of_getElem? (i := 14) rfl) rfl dX8_account_174 dX8_account_177 dX8_account_178 dX8_account_181 dX8_account_184 (by decide) (Nat.le_of_ble_eq_true rfl) ⟨by decide, by decide⟩ ⟨by decide, by decide⟩ ?_
    refine ⟨rfl, rfl, ?_⟩
    unfold qAcc; repeat (first | rw [if_pos (by omega)] | rw [if_neg (by omega)])
