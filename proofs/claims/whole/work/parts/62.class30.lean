/-! the string builder's methods -/
/-- a sign put behind the n-th -/
def TW (ω : Wo) (n : Nat) (v : Int) : Wo := wi (wi ω 74 n v) 73 3 ((n : Int) + 1)
theorem TW_c (ω : Wo) (n : Nat) (v : Int) : wi (wi ω 73 3 ((n : Int) + 1)) 74 n v = TW ω n v := by
  unfold TW
  rw [wi_wf, wi_wf, wi_wf, wi_wf, wf_ne _ _ (by decide), wf_ne _ _ (by decide)]
  exact wf_comm _ _ _ (by decide)
theorem and255 : ∀ v : Nat, v < 128 → v &&& 255 = v := by decide
set_option maxRecDepth 100000 in
set_option maxHeartbeats 4000000 in
theorem c_S1_canEncode {Γ : Ga} {l : Launch} {ω : Wo}  {c9 : Nat} (hc9 : c9 < 128) : CI Γ l yS1 cS1 1 .boolean 0 [.int (iI ((c9 : Int)))] ω (fun z ω' => z = 1 ∧ ω = ω') := by
  refine Met.ofJ (k := 0) [some (.int (iI ((c9 : Int))))] (by decide) rfl rfl rfl (fun p e s mm args below meth c C hrt => ?_)
  refine j_iload0 C dS1_0 ?_
  refine j_sipush C (by decide) dS1_1 ?_
  refine j_icmp_gt C ⟨by omega, by omega⟩ ⟨by omega, by omega⟩ dS1_4 (fun hc4 => ?_) (fun hc4 => ?_)
  · -- 4 T
    exact absurd hc4 (by omega)
  · -- 4 F
    refine j_iconst C dS1_7 ?_
    refine j_goto C dS1_8 ?_
    refine j_zret C hrt dS1_12 (by first | exact Or.inl rfl | exact Or.inr rfl | exact bI_01 _) ?_
    exact ⟨rfl, rfl⟩
set_option maxRecDepth 100000 in
set_option maxHeartbeats 4000000 in
theorem c_S3_checkIndex {Γ : Ga} {l : Launch} {ω : Wo} {w9 : Value} (hw : w9.category = 1) {i9 n9 : Int} (hi : 0 ≤ i9 ∧ i9 < n9) (hn : n9 < 100) : CI Γ l yS3 cS3 3 .int 0 [.int (iI i9), .int (iI n9), w9] ω (fun z ω' => ω = ω') := by
  refine Met.ofJ (k := 0) [some (.int (iI i9)), some (.int (iI n9)), some w9] (by decide) rfl rfl (by show (true && (true && ((w9.category == 1) && true))) = true; rw [hw]; rfl) (fun p e s mm args below meth c C hrt => ?_)
  refine j_iload0 C dS3_0 ?_
  refine j_if_lt C ⟨by omega, by omega⟩ dS3_1 (fun hc1 => ?_) (fun hc1 => ?_)
  · -- 1 T
    exact absurd hc1 (by omega)
  · -- 1 F
    refine j_iload0 C dS3_4 ?_
    refine j_iload1 C dS3_5 ?_
    refine j_icmp_lt C ⟨by omega, by omega⟩ ⟨by omega, by omega⟩ dS3_6 (fun hc6 => ?_) (fun hc6 => ?_)
    · -- 6 T
      refine j_iload0 C dS3_16 ?_
      refine j_iret C hrt dS3_17 ⟨by omega, by omega⟩ ?_
      rfl
    · -- 6 F
      exact absurd hc6 (by omega)
set_option maxRecDepth 100000 in
set_option maxHeartbeats 4000000 in
theorem c_S2_checkIndex {Γ : Ga} {l : Launch} {ω : Wo}  {i9 n9 : Int} (hi : 0 ≤ i9 ∧ i9 < n9) (hn : n9 < 100) : CV Γ l yS2 cS2 2 1 [.int (iI i9), .int (iI n9)] ω (fun ω' => ω = ω') := by
  refine Met.ofJ (k := 0) [some (.int (iI i9)), some (.int (iI n9))] (by decide) rfl rfl rfl (fun p e s mm args below meth c C hrt => ?_)
  refine j_iload0 C dS2_0 ?_
  refine j_iload1 C dS2_1 ?_
  refine j_fmt C dS2_2 (fun w9 hw9 => ?_)
  refine j_cSI3 C (c_S3_checkIndex hw9 hi hn) oS3 kS2_1059 ⟨by decide, by decide⟩ rfl (Nat.le_of_ble_eq_true rfl) ⟨by decide, by decide⟩ dS2_5 ?_
  rintro z9 _ hz9 rfl
  refine j_pop C rfl dS2_8 ?_
  refine j_vret C hrt dS2_9 ?_
  rfl
set_option maxRecDepth 100000 in
set_option maxHeartbeats 4000000 in
theorem c_J6_stringSize_0f7a4 {Γ : Ga} {l : Launch} {ω : Wo}  {v9 : Nat} (hv : v9 < 10) : CI Γ l yJ6_stringSize_0f7a4 cJ6_stringSize_0f7a4 4 .int 0 [.int (iI ((v9 : Int)))] ω (fun z ω' => z = 1 ∧ ω = ω') := by
  refine Met.ofJ (k := 3) [some (.int (iI ((v9 : Int)))), none, none, none] (by decide) rfl rfl rfl (fun p e s mm args below meth c C hrt => ?_)
  refine j_iconst C dJ6_stringSize_0f7a4_0 ?_
  refine j_istore1 C rfl dJ6_stringSize_0f7a4_1 ?_
  refine j_iload0 C dJ6_stringSize_0f7a4_2 ?_
  refine j_if_lt C ⟨by omega, by omega⟩ dJ6_stringSize_0f7a4_3 (fun hc3 => ?_) (fun hc3 => ?_)
  · -- 3 T
    exact absurd hc3 (by omega)
  · -- 3 F
    refine j_iconst C dJ6_stringSize_0f7a4_6 ?_
    refine j_istore1 C rfl dJ6_stringSize_0f7a4_7 ?_
    refine j_iload0 C dJ6_stringSize_0f7a4_8 ?_
    refine j_ineg C dJ6_stringSize_0f7a4_9 ?_
    refine j_istore0 C dJ6_stringSize_0f7a4_10 ?_
    refine j_bipush C (by decide) dJ6_stringSize_0f7a4_11 ?_
    refine j_istore2 C rfl dJ6_stringSize_0f7a4_13 ?_
    refine j_iconst C dJ6_stringSize_0f7a4_14 ?_
    refine j_istore3 C rfl dJ6_stringSize_0f7a4_15 ?_
    refine j_iload3 C dJ6_stringSize_0f7a4_16 ?_
    refine j_bipush C (by decide) dJ6_stringSize_0f7a4_17 ?_
    refine j_icmp_ge C ⟨by omega, by omega⟩ ⟨by omega, by omega⟩ dJ6_stringSize_0f7a4_19 (fun hc19 => ?_) (fun hc19 => ?_)
    · -- 19 T
      exact absurd hc19 (by omega)
    · -- 19 F
      refine j_iload0 C dJ6_stringSize_0f7a4_22 ?_
      refine j_iload2 C dJ6_stringSize_0f7a4_23 ?_
      refine j_icmp_le C ⟨by omega, by omega⟩ ⟨by omega, by omega⟩ dJ6_stringSize_0f7a4_24 (fun hc24 => ?_) (fun hc24 => ?_)
      · -- 24 T
        exact absurd hc24 (by omega)
      · -- 24 F
        refine j_iload3 C dJ6_stringSize_0f7a4_27 ?_
        refine j_iload1 C dJ6_stringSize_0f7a4_28 ?_
        refine j_iadd C dJ6_stringSize_0f7a4_29 ?_
        refine j_iret C hrt dJ6_stringSize_0f7a4_30 ⟨by omega, by omega⟩ ?_
        exact ⟨rfl, rfl⟩
set_option maxRecDepth 100000 in
set_option maxHeartbeats 4000000 in
theorem c_J6_getChars_ba4f3 {Γ : Ga} {l : Launch} {ω : Wo}  {v9 n9 : Nat} (hv : v9 < 10) (hn : n9 < 16) : CI Γ l yJ6_getChars_ba4f3 cJ6_getChars_ba4f3 7 .int 0 [.int (iI ((v9 : Int))), .int (iI (((n9 : Int) + 1))), .ref (rl Γ 74)] ω (fun z ω' => ω' = wi ω 74 n9 ((48 + v9 : Nat) : Int)) := by
  refine Met.ofJ (k := 4) [some (.int (iI ((v9 : Int)))), some (.int (iI (((n9 : Int) + 1)))), some (.ref (rl Γ 74)), none, none, none, none] (by decide) rfl rfl rfl (fun p e s mm args below meth c C hrt => ?_)
  refine j_iload1 C dJ6_getChars_ba4f3_0 ?_
  refine j_istore5 C rfl dJ6_getChars_ba4f3_1 ?_
  refine j_iload0 C dJ6_getChars_ba4f3_3 ?_
  refine j_if_ge C ⟨by omega, by omega⟩ dJ6_getChars_ba4f3_4 (fun hc4 => ?_) (fun hc4 => ?_)
  · -- 4 T
    refine j_iconst C dJ6_getChars_ba4f3_11 ?_
    refine j_istore6 C rfl dJ6_getChars_ba4f3_12 ?_
    refine j_iload6 C dJ6_getChars_ba4f3_14 ?_
    refine j_if_ne C (by decide) dJ6_getChars_ba4f3_16 (fun hc => absurd hc (by decide)) (fun _ => ?_)
    refine j_iload0 C dJ6_getChars_ba4f3_19 ?_
    refine j_ineg C dJ6_getChars_ba4f3_20 ?_
    refine j_istore0 C dJ6_getChars_ba4f3_21 ?_
    refine j_iload0 C dJ6_getChars_ba4f3_22 ?_
    refine j_bipush C (by decide) dJ6_getChars_ba4f3_23 ?_
    refine j_icmp_gt C ⟨by omega, by omega⟩ ⟨by omega, by omega⟩ dJ6_getChars_ba4f3_25 (fun hc25 => ?_) (fun hc25 => ?_)
    · -- 25 T
      refine j_aload2 C dJ6_getChars_ba4f3_72 ?_
      refine j_iinc5 C rfl dJ6_getChars_ba4f3_73 ?_
      refine j_iload5 C dJ6_getChars_ba4f3_76 ?_
      refine j_ones C dJ6_getChars_ba4f3_78 ?_
      refine j_iload0 C dJ6_getChars_ba4f3_81 ?_
      refine j_ineg C dJ6_getChars_ba4f3_82 ?_
      rw [Int.neg_neg]
      refine j_one1 (i := v9) C (by omega) dJ6_getChars_ba4f3_83 ?_
      refine j_bast (v := 48 + v9) C at_74 ⟨by omega, by omega⟩ (by omega) dJ6_getChars_ba4f3_84 ?_
      rw [show (((n9 : Int) + 1) + -1).toNat = n9 by omega]
      refine j_iload0 C dJ6_getChars_ba4f3_85 ?_
      refine j_bipush C (by decide) dJ6_getChars_ba4f3_86 ?_
      refine j_icmp_ge C ⟨by omega, by omega⟩ ⟨by omega, by omega⟩ dJ6_getChars_ba4f3_88 (fun hc88 => ?_) (fun hc88 => ?_)
      · -- 88 T
        refine j_iload6 C dJ6_getChars_ba4f3_104 ?_
        refine j_if_eq C (by decide) dJ6_getChars_ba4f3_106 (fun _ => ?_) (fun hc => absurd hc (by decide))
        refine j_iload5 C dJ6_getChars_ba4f3_118 ?_
        refine j_iret C hrt dJ6_getChars_ba4f3_120 ⟨by omega, by omega⟩ ?_
        rfl
      · -- 88 F
        exact absurd hc88 (by omega)
    · -- 25 F
      exact absurd hc25 (by omega)
  · -- 4 F
    exact absurd hc4 (by omega)
set_option maxRecDepth 100000 in
set_option maxHeartbeats 4000000 in
theorem c_J5_length_8abf5 {Γ : Ga} {l : Launch} {ω : Wo}  {v9 : Int} (hn : ω.1 73 3 = v9) : CI Γ l yJ5_length_8abf5 cJ5_length_8abf5 1 .int 0 [.ref (rl Γ 73)] ω (fun z ω' => z = v9 ∧ ω = ω') := by
  refine Met.ofJ (k := 0) [some (.ref (rl Γ 73))] (by decide) rfl rfl rfl (fun p e s mm args below meth c C hrt => ?_)
  refine j_aload0 C dJ5_length_8abf5_0 ?_
  refine j_cnt C at_73 hn dJ5_length_8abf5_1 (fun hr1 => ?_)
  refine j_iret C hrt dJ5_length_8abf5_4 ⟨by omega, by omega⟩ ?_
  exact ⟨rfl, rfl⟩
set_option maxRecDepth 100000 in
set_option maxHeartbeats 4000000 in
theorem c_J5_isLatin1_aae02 {Γ : Ga} {l : Launch} {ω : Wo}  (h1 : ω.1 73 1 = 0) : CI Γ l yJ5_isLatin1_aae02 cJ5_isLatin1_aae02 1 .boolean 0 [.ref (rl Γ 73)] ω (fun z ω' => z = 1 ∧ ω = ω') := by
  refine Met.ofJ (k := 0) [some (.ref (rl Γ 73))] (by decide) rfl rfl rfl (fun p e s mm args below meth c C hrt => ?_)
  refine j_compact C dJ5_isLatin1_aae02_0 ?_
  refine j_if_eq C (by decide) dJ5_isLatin1_aae02_3 (fun hc => absurd hc (by decide)) (fun _ => ?_)
  refine j_aload0 C dJ5_isLatin1_aae02_6 ?_
  refine j_cod C at_73 h1 dJ5_isLatin1_aae02_7 (fun hr7 => ?_)
  refine j_if_ne C (by decide) dJ5_isLatin1_aae02_10 (fun hc => absurd hc (by decide)) (fun _ => ?_)
  refine j_iconst C dJ5_isLatin1_aae02_13 ?_
  refine j_goto C dJ5_isLatin1_aae02_14 ?_
  refine j_zret C hrt dJ5_isLatin1_aae02_18 (by first | exact Or.inl rfl | exact Or.inr rfl | exact bI_01 _) ?_
  exact ⟨rfl, rfl⟩
set_option maxRecDepth 100000 in
set_option maxHeartbeats 4000000 in
theorem c_J5_ensureCapacityInternal_d00df {Γ : Ga} {l : Launch} {ω : Wo} (hR : CR ω) (h1 : ω.1 73 1 = 0) {w9 : Int} (hw : 0 ≤ w9 ∧ w9 ≤ 16) : CV Γ l yJ5_ensureCapacityInternal_d00df cJ5_ensureCapacityInternal_d00df 3 0 [.ref (rl Γ 73), .int (iI w9)] ω (fun ω' => ω = ω') := by
  refine Met.ofJ (k := 1) [some (.ref (rl Γ 73)), some (.int (iI w9)), none] (by decide) rfl rfl rfl (fun p e s mm args below meth c C hrt => ?_)
  refine j_aload0 C dJ5_ensureCapacityInternal_d00df_0 ?_
  refine j_val C at_73 hR.2.2.2.2.2.2.2.2.2.2.2.2.2 dJ5_ensureCapacityInternal_d00df_1 ?_
  refine j_blen C at_74 dJ5_ensureCapacityInternal_d00df_4 ?_
  refine j_aload0 C dJ5_ensureCapacityInternal_d00df_5 ?_
  refine j_cod C at_73 (show _ = ((0 : Nat) : Int) from h1) dJ5_ensureCapacityInternal_d00df_6 (fun hr6 => ?_)
  refine j_ishr C (by decide) (by decide) dJ5_ensureCapacityInternal_d00df_9 ?_
  rw [show (16 / 2 ^ 0 : Nat) = 16 from rfl]
  refine j_istore2 C rfl dJ5_ensureCapacityInternal_d00df_10 ?_
  refine j_iload1 C dJ5_ensureCapacityInternal_d00df_11 ?_
  refine j_iload2 C dJ5_ensureCapacityInternal_d00df_12 ?_
  refine j_isub C dJ5_ensureCapacityInternal_d00df_13 ?_
  refine j_if_le C ⟨by omega, by omega⟩ dJ5_ensureCapacityInternal_d00df_14 (fun hc14 => ?_) (fun hc14 => ?_)
  · -- 14 T
    refine j_vret C hrt dJ5_ensureCapacityInternal_d00df_38 ?_
    rfl
  · -- 14 F
    exact absurd hc14 (by omega)
set_option maxRecDepth 100000 in
set_option maxHeartbeats 4000000 in
theorem c_J5_setLength_d00df {Γ : Ga} {l : Launch} {ω : Wo} (hR : CR ω) (h1 : ω.1 73 1 = 0) {n9 : Nat} (hn : ω.1 73 3 = (n9 : Int)) : CV Γ l yJ5_setLength_d00df cJ5_setLength_d00df 2 1 [.ref (rl Γ 73), .int (iI 0)] ω (fun ω' => ω' = wi ω 73 3 0 ∨ ω' = wi (wi ω 73 2 1) 73 3 0) := by
  refine Met.ofJ (k := 0) [some (.ref (rl Γ 73)), some (.int (iI 0))] (by decide) rfl rfl rfl (fun p e s mm args below meth c C hrt => ?_)
  refine j_iload1 C dJ5_setLength_d00df_0 ?_
  refine j_if_ge C (by decide) dJ5_setLength_d00df_1 (fun _ => ?_) (fun hc => absurd hc (by decide))
  refine j_aload0 C dJ5_setLength_d00df_13 ?_
  refine j_iload1 C dJ5_setLength_d00df_14 ?_
  refine j_cPV1 C (c_J5_ensureCapacityInternal_d00df hR h1 (w9 := 0) (by omega)) uJ5_ensure kJ5_100 at_73 ⟨by decide, by decide⟩ rfl (Nat.le_of_ble_eq_true rfl) ⟨by decide, by decide⟩ dJ5_setLength_d00df_15 ?_
  rintro _ rfl
  refine j_aload0 C dJ5_setLength_d00df_18 ?_
  refine j_cnt C at_73 hn dJ5_setLength_d00df_19 (fun hr19 => ?_)
  refine j_iload1 C dJ5_setLength_d00df_22 ?_
  refine j_icmp_ge C ⟨by omega, by omega⟩ ⟨by omega, by omega⟩ dJ5_setLength_d00df_23 (fun hc23 => ?_) (fun hc23 => ?_)
  · -- 23 T
    refine j_aload0 C dJ5_setLength_d00df_63 ?_
    refine j_cnt C at_73 hn dJ5_setLength_d00df_64 (fun hr64 => ?_)
    refine j_iload1 C dJ5_setLength_d00df_67 ?_
    refine j_icmp_le C ⟨by omega, by omega⟩ ⟨by omega, by omega⟩ dJ5_setLength_d00df_68 (fun hc68 => ?_) (fun hc68 => ?_)
    · -- 68 T
      refine j_aload0 C dJ5_setLength_d00df_76 ?_
      refine j_iload1 C dJ5_setLength_d00df_77 ?_
      refine j_put8I C at_73 ⟨by omega, by omega⟩ dJ5_setLength_d00df_78 ?_
      refine j_vret C hrt dJ5_setLength_d00df_81 ?_
      first | exact Or.inl rfl | exact Or.inr rfl
    · -- 68 F
      refine j_aload0 C dJ5_setLength_d00df_71 ?_
      refine j_iconst C dJ5_setLength_d00df_72 ?_
      refine j_put8B C at_73 (Or.inr rfl) dJ5_setLength_d00df_73 ?_
      refine j_aload0 C dJ5_setLength_d00df_76 ?_
      refine j_iload1 C dJ5_setLength_d00df_77 ?_
      refine j_put8I C at_73 ⟨by omega, by omega⟩ dJ5_setLength_d00df_78 ?_
      refine j_vret C hrt dJ5_setLength_d00df_81 ?_
      first | exact Or.inl rfl | exact Or.inr rfl
  · -- 23 F
    exact absurd hc23 (by omega)
set_option maxRecDepth 100000 in
set_option maxHeartbeats 4000000 in
theorem c_J5_append_3fe6f {Γ : Ga} {l : Launch} {ω : Wo} (hR : CR ω) (h1 : ω.1 73 1 = 0) {n9 : Nat} (hn : ω.1 73 3 = (n9 : Int)) (hn16 : n9 < 16) {c9 : Nat} (hc9 : c9 < 128) : CRf Γ l yJ5_append_3fe6f cJ5_append_3fe6f 2 "java/lang/AbstractStringBuilder" 1 [.ref (rl Γ 73), .int (iI ((c9 : Int)))] ω (fun b ω' => b = some 73 ∧ ω' = TW ω n9 (c9 : Int)) := by
  refine Met.ofJ (k := 0) [some (.ref (rl Γ 73)), some (.int (iI ((c9 : Int))))] (by decide) rfl rfl rfl (fun p e s mm args below meth c C hrt => ?_)
  refine j_aload0 C dJ5_append_3fe6f_0 ?_
  refine j_aload0 C dJ5_append_3fe6f_1 ?_
  refine j_cnt C at_73 hn dJ5_append_3fe6f_2 (fun hr2 => ?_)
  refine j_iconst C dJ5_append_3fe6f_5 ?_
  refine j_iadd C dJ5_append_3fe6f_6 ?_
  refine j_cPV1 C (c_J5_ensureCapacityInternal_d00df hR h1 (by omega)) uJ5_ensure kJ5_100 at_73 ⟨by decide, by decide⟩ rfl (Nat.le_of_ble_eq_true rfl) ⟨by decide, by decide⟩ dJ5_append_3fe6f_7 ?_
  rintro _ rfl
  refine j_aload0 C dJ5_append_3fe6f_10 ?_
  refine j_cLI0 C (c_J5_isLatin1_aae02 h1) uJ5_isLatin1 kJ5_83 at_73 ⟨by decide, by decide⟩ rfl (Nat.le_of_ble_eq_true rfl) ⟨by decide, by decide⟩ dJ5_append_3fe6f_11 ?_
  rintro _ _ - ⟨rfl, rfl⟩
  refine j_if_eq C (by decide) dJ5_append_3fe6f_14 (fun hc => absurd hc (by decide)) (fun _ => ?_)
  refine j_iload1 C dJ5_append_3fe6f_17 ?_
  refine j_cSI1 C (c_S1_canEncode hc9) oS1 kJ5_191 ⟨by decide, by decide⟩ rfl (Nat.le_of_ble_eq_true rfl) ⟨by decide, by decide⟩ dJ5_append_3fe6f_18 ?_
  rintro _ _ - ⟨rfl, rfl⟩
  refine j_if_eq C (by decide) dJ5_append_3fe6f_21 (fun hc => absurd hc (by decide)) (fun _ => ?_)
  refine j_aload0 C dJ5_append_3fe6f_24 ?_
  refine j_val C at_73 hR.2.2.2.2.2.2.2.2.2.2.2.2.2 dJ5_append_3fe6f_25 ?_
  refine j_aload0 C dJ5_append_3fe6f_28 ?_
  refine j_dup C rfl dJ5_append_3fe6f_29 ?_
  refine j_cnt C at_73 hn dJ5_append_3fe6f_30 (fun hr30 => ?_)
  refine j_dup_x1 C rfl rfl dJ5_append_3fe6f_33 ?_
  refine j_iconst C dJ5_append_3fe6f_34 ?_
  refine j_iadd C dJ5_append_3fe6f_35 ?_
  refine j_put8I C at_73 ⟨by omega, by omega⟩ dJ5_append_3fe6f_36 ?_
  refine j_iload1 C dJ5_append_3fe6f_39 ?_
  refine j_i2b C (by omega) dJ5_append_3fe6f_40 ?_
  refine j_bast (v := c9) C at_74 ⟨by omega, by omega⟩ (by omega) dJ5_append_3fe6f_41 ?_
  rw [Int.toNat_natCast]
  refine j_goto C dJ5_append_3fe6f_42 ?_
  refine j_aload0 C dJ5_append_3fe6f_75 ?_
  refine j_aret C hrt dJ5_append_3fe6f_76 ?_
  exact ⟨rfl, TW_c _ _ _⟩
set_option maxRecDepth 100000 in
set_option maxHeartbeats 4000000 in
theorem c_J5_append_c97b9 {Γ : Ga} {l : Launch} {ω : Wo} (hR : CR ω) (h1 : ω.1 73 1 = 0) {n9 : Nat} (hn : ω.1 73 3 = (n9 : Int)) (hn16 : n9 < 16) {v9 : Nat} (hv9 : v9 < 10) : CRf Γ l yJ5_append_c97b9 cJ5_append_c97b9 4 "java/lang/AbstractStringBuilder" 1 [.ref (rl Γ 73), .int (iI ((v9 : Int)))] ω (fun b ω' => b = some 73 ∧ ω' = TW ω n9 ((48 + v9 : Nat) : Int)) := by
  refine Met.ofJ (k := 2) [some (.ref (rl Γ 73)), some (.int (iI ((v9 : Int)))), none, none] (by decide) rfl rfl rfl (fun p e s mm args below meth c C hrt => ?_)
  refine j_aload0 C dJ5_append_c97b9_0 ?_
  refine j_cnt C at_73 hn dJ5_append_c97b9_1 (fun hr1 => ?_)
  refine j_istore2 C rfl dJ5_append_c97b9_4 ?_
  refine j_iload2 C dJ5_append_c97b9_5 ?_
  refine j_iload1 C dJ5_append_c97b9_6 ?_
  refine j_cSI1 C (c_J6_stringSize_0f7a4 hv9) oJ6_stringSize_0f7a4 kJ5_245 ⟨by decide, by decide⟩ rfl (Nat.le_of_ble_eq_true rfl) ⟨by decide, by decide⟩ dJ5_append_c97b9_7 ?_
  rintro _ _ - ⟨rfl, rfl⟩
  refine j_iadd C dJ5_append_c97b9_10 ?_
  refine j_istore3 C rfl dJ5_append_c97b9_11 ?_
  refine j_aload0 C dJ5_append_c97b9_12 ?_
  refine j_iload3 C dJ5_append_c97b9_13 ?_
  refine j_cPV1 C (c_J5_ensureCapacityInternal_d00df hR h1 (by omega)) uJ5_ensure kJ5_100 at_73 ⟨by decide, by decide⟩ rfl (Nat.le_of_ble_eq_true rfl) ⟨by decide, by decide⟩ dJ5_append_c97b9_14 ?_
  rintro _ rfl
  refine j_aload0 C dJ5_append_c97b9_17 ?_
  refine j_cLI0 C (c_J5_isLatin1_aae02 h1) uJ5_isLatin1 kJ5_83 at_73 ⟨by decide, by decide⟩ rfl (Nat.le_of_ble_eq_true rfl) ⟨by decide, by decide⟩ dJ5_append_c97b9_18 ?_
  rintro _ _ - ⟨rfl, rfl⟩
  refine j_if_eq C (by decide) dJ5_append_c97b9_21 (fun hc => absurd hc (by decide)) (fun _ => ?_)
  refine j_iload1 C dJ5_append_c97b9_24 ?_
  refine j_iload3 C dJ5_append_c97b9_25 ?_
  refine j_aload0 C dJ5_append_c97b9_26 ?_
  refine j_val C at_73 hR.2.2.2.2.2.2.2.2.2.2.2.2.2 dJ5_append_c97b9_27 ?_
  refine j_cSI3 C (c_J6_getChars_ba4f3 hv9 hn16) oJ6_getChars_ba4f3 kJ5_248 ⟨by decide, by decide⟩ rfl (Nat.le_of_ble_eq_true rfl) ⟨by decide, by decide⟩ dJ5_append_c97b9_30 ?_
  rintro z9 _ hz9 rfl
  refine j_pop C rfl dJ5_append_c97b9_33 ?_
  refine j_goto C dJ5_append_c97b9_34 ?_
  refine j_aload0 C dJ5_append_c97b9_48 ?_
  refine j_iload3 C dJ5_append_c97b9_49 ?_
  refine j_put8I C at_73 ⟨by omega, by omega⟩ dJ5_append_c97b9_50 ?_
  refine j_aload0 C dJ5_append_c97b9_53 ?_
  refine j_aret C hrt dJ5_append_c97b9_54 ?_
  exact ⟨rfl, rfl⟩
set_option maxRecDepth 100000 in
set_option maxHeartbeats 4000000 in
theorem c_J5_charAt_5068e {Γ : Ga} {l : Launch} {ω : Wo} (hR : CR ω) (h1 : ω.1 73 1 = 0) {n9 : Nat} (hn : ω.1 73 3 = (n9 : Int)) (hn16 : n9 ≤ 16) {i9 : Nat} (hi9 : i9 < n9) {c9 : Nat} (hc9 : c9 < 128) (hv9 : ω.1 74 i9 = (c9 : Int)) : CI Γ l yJ5_charAt_5068e cJ5_charAt_5068e 5 .char 2 [.ref (rl Γ 73), .int (iI ((i9 : Int)))] ω (fun z ω' => z = (c9 : Int) ∧ ω = ω') := by
  refine Met.ofJ (k := 3) [some (.ref (rl Γ 73)), some (.int (iI ((i9 : Int)))), none, none, none] (by decide) rfl rfl rfl (fun p e s mm args below meth c C hrt => ?_)
  refine j_aload0 C dJ5_charAt_5068e_0 ?_
  refine j_cod C at_73 (show _ = ((0 : Nat) : Int) from h1) dJ5_charAt_5068e_1 (fun hr1 => ?_)
  refine j_istore2 C rfl dJ5_charAt_5068e_4 ?_
  refine j_aload0 C dJ5_charAt_5068e_5 ?_
  refine j_val C at_73 hR.2.2.2.2.2.2.2.2.2.2.2.2.2 dJ5_charAt_5068e_6 ?_
  refine j_astore3 C rfl dJ5_charAt_5068e_9 ?_
  refine j_aload0 C dJ5_charAt_5068e_10 ?_
  refine j_cnt C at_73 hn dJ5_charAt_5068e_11 (fun hr11 => ?_)
  refine j_aload3 C dJ5_charAt_5068e_14 ?_
  refine j_blen C at_74 dJ5_charAt_5068e_15 ?_
  refine j_iload2 C dJ5_charAt_5068e_16 ?_
  refine j_ishr C (by decide) (by decide) dJ5_charAt_5068e_17 ?_
  rw [show (16 / 2 ^ 0 : Nat) = 16 from rfl]
  refine j_mmin C kJ5_138 (by decide) (Nat.le_of_ble_eq_true rfl) rfl ⟨by decide, by decide⟩ ⟨by omega, by omega⟩ ⟨by omega, by omega⟩ dJ5_charAt_5068e_18 ?_
  refine j_istore4 C rfl dJ5_charAt_5068e_21 ?_
  refine j_iload1 C dJ5_charAt_5068e_23 ?_
  refine j_iload4 C dJ5_charAt_5068e_24 ?_
  refine j_cSV2 C (c_S2_checkIndex (by omega) (by omega)) oS2 kJ5_144 ⟨by decide, by decide⟩ rfl (Nat.le_of_ble_eq_true rfl) ⟨by decide, by decide⟩ dJ5_charAt_5068e_26 ?_
  rintro _ rfl
  refine j_iload2 C dJ5_charAt_5068e_29 ?_
  refine j_if_ne C (by decide) dJ5_charAt_5068e_30 (fun hc => absurd hc (by decide)) (fun _ => ?_)
  refine j_aload3 C dJ5_charAt_5068e_33 ?_
  refine j_iload1 C dJ5_charAt_5068e_34 ?_
  refine j_bald C at_74 ⟨by omega, by omega⟩ (show _ = (c9 : Int) from hv9) dJ5_charAt_5068e_35 ?_
  refine j_sipush C (by decide) dJ5_charAt_5068e_36 ?_
  rw [show (255 : Int) = ((255 : Nat) : Int) from rfl]
  refine j_iand C dJ5_charAt_5068e_39 ?_
  refine j_i2c C dJ5_charAt_5068e_40 ?_
  refine j_cret C hrt dJ5_charAt_5068e_41 (by rw [and255 c9 hc9]; omega) ?_
  refine ⟨?_, rfl⟩
  rw [and255 c9 hc9]; omega
set_option maxRecDepth 100000 in
set_option maxHeartbeats 4000000 in
theorem c_J4_append_cf468 {Γ : Ga} {l : Launch} {ω : Wo} (hR : CR ω) (h1 : ω.1 73 1 = 0) {n9 : Nat} (hn : ω.1 73 3 = (n9 : Int)) (hn16 : n9 < 16) {c9 : Nat} (hc9 : c9 < 128) : CRf Γ l yJ4_append_cf468 cJ4_append_cf468 2 "java/lang/StringBuilder" 2 [.ref (rl Γ 73), .int (iI ((c9 : Int)))] ω (fun b ω' => b = some 73 ∧ ω' = TW ω n9 (c9 : Int)) := by
  refine Met.ofJ (k := 0) [some (.ref (rl Γ 73)), some (.int (iI ((c9 : Int))))] (by decide) rfl rfl rfl (fun p e s mm args below meth c C hrt => ?_)
  refine j_aload0 C dJ4_append_cf468_0 ?_
  refine j_iload1 C dJ4_append_cf468_1 ?_
  refine j_cUE1 C (c_J5_append_3fe6f hR h1 hn hn16 hc9) uJ5_append_3fe6f kJ4_50 at_73 ⟨by decide, by decide⟩ rfl (Nat.le_of_ble_eq_true rfl) ⟨by decide, by decide⟩ dJ4_append_cf468_2 ?_
  rintro b9 W9 ⟨rfl, rfl⟩
  refine j_pop C rfl dJ4_append_cf468_5 ?_
  refine j_aload0 C dJ4_append_cf468_6 ?_
  refine j_aret C hrt dJ4_append_cf468_7 ?_
  exact ⟨rfl, rfl⟩
set_option maxRecDepth 100000 in
set_option maxHeartbeats 4000000 in
theorem c_J4_append_bf812 {Γ : Ga} {l : Launch} {ω : Wo} (hR : CR ω) (h1 : ω.1 73 1 = 0) {n9 : Nat} (hn : ω.1 73 3 = (n9 : Int)) (hn16 : n9 < 16) {v9 : Nat} (hv9 : v9 < 10) : CRf Γ l yJ4_append_bf812 cJ4_append_bf812 2 "java/lang/StringBuilder" 2 [.ref (rl Γ 73), .int (iI ((v9 : Int)))] ω (fun b ω' => b = some 73 ∧ ω' = TW ω n9 ((48 + v9 : Nat) : Int)) := by
  refine Met.ofJ (k := 0) [some (.ref (rl Γ 73)), some (.int (iI ((v9 : Int))))] (by decide) rfl rfl rfl (fun p e s mm args below meth c C hrt => ?_)
  refine j_aload0 C dJ4_append_bf812_0 ?_
  refine j_iload1 C dJ4_append_bf812_1 ?_
  refine j_cUE1 C (c_J5_append_c97b9 hR h1 hn hn16 hv9) uJ5_append_c97b9 kJ4_53 at_73 ⟨by decide, by decide⟩ rfl (Nat.le_of_ble_eq_true rfl) ⟨by decide, by decide⟩ dJ4_append_bf812_2 ?_
  rintro b9 W9 ⟨rfl, rfl⟩
  refine j_pop C rfl dJ4_append_bf812_5 ?_
  refine j_aload0 C dJ4_append_bf812_6 ?_
  refine j_aret C hrt dJ4_append_bf812_7 ?_
  exact ⟨rfl, rfl⟩
set_option maxRecDepth 100000 in
set_option maxHeartbeats 4000000 in
theorem c_J4_charAt_5068e {Γ : Ga} {l : Launch} {ω : Wo} (hR : CR ω) (h1 : ω.1 73 1 = 0) {n9 : Nat} (hn : ω.1 73 3 = (n9 : Int)) (hn16 : n9 ≤ 16) {i9 : Nat} (hi9 : i9 < n9) {c9 : Nat} (hc9 : c9 < 128) (hv9 : ω.1 74 i9 = (c9 : Int)) : CI Γ l yJ4_charAt_5068e cJ4_charAt_5068e 2 .char 3 [.ref (rl Γ 73), .int (iI ((i9 : Int)))] ω (fun z ω' => z = (c9 : Int) ∧ ω = ω') := by
  refine Met.ofJ (k := 0) [some (.ref (rl Γ 73)), some (.int (iI ((i9 : Int))))] (by decide) rfl rfl rfl (fun p e s mm args below meth c C hrt => ?_)
  refine j_aload0 C dJ4_charAt_5068e_0 ?_
  refine j_iload1 C dJ4_charAt_5068e_1 ?_
  refine j_cUI1 C (c_J5_charAt_5068e hR h1 hn hn16 hi9 hc9 hv9) uJ5_charAt_5068e kJ4_329 at_73 ⟨by decide, by decide⟩ rfl (Nat.le_of_ble_eq_true rfl) ⟨by decide, by decide⟩ dJ4_charAt_5068e_2 ?_
  rintro _ _ hz9 ⟨rfl, rfl⟩
  refine j_cret C hrt dJ4_charAt_5068e_5 ⟨by omega, by omega⟩ ?_
  exact ⟨rfl, rfl⟩
set_option maxRecDepth 100000 in
set_option maxHeartbeats 4000000 in
theorem c_J4_setLength_d00df {Γ : Ga} {l : Launch} {ω : Wo} (hR : CR ω) (h1 : ω.1 73 1 = 0) {n9 : Nat} (hn : ω.1 73 3 = (n9 : Int)) : CV Γ l yJ4_setLength_d00df cJ4_setLength_d00df 2 2 [.ref (rl Γ 73), .int (iI 0)] ω (fun ω' => ω' = wi ω 73 3 0 ∨ ω' = wi (wi ω 73 2 1) 73 3 0) := by
  refine Met.ofJ (k := 0) [some (.ref (rl Γ 73)), some (.int (iI 0))] (by decide) rfl rfl rfl (fun p e s mm args below meth c C hrt => ?_)
  refine j_aload0 C dJ4_setLength_d00df_0 ?_
  refine j_iload1 C dJ4_setLength_d00df_1 ?_
  refine j_cUV1 C (c_J5_setLength_d00df hR h1 hn) uJ5_setLength_d00df kJ4_333 at_73 ⟨by decide, by decide⟩ rfl (Nat.le_of_ble_eq_true rfl) ⟨by decide, by decide⟩ dJ4_setLength_d00df_2 ?_
  rintro W9 hW9
  refine j_vret C hrt dJ4_setLength_d00df_5 ?_
  exact hW9
set_option maxRecDepth 100000 in
set_option maxHeartbeats 4000000 in
theorem c_J4_length_8abf5 {Γ : Ga} {l : Launch} {ω : Wo}  {v9 : Int} (hn : ω.1 73 3 = v9) : CI Γ l yJ4_length_8abf5 cJ4_length_8abf5 1 .int 1 [.ref (rl Γ 73)] ω (fun z ω' => z = v9 ∧ ω = ω') := by
  refine Met.ofJ (k := 0) [some (.ref (rl Γ 73))] (by decide) rfl rfl rfl (fun p e s mm args below meth c C hrt => ?_)
  refine j_aload0 C dJ4_length_8abf5_0 ?_
  refine j_cUI0 C (c_J5_length_8abf5 hn) uJ5_length_8abf5 kJ4_343 at_73 ⟨by decide, by decide⟩ rfl (Nat.le_of_ble_eq_true rfl) ⟨by decide, by decide⟩ dJ4_length_8abf5_1 ?_
  rintro _ _ hz9 ⟨rfl, rfl⟩
  refine j_iret C hrt dJ4_length_8abf5_4 ⟨by omega, by omega⟩ ?_
  exact ⟨rfl, rfl⟩
