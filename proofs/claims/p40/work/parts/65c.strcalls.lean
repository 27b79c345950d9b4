/-! what an append leaves -/
theorem and255 : ∀ v : Nat, v < 128 → v &&& 255 = v := by decide
theorem up_b {f : Row} {i : Nat} {v : Int} (h : ∀ j, 0 ≤ f j ∧ f j < 128) (hv : 0 ≤ v ∧ v < 128) : ∀ j, 0 ≤ up f i v j ∧ up f i v j < 128 := by
  intro j; unfold up; split
  · exact hv
  · exact h j
def Wap (ω : Wo) (a b m : Nat) (ω' : Wo) : Prop := (∀ x, x ≠ a → x ≠ b → ω'.1 x = ω.1 x) ∧ ω'.2 = ω.2 ∧ SBg ω' a b m
theorem Wap.of {ω : Wo} {a b n9 m : Nat} {f : Row} (h : SBg ω a b n9) (hab : a ≠ b) (hf : ∀ j, 0 ≤ f j ∧ f j < 128) : Wap ω a b m (wi (wf ω b f) a 3 (m : Int)) := by
  refine ⟨fun x h1 h2 => (wi_ne h1).trans (wf_ne _ _ h2), rfl, h.1, ?_, ?_, fun j => ?_⟩
  · rw [wi_wf, wf_same, up_ne _ _ (by decide), wf_ne _ _ hab]; exact h.2.1
  · rw [wi_wf, wf_same, up_same]
  · rw [wi_ne (Ne.symm hab), wf_same]; exact hf j
/-! the texts of the JDK: contracts over any world -/
set_option maxRecDepth 100000 in
set_option maxHeartbeats 4000000 in
theorem c_size {κ : Nat → Nat} {Γ : Ga} {l : Launch} {ω : Wo} {n : Nat} {v : Nat} (hv : v < 100) : CI Γ l yJ6_stringSize_0f7a4 cJ6_stringSize_0f7a4 4 .int 0 [.int (iI (v : Int))] ω (fun z ω' => z = (if v < 10 then 1 else 2 : Nat) ∧ ω = ω') n κ := by
  refine Met.ofJ (k := 3) [some (.int (iI (v : Int))), none, none, none] (by decide) rfl rfl rfl (fun p e s mm args below meth c C hrt => ?_)
  refine j_iconst C dJ6_stringSize_0f7a4_0 ?_
  refine j_istore1 C rfl dJ6_stringSize_0f7a4_1 ?_
  refine j_iload0 C dJ6_stringSize_0f7a4_2 ?_
  refine j_if_lt C ⟨by omega, by omega⟩ dJ6_stringSize_0f7a4_3 (fun hc3 => absurd hc3 (by omega)) (fun hc3 => ?_)
  refine j_iconst C dJ6_stringSize_0f7a4_6 ?_
  refine j_istore1 C rfl dJ6_stringSize_0f7a4_7 ?_
  refine j_iload0 C dJ6_stringSize_0f7a4_8 ?_
  refine j_ineg C dJ6_stringSize_0f7a4_9 ?_
  refine j_istore0 C dJ6_stringSize_0f7a4_10 ?_
  refine j_bipush C (by decide) dJ6_stringSize_0f7a4_11 ?_
  refine j_istore2 C rfl dJ6_stringSize_0f7a4_13 ?_
  refine j_iconst C dJ6_stringSize_0f7a4_14 ?_
  refine j_istore3 C rfl dJ6_stringSize_0f7a4_15 ?_
  have hend : ∀ L, J Γ p l e (rmk 0 0 0) s mm args below meth c (MQ below (QI Γ (fun z ω' => z = (if v < 10 then 1 else 2 : Nat) ∧ ω = ω') n κ) args s 0 0 (gA Γ)) n 0 0 30 L [.int (iI ((if v < 10 then 1 else 2 : Nat) : Int))] ω κ := fun L => j_iret C hrt dJ6_stringSize_0f7a4_30 (by split <;> decide) ⟨rfl, rfl⟩
  refine j_iload3 C dJ6_stringSize_0f7a4_16 ?_
  refine j_bipush C (by decide) dJ6_stringSize_0f7a4_17 ?_
  refine j_icmp_ge C (by decide) (by decide) dJ6_stringSize_0f7a4_19 (fun hc => absurd hc (by decide)) (fun _ => ?_)
  refine j_iload0 C dJ6_stringSize_0f7a4_22 ?_
  refine j_iload2 C dJ6_stringSize_0f7a4_23 ?_
  refine j_icmp_le C ⟨by omega, by omega⟩ (by decide) dJ6_stringSize_0f7a4_24 (fun hc => ?_) (fun hc => ?_)
  · refine j_bipush C (by decide) dJ6_stringSize_0f7a4_31 ?_
    refine j_iload2 C dJ6_stringSize_0f7a4_33 ?_
    refine j_imul C dJ6_stringSize_0f7a4_34 ?_
    refine j_istore2 C rfl dJ6_stringSize_0f7a4_35 ?_
    refine j_iinc3 C rfl dJ6_stringSize_0f7a4_36 ?_
    refine j_goto C dJ6_stringSize_0f7a4_39 ?_
    refine j_iload3 C dJ6_stringSize_0f7a4_16 ?_
    refine j_bipush C (by decide) dJ6_stringSize_0f7a4_17 ?_
    refine j_icmp_ge C (by decide) (by decide) dJ6_stringSize_0f7a4_19 (fun hc => absurd hc (by decide)) (fun _ => ?_)
    refine j_iload0 C dJ6_stringSize_0f7a4_22 ?_
    refine j_iload2 C dJ6_stringSize_0f7a4_23 ?_
    refine j_icmp_le C ⟨by omega, by omega⟩ (by decide) dJ6_stringSize_0f7a4_24 (fun hc2 => absurd hc2 (by omega)) (fun _ => ?_)
    refine j_iload3 C dJ6_stringSize_0f7a4_27 ?_
    refine j_iload1 C dJ6_stringSize_0f7a4_28 ?_
    refine j_iadd C dJ6_stringSize_0f7a4_29 ?_
    refine j_conv rfl (by rw [if_neg (show ¬ v < 10 by omega)]; rfl) rfl (hend _)
  · refine j_iload3 C dJ6_stringSize_0f7a4_27 ?_
    refine j_iload1 C dJ6_stringSize_0f7a4_28 ?_
    refine j_iadd C dJ6_stringSize_0f7a4_29 ?_
    refine j_conv rfl (by rw [if_pos (show v < 10 by omega)]; rfl) rfl (hend _)
set_option maxRecDepth 100000 in
set_option maxHeartbeats 4000000 in
theorem c_chars {κ : Nat → Nat} {Γ : Ga} {l : Launch} {ω : Wo} {n : Nat} {v i9 b : Nat} (hv : v < 100) (hi : (if v < 10 then 1 else 2) ≤ i9 ∧ i9 ≤ 16) (hb : At n b 17 κ) (hvb : ∀ j, 0 ≤ ω.1 b j ∧ ω.1 b j < 128) : CI Γ l yJ6_getChars_ba4f3 cJ6_getChars_ba4f3 7 .int 0 [.int (iI (v : Int)), .int (iI (i9 : Int)), .ref (rl Γ b)] ω (fun z ω' => ∃ f : Row, (∀ j, 0 ≤ f j ∧ f j < 128) ∧ ω' = wf ω b f) n κ := by
  refine Met.ofJ (k := 4) [some (.int (iI (v : Int))), some (.int (iI (i9 : Int))), some (.ref (rl Γ b)), none, none, none, none] (by decide) rfl rfl rfl (fun p e s mm args below meth c C hrt => ?_)
  refine j_iload1 C dJ6_getChars_ba4f3_0 ?_
  refine j_istore5 C rfl dJ6_getChars_ba4f3_1 ?_
  refine j_iload0 C dJ6_getChars_ba4f3_3 ?_
  refine j_if_ge C ⟨by omega, by omega⟩ dJ6_getChars_ba4f3_4 (fun hc4 => ?_) (fun hc4 => absurd hc4 (by omega))
  refine j_iconst C dJ6_getChars_ba4f3_11 ?_
  refine j_istore6 C rfl dJ6_getChars_ba4f3_12 ?_
  refine j_iload6 C dJ6_getChars_ba4f3_14 ?_
  refine j_if_ne C (by decide) dJ6_getChars_ba4f3_16 (fun hc => absurd hc (by decide)) (fun _ => ?_)
  refine j_iload0 C dJ6_getChars_ba4f3_19 ?_
  refine j_ineg C dJ6_getChars_ba4f3_20 ?_
  refine j_istore0 C dJ6_getChars_ba4f3_21 ?_
  refine j_iload0 C dJ6_getChars_ba4f3_22 ?_
  refine j_bipush C (by decide) dJ6_getChars_ba4f3_23 ?_
  refine j_icmp_gt C ⟨by omega, by omega⟩ ⟨by omega, by omega⟩ dJ6_getChars_ba4f3_25 (fun hc25 => ?_) (fun hc25 => absurd hc25 (by omega))
  refine j_aload2 C dJ6_getChars_ba4f3_72 ?_
  refine j_iinc5 C rfl dJ6_getChars_ba4f3_73 ?_
  refine j_iload5 C dJ6_getChars_ba4f3_76 ?_
  refine j_ones C dJ6_getChars_ba4f3_78 ?_
  refine j_iload0 C dJ6_getChars_ba4f3_81 ?_
  refine j_ineg C dJ6_getChars_ba4f3_82 ?_
  rw [Int.neg_neg]
  refine j_one2 (i := v) C (by omega) dJ6_getChars_ba4f3_83 ?_
  refine j_bast (v := 48 + v % 10) C hb ⟨by split at hi <;> omega, by omega⟩ (by omega) dJ6_getChars_ba4f3_84 ?_
  rw [wi_wf]
  refine j_iload0 C dJ6_getChars_ba4f3_85 ?_
  refine j_bipush C (by decide) dJ6_getChars_ba4f3_86 ?_
  refine j_icmp_ge C ⟨by omega, by omega⟩ ⟨by omega, by omega⟩ dJ6_getChars_ba4f3_88 (fun hc88 => ?_) (fun hc88 => ?_)
  · -- 88 t
    have hv1 : v < 10 := by omega
    refine j_iload6 C dJ6_getChars_ba4f3_104 ?_
    refine j_if_eq C (by decide) dJ6_getChars_ba4f3_106 (fun _ => ?_) (fun hc => absurd hc (by decide))
    refine j_iload5 C dJ6_getChars_ba4f3_118 ?_
    refine j_iret C hrt dJ6_getChars_ba4f3_120 ⟨by first | omega | (split at hi <;> omega), by omega⟩ ?_
    refine ⟨_, fun j => ?_, rfl⟩
    first | exact up_b (up_b (hvb) (by omega)) (by omega) j | exact up_b hvb (by omega) j
  · -- 88 f
    have hv1 : ¬ v < 10 := by omega
    rw [if_neg hv1] at hi
    refine j_aload2 C dJ6_getChars_ba4f3_91 ?_
    refine j_iinc5 C rfl dJ6_getChars_ba4f3_92 ?_
    refine j_iload5 C dJ6_getChars_ba4f3_95 ?_
    refine j_tens C dJ6_getChars_ba4f3_97 ?_
    refine j_iload0 C dJ6_getChars_ba4f3_100 ?_
    refine j_ineg C dJ6_getChars_ba4f3_101 ?_
    rw [Int.neg_neg]
    refine j_ten1 (i := v) C (by omega) dJ6_getChars_ba4f3_102 ?_
    refine j_bast (v := 48 + v / 10) C hb ⟨by omega, by omega⟩ (by omega) dJ6_getChars_ba4f3_103 ?_
    rw [wi_wf, wf_same, wf_wf]
    refine j_iload6 C dJ6_getChars_ba4f3_104 ?_
    refine j_if_eq C (by decide) dJ6_getChars_ba4f3_106 (fun _ => ?_) (fun hc => absurd hc (by decide))
    refine j_iload5 C dJ6_getChars_ba4f3_118 ?_
    refine j_iret C hrt dJ6_getChars_ba4f3_120 ⟨by first | omega | (split at hi <;> omega), by omega⟩ ?_
    refine ⟨_, fun j => ?_, rfl⟩
    first | exact up_b (up_b (hvb) (by omega)) (by omega) j | exact up_b hvb (by omega) j
set_option maxRecDepth 100000 in
set_option maxHeartbeats 4000000 in
theorem c_isL {κ : Nat → Nat} {Γ : Ga} {l : Launch} {ω : Wo} {n : Nat} {a : Nat} (ha : At n a 8 κ) (h1 : ω.1 a 1 = 0) : CI Γ l yJ5_isLatin1_aae02 cJ5_isLatin1_aae02 1 .boolean 0 [.ref (rl Γ a)] ω (fun z ω' => z = 1 ∧ ω = ω') n κ := by
  refine Met.ofJ (k := 0) [some (.ref (rl Γ a))] (by decide) rfl rfl rfl (fun p e s mm args below meth c C hrt => ?_)
  refine j_compact C dJ5_isLatin1_aae02_0 ?_
  refine j_if_eq C (by decide) dJ5_isLatin1_aae02_3 (fun hc => absurd hc (by decide)) (fun _ => ?_)
  refine j_aload0 C dJ5_isLatin1_aae02_6 ?_
  refine j_cod C ha h1 dJ5_isLatin1_aae02_7 (fun hr7 => ?_)
  refine j_if_ne C (by decide) dJ5_isLatin1_aae02_10 (fun hc => absurd hc (by decide)) (fun _ => ?_)
  refine j_iconst C dJ5_isLatin1_aae02_13 ?_
  refine j_goto C dJ5_isLatin1_aae02_14 ?_
  refine j_zret C hrt dJ5_isLatin1_aae02_18 (Or.inr rfl) ?_
  exact ⟨rfl, rfl⟩
set_option maxRecDepth 100000 in
set_option maxHeartbeats 4000000 in
theorem c_ens {κ : Nat → Nat} {Γ : Ga} {l : Launch} {ω : Wo} {n : Nat} {a b : Nat} (ha : At n a 8 κ) (hb : At n b 17 κ) (h0 : ω.2.1 a 0 = some b) (h1 : ω.1 a 1 = 0) {w : Nat} (hw : w ≤ 16) : CV Γ l yJ5_ensureCapacityInternal_d00df cJ5_ensureCapacityInternal_d00df 3 0 [.ref (rl Γ a), .int (iI (w : Int))] ω (fun ω' => ω = ω') n κ := by
  refine Met.ofJ (k := 1) [some (.ref (rl Γ a)), some (.int (iI (w : Int))), none] (by decide) rfl rfl rfl (fun p e s mm args below meth c C hrt => ?_)
  refine j_aload0 C dJ5_ensureCapacityInternal_d00df_0 ?_
  refine j_val C ha h0 dJ5_ensureCapacityInternal_d00df_1 ?_
  refine j_blen C hb dJ5_ensureCapacityInternal_d00df_4 ?_
  refine j_aload0 C dJ5_ensureCapacityInternal_d00df_5 ?_
  refine j_cod C ha (show _ = ((0 : Nat) : Int) from h1) dJ5_ensureCapacityInternal_d00df_6 (fun hr6 => ?_)
  refine j_ishr C (by decide) (by decide) dJ5_ensureCapacityInternal_d00df_9 ?_
  rw [show (16 / 2 ^ 0 : Nat) = 16 from rfl]
  refine j_istore2 C rfl dJ5_ensureCapacityInternal_d00df_10 ?_
  refine j_iload1 C dJ5_ensureCapacityInternal_d00df_11 ?_
  refine j_iload2 C dJ5_ensureCapacityInternal_d00df_12 ?_
  refine j_isub C dJ5_ensureCapacityInternal_d00df_13 ?_
  refine j_if_le C ⟨by omega, by omega⟩ dJ5_ensureCapacityInternal_d00df_14 (fun hc14 => ?_) (fun hc14 => absurd hc14 (by omega))
  refine j_vret C hrt dJ5_ensureCapacityInternal_d00df_38 ?_
  rfl
set_option maxRecDepth 100000 in
set_option maxHeartbeats 4000000 in
theorem c_len5 {κ : Nat → Nat} {Γ : Ga} {l : Launch} {ω : Wo} {n : Nat} {a : Nat} {v9 : Int} (ha : At n a 8 κ) (hn : ω.1 a 3 = v9) : CI Γ l yJ5_length_8abf5 cJ5_length_8abf5 1 .int 0 [.ref (rl Γ a)] ω (fun z ω' => z = v9 ∧ ω = ω') n κ := by
  refine Met.ofJ (k := 0) [some (.ref (rl Γ a))] (by decide) rfl rfl rfl (fun p e s mm args below meth c C hrt => ?_)
  refine j_aload0 C dJ5_length_8abf5_0 ?_
  refine j_cnt C ha hn dJ5_length_8abf5_1 (fun hr1 => ?_)
  refine j_iret C hrt dJ5_length_8abf5_4 ⟨by omega, by omega⟩ ?_
  exact ⟨rfl, rfl⟩
set_option maxRecDepth 100000 in
set_option maxHeartbeats 4000000 in
theorem c_app5i {κ : Nat → Nat} {Γ : Ga} {l : Launch} {ω : Wo} {n : Nat} {a b n9 : Nat} (ha : At n a 8 κ) (hb : At n b 17 κ) (hab : a ≠ b) (hS : SBg ω a b n9) {v : Nat} (hv : v < 100) (hn : n9 + (if v < 10 then 1 else 2) ≤ 16) : CRf Γ l yJ5_append_c97b9 cJ5_append_c97b9 4 "java/lang/AbstractStringBuilder" 1 [.ref (rl Γ a), .int (iI (v : Int))] ω (fun b9 ω' => b9 = some a ∧ Wap ω a b (n9 + (if v < 10 then 1 else 2)) ω') n κ := by
  refine Met.ofJ (k := 2) [some (.ref (rl Γ a)), some (.int (iI (v : Int))), none, none] (by decide) rfl rfl rfl (fun p e s mm args below meth c C hrt => ?_)
  refine j_aload0 C dJ5_append_c97b9_0 ?_
  refine j_cnt C ha hS.2.2.1 dJ5_append_c97b9_1 (fun hr1 => ?_)
  refine j_istore2 C rfl dJ5_append_c97b9_4 ?_
  refine j_iload2 C dJ5_append_c97b9_5 ?_
  refine j_iload1 C dJ5_append_c97b9_6 ?_
  refine j_cSI1 C (c_size hv) oJ6_stringSize_0f7a4 kJ5_245 ⟨by decide, by decide⟩ rfl (Nat.le_of_ble_eq_true rfl) ⟨by decide, by decide⟩ dJ5_append_c97b9_7 ?_
  rintro _ _ - ⟨rfl, rfl⟩
  refine j_iadd C dJ5_append_c97b9_10 ?_
  rw [← Int.natCast_add]
  refine j_istore3 C rfl dJ5_append_c97b9_11 ?_
  refine j_aload0 C dJ5_append_c97b9_12 ?_
  refine j_iload3 C dJ5_append_c97b9_13 ?_
  refine j_cPV1 C (c_ens ha hb hS.1 hS.2.1 hn) uJ5_ensure kJ5_100 ha ⟨by decide, by decide⟩ rfl (Nat.le_of_ble_eq_true rfl) ⟨by decide, by decide⟩ dJ5_append_c97b9_14 ?_
  rintro _ rfl
  refine j_aload0 C dJ5_append_c97b9_17 ?_
  refine j_cLI0 C (c_isL ha hS.2.1) uJ5_isLatin1 kJ5_83 ha ⟨by decide, by decide⟩ rfl (Nat.le_of_ble_eq_true rfl) ⟨by decide, by decide⟩ dJ5_append_c97b9_18 ?_
  rintro _ _ - ⟨rfl, rfl⟩
  refine j_if_eq C (by decide) dJ5_append_c97b9_21 (fun hc => absurd hc (by decide)) (fun _ => ?_)
  refine j_iload1 C dJ5_append_c97b9_24 ?_
  refine j_iload3 C dJ5_append_c97b9_25 ?_
  refine j_aload0 C dJ5_append_c97b9_26 ?_
  refine j_val C ha hS.1 dJ5_append_c97b9_27 ?_
  refine j_cSI3 C (c_chars hv ⟨by omega, hn⟩ hb hS.2.2.2) oJ6_getChars_ba4f3 kJ5_248 ⟨by decide, by decide⟩ rfl (Nat.le_of_ble_eq_true rfl) ⟨by decide, by decide⟩ dJ5_append_c97b9_30 ?_
  rintro z9 _ hz9 ⟨f, hf, rfl⟩
  refine j_pop C rfl dJ5_append_c97b9_33 ?_
  refine j_goto C dJ5_append_c97b9_34 ?_
  refine j_aload0 C dJ5_append_c97b9_48 ?_
  refine j_iload3 C dJ5_append_c97b9_49 ?_
  refine j_put8I C ha ⟨by omega, by omega⟩ dJ5_append_c97b9_50 ?_
  refine j_aload0 C dJ5_append_c97b9_53 ?_
  refine j_aret C hrt dJ5_append_c97b9_54 ?_
  exact ⟨rfl, Wap.of hS hab hf⟩
set_option maxRecDepth 100000 in
set_option maxHeartbeats 4000000 in
theorem c_app4i {κ : Nat → Nat} {Γ : Ga} {l : Launch} {ω : Wo} {n : Nat} {a b n9 : Nat} (ha : At n a 8 κ) (hb : At n b 17 κ) (hab : a ≠ b) (hS : SBg ω a b n9) {v : Nat} (hv : v < 100) (hn : n9 + (if v < 10 then 1 else 2) ≤ 16) : CRf Γ l yJ4_append_bf812 cJ4_append_bf812 2 "java/lang/StringBuilder" 2 [.ref (rl Γ a), .int (iI (v : Int))] ω (fun b9 ω' => b9 = some a ∧ Wap ω a b (n9 + (if v < 10 then 1 else 2)) ω') n κ := by
  refine Met.ofJ (k := 0) [some (.ref (rl Γ a)), some (.int (iI (v : Int)))] (by decide) rfl rfl rfl (fun p e s mm args below meth c C hrt => ?_)
  refine j_aload0 C dJ4_append_bf812_0 ?_
  refine j_iload1 C dJ4_append_bf812_1 ?_
  refine j_cUE1 C (c_app5i ha hb hab hS hv hn) uJ5_append_c97b9 kJ4_53 ha ⟨by decide, by decide⟩ rfl (Nat.le_of_ble_eq_true rfl) ⟨by decide, by decide⟩ dJ4_append_bf812_2 ?_
  rintro _ W9 ⟨rfl, hw9⟩
  refine j_pop C rfl dJ4_append_bf812_5 ?_
  refine j_aload0 C dJ4_append_bf812_6 ?_
  refine j_aret C hrt dJ4_append_bf812_7 ?_
  exact ⟨rfl, hw9⟩
set_option maxRecDepth 100000 in
set_option maxHeartbeats 4000000 in
theorem c_coder {κ : Nat → Nat} {Γ : Ga} {l : Launch} {ω : Wo} {n : Nat} {q v k : Nat} (h : SV Γ κ n ω q v k) : CI Γ l yJ0_coder_7d493 cJ0_coder_7d493 1 .byte 0 [.ref q] ω (fun z ω' => z = 0 ∧ ω = ω') n κ := by
  refine Met.ofJ (k := 0) [some (.ref q)] (by decide) rfl rfl rfl (fun p e s mm args below meth c C hrt => ?_)
  refine j_compact0 C dJ0_coder_7d493_0 ?_
  refine j_if_eq C (by decide) dJ0_coder_7d493_3 (fun hc => absurd hc (by decide)) (fun _ => ?_)
  refine j_aload0 C dJ0_coder_7d493_6 ?_
  refine j_scod C h dJ0_coder_7d493_7 ?_
  refine j_goto C dJ0_coder_7d493_10 ?_
  exact j_bret C hrt dJ0_coder_7d493_14 ⟨rfl, rfl⟩
set_option maxRecDepth 100000 in
set_option maxHeartbeats 4000000 in
theorem c_slen {κ : Nat → Nat} {Γ : Ga} {l : Launch} {ω : Wo} {n : Nat} {q v k : Nat} (h : SV Γ κ n ω q v k) (hk : k < 2000) : CI Γ l yJ0_length_8abf5 cJ0_length_8abf5 1 .int 1 [.ref q] ω (fun z ω' => z = (k : Int) ∧ ω = ω') n κ := by
  refine Met.ofJ (k := 0) [some (.ref q)] (by decide) rfl rfl rfl (fun p e s mm args below meth c C hrt => ?_)
  refine j_aload0 C dJ0_length_8abf5_0 ?_
  refine j_sval C h dJ0_length_8abf5_1 ?_
  refine j_salen C h hk dJ0_length_8abf5_4 ?_
  refine j_aload0 C dJ0_length_8abf5_5 ?_
  refine j_cQI0 C h (c_coder h) oJ0_coder_7d493 kJ0_335 rfl ⟨by decide, by decide⟩ rfl (Nat.le_of_ble_eq_true rfl) ⟨by decide, by decide⟩ dJ0_length_8abf5_6 ?_
  rintro _ _ - ⟨rfl, rfl⟩
  refine j_conv rfl (show _ = [Value.int (iI ((0 : Nat) : Int)), Value.int (iI (k : Int))] from rfl) rfl ?_
  refine j_ishr C (by decide) (by omega) dJ0_length_8abf5_9 ?_
  rw [show k / 2 ^ 0 = k by simp]
  refine j_iret C hrt dJ0_length_8abf5_10 ⟨by omega, by omega⟩ ?_
  exact ⟨rfl, rfl⟩
set_option maxRecDepth 100000 in
set_option maxHeartbeats 4000000 in
theorem c_sisL {κ : Nat → Nat} {Γ : Ga} {l : Launch} {ω : Wo} {n : Nat} {q v k : Nat} (h : SV Γ κ n ω q v k) : CI Γ l yJ0_isLatin1_aae02 cJ0_isLatin1_aae02 1 .boolean 0 [.ref q] ω (fun z ω' => z = 1 ∧ ω = ω') n κ := by
  refine Met.ofJ (k := 0) [some (.ref q)] (by decide) rfl rfl rfl (fun p e s mm args below meth c C hrt => ?_)
  refine j_compact0 C dJ0_isLatin1_aae02_0 ?_
  refine j_if_eq C (by decide) dJ0_isLatin1_aae02_3 (fun hc => absurd hc (by decide)) (fun _ => ?_)
  refine j_aload0 C dJ0_isLatin1_aae02_6 ?_
  refine j_scod C h dJ0_isLatin1_aae02_7 ?_
  refine j_if_ne C (by decide) dJ0_isLatin1_aae02_10 (fun hc => absurd hc (by decide)) (fun _ => ?_)
  refine j_iconst C dJ0_isLatin1_aae02_13 ?_
  refine j_goto C dJ0_isLatin1_aae02_14 ?_
  refine j_zret C hrt dJ0_isLatin1_aae02_18 (Or.inr rfl) ?_
  exact ⟨rfl, rfl⟩
set_option maxRecDepth 100000 in
set_option maxHeartbeats 4000000 in
theorem c_pre3 {κ : Nat → Nat} {Γ : Ga} {l : Launch} {ω : Wo} {n : Nat} {w9 : Value} (hw : w9.category = 1) {i9 n9 : Int} (hi : 0 ≤ i9 ∧ i9 < n9) (hn : n9 < 2000) : CI Γ l yJ3_checkIndex_8e157 cJ3_checkIndex_8e157 3 .int 0 [.int (iI i9), .int (iI n9), w9] ω (fun z ω' => ω = ω') n κ := by
  refine Met.ofJ (k := 0) [some (.int (iI i9)), some (.int (iI n9)), some w9] (by decide) rfl rfl (by show (true && (true && ((w9.category == 1) && true))) = true; rw [hw]; rfl) (fun p e s mm args below meth c C hrt => ?_)
  refine j_iload0 C dJ3_checkIndex_8e157_0 ?_
  refine j_if_lt C ⟨by omega, by omega⟩ dJ3_checkIndex_8e157_1 (fun hc1 => absurd hc1 (by omega)) (fun hc1 => ?_)
  refine j_iload0 C dJ3_checkIndex_8e157_4 ?_
  refine j_iload1 C dJ3_checkIndex_8e157_5 ?_
  refine j_icmp_lt C ⟨by omega, by omega⟩ ⟨by omega, by omega⟩ dJ3_checkIndex_8e157_6 (fun hc6 => ?_) (fun hc6 => absurd hc6 (by omega))
  refine j_iload0 C dJ3_checkIndex_8e157_16 ?_
  refine j_iret C hrt dJ3_checkIndex_8e157_17 ⟨by omega, by omega⟩ ?_
  rfl
set_option maxRecDepth 100000 in
set_option maxHeartbeats 4000000 in
theorem c_chk {κ : Nat → Nat} {Γ : Ga} {l : Launch} {ω : Wo} {n : Nat} {i9 n9 : Int} (hi : 0 ≤ i9 ∧ i9 < n9) (hn : n9 < 2000) : CV Γ l yJ0_checkIndex_df160 cJ0_checkIndex_df160 2 1 [.int (iI i9), .int (iI n9)] ω (fun ω' => ω = ω') n κ := by
  refine Met.ofJ (k := 0) [some (.int (iI i9)), some (.int (iI n9))] (by decide) rfl rfl rfl (fun p e s mm args below meth c C hrt => ?_)
  refine j_iload0 C dJ0_checkIndex_df160_0 ?_
  refine j_iload1 C dJ0_checkIndex_df160_1 ?_
  refine j_fmt C dJ0_checkIndex_df160_2 (fun w9 hw9 => ?_)
  refine j_cSI3 C (c_pre3 hw9 hi hn) oJ3_checkIndex_8e157 kJ0_1059 ⟨by decide, by decide⟩ rfl (Nat.le_of_ble_eq_true rfl) ⟨by decide, by decide⟩ dJ0_checkIndex_df160_5 ?_
  rintro z9 _ hz9 rfl
  refine j_pop C rfl dJ0_checkIndex_df160_8 ?_
  refine j_vret C hrt dJ0_checkIndex_df160_9 ?_
  rfl
set_option maxRecDepth 100000 in
set_option maxHeartbeats 4000000 in
theorem c_lat {κ : Nat → Nat} {Γ : Ga} {l : Launch} {ω : Wo} {n : Nat} {b k i9 : Nat} (hb : At n b (100 + k) κ) (hk : k < 2000) (hi : i9 < k) (hvb : ∀ j, 0 ≤ ω.1 b j ∧ ω.1 b j < 128) : CI Γ l yJ1_charAt_3b067 cJ1_charAt_3b067 2 .char 2 [.ref (rl Γ b), .int (iI (i9 : Int))] ω (fun z ω' => 0 ≤ z ∧ z < 128 ∧ ω = ω') n κ := by
  refine Met.ofJ (k := 0) [some (.ref (rl Γ b)), some (.int (iI (i9 : Int)))] (by decide) rfl rfl rfl (fun p e s mm args below meth c C hrt => ?_)
  refine j_iload1 C dJ1_charAt_3b067_0 ?_
  refine j_aload0 C dJ1_charAt_3b067_1 ?_
  refine j_blenK C hb (kk_b k) (lnk_b k) (by omega) dJ1_charAt_3b067_2 ?_
  refine j_cSV2 C (c_chk (by omega) (by omega)) oJ0_checkIndex_df160 kJ1_9 ⟨by decide, by decide⟩ rfl (Nat.le_of_ble_eq_true rfl) ⟨by decide, by decide⟩ dJ1_charAt_3b067_3 ?_
  rintro _ rfl
  refine j_aload0 C dJ1_charAt_3b067_6 ?_
  refine j_iload1 C dJ1_charAt_3b067_7 ?_
  obtain ⟨x9, hx9⟩ := Int.eq_ofNat_of_zero_le (hvb i9).1
  have hx8 := (hvb i9).2
  refine j_baldK C hb (kk_b k) (lnk_b k) hk ⟨by omega, by omega⟩ (show _ = (x9 : Int) by rw [Int.toNat_natCast]; exact hx9) dJ1_charAt_3b067_8 ?_
  refine j_sipush C (by decide) dJ1_charAt_3b067_9 ?_
  rw [show (255 : Int) = ((255 : Nat) : Int) from rfl]
  refine j_iand C dJ1_charAt_3b067_12 ?_
  refine j_i2c C dJ1_charAt_3b067_13 ?_
  have a9 : x9 &&& 255 = x9 := and255 x9 (by omega)
  refine j_cret C hrt dJ1_charAt_3b067_14 (by rw [a9]; omega) ?_
  rw [a9]
  exact ⟨by omega, by omega, rfl⟩
set_option maxRecDepth 100000 in
set_option maxHeartbeats 4000000 in
theorem c_scharAt {κ : Nat → Nat} {Γ : Ga} {l : Launch} {ω : Wo} {n : Nat} {a b k i9 : Nat} (ha : At n a 7 κ) (hb : At n b (100 + k) κ) (h0 : ω.2.1 a 0 = some b) (h1 : ω.1 a 1 = 0) (hk : k < 2000) (hi : i9 < k) (hvb : ∀ j, 0 ≤ ω.1 b j ∧ ω.1 b j < 128) : CI Γ l yJ0_charAt_5068e cJ0_charAt_5068e 2 .char 3 [.ref (rl Γ a), .int (iI (i9 : Int))] ω (fun z ω' => 0 ≤ z ∧ z < 128 ∧ ω = ω') n κ := by
  refine Met.ofJ (k := 0) [some (.ref (rl Γ a)), some (.int (iI (i9 : Int)))] (by decide) rfl rfl rfl (fun p e s mm args below meth c C hrt => ?_)
  have h : SV Γ κ n ω (rl Γ a) (rl Γ b) k := Or.inr ⟨a, b, rfl, rfl, ha, hb, h0, h1, hvb⟩
  refine j_aload0 C dJ0_charAt_5068e_0 ?_
  refine j_cQI0 C h (c_sisL h) oJ0_isLatin1_aae02 kJ0_492 rfl ⟨by decide, by decide⟩ rfl (Nat.le_of_ble_eq_true rfl) ⟨by decide, by decide⟩ dJ0_charAt_5068e_1 ?_
  rintro _ _ - ⟨rfl, rfl⟩
  refine j_if_eq C (by decide) dJ0_charAt_5068e_4 (fun hc => absurd hc (by decide)) (fun _ => ?_)
  refine j_aload0 C dJ0_charAt_5068e_7 ?_
  refine j_sval C h dJ0_charAt_5068e_8 ?_
  refine j_iload1 C dJ0_charAt_5068e_11 ?_
  refine j_cSI2 C (c_lat hb hk hi hvb) oJ1_charAt_3b067 kJ0_495 ⟨by decide, by decide⟩ rfl (Nat.le_of_ble_eq_true rfl) ⟨by decide, by decide⟩ dJ0_charAt_5068e_12 ?_
  rintro z9 _ hz9 ⟨q1, q2, rfl⟩
  exact j_cret C hrt dJ0_charAt_5068e_15 ⟨by omega, by omega⟩ ⟨q1, q2, rfl⟩
set_option maxRecDepth 100000 in
set_option maxHeartbeats 4000000 in
theorem c_inf {κ : Nat → Nat} {Γ : Ga} {l : Launch} {ω : Wo} {n : Nat} {a q v k : Nat} (ha : At n a 8 κ) (h1 : ω.1 a 1 = 0) (h : SV Γ κ n ω q v k) : CV Γ l yJ5_inflateIfNeededFor_a7421 cJ5_inflateIfNeededFor_a7421 2 1 [.ref (rl Γ a), .ref q] ω (fun ω' => ω = ω') n κ := by
  refine Met.ofJ (k := 0) [some (.ref (rl Γ a)), some (.ref q)] (by decide) rfl rfl rfl (fun p e s mm args below meth c C hrt => ?_)
  refine j_compact C dJ5_inflateIfNeededFor_a7421_0 ?_
  refine j_if_eq C (by decide) dJ5_inflateIfNeededFor_a7421_3 (fun hc => absurd hc (by decide)) (fun _ => ?_)
  refine j_aload0 C dJ5_inflateIfNeededFor_a7421_6 ?_
  refine j_cod C ha h1 dJ5_inflateIfNeededFor_a7421_7 (fun hr7 => ?_)
  refine j_aload1 C dJ5_inflateIfNeededFor_a7421_10 ?_
  refine j_cQI0 C h (c_coder h) oJ0_coder_7d493 kJ5_40 rfl ⟨by decide, by decide⟩ rfl (Nat.le_of_ble_eq_true rfl) ⟨by decide, by decide⟩ dJ5_inflateIfNeededFor_a7421_11 ?_
  rintro _ _ - ⟨rfl, rfl⟩
  refine j_icmp_eq C (by decide) (by decide) dJ5_inflateIfNeededFor_a7421_14 (fun _ => ?_) (fun hc => absurd rfl hc)
  refine j_vret C hrt dJ5_inflateIfNeededFor_a7421_21 ?_
  rfl
set_option maxRecDepth 100000 in
set_option maxHeartbeats 4000000 in
theorem c_getB {κ : Nat → Nat} {Γ : Ga} {l : Launch} {ω : Wo} {n : Nat} {b q v k dp : Nat} (h : SV Γ κ n ω q v k) (hb : At n b 17 κ) (hs : dp + k ≤ 16) (hbs : ∀ x, v = rl Γ x → x < n → x ≠ b) (hvb : ∀ j, 0 ≤ ω.1 b j ∧ ω.1 b j < 128) : CV Γ l yJ0_getBytes_840e7 cJ0_getBytes_840e7 4 1 [.ref q, .ref (rl Γ b), .int (iI (dp : Int)), .int (iI 0)] ω (fun ω' => ∃ f : Row, (∀ j, 0 ≤ f j ∧ f j < 128) ∧ ω' = wf ω b f) n κ := by
  refine Met.ofJ (k := 0) [some (.ref q), some (.ref (rl Γ b)), some (.int (iI (dp : Int))), some (.int (iI 0))] (by decide) rfl rfl rfl (fun p e s mm args below meth c C hrt => ?_)
  refine j_aload0 C dJ0_getBytes_840e7_0 ?_
  refine j_cQI0 C h (c_coder h) oJ0_coder_7d493 kJ0_335 rfl ⟨by decide, by decide⟩ rfl (Nat.le_of_ble_eq_true rfl) ⟨by decide, by decide⟩ dJ0_getBytes_840e7_1 ?_
  rintro _ _ - ⟨rfl, rfl⟩
  refine j_iload3 C dJ0_getBytes_840e7_4 ?_
  refine j_icmp_ne C (by decide) (by decide) dJ0_getBytes_840e7_5 (fun hc => absurd rfl hc) (fun _ => ?_)
  refine j_aload0 C dJ0_getBytes_840e7_8 ?_
  refine j_sval C h dJ0_getBytes_840e7_9 ?_
  refine j_iconst C dJ0_getBytes_840e7_12 ?_
  refine j_aload1 C dJ0_getBytes_840e7_13 ?_
  refine j_iload2 C dJ0_getBytes_840e7_14 ?_
  refine j_iload3 C dJ0_getBytes_840e7_15 ?_
  refine j_conv rfl (show _ = Value.int (iI ((0 : Nat) : Int)) :: Value.int (iI (dp : Int)) :: _ from rfl) rfl ?_
  refine j_ishl C (by decide) dJ0_getBytes_840e7_16 ?_
  rw [show dp * 2 ^ 0 = dp by simp]
  refine j_aload0 C dJ0_getBytes_840e7_17 ?_
  refine j_sval C h dJ0_getBytes_840e7_18 ?_
  refine j_salen C h (by omega) dJ0_getBytes_840e7_21 ?_
  refine j_scopy C (WS_of 1076 (by decide +kernel)) h hb ⟨rfl, rfl⟩ rfl hbs ⟨hs, by omega, by decide⟩ hvb (by decide) (Nat.le_of_ble_eq_true rfl) rfl dJ0_getBytes_840e7_22 (fun f hf => ?_)
  refine j_goto C dJ0_getBytes_840e7_25 ?_
  refine j_vret C hrt dJ0_getBytes_840e7_43 ?_
  exact ⟨f, hf, rfl⟩
theorem u_putStringAt : Op2 yJ5_putStringAt_47b60 cJ5_putStringAt_47b60 3 none 2 := ⟨WS_of 1346 (by decide +kernel), List.mem_of_getElem? (i := 1) rfl, WS_of 1046 (by decide +kernel), WS_of 35 (by decide +kernel), WS_of 1047 (by decide +kernel), ⟨by decide +kernel, by decide +kernel, by decide +kernel⟩⟩
theorem u_inflateIfNeededFor : Op2 yJ5_inflateIfNeededFor_a7421 cJ5_inflateIfNeededFor_a7421 2 none 1 := ⟨WS_of 1347 (by decide +kernel), List.mem_of_getElem? (i := 2) rfl, WS_of 1050 (by decide +kernel), WS_of 35 (by decide +kernel), WS_of 1051 (by decide +kernel), ⟨by decide +kernel, by decide +kernel, by decide +kernel⟩⟩
set_option maxRecDepth 100000 in
set_option maxHeartbeats 4000000 in
theorem c_putS {κ : Nat → Nat} {Γ : Ga} {l : Launch} {ω : Wo} {n : Nat} {a b n9 q v k : Nat} (ha : At n a 8 κ) (hb : At n b 17 κ) (hab : a ≠ b) (hS : SBg ω a b n9) (h : SV Γ κ n ω q v k) (hs : n9 + k ≤ 16) (hbs : ∀ x, v = rl Γ x → x < n → x ≠ b) : CV Γ l yJ5_putStringAt_47b60 cJ5_putStringAt_47b60 3 2 [.ref (rl Γ a), .int (iI (n9 : Int)), .ref q] ω (fun ω' => ∃ f : Row, (∀ j, 0 ≤ f j ∧ f j < 128) ∧ ω' = wf ω b f) n κ := by
  refine Met.ofJ (k := 0) [some (.ref (rl Γ a)), some (.int (iI (n9 : Int))), some (.ref q)] (by decide) rfl rfl rfl (fun p e s mm args below meth c C hrt => ?_)
  refine j_aload0 C dJ5_putStringAt_47b60_0 ?_
  refine j_aload2 C dJ5_putStringAt_47b60_1 ?_
  refine j_cPV1 C (c_inf ha hS.2.1 h) u_inflateIfNeededFor kJ5_397 ha ⟨by decide, by decide⟩ rfl (Nat.le_of_ble_eq_true rfl) ⟨by decide, by decide⟩ dJ5_putStringAt_47b60_2 ?_
  rintro _ rfl
  refine j_aload2 C dJ5_putStringAt_47b60_5 ?_
  refine j_aload0 C dJ5_putStringAt_47b60_6 ?_
  refine j_val C ha hS.1 dJ5_putStringAt_47b60_7 ?_
  refine j_iload1 C dJ5_putStringAt_47b60_10 ?_
  refine j_aload0 C dJ5_putStringAt_47b60_11 ?_
  refine j_cod C ha hS.2.1 dJ5_putStringAt_47b60_12 (fun hr12 => ?_)
  refine j_cQV3 C h (c_getB h hb hs hbs hS.2.2.2) oJ0_getBytes_840e7 kJ5_399 rfl ⟨by decide, by decide⟩ rfl (Nat.le_of_ble_eq_true rfl) ⟨by decide, by decide⟩ dJ5_putStringAt_47b60_15 ?_
  intro W9 hW9
  refine j_vret C hrt dJ5_putStringAt_47b60_18 ?_
  exact hW9
set_option maxRecDepth 100000 in
set_option maxHeartbeats 4000000 in
theorem c_app5s {κ : Nat → Nat} {Γ : Ga} {l : Launch} {ω : Wo} {n : Nat} {a b n9 q v k : Nat} (ha : At n a 8 κ) (hb : At n b 17 κ) (hab : a ≠ b) (hS : SBg ω a b n9) (h : SV Γ κ n ω q v k) (hs : n9 + k ≤ 16) (hbs : ∀ x, v = rl Γ x → x < n → x ≠ b) : CRf Γ l yJ5_append_cf1ce cJ5_append_cf1ce 3 "java/lang/AbstractStringBuilder" 3 [.ref (rl Γ a), .ref q] ω (fun b9 ω' => b9 = some a ∧ Wap ω a b (n9 + k) ω') n κ := by
  refine Met.ofJ (k := 1) [some (.ref (rl Γ a)), some (.ref q), none] (by decide) rfl rfl rfl (fun p e s mm args below meth c C hrt => ?_)
  refine j_aload1 C dJ5_append_cf1ce_0 ?_
  refine j_ifnonnull C dJ5_append_cf1ce_1 ?_
  refine j_aload1 C dJ5_append_cf1ce_9 ?_
  refine j_cQI0 C h (c_slen h (by omega)) oJ0_length_8abf5 kJ5_32 rfl ⟨by decide, by decide⟩ rfl (Nat.le_of_ble_eq_true rfl) ⟨by decide, by decide⟩ dJ5_append_cf1ce_10 ?_
  rintro _ _ - ⟨rfl, rfl⟩
  refine j_istore2 C rfl dJ5_append_cf1ce_13 ?_
  refine j_aload0 C dJ5_append_cf1ce_14 ?_
  refine j_aload0 C dJ5_append_cf1ce_15 ?_
  refine j_cnt C ha hS.2.2.1 dJ5_append_cf1ce_16 (fun hr16 => ?_)
  refine j_iload2 C dJ5_append_cf1ce_19 ?_
  refine j_iadd C dJ5_append_cf1ce_20 ?_
  rw [← Int.natCast_add]
  refine j_cPV1 C (c_ens ha hb hS.1 hS.2.1 hs) uJ5_ensure kJ5_100 ha ⟨by decide, by decide⟩ rfl (Nat.le_of_ble_eq_true rfl) ⟨by decide, by decide⟩ dJ5_append_cf1ce_21 ?_
  rintro _ rfl
  refine j_aload0 C dJ5_append_cf1ce_24 ?_
  refine j_aload0 C dJ5_append_cf1ce_25 ?_
  refine j_cnt C ha hS.2.2.1 dJ5_append_cf1ce_26 (fun hr26 => ?_)
  refine j_aload1 C dJ5_append_cf1ce_29 ?_
  refine j_cPV2 C (c_putS ha hb hab hS h hs hbs) u_putStringAt kJ5_208 ha ⟨by decide, by decide⟩ rfl (Nat.le_of_ble_eq_true rfl) ⟨by decide, by decide⟩ dJ5_append_cf1ce_30 ?_
  rintro _ ⟨f, hf, rfl⟩
  refine j_aload0 C dJ5_append_cf1ce_33 ?_
  refine j_dup C rfl dJ5_append_cf1ce_34 ?_
  refine j_cnt C ha (show _ = (n9 : Int) by rw [wf_ne _ _ hab]; exact hS.2.2.1) dJ5_append_cf1ce_35 (fun hr35 => ?_)
  refine j_iload2 C dJ5_append_cf1ce_38 ?_
  refine j_iadd C dJ5_append_cf1ce_39 ?_
  rw [← Int.natCast_add]
  refine j_put8I C ha ⟨by omega, by omega⟩ dJ5_append_cf1ce_40 ?_
  refine j_aload0 C dJ5_append_cf1ce_43 ?_
  refine j_aret C hrt dJ5_append_cf1ce_44 ?_
  exact ⟨rfl, Wap.of hS hab hf⟩
theorem u_appS : Ou yJ5_append_cf1ce cJ5_append_cf1ce 3 (some (.object "java/lang/AbstractStringBuilder")) 1 := ⟨WS_of 1342 (by decide +kernel), WS_of 859 (by decide +kernel), WS_of 963 (by decide +kernel), WS_of 35 (by decide +kernel), WS_of 964 (by decide +kernel), by decide, by decide +kernel⟩
set_option maxRecDepth 100000 in
set_option maxHeartbeats 4000000 in
theorem c_app4s {κ : Nat → Nat} {Γ : Ga} {l : Launch} {ω : Wo} {n : Nat} {a b n9 q v k : Nat} (ha : At n a 8 κ) (hb : At n b 17 κ) (hab : a ≠ b) (hS : SBg ω a b n9) (h : SV Γ κ n ω q v k) (hs : n9 + k ≤ 16) (hbs : ∀ x, v = rl Γ x → x < n → x ≠ b) : CRf Γ l yJ4_append_15ec4 cJ4_append_15ec4 2 "java/lang/StringBuilder" 4 [.ref (rl Γ a), .ref q] ω (fun b9 ω' => b9 = some a ∧ Wap ω a b (n9 + k) ω') n κ := by
  refine Met.ofJ (k := 0) [some (.ref (rl Γ a)), some (.ref q)] (by decide) rfl rfl rfl (fun p e s mm args below meth c C hrt => ?_)
  refine j_aload0 C dJ4_append_15ec4_0 ?_
  refine j_aload1 C dJ4_append_15ec4_1 ?_
  refine j_cUE1 C (c_app5s ha hb hab hS h hs hbs) u_appS kJ4_29 ha ⟨by decide, by decide⟩ rfl (Nat.le_of_ble_eq_true rfl) ⟨by decide, by decide⟩ dJ4_append_15ec4_2 ?_
  rintro _ W9 ⟨rfl, hw9⟩
  refine j_pop C rfl dJ4_append_15ec4_5 ?_
  refine j_aload0 C dJ4_append_15ec4_6 ?_
  refine j_aret C hrt dJ4_append_15ec4_7 ?_
  exact ⟨rfl, hw9⟩
theorem u_getV : Ol yJ5_getValue_6d5f1 cJ5_getValue_6d5f1 1 (some (.array .byte)) 0 := ⟨WS_of 1119 (by decide +kernel), WS_of 1120 (by decide +kernel), WS_of 1118 (by decide +kernel), WS_of 35 (by decide +kernel), WS_of 1121 (by decide +kernel), ⟨by decide +kernel, by decide +kernel, by decide +kernel⟩⟩
set_option maxRecDepth 100000 in
set_option maxHeartbeats 4000000 in
theorem c_getV {κ : Nat → Nat} {Γ : Ga} {l : Launch} {ω : Wo} {n : Nat} {a b : Nat} (ha : At n a 8 κ) (h0 : ω.2.1 a 0 = some b) : CRt Γ l yJ5_getValue_6d5f1 cJ5_getValue_6d5f1 1 (.array .byte) 0 [.ref (rl Γ a)] ω (fun b9 ω' => b9 = b ∧ ω = ω') n κ := by
  refine Met.ofJ (k := 0) [some (.ref (rl Γ a))] (by decide) rfl rfl rfl (fun p e s mm args below meth c C hrt => ?_)
  refine j_aload0 C dJ5_getValue_6d5f1_0 ?_
  refine j_val C ha h0 dJ5_getValue_6d5f1_1 ?_
  exact j_art0 C hrt rfl dJ5_getValue_6d5f1_4 ⟨rfl, rfl⟩
set_option maxRecDepth 100000 in
set_option maxHeartbeats 4000000 in
theorem c_ckl {κ : Nat → Nat} {Γ : Ga} {l : Launch} {ω : Wo} {n : Nat} {i9 n9 : Int} (hi : Rg i9 ∧ Rg n9 ∧ i9 ≤ n9) : CV Γ l yJ7_checkLength_df160 cJ7_checkLength_df160 2 0 [.int (iI i9), .int (iI n9)] ω (fun ω' => ω = ω') n κ := by
  refine Met.ofJ (k := 0) [some (.int (iI i9)), some (.int (iI n9))] (by decide) rfl rfl rfl (fun p e s mm args below meth c C hrt => ?_)
  refine j_iload1 C dJ7_checkLength_df160_0 ?_
  refine j_iload0 C dJ7_checkLength_df160_1 ?_
  refine j_icmp_ge C hi.2.1 hi.1 dJ7_checkLength_df160_2 (fun _ => ?_) (fun hc => absurd hc (by omega))
  refine j_vret C hrt dJ7_checkLength_df160_37 ?_
  rfl
