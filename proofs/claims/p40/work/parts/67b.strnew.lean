/-! what is wanted beside -/
section NW
variable {κ : Nat → Nat} {Γ : Ga} {p : Program} {l : Launch} {e : Env} {R : Room} {s : State} {m : MethodId} {args : Array Value} {below : List Frame} {meth : Method} {c : Code} {Q : State → Prop} {n ce sl : Nat} {cc : ByteArray} {own : String} {nL pc pc' idx a kk k : Nat} {L : List (Option Value)} {S : List Value} {ω : Wo}
theorem j_nretW {n' mc ms : Nat} {Po : Wo → Prop} (C : Cx Γ p l s m args meth c cc own nL) (hr : meth.sig.returnType = none) (d : Dx cc pc (.return_) 1 pc') (hn : n = n') (hc : ce = mc ∧ sl = ms) (h : Po ω) : J Γ p l e R s m args below meth c (MQ below (QNW Γ n' κ Po) args s mc ms (gA Γ)) n ce sl pc L [] ω κ := by
  obtain ⟨rfl, rfl⟩ := hc
  subst hn
  intro H locs ls hP hS hl
  exact W.vret C.1 C.2.1 hr (fun t ht _ => ⟨⟨ω, rfl, h, by show Rp Γ n ω t.heap κ; rw [ht]; exact hP⟩, hS.F ht⟩) hS.2.2 d.1 C.2.2.2.2.2.2
theorem j_put8rG {b : Nat} (C : Cx Γ p l s m args meth c cc RJ5 nL) (ha : At n a 8 κ) (ha9 : 243 ≤ a) (d : Dx cc pc (.putfield 15) 3 pc') (kx : J Γ p l e R s m args below meth c Q n ce sl pc' L S (wr ω a 0 (some b)) κ) : J Γ p l e R s m args below meth c Q n ce sl pc L (.ref (rl Γ b) :: .ref (rl Γ a) :: S) ω κ := by
  intro H locs ls hP hS hl
  obtain ⟨hd, rfl⟩ := d
  have he : (WL Γ n ω κ)[a]? = some (rl Γ a, .inr (8, (List.range (nf 8)).map (fv Γ ω 8 a))) := by rw [WL_get ha.1, WE_obj ha.2.2 (by decide)]
  have hlk : Cond.fieldLink RJ5 15 (TJ4 0).1 (TJ4 0).2.1 (TJ4 0).2.2.1 ∈ WS := WS_of 847 (by decide +kernel)
  refine va_put C.1 C.2.1 C.2.2.2.2.1 (C := RJ4) (T := TJ4) (N := 4) uwJ4 tyJ4 tyJ4_ok nmJ4 C.2.2.2.1 C.2.2.2.2.2.1.1 hP.1 hP.D hS a he rfl 0 (by decide) (C.2.2.2.2.1 _ hlk) (fun x h => h) rfl (ty := .array .byte) (by decide +kernel) rfl rfl (by simp [nf]) hd fun H1 locs1 h1 _ h3 => ?_
  have e9 : (WL Γ n ω κ).set a (rl Γ a, .inr (8, ((List.range (nf 8)).map (fv Γ ω 8 a)).set 0 (.ref (rl Γ b)))) = WL Γ n (wr ω a 0 (some b)) κ := WL_set (by rw [WE_obj ha.2.2 (by decide), fv_set_r (kk := 8) (by decide) rfl]) (fun x hx => WE_ne rfl (wr_ne hx) (Or.inr rfl))
  rw [e9] at h1
  exact kx H1 locs1 ls ⟨h1, hP.2.1, hP.2.2.1, hP.2.2.2.put (fun q => absurd q (by omega))⟩ h3 hl
end NW
/-! methods of the texts that make cells of the law's own -/
theorem c_len4w : Cond.code yJ4_length_8abf5 cJ4_length_8abf5 1 (some .int) ∈ WS := WS_of 1127 (by decide +kernel)
set_option maxRecDepth 100000 in
set_option maxHeartbeats 4000000 in
theorem c_len4 {κ : Nat → Nat} {Γ : Ga} {l : Launch} {ω : Wo} {n : Nat} {a : Nat} {v9 : Int} (ha : At n a 8 κ) (hn : ω.1 a 3 = v9) : CI Γ l yJ4_length_8abf5 cJ4_length_8abf5 1 .int 1 [.ref (rl Γ a)] ω (fun z ω' => z = v9 ∧ ω = ω') n κ := by
  refine Met.ofJ (k := 0) [some (.ref (rl Γ a))] (by decide) rfl rfl rfl (fun p e s mm args below meth c C hrt => ?_)
  refine j_aload0 C dJ4_length_8abf5_0 ?_
  refine j_cUI0 C (c_len5 ha hn) uJ5_length_8abf5 kJ4_343 ha ⟨by decide, by decide⟩ rfl (Nat.le_of_ble_eq_true rfl) ⟨by decide, by decide⟩ dJ4_length_8abf5_1 ?_
  rintro _ _ hz9 ⟨rfl, rfl⟩
  refine j_iret C hrt dJ4_length_8abf5_4 ⟨by omega, by omega⟩ ?_
  exact ⟨rfl, rfl⟩
set_option maxRecDepth 100000 in
set_option maxHeartbeats 4000000 in
theorem c_cpRB {κ : Nat → Nat} {Γ : Ga} {l : Launch} {ω : Wo} {n : Nat} {b w : Nat} (hn9 : n < 900) (hb : At n b 17 κ) (hw : w < 16) (hκ : κ n = 100 + w) (hZ : ZN ω n) (hvb : ∀ j, 0 ≤ ω.1 b j ∧ ω.1 b j < 128) : CRW Γ l yJ7_copyOfRangeByte_39247 cJ7_copyOfRangeByte_39247 5 (.array .byte) 1 1 w [.ref (rl Γ b), .int (iI 0), .int (iI (w : Int))] ω n κ (fun b9 ω' => b9 = n ∧ ∃ f : Row, (∀ j, 0 ≤ f j ∧ f j < 128) ∧ ω' = wf ω n f) := by
  refine MetW.ofJ (k := 2) [some (.ref (rl Γ b)), some (.int (iI 0)), some (.int (iI (w : Int))), none, none] (by decide) rfl rfl rfl (fun p e s mm args below meth c C hin0 hz hrt => ?_)
  refine j_iload1 C dJ7_copyOfRangeByte_39247_0 ?_
  refine j_iload2 C dJ7_copyOfRangeByte_39247_1 ?_
  refine j_cSV2 C (c_ckl ⟨by decide, ⟨by omega, by omega⟩, by omega⟩) oJ7_checkLength_df160 kJ7_343 ⟨by decide, by decide⟩ rfl (Nat.le_of_ble_eq_true rfl) ⟨Nat.zero_le _, Nat.zero_le _⟩ dJ7_copyOfRangeByte_39247_2 ?_
  rintro _ rfl
  refine j_iload2 C dJ7_copyOfRangeByte_39247_5 ?_
  refine j_iload1 C dJ7_copyOfRangeByte_39247_6 ?_
  refine j_isub C dJ7_copyOfRangeByte_39247_7 ?_
  rw [Int.sub_zero]
  refine j_istore3 C rfl dJ7_copyOfRangeByte_39247_8 ?_
  refine j_iload3 C dJ7_copyOfRangeByte_39247_9 ?_
  refine j_newaG (kk := 100 + w) (N := w) C (hz.g (by omega)) (WS_of 144 (by decide +kernel)) rfl hκ (kk_b w).1 (by rw [(kk_b w).2]; rfl) rfl (lnk_b w) rfl (by omega) (by show w * 1 ≤ _; omega) (hZ.at (Nat.le_refl _)).1 ⟨by show 0 + 1 ≤ 1; omega, by show 0 + w ≤ w; omega⟩ dJ7_copyOfRangeByte_39247_10 ?_
  refine j_astore4 C rfl dJ7_copyOfRangeByte_39247_12 ?_
  refine j_aload0 C dJ7_copyOfRangeByte_39247_14 ?_
  refine j_iload1 C dJ7_copyOfRangeByte_39247_15 ?_
  refine j_aload4 C dJ7_copyOfRangeByte_39247_16 ?_
  refine j_iconst C dJ7_copyOfRangeByte_39247_18 ?_
  refine j_aload0 C dJ7_copyOfRangeByte_39247_19 ?_
  refine j_blen C ⟨by have := hb.1; omega, hb.2⟩ dJ7_copyOfRangeByte_39247_20 ?_
  refine j_iload1 C dJ7_copyOfRangeByte_39247_21 ?_
  refine j_isub C dJ7_copyOfRangeByte_39247_22 ?_
  rw [Int.sub_zero]
  refine j_iload3 C dJ7_copyOfRangeByte_39247_23 ?_
  refine j_mmin C (by exact kJ7_304) (by decide) (Nat.le_of_ble_eq_true rfl) rfl ⟨by show 0 + 1 ≤ 1; omega, by show 0 + w ≤ w; omega⟩ ⟨by decide, by decide⟩ ⟨by omega, by omega⟩ dJ7_copyOfRangeByte_39247_24 ?_
  rw [show min (((16 : Nat) : Int)) (w : Int) = (w : Int) by omega]
  refine j_bcopy (a := b) (b := n) (sp := 0) (dp := 0) (Na := 16) C (WS_of 1001 (by decide +kernel)) ⟨by have := hb.1; omega, hb.2⟩ ⟨rfl, rfl⟩ rfl ⟨by omega, by omega, hκ⟩ (kk_b w) (lnk_b w) (by have := hb.1; omega) ⟨by omega, by omega, by decide, by omega⟩ hvb (fun j => by rw [(hZ.at (Nat.le_refl n)).1]; exact ⟨Int.le_refl 0, show (0 : Int) < 128 by decide⟩) (by decide) (Nat.le_of_ble_eq_true rfl) rfl dJ7_copyOfRangeByte_39247_27 (fun f hf => ?_)
  refine j_aload4 C dJ7_copyOfRangeByte_39247_30 ?_
  exact j_art C hrt rfl dJ7_copyOfRangeByte_39247_32 rfl ⟨Nat.zero_add _, Nat.zero_add _⟩ ⟨rfl, f, hf, rfl⟩
set_option maxRecDepth 100000 in
set_option maxHeartbeats 4000000 in
theorem c_cpR {κ : Nat → Nat} {Γ : Ga} {l : Launch} {ω : Wo} {n : Nat} {b w : Nat} (hn9 : n < 900) (hb : At n b 17 κ) (hw : w < 16) (hκ : κ n = 100 + w) (hZ : ZN ω n) (hvb : ∀ j, 0 ≤ ω.1 b j ∧ ω.1 b j < 128) : CRW Γ l yJ7_copyOfRange_39247 cJ7_copyOfRange_39247 3 (.array .byte) 2 1 w [.ref (rl Γ b), .int (iI 0), .int (iI (w : Int))] ω n κ (fun b9 ω' => b9 = n ∧ ∃ f : Row, (∀ j, 0 ≤ f j ∧ f j < 128) ∧ ω' = wf ω n f) := by
  refine MetW.ofJ (k := 0) [some (.ref (rl Γ b)), some (.int (iI 0)), some (.int (iI (w : Int)))] (by decide) rfl rfl rfl (fun p e s mm args below meth c C hin0 hz hrt => ?_)
  refine j_iload1 C dJ7_copyOfRange_39247_0 ?_
  refine j_if_ne C (by decide) dJ7_copyOfRange_39247_1 (fun hc => absurd rfl hc) (fun _ => ?_)
  refine j_iload2 C dJ7_copyOfRange_39247_4 ?_
  refine j_aload0 C dJ7_copyOfRange_39247_5 ?_
  refine j_blen C hb dJ7_copyOfRange_39247_6 ?_
  refine j_icmp_eq C ⟨by omega, by omega⟩ ⟨by omega, by omega⟩ dJ7_copyOfRange_39247_7 (fun hc7 => absurd hc7 (by omega)) (fun hc7 => ?_)
  refine j_aload0 C dJ7_copyOfRange_39247_10 ?_
  refine j_iload1 C dJ7_copyOfRange_39247_11 ?_
  refine j_iload2 C dJ7_copyOfRange_39247_12 ?_
  refine j_cSW (as := [.ref (rl Γ b), .int (iI 0), .int (iI (w : Int))]) (S := []) C hz (by omega) (c_cpRB hn9 hb hw hκ hZ hvb) oJ7_copyOfRangeByte_39247 kJ7_339 ⟨by decide, by decide⟩ rfl rfl (Nat.le_of_ble_eq_true rfl) ⟨by show 0 + 1 ≤ 1; omega, by show 0 + w ≤ w; omega⟩ dJ7_copyOfRange_39247_13 ?_
  rintro _ _ ⟨rfl, f, hf, rfl⟩
  exact j_art C hrt rfl dJ7_copyOfRange_39247_16 rfl ⟨Nat.zero_add _, Nat.zero_add _⟩ ⟨rfl, f, hf, rfl⟩
set_option maxRecDepth 100000 in
set_option maxHeartbeats 4000000 in
theorem c_sin2 {κ : Nat → Nat} {Γ : Ga} {l : Launch} {ω : Wo} {n : Nat} {a b a1 n9 : Nat} (ha9 : 243 ≤ a1) (hn9 : n < 900) (ha : At n a 8 κ) (hb : At n b 17 κ) (ha1 : At n a1 7 κ) (hne : a1 ≠ a ∧ a1 ≠ b) (hS : SBg ω a b n9) (hw : n9 < 16) (hκ : κ n = 100 + n9) (hZ : ZN ω n) : CNW Γ l yJ0_init_db425 cJ0_init_db425 5 3 1 n9 [.ref (rl Γ a1), .ref (rl Γ a), .null] ω n κ (fun ω' => ∃ f : Row, (∀ j, 0 ≤ f j ∧ f j < 128) ∧ ω' = wr (wf (wi ω a1 1 0) n f) a1 0 (some n)) := by
  refine MetW.ofJ (k := 2) [some (.ref (rl Γ a1)), some (.ref (rl Γ a)), some .null, none, none] (by decide) rfl rfl rfl (fun p e s mm args below meth c C hin0 hz hrt => ?_)
  refine j_aload0 C dJ0_init_db425_0 ?_
  refine j_obj C (WS_of 1116 (by decide +kernel)) (by decide) rfl (Nat.le_of_ble_eq_true rfl) dJ0_init_db425_1 ?_
  refine j_aload1 C dJ0_init_db425_4 ?_
  refine j_cLoR C (c_getV ha hS.1) u_getV kJ0_552 ha ⟨by decide, by decide⟩ rfl (Nat.le_of_ble_eq_true rfl) ⟨Nat.zero_le _, Nat.zero_le _⟩ dJ0_init_db425_5 ?_
  rintro b9 _ ⟨hb9, rfl⟩
  rw [hb9]
  refine j_astore3 C rfl dJ0_init_db425_8 ?_
  refine j_aload1 C dJ0_init_db425_9 ?_
  refine j_cOI C (c_len4 ha hS.2.2.1) c_len4w kJ0_549 ha (by decide) rfl (Nat.le_of_ble_eq_true rfl) ⟨Nat.zero_le _, Nat.zero_le _⟩ dJ0_init_db425_10 ?_
  rintro _ _ - ⟨rfl, rfl⟩
  refine j_istore4 C rfl dJ0_init_db425_13 ?_
  refine j_aload1 C dJ0_init_db425_15 ?_
  refine j_cLoI C (c_isL ha hS.2.1) uJ5_isLatin1 kJ0_1047 ha ⟨by decide, by decide⟩ rfl (Nat.le_of_ble_eq_true rfl) ⟨Nat.zero_le _, Nat.zero_le _⟩ dJ0_init_db425_16 ?_
  rintro _ _ - ⟨rfl, rfl⟩
  refine j_if_eq C (by decide) dJ0_init_db425_19 (fun hc => absurd hc (by decide)) (fun _ => ?_)
  refine j_aload0 C dJ0_init_db425_22 ?_
  refine j_iconst C dJ0_init_db425_23 ?_
  refine j_puts1 C (hin0 rfl) ha1 dJ0_init_db425_24 ?_
  refine j_aload0 C dJ0_init_db425_27 ?_
  refine j_aload3 C dJ0_init_db425_28 ?_
  refine j_iconst C dJ0_init_db425_29 ?_
  refine j_iload4 C dJ0_init_db425_30 ?_
  refine j_cSW (as := [.ref (rl Γ b), .int (iI 0), .int (iI (n9 : Int))]) C hz (by omega) (c_cpR hn9 hb hw hκ (hZ.wi (by have := ha1.1; omega)) (fun j => by rw [wi_ne (Ne.symm hne.2)]; exact hS.2.2.2 j)) oJ7_copyOfRange_39247 kJ0_54 ⟨by decide, by decide⟩ rfl rfl (Nat.le_of_ble_eq_true rfl) ⟨by show 0 + 1 ≤ 1; omega, by show 0 + n9 ≤ n9; omega⟩ dJ0_init_db425_32 ?_
  rintro _ _ ⟨rfl, f, hf, rfl⟩
  refine j_puts0 C (hin0 rfl) ⟨by have := ha1.1; omega, ha1.2⟩ ha9 dJ0_init_db425_35 ?_
  refine j_goto C dJ0_init_db425_38 ?_
  exact j_nretW C hrt dJ0_init_db425_97 rfl ⟨Nat.zero_add _, Nat.zero_add _⟩ ⟨f, hf, rfl⟩
theorem i_sin2 : Oc1 yJ0_init_db425 cJ0_init_db425 5 2 := ⟨WS_of 1114 (by decide +kernel), WS_of 37 (by decide +kernel), WS_of 1115 (by decide +kernel), rfl, ⟨by decide +kernel, by decide +kernel, by decide +kernel⟩⟩
theorem i_sin1 : Oc1 yJ0_init_81219 cJ0_init_81219 2 1 := ⟨WS_of 1111 (by decide +kernel), WS_of 37 (by decide +kernel), WS_of 1112 (by decide +kernel), rfl, ⟨by decide +kernel, by decide +kernel, by decide +kernel⟩⟩
theorem i_asb : Oc1 yJ5_init_d00df cJ5_init_d00df 2 1 := ⟨WS_of 835 (by decide +kernel), WS_of 35 (by decide +kernel), WS_of 836 (by decide +kernel), rfl, ⟨by decide +kernel, by decide +kernel, by decide +kernel⟩⟩
theorem i_sb : Oc1 yJ4_init_da8c8 cJ4_init_da8c8 1 0 := ⟨WS_of 832 (by decide +kernel), WS_of 36 (by decide +kernel), WS_of 833 (by decide +kernel), rfl, ⟨by decide +kernel, by decide +kernel, by decide +kernel⟩⟩
set_option maxRecDepth 100000 in
set_option maxHeartbeats 4000000 in
theorem c_sin1 {κ : Nat → Nat} {Γ : Ga} {l : Launch} {ω : Wo} {n : Nat} {a b a1 n9 : Nat} (ha9 : 243 ≤ a1) (hn9 : n < 900) (ha : At n a 8 κ) (hb : At n b 17 κ) (ha1 : At n a1 7 κ) (hne : a1 ≠ a ∧ a1 ≠ b) (hS : SBg ω a b n9) (hw : n9 < 16) (hκ : κ n = 100 + n9) (hZ : ZN ω n) : CNW Γ l yJ0_init_81219 cJ0_init_81219 2 4 1 n9 [.ref (rl Γ a1), .ref (rl Γ a)] ω n κ (fun ω' => ∃ f : Row, (∀ j, 0 ≤ f j ∧ f j < 128) ∧ ω' = wr (wf (wi ω a1 1 0) n f) a1 0 (some n)) := by
  refine MetW.ofJ (k := 0) [some (.ref (rl Γ a1)), some (.ref (rl Γ a))] (by decide) rfl rfl rfl (fun p e s mm args below meth c C hin0 hz hrt => ?_)
  refine j_aload0 C dJ0_init_81219_0 ?_
  refine j_aload1 C dJ0_init_81219_1 ?_
  refine j_null C dJ0_init_81219_2 ?_
  refine j_ctorW (as := [.ref (rl Γ a), .null]) (S := []) C hz (by omega) (c_sin2 ha9 hn9 ha hb ha1 hne hS hw hκ hZ) i_sin2 kJ0_489 ⟨by decide, by decide⟩ rfl rfl (Nat.le_of_ble_eq_true rfl) ⟨by show 0 + 1 ≤ 1; omega, by show 0 + n9 ≤ n9; omega⟩ dJ0_init_81219_3 ?_
  rintro _ ⟨f, hf, rfl⟩
  exact j_nretW C hrt dJ0_init_81219_6 rfl ⟨Nat.zero_add _, Nat.zero_add _⟩ ⟨f, hf, rfl⟩
set_option maxRecDepth 100000 in
set_option maxHeartbeats 4000000 in
theorem c_toS {κ : Nat → Nat} {Γ : Ga} {l : Launch} {ω : Wo} {n : Nat} {a b n9 : Nat} (hn9 : n < 890) (ha : At n a 8 κ) (hb : At n b 17 κ) (hS : SBg ω a b n9) (hw : n9 < 16) (hκ : κ n = 7) (hκ2 : κ (n + 1) = 100 + n9) (hZ : ZN ω n) : CRW Γ l yJ4_toString_0e30d cJ4_toString_0e30d 1 (.object "java/lang/String") 5 2 (4 + n9) [.ref (rl Γ a)] ω n κ (fun b9 ω' => b9 = n ∧ ∃ f : Row, (∀ j, 0 ≤ f j ∧ f j < 128) ∧ ω' = wr (wf (wi ω n 1 0) (n + 1) f) n 0 (some (n + 1))) := by
  refine MetW.ofJ (k := 0) [some (.ref (rl Γ a))] (by decide) rfl rfl rfl (fun p e s mm args below meth c C hin0 hz hrt => ?_)
  refine j_newG (kk := 7) C (hz.g (by omega)) rfl uwJ0 tyJ0_ok (WS_of 1109 (by decide +kernel)) (WS_of 506 (by decide +kernel)) (WS_of 37 (by decide +kernel)) hκ (by decide) (hZ.at (Nat.le_refl _)).1 (hZ.at (Nat.le_refl _)).2 ⟨by show 0 + 1 ≤ 2; omega, by show 0 + 4 ≤ 4 + n9; omega⟩ dJ4_toString_0e30d_0 ?_
  refine j_dup C rfl dJ4_toString_0e30d_3 ?_
  refine j_aload0 C dJ4_toString_0e30d_4 ?_
  refine j_ctorW (a := n) (as := [.ref (rl Γ a)]) (S := [.ref (rl Γ n)]) C (hz.at rfl) (by omega) (c_sin1 (n9 := n9) (by have := hz.2.1; omega) (by omega) ⟨by have := ha.1; omega, ha.2⟩ ⟨by have := hb.1; omega, hb.2⟩ ⟨by omega, by omega, hκ⟩ ⟨by have := ha.1; omega, by have := hb.1; omega⟩ hS hw hκ2 (hZ.mono (by omega))) i_sin1 kJ4_137 ⟨by decide, by decide⟩ rfl rfl (Nat.le_of_ble_eq_true rfl) ⟨by show 0 + 1 + 1 ≤ 2; omega, by show 0 + 4 + n9 ≤ 4 + n9; omega⟩ dJ4_toString_0e30d_5 ?_
  rintro _ ⟨f, hf, rfl⟩
  exact j_art C hrt rfl dJ4_toString_0e30d_8 rfl ⟨rfl, by show 0 + nf 7 + n9 = 4 + n9; show 0 + 4 + n9 = 4 + n9; omega⟩ ⟨rfl, f, hf, rfl⟩
set_option maxRecDepth 100000 in
set_option maxHeartbeats 4000000 in
theorem c_asb {κ : Nat → Nat} {Γ : Ga} {l : Launch} {ω : Wo} {n : Nat} {a : Nat} (ha9 : 243 ≤ a) (hn9 : n < 900) (ha : At n a 8 κ) (h0 : ω.1 a = fun _ => 0) (hκ : κ n = 17) (hZ : ZN ω n) : CNW Γ l yJ5_init_d00df cJ5_init_d00df 2 2 1 16 [.ref (rl Γ a), .int (iI 16)] ω n κ (fun ω' => ω' = wr ω a 0 (some n)) := by
  refine MetW.ofJ (k := 0) [some (.ref (rl Γ a)), some (.int (iI 16))] (by decide) rfl rfl rfl (fun p e s mm args below meth c C hin0 hz hrt => ?_)
  refine j_aload0 C dJ5_init_d00df_0 ?_
  refine j_obj C (WS_of 837 (by decide +kernel)) (by decide) rfl (Nat.le_of_ble_eq_true rfl) dJ5_init_d00df_1 ?_
  refine j_compact C dJ5_init_d00df_4 ?_
  refine j_if_eq C (by decide) dJ5_init_d00df_7 (fun hc => absurd hc (by decide)) (fun _ => ?_)
  refine j_aload0 C dJ5_init_d00df_10 ?_
  refine j_iload1 C dJ5_init_d00df_11 ?_
  refine j_newaG (kk := 17) (N := 16) C (hz.g (by omega)) (WS_of 144 (by decide +kernel)) rfl hκ rfl rfl rfl rfl rfl (by decide) (by decide) (hZ.at (Nat.le_refl _)).1 ⟨by decide, by decide⟩ dJ5_init_d00df_12 ?_
  refine j_put8rG (b := n) C ⟨by have := ha.1; omega, ha.2⟩ ha9 dJ5_init_d00df_14 ?_
  refine j_aload0 C dJ5_init_d00df_17 ?_
  refine j_iconst C dJ5_init_d00df_18 ?_
  refine j_put8 C (k := 1) (by decide) (WS_of 848 (by decide +kernel)) ⟨by have := ha.1; omega, ha.2⟩ rfl (ty := .byte) (by decide +kernel) rfl rfl rfl ⟨by decide, by decide⟩ dJ5_init_d00df_19 ?_
  refine j_conv rfl rfl (wi_0 (congrFun h0 1)) ?_
  refine j_goto C dJ5_init_d00df_22 ?_
  exact j_nretW C hrt dJ5_init_d00df_38 rfl ⟨rfl, rfl⟩ rfl
set_option maxRecDepth 100000 in
set_option maxHeartbeats 4000000 in
theorem c_sb {κ : Nat → Nat} {Γ : Ga} {l : Launch} {ω : Wo} {n : Nat} {a : Nat} (ha9 : 243 ≤ a) (hn9 : n < 900) (ha : At n a 8 κ) (h0 : ω.1 a = fun _ => 0) (hκ : κ n = 17) (hZ : ZN ω n) : CNW Γ l yJ4_init_da8c8 cJ4_init_da8c8 1 3 1 16 [.ref (rl Γ a)] ω n κ (fun ω' => ω' = wr ω a 0 (some n)) := by
  refine MetW.ofJ (k := 0) [some (.ref (rl Γ a))] (by decide) rfl rfl rfl (fun p e s mm args below meth c C hin0 hz hrt => ?_)
  refine j_aload0 C dJ4_init_da8c8_0 ?_
  refine j_bipush C (by decide) dJ4_init_da8c8_1 ?_
  refine j_ctorW (as := [.int (iI 16)]) (S := []) C hz (by omega) (c_asb ha9 hn9 ha h0 hκ hZ) i_asb kJ4_1 ⟨by decide, by decide⟩ rfl rfl (Nat.le_of_ble_eq_true rfl) ⟨by decide, by decide⟩ dJ4_init_da8c8_3 ?_
  rintro _ rfl
  exact j_nretW C hrt dJ4_init_da8c8_6 rfl ⟨rfl, rfl⟩ rfl
