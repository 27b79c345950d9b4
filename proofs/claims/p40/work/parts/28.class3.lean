set_option maxRecDepth 100000 in
set_option maxHeartbeats 4000000 in
theorem c_X7_filledUp {Γ : Ga} {l : Launch} {ω : Wo} {B : Nat} (hB : Bs B) {σ : Row} (hS : St ω B σ) {M : Int} (hI : RI M σ) (hWI : WI σ)  {x cd : Nat} (hx : x < 1024) (hcd : cd < 1024) {q : Int} (hq : 0 ≤ q ∧ q ≤ 10) : CI Γ l yX7_filledUp cX7_filledUp 7 .int 1 [.ref (rl Γ B), .int (iI ((x : Int))), .int (iI ((cd : Int))), .int (iI q)] ω (fun z ω' => z = (flUp σ x cd (q - bitsN x).toNat : Int) ∧ ω = ω') := by
  refine Met.ofJ (k := 3) [some (.ref (rl Γ B)), some (.int (iI ((x : Int)))), some (.int (iI ((cd : Int)))), some (.int (iI q)), none, none, none] (by decide) rfl rfl rfl (fun p e s mm args below meth c C hrt => ?_)
  have g := hI.s
  have gc := hI.c
  have gM := hI.2.1
  have hbx : bitsN x ≤ 10 := bitsUp_rg x 10
  refine j_iload1 C dX7_filledUp_0 ?_
  refine j_istore4 C rfl dX7_filledUp_1 ?_
  refine j_iload1 C dX7_filledUp_3 ?_
  refine j_cSI1 C (c_J6_bitCount hx) oJ6_bitCount_0f7a4 kX7_95 ⟨by decide, by decide⟩ rfl (Nat.le_of_ble_eq_true rfl) ⟨by decide, by decide⟩ dX7_filledUp_4 ?_
  rintro _ _ hz4 ⟨rfl, rfl⟩
  refine j_istore5 C rfl dX7_filledUp_7 ?_
  have loop9 : ∀ (N : Nat) (n : Nat), ((q - bitsN x).toNat - n) < N → (n ≤ (q - bitsN x).toNat) → J Γ p l e (rmk 1 0 0) s mm args below meth c (MQ below (QI Γ (fun z ω' => z = (flUp σ x cd (q - bitsN x).toNat : Int) ∧ ω = ω')) args s 0 0 (gA Γ)) 243 0 0 9 [some (.ref (rl Γ B)), some (.int (iI ((x : Nat) : Int))), some (.int (iI ((cd : Nat) : Int))), some (.int (iI q)), some (.int (iI ((flUp σ x cd n : Nat) : Int))), some (.int (iI ((bitsN x + n : Nat) : Int))), none] [] ω := by
    intro N
    induction N with
    | zero => intro n hN; exact absurd hN (Nat.not_lt_zero _)
    | succ N ih9 =>
      intro n hN hi0
      have gf := flUp_lt hI hx (cand := cd) n
      have hl := lst_lt hI (cd &&& (4294967295 - flUp σ x cd n)) 0
      refine j_iload5 C dX7_filledUp_9 ?_
      refine j_iload3 C dX7_filledUp_11 ?_
      refine j_icmp_ge C ⟨by omega, by omega⟩ ⟨by omega, by omega⟩ dX7_filledUp_12 (fun hc12 => ?_) (fun hc12 => ?_)
      · -- 12 T
        refine j_iload4 C dX7_filledUp_48 ?_
        refine j_iret C hrt dX7_filledUp_50 ⟨by omega, by omega⟩ ?_
        have hn9 : n = (q - bitsN x).toNat := by omega
        subst hn9
        exact ⟨rfl, rfl⟩
      · -- 12 F
        refine j_aload0 C dX7_filledUp_15 ?_
        refine j_iload2 C dX7_filledUp_16 ?_
        refine j_iload4 C dX7_filledUp_17 ?_
        refine j_iconst C dX7_filledUp_19 ?_
        refine j_ixorm C (by omega) dX7_filledUp_20 ?_
        refine j_iand C dX7_filledUp_21 ?_
        refine j_cVI1 C (c_X7_leastWearyOf hB (by exact hS) (by exact hI) (by exact hWI) (Nat.lt_trans (and_lt hcd) (by decide))) oX7_leastWearyOf kX7_218 ⟨_, rfl, rfl⟩ (at_st hB) ⟨by decide, by decide⟩ rfl (Nat.le_of_ble_eq_true rfl) ⟨by decide, by decide⟩ dX7_filledUp_22 ?_
        rintro _ _ hz22 ⟨rfl, rfl⟩
        refine j_istore6 C rfl dX7_filledUp_25 ?_
        refine j_iload6 C dX7_filledUp_27 ?_
        refine j_iconst C dX7_filledUp_29 ?_
        refine j_icmp_eq C ⟨by omega, by omega⟩ ⟨by omega, by omega⟩ dX7_filledUp_30 (fun hc30 => ?_) (fun hc30 => ?_)
        · -- 30 T
          refine j_iinc5n C rfl dX7_filledUp_42 ?_
          refine j_goto C dX7_filledUp_45 ?_
          exact j_fg (ih9 (n + 1) (by omega) (by omega)) ⟨Or.inr rfl, Or.inr rfl, Or.inr rfl, Or.inr rfl, Or.inr (sN (by simp only [flUp]; first | (rw [if_neg (by omega), hj, Int.toNat_natCast]; done) | rw [if_pos (by omega)])), Or.inr (sN (by omega)), Or.inl rfl, trivial⟩ rfl
        · -- 30 F
          obtain ⟨j, hj⟩ := Int.eq_ofNat_of_zero_le (show 0 ≤ lst σ (cd &&& (4294967295 - flUp σ x cd n)) 0 by omega)
          refine j_iload4 C dX7_filledUp_33 ?_
          refine j_iconstN C (k := 1) rfl dX7_filledUp_35 ?_
          refine j_iload6 C dX7_filledUp_36 ?_
          refine j_conv rfl (cons_i (b := (j : Int)) hj _) rfl ?_
          refine j_ishl1 C (by omega) dX7_filledUp_38 ?_
          refine j_ior C dX7_filledUp_39 ?_
          refine j_istore4 C rfl dX7_filledUp_40 ?_
          refine j_iinc5n C rfl dX7_filledUp_42 ?_
          refine j_goto C dX7_filledUp_45 ?_
          exact j_fg (ih9 (n + 1) (by omega) (by omega)) ⟨Or.inr rfl, Or.inr rfl, Or.inr rfl, Or.inr rfl, Or.inr (sN (by simp only [flUp]; first | (rw [if_neg (by omega), hj, Int.toNat_natCast]; done) | rw [if_pos (by omega)])), Or.inr (sN (by omega)), Or.inl rfl, trivial⟩ rfl
  exact j_fg (loop9 _ 0 (Nat.lt_succ_self _) (Nat.zero_le _)) ⟨Or.inr rfl, Or.inr rfl, Or.inr rfl, Or.inr rfl, Or.inr rfl, Or.inr rfl, Or.inr rfl, trivial⟩ rfl
set_option maxRecDepth 100000 in
set_option maxHeartbeats 4000000 in
theorem c_X7_chosenCoxswain {Γ : Ga} {l : Launch} {ω : Wo} {B : Nat} (hB : Bs B) {σ : Row} (hS : St ω B σ) {M : Int} (hI : RI M σ) (hWI : WI σ)   : CI Γ l yX7_chosenCoxswain cX7_chosenCoxswain 1 .int 2 [.ref (rl Γ B)] ω (fun z ω' => z = lst σ (ableS σ) 2 ∧ ω = ω') := by
  refine Met.ofJ (k := 0) [some (.ref (rl Γ B))] (by decide) rfl rfl rfl (fun p e s mm args below meth c C hrt => ?_)
  have g := hI.s
  have gc := hI.c
  have gM := hI.2.1
  have ha := ableS_lt hI
  refine j_aload0 C dX7_chosenCoxswain_0 ?_
  refine j_aload0 C dX7_chosenCoxswain_1 ?_
  refine j_cVI0 C (c_X7_ableMembers hB (by exact hS) (by exact hI) (by exact hWI)) oX7_ableMembers kX7_132 ⟨_, rfl, rfl⟩ (at_st hB) ⟨by decide, by decide⟩ rfl (Nat.le_of_ble_eq_true rfl) ⟨by decide, by decide⟩ dX7_chosenCoxswain_2 ?_
  rintro _ _ hz2 ⟨rfl, rfl⟩
  refine j_aload0 C dX7_chosenCoxswain_5 ?_
  refine j_iconst C dX7_chosenCoxswain_6 ?_
  refine j_cVI1 C (c_X7_skilledMembers hB (by exact hS) (by exact hI) (by exact hWI) ⟨by omega, by omega⟩) oX7_skilledMembers kX7_138 ⟨_, rfl, rfl⟩ (at_st hB) ⟨by decide, by decide⟩ rfl (Nat.le_of_ble_eq_true rfl) ⟨by decide, by decide⟩ dX7_chosenCoxswain_7 ?_
  rintro _ _ hz7 ⟨rfl, rfl⟩
  refine j_iand C dX7_chosenCoxswain_10 ?_
  refine j_cVI1 C (c_X7_leastWearyOf hB (by exact hS) (by exact hI) (by exact hWI) (Nat.lt_trans (and_lt (ableS_lt hI)) (by decide))) oX7_leastWearyOf kX7_218 ⟨_, rfl, rfl⟩ (at_st hB) ⟨by decide, by decide⟩ rfl (Nat.le_of_ble_eq_true rfl) ⟨by decide, by decide⟩ dX7_chosenCoxswain_11 ?_
  rintro _ _ hzL ⟨rfl, rfl⟩
  rw [lst_and hI] at hzL ⊢
  refine j_iret C hrt dX7_chosenCoxswain_14 ⟨by omega, by omega⟩ ?_
  exact ⟨rfl, rfl⟩
set_option maxRecDepth 100000 in
set_option maxHeartbeats 4000000 in
theorem c_X7_chosenCrew {Γ : Ga} {l : Launch} {ω : Wo} {B : Nat} (hB : Bs B) {σ : Row} (hS : St ω B σ) {M : Int} (hI : RI M σ) (hWI : WI σ)  {b : Nat} (hb : b < cB σ) (hok : crOk σ b) : CI Γ l yX7_chosenCrew cX7_chosenCrew 4 .int 2 [.ref (rl Γ B), .int (iI ((b : Int)))] ω (fun z ω' => z = (crw σ b : Int) ∧ ω = ω') := by
  refine Met.ofJ (k := 2) [some (.ref (rl Γ B)), some (.int (iI ((b : Int)))), none, none] (by decide) rfl rfl rfl (fun p e s mm args below meth c C hrt => ?_)
  have g := hI.s
  have gc := hI.c
  have gM := hI.2.1
  have gb := hI.b b (by omega)
  have gs2 := hWI.2.1 b (by omega)
  have gwb := hWI.2.2.2 b hb
  have ha := ableS_lt hI
  have gm : mustO σ b = (sB σ b 1 - 1) / 2 := rfl
  have h0 := fl_1 hI hok
  have hl0 := crwUp_lt hI b 0
  have h2 := fl_2 hI hok (mustO σ b).toNat (by omega) (by omega)
  have hl2 := crwUp_lt hI b (mustO σ b).toNat
  have h3 := fl_3 hI hok (mustO σ b).toNat (by omega) (sB σ b 1 - 1 - mustO σ b).toNat (by omega)
  have hb0 := (crw_sets hI hok 0 (by omega)).2.1
  have hb2 := (crw_sets hI hok (mustO σ b).toNat (by omega)).2.1
  have e3 : (mustO σ b).toNat + (sB σ b 1 - 1 - mustO σ b).toNat = (sB σ b 1 - 1).toNat := by omega
  rw [e3] at h3
  have hcl := crw_lt hI b
  refine j_aload0 C dX7_chosenCrew_0 ?_
  refine j_cVI0 C (c_X7_ableMembers hB (by exact hS) (by exact hI) (by exact hWI)) oX7_ableMembers kX7_132 ⟨_, rfl, rfl⟩ (at_st hB) ⟨by decide, by decide⟩ rfl (Nat.le_of_ble_eq_true rfl) ⟨by decide, by decide⟩ dX7_chosenCrew_1 ?_
  rintro _ _ hz1 ⟨rfl, rfl⟩
  refine j_istore2 C rfl dX7_chosenCrew_4 ?_
  refine j_aload0 C dX7_chosenCrew_5 ?_
  refine j_iconst C dX7_chosenCrew_6 ?_
  refine j_iload2 C dX7_chosenCrew_7 ?_
  refine j_aload0 C dX7_chosenCrew_8 ?_
  refine j_iconst C dX7_chosenCrew_9 ?_
  refine j_cVI1 C (c_X7_skilledMembers hB (by exact hS) (by exact hI) (by exact hWI) ⟨by omega, by omega⟩) oX7_skilledMembers kX7_138 ⟨_, rfl, rfl⟩ (at_st hB) ⟨by decide, by decide⟩ rfl (Nat.le_of_ble_eq_true rfl) ⟨by decide, by decide⟩ dX7_chosenCrew_10 ?_
  rintro _ _ hz10 ⟨rfl, rfl⟩
  refine j_iand C dX7_chosenCrew_13 ?_
  refine j_iconst C dX7_chosenCrew_14 ?_
  refine j_cVI3 C (c_X7_filledUp hB (by exact hS) (by exact hI) (by exact hWI) (x := 0) (by decide) (and_lt ha) (q := 1) (by decide)) oX7_filledUp kX7_221 ⟨_, rfl, rfl⟩ (at_st hB) ⟨by decide, by decide⟩ rfl (Nat.le_of_ble_eq_true rfl) ⟨by decide, by decide⟩ dX7_chosenCrew_15 ?_
  rintro _ _ hz15 ⟨rfl, rfl⟩
  rw [show ((1 : Int) - (bitsN 0 : Nat)).toNat = 1 by decide, h0] at hz15 ⊢
  refine j_istore3 C rfl dX7_chosenCrew_18 ?_
  refine j_aload0 C dX7_chosenCrew_19 ?_
  refine j_iload3 C dX7_chosenCrew_20 ?_
  refine j_iload2 C dX7_chosenCrew_21 ?_
  refine j_aload0 C dX7_chosenCrew_22 ?_
  refine j_iconst C dX7_chosenCrew_23 ?_
  refine j_cVI1 C (c_X7_skilledMembers hB (by exact hS) (by exact hI) (by exact hWI) ⟨by omega, by omega⟩) oX7_skilledMembers kX7_138 ⟨_, rfl, rfl⟩ (at_st hB) ⟨by decide, by decide⟩ rfl (Nat.le_of_ble_eq_true rfl) ⟨by decide, by decide⟩ dX7_chosenCrew_24 ?_
  rintro _ _ hz24 ⟨rfl, rfl⟩
  refine j_iand C dX7_chosenCrew_27 ?_
  refine j_aload0 C dX7_chosenCrew_28 ?_
  refine j_getr C fX7_19 (at_st hB) rfl hS.r.a1 dX7_chosenCrew_29 ?_
  refine j_iload1 C dX7_chosenCrew_32 ?_
  refine j_aald C (at_bA hB) rfl (Cn := RX1) rfl (N := 3) rfl (by decide) ⟨by omega, by omega⟩ (hS.r.b b (by omega)) dX7_chosenCrew_33 ?_
  refine j_cVI0 C (c_X1_skilledNeeded (at_b hB (by omega)) (hS.b1 b (by omega)) (by omega)) oX1_skilledNeeded kX7_141 ⟨_, rfl, rfl⟩ (at_b hB (by omega)) ⟨by decide, by decide⟩ rfl (Nat.le_of_ble_eq_true rfl) ⟨by decide, by decide⟩ dX7_chosenCrew_34 ?_
  rintro _ _ hz34 ⟨rfl, rfl⟩
  refine j_iconst C dX7_chosenCrew_37 ?_
  refine j_iadd C dX7_chosenCrew_38 ?_
  refine j_cVI3 C (c_X7_filledUp hB (by exact hS) (by exact hI) (by exact hWI) hl0.1 (and_lt ha) (by omega)) oX7_filledUp kX7_221 ⟨_, rfl, rfl⟩ (at_st hB) ⟨by decide, by decide⟩ rfl (Nat.le_of_ble_eq_true rfl) ⟨by decide, by decide⟩ dX7_chosenCrew_39 ?_
  rintro _ _ hz39 ⟨rfl, rfl⟩
  rw [show ((sB σ b 1 - 1) / 2 + 1 - (bitsN (crwUp σ b 0).1 : Nat)).toNat = (mustO σ b).toNat by omega, h2] at hz39 ⊢
  refine j_istore3 C rfl dX7_chosenCrew_42 ?_
  refine j_aload0 C dX7_chosenCrew_43 ?_
  refine j_iload3 C dX7_chosenCrew_44 ?_
  refine j_iload2 C dX7_chosenCrew_45 ?_
  refine j_aload0 C dX7_chosenCrew_46 ?_
  refine j_getr C fX7_19 (at_st hB) rfl hS.r.a1 dX7_chosenCrew_47 ?_
  refine j_iload1 C dX7_chosenCrew_50 ?_
  refine j_aald C (at_bA hB) rfl (Cn := RX1) rfl (N := 3) rfl (by decide) ⟨by omega, by omega⟩ (hS.r.b b (by omega)) dX7_chosenCrew_51 ?_
  refine j_geti C fX7_135 (at_b hB (by omega)) rfl (hS.b1 b (by omega)) dX7_chosenCrew_52 (fun hr52 => ?_)
  refine j_cVI3 C (c_X7_filledUp hB (by exact hS) (by exact hI) (by exact hWI) hl2.1 ha (by omega)) oX7_filledUp kX7_221 ⟨_, rfl, rfl⟩ (at_st hB) ⟨by decide, by decide⟩ rfl (Nat.le_of_ble_eq_true rfl) ⟨by decide, by decide⟩ dX7_chosenCrew_55 ?_
  rintro _ _ hz55 ⟨rfl, rfl⟩
  rw [show (sB σ b 1 - (bitsN (crwUp σ b (mustO σ b).toNat).1 : Nat)).toNat = (sB σ b 1 - 1 - mustO σ b).toNat by omega, h3] at hz55 ⊢
  refine j_iret C hrt dX7_chosenCrew_58 ⟨by omega, by omega⟩ ?_
  exact ⟨rfl, rfl⟩
set_option maxRecDepth 100000 in
set_option maxHeartbeats 4000000 in
theorem c_X7_judgeMember {Γ : Ga} {l : Launch} {ω : Wo} {B : Nat} (hB : Bs B) {σ : Row} (hS : St ω B σ) {M : Int} (hI : RI M σ) (hWI : WI σ)  {a : Int} (ha : Rg a) : CV Γ l yX7_judgeMember cX7_judgeMember 3 2 [.ref (rl Γ B), .int (iI a), .ref (rl Γ 67)] ω (fun ω' => ω' = RF ω 67 (jd 0 σ a 0).1 (jd 0 σ a 0).2) := by
  refine Met.ofJ (k := 0) [some (.ref (rl Γ B)), some (.int (iI a)), some (.ref (rl Γ 67))] (by decide) rfl rfl rfl (fun p e s mm args below meth c C hrt => ?_)
  have g := hI.s
  have gc := hI.c
  have gM := hI.2.1
  refine j_iload1 C dX7_judgeMember_0 ?_
  refine j_if_lt C ⟨by omega, by omega⟩ dX7_judgeMember_1 (fun hc1 => ?_) (fun hc1 => ?_)
  · -- 1 T
    refine j_aload2 C dX7_judgeMember_9 ?_
    refine j_iconst C dX7_judgeMember_10 ?_
    refine j_iconst C dX7_judgeMember_11 ?_
    refine j_cVV2 C (c_X5_set at_67 ⟨by omega, by omega⟩ ⟨by omega, by omega⟩) oX5_set kX7_67 ⟨_, rfl, rfl⟩ at_67 ⟨by decide, by decide⟩ rfl (Nat.le_of_ble_eq_true rfl) ⟨by decide, by decide⟩ dX7_judgeMember_12 ?_
    rintro _ rfl
    refine j_goto C dX7_judgeMember_15 ?_
    refine j_vret C hrt dX7_judgeMember_41 ?_
    exact jdE (by simp only [jd, jA]; repeat (first | rw [if_pos (by omega)] | rw [if_neg (by omega)]))
  · -- 1 F
    refine j_iload1 C dX7_judgeMember_4 ?_
    refine j_iconst C dX7_judgeMember_5 ?_
    refine j_icmp_le C ⟨by omega, by omega⟩ ⟨by omega, by omega⟩ dX7_judgeMember_6 (fun hc6 => ?_) (fun hc6 => ?_)
    · -- 6 T
      refine j_aload0 C dX7_judgeMember_18 ?_
      refine j_geti C fX7_29 (at_st hB) rfl hS.c3 dX7_judgeMember_19 (fun hr19 => ?_)
      refine j_bipush C (by decide) dX7_judgeMember_22 ?_
      refine j_icmp_lt C ⟨by omega, by omega⟩ ⟨by omega, by omega⟩ dX7_judgeMember_24 (fun hc24 => ?_) (fun hc24 => ?_)
      · -- 24 T
        refine j_aload2 C dX7_judgeMember_37 ?_
        refine j_cVV0 C (c_X5_clear at_67) oX5_clear kX7_73 ⟨_, rfl, rfl⟩ at_67 ⟨by decide, by decide⟩ rfl (Nat.le_of_ble_eq_true rfl) ⟨by decide, by decide⟩ dX7_judgeMember_38 ?_
        rintro _ rfl
        refine j_vret C hrt dX7_judgeMember_41 ?_
        exact jdE (by simp only [jd, jA]; repeat (first | rw [if_pos (by omega)] | rw [if_neg (by omega)]))
      · -- 24 F
        refine j_aload2 C dX7_judgeMember_27 ?_
        refine j_iconst C dX7_judgeMember_28 ?_
        refine j_bipush C (by decide) dX7_judgeMember_29 ?_
        refine j_cVV2 C (c_X5_set at_67 ⟨by omega, by omega⟩ ⟨by omega, by omega⟩) oX5_set kX7_67 ⟨_, rfl, rfl⟩ at_67 ⟨by decide, by decide⟩ rfl (Nat.le_of_ble_eq_true rfl) ⟨by decide, by decide⟩ dX7_judgeMember_31 ?_
        rintro _ rfl
        refine j_goto C dX7_judgeMember_34 ?_
        refine j_vret C hrt dX7_judgeMember_41 ?_
        exact jdE (by simp only [jd, jA]; repeat (first | rw [if_pos (by omega)] | rw [if_neg (by omega)]))
    · -- 6 F
      refine j_aload2 C dX7_judgeMember_9 ?_
      refine j_iconst C dX7_judgeMember_10 ?_
      refine j_iconst C dX7_judgeMember_11 ?_
      refine j_cVV2 C (c_X5_set at_67 ⟨by omega, by omega⟩ ⟨by omega, by omega⟩) oX5_set kX7_67 ⟨_, rfl, rfl⟩ at_67 ⟨by decide, by decide⟩ rfl (Nat.le_of_ble_eq_true rfl) ⟨by decide, by decide⟩ dX7_judgeMember_12 ?_
      rintro _ rfl
      refine j_goto C dX7_judgeMember_15 ?_
      refine j_vret C hrt dX7_judgeMember_41 ?_
      exact jdE (by simp only [jd, jA]; repeat (first | rw [if_pos (by omega)] | rw [if_neg (by omega)]))
set_option maxRecDepth 100000 in
set_option maxHeartbeats 4000000 in
theorem c_X7_judgeBoat {Γ : Ga} {l : Launch} {ω : Wo} {B : Nat} (hB : Bs B) {σ : Row} (hS : St ω B σ) {M : Int} (hI : RI M σ) (hWI : WI σ)  {a b : Int} (ha : Rg a) (hb : Rg b) : CV Γ l yX7_judgeBoat cX7_judgeBoat 4 2 [.ref (rl Γ B), .int (iI a), .int (iI b), .ref (rl Γ 67)] ω (fun ω' => ω' = RF ω 67 (jd 3 σ a b).1 (jd 3 σ a b).2) := by
  refine Met.ofJ (k := 0) [some (.ref (rl Γ B)), some (.int (iI a)), some (.int (iI b)), some (.ref (rl Γ 67))] (by decide) rfl rfl rfl (fun p e s mm args below meth c C hrt => ?_)
  have g := hI.s
  have gc := hI.c
  have gM := hI.2.1
  refine j_iload1 C dX7_judgeBoat_0 ?_
  refine j_if_lt C ⟨by omega, by omega⟩ dX7_judgeBoat_1 (fun hc1 => ?_) (fun hc1 => ?_)
  · -- 1 T
    refine j_aload3 C dX7_judgeBoat_21 ?_
    refine j_iconst C dX7_judgeBoat_22 ?_
    refine j_iconst C dX7_judgeBoat_23 ?_
    refine j_cVV2 C (c_X5_set at_67 ⟨by omega, by omega⟩ ⟨by omega, by omega⟩) oX5_set kX7_67 ⟨_, rfl, rfl⟩ at_67 ⟨by decide, by decide⟩ rfl (Nat.le_of_ble_eq_true rfl) ⟨by decide, by decide⟩ dX7_judgeBoat_24 ?_
    rintro _ rfl
    refine j_goto C dX7_judgeBoat_27 ?_
    refine j_vret C hrt dX7_judgeBoat_51 ?_
    exact jdE (by simp only [jd, jA]; repeat (first | rw [if_pos (by omega)] | rw [if_neg (by omega)]))
  · -- 1 F
    refine j_iload1 C dX7_judgeBoat_4 ?_
    refine j_bipush C (by decide) dX7_judgeBoat_5 ?_
    refine j_icmp_gt C ⟨by omega, by omega⟩ ⟨by omega, by omega⟩ dX7_judgeBoat_7 (fun hc7 => ?_) (fun hc7 => ?_)
    · -- 7 T
      refine j_aload3 C dX7_judgeBoat_21 ?_
      refine j_iconst C dX7_judgeBoat_22 ?_
      refine j_iconst C dX7_judgeBoat_23 ?_
      refine j_cVV2 C (c_X5_set at_67 ⟨by omega, by omega⟩ ⟨by omega, by omega⟩) oX5_set kX7_67 ⟨_, rfl, rfl⟩ at_67 ⟨by decide, by decide⟩ rfl (Nat.le_of_ble_eq_true rfl) ⟨by decide, by decide⟩ dX7_judgeBoat_24 ?_
      rintro _ rfl
      refine j_goto C dX7_judgeBoat_27 ?_
      refine j_vret C hrt dX7_judgeBoat_51 ?_
      exact jdE (by simp only [jd, jA]; repeat (first | rw [if_pos (by omega)] | rw [if_neg (by omega)]))
    · -- 7 F
      refine j_iload2 C dX7_judgeBoat_10 ?_
      refine j_iconst C dX7_judgeBoat_11 ?_
      refine j_icmp_lt C ⟨by omega, by omega⟩ ⟨by omega, by omega⟩ dX7_judgeBoat_12 (fun hc12 => ?_) (fun hc12 => ?_)
      · -- 12 T
        refine j_aload3 C dX7_judgeBoat_21 ?_
        refine j_iconst C dX7_judgeBoat_22 ?_
        refine j_iconst C dX7_judgeBoat_23 ?_
        refine j_cVV2 C (c_X5_set at_67 ⟨by omega, by omega⟩ ⟨by omega, by omega⟩) oX5_set kX7_67 ⟨_, rfl, rfl⟩ at_67 ⟨by decide, by decide⟩ rfl (Nat.le_of_ble_eq_true rfl) ⟨by decide, by decide⟩ dX7_judgeBoat_24 ?_
        rintro _ rfl
        refine j_goto C dX7_judgeBoat_27 ?_
        refine j_vret C hrt dX7_judgeBoat_51 ?_
        exact jdE (by simp only [jd, jA]; repeat (first | rw [if_pos (by omega)] | rw [if_neg (by omega)]))
      · -- 12 F
        refine j_iload2 C dX7_judgeBoat_15 ?_
        refine j_bipush C (by decide) dX7_judgeBoat_16 ?_
        refine j_icmp_le C ⟨by omega, by omega⟩ ⟨by omega, by omega⟩ dX7_judgeBoat_18 (fun hc18 => ?_) (fun hc18 => ?_)
        · -- 18 T
          refine j_aload0 C dX7_judgeBoat_30 ?_
          refine j_geti C fX7_33 (at_st hB) rfl hS.c4 dX7_judgeBoat_31 (fun hr31 => ?_)
          refine j_iconst C dX7_judgeBoat_34 ?_
          refine j_icmp_lt C ⟨by omega, by omega⟩ ⟨by omega, by omega⟩ dX7_judgeBoat_35 (fun hc35 => ?_) (fun hc35 => ?_)
          · -- 35 T
            refine j_aload3 C dX7_judgeBoat_47 ?_
            refine j_cVV0 C (c_X5_clear at_67) oX5_clear kX7_73 ⟨_, rfl, rfl⟩ at_67 ⟨by decide, by decide⟩ rfl (Nat.le_of_ble_eq_true rfl) ⟨by decide, by decide⟩ dX7_judgeBoat_48 ?_
            rintro _ rfl
            refine j_vret C hrt dX7_judgeBoat_51 ?_
            exact jdE (by simp only [jd, jA]; repeat (first | rw [if_pos (by omega)] | rw [if_neg (by omega)]))
          · -- 35 F
            refine j_aload3 C dX7_judgeBoat_38 ?_
            refine j_iconst C dX7_judgeBoat_39 ?_
            refine j_iconst C dX7_judgeBoat_40 ?_
            refine j_cVV2 C (c_X5_set at_67 ⟨by omega, by omega⟩ ⟨by omega, by omega⟩) oX5_set kX7_67 ⟨_, rfl, rfl⟩ at_67 ⟨by decide, by decide⟩ rfl (Nat.le_of_ble_eq_true rfl) ⟨by decide, by decide⟩ dX7_judgeBoat_41 ?_
            rintro _ rfl
            refine j_goto C dX7_judgeBoat_44 ?_
            refine j_vret C hrt dX7_judgeBoat_51 ?_
            exact jdE (by simp only [jd, jA]; repeat (first | rw [if_pos (by omega)] | rw [if_neg (by omega)]))
        · -- 18 F
          refine j_aload3 C dX7_judgeBoat_21 ?_
          refine j_iconst C dX7_judgeBoat_22 ?_
          refine j_iconst C dX7_judgeBoat_23 ?_
          refine j_cVV2 C (c_X5_set at_67 ⟨by omega, by omega⟩ ⟨by omega, by omega⟩) oX5_set kX7_67 ⟨_, rfl, rfl⟩ at_67 ⟨by decide, by decide⟩ rfl (Nat.le_of_ble_eq_true rfl) ⟨by decide, by decide⟩ dX7_judgeBoat_24 ?_
          rintro _ rfl
          refine j_goto C dX7_judgeBoat_27 ?_
          refine j_vret C hrt dX7_judgeBoat_51 ?_
          exact jdE (by simp only [jd, jA]; repeat (first | rw [if_pos (by omega)] | rw [if_neg (by omega)]))
set_option maxRecDepth 100000 in
set_option maxHeartbeats 4000000 in
theorem c_X7_judgeBorrow {Γ : Ga} {l : Launch} {ω : Wo} {B : Nat} (hB : Bs B) {σ : Row} (hS : St ω B σ) {M : Int} (hI : RI M σ) (hWI : WI σ)  {a b : Int} (ha : Rg a) (hb : Rg b) : CV Γ l yX7_judgeBorrow cX7_judgeBorrow 4 2 [.ref (rl Γ B), .int (iI a), .int (iI b), .ref (rl Γ 67)] ω (fun ω' => ω' = RF ω 67 (jd 5 σ a b).1 (jd 5 σ a b).2) := by
  refine Met.ofJ (k := 0) [some (.ref (rl Γ B)), some (.int (iI a)), some (.int (iI b)), some (.ref (rl Γ 67))] (by decide) rfl rfl rfl (fun p e s mm args below meth c C hrt => ?_)
  have g := hI.s
  have gc := hI.c
  have gM := hI.2.1
  refine j_iload1 C dX7_judgeBorrow_0 ?_
  refine j_iconst C dX7_judgeBorrow_1 ?_
  refine j_icmp_lt C ⟨by omega, by omega⟩ ⟨by omega, by omega⟩ dX7_judgeBorrow_2 (fun hc2 => ?_) (fun hc2 => ?_)
  · -- 2 T
    refine j_aload3 C dX7_judgeBorrow_22 ?_
    refine j_iconst C dX7_judgeBorrow_23 ?_
    refine j_iconst C dX7_judgeBorrow_24 ?_
    refine j_cVV2 C (c_X5_set at_67 ⟨by omega, by omega⟩ ⟨by omega, by omega⟩) oX5_set kX7_67 ⟨_, rfl, rfl⟩ at_67 ⟨by decide, by decide⟩ rfl (Nat.le_of_ble_eq_true rfl) ⟨by decide, by decide⟩ dX7_judgeBorrow_25 ?_
    rintro _ rfl
    refine j_goto C dX7_judgeBorrow_28 ?_
    refine j_vret C hrt dX7_judgeBorrow_52 ?_
    exact jdE (by simp only [jd, jA]; repeat (first | rw [if_pos (by omega)] | rw [if_neg (by omega)]))
  · -- 2 F
    refine j_iload1 C dX7_judgeBorrow_5 ?_
    refine j_bipush C (by decide) dX7_judgeBorrow_6 ?_
    refine j_icmp_gt C ⟨by omega, by omega⟩ ⟨by omega, by omega⟩ dX7_judgeBorrow_8 (fun hc8 => ?_) (fun hc8 => ?_)
    · -- 8 T
      refine j_aload3 C dX7_judgeBorrow_22 ?_
      refine j_iconst C dX7_judgeBorrow_23 ?_
      refine j_iconst C dX7_judgeBorrow_24 ?_
      refine j_cVV2 C (c_X5_set at_67 ⟨by omega, by omega⟩ ⟨by omega, by omega⟩) oX5_set kX7_67 ⟨_, rfl, rfl⟩ at_67 ⟨by decide, by decide⟩ rfl (Nat.le_of_ble_eq_true rfl) ⟨by decide, by decide⟩ dX7_judgeBorrow_25 ?_
      rintro _ rfl
      refine j_goto C dX7_judgeBorrow_28 ?_
      refine j_vret C hrt dX7_judgeBorrow_52 ?_
      exact jdE (by simp only [jd, jA]; repeat (first | rw [if_pos (by omega)] | rw [if_neg (by omega)]))
    · -- 8 F
      refine j_iload2 C dX7_judgeBorrow_11 ?_
      refine j_iconst C dX7_judgeBorrow_12 ?_
      refine j_icmp_lt C ⟨by omega, by omega⟩ ⟨by omega, by omega⟩ dX7_judgeBorrow_13 (fun hc13 => ?_) (fun hc13 => ?_)
      · -- 13 T
        refine j_aload3 C dX7_judgeBorrow_22 ?_
        refine j_iconst C dX7_judgeBorrow_23 ?_
        refine j_iconst C dX7_judgeBorrow_24 ?_
        refine j_cVV2 C (c_X5_set at_67 ⟨by omega, by omega⟩ ⟨by omega, by omega⟩) oX5_set kX7_67 ⟨_, rfl, rfl⟩ at_67 ⟨by decide, by decide⟩ rfl (Nat.le_of_ble_eq_true rfl) ⟨by decide, by decide⟩ dX7_judgeBorrow_25 ?_
        rintro _ rfl
        refine j_goto C dX7_judgeBorrow_28 ?_
        refine j_vret C hrt dX7_judgeBorrow_52 ?_
        exact jdE (by simp only [jd, jA]; repeat (first | rw [if_pos (by omega)] | rw [if_neg (by omega)]))
      · -- 13 F
        refine j_iload2 C dX7_judgeBorrow_16 ?_
        refine j_bipush C (by decide) dX7_judgeBorrow_17 ?_
        refine j_icmp_le C ⟨by omega, by omega⟩ ⟨by omega, by omega⟩ dX7_judgeBorrow_19 (fun hc19 => ?_) (fun hc19 => ?_)
        · -- 19 T
          refine j_aload0 C dX7_judgeBorrow_31 ?_
          refine j_geti C fX7_36 (at_st hB) rfl hS.c5 dX7_judgeBorrow_32 (fun hr32 => ?_)
          refine j_iconst C dX7_judgeBorrow_35 ?_
          refine j_icmp_lt C ⟨by omega, by omega⟩ ⟨by omega, by omega⟩ dX7_judgeBorrow_36 (fun hc36 => ?_) (fun hc36 => ?_)
          · -- 36 T
            refine j_aload3 C dX7_judgeBorrow_48 ?_
            refine j_cVV0 C (c_X5_clear at_67) oX5_clear kX7_73 ⟨_, rfl, rfl⟩ at_67 ⟨by decide, by decide⟩ rfl (Nat.le_of_ble_eq_true rfl) ⟨by decide, by decide⟩ dX7_judgeBorrow_49 ?_
            rintro _ rfl
            refine j_vret C hrt dX7_judgeBorrow_52 ?_
            exact jdE (by simp only [jd, jA]; repeat (first | rw [if_pos (by omega)] | rw [if_neg (by omega)]))
          · -- 36 F
            refine j_aload3 C dX7_judgeBorrow_39 ?_
            refine j_iconst C dX7_judgeBorrow_40 ?_
            refine j_iconst C dX7_judgeBorrow_41 ?_
            refine j_cVV2 C (c_X5_set at_67 ⟨by omega, by omega⟩ ⟨by omega, by omega⟩) oX5_set kX7_67 ⟨_, rfl, rfl⟩ at_67 ⟨by decide, by decide⟩ rfl (Nat.le_of_ble_eq_true rfl) ⟨by decide, by decide⟩ dX7_judgeBorrow_42 ?_
            rintro _ rfl
            refine j_goto C dX7_judgeBorrow_45 ?_
            refine j_vret C hrt dX7_judgeBorrow_52 ?_
            exact jdE (by simp only [jd, jA]; repeat (first | rw [if_pos (by omega)] | rw [if_neg (by omega)]))
        · -- 19 F
          refine j_aload3 C dX7_judgeBorrow_22 ?_
          refine j_iconst C dX7_judgeBorrow_23 ?_
          refine j_iconst C dX7_judgeBorrow_24 ?_
          refine j_cVV2 C (c_X5_set at_67 ⟨by omega, by omega⟩ ⟨by omega, by omega⟩) oX5_set kX7_67 ⟨_, rfl, rfl⟩ at_67 ⟨by decide, by decide⟩ rfl (Nat.le_of_ble_eq_true rfl) ⟨by decide, by decide⟩ dX7_judgeBorrow_25 ?_
          rintro _ rfl
          refine j_goto C dX7_judgeBorrow_28 ?_
          refine j_vret C hrt dX7_judgeBorrow_52 ?_
          exact jdE (by simp only [jd, jA]; repeat (first | rw [if_pos (by omega)] | rw [if_neg (by omega)]))
set_option maxRecDepth 100000 in
set_option maxHeartbeats 4000000 in
theorem c_X7_judgeLimit {Γ : Ga} {l : Launch} {ω : Wo} {B : Nat} (hB : Bs B) {σ : Row} (hS : St ω B σ) {M : Int} (hI : RI M σ) (hWI : WI σ)  {a : Int} (ha : Rg a) : CV Γ l yX7_judgeLimit cX7_judgeLimit 3 2 [.ref (rl Γ B), .int (iI a), .ref (rl Γ 67)] ω (fun ω' => ω' = RF ω 67 (jd 7 σ a 0).1 (jd 7 σ a 0).2) := by
  refine Met.ofJ (k := 0) [some (.ref (rl Γ B)), some (.int (iI a)), some (.ref (rl Γ 67))] (by decide) rfl rfl rfl (fun p e s mm args below meth c C hrt => ?_)
  have g := hI.s
  have gc := hI.c
  have gM := hI.2.1
  refine j_iload1 C dX7_judgeLimit_0 ?_
  refine j_iconst C dX7_judgeLimit_1 ?_
  refine j_icmp_lt C ⟨by omega, by omega⟩ ⟨by omega, by omega⟩ dX7_judgeLimit_2 (fun hc2 => ?_) (fun hc2 => ?_)
  · -- 2 T
    refine j_aload2 C dX7_judgeLimit_11 ?_
    refine j_iconst C dX7_judgeLimit_12 ?_
    refine j_iconst C dX7_judgeLimit_13 ?_
    refine j_cVV2 C (c_X5_set at_67 ⟨by omega, by omega⟩ ⟨by omega, by omega⟩) oX5_set kX7_67 ⟨_, rfl, rfl⟩ at_67 ⟨by decide, by decide⟩ rfl (Nat.le_of_ble_eq_true rfl) ⟨by decide, by decide⟩ dX7_judgeLimit_14 ?_
    rintro _ rfl
    refine j_goto C dX7_judgeLimit_17 ?_
    refine j_vret C hrt dX7_judgeLimit_42 ?_
    exact jdE (by simp only [jd, jA]; repeat (first | rw [if_pos (by omega)] | rw [if_neg (by omega)]))
  · -- 2 F
    refine j_iload1 C dX7_judgeLimit_5 ?_
    refine j_bipush C (by decide) dX7_judgeLimit_6 ?_
    refine j_icmp_le C ⟨by omega, by omega⟩ ⟨by omega, by omega⟩ dX7_judgeLimit_8 (fun hc8 => ?_) (fun hc8 => ?_)
    · -- 8 T
      refine j_iload1 C dX7_judgeLimit_20 ?_
      refine j_aload0 C dX7_judgeLimit_21 ?_
      refine j_geti C fX7_42 (at_st hB) rfl hS.c7 dX7_judgeLimit_22 (fun hr22 => ?_)
      refine j_icmp_ne C ⟨by omega, by omega⟩ ⟨by omega, by omega⟩ dX7_judgeLimit_25 (fun hc25 => ?_) (fun hc25 => ?_)
      · -- 25 T
        refine j_aload2 C dX7_judgeLimit_38 ?_
        refine j_cVV0 C (c_X5_clear at_67) oX5_clear kX7_73 ⟨_, rfl, rfl⟩ at_67 ⟨by decide, by decide⟩ rfl (Nat.le_of_ble_eq_true rfl) ⟨by decide, by decide⟩ dX7_judgeLimit_39 ?_
        rintro _ rfl
        refine j_vret C hrt dX7_judgeLimit_42 ?_
        exact jdE (by simp only [jd, jA]; repeat (first | rw [if_pos (by omega)] | rw [if_neg (by omega)]))
      · -- 25 F
        refine j_aload2 C dX7_judgeLimit_28 ?_
        refine j_bipush C (by decide) dX7_judgeLimit_29 ?_
        refine j_iconst C dX7_judgeLimit_31 ?_
        refine j_cVV2 C (c_X5_set at_67 ⟨by omega, by omega⟩ ⟨by omega, by omega⟩) oX5_set kX7_67 ⟨_, rfl, rfl⟩ at_67 ⟨by decide, by decide⟩ rfl (Nat.le_of_ble_eq_true rfl) ⟨by decide, by decide⟩ dX7_judgeLimit_32 ?_
        rintro _ rfl
        refine j_goto C dX7_judgeLimit_35 ?_
        refine j_vret C hrt dX7_judgeLimit_42 ?_
        exact jdE (by simp only [jd, jA]; repeat (first | rw [if_pos (by omega)] | rw [if_neg (by omega)]))
    · -- 8 F
      refine j_aload2 C dX7_judgeLimit_11 ?_
      refine j_iconst C dX7_judgeLimit_12 ?_
      refine j_iconst C dX7_judgeLimit_13 ?_
      refine j_cVV2 C (c_X5_set at_67 ⟨by omega, by omega⟩ ⟨by omega, by omega⟩) oX5_set kX7_67 ⟨_, rfl, rfl⟩ at_67 ⟨by decide, by decide⟩ rfl (Nat.le_of_ble_eq_true rfl) ⟨by decide, by decide⟩ dX7_judgeLimit_14 ?_
      rintro _ rfl
      refine j_goto C dX7_judgeLimit_17 ?_
      refine j_vret C hrt dX7_judgeLimit_42 ?_
      exact jdE (by simp only [jd, jA]; repeat (first | rw [if_pos (by omega)] | rw [if_neg (by omega)]))
set_option maxRecDepth 100000 in
set_option maxHeartbeats 4000000 in
theorem c_X7_judgePass {Γ : Ga} {l : Launch} {ω : Wo} {B : Nat} (hB : Bs B) {σ : Row} (hS : St ω B σ) {M : Int} (hI : RI M σ) (hWI : WI σ)  {a : Int} (ha : Rg a) : CV Γ l yX7_judgePass cX7_judgePass 3 2 [.ref (rl Γ B), .int (iI a), .ref (rl Γ 67)] ω (fun ω' => ω' = RF ω 67 (jd 8 σ a 0).1 (jd 8 σ a 0).2) := by
  refine Met.ofJ (k := 0) [some (.ref (rl Γ B)), some (.int (iI a)), some (.ref (rl Γ 67))] (by decide) rfl rfl rfl (fun p e s mm args below meth c C hrt => ?_)
  have g := hI.s
  have gc := hI.c
  have gM := hI.2.1
  refine j_iload1 C dX7_judgePass_0 ?_
  refine j_iconst C dX7_judgePass_1 ?_
  refine j_icmp_lt C ⟨by omega, by omega⟩ ⟨by omega, by omega⟩ dX7_judgePass_2 (fun hc2 => ?_) (fun hc2 => ?_)
  · -- 2 T
    refine j_aload2 C dX7_judgePass_11 ?_
    refine j_iconst C dX7_judgePass_12 ?_
    refine j_iconst C dX7_judgePass_13 ?_
    refine j_cVV2 C (c_X5_set at_67 ⟨by omega, by omega⟩ ⟨by omega, by omega⟩) oX5_set kX7_67 ⟨_, rfl, rfl⟩ at_67 ⟨by decide, by decide⟩ rfl (Nat.le_of_ble_eq_true rfl) ⟨by decide, by decide⟩ dX7_judgePass_14 ?_
    rintro _ rfl
    refine j_goto C dX7_judgePass_17 ?_
    refine j_vret C hrt dX7_judgePass_24 ?_
    exact jdE (by simp only [jd, jA]; repeat (first | rw [if_pos (by omega)] | rw [if_neg (by omega)]))
  · -- 2 F
    refine j_iload1 C dX7_judgePass_5 ?_
    refine j_bipush C (by decide) dX7_judgePass_6 ?_
    refine j_icmp_le C ⟨by omega, by omega⟩ ⟨by omega, by omega⟩ dX7_judgePass_8 (fun hc8 => ?_) (fun hc8 => ?_)
    · -- 8 T
      refine j_aload2 C dX7_judgePass_20 ?_
      refine j_cVV0 C (c_X5_clear at_67) oX5_clear kX7_73 ⟨_, rfl, rfl⟩ at_67 ⟨by decide, by decide⟩ rfl (Nat.le_of_ble_eq_true rfl) ⟨by decide, by decide⟩ dX7_judgePass_21 ?_
      rintro _ rfl
      refine j_vret C hrt dX7_judgePass_24 ?_
      exact jdE (by simp only [jd, jA]; repeat (first | rw [if_pos (by omega)] | rw [if_neg (by omega)]))
    · -- 8 F
      refine j_aload2 C dX7_judgePass_11 ?_
      refine j_iconst C dX7_judgePass_12 ?_
      refine j_iconst C dX7_judgePass_13 ?_
      refine j_cVV2 C (c_X5_set at_67 ⟨by omega, by omega⟩ ⟨by omega, by omega⟩) oX5_set kX7_67 ⟨_, rfl, rfl⟩ at_67 ⟨by decide, by decide⟩ rfl (Nat.le_of_ble_eq_true rfl) ⟨by decide, by decide⟩ dX7_judgePass_14 ?_
      rintro _ rfl
      refine j_goto C dX7_judgePass_17 ?_
      refine j_vret C hrt dX7_judgePass_24 ?_
      exact jdE (by simp only [jd, jA]; repeat (first | rw [if_pos (by omega)] | rw [if_neg (by omega)]))
set_option maxRecDepth 100000 in
set_option maxHeartbeats 4000000 in
theorem c_X7_judgeLeave {Γ : Ga} {l : Launch} {ω : Wo} {B : Nat} (hB : Bs B) {σ : Row} (hS : St ω B σ) {M : Int} (hI : RI M σ) (hWI : WI σ)  {a : Int} (ha : Rg a) : CV Γ l yX7_judgeLeave cX7_judgeLeave 3 2 [.ref (rl Γ B), .int (iI a), .ref (rl Γ 67)] ω (fun ω' => ω' = RF ω 67 (jd 1 σ a 0).1 (jd 1 σ a 0).2) := by
  refine Met.ofJ (k := 0) [some (.ref (rl Γ B)), some (.int (iI a)), some (.ref (rl Γ 67))] (by decide) rfl rfl rfl (fun p e s mm args below meth c C hrt => ?_)
  have g := hI.s
  have gc := hI.c
  have gM := hI.2.1
  refine j_aload0 C dX7_judgeLeave_0 ?_
  refine j_iload1 C dX7_judgeLeave_1 ?_
  refine j_cVI1 C (c_X7_hasMember hB (by exact hS) (by exact hI) (by exact hWI) ⟨by omega, by omega⟩) oX7_hasMember kX7_80 ⟨_, rfl, rfl⟩ (at_st hB) ⟨by decide, by decide⟩ rfl (Nat.le_of_ble_eq_true rfl) ⟨by decide, by decide⟩ dX7_judgeLeave_2 ?_
  rintro _ _ hz2 ⟨rfl, rfl⟩
  refine j_ifneb C dX7_judgeLeave_5 (fun hc5 => ?_) (fun hc5 => ?_)
  · -- 5 T
    obtain ⟨k, rfl⟩ := Int.eq_ofNat_of_zero_le hc5.1
    have gw := plc_w hI hWI (k := k) (by omega)
    refine j_aload0 C dX7_judgeLeave_17 ?_
    refine j_getr C fX7_11 (at_st hB) rfl hS.r.a0 dX7_judgeLeave_18 ?_
    refine j_iload1 C dX7_judgeLeave_21 ?_
    refine j_aald C (at_mA hB) rfl (Cn := RX4) rfl (N := 10) rfl (by decide) ⟨by omega, by omega⟩ (hS.r.m k (by omega)) dX7_judgeLeave_22 ?_
    refine j_geti C fX7_84 (at_m hB (by omega)) rfl (hS.m1 k (by omega)) dX7_judgeLeave_23 (fun hr23 => ?_)
    refine j_bipush C (by decide) dX7_judgeLeave_26 ?_
    refine j_icmp_ne C ⟨by omega, by omega⟩ ⟨by omega, by omega⟩ dX7_judgeLeave_28 (fun hc28 => ?_) (fun hc28 => ?_)
    · -- 28 T
      refine j_aload0 C dX7_judgeLeave_40 ?_
      refine j_getr C fX7_11 (at_st hB) rfl hS.r.a0 dX7_judgeLeave_41 ?_
      refine j_iload1 C dX7_judgeLeave_44 ?_
      refine j_aald C (at_mA hB) rfl (Cn := RX4) rfl (N := 10) rfl (by decide) ⟨by omega, by omega⟩ (hS.r.m k (by omega)) dX7_judgeLeave_45 ?_
      refine j_cVI0 C (c_X4_isOut (at_m hB (by omega)) (hS.m1 k (by omega))) oX4_isOut kX7_87 ⟨_, rfl, rfl⟩ (at_m hB (by omega)) ⟨by decide, by decide⟩ rfl (Nat.le_of_ble_eq_true rfl) ⟨by decide, by decide⟩ dX7_judgeLeave_46 ?_
      rintro _ _ hz46 ⟨rfl, rfl⟩
      refine j_ifeqb C dX7_judgeLeave_49 (fun hc49 => ?_) (fun hc49 => ?_)
      · -- 49 T
        refine j_aload2 C dX7_judgeLeave_52 ?_
        refine j_iconst C dX7_judgeLeave_53 ?_
        refine j_aload0 C dX7_judgeLeave_54 ?_
        refine j_getr C fX7_11 (at_st hB) rfl hS.r.a0 dX7_judgeLeave_55 ?_
        refine j_iload1 C dX7_judgeLeave_58 ?_
        refine j_aald C (at_mA hB) rfl (Cn := RX4) rfl (N := 10) rfl (by decide) ⟨by omega, by omega⟩ (hS.r.m k (by omega)) dX7_judgeLeave_59 ?_
        refine j_geti C fX7_84 (at_m hB (by omega)) rfl (hS.m1 k (by omega)) dX7_judgeLeave_60 (fun hr60 => ?_)
        refine j_conv rfl (cons_i (show plc σ k = sM σ k 3 by omega) _) rfl ?_
        have gm3 := hI.m k (by omega)
        refine j_cVV2 C (c_X5_set at_67 ⟨by omega, by omega⟩ ⟨by omega, by omega⟩) oX5_set kX7_67 ⟨_, rfl, rfl⟩ at_67 ⟨by decide, by decide⟩ rfl (Nat.le_of_ble_eq_true rfl) ⟨by decide, by decide⟩ dX7_judgeLeave_63 ?_
        rintro _ rfl
        refine j_goto C dX7_judgeLeave_66 ?_
        refine j_vret C hrt dX7_judgeLeave_73 ?_
        exact jdE (by simp only [jd, jA]; repeat (first | rw [if_pos (by omega)] | rw [if_neg (by omega)]))
      · -- 49 F
        refine j_aload2 C dX7_judgeLeave_69 ?_
        refine j_cVV0 C (c_X5_clear at_67) oX5_clear kX7_73 ⟨_, rfl, rfl⟩ at_67 ⟨by decide, by decide⟩ rfl (Nat.le_of_ble_eq_true rfl) ⟨by decide, by decide⟩ dX7_judgeLeave_70 ?_
        rintro _ rfl
        refine j_vret C hrt dX7_judgeLeave_73 ?_
        exact jdE (by simp only [jd, jA]; repeat (first | rw [if_pos (by omega)] | rw [if_neg (by omega)]))
    · -- 28 F
      refine j_aload2 C dX7_judgeLeave_31 ?_
      refine j_iconst C dX7_judgeLeave_32 ?_
      refine j_iconst C dX7_judgeLeave_33 ?_
      refine j_cVV2 C (c_X5_set at_67 ⟨by omega, by omega⟩ ⟨by omega, by omega⟩) oX5_set kX7_67 ⟨_, rfl, rfl⟩ at_67 ⟨by decide, by decide⟩ rfl (Nat.le_of_ble_eq_true rfl) ⟨by decide, by decide⟩ dX7_judgeLeave_34 ?_
      rintro _ rfl
      refine j_goto C dX7_judgeLeave_37 ?_
      refine j_vret C hrt dX7_judgeLeave_73 ?_
      exact jdE (by simp only [jd, jA]; repeat (first | rw [if_pos (by omega)] | rw [if_neg (by omega)]))
  · -- 5 F
    refine j_aload2 C dX7_judgeLeave_8 ?_
    refine j_iconst C dX7_judgeLeave_9 ?_
    refine j_iload1 C dX7_judgeLeave_10 ?_
    refine j_cVV2 C (c_X5_set at_67 ⟨by omega, by omega⟩ ⟨by omega, by omega⟩) oX5_set kX7_67 ⟨_, rfl, rfl⟩ at_67 ⟨by decide, by decide⟩ rfl (Nat.le_of_ble_eq_true rfl) ⟨by decide, by decide⟩ dX7_judgeLeave_11 ?_
    rintro _ rfl
    refine j_goto C dX7_judgeLeave_14 ?_
    refine j_vret C hrt dX7_judgeLeave_73 ?_
    exact jdE (by simp only [jd, jA]; repeat (first | rw [if_pos (by omega)] | rw [if_neg (by omega)]))
