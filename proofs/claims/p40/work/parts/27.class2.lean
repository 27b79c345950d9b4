set_option maxRecDepth 100000 in
set_option maxHeartbeats 4000000 in
theorem c_X7_hasMember {Γ : Ga} {l : Launch} {ω : Wo} {B : Nat} (hB : Bs B) {σ : Row} (hS : St ω B σ) {M : Int} (hI : RI M σ) (hWI : WI σ)  {a : Int} (ha : Rg a) : CI Γ l yX7_hasMember cX7_hasMember 2 .boolean 0 [.ref (rl Γ B), .int (iI a)] ω (fun z ω' => z = bI (0 ≤ a ∧ a ≤ σ 1 - 1) ∧ ω = ω') := by
  refine Met.ofJ (k := 0) [some (.ref (rl Γ B)), some (.int (iI a))] (by decide) rfl rfl rfl (fun p e s mm args below meth c C hrt => ?_)
  have g := hI.s
  have gc := hI.c
  have gM := hI.2.1
  refine j_iload1 C dX7_hasMember_0 ?_
  refine j_if_lt C ⟨by omega, by omega⟩ dX7_hasMember_1 (fun hc1 => ?_) (fun hc1 => ?_)
  · -- 1 T
    refine j_iconst C dX7_hasMember_16 ?_
    refine j_zret C hrt dX7_hasMember_17 (by first | exact Or.inl rfl | exact Or.inr rfl | exact bI_01 _) ?_
    refine ⟨?_, rfl⟩
    first | exact (bI_t (by omega)).symm | exact (bI_f (by omega)).symm
  · -- 1 F
    refine j_iload1 C dX7_hasMember_4 ?_
    refine j_aload0 C dX7_hasMember_5 ?_
    refine j_geti C fX7_29 (at_st hB) rfl hS.c3 dX7_hasMember_6 (fun hr6 => ?_)
    refine j_icmp_ge C ⟨by omega, by omega⟩ ⟨by omega, by omega⟩ dX7_hasMember_9 (fun hc9 => ?_) (fun hc9 => ?_)
    · -- 9 T
      refine j_iconst C dX7_hasMember_16 ?_
      refine j_zret C hrt dX7_hasMember_17 (by first | exact Or.inl rfl | exact Or.inr rfl | exact bI_01 _) ?_
      refine ⟨?_, rfl⟩
      first | exact (bI_t (by omega)).symm | exact (bI_f (by omega)).symm
    · -- 9 F
      refine j_iconst C dX7_hasMember_12 ?_
      refine j_goto C dX7_hasMember_13 ?_
      refine j_zret C hrt dX7_hasMember_17 (by first | exact Or.inl rfl | exact Or.inr rfl | exact bI_01 _) ?_
      refine ⟨?_, rfl⟩
      first | exact (bI_t (by omega)).symm | exact (bI_f (by omega)).symm
set_option maxRecDepth 100000 in
set_option maxHeartbeats 4000000 in
theorem c_X7_hasBoat {Γ : Ga} {l : Launch} {ω : Wo} {B : Nat} (hB : Bs B) {σ : Row} (hS : St ω B σ) {M : Int} (hI : RI M σ) (hWI : WI σ)  {a : Int} (ha : Rg a) : CI Γ l yX7_hasBoat cX7_hasBoat 2 .boolean 0 [.ref (rl Γ B), .int (iI a)] ω (fun z ω' => z = bI (0 ≤ a ∧ a ≤ σ 2 - 1) ∧ ω = ω') := by
  refine Met.ofJ (k := 0) [some (.ref (rl Γ B)), some (.int (iI a))] (by decide) rfl rfl rfl (fun p e s mm args below meth c C hrt => ?_)
  have g := hI.s
  have gc := hI.c
  have gM := hI.2.1
  refine j_iload1 C dX7_hasBoat_0 ?_
  refine j_if_lt C ⟨by omega, by omega⟩ dX7_hasBoat_1 (fun hc1 => ?_) (fun hc1 => ?_)
  · -- 1 T
    refine j_iconst C dX7_hasBoat_16 ?_
    refine j_zret C hrt dX7_hasBoat_17 (by first | exact Or.inl rfl | exact Or.inr rfl | exact bI_01 _) ?_
    refine ⟨?_, rfl⟩
    first | exact (bI_t (by omega)).symm | exact (bI_f (by omega)).symm
  · -- 1 F
    refine j_iload1 C dX7_hasBoat_4 ?_
    refine j_aload0 C dX7_hasBoat_5 ?_
    refine j_geti C fX7_33 (at_st hB) rfl hS.c4 dX7_hasBoat_6 (fun hr6 => ?_)
    refine j_icmp_ge C ⟨by omega, by omega⟩ ⟨by omega, by omega⟩ dX7_hasBoat_9 (fun hc9 => ?_) (fun hc9 => ?_)
    · -- 9 T
      refine j_iconst C dX7_hasBoat_16 ?_
      refine j_zret C hrt dX7_hasBoat_17 (by first | exact Or.inl rfl | exact Or.inr rfl | exact bI_01 _) ?_
      refine ⟨?_, rfl⟩
      first | exact (bI_t (by omega)).symm | exact (bI_f (by omega)).symm
    · -- 9 F
      refine j_iconst C dX7_hasBoat_12 ?_
      refine j_goto C dX7_hasBoat_13 ?_
      refine j_zret C hrt dX7_hasBoat_17 (by first | exact Or.inl rfl | exact Or.inr rfl | exact bI_01 _) ?_
      refine ⟨?_, rfl⟩
      first | exact (bI_t (by omega)).symm | exact (bI_f (by omega)).symm
set_option maxRecDepth 100000 in
set_option maxHeartbeats 4000000 in
theorem c_X7_hasLoan {Γ : Ga} {l : Launch} {ω : Wo} {B : Nat} (hB : Bs B) {σ : Row} (hS : St ω B σ) {M : Int} (hI : RI M σ) (hWI : WI σ)  {a : Int} (ha : Rg a) : CI Γ l yX7_hasLoan cX7_hasLoan 2 .boolean 0 [.ref (rl Γ B), .int (iI a)] ω (fun z ω' => z = bI (0 ≤ a ∧ a ≤ σ 3 - 1) ∧ ω = ω') := by
  refine Met.ofJ (k := 0) [some (.ref (rl Γ B)), some (.int (iI a))] (by decide) rfl rfl rfl (fun p e s mm args below meth c C hrt => ?_)
  have g := hI.s
  have gc := hI.c
  have gM := hI.2.1
  refine j_iload1 C dX7_hasLoan_0 ?_
  refine j_if_lt C ⟨by omega, by omega⟩ dX7_hasLoan_1 (fun hc1 => ?_) (fun hc1 => ?_)
  · -- 1 T
    refine j_iconst C dX7_hasLoan_16 ?_
    refine j_zret C hrt dX7_hasLoan_17 (by first | exact Or.inl rfl | exact Or.inr rfl | exact bI_01 _) ?_
    refine ⟨?_, rfl⟩
    first | exact (bI_t (by omega)).symm | exact (bI_f (by omega)).symm
  · -- 1 F
    refine j_iload1 C dX7_hasLoan_4 ?_
    refine j_aload0 C dX7_hasLoan_5 ?_
    refine j_geti C fX7_36 (at_st hB) rfl hS.c5 dX7_hasLoan_6 (fun hr6 => ?_)
    refine j_icmp_ge C ⟨by omega, by omega⟩ ⟨by omega, by omega⟩ dX7_hasLoan_9 (fun hc9 => ?_) (fun hc9 => ?_)
    · -- 9 T
      refine j_iconst C dX7_hasLoan_16 ?_
      refine j_zret C hrt dX7_hasLoan_17 (by first | exact Or.inl rfl | exact Or.inr rfl | exact bI_01 _) ?_
      refine ⟨?_, rfl⟩
      first | exact (bI_t (by omega)).symm | exact (bI_f (by omega)).symm
    · -- 9 F
      refine j_iconst C dX7_hasLoan_12 ?_
      refine j_goto C dX7_hasLoan_13 ?_
      refine j_zret C hrt dX7_hasLoan_17 (by first | exact Or.inl rfl | exact Or.inr rfl | exact bI_01 _) ?_
      refine ⟨?_, rfl⟩
      first | exact (bI_t (by omega)).symm | exact (bI_f (by omega)).symm
set_option maxRecDepth 100000 in
set_option maxHeartbeats 4000000 in
theorem c_X7_allOars {Γ : Ga} {l : Launch} {ω : Wo} {B : Nat} (hB : Bs B) {σ : Row} (hS : St ω B σ) {M : Int} (hI : RI M σ) (hWI : WI σ)   : CI Γ l yX7_allOars cX7_allOars 3 .int 0 [.ref (rl Γ B)] ω (fun z ω' => z = allO σ ∧ ω = ω') := by
  refine Met.ofJ (k := 2) [some (.ref (rl Γ B)), none, none] (by decide) rfl rfl rfl (fun p e s mm args below meth c C hrt => ?_)
  have g := hI.s
  have gc := hI.c
  have gM := hI.2.1
  refine j_bipush C (by decide) dX7_allOars_0 ?_
  refine j_istore1 C rfl dX7_allOars_2 ?_
  refine j_iconst C dX7_allOars_3 ?_
  refine j_istore2 C rfl dX7_allOars_4 ?_
  have loop5 : ∀ (N : Nat) (k : Nat), (cL σ - k) < N → (k ≤ cL σ) → J Γ p l e (rmk 0 0 0) s mm args below meth c (MQ below (QI Γ (fun z ω' => z = allO σ ∧ ω = ω')) args s 0 0 (gA Γ)) 243 0 0 5 [some (.ref (rl Γ B)), some (.int (iI (oarsUp σ k))), some (.int (iI ((k : Nat) : Int)))] [] ω := by
    intro N
    induction N with
    | zero => intro k hN; exact absurd hN (Nat.not_lt_zero _)
    | succ N ih5 =>
      intro k hN hi0
      have gl := hI.l k
      have go := oarsUp_rg hI k (by omega)
      have go2 : k < cL σ → 6 ≤ oarsUp σ (k+1) ∧ oarsUp σ (k+1) ≤ 6 + 9 * ↑(k+1) := fun h => oarsUp_rg hI (k+1) (by omega)
      refine j_iload2 C dX7_allOars_5 ?_
      refine j_aload0 C dX7_allOars_6 ?_
      refine j_geti C fX7_36 (at_st hB) rfl hS.c5 dX7_allOars_7 (fun hr7 => ?_)
      refine j_icmp_ge C ⟨by omega, by omega⟩ ⟨by omega, by omega⟩ dX7_allOars_10 (fun hc10 => ?_) (fun hc10 => ?_)
      · -- 10 T
        refine j_iload1 C dX7_allOars_31 ?_
        refine j_iret C hrt dX7_allOars_32 ⟨by omega, by omega⟩ ?_
        have : k = cL σ := by omega
        subst this
        exact ⟨rfl, rfl⟩
      · -- 10 F
        refine j_iload1 C dX7_allOars_13 ?_
        refine j_aload0 C dX7_allOars_14 ?_
        refine j_getr C fX7_25 (at_st hB) rfl hS.r.a2 dX7_allOars_15 ?_
        refine j_iload2 C dX7_allOars_18 ?_
        obtain ⟨la19, ha19, hb19, hc19⟩ := hS.r.l k (by omega)
        refine j_aald C (at_lA hB) rfl (Cn := RX3) rfl (N := 4) rfl (by decide) ⟨by omega, by omega⟩ ha19 dX7_allOars_19 ?_
        refine j_geti C fX7_169 (at_lx hB hb19 hc19) rfl (hS.l0 k (by omega) ha19) dX7_allOars_20 (fun hr20 => ?_)
        refine j_iadd C dX7_allOars_23 ?_
        refine j_istore1 C rfl dX7_allOars_24 ?_
        refine j_iinc2n C rfl dX7_allOars_25 ?_
        refine j_goto C dX7_allOars_28 ?_
        exact j_fg (ih5 (k + 1) (by omega) (by omega)) ⟨Or.inr rfl, Or.inr rfl, Or.inr rfl, trivial⟩ rfl
  exact loop5 _ 0 (Nat.lt_succ_self _) (Nat.zero_le _)
set_option maxRecDepth 100000 in
set_option maxHeartbeats 4000000 in
theorem c_X7_oarsOut {Γ : Ga} {l : Launch} {ω : Wo} {B : Nat} (hB : Bs B) {σ : Row} (hS : St ω B σ) {M : Int} (hI : RI M σ) (hWI : WI σ)   : CI Γ l yX7_oarsOut cX7_oarsOut 3 .int 1 [.ref (rl Γ B)] ω (fun z ω' => z = outO σ ∧ ω = ω') := by
  refine Met.ofJ (k := 2) [some (.ref (rl Γ B)), none, none] (by decide) rfl rfl rfl (fun p e s mm args below meth c C hrt => ?_)
  have g := hI.s
  have gc := hI.c
  have gM := hI.2.1
  refine j_iconst C dX7_oarsOut_0 ?_
  refine j_istore1 C rfl dX7_oarsOut_1 ?_
  refine j_iconst C dX7_oarsOut_2 ?_
  refine j_istore2 C rfl dX7_oarsOut_3 ?_
  have loop4 : ∀ (N : Nat) (k : Nat), (cB σ - k) < N → (k ≤ cB σ) → J Γ p l e (rmk 1 0 0) s mm args below meth c (MQ below (QI Γ (fun z ω' => z = outO σ ∧ ω = ω')) args s 0 0 (gA Γ)) 243 0 0 4 [some (.ref (rl Γ B)), some (.int (iI (outUp σ k))), some (.int (iI ((k : Nat) : Int)))] [] ω := by
    intro N
    induction N with
    | zero => intro k hN; exact absurd hN (Nat.not_lt_zero _)
    | succ N ih4 =>
      intro k hN hi0
      have gl := hI.b k
      have go := outUp_rg hI k (by omega)
      have gw := fun h => hWI.2.2.2 k h
      refine j_iload2 C dX7_oarsOut_4 ?_
      refine j_aload0 C dX7_oarsOut_5 ?_
      refine j_geti C fX7_33 (at_st hB) rfl hS.c4 dX7_oarsOut_6 (fun hr6 => ?_)
      refine j_icmp_ge C ⟨by omega, by omega⟩ ⟨by omega, by omega⟩ dX7_oarsOut_9 (fun hc9 => ?_) (fun hc9 => ?_)
      · -- 9 T
        refine j_iload1 C dX7_oarsOut_42 ?_
        refine j_iret C hrt dX7_oarsOut_43 ⟨by omega, by omega⟩ ?_
        have : k = cB σ := by omega
        subst this
        exact ⟨rfl, rfl⟩
      · -- 9 F
        refine j_aload0 C dX7_oarsOut_12 ?_
        refine j_getr C fX7_19 (at_st hB) rfl hS.r.a1 dX7_oarsOut_13 ?_
        refine j_iload2 C dX7_oarsOut_16 ?_
        refine j_aald C (at_bA hB) rfl (Cn := RX1) rfl (N := 3) rfl (by decide) ⟨by omega, by omega⟩ (hS.r.b k (by omega)) dX7_oarsOut_17 ?_
        refine j_cVI0 C (c_X1_isOut (at_b hB (by omega)) (hS.b2 k (by omega))) oX1_isOut kX7_116 ⟨_, rfl, rfl⟩ (at_b hB (by omega)) ⟨by decide, by decide⟩ rfl (Nat.le_of_ble_eq_true rfl) ⟨by decide, by decide⟩ dX7_oarsOut_18 ?_
        rintro _ _ hz18 ⟨rfl, rfl⟩
        refine j_ifeqb C dX7_oarsOut_21 (fun hc21 => ?_) (fun hc21 => ?_)
        · -- 21 T
          refine j_iload1 C dX7_oarsOut_24 ?_
          refine j_aload0 C dX7_oarsOut_25 ?_
          refine j_getr C fX7_19 (at_st hB) rfl hS.r.a1 dX7_oarsOut_26 ?_
          refine j_iload2 C dX7_oarsOut_29 ?_
          refine j_aald C (at_bA hB) rfl (Cn := RX1) rfl (N := 3) rfl (by decide) ⟨by omega, by omega⟩ (hS.r.b k (by omega)) dX7_oarsOut_30 ?_
          refine j_cVI0 C (c_X1_oarsNeeded (at_b hB (by omega)) (hS.b1 k (by omega)) (by omega)) oX1_oarsNeeded kX7_126 ⟨_, rfl, rfl⟩ (at_b hB (by omega)) ⟨by decide, by decide⟩ rfl (Nat.le_of_ble_eq_true rfl) ⟨by decide, by decide⟩ dX7_oarsOut_31 ?_
          rintro _ _ hz31 ⟨rfl, rfl⟩
          refine j_iadd C dX7_oarsOut_34 ?_
          refine j_istore1 C rfl dX7_oarsOut_35 ?_
          refine j_iinc2n C rfl dX7_oarsOut_36 ?_
          refine j_goto C dX7_oarsOut_39 ?_
          exact j_fg (ih4 (k + 1) (by omega) (by omega)) ⟨Or.inr rfl, Or.inr (sI (by simp only [outUp]; first | rw [if_pos (by omega)] | (rw [if_neg (by omega)] <;> simp))), Or.inr rfl, trivial⟩ rfl
        · -- 21 F
          refine j_iinc2n C rfl dX7_oarsOut_36 ?_
          refine j_goto C dX7_oarsOut_39 ?_
          exact j_fg (ih4 (k + 1) (by omega) (by omega)) ⟨Or.inr rfl, Or.inr (sI (by simp only [outUp]; first | rw [if_pos (by omega)] | (rw [if_neg (by omega)] <;> simp))), Or.inr rfl, trivial⟩ rfl
  exact loop4 _ 0 (Nat.lt_succ_self _) (Nat.zero_le _)
set_option maxRecDepth 100000 in
set_option maxHeartbeats 4000000 in
theorem c_X7_freeOars {Γ : Ga} {l : Launch} {ω : Wo} {B : Nat} (hB : Bs B) {σ : Row} (hS : St ω B σ) {M : Int} (hI : RI M σ) (hWI : WI σ)   : CI Γ l yX7_freeOars cX7_freeOars 1 .int 2 [.ref (rl Γ B)] ω (fun z ω' => z = freeO σ ∧ ω = ω') := by
  refine Met.ofJ (k := 0) [some (.ref (rl Γ B))] (by decide) rfl rfl rfl (fun p e s mm args below meth c C hrt => ?_)
  have g := hI.s
  have gc := hI.c
  have gM := hI.2.1
  have g1 := oarsUp_rg hI (cL σ) gc.2.2.2
  have g2 := outUp_rg hI (cB σ) gc.2.1.2
  refine j_aload0 C dX7_freeOars_0 ?_
  refine j_cVI0 C (c_X7_allOars hB (by exact hS) (by exact hI) (by exact hWI)) oX7_allOars kX7_205 ⟨_, rfl, rfl⟩ (at_st hB) ⟨by decide, by decide⟩ rfl (Nat.le_of_ble_eq_true rfl) ⟨by decide, by decide⟩ dX7_freeOars_1 ?_
  rintro _ _ hz1 ⟨rfl, rfl⟩
  refine j_aload0 C dX7_freeOars_4 ?_
  refine j_cVI0 C (c_X7_oarsOut hB (by exact hS) (by exact hI) (by exact hWI)) oX7_oarsOut kX7_199 ⟨_, rfl, rfl⟩ (at_st hB) ⟨by decide, by decide⟩ rfl (Nat.le_of_ble_eq_true rfl) ⟨by decide, by decide⟩ dX7_freeOars_5 ?_
  rintro _ _ hz5 ⟨rfl, rfl⟩
  refine j_isub C dX7_freeOars_8 ?_
  refine j_iret C hrt dX7_freeOars_9 ⟨by unfold allO outO; omega, by unfold allO outO; omega⟩ ?_
  exact ⟨rfl, rfl⟩
set_option maxRecDepth 100000 in
set_option maxHeartbeats 4000000 in
theorem c_X7_boatsOut {Γ : Ga} {l : Launch} {ω : Wo} {B : Nat} (hB : Bs B) {σ : Row} (hS : St ω B σ) {M : Int} (hI : RI M σ) (hWI : WI σ)   : CI Γ l yX7_boatsOut cX7_boatsOut 3 .int 1 [.ref (rl Γ B)] ω (fun z ω' => z = bOutUp σ (cB σ) ∧ ω = ω') := by
  refine Met.ofJ (k := 2) [some (.ref (rl Γ B)), none, none] (by decide) rfl rfl rfl (fun p e s mm args below meth c C hrt => ?_)
  have g := hI.s
  have gc := hI.c
  have gM := hI.2.1
  refine j_iconst C dX7_boatsOut_0 ?_
  refine j_istore1 C rfl dX7_boatsOut_1 ?_
  refine j_iconst C dX7_boatsOut_2 ?_
  refine j_istore2 C rfl dX7_boatsOut_3 ?_
  have loop4 : ∀ (N : Nat) (k : Nat), (cB σ - k) < N → (k ≤ cB σ) → J Γ p l e (rmk 1 0 0) s mm args below meth c (MQ below (QI Γ (fun z ω' => z = bOutUp σ (cB σ) ∧ ω = ω')) args s 0 0 (gA Γ)) 243 0 0 4 [some (.ref (rl Γ B)), some (.int (iI (bOutUp σ k))), some (.int (iI ((k : Nat) : Int)))] [] ω := by
    intro N
    induction N with
    | zero => intro k hN; exact absurd hN (Nat.not_lt_zero _)
    | succ N ih4 =>
      intro k hN hi0
      have gl := hI.b k
      have go := fun h => bOutUp_rg hI k h
      have gw := fun h => hWI.2.2.2 k h
      refine j_iload2 C dX7_boatsOut_4 ?_
      refine j_aload0 C dX7_boatsOut_5 ?_
      refine j_geti C fX7_33 (at_st hB) rfl hS.c4 dX7_boatsOut_6 (fun hr6 => ?_)
      refine j_icmp_ge C ⟨by omega, by omega⟩ ⟨by omega, by omega⟩ dX7_boatsOut_9 (fun hc9 => ?_) (fun hc9 => ?_)
      · -- 9 T
        refine j_iload1 C dX7_boatsOut_33 ?_
        refine j_iret C hrt dX7_boatsOut_34 ⟨by omega, by omega⟩ ?_
        have : k = cB σ := by omega
        subst this
        exact ⟨rfl, rfl⟩
      · -- 9 F
        refine j_aload0 C dX7_boatsOut_12 ?_
        refine j_getr C fX7_19 (at_st hB) rfl hS.r.a1 dX7_boatsOut_13 ?_
        refine j_iload2 C dX7_boatsOut_16 ?_
        refine j_aald C (at_bA hB) rfl (Cn := RX1) rfl (N := 3) rfl (by decide) ⟨by omega, by omega⟩ (hS.r.b k (by omega)) dX7_boatsOut_17 ?_
        refine j_cVI0 C (c_X1_isOut (at_b hB (by omega)) (hS.b2 k (by omega))) oX1_isOut kX7_116 ⟨_, rfl, rfl⟩ (at_b hB (by omega)) ⟨by decide, by decide⟩ rfl (Nat.le_of_ble_eq_true rfl) ⟨by decide, by decide⟩ dX7_boatsOut_18 ?_
        rintro _ _ hz18 ⟨rfl, rfl⟩
        refine j_ifeqb C dX7_boatsOut_21 (fun hc21 => ?_) (fun hc21 => ?_)
        · -- 21 T
          refine j_iinc1 C rfl dX7_boatsOut_24 ?_
          refine j_iinc2n C rfl dX7_boatsOut_27 ?_
          refine j_goto C dX7_boatsOut_30 ?_
          exact j_fg (ih4 (k + 1) (by omega) (by omega)) ⟨Or.inr rfl, Or.inr (sI (by simp only [bOutUp]; omega)), Or.inr rfl, trivial⟩ rfl
        · -- 21 F
          refine j_iinc2n C rfl dX7_boatsOut_27 ?_
          refine j_goto C dX7_boatsOut_30 ?_
          exact j_fg (ih4 (k + 1) (by omega) (by omega)) ⟨Or.inr rfl, Or.inr (sI (by simp only [bOutUp]; omega)), Or.inr rfl, trivial⟩ rfl
  exact loop4 _ 0 (Nat.lt_succ_self _) (Nat.zero_le _)
set_option maxRecDepth 100000 in
set_option maxHeartbeats 4000000 in
theorem c_X7_everyone {Γ : Ga} {l : Launch} {ω : Wo} {B : Nat} (hB : Bs B) {σ : Row} (hS : St ω B σ) {M : Int} (hI : RI M σ) (hWI : WI σ)   : CI Γ l yX7_everyone cX7_everyone 1 .int 0 [.ref (rl Γ B)] ω (fun z ω' => z = ((2 ^ cM σ - 1 : Nat) : Int) ∧ ω = ω') := by
  refine Met.ofJ (k := 0) [some (.ref (rl Γ B))] (by decide) rfl rfl rfl (fun p e s mm args below meth c C hrt => ?_)
  have g := hI.s
  have gc := hI.c
  have gM := hI.2.1
  have h1 : 2 ^ cM σ ≤ 2 ^ 10 := Nat.pow_le_pow_right (by decide) gc.1.2
  have h2 := Nat.two_pow_pos (cM σ)
  refine j_iconst C dX7_everyone_0 ?_
  refine j_aload0 C dX7_everyone_1 ?_
  refine j_geti C fX7_29 (at_st hB) rfl hS.c3 dX7_everyone_2 (fun hr2 => ?_)
  rw [← gc.1.1]
  refine j_ishl1 C (by omega) dX7_everyone_5 ?_
  refine j_iconst C dX7_everyone_6 ?_
  refine j_isub C dX7_everyone_7 ?_
  refine j_iret C hrt dX7_everyone_8 ⟨by omega, by omega⟩ ?_
  exact ⟨by omega, rfl⟩
set_option maxRecDepth 100000 in
set_option maxHeartbeats 4000000 in
theorem c_X7_membersAt {Γ : Ga} {l : Launch} {ω : Wo} {B : Nat} (hB : Bs B) {σ : Row} (hS : St ω B σ) {M : Int} (hI : RI M σ) (hWI : WI σ)  {q : Int} (hq : Rg q) : CI Γ l yX7_membersAt cX7_membersAt 4 .int 0 [.ref (rl Γ B), .int (iI q)] ω (fun z ω' => z = (atUp σ q (cM σ) : Int) ∧ ω = ω') := by
  refine Met.ofJ (k := 2) [some (.ref (rl Γ B)), some (.int (iI q)), none, none] (by decide) rfl rfl rfl (fun p e s mm args below meth c C hrt => ?_)
  have g := hI.s
  have gc := hI.c
  have gM := hI.2.1
  refine j_iconst C dX7_membersAt_0 ?_
  refine j_istore2 C rfl dX7_membersAt_1 ?_
  refine j_iconst C dX7_membersAt_2 ?_
  refine j_istore3 C rfl dX7_membersAt_3 ?_
  have loop4 : ∀ (N : Nat) (k : Nat), (cM σ - k) < N → (k ≤ cM σ) → J Γ p l e (rmk 0 0 0) s mm args below meth c (MQ below (QI Γ (fun z ω' => z = (atUp σ q (cM σ) : Int) ∧ ω = ω')) args s 0 0 (gA Γ)) 243 0 0 4 [some (.ref (rl Γ B)), some (.int (iI q)), some (.int (iI ((atUp σ q k : Nat) : Int))), some (.int (iI ((k : Nat) : Int)))] [] ω := by
    intro N
    induction N with
    | zero => intro k hN; exact absurd hN (Nat.not_lt_zero _)
    | succ N ih4 =>
      intro k hN hi0
      have gl := hI.m k
      have gw := fun h => plc_w hI hWI (k := k) h
      have go := fun h => p10 (atUp_lt σ q k) h
      refine j_iload3 C dX7_membersAt_4 ?_
      refine j_aload0 C dX7_membersAt_5 ?_
      refine j_geti C fX7_29 (at_st hB) rfl hS.c3 dX7_membersAt_6 (fun hr6 => ?_)
      refine j_icmp_ge C ⟨by omega, by omega⟩ ⟨by omega, by omega⟩ dX7_membersAt_9 (fun hc9 => ?_) (fun hc9 => ?_)
      · -- 9 T
        refine j_iload2 C dX7_membersAt_37 ?_
        refine j_iret C hrt dX7_membersAt_38 ⟨by omega, by omega⟩ ?_
        have : k = cM σ := by omega
        subst this
        exact ⟨rfl, rfl⟩
      · -- 9 F
        refine j_aload0 C dX7_membersAt_12 ?_
        refine j_getr C fX7_11 (at_st hB) rfl hS.r.a0 dX7_membersAt_13 ?_
        refine j_iload3 C dX7_membersAt_16 ?_
        refine j_aald C (at_mA hB) rfl (Cn := RX4) rfl (N := 10) rfl (by decide) ⟨by omega, by omega⟩ (hS.r.m k (by omega)) dX7_membersAt_17 ?_
        refine j_geti C fX7_84 (at_m hB (by omega)) rfl (hS.m1 k (by omega)) dX7_membersAt_18 (fun hr18 => ?_)
        refine j_iload1 C dX7_membersAt_21 ?_
        refine j_icmp_ne C ⟨by omega, by omega⟩ ⟨by omega, by omega⟩ dX7_membersAt_22 (fun hc22 => ?_) (fun hc22 => ?_)
        · -- 22 T
          refine j_iinc3n C rfl dX7_membersAt_31 ?_
          refine j_goto C dX7_membersAt_34 ?_
          exact j_fg (ih4 (k + 1) (by omega) (by omega)) ⟨Or.inr rfl, Or.inr rfl, Or.inr (sN (by simp only [atUp]; first | rw [if_pos (by omega)] | (rw [if_neg (by omega)] <;> simp))), Or.inr rfl, trivial⟩ rfl
        · -- 22 F
          refine j_iload2 C dX7_membersAt_25 ?_
          refine j_iconstN C (k := 1) rfl dX7_membersAt_26 ?_
          refine j_iload3 C dX7_membersAt_27 ?_
          refine j_ishl1 C (by omega) dX7_membersAt_28 ?_
          refine j_ior C dX7_membersAt_29 ?_
          refine j_istore2 C rfl dX7_membersAt_30 ?_
          refine j_iinc3n C rfl dX7_membersAt_31 ?_
          refine j_goto C dX7_membersAt_34 ?_
          exact j_fg (ih4 (k + 1) (by omega) (by omega)) ⟨Or.inr rfl, Or.inr rfl, Or.inr (sN (by simp only [atUp]; first | rw [if_pos (by omega)] | (rw [if_neg (by omega)] <;> simp))), Or.inr rfl, trivial⟩ rfl
  exact loop4 _ 0 (Nat.lt_succ_self _) (Nat.zero_le _)
set_option maxRecDepth 100000 in
set_option maxHeartbeats 4000000 in
theorem c_X7_staying {Γ : Ga} {l : Launch} {ω : Wo} {B : Nat} (hB : Bs B) {σ : Row} (hS : St ω B σ) {M : Int} (hI : RI M σ) (hWI : WI σ)   : CI Γ l yX7_staying cX7_staying 1 .int 1 [.ref (rl Γ B)] ω (fun z ω' => z = (stS σ : Int) ∧ ω = ω') := by
  refine Met.ofJ (k := 0) [some (.ref (rl Γ B))] (by decide) rfl rfl rfl (fun p e s mm args below meth c C hrt => ?_)
  have g := hI.s
  have gc := hI.c
  have gM := hI.2.1
  have h1 : 2 ^ cM σ ≤ 2 ^ 10 := Nat.pow_le_pow_right (by decide) gc.1.2
  have ha := p10 (atUp_lt σ (-2) (cM σ)) gc.1.2
  have hst := stS_lt hI
  refine j_aload0 C dX7_staying_0 ?_
  refine j_cVI0 C (c_X7_everyone hB (by exact hS) (by exact hI) (by exact hWI)) oX7_everyone kX7_209 ⟨_, rfl, rfl⟩ (at_st hB) ⟨by decide, by decide⟩ rfl (Nat.le_of_ble_eq_true rfl) ⟨by decide, by decide⟩ dX7_staying_1 ?_
  rintro _ _ hz1 ⟨rfl, rfl⟩
  refine j_aload0 C dX7_staying_4 ?_
  refine j_bipush C (by decide) dX7_staying_5 ?_
  refine j_cVI1 C (c_X7_membersAt hB (by exact hS) (by exact hI) (by exact hWI) ⟨by omega, by omega⟩) oX7_membersAt kX7_212 ⟨_, rfl, rfl⟩ (at_st hB) ⟨by decide, by decide⟩ rfl (Nat.le_of_ble_eq_true rfl) ⟨by decide, by decide⟩ dX7_staying_7 ?_
  rintro _ _ hz7 ⟨rfl, rfl⟩
  refine j_iconst C dX7_staying_10 ?_
  refine j_ixorm C (by omega) dX7_staying_11 ?_
  refine j_iand C dX7_staying_12 ?_
  rw [show (2 ^ cM σ - 1) &&& (4294967295 - atUp σ (-2) (cM σ)) = stS σ from rfl]
  refine j_iret C hrt dX7_staying_13 ⟨by omega, by omega⟩ ?_
  exact ⟨rfl, rfl⟩
set_option maxRecDepth 100000 in
set_option maxHeartbeats 4000000 in
theorem c_X7_ableMembers {Γ : Ga} {l : Launch} {ω : Wo} {B : Nat} (hB : Bs B) {σ : Row} (hS : St ω B σ) {M : Int} (hI : RI M σ) (hWI : WI σ)   : CI Γ l yX7_ableMembers cX7_ableMembers 3 .int 1 [.ref (rl Γ B)] ω (fun z ω' => z = (ableS σ : Int) ∧ ω = ω') := by
  refine Met.ofJ (k := 2) [some (.ref (rl Γ B)), none, none] (by decide) rfl rfl rfl (fun p e s mm args below meth c C hrt => ?_)
  have g := hI.s
  have gc := hI.c
  have gM := hI.2.1
  refine j_iconst C dX7_ableMembers_0 ?_
  refine j_istore1 C rfl dX7_ableMembers_1 ?_
  refine j_iconst C dX7_ableMembers_2 ?_
  refine j_istore2 C rfl dX7_ableMembers_3 ?_
  have loop4 : ∀ (N : Nat) (k : Nat), (cM σ - k) < N → (k ≤ cM σ) → J Γ p l e (rmk 1 0 0) s mm args below meth c (MQ below (QI Γ (fun z ω' => z = (ableS σ : Int) ∧ ω = ω')) args s 0 0 (gA Γ)) 243 0 0 4 [some (.ref (rl Γ B)), some (.int (iI ((ableUp σ k : Nat) : Int))), some (.int (iI ((k : Nat) : Int)))] [] ω := by
    intro N
    induction N with
    | zero => intro k hN; exact absurd hN (Nat.not_lt_zero _)
    | succ N ih4 =>
      intro k hN hi0
      have gl := hI.m k
      have gw := fun h => plc_w hI hWI (k := k) h
      have go := fun h => p10 (ableUp_lt σ k) h
      refine j_iload2 C dX7_ableMembers_4 ?_
      refine j_aload0 C dX7_ableMembers_5 ?_
      refine j_geti C fX7_29 (at_st hB) rfl hS.c3 dX7_ableMembers_6 (fun hr6 => ?_)
      refine j_icmp_ge C ⟨by omega, by omega⟩ ⟨by omega, by omega⟩ dX7_ableMembers_9 (fun hc9 => ?_) (fun hc9 => ?_)
      · -- 9 T
        refine j_iload1 C dX7_ableMembers_40 ?_
        refine j_iret C hrt dX7_ableMembers_41 ⟨by omega, by omega⟩ ?_
        have : k = cM σ := by omega
        subst this
        exact ⟨rfl, rfl⟩
      · -- 9 F
        refine j_aload0 C dX7_ableMembers_12 ?_
        refine j_getr C fX7_11 (at_st hB) rfl hS.r.a0 dX7_ableMembers_13 ?_
        refine j_iload2 C dX7_ableMembers_16 ?_
        refine j_aald C (at_mA hB) rfl (Cn := RX4) rfl (N := 10) rfl (by decide) ⟨by omega, by omega⟩ (hS.r.m k (by omega)) dX7_ableMembers_17 ?_
        refine j_aload0 C dX7_ableMembers_18 ?_
        refine j_geti C fX7_42 (at_st hB) rfl hS.c7 dX7_ableMembers_19 (fun hr19 => ?_)
        refine j_cVI1 C (c_X4_isAble (at_m hB (by omega)) (hS.m1 k (by omega)) (hS.m2 k (by omega)) ⟨by omega, by omega⟩) oX4_isAble kX7_215 ⟨_, rfl, rfl⟩ (at_m hB (by omega)) ⟨by decide, by decide⟩ rfl (Nat.le_of_ble_eq_true rfl) ⟨by decide, by decide⟩ dX7_ableMembers_22 ?_
        rintro _ _ hz22 ⟨rfl, rfl⟩
        refine j_ifeqb C dX7_ableMembers_25 (fun hc25 => ?_) (fun hc25 => ?_)
        · -- 25 T
          refine j_iload1 C dX7_ableMembers_28 ?_
          refine j_iconstN C (k := 1) rfl dX7_ableMembers_29 ?_
          refine j_iload2 C dX7_ableMembers_30 ?_
          refine j_ishl1 C (by omega) dX7_ableMembers_31 ?_
          refine j_ior C dX7_ableMembers_32 ?_
          refine j_istore1 C rfl dX7_ableMembers_33 ?_
          refine j_iinc2n C rfl dX7_ableMembers_34 ?_
          refine j_goto C dX7_ableMembers_37 ?_
          exact j_fg (ih4 (k + 1) (by omega) (by omega)) ⟨Or.inr rfl, Or.inr (sN (by simp only [ableUp]; first | rw [if_pos (by omega)] | (rw [if_neg (by omega)] <;> simp))), Or.inr rfl, trivial⟩ rfl
        · -- 25 F
          refine j_iinc2n C rfl dX7_ableMembers_34 ?_
          refine j_goto C dX7_ableMembers_37 ?_
          exact j_fg (ih4 (k + 1) (by omega) (by omega)) ⟨Or.inr rfl, Or.inr (sN (by simp only [ableUp]; first | rw [if_pos (by omega)] | (rw [if_neg (by omega)] <;> simp))), Or.inr rfl, trivial⟩ rfl
  exact loop4 _ 0 (Nat.lt_succ_self _) (Nat.zero_le _)
set_option maxRecDepth 100000 in
set_option maxHeartbeats 4000000 in
theorem c_X7_skilledMembers {Γ : Ga} {l : Launch} {ω : Wo} {B : Nat} (hB : Bs B) {σ : Row} (hS : St ω B σ) {M : Int} (hI : RI M σ) (hWI : WI σ)  {sk : Int} (hsk : Rg sk) : CI Γ l yX7_skilledMembers cX7_skilledMembers 4 .int 0 [.ref (rl Γ B), .int (iI sk)] ω (fun z ω' => z = (skS σ sk : Int) ∧ ω = ω') := by
  refine Met.ofJ (k := 2) [some (.ref (rl Γ B)), some (.int (iI sk)), none, none] (by decide) rfl rfl rfl (fun p e s mm args below meth c C hrt => ?_)
  have g := hI.s
  have gc := hI.c
  have gM := hI.2.1
  refine j_iconst C dX7_skilledMembers_0 ?_
  refine j_istore2 C rfl dX7_skilledMembers_1 ?_
  refine j_iconst C dX7_skilledMembers_2 ?_
  refine j_istore3 C rfl dX7_skilledMembers_3 ?_
  have loop4 : ∀ (N : Nat) (k : Nat), (cM σ - k) < N → (k ≤ cM σ) → J Γ p l e (rmk 0 0 0) s mm args below meth c (MQ below (QI Γ (fun z ω' => z = (skS σ sk : Int) ∧ ω = ω')) args s 0 0 (gA Γ)) 243 0 0 4 [some (.ref (rl Γ B)), some (.int (iI sk)), some (.int (iI ((skUp σ sk k : Nat) : Int))), some (.int (iI ((k : Nat) : Int)))] [] ω := by
    intro N
    induction N with
    | zero => intro k hN; exact absurd hN (Nat.not_lt_zero _)
    | succ N ih4 =>
      intro k hN hi0
      have gl := hI.m k
      have go := fun h => p10 (skUp_lt σ sk k) h
      refine j_iload3 C dX7_skilledMembers_4 ?_
      refine j_aload0 C dX7_skilledMembers_5 ?_
      refine j_geti C fX7_29 (at_st hB) rfl hS.c3 dX7_skilledMembers_6 (fun hr6 => ?_)
      refine j_icmp_ge C ⟨by omega, by omega⟩ ⟨by omega, by omega⟩ dX7_skilledMembers_9 (fun hc9 => ?_) (fun hc9 => ?_)
      · -- 9 T
        refine j_iload2 C dX7_skilledMembers_37 ?_
        refine j_iret C hrt dX7_skilledMembers_38 ⟨by omega, by omega⟩ ?_
        have : k = cM σ := by omega
        subst this
        exact ⟨rfl, rfl⟩
      · -- 9 F
        refine j_aload0 C dX7_skilledMembers_12 ?_
        refine j_getr C fX7_11 (at_st hB) rfl hS.r.a0 dX7_skilledMembers_13 ?_
        refine j_iload3 C dX7_skilledMembers_16 ?_
        refine j_aald C (at_mA hB) rfl (Cn := RX4) rfl (N := 10) rfl (by decide) ⟨by omega, by omega⟩ (hS.r.m k (by omega)) dX7_skilledMembers_17 ?_
        refine j_geti C fX7_108 (at_m hB (by omega)) rfl (hS.m0 k (by omega)) dX7_skilledMembers_18 (fun hr18 => ?_)
        refine j_iload1 C dX7_skilledMembers_21 ?_
        refine j_icmp_lt C ⟨by omega, by omega⟩ ⟨by omega, by omega⟩ dX7_skilledMembers_22 (fun hc22 => ?_) (fun hc22 => ?_)
        · -- 22 T
          refine j_iinc3n C rfl dX7_skilledMembers_31 ?_
          refine j_goto C dX7_skilledMembers_34 ?_
          exact j_fg (ih4 (k + 1) (by omega) (by omega)) ⟨Or.inr rfl, Or.inr rfl, Or.inr (sN (by simp only [skUp]; first | rw [if_pos (by omega)] | (rw [if_neg (by omega)] <;> simp))), Or.inr rfl, trivial⟩ rfl
        · -- 22 F
          refine j_iload2 C dX7_skilledMembers_25 ?_
          refine j_iconstN C (k := 1) rfl dX7_skilledMembers_26 ?_
          refine j_iload3 C dX7_skilledMembers_27 ?_
          refine j_ishl1 C (by omega) dX7_skilledMembers_28 ?_
          refine j_ior C dX7_skilledMembers_29 ?_
          refine j_istore2 C rfl dX7_skilledMembers_30 ?_
          refine j_iinc3n C rfl dX7_skilledMembers_31 ?_
          refine j_goto C dX7_skilledMembers_34 ?_
          exact j_fg (ih4 (k + 1) (by omega) (by omega)) ⟨Or.inr rfl, Or.inr rfl, Or.inr (sN (by simp only [skUp]; first | rw [if_pos (by omega)] | (rw [if_neg (by omega)] <;> simp))), Or.inr rfl, trivial⟩ rfl
  exact loop4 _ 0 (Nat.lt_succ_self _) (Nat.zero_le _)
set_option maxRecDepth 100000 in
set_option maxHeartbeats 4000000 in
theorem c_X7_wearinessOf {Γ : Ga} {l : Launch} {ω : Wo} {B : Nat} (hB : Bs B) {σ : Row} (hS : St ω B σ) {M : Int} (hI : RI M σ) (hWI : WI σ)  {x : Nat} (hx : x < 2147483648) : CI Γ l yX7_wearinessOf cX7_wearinessOf 4 .int 1 [.ref (rl Γ B), .int (iI ((x : Int)))] ω (fun z ω' => z = wsUp σ x (cM σ) ∧ ω = ω') := by
  refine Met.ofJ (k := 2) [some (.ref (rl Γ B)), some (.int (iI ((x : Int)))), none, none] (by decide) rfl rfl rfl (fun p e s mm args below meth c C hrt => ?_)
  have g := hI.s
  have gc := hI.c
  have gM := hI.2.1
  refine j_iconst C dX7_wearinessOf_0 ?_
  refine j_istore2 C rfl dX7_wearinessOf_1 ?_
  refine j_iconst C dX7_wearinessOf_2 ?_
  refine j_istore3 C rfl dX7_wearinessOf_3 ?_
  have loop4 : ∀ (N : Nat) (k : Nat), (cM σ - k) < N → (k ≤ cM σ) → J Γ p l e (rmk 1 0 0) s mm args below meth c (MQ below (QI Γ (fun z ω' => z = wsUp σ x (cM σ) ∧ ω = ω')) args s 0 0 (gA Γ)) 243 0 0 4 [some (.ref (rl Γ B)), some (.int (iI ((x : Nat) : Int))), some (.int (iI (wsUp σ x k))), some (.int (iI ((k : Nat) : Int)))] [] ω := by
    intro N
    induction N with
    | zero => intro k hN; exact absurd hN (Nat.not_lt_zero _)
    | succ N ih4 =>
      intro k hN hi0
      have gl := hI.m k
      have go := fun h => wsUp_rg hI x k h
      refine j_iload3 C dX7_wearinessOf_4 ?_
      refine j_aload0 C dX7_wearinessOf_5 ?_
      refine j_geti C fX7_29 (at_st hB) rfl hS.c3 dX7_wearinessOf_6 (fun hr6 => ?_)
      refine j_icmp_ge C ⟨by omega, by omega⟩ ⟨by omega, by omega⟩ dX7_wearinessOf_9 (fun hc9 => ?_) (fun hc9 => ?_)
      · -- 9 T
        refine j_iload2 C dX7_wearinessOf_38 ?_
        refine j_iret C hrt dX7_wearinessOf_39 ⟨by omega, by omega⟩ ?_
        have : k = cM σ := by omega
        subst this
        exact ⟨rfl, rfl⟩
      · -- 9 F
        refine j_iload3 C dX7_wearinessOf_12 ?_
        refine j_iload1 C dX7_wearinessOf_13 ?_
        refine j_cNI2 (host := RX8) C (c_X8_isIn (by omega) (by omega)) oX8_isIn (List.mem_of_getElem? (i := 6) rfl) ⟨by decide, by decide⟩ rfl (Nat.le_of_ble_eq_true rfl) ⟨by decide, by decide⟩ dX7_wearinessOf_14 ?_
        rintro _ _ hz14 ⟨rfl, rfl⟩
        refine j_ifeqb C dX7_wearinessOf_17 (fun hc17 => ?_) (fun hc17 => ?_)
        · -- 17 T
          refine j_iload2 C dX7_wearinessOf_20 ?_
          refine j_aload0 C dX7_wearinessOf_21 ?_
          refine j_getr C fX7_11 (at_st hB) rfl hS.r.a0 dX7_wearinessOf_22 ?_
          refine j_iload3 C dX7_wearinessOf_25 ?_
          refine j_aald C (at_mA hB) rfl (Cn := RX4) rfl (N := 10) rfl (by decide) ⟨by omega, by omega⟩ (hS.r.m k (by omega)) dX7_wearinessOf_26 ?_
          refine j_geti C fX7_184 (at_m hB (by omega)) rfl (hS.m2 k (by omega)) dX7_wearinessOf_27 (fun hr27 => ?_)
          refine j_iadd C dX7_wearinessOf_30 ?_
          refine j_istore2 C rfl dX7_wearinessOf_31 ?_
          refine j_iinc3n C rfl dX7_wearinessOf_32 ?_
          refine j_goto C dX7_wearinessOf_35 ?_
          exact j_fg (ih4 (k + 1) (by omega) (by omega)) ⟨Or.inr rfl, Or.inr rfl, Or.inr (sI (by simp only [wsUp]; first | rw [if_pos (by omega)] | (rw [if_neg (by omega)] <;> simp))), Or.inr rfl, trivial⟩ rfl
        · -- 17 F
          refine j_iinc3n C rfl dX7_wearinessOf_32 ?_
          refine j_goto C dX7_wearinessOf_35 ?_
          exact j_fg (ih4 (k + 1) (by omega) (by omega)) ⟨Or.inr rfl, Or.inr rfl, Or.inr (sI (by simp only [wsUp]; first | rw [if_pos (by omega)] | (rw [if_neg (by omega)] <;> simp))), Or.inr rfl, trivial⟩ rfl
  exact loop4 _ 0 (Nat.lt_succ_self _) (Nat.zero_le _)
set_option maxRecDepth 100000 in
set_option maxHeartbeats 4000000 in
theorem c_X7_leastWearyOf {Γ : Ga} {l : Launch} {ω : Wo} {B : Nat} (hB : Bs B) {σ : Row} (hS : St ω B σ) {M : Int} (hI : RI M σ) (hWI : WI σ)  {x : Nat} (hx : x < 2147483648) : CI Γ l yX7_leastWearyOf cX7_leastWearyOf 5 .int 0 [.ref (rl Γ B), .int (iI ((x : Int)))] ω (fun z ω' => z = lst σ x 0 ∧ ω = ω') := by
  refine Met.ofJ (k := 3) [some (.ref (rl Γ B)), some (.int (iI ((x : Int)))), none, none, none] (by decide) rfl rfl rfl (fun p e s mm args below meth c C hrt => ?_)
  have g := hI.s
  have gc := hI.c
  have gM := hI.2.1
  refine j_iconst C dX7_leastWearyOf_0 ?_
  refine j_istore2 C rfl dX7_leastWearyOf_1 ?_
  refine j_iconst C dX7_leastWearyOf_2 ?_
  refine j_istore3 C rfl dX7_leastWearyOf_3 ?_
  have loop4 : ∀ (N : Nat) (k : Nat), (cM σ - k) < N → (k ≤ cM σ) → J Γ p l e (rmk 0 0 0) s mm args below meth c (MQ below (QI Γ (fun z ω' => z = lst σ x 0 ∧ ω = ω')) args s 0 0 (gA Γ)) 243 0 0 4 [some (.ref (rl Γ B)), some (.int (iI ((x : Nat) : Int))), some (.int (iI (lstUp σ x 0 k))), some (.int (iI ((k : Nat) : Int))), none] [] ω := by
    intro N
    induction N with
    | zero => intro k hN; exact absurd hN (Nat.not_lt_zero _)
    | succ N ih4 =>
      intro k hN hi0
      have gl := hI.m k
      have go := lstUp_rg σ x 0 k
      have hxa : x &&& 2 ^ k < 2147483648 := and_lt hx
      refine j_iload3 C dX7_leastWearyOf_4 ?_
      refine j_aload0 C dX7_leastWearyOf_5 ?_
      refine j_geti C fX7_29 (at_st hB) rfl hS.c3 dX7_leastWearyOf_6 (fun hr6 => ?_)
      refine j_icmp_ge C ⟨by omega, by omega⟩ ⟨by omega, by omega⟩ dX7_leastWearyOf_9 (fun hc9 => ?_) (fun hc9 => ?_)
      · -- 9 T
        refine j_iload2 C dX7_leastWearyOf_66 ?_
        refine j_iret C hrt dX7_leastWearyOf_67 ⟨by omega, by omega⟩ ?_
        have : k = cM σ := by omega
        subst this
        exact ⟨rfl, rfl⟩
      · -- 9 F
        refine j_iload1 C dX7_leastWearyOf_12 ?_
        refine j_iconstN C (k := 1) rfl dX7_leastWearyOf_13 ?_
        refine j_iload3 C dX7_leastWearyOf_14 ?_
        refine j_ishl1 C (by omega) dX7_leastWearyOf_15 ?_
        refine j_iand C dX7_leastWearyOf_16 ?_
        refine j_if_eq C ⟨by omega, by omega⟩ dX7_leastWearyOf_17 (fun hc17 => ?_) (fun hc17 => ?_)
        · -- 17 T
          have hbt : ¬ x / 2 ^ k % 2 = 1 := fun q => and_pow.mpr q (by omega)
          refine j_iconst C dX7_leastWearyOf_24 ?_
          refine j_istore4 C rfl dX7_leastWearyOf_25 ?_
          refine j_iload4 C dX7_leastWearyOf_27 ?_
          refine j_if_eq C (by decide) dX7_leastWearyOf_29 (fun _ => ?_) (fun hc => absurd hc (by decide))
          refine j_iinc3n C rfl dX7_leastWearyOf_60 ?_
          refine j_goto C dX7_leastWearyOf_63 ?_
          exact j_fg (ih4 (k + 1) (by omega) (by omega)) ⟨Or.inr rfl, Or.inr rfl, Or.inr (sI (by simp only [lstUp]; first | rw [if_pos ⟨⟨by omega, by omega⟩, by omega⟩] | rw [if_neg (by omega)])), Or.inr rfl, Or.inl rfl, trivial⟩ rfl
        · -- 17 F
          have hbt : x / 2 ^ k % 2 = 1 := and_pow.mp (by omega)
          refine j_iconst C dX7_leastWearyOf_20 ?_
          refine j_goto C dX7_leastWearyOf_21 ?_
          refine j_istore4 C rfl dX7_leastWearyOf_25 ?_
          refine j_iload4 C dX7_leastWearyOf_27 ?_
          refine j_if_eq C (by decide) dX7_leastWearyOf_29 (fun hc => absurd hc (by decide)) (fun _ => ?_)
          refine j_iload2 C dX7_leastWearyOf_32 ?_
          refine j_iconst C dX7_leastWearyOf_33 ?_
          refine j_icmp_eq C ⟨by omega, by omega⟩ ⟨by omega, by omega⟩ dX7_leastWearyOf_34 (fun hc34 => ?_) (fun hc34 => ?_)
          · -- 34 T
            refine j_iload3 C dX7_leastWearyOf_58 ?_
            refine j_istore2 C rfl dX7_leastWearyOf_59 ?_
            refine j_iinc3n C rfl dX7_leastWearyOf_60 ?_
            refine j_goto C dX7_leastWearyOf_63 ?_
            exact j_fg (ih4 (k + 1) (by omega) (by omega)) ⟨Or.inr rfl, Or.inr rfl, Or.inr (sI (by simp only [lstUp]; first | rw [if_pos ⟨⟨by omega, by omega⟩, by omega⟩] | rw [if_neg (by omega)])), Or.inr rfl, Or.inl rfl, trivial⟩ rfl
          · -- 34 F
            obtain ⟨j, hj⟩ := Int.eq_ofNat_of_zero_le (show 0 ≤ lstUp σ x 0 k by omega)
            have glj := hI.m j
            have hj2 : sM σ (lstUp σ x 0 k) 2 = sM σ j 2 := by rw [hj]
            refine j_aload0 C dX7_leastWearyOf_37 ?_
            refine j_getr C fX7_11 (at_st hB) rfl hS.r.a0 dX7_leastWearyOf_38 ?_
            refine j_iload3 C dX7_leastWearyOf_41 ?_
            refine j_aald C (at_mA hB) rfl (Cn := RX4) rfl (N := 10) rfl (by decide) ⟨by omega, by omega⟩ (hS.r.m k (by omega)) dX7_leastWearyOf_42 ?_
            refine j_geti C fX7_184 (at_m hB (by omega)) rfl (hS.m2 k (by omega)) dX7_leastWearyOf_43 (fun hr43 => ?_)
            refine j_aload0 C dX7_leastWearyOf_46 ?_
            refine j_getr C fX7_11 (at_st hB) rfl hS.r.a0 dX7_leastWearyOf_47 ?_
            refine j_iload2 C dX7_leastWearyOf_50 ?_
            refine j_aald C (at_mA hB) rfl (Cn := RX4) rfl (N := 10) rfl (by decide) ⟨by omega, by omega⟩ (by rw [hj]; exact hS.r.m j (by omega)) dX7_leastWearyOf_51 ?_
            refine j_geti C fX7_184 (at_m hB (by omega)) rfl (hS.m2 j (by omega)) dX7_leastWearyOf_52 (fun hr52 => ?_)
            refine j_icmp_ge C ⟨by omega, by omega⟩ ⟨by omega, by omega⟩ dX7_leastWearyOf_55 (fun hc55 => ?_) (fun hc55 => ?_)
            · -- 55 T
              refine j_iinc3n C rfl dX7_leastWearyOf_60 ?_
              refine j_goto C dX7_leastWearyOf_63 ?_
              exact j_fg (ih4 (k + 1) (by omega) (by omega)) ⟨Or.inr rfl, Or.inr rfl, Or.inr (sI (by simp only [lstUp]; first | rw [if_pos ⟨⟨by omega, by omega⟩, by omega⟩] | rw [if_neg (by omega)])), Or.inr rfl, Or.inl rfl, trivial⟩ rfl
            · -- 55 F
              refine j_iload3 C dX7_leastWearyOf_58 ?_
              refine j_istore2 C rfl dX7_leastWearyOf_59 ?_
              refine j_iinc3n C rfl dX7_leastWearyOf_60 ?_
              refine j_goto C dX7_leastWearyOf_63 ?_
              exact j_fg (ih4 (k + 1) (by omega) (by omega)) ⟨Or.inr rfl, Or.inr rfl, Or.inr (sI (by simp only [lstUp]; first | rw [if_pos ⟨⟨by omega, by omega⟩, by omega⟩] | rw [if_neg (by omega)])), Or.inr rfl, Or.inl rfl, trivial⟩ rfl
  exact j_fg (loop4 _ 0 (Nat.lt_succ_self _) (Nat.zero_le _)) ⟨Or.inr rfl, Or.inr rfl, Or.inr rfl, Or.inr rfl, Or.inr rfl, trivial⟩ rfl
