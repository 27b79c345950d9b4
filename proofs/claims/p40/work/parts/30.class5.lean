set_option maxRecDepth 100000 in
set_option maxHeartbeats 4000000 in
theorem c_X7_setLimit {Γ : Ga} {l : Launch} {ω : Wo} {B : Nat} (hB : Bs B) {σ : Row} (hS : St ω B σ) {M : Int} (hI : RI M σ) (hWI : WI σ) (hM : M + 3000 ≤ 100000000)  {a : Int} (ha : 1 ≤ a ∧ a ≤ 20) : CI Γ l yX7_setLimit cX7_setLimit 3 .int 0 [.ref (rl Γ B), .int (iI a)] ω (fun z ω' => z = σ 7 ∧ Fr B ω ω' ∧ St ω' B (up σ 7 a)) := by
  refine Met.ofJ (k := 1) [some (.ref (rl Γ B)), some (.int (iI a)), none] (by decide) rfl rfl rfl (fun p e s mm args below meth c C hrt => ?_)
  have g := hI.s
  have gc := hI.c
  have gM := hI.2.1
  refine j_aload0 C dX7_setLimit_0 ?_
  refine j_geti C fX7_42 (at_st hB) rfl hS.c7 dX7_setLimit_1 (fun hr1 => ?_)
  refine j_istore2 C rfl dX7_setLimit_4 ?_
  refine j_aload0 C dX7_setLimit_5 ?_
  refine j_iload1 C dX7_setLimit_6 ?_
  refine j_putc7 C fX7_42 hB hS (by omega) ⟨by omega, by omega⟩ dX7_setLimit_7 (fun W1 hS1 hF1 hK1 => ?_)
  refine j_iload2 C dX7_setLimit_10 ?_
  refine j_iret C hrt dX7_setLimit_11 ⟨by omega, by omega⟩ ?_
  exact ⟨rfl, hF1, hS1⟩
set_option maxRecDepth 100000 in
set_option maxHeartbeats 4000000 in
theorem c_X7_raiseSkill {Γ : Ga} {l : Launch} {ω : Wo} {B : Nat} (hB : Bs B) {σ : Row} (hS : St ω B σ) {M : Int} (hI : RI M σ) (hWI : WI σ) (hM : M + 3000 ≤ 100000000)  {k : Nat} (hk : k < cM σ) : CI Γ l yX7_raiseSkill cX7_raiseSkill 2 .int 0 [.ref (rl Γ B), .int (iI ((k : Int)))] ω (fun z ω' => z = sM σ k 0 + 1 ∧ Fr B ω ω' ∧ St ω' B (up σ (8 + 7 * k + 0) (sM σ k 0 + 1))) := by
  refine Met.ofJ (k := 0) [some (.ref (rl Γ B)), some (.int (iI ((k : Int))))] (by decide) rfl rfl rfl (fun p e s mm args below meth c C hrt => ?_)
  have g := hI.s
  have gc := hI.c
  have gM := hI.2.1
  have gm := hI.m k (by omega)
  refine j_aload0 C dX7_raiseSkill_0 ?_
  refine j_getr C fX7_11 (at_st hB) rfl hS.r.a0 dX7_raiseSkill_1 ?_
  refine j_iload1 C dX7_raiseSkill_4 ?_
  refine j_aald C (at_mA hB) rfl (Cn := RX4) rfl (N := 10) rfl (by decide) ⟨by omega, by omega⟩ (hS.r.m k (by omega)) dX7_raiseSkill_5 ?_
  refine j_dup C rfl dX7_raiseSkill_6 ?_
  refine j_geti C fX7_108 (at_m hB (by omega)) rfl (hS.m0 k (by omega)) dX7_raiseSkill_7 (fun hr7 => ?_)
  refine j_iconst C dX7_raiseSkill_10 ?_
  refine j_iadd C dX7_raiseSkill_11 ?_
  refine j_putm0 C fX7_108 hB hS (k := k) (by omega) (by omega) ⟨by omega, by omega⟩ dX7_raiseSkill_12 (fun W1 hS1 hF1 hK1 => ?_)
  refine j_aload0 C dX7_raiseSkill_15 ?_
  refine j_getr C fX7_11 (at_st hB) rfl hS1.r.a0 dX7_raiseSkill_16 ?_
  refine j_iload1 C dX7_raiseSkill_19 ?_
  refine j_aald C (at_mA hB) rfl (Cn := RX4) rfl (N := 10) rfl (by decide) ⟨by omega, by omega⟩ (hS1.r.m k (by omega)) dX7_raiseSkill_20 ?_
  refine j_geti C fX7_108 (at_m hB (by omega)) rfl (hS1.m0 k (by omega)) dX7_raiseSkill_21 (fun hr21 => ?_)
  rw [sM_ue (by omega)] at hr21 ⊢
  refine j_iret C hrt dX7_raiseSkill_24 ⟨by omega, by omega⟩ ?_
  exact ⟨rfl, hF1, hS1⟩
set_option maxRecDepth 100000 in
set_option maxHeartbeats 4000000 in
theorem c_X7_letGo {Γ : Ga} {l : Launch} {ω : Wo} {B : Nat} (hB : Bs B) {σ : Row} (hS : St ω B σ) {M : Int} (hI : RI M σ) (hWI : WI σ) (hM : M + 3000 ≤ 100000000)  {k : Nat} (hk : k < cM σ) (h0 : sM σ k 1 ≠ 1) : CI Γ l yX7_letGo cX7_letGo 2 .int 2 [.ref (rl Γ B), .int (iI ((k : Int)))] ω (fun z ω' => z = stayN (up σ (8 + 7 * k + 1) 2) ∧ Fr B ω ω' ∧ St ω' B (up σ (8 + 7 * k + 1) 2)) := by
  refine Met.ofJ (k := 0) [some (.ref (rl Γ B)), some (.int (iI ((k : Int))))] (by decide) rfl rfl rfl (fun p e s mm args below meth c C hrt => ?_)
  have g := hI.s
  have gc := hI.c
  have gM := hI.2.1
  have hI2 := hI.sm1 (m := k) (by omega) (v := 2) (by decide)
  rw [tM1] at hI2
  have hW2 := WI_leave hI hWI hk h0
  have hst := stS_lt hI2
  have hgs := stayUp_rg (up σ (8 + 7 * k + 1) 2) (cM (up σ (8 + 7 * k + 1) 2))
  have hg2 : stayN (up σ (8 + 7 * k + 1) 2) = stayUp (up σ (8 + 7 * k + 1) 2) (cM (up σ (8 + 7 * k + 1) 2)) := rfl
  have gc2 := hI2.c
  refine j_aload0 C dX7_letGo_0 ?_
  refine j_getr C fX7_11 (at_st hB) rfl hS.r.a0 dX7_letGo_1 ?_
  refine j_iload1 C dX7_letGo_4 ?_
  refine j_aald C (at_mA hB) rfl (Cn := RX4) rfl (N := 10) rfl (by decide) ⟨by omega, by omega⟩ (hS.r.m k (by omega)) dX7_letGo_5 ?_
  refine j_bipush C (by decide) dX7_letGo_6 ?_
  refine j_putm1 C fX7_84 hB hS (k := k) (by omega) (by omega) (t' := up σ (8 + 7 * k + 1) 2) (fun y h1 h3 => up_ne _ _ h1) (by unfold plc; rw [sM_ue (by omega)]; rfl) ⟨by omega, by omega⟩ dX7_letGo_8 (fun W1 hS1 hF1 hK1 => ?_)
  refine j_aload0 C dX7_letGo_11 ?_
  refine j_cVI0 C (c_X7_staying hB (by exact hS1) (by exact hI2) (by exact hW2)) oX7_staying kX7_91 ⟨_, rfl, rfl⟩ (at_st hB) ⟨by decide, by decide⟩ rfl (Nat.le_of_ble_eq_true rfl) ⟨by decide, by decide⟩ dX7_letGo_12 ?_
  rintro _ _ hz12 ⟨rfl, rfl⟩
  refine j_cSI1 C (c_J6_bitCount hst) oJ6_bitCount_0f7a4 kX7_95 ⟨by decide, by decide⟩ rfl (Nat.le_of_ble_eq_true rfl) ⟨by decide, by decide⟩ dX7_letGo_15 ?_
  rintro _ _ hz15 ⟨rfl, rfl⟩
  rw [bits_stay hI2 hW2] at hz15 ⊢
  refine j_iret C hrt dX7_letGo_18 ⟨by omega, by omega⟩ ?_
  exact ⟨rfl, hF1, hS1⟩
set_option maxRecDepth 100000 in
set_option maxHeartbeats 4000000 in
theorem c_X7_tireMembers {Γ : Ga} {l : Launch} {ω : Wo} {B : Nat} (hB : Bs B) {σ : Row} (hS : St ω B σ) {M : Int} (hI : RI M σ) (hWI : WI σ) (hM : M + 100 ≤ 100000000)   : CV Γ l yX7_tireMembers cX7_tireMembers 3 1 [.ref (rl Γ B)] ω (fun ω' => Fr B ω ω' ∧ St ω' B (memsUp σ (cM σ))) := by
  refine Met.ofJ (k := 2) [some (.ref (rl Γ B)), none, none] (by decide) rfl rfl rfl (fun p e s mm args below meth c C hrt => ?_)
  have g := hI.s
  have gc := hI.c
  have gM := hI.2.1
  refine j_iconst C dX7_tireMembers_0 ?_
  refine j_istore1 C rfl dX7_tireMembers_1 ?_
  have loop2 : ∀ (N : Nat) (k : Nat) (W : Wo), (cM σ - k) < N → (k ≤ cM σ) → (St W B (memsUp σ k)) → (Fr B ω W) → J Γ p l e (rmk 1 0 0) s mm args below meth c (MQ below (QV Γ (fun ω' => Fr B ω ω' ∧ St ω' B (memsUp σ (cM σ)))) args s 0 0 (gA Γ)) 243 0 0 2 [some (.ref (rl Γ B)), some (.int (iI ((k : Nat) : Int))), none] [] W := by
    intro N
    induction N with
    | zero => intro k W hN; exact absurd hN (Nat.not_lt_zero _)
    | succ N ih2 =>
      intro k W hN hk0 hSW hFW
      have hIk := memsUp_RI hI k (by omega) (by omega)
      have ek : memsUp σ k 1 = σ 1 := memsUp_at k 1 (fun j _ => by omega)
      have ekM : cM (memsUp σ k) = cM σ := cM_e ek
      have hcc := hIk.cc
      have gk := fun h : k < 10 => hIk.m k (by omega)
      have hWk : WI (memsUp σ k) := WI_same hI hWI ek (memsUp_at _ _ (fun j hj => by omega)) (fun i a b => ⟨memsUp_at _ _ (fun j hj => by omega), memsUp_at _ _ (fun j hj => by omega), memsUp_at _ _ (fun j hj => by omega)⟩) (fun j hj => memsUp_IS _ _ j)
      have gw := fun h : k < cM σ => plc_w hIk hWk (k := k) (by omega)
      have ek2 : memsUp σ k 2 = σ 2 := memsUp_at k 2 (fun j _ => by omega)
      refine j_iload1 C dX7_tireMembers_2 ?_
      refine j_aload0 C dX7_tireMembers_3 ?_
      refine j_geti C fX7_29 (at_st hB) rfl hSW.c3 dX7_tireMembers_4 (fun hr4 => ?_)
      refine j_icmp_ge C ⟨by omega, by omega⟩ ⟨by omega, by omega⟩ dX7_tireMembers_7 (fun hc7 => ?_) (fun hc7 => ?_)
      · -- 7 T
        refine j_vret C hrt dX7_tireMembers_98 ?_
        have : k = cM σ := by omega
        subst this
        exact ⟨hFW, hSW⟩
      · -- 7 F
        refine j_aload0 C dX7_tireMembers_10 ?_
        refine j_getr C fX7_11 (at_st hB) rfl hSW.r.a0 dX7_tireMembers_11 ?_
        refine j_iload1 C dX7_tireMembers_14 ?_
        refine j_aald C (at_mA hB) rfl (Cn := RX4) rfl (N := 10) rfl (by decide) ⟨by omega, by omega⟩ (hSW.r.m k (by omega)) dX7_tireMembers_15 ?_
        refine j_astore2 C rfl dX7_tireMembers_16 ?_
        refine j_aload2 C dX7_tireMembers_17 ?_
        refine j_cVI0 C (c_X4_isOut (at_m hB (by omega)) (hSW.m1 k (by omega))) oX4_isOut kX7_87 ⟨_, rfl, rfl⟩ (at_m hB (by omega)) ⟨by decide, by decide⟩ rfl (Nat.le_of_ble_eq_true rfl) ⟨by decide, by decide⟩ dX7_tireMembers_18 ?_
        rintro _ _ hz18 ⟨rfl, rfl⟩
        refine j_ifeqb C dX7_tireMembers_21 (fun hc21 => ?_) (fun hc21 => ?_)
        · -- 21 T
          have gk1 := gk (by omega)
          have gw1 := gw (by omega)
          have gw1 : sM (memsUp σ k) k 1 = 1 ∧ 0 ≤ plc (memsUp σ k) k ∧ plc (memsUp σ k) k = sM (memsUp σ k) k 3 ∧ plc (memsUp σ k) k < memsUp σ k 2 := by omega
          obtain ⟨b3, hb3⟩ := Int.eq_ofNat_of_zero_le gw1.2.1
          have ekB : cB (memsUp σ k) = cB σ := cB_e ek2
          refine j_aload2 C dX7_tireMembers_24 ?_
          refine j_dup C rfl dX7_tireMembers_25 ?_
          refine j_geti C fX7_184 (at_m hB (by omega)) rfl (hSW.m2 k (by omega)) dX7_tireMembers_26 (fun hr26 => ?_)
          refine j_aload0 C dX7_tireMembers_29 ?_
          refine j_getr C fX7_19 (at_st hB) rfl hSW.r.a1 dX7_tireMembers_30 ?_
          refine j_aload2 C dX7_tireMembers_33 ?_
          refine j_geti C fX7_84 (at_m hB (by omega)) rfl (hSW.m1 k (by omega)) dX7_tireMembers_34 (fun hr34 => ?_)
          refine j_aald C (at_bA hB) rfl (Cn := RX1) rfl (N := 3) rfl (by decide) ⟨by omega, by omega⟩ (by rw [hb3]; exact hSW.r.b b3 (by omega)) dX7_tireMembers_37 ?_
          refine j_geti C fX7_158 (at_b hB (by omega)) rfl (hSW.b2 b3 (by omega)) dX7_tireMembers_38 (fun hr38 => ?_)
          refine j_iload1 C dX7_tireMembers_41 ?_
          refine j_icmp_ne C ⟨by omega, by omega⟩ ⟨by omega, by omega⟩ dX7_tireMembers_42 (fun hc42 => ?_) (fun hc42 => ?_)
          · -- 42 T
            refine j_iconst C dX7_tireMembers_49 ?_
            refine j_iadd C dX7_tireMembers_50 ?_
            refine j_putm2 C fX7_184 hB hSW (k := k) (by omega) (by omega) ⟨by omega, by omega⟩ dX7_tireMembers_51 (fun W1 hS1 hF1 hK1 => ?_)
            refine j_aload2 C dX7_tireMembers_54 ?_
            refine j_dup C rfl dX7_tireMembers_55 ?_
            refine j_geti C fX7_187 (at_m hB (by omega)) rfl (hS1.m3 k (by omega)) dX7_tireMembers_56 (fun hr56 => ?_)
            rw [sM_up (by omega)] at hr56 ⊢
            refine j_iconst C dX7_tireMembers_59 ?_
            refine j_iadd C dX7_tireMembers_60 ?_
            refine j_putm3 C fX7_187 hB hS1 (k := k) (by omega) (by omega) ⟨by omega, by omega⟩ dX7_tireMembers_61 (fun W2 hS2 hF2 hK2 => ?_)
            refine j_goto C dX7_tireMembers_64 ?_
            refine j_iinc1n C rfl dX7_tireMembers_92 ?_
            refine j_goto C dX7_tireMembers_95 ?_
            first
            | exact j_fg (ih2 (k + 1) W2 (by omega) (by omega) (by have e : memsUp σ (k + 1) = memGo (memsUp σ k) k := rfl; rw [e]; unfold memGo; rw [if_pos (by omega)]; first | (rw [if_pos (by rw [← gw1.2.2.1, hb3]; omega)]; exact hS2) | (rw [if_neg (by rw [← gw1.2.2.1, hb3]; omega)]; exact hS2)) (hFW.tr (hF1.tr hF2))) ⟨Or.inr rfl, Or.inr rfl, Or.inl rfl, trivial⟩ rfl
            | exact j_fg (ih2 (k + 1) W2 (by omega) (by omega) (by have e : memsUp σ (k + 1) = memGo (memsUp σ k) k := rfl; rw [e]; unfold memGo; rw [if_neg (by omega), if_pos (by omega), show max 0 (sM (memsUp σ k) k 2 - 1) = sM (memsUp σ k) k 2 - 1 by omega]; exact hS2) (hFW.tr hF2)) ⟨Or.inr rfl, Or.inr rfl, Or.inl rfl, trivial⟩ rfl
            | exact j_fg (ih2 (k + 1) W (by omega) (by omega) (by have e : memsUp σ (k + 1) = memGo (memsUp σ k) k := rfl; rw [e]; unfold memGo; rw [if_neg (by omega)]; first | (rw [if_neg (by omega)]; exact hSW) | (rw [if_pos (by omega), show max 0 (sM (memsUp σ k) k 2 - 1) = sM (memsUp σ k) k 2 by omega, show up (memsUp σ k) (8 + 7 * k + 2) (sM (memsUp σ k) k 2) = memsUp σ k from up_id' (by rw [eM2])]; exact hSW)) hFW) ⟨Or.inr rfl, Or.inr rfl, Or.inl rfl, trivial⟩ rfl
          · -- 42 F
            refine j_iconst C dX7_tireMembers_45 ?_
            refine j_goto C dX7_tireMembers_46 ?_
            refine j_iadd C dX7_tireMembers_50 ?_
            refine j_putm2 C fX7_184 hB hSW (k := k) (by omega) (by omega) ⟨by omega, by omega⟩ dX7_tireMembers_51 (fun W3 hS3 hF3 hK3 => ?_)
            refine j_aload2 C dX7_tireMembers_54 ?_
            refine j_dup C rfl dX7_tireMembers_55 ?_
            refine j_geti C fX7_187 (at_m hB (by omega)) rfl (hS3.m3 k (by omega)) dX7_tireMembers_56 (fun hr56 => ?_)
            rw [sM_up (by omega)] at hr56 ⊢
            refine j_iconst C dX7_tireMembers_59 ?_
            refine j_iadd C dX7_tireMembers_60 ?_
            refine j_putm3 C fX7_187 hB hS3 (k := k) (by omega) (by omega) ⟨by omega, by omega⟩ dX7_tireMembers_61 (fun W4 hS4 hF4 hK4 => ?_)
            refine j_goto C dX7_tireMembers_64 ?_
            refine j_iinc1n C rfl dX7_tireMembers_92 ?_
            refine j_goto C dX7_tireMembers_95 ?_
            first
            | exact j_fg (ih2 (k + 1) W4 (by omega) (by omega) (by have e : memsUp σ (k + 1) = memGo (memsUp σ k) k := rfl; rw [e]; unfold memGo; rw [if_pos (by omega)]; first | (rw [if_pos (by rw [← gw1.2.2.1, hb3]; omega)]; exact hS4) | (rw [if_neg (by rw [← gw1.2.2.1, hb3]; omega)]; exact hS4)) (hFW.tr (hF3.tr hF4))) ⟨Or.inr rfl, Or.inr rfl, Or.inl rfl, trivial⟩ rfl
            | exact j_fg (ih2 (k + 1) W4 (by omega) (by omega) (by have e : memsUp σ (k + 1) = memGo (memsUp σ k) k := rfl; rw [e]; unfold memGo; rw [if_neg (by omega), if_pos (by omega), show max 0 (sM (memsUp σ k) k 2 - 1) = sM (memsUp σ k) k 2 - 1 by omega]; exact hS4) (hFW.tr hF4)) ⟨Or.inr rfl, Or.inr rfl, Or.inl rfl, trivial⟩ rfl
            | exact j_fg (ih2 (k + 1) W (by omega) (by omega) (by have e : memsUp σ (k + 1) = memGo (memsUp σ k) k := rfl; rw [e]; unfold memGo; rw [if_neg (by omega)]; first | (rw [if_neg (by omega)]; exact hSW) | (rw [if_pos (by omega), show max 0 (sM (memsUp σ k) k 2 - 1) = sM (memsUp σ k) k 2 by omega, show up (memsUp σ k) (8 + 7 * k + 2) (sM (memsUp σ k) k 2) = memsUp σ k from up_id' (by rw [eM2])]; exact hSW)) hFW) ⟨Or.inr rfl, Or.inr rfl, Or.inl rfl, trivial⟩ rfl
        · -- 21 F
          have gk1 := gk (by omega)
          have gw1 := gw (by omega)
          refine j_aload2 C dX7_tireMembers_67 ?_
          refine j_geti C fX7_84 (at_m hB (by omega)) rfl (hSW.m1 k (by omega)) dX7_tireMembers_68 (fun hr68 => ?_)
          refine j_iconst C dX7_tireMembers_71 ?_
          refine j_icmp_ne C ⟨by omega, by omega⟩ ⟨by omega, by omega⟩ dX7_tireMembers_72 (fun hc72 => ?_) (fun hc72 => ?_)
          · -- 72 T
            refine j_iinc1n C rfl dX7_tireMembers_92 ?_
            refine j_goto C dX7_tireMembers_95 ?_
            first
            | exact j_fg (ih2 (k + 1) W (by omega) (by omega) (by have e : memsUp σ (k + 1) = memGo (memsUp σ k) k := rfl; rw [e]; unfold memGo; rw [if_neg (by omega)]; first | (rw [if_neg (by omega)]; exact hSW) | (rw [if_pos (by omega), show max 0 (sM (memsUp σ k) k 2 - 1) = sM (memsUp σ k) k 2 by omega, show up (memsUp σ k) (8 + 7 * k + 2) (sM (memsUp σ k) k 2) = memsUp σ k from up_id' (by rw [eM2])]; exact hSW)) hFW) ⟨Or.inr rfl, Or.inr rfl, Or.inl rfl, trivial⟩ rfl
          · -- 72 F
            refine j_aload2 C dX7_tireMembers_75 ?_
            refine j_geti C fX7_184 (at_m hB (by omega)) rfl (hSW.m2 k (by omega)) dX7_tireMembers_76 (fun hr76 => ?_)
            refine j_if_le C ⟨by omega, by omega⟩ dX7_tireMembers_79 (fun hc79 => ?_) (fun hc79 => ?_)
            · -- 79 T
              refine j_iinc1n C rfl dX7_tireMembers_92 ?_
              refine j_goto C dX7_tireMembers_95 ?_
              first
              | exact j_fg (ih2 (k + 1) W (by omega) (by omega) (by have e : memsUp σ (k + 1) = memGo (memsUp σ k) k := rfl; rw [e]; unfold memGo; rw [if_neg (by omega)]; first | (rw [if_neg (by omega)]; exact hSW) | (rw [if_pos (by omega), show max 0 (sM (memsUp σ k) k 2 - 1) = sM (memsUp σ k) k 2 by omega, show up (memsUp σ k) (8 + 7 * k + 2) (sM (memsUp σ k) k 2) = memsUp σ k from up_id' (by rw [eM2])]; exact hSW)) hFW) ⟨Or.inr rfl, Or.inr rfl, Or.inl rfl, trivial⟩ rfl
            · -- 79 F
              refine j_aload2 C dX7_tireMembers_82 ?_
              refine j_dup C rfl dX7_tireMembers_83 ?_
              refine j_geti C fX7_184 (at_m hB (by omega)) rfl (hSW.m2 k (by omega)) dX7_tireMembers_84 (fun hr84 => ?_)
              refine j_iconst C dX7_tireMembers_87 ?_
              refine j_isub C dX7_tireMembers_88 ?_
              refine j_putm2 C fX7_184 hB hSW (k := k) (by omega) (by omega) ⟨by omega, by omega⟩ dX7_tireMembers_89 (fun W5 hS5 hF5 hK5 => ?_)
              refine j_iinc1n C rfl dX7_tireMembers_92 ?_
              refine j_goto C dX7_tireMembers_95 ?_
              first
              | exact j_fg (ih2 (k + 1) W5 (by omega) (by omega) (by have e : memsUp σ (k + 1) = memGo (memsUp σ k) k := rfl; rw [e]; unfold memGo; rw [if_pos (by omega)]; first | (rw [if_pos (by rw [← gw1.2.2.1, hb3]; omega)]; exact hS5) | (rw [if_neg (by rw [← gw1.2.2.1, hb3]; omega)]; exact hS5)) (hFW.tr (hF4.tr hF5))) ⟨Or.inr rfl, Or.inr rfl, Or.inl rfl, trivial⟩ rfl
              | exact j_fg (ih2 (k + 1) W5 (by omega) (by omega) (by have e : memsUp σ (k + 1) = memGo (memsUp σ k) k := rfl; rw [e]; unfold memGo; rw [if_neg (by omega), if_pos (by omega), show max 0 (sM (memsUp σ k) k 2 - 1) = sM (memsUp σ k) k 2 - 1 by omega]; exact hS5) (hFW.tr hF5)) ⟨Or.inr rfl, Or.inr rfl, Or.inl rfl, trivial⟩ rfl
              | exact j_fg (ih2 (k + 1) W (by omega) (by omega) (by have e : memsUp σ (k + 1) = memGo (memsUp σ k) k := rfl; rw [e]; unfold memGo; rw [if_neg (by omega)]; first | (rw [if_neg (by omega)]; exact hSW) | (rw [if_pos (by omega), show max 0 (sM (memsUp σ k) k 2 - 1) = sM (memsUp σ k) k 2 by omega, show up (memsUp σ k) (8 + 7 * k + 2) (sM (memsUp σ k) k 2) = memsUp σ k from up_id' (by rw [eM2])]; exact hSW)) hFW) ⟨Or.inr rfl, Or.inr rfl, Or.inl rfl, trivial⟩ rfl
  exact j_fg (loop2 _ 0 ω (Nat.lt_succ_self _) (Nat.zero_le _) hS Fr.rf) ⟨Or.inr rfl, Or.inr rfl, Or.inr rfl, trivial⟩ rfl
