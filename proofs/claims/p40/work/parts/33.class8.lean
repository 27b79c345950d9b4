set_option maxRecDepth 100000 in
set_option maxHeartbeats 4000000 in
theorem c_X7_passHours {Γ : Ga} {l : Launch} {ω : Wo} {B : Nat} (hB : Bs B) {σ : Row} (hS : St ω B σ) {M : Int} (hI : RI M σ) (hWI : WI σ) (hM : M + 3200 ≤ 100000000)  {a : Int} (ha : 0 ≤ a ∧ a ≤ 99) : CI Γ l yX7_passHours cX7_passHours 4 .int 3 [.ref (rl Γ B), .int (iI a)] ω (fun z ω' => z = hoursUp σ a.toNat 5 - σ 5 ∧ Fr B ω ω' ∧ St ω' B (hoursUp σ a.toNat)) := by
  refine Met.ofJ (k := 2) [some (.ref (rl Γ B)), some (.int (iI a)), none, none] (by decide) rfl rfl rfl (fun p e s mm args below meth c C hrt => ?_)
  have g := hI.s
  have gc := hI.c
  have gM := hI.2.1
  refine j_aload0 C dX7_passHours_0 ?_
  refine j_geti C fX7_48 (at_st hB) rfl hS.c9 dX7_passHours_1 (fun hr1 => ?_)
  refine j_istore2 C rfl dX7_passHours_4 ?_
  refine j_iconst C dX7_passHours_5 ?_
  refine j_istore3 C rfl dX7_passHours_6 ?_
  have loop7 : ∀ (N : Nat) (k : Nat) (W : Wo), (a.toNat - k) < N → (k ≤ a.toNat) → (St W B (hoursUp σ k)) → (Fr B ω W) → J Γ p l e (rmk 3 0 0) s mm args below meth c (MQ below (QI Γ (fun z ω' => z = hoursUp σ a.toNat 5 - σ 5 ∧ Fr B ω ω' ∧ St ω' B (hoursUp σ a.toNat))) args s 0 0 (gA Γ)) 243 0 0 7 [some (.ref (rl Γ B)), some (.int (iI a)), some (.int (iI (σ 5))), some (.int (iI ((k : Nat) : Int)))] [] W := by
    intro N
    induction N with
    | zero => intro k W hN; exact absurd hN (Nat.not_lt_zero _)
    | succ N ih7 =>
      intro k W hN hk0 hSW hFW
      have hIk := hoursUp_RI hI k (by omega)
      have hWk := WI_hours hI hWI k (by omega)
      obtain ⟨p1, w1, p2, w2, p3, w3⟩ := hour_parts hIk hWk (by omega)
      have gk := hIk.s
      have hcc := hIk.cc
      refine j_iload3 C dX7_passHours_7 ?_
      refine j_iload1 C dX7_passHours_8 ?_
      refine j_icmp_ge C ⟨by omega, by omega⟩ ⟨by omega, by omega⟩ dX7_passHours_9 (fun hc9 => ?_) (fun hc9 => ?_)
      · -- 9 T
        refine j_aload0 C dX7_passHours_40 ?_
        refine j_geti C fX7_48 (at_st hB) rfl hSW.c9 dX7_passHours_41 (fun hr41 => ?_)
        refine j_iload2 C dX7_passHours_44 ?_
        refine j_isub C dX7_passHours_45 ?_
        refine j_iret C hrt dX7_passHours_46 ⟨by omega, by omega⟩ ?_
        have hk9 : k = a.toNat := by omega
        subst hk9
        exact ⟨rfl, hFW, hSW⟩
      · -- 9 F
        refine j_aload0 C dX7_passHours_12 ?_
        refine j_dup C rfl dX7_passHours_13 ?_
        refine j_geti C fX7_39 (at_st hB) rfl hSW.c6 dX7_passHours_14 (fun hr14 => ?_)
        refine j_iconst C dX7_passHours_17 ?_
        refine j_iadd C dX7_passHours_18 ?_
        refine j_putc6 C fX7_39 hB hSW (by omega) ⟨by omega, by omega⟩ dX7_passHours_19 (fun W1 hS1 hF1 hK1 => ?_)
        refine j_aload0 C dX7_passHours_22 ?_
        refine j_cVV0 C (c_X7_tireMembers hB (by exact hS1) (by exact p1) (by exact w1) (by omega)) oX7_tireMembers kX7_175 ⟨_, rfl, rfl⟩ (at_st hB) ⟨by decide, by decide⟩ rfl (Nat.le_of_ble_eq_true rfl) ⟨by decide, by decide⟩ dX7_passHours_23 ?_
        rintro W7 ⟨hF7, hS7⟩
        refine j_aload0 C dX7_passHours_26 ?_
        refine j_cVV0 C (c_X7_sailBoats hB (by exact hS7) (by exact p2) (by exact w2) (by omega)) oX7_sailBoats kX7_178 ⟨_, rfl, rfl⟩ (at_st hB) ⟨by decide, by decide⟩ rfl (Nat.le_of_ble_eq_true rfl) ⟨by decide, by decide⟩ dX7_passHours_27 ?_
        rintro W8 ⟨hF8, hS8⟩
        refine j_aload0 C dX7_passHours_30 ?_
        refine j_cVV0 C (c_X7_ageLoans hB (by exact hS8) (by exact p3) (by exact w3) (by omega)) oX7_ageLoans kX7_181 ⟨_, rfl, rfl⟩ (at_st hB) ⟨by decide, by decide⟩ rfl (Nat.le_of_ble_eq_true rfl) ⟨by decide, by decide⟩ dX7_passHours_31 ?_
        rintro W9 ⟨hF9, hS9⟩
        refine j_iinc3n C rfl dX7_passHours_34 ?_
        refine j_goto C dX7_passHours_37 ?_
        exact j_fg (ih7 (k + 1) W9 (by omega) (by omega) (by rw [show hoursUp σ (k + 1) = hourR (hoursUp σ k) from rfl, hour_e]; exact hS9) (hFW.tr (hF1.tr (hF7.tr (hF8.tr hF9))))) ⟨Or.inr rfl, Or.inr rfl, Or.inr rfl, Or.inr rfl, trivial⟩ rfl
  exact j_fg (loop7 _ 0 ω (Nat.lt_succ_self _) (Nat.zero_le _) hS Fr.rf) ⟨Or.inr rfl, Or.inr rfl, Or.inr rfl, Or.inr rfl, trivial⟩ rfl
set_option maxRecDepth 100000 in
set_option maxHeartbeats 4000000 in
theorem c_X7_sendOut {Γ : Ga} {l : Launch} {ω : Wo} {B : Nat} (hB : Bs B) {σ : Row} (hS : St ω B σ) {M : Int} (hI : RI M σ) (hWI : WI σ) (hM : M + 3200 ≤ 100000000)  {b : Nat} {a : Int} (hb : b < cB σ) (ha : 0 ≤ a ∧ a ≤ 9) (hok : crOk σ b) : CI Γ l yX7_sendOut cX7_sendOut 6 .int 3 [.ref (rl Γ B), .int (iI ((b : Int))), .int (iI a)] ω (fun z ω' => z = (lst σ (ableS σ) 2) ∧ Fr B ω ω' ∧ St ω' B (sendR σ b a)) := by
  refine Met.ofJ (k := 3) [some (.ref (rl Γ B)), some (.int (iI ((b : Int)))), some (.int (iI a)), none, none, none] (by decide) rfl rfl rfl (fun p e s mm args below meth c C hrt => ?_)
  have g := hI.s
  have gc := hI.c
  have gM := hI.2.1
  have gb := hI.b b (by omega)
  have gs2 := hWI.2.1 b (by omega)
  have gwb := hWI.2.2.2 b hb
  have hcl := crw_lt hI b
  have hl := lst_lt hI (ableS σ) 2
  have hk0 := hok.1
  have hcox := crw_cox hI (by omega) hok
  refine j_aload0 C dX7_sendOut_0 ?_
  refine j_cVI0 C (c_X7_chosenCoxswain hB (by exact hS) (by exact hI) (by exact hWI)) oX7_chosenCoxswain kX7_144 ⟨_, rfl, rfl⟩ (at_st hB) ⟨by decide, by decide⟩ rfl (Nat.le_of_ble_eq_true rfl) ⟨by decide, by decide⟩ dX7_sendOut_1 ?_
  rintro _ _ hz1 ⟨rfl, rfl⟩
  refine j_istore3 C rfl dX7_sendOut_4 ?_
  refine j_aload0 C dX7_sendOut_5 ?_
  refine j_iload1 C dX7_sendOut_6 ?_
  refine j_cVI1 C (c_X7_chosenCrew hB (by exact hS) (by exact hI) (by exact hWI) (by omega) (by exact hok)) oX7_chosenCrew kX7_147 ⟨_, rfl, rfl⟩ (at_st hB) ⟨by decide, by decide⟩ rfl (Nat.le_of_ble_eq_true rfl) ⟨by decide, by decide⟩ dX7_sendOut_7 ?_
  rintro _ _ hz7 ⟨rfl, rfl⟩
  refine j_istore4 C rfl dX7_sendOut_10 ?_
  refine j_iconst C dX7_sendOut_12 ?_
  refine j_istore5 C rfl dX7_sendOut_13 ?_
  have loop15 : ∀ (N : Nat) (k : Nat) (W : Wo), (cM σ - k) < N → (k ≤ cM σ) → (St W B ((sendUp σ (crw σ b) b (lst σ (ableS σ) 2) k))) → (Fr B ω W) → J Γ p l e (rmk 3 0 0) s mm args below meth c (MQ below (QI Γ (fun z ω' => z = (lst σ (ableS σ) 2) ∧ Fr B ω ω' ∧ St ω' B (sendR σ b a))) args s 0 0 (gA Γ)) 243 0 0 15 [some (.ref (rl Γ B)), some (.int (iI ((b : Nat) : Int))), some (.int (iI a)), some (.int (iI (lst σ (ableS σ) 2))), some (.int (iI (((crw σ b) : Nat) : Int))), some (.int (iI ((k : Nat) : Int)))] [] W := by
    intro N
    induction N with
    | zero => intro k W hN; exact absurd hN (Nat.not_lt_zero _)
    | succ N ih15 =>
      intro k W hN hk0 hSW hFW
      have hIk := sendUp_RI hI (x := crw σ b) (b := (b : Int)) (cox := lst σ (ableS σ) 2) (by omega) (by omega) k (by omega)
      have e1 : (sendUp σ (crw σ b) b (lst σ (ableS σ) 2) k) 1 = σ 1 := sendUp_at k 1 (fun j _ => by omega)
      have ekM : cM (sendUp σ (crw σ b) b (lst σ (ableS σ) 2) k) = cM σ := cM_e e1
      have ekB : cB (sendUp σ (crw σ b) b (lst σ (ableS σ) 2) k) = cB σ := cB_e (sendUp_at k 2 (fun j _ => by omega))
      have hcc := hIk.cc
      have gl := fun h : k < 10 => hIk.m k (by omega)
      have e5 : sM (sendUp σ (crw σ b) b (lst σ (ableS σ) 2) k) k 5 = sM σ k 5 := by rw [eM5, eM5]; exact sendUp_at k _ (fun j hj => by omega)
      have e6 : sM (sendUp σ (crw σ b) b (lst σ (ableS σ) 2) k) k 6 = sM σ k 6 := by rw [eM6, eM6]; exact sendUp_at k _ (fun j hj => by omega)
      have gk0 := fun h : k < 10 => hI.m k (by omega)
      have h25 : ∀ v w, sM (up (up (sendUp σ (crw σ b) b (lst σ (ableS σ) 2) k) (8 + 7 * k + 1) v) (8 + 7 * k + 3) w) k 5 = sM (sendUp σ (crw σ b) b (lst σ (ableS σ) 2) k) k 5 := fun v w => by rw [eM5, eM5, up_ne _ _ (by omega), up_ne _ _ (by omega)]
      have h26 : ∀ v w u, sM (up (up (up (sendUp σ (crw σ b) b (lst σ (ableS σ) 2) k) (8 + 7 * k + 1) v) (8 + 7 * k + 3) w) (8 + 7 * k + 5) u) k 6 = sM (sendUp σ (crw σ b) b (lst σ (ableS σ) 2) k) k 6 := fun v w u => by rw [eM6, eM6, up_ne _ _ (by omega), up_ne _ _ (by omega), up_ne _ _ (by omega)]
      have gks := hIk.s
      have gkb := hIk.b b (by omega)
      have hb6 : ∀ v w, sB (up (up (sendUp σ (crw σ b) b (lst σ (ableS σ) 2) k) (78 + 7 * b + 5) v) (78 + 7 * b + 3) w) b 6 = sB (sendUp σ (crw σ b) b (lst σ (ableS σ) 2) k) b 6 := fun v w => by rw [sB_up (by omega), sB_up (by omega)]
      refine j_iload5 C dX7_sendOut_15 ?_
      refine j_aload0 C dX7_sendOut_17 ?_
      refine j_geti C fX7_29 (at_st hB) rfl hSW.c3 dX7_sendOut_18 (fun hr18 => ?_)
      refine j_icmp_ge C ⟨by omega, by omega⟩ ⟨by omega, by omega⟩ dX7_sendOut_21 (fun hc21 => ?_) (fun hc21 => ?_)
      · -- 21 T
        have hk9 : k = cM σ := by omega
        subst hk9
        refine j_aload0 C dX7_sendOut_89 ?_
        refine j_getr C fX7_19 (at_st hB) rfl hSW.r.a1 dX7_sendOut_90 ?_
        refine j_iload1 C dX7_sendOut_93 ?_
        refine j_aald C (at_bA hB) rfl (Cn := RX1) rfl (N := 3) rfl (by decide) ⟨by omega, by omega⟩ (hSW.r.b b (by omega)) dX7_sendOut_94 ?_
        refine j_iload3 C dX7_sendOut_95 ?_
        refine j_putb2 C fX7_158 hB hSW (k := b) (by omega) (by omega) ⟨by omega, by omega⟩ dX7_sendOut_96 (fun W1 hS1 hF1 hK1 => ?_)
        refine j_aload0 C dX7_sendOut_99 ?_
        refine j_getr C fX7_19 (at_st hB) rfl hS1.r.a1 dX7_sendOut_100 ?_
        refine j_iload1 C dX7_sendOut_103 ?_
        refine j_aald C (at_bA hB) rfl (Cn := RX1) rfl (N := 3) rfl (by decide) ⟨by omega, by omega⟩ (hS1.r.b b (by omega)) dX7_sendOut_104 ?_
        refine j_iload2 C dX7_sendOut_105 ?_
        refine j_putb3 C fX7_161 hB hS1 (k := b) (by omega) (by omega) ⟨by omega, by omega⟩ dX7_sendOut_106 (fun W2 hS2 hF2 hK2 => ?_)
        refine j_aload0 C dX7_sendOut_109 ?_
        refine j_getr C fX7_19 (at_st hB) rfl hS2.r.a1 dX7_sendOut_110 ?_
        refine j_iload1 C dX7_sendOut_113 ?_
        refine j_aald C (at_bA hB) rfl (Cn := RX1) rfl (N := 3) rfl (by decide) ⟨by omega, by omega⟩ (hS2.r.b b (by omega)) dX7_sendOut_114 ?_
        refine j_dup C rfl dX7_sendOut_115 ?_
        refine j_geti C fX7_164 (at_b hB (by omega)) rfl (hS2.b5 b (by omega)) dX7_sendOut_116 (fun hr116 => ?_)
        rw [hb6] at hr116 ⊢
        refine j_iconst C dX7_sendOut_119 ?_
        refine j_iadd C dX7_sendOut_120 ?_
        refine j_putb5 C fX7_164 hB hS2 (k := b) (by omega) (by omega) ⟨by omega, by omega⟩ dX7_sendOut_121 (fun W3 hS3 hF3 hK3 => ?_)
        refine j_aload0 C dX7_sendOut_124 ?_
        refine j_dup C rfl dX7_sendOut_125 ?_
        refine j_geti C fX7_45 (at_st hB) rfl hS3.c8 dX7_sendOut_126 (fun hr126 => ?_)
        rw [up_ne _ _ (by omega), up_ne _ _ (by omega), up_ne _ _ (by omega)] at hr126 ⊢
        refine j_iconst C dX7_sendOut_129 ?_
        refine j_iadd C dX7_sendOut_130 ?_
        refine j_putc8 C fX7_45 hB hS3 (by omega) ⟨by omega, by omega⟩ dX7_sendOut_131 (fun W4 hS4 hF4 hK4 => ?_)
        refine j_iload3 C dX7_sendOut_134 ?_
        refine j_iret C hrt dX7_sendOut_135 ⟨by omega, by omega⟩ ?_
        refine ⟨rfl, hFW.tr (hF1.tr (hF2.tr (hF3.tr hF4))), hS4.irr (fun y hy => ?_) (by omega)⟩
        rw [sendR_irr (by omega) hy]
      · -- 21 F
        have gl := gl (by omega)
        have gk0 := gk0 (by omega)
        refine j_iload5 C dX7_sendOut_24 ?_
        refine j_iload4 C dX7_sendOut_26 ?_
        refine j_cNI2 (host := RX8) C (c_X8_isIn (by omega) (by omega)) oX8_isIn (List.mem_of_getElem? (i := 6) rfl) ⟨by decide, by decide⟩ rfl (Nat.le_of_ble_eq_true rfl) ⟨by decide, by decide⟩ dX7_sendOut_28 ?_
        rintro _ _ hz28 ⟨rfl, rfl⟩
        refine j_ifeqb C dX7_sendOut_31 (fun hc31 => ?_) (fun hc31 => ?_)
        · -- 31 T
          refine j_aload0 C dX7_sendOut_34 ?_
          refine j_getr C fX7_11 (at_st hB) rfl hSW.r.a0 dX7_sendOut_35 ?_
          refine j_iload5 C dX7_sendOut_38 ?_
          refine j_aald C (at_mA hB) rfl (Cn := RX4) rfl (N := 10) rfl (by decide) ⟨by omega, by omega⟩ (hSW.r.m k (by omega)) dX7_sendOut_40 ?_
          refine j_iload1 C dX7_sendOut_41 ?_
          refine j_putm1 C fX7_84 hB hSW (k := k) (by omega) (by omega) (t' := (up (up (sendUp σ (crw σ b) b (lst σ (ableS σ) 2) k) (8 + 7 * k + 1) 1) (8 + 7 * k + 3) (b : Int))) (fun y h1 h3 => by rw [up_ne _ _ h3, up_ne _ _ h1]) (by unfold plc; rw [sM_up (by omega), sM_ue (by omega), if_pos rfl, sM_ue (by omega)]) ⟨by omega, by omega⟩ dX7_sendOut_42 (fun W5 hS5 hF5 hK5 => ?_)
          refine j_aload0 C dX7_sendOut_45 ?_
          refine j_getr C fX7_11 (at_st hB) rfl hS5.r.a0 dX7_sendOut_46 ?_
          refine j_iload5 C dX7_sendOut_49 ?_
          refine j_aald C (at_mA hB) rfl (Cn := RX4) rfl (N := 10) rfl (by decide) ⟨by omega, by omega⟩ (hS5.r.m k (by omega)) dX7_sendOut_51 ?_
          refine j_dup C rfl dX7_sendOut_52 ?_
          refine j_geti C fX7_154 (at_m hB (by omega)) rfl (hS5.m4 k (by omega)) dX7_sendOut_53 (fun hr53 => ?_)
          rw [h25] at hr53 ⊢
          refine j_iconst C dX7_sendOut_56 ?_
          refine j_iadd C dX7_sendOut_57 ?_
          refine j_putm4 C fX7_154 hB hS5 (k := k) (by omega) (by omega) ⟨by omega, by omega⟩ dX7_sendOut_58 (fun W6 hS6 hF6 hK6 => ?_)
          refine j_iload5 C dX7_sendOut_61 ?_
          refine j_iload3 C dX7_sendOut_63 ?_
          refine j_icmp_ne C ⟨by omega, by omega⟩ ⟨by omega, by omega⟩ dX7_sendOut_64 (fun hc64 => ?_) (fun hc64 => ?_)
          · -- 64 T
            refine j_iinc5n C rfl dX7_sendOut_83 ?_
            refine j_goto C dX7_sendOut_86 ?_
            first
            | exact j_fg (ih15 (k + 1) W6 (by omega) (by omega) (by rw [send_1 (by assumption) (by omega)]; exact hS6) (hFW.tr (hF5.tr (hF6.tr hF7)))) ⟨Or.inr rfl, Or.inr rfl, Or.inr rfl, Or.inr rfl, Or.inr rfl, Or.inr rfl, trivial⟩ rfl
            | exact j_fg (ih15 (k + 1) W6 (by omega) (by omega) (by rw [send_2 (by assumption) (by omega)]; exact hS6) (hFW.tr (hF5.tr hF6))) ⟨Or.inr rfl, Or.inr rfl, Or.inr rfl, Or.inr rfl, Or.inr rfl, Or.inr rfl, trivial⟩ rfl
            | exact j_fg (ih15 (k + 1) W (by omega) (by omega) (by rw [send_3 (by assumption)]; exact hSW) hFW) ⟨Or.inr rfl, Or.inr rfl, Or.inr rfl, Or.inr rfl, Or.inr rfl, Or.inr rfl, trivial⟩ rfl
            | (exfalso; rw [show (lst σ (ableS σ) 2).toNat = k by omega] at hcox; contradiction)
          · -- 64 F
            refine j_aload0 C dX7_sendOut_67 ?_
            refine j_getr C fX7_11 (at_st hB) rfl hS6.r.a0 dX7_sendOut_68 ?_
            refine j_iload5 C dX7_sendOut_71 ?_
            refine j_aald C (at_mA hB) rfl (Cn := RX4) rfl (N := 10) rfl (by decide) ⟨by omega, by omega⟩ (hS6.r.m k (by omega)) dX7_sendOut_73 ?_
            refine j_dup C rfl dX7_sendOut_74 ?_
            refine j_geti C fX7_155 (at_m hB (by omega)) rfl (hS6.m5 k (by omega)) dX7_sendOut_75 (fun hr75 => ?_)
            first
            | rw [h26] at hr75 ⊢
            | skip
            refine j_iconst C dX7_sendOut_78 ?_
            refine j_iadd C dX7_sendOut_79 ?_
            refine j_putm5 C fX7_155 hB hS6 (k := k) (by omega) (by omega) ⟨by omega, by omega⟩ dX7_sendOut_80 (fun W7 hS7 hF7 hK7 => ?_)
            refine j_iinc5n C rfl dX7_sendOut_83 ?_
            refine j_goto C dX7_sendOut_86 ?_
            first
            | exact j_fg (ih15 (k + 1) W7 (by omega) (by omega) (by rw [send_1 (by assumption) (by omega)]; exact hS7) (hFW.tr (hF5.tr (hF6.tr hF7)))) ⟨Or.inr rfl, Or.inr rfl, Or.inr rfl, Or.inr rfl, Or.inr rfl, Or.inr rfl, trivial⟩ rfl
            | exact j_fg (ih15 (k + 1) W7 (by omega) (by omega) (by rw [send_2 (by assumption) (by omega)]; exact hS7) (hFW.tr (hF5.tr hF6))) ⟨Or.inr rfl, Or.inr rfl, Or.inr rfl, Or.inr rfl, Or.inr rfl, Or.inr rfl, trivial⟩ rfl
            | exact j_fg (ih15 (k + 1) W (by omega) (by omega) (by rw [send_3 (by assumption)]; exact hSW) hFW) ⟨Or.inr rfl, Or.inr rfl, Or.inr rfl, Or.inr rfl, Or.inr rfl, Or.inr rfl, trivial⟩ rfl
            | (exfalso; rw [show (lst σ (ableS σ) 2).toNat = k by omega] at hcox; contradiction)
        · -- 31 F
          refine j_iload5 C dX7_sendOut_61 ?_
          refine j_iload3 C dX7_sendOut_63 ?_
          refine j_icmp_ne C ⟨by omega, by omega⟩ ⟨by omega, by omega⟩ dX7_sendOut_64 (fun hc64 => ?_) (fun hc64 => ?_)
          · -- 64 T
            refine j_iinc5n C rfl dX7_sendOut_83 ?_
            refine j_goto C dX7_sendOut_86 ?_
            first
            | exact j_fg (ih15 (k + 1) W (by omega) (by omega) (by rw [send_3 (by assumption)]; exact hSW) hFW) ⟨Or.inr rfl, Or.inr rfl, Or.inr rfl, Or.inr rfl, Or.inr rfl, Or.inr rfl, trivial⟩ rfl
            | (exfalso; rw [show (lst σ (ableS σ) 2).toNat = k by omega] at hcox; contradiction)
          · -- 64 F
            refine j_aload0 C dX7_sendOut_67 ?_
            refine j_getr C fX7_11 (at_st hB) rfl hSW.r.a0 dX7_sendOut_68 ?_
            refine j_iload5 C dX7_sendOut_71 ?_
            refine j_aald C (at_mA hB) rfl (Cn := RX4) rfl (N := 10) rfl (by decide) ⟨by omega, by omega⟩ (hSW.r.m k (by omega)) dX7_sendOut_73 ?_
            refine j_dup C rfl dX7_sendOut_74 ?_
            refine j_geti C fX7_155 (at_m hB (by omega)) rfl (hSW.m5 k (by omega)) dX7_sendOut_75 (fun hr75 => ?_)
            first
            | rw [h26] at hr75 ⊢
            | skip
            refine j_iconst C dX7_sendOut_78 ?_
            refine j_iadd C dX7_sendOut_79 ?_
            refine j_putm5 C fX7_155 hB hSW (k := k) (by omega) (by omega) ⟨by omega, by omega⟩ dX7_sendOut_80 (fun W8 hS8 hF8 hK8 => ?_)
            refine j_iinc5n C rfl dX7_sendOut_83 ?_
            refine j_goto C dX7_sendOut_86 ?_
            first
            | exact j_fg (ih15 (k + 1) W8 (by omega) (by omega) (by rw [send_1 (by assumption) (by omega)]; exact hS8) (hFW.tr (hF5.tr (hF6.tr hF7)))) ⟨Or.inr rfl, Or.inr rfl, Or.inr rfl, Or.inr rfl, Or.inr rfl, Or.inr rfl, trivial⟩ rfl
            | exact j_fg (ih15 (k + 1) W8 (by omega) (by omega) (by rw [send_2 (by assumption) (by omega)]; exact hS8) (hFW.tr (hF5.tr hF6))) ⟨Or.inr rfl, Or.inr rfl, Or.inr rfl, Or.inr rfl, Or.inr rfl, Or.inr rfl, trivial⟩ rfl
            | exact j_fg (ih15 (k + 1) W (by omega) (by omega) (by rw [send_3 (by assumption)]; exact hSW) hFW) ⟨Or.inr rfl, Or.inr rfl, Or.inr rfl, Or.inr rfl, Or.inr rfl, Or.inr rfl, trivial⟩ rfl
            | (exfalso; rw [show (lst σ (ableS σ) 2).toNat = k by omega] at hcox; contradiction)
  exact j_fg (loop15 _ 0 ω (Nat.lt_succ_self _) (Nat.zero_le _) hS Fr.rf) ⟨Or.inr rfl, Or.inr rfl, Or.inr rfl, Or.inr rfl, Or.inr rfl, Or.inr rfl, trivial⟩ rfl
