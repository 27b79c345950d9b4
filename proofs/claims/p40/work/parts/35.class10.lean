set_option maxRecDepth 100000 in
set_option maxHeartbeats 4000000 in
theorem c_X7_copyFrom {Γ : Ga} {l : Launch} {ω : Wo} {B : Nat} {D : Nat} (hB : Bs B) (hD : Bs D) (hd : B + 21 ≤ D ∨ D + 21 ≤ B) (hQ0 : QR ω B) {σ : Row} (hS : St ω D σ) {M : Int} (hI : RI M σ) : CV Γ l yX7_copyFrom cX7_copyFrom 3 1 [.ref (rl Γ B), .ref (rl Γ D)] ω (fun ω' => Fr B ω ω' ∧ St ω' B σ) := by
  refine Met.ofJ (k := 1) [some (.ref (rl Γ B)), some (.ref (rl Γ D)), none] (by decide) rfl rfl rfl (fun p e s mm args below meth c C hrt => ?_)
  have hcc := hI.cc
  have g := hI.s
  have gM := hI.2.1
  refine j_iconst C dX7_copyFrom_0 ?_
  refine j_istore2 C rfl dX7_copyFrom_1 ?_
  have loop2 : ∀ (N : Nat) (k : Nat) (W : Wo), (10 - k) < N → (k ≤ 10) → (CP ω W B D k 0 0) → J Γ p l e (rmk 1 0 0) s mm args below meth c (MQ below (QV Γ (fun ω' => Fr B ω ω' ∧ St ω' B σ)) args s 0 0 (gA Γ)) 243 0 0 2 [some (.ref (rl Γ B)), some (.ref (rl Γ D)), some (.int (iI ((k : Nat) : Int)))] [] W := by
    intro N
    induction N with
    | zero => intro k W hN; exact absurd hN (Nat.not_lt_zero _)
    | succ N ih2 =>
      intro k W hN hk0 hCP
      have hQ := hCP.q hQ0
      have hSD := hCP.s hS hcc hd
      refine j_iload2 C dX7_copyFrom_2 ?_
      refine j_bipush C (by decide) dX7_copyFrom_3 ?_
      refine j_icmp_ge C ⟨by omega, by omega⟩ ⟨by omega, by omega⟩ dX7_copyFrom_5 (fun hc5 => ?_) (fun hc5 => ?_)
      · -- 5 T
        refine j_iconst C dX7_copyFrom_29 ?_
        refine j_istore2 C rfl dX7_copyFrom_30 ?_
        have loop31 : ∀ (N : Nat) (k : Nat) (W : Wo), (3 - k) < N → (k ≤ 3) → (CP ω W B D 10 k 0) → J Γ p l e (rmk 1 0 0) s mm args below meth c (MQ below (QV Γ (fun ω' => Fr B ω ω' ∧ St ω' B σ)) args s 0 0 (gA Γ)) 243 0 0 31 [some (.ref (rl Γ B)), some (.ref (rl Γ D)), some (.int (iI ((k : Nat) : Int)))] [] W := by
          intro N
          induction N with
          | zero => intro k W hN; exact absurd hN (Nat.not_lt_zero _)
          | succ N ih31 =>
            intro k W hN hk0 hCP
            have hQ := hCP.q hQ0
            have hSD := hCP.s hS hcc hd
            refine j_iload2 C dX7_copyFrom_31 ?_
            refine j_iconst C dX7_copyFrom_32 ?_
            refine j_icmp_ge C ⟨by omega, by omega⟩ ⟨by omega, by omega⟩ dX7_copyFrom_33 (fun hc33 => ?_) (fun hc33 => ?_)
            · -- 33 T
              refine j_iconst C dX7_copyFrom_57 ?_
              refine j_istore2 C rfl dX7_copyFrom_58 ?_
              have loop59 : ∀ (N : Nat) (k : Nat) (W : Wo), (4 - k) < N → (k ≤ 4) → (CP ω W B D 10 3 k) → J Γ p l e (rmk 1 0 0) s mm args below meth c (MQ below (QV Γ (fun ω' => Fr B ω ω' ∧ St ω' B σ)) args s 0 0 (gA Γ)) 243 0 0 59 [some (.ref (rl Γ B)), some (.ref (rl Γ D)), some (.int (iI ((k : Nat) : Int)))] [] W := by
                intro N
                induction N with
                | zero => intro k W hN; exact absurd hN (Nat.not_lt_zero _)
                | succ N ih59 =>
                  intro k W hN hk0 hCP
                  have hQ := hCP.q hQ0
                  have hSD := hCP.s hS hcc hd
                  refine j_iload2 C dX7_copyFrom_59 ?_
                  refine j_iconst C dX7_copyFrom_60 ?_
                  refine j_icmp_ge C ⟨by omega, by omega⟩ ⟨by omega, by omega⟩ dX7_copyFrom_61 (fun hc61 => ?_) (fun hc61 => ?_)
                  · -- 61 T
                    refine j_aload0 C dX7_copyFrom_85 ?_
                    refine j_aload1 C dX7_copyFrom_86 ?_
                    refine j_geti C fX7_29 (at_st hD) rfl hSD.c3 dX7_copyFrom_87 (fun hr87 => ?_)
                    try simp only [wf_same, up_same, Int.toNat_natCast] at hr87 ⊢
                    refine j_putI C fX7_29 (at_st hB) rfl ty_1_3 ⟨by omega, by omega⟩ dX7_copyFrom_90 ?_
                    try simp only [wi_wf, wf_same, wf_wf, up_same, up_up, Int.toNat_natCast]
                    refine j_aload0 C dX7_copyFrom_93 ?_
                    refine j_aload1 C dX7_copyFrom_94 ?_
                    refine j_geti C fX7_33 (at_st hD) rfl ((congrFun (wf_ne _ _ (by omega)) 4).trans hSD.c4) dX7_copyFrom_95 (fun hr95 => ?_)
                    try simp only [wf_same, up_same, Int.toNat_natCast] at hr95 ⊢
                    refine j_putI C fX7_33 (at_st hB) rfl ty_1_4 ⟨by omega, by omega⟩ dX7_copyFrom_98 ?_
                    try simp only [wi_wf, wf_same, wf_wf, up_same, up_up, Int.toNat_natCast]
                    refine j_aload0 C dX7_copyFrom_101 ?_
                    refine j_aload1 C dX7_copyFrom_102 ?_
                    refine j_geti C fX7_36 (at_st hD) rfl ((congrFun (wf_ne _ _ (by omega)) 5).trans hSD.c5) dX7_copyFrom_103 (fun hr103 => ?_)
                    try simp only [wf_same, up_same, Int.toNat_natCast] at hr103 ⊢
                    refine j_putI C fX7_36 (at_st hB) rfl ty_1_5 ⟨by omega, by omega⟩ dX7_copyFrom_106 ?_
                    try simp only [wi_wf, wf_same, wf_wf, up_same, up_up, Int.toNat_natCast]
                    refine j_aload0 C dX7_copyFrom_109 ?_
                    refine j_aload1 C dX7_copyFrom_110 ?_
                    refine j_geti C fX7_39 (at_st hD) rfl ((congrFun (wf_ne _ _ (by omega)) 6).trans hSD.c6) dX7_copyFrom_111 (fun hr111 => ?_)
                    try simp only [wf_same, up_same, Int.toNat_natCast] at hr111 ⊢
                    refine j_putI C fX7_39 (at_st hB) rfl ty_1_6 ⟨by omega, by omega⟩ dX7_copyFrom_114 ?_
                    try simp only [wi_wf, wf_same, wf_wf, up_same, up_up, Int.toNat_natCast]
                    refine j_aload0 C dX7_copyFrom_117 ?_
                    refine j_aload1 C dX7_copyFrom_118 ?_
                    refine j_geti C fX7_42 (at_st hD) rfl ((congrFun (wf_ne _ _ (by omega)) 7).trans hSD.c7) dX7_copyFrom_119 (fun hr119 => ?_)
                    try simp only [wf_same, up_same, Int.toNat_natCast] at hr119 ⊢
                    refine j_putI C fX7_42 (at_st hB) rfl ty_1_7 ⟨by omega, by omega⟩ dX7_copyFrom_122 ?_
                    try simp only [wi_wf, wf_same, wf_wf, up_same, up_up, Int.toNat_natCast]
                    refine j_aload0 C dX7_copyFrom_125 ?_
                    refine j_aload1 C dX7_copyFrom_126 ?_
                    refine j_geti C fX7_45 (at_st hD) rfl ((congrFun (wf_ne _ _ (by omega)) 8).trans hSD.c8) dX7_copyFrom_127 (fun hr127 => ?_)
                    try simp only [wf_same, up_same, Int.toNat_natCast] at hr127 ⊢
                    refine j_putI C fX7_45 (at_st hB) rfl ty_1_8 ⟨by omega, by omega⟩ dX7_copyFrom_130 ?_
                    try simp only [wi_wf, wf_same, wf_wf, up_same, up_up, Int.toNat_natCast]
                    refine j_aload0 C dX7_copyFrom_133 ?_
                    refine j_aload1 C dX7_copyFrom_134 ?_
                    refine j_geti C fX7_48 (at_st hD) rfl ((congrFun (wf_ne _ _ (by omega)) 9).trans hSD.c9) dX7_copyFrom_135 (fun hr135 => ?_)
                    try simp only [wf_same, up_same, Int.toNat_natCast] at hr135 ⊢
                    refine j_putI C fX7_48 (at_st hB) rfl ty_1_9 ⟨by omega, by omega⟩ dX7_copyFrom_138 ?_
                    try simp only [wi_wf, wf_same, wf_wf, up_same, up_up, Int.toNat_natCast]
                    refine j_aload0 C dX7_copyFrom_141 ?_
                    refine j_aload1 C dX7_copyFrom_142 ?_
                    refine j_geti C fX7_51 (at_st hD) rfl ((congrFun (wf_ne _ _ (by omega)) 10).trans hSD.c10) dX7_copyFrom_143 (fun hr143 => ?_)
                    try simp only [wf_same, up_same, Int.toNat_natCast] at hr143 ⊢
                    refine j_putI C fX7_51 (at_st hB) rfl ty_1_10 ⟨by omega, by omega⟩ dX7_copyFrom_146 ?_
                    try simp only [wi_wf, wf_same, wf_wf, up_same, up_up, Int.toNat_natCast]
                    refine j_vret C hrt dX7_copyFrom_149 ?_
                    have hk9 : k = 4 := by omega
                    subst hk9
                    exact hCP.st hd hQ0 hS hcc ⟨rfl, rfl, rfl, rfl, rfl, rfl, rfl, rfl⟩
                  · -- 61 F
                    refine j_aload0 C dX7_copyFrom_64 ?_
                    refine j_getr C fX7_25 (at_st hB) rfl hQ.r.a2 dX7_copyFrom_65 ?_
                    refine j_iload2 C dX7_copyFrom_68 ?_
                    obtain ⟨la69, ha69, hb69, hc69⟩ := hQ.r.l k (by omega)
                    refine j_aald C (at_lA hB) rfl (Cn := RX3) rfl (N := 4) rfl (by decide) ⟨by omega, by omega⟩ ha69 dX7_copyFrom_69 ?_
                    refine j_aload1 C dX7_copyFrom_70 ?_
                    refine j_getr C fX7_25 (at_st hD) rfl hSD.r.a2 dX7_copyFrom_71 ?_
                    refine j_iload2 C dX7_copyFrom_74 ?_
                    obtain ⟨la75, ha75, hb75, hc75⟩ := hSD.r.l k (by omega)
                    refine j_aald C (at_lA hD) rfl (Cn := RX3) rfl (N := 4) rfl (by decide) ⟨by omega, by omega⟩ ha75 dX7_copyFrom_75 ?_
                    refine j_cVV1 C (c_X3_copyFrom (at_lx hB hb69 hc69) (at_lx hD hb75 hc75) (by omega)) oX3_copyFrom kX7_64 ⟨_, rfl, rfl⟩ (at_lx hB hb69 hc69) ⟨by decide, by decide⟩ rfl (Nat.le_of_ble_eq_true rfl) ⟨by decide, by decide⟩ dX7_copyFrom_76 ?_
                    rintro _ rfl
                    try simp only [wi_wf, wf_same, wf_wf, up_same, up_up, Int.toNat_natCast]
                    refine j_iinc2n C rfl dX7_copyFrom_79 ?_
                    refine j_goto C dX7_copyFrom_82 ?_
                    exact j_fg (ih59 (k + 1) _ (by omega) (by omega) (hCP.l (by omega) hd hQ0 hS.q ha69 ha75)) ⟨Or.inr rfl, Or.inr rfl, Or.inr rfl, trivial⟩ rfl
              exact j_fg (loop59 _ 0 W (Nat.lt_succ_self _) (Nat.zero_le _) (by have hk9 : k = 3 := (by omega); subst hk9; exact hCP)) ⟨Or.inr rfl, Or.inr rfl, Or.inr rfl, trivial⟩ rfl
            · -- 33 F
              refine j_aload0 C dX7_copyFrom_36 ?_
              refine j_getr C fX7_19 (at_st hB) rfl hQ.r.a1 dX7_copyFrom_37 ?_
              refine j_iload2 C dX7_copyFrom_40 ?_
              refine j_aald C (at_bA hB) rfl (Cn := RX1) rfl (N := 3) rfl (by decide) ⟨by omega, by omega⟩ (hQ.r.b k (by omega)) dX7_copyFrom_41 ?_
              refine j_aload1 C dX7_copyFrom_42 ?_
              refine j_getr C fX7_19 (at_st hD) rfl hSD.r.a1 dX7_copyFrom_43 ?_
              refine j_iload2 C dX7_copyFrom_46 ?_
              refine j_aald C (at_bA hD) rfl (Cn := RX1) rfl (N := 3) rfl (by decide) ⟨by omega, by omega⟩ (hSD.r.b k (by omega)) dX7_copyFrom_47 ?_
              refine j_cVV1 C (c_X1_copyFrom (at_b hB (by omega)) (at_b hD (by omega)) (by omega)) oX1_copyFrom kX7_61 ⟨_, rfl, rfl⟩ (at_b hB (by omega)) ⟨by decide, by decide⟩ rfl (Nat.le_of_ble_eq_true rfl) ⟨by decide, by decide⟩ dX7_copyFrom_48 ?_
              rintro _ rfl
              try simp only [wi_wf, wf_same, wf_wf, up_same, up_up, Int.toNat_natCast]
              refine j_iinc2n C rfl dX7_copyFrom_51 ?_
              refine j_goto C dX7_copyFrom_54 ?_
              exact j_fg (ih31 (k + 1) _ (by omega) (by omega) (hCP.b (by omega) hd)) ⟨Or.inr rfl, Or.inr rfl, Or.inr rfl, trivial⟩ rfl
        exact j_fg (loop31 _ 0 W (Nat.lt_succ_self _) (Nat.zero_le _) (by have hk9 : k = 10 := (by omega); subst hk9; exact hCP)) ⟨Or.inr rfl, Or.inr rfl, Or.inr rfl, trivial⟩ rfl
      · -- 5 F
        refine j_aload0 C dX7_copyFrom_8 ?_
        refine j_getr C fX7_11 (at_st hB) rfl hQ.r.a0 dX7_copyFrom_9 ?_
        refine j_iload2 C dX7_copyFrom_12 ?_
        refine j_aald C (at_mA hB) rfl (Cn := RX4) rfl (N := 10) rfl (by decide) ⟨by omega, by omega⟩ (hQ.r.m k (by omega)) dX7_copyFrom_13 ?_
        refine j_aload1 C dX7_copyFrom_14 ?_
        refine j_getr C fX7_11 (at_st hD) rfl hSD.r.a0 dX7_copyFrom_15 ?_
        refine j_iload2 C dX7_copyFrom_18 ?_
        refine j_aald C (at_mA hD) rfl (Cn := RX4) rfl (N := 10) rfl (by decide) ⟨by omega, by omega⟩ (hSD.r.m k (by omega)) dX7_copyFrom_19 ?_
        refine j_cVV1 C (c_X4_copyFrom (at_m hB (by omega)) (at_m hD (by omega)) (by omega)) oX4_copyFrom kX7_57 ⟨_, rfl, rfl⟩ (at_m hB (by omega)) ⟨by decide, by decide⟩ rfl (Nat.le_of_ble_eq_true rfl) ⟨by decide, by decide⟩ dX7_copyFrom_20 ?_
        rintro _ rfl
        try simp only [wi_wf, wf_same, wf_wf, up_same, up_up, Int.toNat_natCast]
        refine j_iinc2n C rfl dX7_copyFrom_23 ?_
        refine j_goto C dX7_copyFrom_26 ?_
        exact j_fg (ih2 (k + 1) _ (by omega) (by omega) (hCP.m (by omega) hd)) ⟨Or.inr rfl, Or.inr rfl, Or.inr rfl, trivial⟩ rfl
  exact j_fg (loop2 _ 0 ω (Nat.lt_succ_self _) (Nat.zero_le _) (CP.z ω B D)) ⟨Or.inr rfl, Or.inr rfl, Or.inr rfl, trivial⟩ rfl
