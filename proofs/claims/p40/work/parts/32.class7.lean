set_option maxRecDepth 100000 in
set_option maxHeartbeats 4000000 in
theorem c_X7_removeLoan {Γ : Ga} {l : Launch} {ω : Wo} {B : Nat} (hB : Bs B) {σ : Row} (hS : St ω B σ) {M : Int} (hI : RI M σ) (hWI : WI σ)  {q : Nat} (hq : q < cL σ) : CV Γ l yX7_removeLoan cX7_removeLoan 4 0 [.ref (rl Γ B), .int (iI ((q : Int)))] ω (fun ω' => Fr B ω ω' ∧ St ω' B (takeL σ q)) := by
  refine Met.ofJ (k := 2) [some (.ref (rl Γ B)), some (.int (iI ((q : Int)))), none, none] (by decide) rfl rfl rfl (fun p e s mm args below meth c C hrt => ?_)
  have g := hI.s
  have gc := hI.c
  have gM := hI.2.1
  refine j_aload0 C dX7_removeLoan_0 ?_
  refine j_getr C fX7_25 (at_st hB) rfl hS.r.a2 dX7_removeLoan_1 ?_
  refine j_iload1 C dX7_removeLoan_4 ?_
  obtain ⟨la5, ha5, hb5, hc5⟩ := hS.r.l q (by omega)
  refine j_aald C (at_lA hB) rfl (Cn := RX3) rfl (N := 4) rfl (by decide) ⟨by omega, by omega⟩ ha5 dX7_removeLoan_5 ?_
  refine j_astore2 C rfl dX7_removeLoan_6 ?_
  refine j_iload1 C dX7_removeLoan_7 ?_
  refine j_iconst C dX7_removeLoan_8 ?_
  refine j_iadd C dX7_removeLoan_9 ?_
  refine j_istore3 C rfl dX7_removeLoan_10 ?_
  have hcl : cL σ ≤ 4 := by omega
  have hR2 : ∀ n, (RW ω B q n).2.1 B 2 = some (B + 3) := fun n => by show rot ω.2.1 B q n B 2 = _; rw [rot_x (by omega)]; exact hS.r.a2
  have loop11 : ∀ (N : Nat) (n : Nat), (cL σ - 1 - q - n) < N → (n ≤ cL σ - 1 - q) → J Γ p l e (rmk 0 0 0) s mm args below meth c (MQ below (QV Γ (fun ω' => Fr B ω ω' ∧ St ω' B (takeL σ q))) args s 0 0 (gA Γ)) 243 0 0 11 [some (.ref (rl Γ B)), some (.int (iI ((q : Nat) : Int))), some (.ref (rl Γ la5)), some (.int (iI ((q + 1 + n : Nat) : Int)))] [] (RW ω B q n) := by
    intro N
    induction N with
    | zero => intro n hN; exact absurd hN (Nat.not_lt_zero _)
    | succ N ih11 =>
      intro n hN hi0
      refine j_iload3 C dX7_removeLoan_11 ?_
      refine j_aload0 C dX7_removeLoan_12 ?_
      refine j_geti C fX7_36 (at_st hB) rfl (show _ = σ 3 from hS.c5) dX7_removeLoan_13 (fun hr13 => ?_)
      refine j_icmp_ge C ⟨by omega, by omega⟩ ⟨by omega, by omega⟩ dX7_removeLoan_16 (fun hc16 => ?_) (fun hc16 => ?_)
      · -- 16 T
        refine j_aload0 C dX7_removeLoan_39 ?_
        refine j_getr C fX7_25 (at_st hB) rfl (hR2 n) dX7_removeLoan_40 ?_
        refine j_aload0 C dX7_removeLoan_43 ?_
        refine j_geti C fX7_36 (at_st hB) rfl (show _ = σ 3 from hS.c5) dX7_removeLoan_44 (fun hr44 => ?_)
        refine j_iconst C dX7_removeLoan_47 ?_
        refine j_isub C dX7_removeLoan_48 ?_
        refine j_aload2 C dX7_removeLoan_49 ?_
        have hn9 : n = cL σ - 1 - q := by omega
        subst hn9
        refine j_aast C (at_lA hB) rfl (r := (RX3, TX3, 3)) (kb := 4) rfl rfl (at_lx hB hb5 hc5) (N := 4) rfl (by decide) ⟨by omega, by omega⟩ dX7_removeLoan_50 ?_
        refine j_aload0 C dX7_removeLoan_51 ?_
        refine j_dup C rfl dX7_removeLoan_52 ?_
        refine j_geti C fX7_36 (at_st hB) rfl (show _ = σ 3 from hS.c5) dX7_removeLoan_53 (fun hr53 => ?_)
        refine j_iconst C dX7_removeLoan_56 ?_
        refine j_isub C dX7_removeLoan_57 ?_
        refine j_putI C fX7_36 (at_st hB) rfl ty_1_5 ⟨by omega, by omega⟩ dX7_removeLoan_58 ?_
        refine j_vret C hrt dX7_removeLoan_61 ?_
        have ht := take_St hS hI hq ha5
        rw [show (σ 3 - 1).toNat = cL σ - 1 by omega]
        exact ⟨ht.2, ht.1⟩
      · -- 16 F
        refine j_aload0 C dX7_removeLoan_19 ?_
        refine j_getr C fX7_25 (at_st hB) rfl (hR2 n) dX7_removeLoan_20 ?_
        refine j_iload3 C dX7_removeLoan_23 ?_
        refine j_iconst C dX7_removeLoan_24 ?_
        refine j_isub C dX7_removeLoan_25 ?_
        refine j_aload0 C dX7_removeLoan_26 ?_
        refine j_getr C fX7_25 (at_st hB) rfl (hR2 n) dX7_removeLoan_27 ?_
        refine j_iload3 C dX7_removeLoan_30 ?_
        obtain ⟨la31, ha31, hb31, hc31⟩ := hS.r.l (q + 1 + n) (by omega)
        refine j_aald C (at_lA hB) rfl (Cn := RX3) rfl (N := 4) rfl (by decide) ⟨by omega, by omega⟩ (by show rot ω.2.1 B q n (B + 3) (q + 1 + n) = _; rw [rot_hi (by omega)]; exact ha31) dX7_removeLoan_31 ?_
        refine j_aast C (at_lA hB) rfl (r := (RX3, TX3, 3)) (kb := 4) rfl rfl (at_lx hB hb31 hc31) (N := 4) rfl (by decide) ⟨by omega, by omega⟩ dX7_removeLoan_32 ?_
        refine j_iinc3n C rfl dX7_removeLoan_33 ?_
        refine j_goto C dX7_removeLoan_36 ?_
        exact j_fg (ih11 (n + 1) (by omega) (by omega)) ⟨Or.inr rfl, Or.inr rfl, Or.inr rfl, Or.inr (sN (by omega)), trivial⟩ (by rw [show (((q + 1 + n : Nat) : Int) - 1).toNat = q + n by omega]; exact RW_s (by rw [show q + n + 1 = q + 1 + n by omega]; exact ha31))
  exact j_fg (loop11 _ 0 (Nat.lt_succ_self _) (Nat.zero_le _)) ⟨Or.inr rfl, Or.inr rfl, Or.inr rfl, Or.inr (sI (by omega)), trivial⟩ (RW_0 ω B q).symm
set_option maxRecDepth 100000 in
set_option maxHeartbeats 4000000 in
theorem c_X7_endLoan {Γ : Ga} {l : Launch} {ω : Wo} {B : Nat} (hB : Bs B) {σ : Row} (hS : St ω B σ) {M : Int} (hI : RI M σ) (hWI : WI σ)  {q : Nat} (hq : q < cL σ) : CI Γ l yX7_endLoan cX7_endLoan 2 .int 3 [.ref (rl Γ B), .int (iI ((q : Int)))] ω (fun z ω' => z = freeO (takeL σ q) ∧ Fr B ω ω' ∧ St ω' B (takeL σ q)) := by
  refine Met.ofJ (k := 0) [some (.ref (rl Γ B)), some (.int (iI ((q : Int))))] (by decide) rfl rfl rfl (fun p e s mm args below meth c C hrt => ?_)
  have g := hI.s
  have gc := hI.c
  have gM := hI.2.1
  have hI2 := takeL_RI hI hq
  have hW2 := takeL_WI hI hWI (q := q)
  refine j_aload0 C dX7_endLoan_0 ?_
  refine j_iload1 C dX7_endLoan_1 ?_
  refine j_cVV1 C (c_X7_removeLoan hB hS hI hWI hq) oX7_removeLoan kX7_172 ⟨_, rfl, rfl⟩ (at_st hB) ⟨by decide, by decide⟩ rfl (Nat.le_of_ble_eq_true rfl) ⟨by decide, by decide⟩ dX7_endLoan_2 ?_
  rintro W9 ⟨hF9, hS9⟩
  refine j_aload0 C dX7_endLoan_5 ?_
  refine j_cVI0 C (c_X7_freeOars hB (by exact hS9) (by exact hI2) (by exact hW2)) oX7_freeOars kX7_129 ⟨_, rfl, rfl⟩ (at_st hB) ⟨by decide, by decide⟩ rfl (Nat.le_of_ble_eq_true rfl) ⟨by decide, by decide⟩ dX7_endLoan_6 ?_
  rintro _ _ hz6 ⟨rfl, rfl⟩
  refine j_iret C hrt dX7_endLoan_9 ⟨by omega, by omega⟩ ?_
  exact ⟨rfl, hF9, hS9⟩
set_option maxRecDepth 100000 in
set_option maxHeartbeats 4000000 in
theorem c_X7_ageLoans {Γ : Ga} {l : Launch} {ω : Wo} {B : Nat} (hB : Bs B) {σ : Row} (hS : St ω B σ) {M : Int} (hI : RI M σ) (hWI : WI σ) (hM : M + 100 ≤ 100000000)   : CV Γ l yX7_ageLoans cX7_ageLoans 6 2 [.ref (rl Γ B)] ω (fun ω' => Fr B ω ω' ∧ St ω' B (lnGo (cL σ) σ 0)) := by
  refine Met.ofJ (k := 5) [some (.ref (rl Γ B)), none, none, none, none, none] (by decide) rfl rfl rfl (fun p e s mm args below meth c C hrt => ?_)
  have g := hI.s
  have gc := hI.c
  have gM := hI.2.1
  have hcc0 := hI.cc
  have go := outUp_rg hI (cB σ) gc.2.1.2
  have eo : outO σ = outUp σ (cB σ) := rfl
  refine j_aload0 C dX7_ageLoans_0 ?_
  refine j_cVI0 C (c_X7_oarsOut hB (by exact hS) (by exact hI) (by exact hWI)) oX7_oarsOut kX7_199 ⟨_, rfl, rfl⟩ (at_st hB) ⟨by decide, by decide⟩ rfl (Nat.le_of_ble_eq_true rfl) ⟨by decide, by decide⟩ dX7_ageLoans_1 ?_
  rintro _ _ hz1 ⟨rfl, rfl⟩
  refine j_istore1 C rfl dX7_ageLoans_4 ?_
  refine j_aload0 C dX7_ageLoans_5 ?_
  refine j_geti C fX7_36 (at_st hB) rfl hS.c5 dX7_ageLoans_6 (fun hr6 => ?_)
  refine j_istore2 C rfl dX7_ageLoans_9 ?_
  refine j_iconst C dX7_ageLoans_10 ?_
  refine j_istore3 C rfl dX7_ageLoans_11 ?_
  refine j_iconst C dX7_ageLoans_12 ?_
  refine j_istore4 C rfl dX7_ageLoans_13 ?_
  have loop15 : ∀ (N : Nat) (Mt : Int) (t : Row) (q k : Nat) (W : Wo), (cL σ - k) < N → (RI Mt t) → (Mt + ((cL σ - k : Nat) : Int) ≤ M + 4) → (k ≤ cL σ) → (cL t = cL σ - k + q) → (lnGo (cL σ - k) t q = lnGo (cL σ) σ 0) → (∀ y, y < 99 → y ≠ 3 → y ≠ 6 → t y = σ y) → (St W B t) → (Fr B ω W) → J Γ p l e (rmk 2 0 0) s mm args below meth c (MQ below (QV Γ (fun ω' => Fr B ω ω' ∧ St ω' B (lnGo (cL σ) σ 0))) args s 0 0 (gA Γ)) 243 0 0 15 [some (.ref (rl Γ B)), some (.int (iI (outO σ))), some (.int (iI (σ 3))), some (.int (iI ((q : Nat) : Int))), some (.int (iI ((k : Nat) : Int))), none] [] W := by
    intro N
    induction N with
    | zero => intro Mt t q k W hN; exact absurd hN (Nat.not_lt_zero _)
    | succ N ih15 =>
      intro Mt t q k W hN hIt hMt hkc hct heq hag hSW hFW
      have gt := hIt.s
      have gct := hIt.c
      have hcc := hIt.cc
      have glt := hIt.l q
      simp only [eL0, eL1, eL2, Nat.add_zero] at glt
      have hWt : WI t := WI_same hI hWI (hag 1 (by decide) (by decide) (by decide)) (hag 2 (by decide) (by decide) (by decide)) (fun i p r => ⟨hag _ (by omega) (by omega) (by omega), hag _ (by omega) (by omega) (by omega), hag _ (by omega) (by omega) (by omega)⟩) (fun j hj => ⟨hag _ (by omega) (by omega) (by omega), hag _ (by omega) (by omega) (by omega)⟩)
      refine j_iload4 C dX7_ageLoans_15 ?_
      refine j_iload2 C dX7_ageLoans_17 ?_
      refine j_icmp_ge C ⟨by omega, by omega⟩ ⟨by omega, by omega⟩ dX7_ageLoans_18 (fun hc18 => ?_) (fun hc18 => ?_)
      · -- 18 T
        refine j_vret C hrt dX7_ageLoans_137 ?_
        have hk0 : k = cL σ := by omega
        subst hk0
        rw [show cL σ - cL σ = 0 by omega] at heq
        exact ⟨hFW, by rw [← heq]; exact hSW⟩
      · -- 18 F
        have hq4 : q < 4 := by omega
        have hqc : q < cL t := by omega
        have glt := glt (by omega)
        have hd := due1_RI hIt hq4
        have gd := hd.l q (by omega)
        have gds := hd.s
        simp only [eL0, eL1, eL2, Nat.add_zero] at gd
        have gdc := due1_c t q
        have gdcc := hd.cc
        have hdag : ∀ y, y < 99 → y ≠ 3 → y ≠ 6 → due1 t q y = σ y := fun y h1 h3 h6 => (up_ne _ _ (by omega)).trans (hag y h1 h3 h6)
        have hWd : WI (due1 t q) := WI_up hIt hWt (by omega)
        have eoutd : outO (due1 t q) = outO σ := outO_e (fun y h1 h2 => hdag y h2 (by omega) (by omega)) (hdag 2 (by decide) (by decide) (by decide)) (by omega)
        have efd : freeO (due1 t q) = allO (due1 t q) - outO (due1 t q) := rfl
        have ed1 : due1 t q (99 + 3 * q + 1) = max 0 (t (99 + 3 * q + 1) - 1) := due1_at t q
        have ed0 : due1 t q (99 + 3 * q) = t (99 + 3 * q) := up_ne _ _ (by omega)
        have ed2 : due1 t q (99 + 3 * q + 2) = t (99 + 3 * q + 2) := up_ne _ _ (by omega)
        have ed6 : due1 t q 6 = t 6 := up_ne _ _ (by omega)
        have g1 := oarsUp_rg hd (cL (due1 t q)) (by omega)
        have ga : allO (due1 t q) = oarsUp (due1 t q) (cL (due1 t q)) := rfl
        refine j_aload0 C dX7_ageLoans_21 ?_
        refine j_getr C fX7_25 (at_st hB) rfl hSW.r.a2 dX7_ageLoans_22 ?_
        refine j_iload3 C dX7_ageLoans_25 ?_
        obtain ⟨la26, ha26, hb26, hc26⟩ := hSW.r.l q (by omega)
        refine j_aald C (at_lA hB) rfl (Cn := RX3) rfl (N := 4) rfl (by decide) ⟨by omega, by omega⟩ ha26 dX7_ageLoans_26 ?_
        refine j_geti C fX7_202 (at_lx hB hb26 hc26) rfl (hSW.l1 q (by omega) ha26) dX7_ageLoans_27 (fun hr27 => ?_)
        rw [eL1] at hr27 ⊢
        refine j_if_le C ⟨by omega, by omega⟩ dX7_ageLoans_30 (fun hc30 => ?_) (fun hc30 => ?_)
        · -- 30 T
          obtain ⟨W0, hS0, hF0⟩ : ∃ W0, St W0 B (due1 t q) ∧ W0 = W := ⟨W, (by unfold due1; rw [up_id' (by omega)]; exact hSW), rfl⟩
          subst hF0
          have hF0 : Fr B W0 W0 := Fr.rf
          refine j_aload0 C dX7_ageLoans_48 ?_
          refine j_getr C fX7_25 (at_st hB) rfl hS0.r.a2 dX7_ageLoans_49 ?_
          refine j_iload3 C dX7_ageLoans_52 ?_
          obtain ⟨la53, ha53, hb53, hc53⟩ := hS0.r.l q (by omega)
          refine j_aald C (at_lA hB) rfl (Cn := RX3) rfl (N := 4) rfl (by decide) ⟨by omega, by omega⟩ ha53 dX7_ageLoans_53 ?_
          refine j_geti C fX7_202 (at_lx hB hb53 hc53) rfl (hS0.l1 q (by omega) ha53) dX7_ageLoans_54 (fun hr54 => ?_)
          rw [eL1] at hr54 ⊢
          refine j_if_ne C ⟨by omega, by omega⟩ dX7_ageLoans_57 (fun hc57 => ?_) (fun hc57 => ?_)
          · -- 57 T
            refine j_iconst C dX7_ageLoans_64 ?_
            refine j_istore5 C rfl dX7_ageLoans_65 ?_
            refine j_iload5 C dX7_ageLoans_67 ?_
            refine j_if_eq C (by decide) dX7_ageLoans_69 (fun _ => ?_) (fun hc => absurd hc (by decide))
            refine j_iload5 C dX7_ageLoans_98 ?_
            refine j_if_eq C (by decide) dX7_ageLoans_100 (fun _ => ?_) (fun hc => absurd hc (by decide))
            refine j_iinc3n C rfl dX7_ageLoans_128 ?_
            refine j_iinc4n C rfl dX7_ageLoans_131 ?_
            refine j_goto C dX7_ageLoans_134 ?_
            first
            | exact j_fg (ih15 Mt (takeL (due1 t q) q) q (k + 1) W9 (by omega) (takeL_RI hd (by omega)) (by omega) (by omega) (by rw [cL_take (by omega)]; omega) (by have e := ln_1 (t := t) (k := q) (by omega) hqc (by omega) (by omega); rw [cL_take (by omega), gdc, hct] at e; rw [← heq, show cL σ - k = (cL σ - k + q) - q by omega, e]; congr 1; omega) (fun y h1 h3 h6 => (takeL_at ⟨h1, h3⟩).trans (hdag y h1 h3 h6)) hS9 (hFW.tr (hF0.tr hF9))) ⟨Or.inr rfl, Or.inr rfl, Or.inr rfl, Or.inr rfl, Or.inr rfl, Or.inl rfl, trivial⟩ rfl
            | exact j_fg (ih15 (Mt + 1) (late1 (due1 t q) q 0) (q + 1) (k + 1) W0 (by omega) (late1_RI hd hq4 (by decide) (by omega)) (by omega) (by omega) (by rw [late1_c, gdc]; omega) (by have e := ln_2 (t := t) (k := q) (by omega) hqc (by omega) (z := 0) (by rw [if_neg (by omega)]); rw [late1_c, gdc, hct] at e; rw [← heq, show cL σ - k = (cL σ - k + q) - q by omega, e]; congr 1; omega) (fun y h1 h3 h6 => by unfold late1; rw [up_ne _ _ h6, up_ne _ _ (by omega)]; exact hdag y h1 h3 h6) (by unfold late1; rw [up_id' (f := (due1 t q)) (by omega), up_id' (by omega)]; exact hS0) (hFW.tr hF0)) ⟨Or.inr rfl, Or.inr rfl, Or.inr rfl, Or.inr rfl, Or.inr rfl, Or.inl rfl, trivial⟩ rfl
          · -- 57 F
            refine j_iconst C dX7_ageLoans_60 ?_
            refine j_goto C dX7_ageLoans_61 ?_
            refine j_istore5 C rfl dX7_ageLoans_65 ?_
            refine j_iload5 C dX7_ageLoans_67 ?_
            refine j_if_eq C (by decide) dX7_ageLoans_69 (fun hc => absurd hc (by decide)) (fun _ => ?_)
            refine j_aload0 C dX7_ageLoans_72 ?_
            refine j_getr C fX7_25 (at_st hB) rfl hS0.r.a2 dX7_ageLoans_73 ?_
            refine j_iload3 C dX7_ageLoans_76 ?_
            obtain ⟨la77, ha77, hb77, hc77⟩ := hS0.r.l q (by omega)
            refine j_aald C (at_lA hB) rfl (Cn := RX3) rfl (N := 4) rfl (by decide) ⟨by omega, by omega⟩ ha77 dX7_ageLoans_77 ?_
            refine j_geti C fX7_169 (at_lx hB hb77 hc77) rfl (hS0.l0 q (by omega) ha77) dX7_ageLoans_78 (fun hr78 => ?_)
            rw [eL0, Nat.add_zero] at hr78 ⊢
            refine j_aload0 C dX7_ageLoans_81 ?_
            refine j_cVI0 C (c_X7_allOars hB (by exact hS0) (by exact hd) (by exact hWd)) oX7_allOars kX7_205 ⟨_, rfl, rfl⟩ (at_st hB) ⟨by decide, by decide⟩ rfl (Nat.le_of_ble_eq_true rfl) ⟨by decide, by decide⟩ dX7_ageLoans_82 ?_
            rintro _ _ hz82 ⟨rfl, rfl⟩
            refine j_iload1 C dX7_ageLoans_85 ?_
            refine j_isub C dX7_ageLoans_86 ?_
            refine j_icmp_gt C ⟨by omega, by omega⟩ ⟨by omega, by omega⟩ dX7_ageLoans_87 (fun hc87 => ?_) (fun hc87 => ?_)
            · -- 87 T
              refine j_iload5 C dX7_ageLoans_98 ?_
              refine j_if_eq C (by decide) dX7_ageLoans_100 (fun hc => absurd hc (by decide)) (fun _ => ?_)
              refine j_aload0 C dX7_ageLoans_103 ?_
              refine j_getr C fX7_25 (at_st hB) rfl hS0.r.a2 dX7_ageLoans_104 ?_
              refine j_iload3 C dX7_ageLoans_107 ?_
              obtain ⟨la108, ha108, hb108, hc108⟩ := hS0.r.l q (by omega)
              refine j_aald C (at_lA hB) rfl (Cn := RX3) rfl (N := 4) rfl (by decide) ⟨by omega, by omega⟩ ha108 dX7_ageLoans_108 ?_
              refine j_dup C rfl dX7_ageLoans_109 ?_
              refine j_geti C fX7_208 (at_lx hB hb108 hc108) rfl (hS0.l2 q (by omega) ha108) dX7_ageLoans_110 (fun hr110 => ?_)
              rw [eL2] at hr110 ⊢
              refine j_iconst C dX7_ageLoans_113 ?_
              refine j_iadd C dX7_ageLoans_114 ?_
              refine j_putl2 C fX7_208 hB hS0 (k := q) (by omega) ha108 hb108 hc108 (by omega) ⟨by omega, by omega⟩ dX7_ageLoans_115 (fun W1 hS1 hF1 hK1 => ?_)
              refine j_aload0 C dX7_ageLoans_118 ?_
              refine j_dup C rfl dX7_ageLoans_119 ?_
              refine j_geti C fX7_51 (at_st hB) rfl hS1.c10 dX7_ageLoans_120 (fun hr120 => ?_)
              rw [up_ne _ _ (by omega)] at hr120 ⊢
              refine j_iconst C dX7_ageLoans_123 ?_
              refine j_iadd C dX7_ageLoans_124 ?_
              refine j_putc10 C fX7_51 hB hS1 (by omega) ⟨by omega, by omega⟩ dX7_ageLoans_125 (fun W2 hS2 hF2 hK2 => ?_)
              refine j_iinc3n C rfl dX7_ageLoans_128 ?_
              refine j_iinc4n C rfl dX7_ageLoans_131 ?_
              refine j_goto C dX7_ageLoans_134 ?_
              first
              | exact j_fg (ih15 Mt (takeL (due1 t q) q) q (k + 1) W9 (by omega) (takeL_RI hd (by omega)) (by omega) (by omega) (by rw [cL_take (by omega)]; omega) (by have e := ln_1 (t := t) (k := q) (by omega) hqc (by omega) (by omega); rw [cL_take (by omega), gdc, hct] at e; rw [← heq, show cL σ - k = (cL σ - k + q) - q by omega, e]; congr 1; omega) (fun y h1 h3 h6 => (takeL_at ⟨h1, h3⟩).trans (hdag y h1 h3 h6)) hS9 (hFW.tr (hF0.tr hF9))) ⟨Or.inr rfl, Or.inr rfl, Or.inr rfl, Or.inr rfl, Or.inr rfl, Or.inl rfl, trivial⟩ rfl
              | exact j_fg (ih15 (Mt + 1) (late1 (due1 t q) q 1) (q + 1) (k + 1) W2 (by omega) (late1_RI hd hq4 (by decide) (by omega)) (by omega) (by omega) (by rw [late1_c, gdc]; omega) (by have e := ln_2 (t := t) (k := q) (by omega) hqc (by omega) (z := 1) (by rw [if_pos (by omega)]); rw [late1_c, gdc, hct] at e; rw [← heq, show cL σ - k = (cL σ - k + q) - q by omega, e]; congr 1; omega) (fun y h1 h3 h6 => by unfold late1; rw [up_ne _ _ h6, up_ne _ _ (by omega)]; exact hdag y h1 h3 h6) (by unfold late1; exact hS2) (hFW.tr (hF0.tr (hF1.tr hF2)))) ⟨Or.inr rfl, Or.inr rfl, Or.inr rfl, Or.inr rfl, Or.inr rfl, Or.inl rfl, trivial⟩ rfl
              | exact j_fg (ih15 (Mt + 1) (late1 (due1 t q) q 0) (q + 1) (k + 1) W0 (by omega) (late1_RI hd hq4 (by decide) (by omega)) (by omega) (by omega) (by rw [late1_c, gdc]; omega) (by have e := ln_2 (t := t) (k := q) (by omega) hqc (by omega) (z := 0) (by rw [if_neg (by omega)]); rw [late1_c, gdc, hct] at e; rw [← heq, show cL σ - k = (cL σ - k + q) - q by omega, e]; congr 1; omega) (fun y h1 h3 h6 => by unfold late1; rw [up_ne _ _ h6, up_ne _ _ (by omega)]; exact hdag y h1 h3 h6) (by unfold late1; rw [up_id' (f := (due1 t q)) (by omega), up_id' (by omega)]; exact hS0) (hFW.tr hF0)) ⟨Or.inr rfl, Or.inr rfl, Or.inr rfl, Or.inr rfl, Or.inr rfl, Or.inl rfl, trivial⟩ rfl
            · -- 87 F
              refine j_aload0 C dX7_ageLoans_90 ?_
              refine j_iload3 C dX7_ageLoans_91 ?_
              refine j_cVV1 C (c_X7_removeLoan hB (by exact hS0) (by exact hd) (by exact hWd) (by omega)) oX7_removeLoan kX7_172 ⟨_, rfl, rfl⟩ (at_st hB) ⟨by decide, by decide⟩ rfl (Nat.le_of_ble_eq_true rfl) ⟨by decide, by decide⟩ dX7_ageLoans_92 ?_
              rintro W9 ⟨hF9, hS9⟩
              refine j_goto C dX7_ageLoans_95 ?_
              refine j_iinc4n C rfl dX7_ageLoans_131 ?_
              refine j_goto C dX7_ageLoans_134 ?_
              first
              | exact j_fg (ih15 Mt (takeL (due1 t q) q) q (k + 1) W9 (by omega) (takeL_RI hd (by omega)) (by omega) (by omega) (by rw [cL_take (by omega)]; omega) (by have e := ln_1 (t := t) (k := q) (by omega) hqc (by omega) (by omega); rw [cL_take (by omega), gdc, hct] at e; rw [← heq, show cL σ - k = (cL σ - k + q) - q by omega, e]; congr 1; omega) (fun y h1 h3 h6 => (takeL_at ⟨h1, h3⟩).trans (hdag y h1 h3 h6)) hS9 (hFW.tr (hF0.tr hF9))) ⟨Or.inr rfl, Or.inr rfl, Or.inr rfl, Or.inr rfl, Or.inr rfl, Or.inl rfl, trivial⟩ rfl
              | exact j_fg (ih15 (Mt + 1) (late1 (due1 t q) q 1) (q + 1) (k + 1) W9 (by omega) (late1_RI hd hq4 (by decide) (by omega)) (by omega) (by omega) (by rw [late1_c, gdc]; omega) (by have e := ln_2 (t := t) (k := q) (by omega) hqc (by omega) (z := 1) (by rw [if_pos (by omega)]); rw [late1_c, gdc, hct] at e; rw [← heq, show cL σ - k = (cL σ - k + q) - q by omega, e]; congr 1; omega) (fun y h1 h3 h6 => by unfold late1; rw [up_ne _ _ h6, up_ne _ _ (by omega)]; exact hdag y h1 h3 h6) (by unfold late1; exact hS9) (hFW.tr (hF0.tr (hF8.tr hF9)))) ⟨Or.inr rfl, Or.inr rfl, Or.inr rfl, Or.inr rfl, Or.inr rfl, Or.inl rfl, trivial⟩ rfl
              | exact j_fg (ih15 (Mt + 1) (late1 (due1 t q) q 0) (q + 1) (k + 1) W0 (by omega) (late1_RI hd hq4 (by decide) (by omega)) (by omega) (by omega) (by rw [late1_c, gdc]; omega) (by have e := ln_2 (t := t) (k := q) (by omega) hqc (by omega) (z := 0) (by rw [if_neg (by omega)]); rw [late1_c, gdc, hct] at e; rw [← heq, show cL σ - k = (cL σ - k + q) - q by omega, e]; congr 1; omega) (fun y h1 h3 h6 => by unfold late1; rw [up_ne _ _ h6, up_ne _ _ (by omega)]; exact hdag y h1 h3 h6) (by unfold late1; rw [up_id' (f := (due1 t q)) (by omega), up_id' (by omega)]; exact hS0) (hFW.tr hF0)) ⟨Or.inr rfl, Or.inr rfl, Or.inr rfl, Or.inr rfl, Or.inr rfl, Or.inl rfl, trivial⟩ rfl
        · -- 30 F
          refine j_aload0 C dX7_ageLoans_33 ?_
          refine j_getr C fX7_25 (at_st hB) rfl hSW.r.a2 dX7_ageLoans_34 ?_
          refine j_iload3 C dX7_ageLoans_37 ?_
          obtain ⟨la38, ha38, hb38, hc38⟩ := hSW.r.l q (by omega)
          refine j_aald C (at_lA hB) rfl (Cn := RX3) rfl (N := 4) rfl (by decide) ⟨by omega, by omega⟩ ha38 dX7_ageLoans_38 ?_
          refine j_dup C rfl dX7_ageLoans_39 ?_
          refine j_geti C fX7_202 (at_lx hB hb38 hc38) rfl (hSW.l1 q (by omega) ha38) dX7_ageLoans_40 (fun hr40 => ?_)
          rw [eL1] at hr40 ⊢
          refine j_iconst C dX7_ageLoans_43 ?_
          refine j_isub C dX7_ageLoans_44 ?_
          refine j_putl1 C fX7_202 hB hSW (k := q) (by omega) ha38 hb38 hc38 (by omega) ⟨by omega, by omega⟩ dX7_ageLoans_45 (fun W3 hS3 hF3 hK3 => ?_)
          have hS0 : St W3 B (due1 t q) := by unfold due1; rw [show max 0 (t (99 + 3 * q + 1) - 1) = t (99 + 3 * q + 1) - 1 by omega]; exact hS3
          have hF0 := hF3
          generalize W3 = W0 at hS0 hF0 ⊢
          refine j_aload0 C dX7_ageLoans_48 ?_
          refine j_getr C fX7_25 (at_st hB) rfl hS0.r.a2 dX7_ageLoans_49 ?_
          refine j_iload3 C dX7_ageLoans_52 ?_
          obtain ⟨la53, ha53, hb53, hc53⟩ := hS0.r.l q (by omega)
          refine j_aald C (at_lA hB) rfl (Cn := RX3) rfl (N := 4) rfl (by decide) ⟨by omega, by omega⟩ ha53 dX7_ageLoans_53 ?_
          refine j_geti C fX7_202 (at_lx hB hb53 hc53) rfl (hS0.l1 q (by omega) ha53) dX7_ageLoans_54 (fun hr54 => ?_)
          rw [eL1] at hr54 ⊢
          refine j_if_ne C ⟨by omega, by omega⟩ dX7_ageLoans_57 (fun hc57 => ?_) (fun hc57 => ?_)
          · -- 57 T
            refine j_iconst C dX7_ageLoans_64 ?_
            refine j_istore5 C rfl dX7_ageLoans_65 ?_
            refine j_iload5 C dX7_ageLoans_67 ?_
            refine j_if_eq C (by decide) dX7_ageLoans_69 (fun _ => ?_) (fun hc => absurd hc (by decide))
            refine j_iload5 C dX7_ageLoans_98 ?_
            refine j_if_eq C (by decide) dX7_ageLoans_100 (fun _ => ?_) (fun hc => absurd hc (by decide))
            refine j_iinc3n C rfl dX7_ageLoans_128 ?_
            refine j_iinc4n C rfl dX7_ageLoans_131 ?_
            refine j_goto C dX7_ageLoans_134 ?_
            first
            | exact j_fg (ih15 Mt (takeL (due1 t q) q) q (k + 1) W9 (by omega) (takeL_RI hd (by omega)) (by omega) (by omega) (by rw [cL_take (by omega)]; omega) (by have e := ln_1 (t := t) (k := q) (by omega) hqc (by omega) (by omega); rw [cL_take (by omega), gdc, hct] at e; rw [← heq, show cL σ - k = (cL σ - k + q) - q by omega, e]; congr 1; omega) (fun y h1 h3 h6 => (takeL_at ⟨h1, h3⟩).trans (hdag y h1 h3 h6)) hS9 (hFW.tr (hF0.tr hF9))) ⟨Or.inr rfl, Or.inr rfl, Or.inr rfl, Or.inr rfl, Or.inr rfl, Or.inl rfl, trivial⟩ rfl
            | exact j_fg (ih15 (Mt + 1) (late1 (due1 t q) q 0) (q + 1) (k + 1) W0 (by omega) (late1_RI hd hq4 (by decide) (by omega)) (by omega) (by omega) (by rw [late1_c, gdc]; omega) (by have e := ln_2 (t := t) (k := q) (by omega) hqc (by omega) (z := 0) (by rw [if_neg (by omega)]); rw [late1_c, gdc, hct] at e; rw [← heq, show cL σ - k = (cL σ - k + q) - q by omega, e]; congr 1; omega) (fun y h1 h3 h6 => by unfold late1; rw [up_ne _ _ h6, up_ne _ _ (by omega)]; exact hdag y h1 h3 h6) (by unfold late1; rw [up_id' (f := (due1 t q)) (by omega), up_id' (by omega)]; exact hS0) (hFW.tr hF0)) ⟨Or.inr rfl, Or.inr rfl, Or.inr rfl, Or.inr rfl, Or.inr rfl, Or.inl rfl, trivial⟩ rfl
          · -- 57 F
            refine j_iconst C dX7_ageLoans_60 ?_
            refine j_goto C dX7_ageLoans_61 ?_
            refine j_istore5 C rfl dX7_ageLoans_65 ?_
            refine j_iload5 C dX7_ageLoans_67 ?_
            refine j_if_eq C (by decide) dX7_ageLoans_69 (fun hc => absurd hc (by decide)) (fun _ => ?_)
            refine j_aload0 C dX7_ageLoans_72 ?_
            refine j_getr C fX7_25 (at_st hB) rfl hS0.r.a2 dX7_ageLoans_73 ?_
            refine j_iload3 C dX7_ageLoans_76 ?_
            obtain ⟨la77, ha77, hb77, hc77⟩ := hS0.r.l q (by omega)
            refine j_aald C (at_lA hB) rfl (Cn := RX3) rfl (N := 4) rfl (by decide) ⟨by omega, by omega⟩ ha77 dX7_ageLoans_77 ?_
            refine j_geti C fX7_169 (at_lx hB hb77 hc77) rfl (hS0.l0 q (by omega) ha77) dX7_ageLoans_78 (fun hr78 => ?_)
            rw [eL0, Nat.add_zero] at hr78 ⊢
            refine j_aload0 C dX7_ageLoans_81 ?_
            refine j_cVI0 C (c_X7_allOars hB (by exact hS0) (by exact hd) (by exact hWd)) oX7_allOars kX7_205 ⟨_, rfl, rfl⟩ (at_st hB) ⟨by decide, by decide⟩ rfl (Nat.le_of_ble_eq_true rfl) ⟨by decide, by decide⟩ dX7_ageLoans_82 ?_
            rintro _ _ hz82 ⟨rfl, rfl⟩
            refine j_iload1 C dX7_ageLoans_85 ?_
            refine j_isub C dX7_ageLoans_86 ?_
            refine j_icmp_gt C ⟨by omega, by omega⟩ ⟨by omega, by omega⟩ dX7_ageLoans_87 (fun hc87 => ?_) (fun hc87 => ?_)
            · -- 87 T
              refine j_iload5 C dX7_ageLoans_98 ?_
              refine j_if_eq C (by decide) dX7_ageLoans_100 (fun hc => absurd hc (by decide)) (fun _ => ?_)
              refine j_aload0 C dX7_ageLoans_103 ?_
              refine j_getr C fX7_25 (at_st hB) rfl hS0.r.a2 dX7_ageLoans_104 ?_
              refine j_iload3 C dX7_ageLoans_107 ?_
              obtain ⟨la108, ha108, hb108, hc108⟩ := hS0.r.l q (by omega)
              refine j_aald C (at_lA hB) rfl (Cn := RX3) rfl (N := 4) rfl (by decide) ⟨by omega, by omega⟩ ha108 dX7_ageLoans_108 ?_
              refine j_dup C rfl dX7_ageLoans_109 ?_
              refine j_geti C fX7_208 (at_lx hB hb108 hc108) rfl (hS0.l2 q (by omega) ha108) dX7_ageLoans_110 (fun hr110 => ?_)
              rw [eL2] at hr110 ⊢
              refine j_iconst C dX7_ageLoans_113 ?_
              refine j_iadd C dX7_ageLoans_114 ?_
              refine j_putl2 C fX7_208 hB hS0 (k := q) (by omega) ha108 hb108 hc108 (by omega) ⟨by omega, by omega⟩ dX7_ageLoans_115 (fun W4 hS4 hF4 hK4 => ?_)
              refine j_aload0 C dX7_ageLoans_118 ?_
              refine j_dup C rfl dX7_ageLoans_119 ?_
              refine j_geti C fX7_51 (at_st hB) rfl hS4.c10 dX7_ageLoans_120 (fun hr120 => ?_)
              rw [up_ne _ _ (by omega)] at hr120 ⊢
              refine j_iconst C dX7_ageLoans_123 ?_
              refine j_iadd C dX7_ageLoans_124 ?_
              refine j_putc10 C fX7_51 hB hS4 (by omega) ⟨by omega, by omega⟩ dX7_ageLoans_125 (fun W5 hS5 hF5 hK5 => ?_)
              refine j_iinc3n C rfl dX7_ageLoans_128 ?_
              refine j_iinc4n C rfl dX7_ageLoans_131 ?_
              refine j_goto C dX7_ageLoans_134 ?_
              first
              | exact j_fg (ih15 Mt (takeL (due1 t q) q) q (k + 1) W9 (by omega) (takeL_RI hd (by omega)) (by omega) (by omega) (by rw [cL_take (by omega)]; omega) (by have e := ln_1 (t := t) (k := q) (by omega) hqc (by omega) (by omega); rw [cL_take (by omega), gdc, hct] at e; rw [← heq, show cL σ - k = (cL σ - k + q) - q by omega, e]; congr 1; omega) (fun y h1 h3 h6 => (takeL_at ⟨h1, h3⟩).trans (hdag y h1 h3 h6)) hS9 (hFW.tr (hF0.tr hF9))) ⟨Or.inr rfl, Or.inr rfl, Or.inr rfl, Or.inr rfl, Or.inr rfl, Or.inl rfl, trivial⟩ rfl
              | exact j_fg (ih15 (Mt + 1) (late1 (due1 t q) q 1) (q + 1) (k + 1) W5 (by omega) (late1_RI hd hq4 (by decide) (by omega)) (by omega) (by omega) (by rw [late1_c, gdc]; omega) (by have e := ln_2 (t := t) (k := q) (by omega) hqc (by omega) (z := 1) (by rw [if_pos (by omega)]); rw [late1_c, gdc, hct] at e; rw [← heq, show cL σ - k = (cL σ - k + q) - q by omega, e]; congr 1; omega) (fun y h1 h3 h6 => by unfold late1; rw [up_ne _ _ h6, up_ne _ _ (by omega)]; exact hdag y h1 h3 h6) (by unfold late1; exact hS5) (hFW.tr (hF0.tr (hF4.tr hF5)))) ⟨Or.inr rfl, Or.inr rfl, Or.inr rfl, Or.inr rfl, Or.inr rfl, Or.inl rfl, trivial⟩ rfl
              | exact j_fg (ih15 (Mt + 1) (late1 (due1 t q) q 0) (q + 1) (k + 1) W0 (by omega) (late1_RI hd hq4 (by decide) (by omega)) (by omega) (by omega) (by rw [late1_c, gdc]; omega) (by have e := ln_2 (t := t) (k := q) (by omega) hqc (by omega) (z := 0) (by rw [if_neg (by omega)]); rw [late1_c, gdc, hct] at e; rw [← heq, show cL σ - k = (cL σ - k + q) - q by omega, e]; congr 1; omega) (fun y h1 h3 h6 => by unfold late1; rw [up_ne _ _ h6, up_ne _ _ (by omega)]; exact hdag y h1 h3 h6) (by unfold late1; rw [up_id' (f := (due1 t q)) (by omega), up_id' (by omega)]; exact hS0) (hFW.tr hF0)) ⟨Or.inr rfl, Or.inr rfl, Or.inr rfl, Or.inr rfl, Or.inr rfl, Or.inl rfl, trivial⟩ rfl
            · -- 87 F
              refine j_aload0 C dX7_ageLoans_90 ?_
              refine j_iload3 C dX7_ageLoans_91 ?_
              refine j_cVV1 C (c_X7_removeLoan hB (by exact hS0) (by exact hd) (by exact hWd) (by omega)) oX7_removeLoan kX7_172 ⟨_, rfl, rfl⟩ (at_st hB) ⟨by decide, by decide⟩ rfl (Nat.le_of_ble_eq_true rfl) ⟨by decide, by decide⟩ dX7_ageLoans_92 ?_
              rintro W9 ⟨hF9, hS9⟩
              refine j_goto C dX7_ageLoans_95 ?_
              refine j_iinc4n C rfl dX7_ageLoans_131 ?_
              refine j_goto C dX7_ageLoans_134 ?_
              first
              | exact j_fg (ih15 Mt (takeL (due1 t q) q) q (k + 1) W9 (by omega) (takeL_RI hd (by omega)) (by omega) (by omega) (by rw [cL_take (by omega)]; omega) (by have e := ln_1 (t := t) (k := q) (by omega) hqc (by omega) (by omega); rw [cL_take (by omega), gdc, hct] at e; rw [← heq, show cL σ - k = (cL σ - k + q) - q by omega, e]; congr 1; omega) (fun y h1 h3 h6 => (takeL_at ⟨h1, h3⟩).trans (hdag y h1 h3 h6)) hS9 (hFW.tr (hF0.tr hF9))) ⟨Or.inr rfl, Or.inr rfl, Or.inr rfl, Or.inr rfl, Or.inr rfl, Or.inl rfl, trivial⟩ rfl
              | exact j_fg (ih15 (Mt + 1) (late1 (due1 t q) q 1) (q + 1) (k + 1) W9 (by omega) (late1_RI hd hq4 (by decide) (by omega)) (by omega) (by omega) (by rw [late1_c, gdc]; omega) (by have e := ln_2 (t := t) (k := q) (by omega) hqc (by omega) (z := 1) (by rw [if_pos (by omega)]); rw [late1_c, gdc, hct] at e; rw [← heq, show cL σ - k = (cL σ - k + q) - q by omega, e]; congr 1; omega) (fun y h1 h3 h6 => by unfold late1; rw [up_ne _ _ h6, up_ne _ _ (by omega)]; exact hdag y h1 h3 h6) (by unfold late1; exact hS9) (hFW.tr (hF0.tr (hF8.tr hF9)))) ⟨Or.inr rfl, Or.inr rfl, Or.inr rfl, Or.inr rfl, Or.inr rfl, Or.inl rfl, trivial⟩ rfl
              | exact j_fg (ih15 (Mt + 1) (late1 (due1 t q) q 0) (q + 1) (k + 1) W0 (by omega) (late1_RI hd hq4 (by decide) (by omega)) (by omega) (by omega) (by rw [late1_c, gdc]; omega) (by have e := ln_2 (t := t) (k := q) (by omega) hqc (by omega) (z := 0) (by rw [if_neg (by omega)]); rw [late1_c, gdc, hct] at e; rw [← heq, show cL σ - k = (cL σ - k + q) - q by omega, e]; congr 1; omega) (fun y h1 h3 h6 => by unfold late1; rw [up_ne _ _ h6, up_ne _ _ (by omega)]; exact hdag y h1 h3 h6) (by unfold late1; rw [up_id' (f := (due1 t q)) (by omega), up_id' (by omega)]; exact hS0) (hFW.tr hF0)) ⟨Or.inr rfl, Or.inr rfl, Or.inr rfl, Or.inr rfl, Or.inr rfl, Or.inl rfl, trivial⟩ rfl
  exact j_fg (loop15 _ M σ 0 0 ω (Nat.lt_succ_self _) hI (by omega) (Nat.zero_le _) (by omega) rfl (fun _ _ _ _ => rfl) hS Fr.rf) ⟨Or.inr rfl, Or.inr rfl, Or.inr rfl, Or.inr rfl, Or.inr rfl, Or.inr rfl, trivial⟩ rfl
