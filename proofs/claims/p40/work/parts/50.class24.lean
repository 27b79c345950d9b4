set_option maxRecDepth 100000 in
set_option maxHeartbeats 4000000 in
theorem c_X8_carryOutAll {Γ : Ga} {l : Launch} {ω : Wo} (hsl : l.stackTraces = false) (hR : CR ω) {σ : Row} (hS : St ω 1 σ) {M : Int} (hI : RI M σ) (hWI : WI σ)  {K : Nat} {D : Nat → Nat} {A B : Nat → Int} (hK : K ≤ 20) (hM : M + 70000 ≤ 100000000) (hs : SP ω K D A B) : XI Γ l yX8_carryOutAll cX8_carryOutAll 2 .int 7 0 [.ref (rl Γ 0)] ω (fun z ω' => z = (excN σ D A B K 0 : Int) ∧ excN σ D A B K 0 ≤ K ∧ St ω' 1 (exc σ D A B (excN σ D A B K 0)) ∧ KX ω ω' ∧ (excN σ D A B K 0 < K → ω'.1 67 0 = (jd (D (excN σ D A B K 0)) (exc σ D A B (excN σ D A B K 0)) (A (excN σ D A B K 0)) (B (excN σ D A B K 0))).1 ∧ ω'.1 67 1 = (jd (D (excN σ D A B K 0)) (exc σ D A B (excN σ D A B K 0)) (A (excN σ D A B K 0)) (B (excN σ D A B K 0))).2) ∧ ∀ j, j < excN σ D A B K 0 → (jd (D j) (exc σ D A B j) (A j) (B j)).1 = 0) (fun E ω' => False) := by
  refine MetX.ofJ (k := 1) [some (.ref (rl Γ 0)), none] (by decide) rfl rfl rfl (fun p e s mm args below meth c C hK2 hxt hrt => ?_)
  have hB := bs1
  have g := hI.s
  have gc := hI.c
  have gM := hI.2.1
  refine j_iconst C dX8_carryOutAll_0 ?_
  refine j_istore1 C rfl dX8_carryOutAll_1 ?_
  have loop2 : ∀ (N : Nat) (k : Nat) (W : Wo), (K - k) < N → (k ≤ K) → (St W 1 (exc σ D A B k)) → (KX ω W) → (excN σ D A B K 0 = excN σ D A B (K - k) k) → (∀ j, j < k → (jd (D j) (exc σ D A B j) (A j) (B j)).1 = 0) → J Γ p l e (rmk 7 0 0) s mm args below meth c (vx_MQ below (QI Γ (fun z ω' => z = (excN σ D A B K 0 : Int) ∧ excN σ D A B K 0 ≤ K ∧ St ω' 1 (exc σ D A B (excN σ D A B K 0)) ∧ KX ω ω' ∧ (excN σ D A B K 0 < K → ω'.1 67 0 = (jd (D (excN σ D A B K 0)) (exc σ D A B (excN σ D A B K 0)) (A (excN σ D A B K 0)) (B (excN σ D A B K 0))).1 ∧ ω'.1 67 1 = (jd (D (excN σ D A B K 0)) (exc σ D A B (excN σ D A B K 0)) (A (excN σ D A B K 0)) (B (excN σ D A B K 0))).2) ∧ ∀ j, j < excN σ D A B K 0 → (jd (D j) (exc σ D A B j) (A j) (B j)).1 = 0)) (XX Γ (fun E ω' => False)) args s 0 0 (gA Γ)) 243 0 0 2 [some (.ref (rl Γ 0)), some (.int (iI ((k : Nat) : Int)))] [] W := by
    intro N
    induction N with
    | zero => intro k W hN; exact absurd hN (Nat.not_lt_zero _)
    | succ N ih2 =>
      intro k W hN hk0 hSW hKW he1 hal
      have hRW := hKW.cr hR
      have hsW := hKW.sp hs
      have hsk := fun h : k < K => hsW.2 k h
      have hIk := exc_keep (D := D) (A := A) (B := B) hI hWI k (by omega) (fun j hj => ⟨by have := (hs.2 j (by omega)).1; omega, hal j hj⟩)
      refine j_iload1 C dX8_carryOutAll_2 ?_
      refine j_aload0 C dX8_carryOutAll_3 ?_
      refine j_getr C fX8_50 at_0 rfl hRW.2.2.2.2.2.2.2.1 dX8_carryOutAll_4 ?_
      refine j_geti C fX8_293 at_68 rfl hsW.1 dX8_carryOutAll_7 (fun hr7 => ?_)
      refine j_icmp_ge C ⟨by omega, by omega⟩ ⟨by omega, by omega⟩ dX8_carryOutAll_10 (fun hc10 => ?_) (fun hc10 => ?_)
      · -- 10 T
        refine j_aload0 C dX8_carryOutAll_94 ?_
        refine j_getr C fX8_50 at_0 rfl hRW.2.2.2.2.2.2.2.1 dX8_carryOutAll_95 ?_
        refine j_geti C fX8_293 at_68 rfl hsW.1 dX8_carryOutAll_98 (fun hr98 => ?_)
        refine j_xr (by decide) ?_
        refine j_iret C hrt dX8_carryOutAll_101 ⟨by omega, by omega⟩ ?_
        have hkK : k = K := by omega
        subst hkK
        have hz0 : excN σ D A B k 0 = k := by
          rw [he1, show k - k = 0 by omega]; rfl
        rw [hz0]
        exact ⟨rfl, by omega, hSW, hKW, fun h => absurd h (by omega), hal⟩
      · -- 10 F
        refine j_aload0 C dX8_carryOutAll_13 ?_
        refine j_aload0 C dX8_carryOutAll_14 ?_
        refine j_getr C fX8_50 at_0 rfl hRW.2.2.2.2.2.2.2.1 dX8_carryOutAll_15 ?_
        refine j_getr C fX8_446 at_68 rfl hRW.2.2.2.2.2.2.2.2.2.2.1 dX8_carryOutAll_18 ?_
        refine j_iload1 C dX8_carryOutAll_21 ?_
        refine j_aald C at_70 rfl (Cn := RX2) rfl (N := 20) rfl (by decide) ⟨by omega, by omega⟩ (hsk (by omega)).2.1 dX8_carryOutAll_22 ?_
        rw [rl_ad]
        refine j_aload0 C dX8_carryOutAll_23 ?_
        refine j_getr C fX8_50 at_0 rfl hRW.2.2.2.2.2.2.2.1 dX8_carryOutAll_24 ?_
        refine j_getr C fX8_450 at_68 rfl hRW.2.2.2.2.2.2.2.2.2.2.2.1 dX8_carryOutAll_27 ?_
        refine j_iload1 C dX8_carryOutAll_30 ?_
        refine j_iald C at_71 ⟨rfl, rfl⟩ (N := 20) rfl (by decide) ⟨by omega, by omega⟩ (hsk (by omega)).2.2.1 dX8_carryOutAll_31 (fun hr31 => ?_)
        refine j_aload0 C dX8_carryOutAll_32 ?_
        refine j_getr C fX8_50 at_0 rfl hRW.2.2.2.2.2.2.2.1 dX8_carryOutAll_33 ?_
        refine j_getr C fX8_453 at_68 rfl hRW.2.2.2.2.2.2.2.2.2.2.2.2.1 dX8_carryOutAll_36 ?_
        refine j_iload1 C dX8_carryOutAll_39 ?_
        refine j_iald C at_72 ⟨rfl, rfl⟩ (N := 20) rfl (by decide) ⟨by omega, by omega⟩ (hsk (by omega)).2.2.2.1 dX8_carryOutAll_40 (fun hr40 => ?_)
        refine j_xVV3 C hK2 hxt (c_X8_judge hsl (by exact hRW) (by exact hSW) (by exact hIk.1) (by exact hIk.2) (hsk (by omega)).1 (hsk (by omega)).2.2.2.2.1 (hsk (by omega)).2.2.2.2.2) oX8_judge kX8_376 ⟨_, rfl, rfl⟩ at_0 ⟨by decide, by decide⟩ rfl (Nat.le_of_ble_eq_true rfl) ⟨by decide, by decide⟩ ⟨by decide, by decide⟩ dX8_carryOutAll_41 (fun _ _ hE => hE.elim) ?_
        rintro _ rfl
        refine j_aload0 C dX8_carryOutAll_44 ?_
        refine j_getr C fX8_44 at_0 rfl hRW.2.2.2.2.2.2.1 dX8_carryOutAll_45 ?_
        refine j_cVI0 C (c_X5_isThere at_67) oX5_isThere kX8_216 ⟨_, rfl, rfl⟩ at_67 ⟨by decide, by decide⟩ rfl (Nat.le_of_ble_eq_true rfl) ⟨by decide, by decide⟩ dX8_carryOutAll_48 ?_
        rintro _ _ hz48 ⟨rfl, rfl⟩
        simp only [RF_0] at hz48 ⊢
        refine j_ifeqb C dX8_carryOutAll_51 (fun hc51 => ?_) (fun hc51 => ?_)
        · -- 51 T
          refine j_iload1 C dX8_carryOutAll_54 ?_
          refine j_xr (by decide) ?_
          refine j_iret C hrt dX8_carryOutAll_55 ⟨by omega, by omega⟩ ?_
          have hz0 : excN σ D A B K 0 = k := by
            rw [he1, show K - k = (K - (k + 1)) + 1 by omega]; exact excN_e (by assumption)
          rw [hz0]
          exact ⟨rfl, by omega, hSW.rf bs1 hIk.1, hKW.rF, fun _ => ⟨RF_0 _ _ _ _, RF_1 _ _ _ _⟩, hal⟩
        · -- 51 F
          refine j_aload0 C dX8_carryOutAll_56 ?_
          refine j_aload0 C dX8_carryOutAll_57 ?_
          refine j_getr C fX8_50 at_0 rfl hRW.2.2.2.2.2.2.2.1 dX8_carryOutAll_58 ?_
          refine j_getr C fX8_446 at_68 rfl hRW.2.2.2.2.2.2.2.2.2.2.1 dX8_carryOutAll_61 ?_
          refine j_iload1 C dX8_carryOutAll_64 ?_
          refine j_aald C at_70 rfl (Cn := RX2) rfl (N := 20) rfl (by decide) ⟨by omega, by omega⟩ (hsk (by omega)).2.1 dX8_carryOutAll_65 ?_
          rw [rl_ad]
          refine j_aload0 C dX8_carryOutAll_66 ?_
          refine j_getr C fX8_50 at_0 rfl hRW.2.2.2.2.2.2.2.1 dX8_carryOutAll_67 ?_
          refine j_getr C fX8_450 at_68 rfl hRW.2.2.2.2.2.2.2.2.2.2.2.1 dX8_carryOutAll_70 ?_
          refine j_iload1 C dX8_carryOutAll_73 ?_
          refine j_iald C at_71 ⟨rfl, rfl⟩ (N := 20) rfl (by decide) ⟨by omega, by omega⟩ (hsk (by omega)).2.2.1 dX8_carryOutAll_74 (fun hr74 => ?_)
          refine j_aload0 C dX8_carryOutAll_75 ?_
          refine j_getr C fX8_50 at_0 rfl hRW.2.2.2.2.2.2.2.1 dX8_carryOutAll_76 ?_
          refine j_getr C fX8_453 at_68 rfl hRW.2.2.2.2.2.2.2.2.2.2.2.2.1 dX8_carryOutAll_79 ?_
          refine j_iload1 C dX8_carryOutAll_82 ?_
          refine j_iald C at_72 ⟨rfl, rfl⟩ (N := 20) rfl (by decide) ⟨by omega, by omega⟩ (hsk (by omega)).2.2.2.1 dX8_carryOutAll_83 (fun hr83 => ?_)
          refine j_xVI3 C hK2 hxt (c_X8_carryOut hsl (by exact hRW) (by exact hSW.rf bs1 hIk.1) (by exact hIk.1) (by exact hIk.2) (hsk (by omega)).1 (hsk (by omega)).2.2.2.2.1 (hsk (by omega)).2.2.2.2.2 (by omega) (by omega)) oX8_carryOut kX8_385 ⟨_, rfl, rfl⟩ at_0 ⟨by decide, by decide⟩ rfl (Nat.le_of_ble_eq_true rfl) ⟨by decide, by decide⟩ ⟨by decide, by decide⟩ dX8_carryOutAll_84 (fun _ _ hE => hE.elim) ?_
          rintro _ W9 hz9 ⟨-, hF9, hS9⟩
          refine j_pop C rfl dX8_carryOutAll_87 ?_
          refine j_iinc1n C rfl dX8_carryOutAll_88 ?_
          refine j_goto C dX8_carryOutAll_91 ?_
          exact j_fg (ih2 (k + 1) W9 (by omega) (by omega) hS9 (hKW.rF.fr hF9) (by rw [he1, show K - k = (K - (k + 1)) + 1 by omega, excN_s (by omega)]) (fun j hj => by by_cases e : j = k; (subst e; omega); exact hal j (by omega))) ⟨Or.inr rfl, Or.inr rfl, trivial⟩ rfl
  exact j_fg (loop2 _ 0 ω (Nat.lt_succ_self _) (Nat.zero_le _) hS (KX.rf ω) rfl (fun _ h => absurd h (by omega))) ⟨Or.inr rfl, Or.inr rfl, trivial⟩ rfl
