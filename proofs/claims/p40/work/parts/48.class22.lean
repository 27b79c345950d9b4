set_option maxRecDepth 100000 in
set_option maxHeartbeats 4000000 in
theorem c_X8_homeIn {Γ : Ga} {l : Launch} {ω : Wo} (hsl : l.stackTraces = false) (hR : CR ω) {σ : Row} (hS : St ω 1 σ) {M : Int} (hI : RI M σ) (hWI : WI σ)  {a : Int} (ha : Rg a) (hM : M + 6000 ≤ 100000000) (hq : QR ω 22) : XI Γ l yX8_homeIn cX8_homeIn 3 .int 7 2 [.ref (rl Γ 0), .int (iI a)] ω (fun z ω' => z = (qHome σ a).2 ∧ (qHome σ a).1 = 0 ∧ KC ω ω' ∧ QR ω' 22) (fun E ω' => KC ω ω' ∧ QR ω' 22 ∧ ((E = eIdx ∧ (qHome σ a).1 = 1) ∨ (E = eNo ∧ (qHome σ a).1 = 2))) := by
  refine MetX.ofJ (k := 1) [some (.ref (rl Γ 0)), some (.int (iI a)), none] (by decide) rfl rfl rfl (fun p e s mm args below meth c C hK2 hxt hrt => ?_)
  have hB := bs1
  have g := hI.s
  have gc := hI.c
  have gM := hI.2.1
  have hcc := hI.cc
  refine j_aload0 C dX8_homeIn_0 ?_
  refine j_iload1 C dX8_homeIn_1 ?_
  refine j_xVV1 C hK2 hxt (c_X8_requireBoat hsl (by exact hR) (by exact hS) (by exact hI) (by exact hWI) ⟨by omega, by omega⟩) oX8_requireBoat kX8_157 ⟨_, rfl, rfl⟩ at_0 ⟨by decide, by decide⟩ rfl (Nat.le_of_ble_eq_true rfl) ⟨by decide, by decide⟩ ⟨by decide, by decide⟩ dX8_homeIn_2 (by rintro E ω1 ⟨rfl, rfl, hE⟩; exact ⟨KC.rf _, hq, Or.inl ⟨rfl, (by unfold qHome; rw [if_pos hE])⟩⟩) ?_
  rintro _ ⟨hc2, rfl⟩
  obtain ⟨k, rfl⟩ := Int.eq_ofNat_of_zero_le hc2.1
  refine j_aload0 C dX8_homeIn_5 ?_
  refine j_iload1 C dX8_homeIn_6 ?_
  refine j_xVV1 C hK2 hxt (c_X8_requireOut hsl (by exact hR) (by exact hS) (by exact hI) (by exact hWI) (by omega)) oX8_requireOut kX8_227 ⟨_, rfl, rfl⟩ at_0 ⟨by decide, by decide⟩ rfl (Nat.le_of_ble_eq_true rfl) ⟨by decide, by decide⟩ ⟨by decide, by decide⟩ dX8_homeIn_7 (by rintro E ω1 ⟨rfl, hE, rfl⟩; exact ⟨KC.rf _, hq, Or.inr ⟨rfl, (by unfold qHome; rw [if_neg (by omega), if_pos hE])⟩⟩) ?_
  rintro _ ⟨ho1, rfl⟩
  refine j_aload0 C dX8_homeIn_10 ?_
  refine j_getr C fX8_16 at_0 rfl hR.2.1 dX8_homeIn_11 ?_
  refine j_aload0 C dX8_homeIn_14 ?_
  refine j_getr C fX8_12 at_0 rfl hR.1 dX8_homeIn_15 ?_
  refine j_cVV1 C (c_X7_copyFrom bs22 bs1 (by omega) hq (by exact hS) (by exact hI)) oX7_copyFrom kX8_212 ⟨_, rfl, rfl⟩ (at_st bs22) ⟨by decide, by decide⟩ rfl (Nat.le_of_ble_eq_true rfl) ⟨by decide, by decide⟩ dX8_homeIn_18 ?_
  rintro W9 ⟨hF9, hS9⟩
  refine j_iconst C dX8_homeIn_21 ?_
  refine j_istore2 C rfl dX8_homeIn_22 ?_
  have loop23 : ∀ (N : Nat) (n : Nat) (W : Wo), (21 - n) < N → (n ≤ 21) → (St W 22 (hoursUp σ n)) → (KC ω W) → (homeUp σ (k : Int) 21 0 = homeUp σ (k : Int) (21 - n) n) → J Γ p l e (rmk 7 2 12) s mm args below meth c (vx_MQ below (QI Γ (fun z ω' => z = (qHome σ (k : Int)).2 ∧ (qHome σ (k : Int)).1 = 0 ∧ KC ω ω' ∧ QR ω' 22)) (XX Γ (fun E ω' => KC ω ω' ∧ QR ω' 22 ∧ ((E = eIdx ∧ (qHome σ (k : Int)).1 = 1) ∨ (E = eNo ∧ (qHome σ (k : Int)).1 = 2)))) args s 2 12 (gA Γ)) 243 2 12 23 [some (.ref (rl Γ 0)), some (.int (iI ((k : Nat) : Int))), some (.int (iI ((n : Nat) : Int)))] [] W := by
    intro N
    induction N with
    | zero => intro n W hN; exact absurd hN (Nat.not_lt_zero _)
    | succ N ih23 =>
      intro n W hN hn0 hSW hKW he1
      have hIn := hoursUp_RI hI n (by omega)
      have hWn := WI_hours hI hWI n (by omega)
      have e2n : hoursUp σ n 2 = σ 2 := hoursUp_at hI (y := 2) (by omega) n (by omega)
      have ecB : cB (hoursUp σ n) = cB σ := cB_e e2n
      have hRW := hKW.cr hR
      have hgn := hIn.s
      have gbn := hIn.b k (by omega)
      have gwn := hWn.2.2.2 k (by omega)
      refine j_iload2 C dX8_homeIn_23 ?_
      refine j_bipush C (by decide) dX8_homeIn_24 ?_
      refine j_icmp_ge C ⟨by omega, by omega⟩ ⟨by omega, by omega⟩ dX8_homeIn_26 (fun hc26 => ?_) (fun hc26 => ?_)
      · -- 26 T
        refine j_iload2 C dX8_homeIn_59 ?_
        refine j_xr (by decide) ?_
        refine j_iret C hrt dX8_homeIn_60 ⟨by omega, by omega⟩ ?_
        have hc9 : homeUp σ (k : Int) 21 0 = n := by
          rw [he1]
          first
          | exact homeUp_e (by omega)
          | (have hn9 : n = 21 := (by omega); subst hn9; rfl)
        refine ⟨?_, ?_, hKW, hSW.q⟩ <;> (unfold qHome; rw [if_neg (by omega), if_neg (by omega)])
        rw [hc9]
      · -- 26 F
        refine j_aload0 C dX8_homeIn_29 ?_
        refine j_getr C fX8_16 at_0 rfl hRW.2.1 dX8_homeIn_30 ?_
        refine j_getr C fX8_161 (at_st bs22) rfl hSW.r.a1 dX8_homeIn_33 ?_
        refine j_iload1 C dX8_homeIn_36 ?_
        refine j_aald C (at_bA bs22) rfl (Cn := RX1) rfl (N := 3) rfl (by decide) ⟨by omega, by omega⟩ (hSW.r.b k (by omega)) dX8_homeIn_37 ?_
        refine j_cVI0 C (c_X1_isOut (at_b bs22 (by omega)) (hSW.b2 k (by omega))) oX1_isOut kX8_173 ⟨_, rfl, rfl⟩ (at_b bs22 (by omega)) ⟨by decide, by decide⟩ rfl (Nat.le_of_ble_eq_true rfl) ⟨by decide, by decide⟩ dX8_homeIn_38 ?_
        rintro _ _ hz38 ⟨rfl, rfl⟩
        refine j_ifeqb C dX8_homeIn_41 (fun hc41 => ?_) (fun hc41 => ?_)
        · -- 41 T
          refine j_aload0 C dX8_homeIn_44 ?_
          refine j_getr C fX8_16 at_0 rfl hRW.2.1 dX8_homeIn_45 ?_
          refine j_iconst C dX8_homeIn_48 ?_
          refine j_cVI1 C (c_X7_passHours bs22 (by exact hSW) (by exact hIn) (by exact hWn) (by omega) (by omega)) oX7_passHours kX8_219 ⟨_, rfl, rfl⟩ (at_st bs22) ⟨by decide, by decide⟩ rfl (Nat.le_of_ble_eq_true rfl) ⟨by decide, by decide⟩ dX8_homeIn_49 ?_
          rintro _ W8 hz8 ⟨-, hF8, hS8⟩
          refine j_pop C rfl dX8_homeIn_52 ?_
          refine j_iinc2n C rfl dX8_homeIn_53 ?_
          refine j_goto C dX8_homeIn_56 ?_
          exact j_fg (ih23 (n + 1) W8 (by omega) (by omega) hS8 (hKW.fr hF8) (by rw [he1, show 21 - n = (21 - (n + 1)) + 1 by omega, homeUp_s (by omega)])) ⟨Or.inr rfl, Or.inr rfl, Or.inr rfl, trivial⟩ rfl
        · -- 41 F
          refine j_iload2 C dX8_homeIn_59 ?_
          refine j_xr (by decide) ?_
          refine j_iret C hrt dX8_homeIn_60 ⟨by omega, by omega⟩ ?_
          have hc9 : homeUp σ (k : Int) 21 0 = n := by
            rw [he1]
            first
            | exact homeUp_e (by omega)
            | (have hn9 : n = 21 := (by omega); subst hn9; rfl)
          refine ⟨?_, ?_, hKW, hSW.q⟩ <;> (unfold qHome; rw [if_neg (by omega), if_neg (by omega)])
          rw [hc9]
  exact j_fg (loop23 _ 0 W9 (Nat.lt_succ_self _) (Nat.zero_le _) hS9 ((KC.rf ω).fr hF9) rfl) ⟨Or.inr rfl, Or.inr rfl, Or.inr rfl, trivial⟩ rfl
