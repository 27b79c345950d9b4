set_option maxRecDepth 100000 in
set_option maxHeartbeats 4000000 in
theorem c_X8_callableIn {Γ : Ga} {l : Launch} {ω : Wo} (hsl : l.stackTraces = false) (hR : CR ω) {σ : Row} (hS : St ω 1 σ) {M : Int} (hI : RI M σ) (hWI : WI σ)  {a : Int} (ha : Rg a) (hM : M + 6000 ≤ 100000000) (hq : QR ω 22) : XI Γ l yX8_callableIn cX8_callableIn 3 .int 7 2 [.ref (rl Γ 0), .int (iI a)] ω (fun z ω' => z = (qCallable σ a).2 ∧ (qCallable σ a).1 = 0 ∧ KC ω ω' ∧ QR ω' 22) (fun E ω' => KC ω ω' ∧ QR ω' 22 ∧ ((E = eIdx ∧ (qCallable σ a).1 = 1) ∨ (E = eNo ∧ (qCallable σ a).1 = 2))) := by
  refine MetX.ofJ (k := 1) [some (.ref (rl Γ 0)), some (.int (iI a)), none] (by decide) rfl rfl rfl (fun p e s mm args below meth c C hK2 hxt hrt => ?_)
  have hB := bs1
  have g := hI.s
  have gc := hI.c
  have gM := hI.2.1
  have hcc := hI.cc
  refine j_aload0 C dX8_callableIn_0 ?_
  refine j_iload1 C dX8_callableIn_1 ?_
  refine j_xVV1 C hK2 hxt (c_X8_requireBoat hsl (by exact hR) (by exact hS) (by exact hI) (by exact hWI) ⟨by omega, by omega⟩) oX8_requireBoat kX8_157 ⟨_, rfl, rfl⟩ at_0 ⟨by decide, by decide⟩ rfl (Nat.le_of_ble_eq_true rfl) ⟨by decide, by decide⟩ ⟨by decide, by decide⟩ dX8_callableIn_2 (by rintro E ω1 ⟨rfl, rfl, hE⟩; exact ⟨KC.rf _, hq, Or.inl ⟨rfl, (by unfold qCallable; rw [if_pos hE])⟩⟩) ?_
  rintro _ ⟨hc2, rfl⟩
  refine j_aload0 C dX8_callableIn_5 ?_
  refine j_getr C fX8_16 at_0 rfl hR.2.1 dX8_callableIn_6 ?_
  refine j_aload0 C dX8_callableIn_9 ?_
  refine j_getr C fX8_12 at_0 rfl hR.1 dX8_callableIn_10 ?_
  refine j_cVV1 C (c_X7_copyFrom bs22 bs1 (by omega) hq (by exact hS) (by exact hI)) oX7_copyFrom kX8_212 ⟨_, rfl, rfl⟩ (at_st bs22) ⟨by decide, by decide⟩ rfl (Nat.le_of_ble_eq_true rfl) ⟨by decide, by decide⟩ dX8_callableIn_13 ?_
  rintro W9 ⟨hF9, hS9⟩
  refine j_iconst C dX8_callableIn_16 ?_
  refine j_istore2 C rfl dX8_callableIn_17 ?_
  have loop18 : ∀ (N : Nat) (n : Nat) (W : Wo), (49 - n) < N → (n ≤ 49) → (St W 22 (hoursUp σ n)) → (KC ω W) → (n ≤ 48 → callUp σ a 48 0 = callUp σ a (48 - n) n) → (n = 49 → 0 < whyN (hoursUp σ 48) a ∧ callUp σ a 48 0 = 48) → J Γ p l e (rmk 7 2 12) s mm args below meth c (vx_MQ below (QI Γ (fun z ω' => z = (qCallable σ a).2 ∧ (qCallable σ a).1 = 0 ∧ KC ω ω' ∧ QR ω' 22)) (XX Γ (fun E ω' => KC ω ω' ∧ QR ω' 22 ∧ ((E = eIdx ∧ (qCallable σ a).1 = 1) ∨ (E = eNo ∧ (qCallable σ a).1 = 2)))) args s 2 12 (gA Γ)) 243 1 6 18 [some (.ref (rl Γ 0)), some (.int (iI a)), some (.int (iI ((n : Nat) : Int)))] [] W := by
    intro N
    induction N with
    | zero => intro n W hN; exact absurd hN (Nat.not_lt_zero _)
    | succ N ih18 =>
      intro n W hN hn0 hSW hKW he1 he2
      have hIn := hoursUp_RI hI n (by omega)
      have hWn := WI_hours hI hWI n (by omega)
      have e2n : hoursUp σ n 2 = σ 2 := hoursUp_at hI (y := 2) (by omega) n (by omega)
      have hRW := hKW.cr hR
      have hnn := whyN_nn (hoursUp σ n) a
      have hjw : (jd 4 (hoursUp σ n) a 1).1 = whyN (hoursUp σ n) a := jd4_why (by omega)
      have hgn := hIn.s
      refine j_iload2 C dX8_callableIn_18 ?_
      refine j_bipush C (by decide) dX8_callableIn_19 ?_
      refine j_icmp_gt C ⟨by omega, by omega⟩ ⟨by omega, by omega⟩ dX8_callableIn_21 (fun hc21 => ?_) (fun hc21 => ?_)
      · -- 21 T
        refine j_throwN hsl C hK2 hxt th_222 (List.mem_of_getElem? (i := 6) rfl) rfl dX8_callableIn_64 dX8_callableIn_67 dX8_callableIn_68 dX8_callableIn_70 dX8_callableIn_73 (by decide) (Nat.le_of_ble_eq_true rfl) ⟨by decide, by decide⟩ ⟨by decide, by decide⟩ ?_
        obtain ⟨hw9, hc9⟩ := he2 (by omega)
        refine ⟨hKW, hSW.q, Or.inr ⟨rfl, ?_⟩⟩
        unfold qCallable
        rw [if_neg (by omega), hc9, if_pos (by omega)]
      · -- 21 F
        refine j_aload0 C dX8_callableIn_24 ?_
        refine j_getr C fX8_16 at_0 rfl hRW.2.1 dX8_callableIn_25 ?_
        refine j_iload1 C dX8_callableIn_28 ?_
        refine j_iconst C dX8_callableIn_29 ?_
        refine j_aload0 C dX8_callableIn_30 ?_
        refine j_getr C fX8_44 at_0 rfl hRW.2.2.2.2.2.2.1 dX8_callableIn_31 ?_
        refine j_cVV3 C (c_X7_judgeCall bs22 (by exact hSW) (by exact hIn) (by exact hWn) ⟨by omega, by omega⟩ ⟨by omega, by omega⟩) oX7_judgeCall kX8_205 ⟨_, rfl, rfl⟩ (at_st bs22) ⟨by decide, by decide⟩ rfl (Nat.le_of_ble_eq_true rfl) ⟨by decide, by decide⟩ dX8_callableIn_34 ?_
        rintro _ rfl
        refine j_aload0 C dX8_callableIn_37 ?_
        refine j_getr C fX8_44 at_0 rfl hRW.2.2.2.2.2.2.1 dX8_callableIn_38 ?_
        refine j_cVI0 C (c_X5_isThere at_67) oX5_isThere kX8_216 ⟨_, rfl, rfl⟩ at_67 ⟨by decide, by decide⟩ rfl (Nat.le_of_ble_eq_true rfl) ⟨by decide, by decide⟩ dX8_callableIn_41 ?_
        rintro _ _ hz41 ⟨rfl, rfl⟩
        simp only [RF_0] at hz41 ⊢
        rw [hjw] at hz41 ⊢
        refine j_ifneb C dX8_callableIn_44 (fun hc44 => ?_) (fun hc44 => ?_)
        · -- 44 T
          refine j_aload0 C dX8_callableIn_49 ?_
          refine j_getr C fX8_16 at_0 rfl hRW.2.1 dX8_callableIn_50 ?_
          refine j_iconst C dX8_callableIn_53 ?_
          refine j_cVI1 C (c_X7_passHours bs22 (by exact hSW.rf bs22 hIn) (by exact hIn) (by exact hWn) (by omega) (by omega)) oX7_passHours kX8_219 ⟨_, rfl, rfl⟩ (at_st bs22) ⟨by decide, by decide⟩ rfl (Nat.le_of_ble_eq_true rfl) ⟨by decide, by decide⟩ dX8_callableIn_54 ?_
          rintro _ W8 hz8 ⟨-, hF8, hS8⟩
          refine j_pop C rfl dX8_callableIn_57 ?_
          refine j_iinc2n C rfl dX8_callableIn_58 ?_
          refine j_goto C dX8_callableIn_61 ?_
          exact j_fg (ih18 (n + 1) W8 (by omega) (by omega) hS8 (hKW.rF.fr hF8) (fun h => by rw [he1 (by omega), show 48 - n = (48 - (n + 1)) + 1 by omega, callUp_s (by omega)]) (fun h => by have hn8 : n = 48 := (by omega); subst hn8; exact ⟨by omega, (he1 (by omega)).trans rfl⟩)) ⟨Or.inr rfl, Or.inr rfl, Or.inr rfl, trivial⟩ rfl
        · -- 44 F
          refine j_iload2 C dX8_callableIn_47 ?_
          refine j_xr (by decide) ?_
          refine j_iret C hrt dX8_callableIn_48 ⟨by omega, by omega⟩ ?_
          have hc9 := he1 (by omega)
          rw [callUp_e (s := σ) (b := a) (f := 48 - n) (n := n) (by omega)] at hc9
          refine ⟨?_, ?_, hKW.rF, hSW.q⟩ <;> (unfold qCallable; rw [if_neg (by omega), hc9, if_neg (by omega)])
  exact j_fg (loop18 _ 0 W9 (Nat.lt_succ_self _) (Nat.zero_le _) hS9 ((KC.rf ω).fr hF9) (fun _ => rfl) (fun h => absurd h (by omega))) ⟨Or.inr rfl, Or.inr rfl, Or.inr rfl, trivial⟩ rfl
