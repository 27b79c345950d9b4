set_option maxRecDepth 100000 in
set_option maxHeartbeats 4000000 in
theorem c_X8_homeInAgain {Γ : Ga} {l : Launch} {ω : Wo} (hsl : l.stackTraces = false) (hR : CR ω) {σ : Row} (hS : St ω 1 σ) {M : Int} (hI : RI M σ) (hWI : WI σ)  {a : Int} (ha : Rg a) (hM : M + 6000 ≤ 100000000) : XI Γ l yX8_homeInAgain cX8_homeInAgain 4 .int 7 2 [.ref (rl Γ 0), .int (iI a)] ω (fun z ω' => z = (qHome σ a).2 ∧ (qHome σ a).1 = 0 ∧ ω = ω') (fun E ω' => ω = ω' ∧ ((E = eIdx ∧ (qHome σ a).1 = 1) ∨ (E = eNo ∧ (qHome σ a).1 = 2))) := by
  refine MetX.ofJ (k := 2) [some (.ref (rl Γ 0)), some (.int (iI a)), none, none] (by decide) rfl rfl rfl (fun p e s mm args below meth c C hK2 hxt hrt => ?_)
  have hB := bs1
  have g := hI.s
  have gc := hI.c
  have gM := hI.2.1
  have hcc := hI.cc
  refine j_aload0 C dX8_homeInAgain_0 ?_
  refine j_iload1 C dX8_homeInAgain_1 ?_
  refine j_xVV1 C hK2 hxt (c_X8_requireBoat hsl (by exact hR) (by exact hS) (by exact hI) (by exact hWI) ⟨by omega, by omega⟩) oX8_requireBoat kX8_157 ⟨_, rfl, rfl⟩ at_0 ⟨by decide, by decide⟩ rfl (Nat.le_of_ble_eq_true rfl) ⟨by decide, by decide⟩ ⟨by decide, by decide⟩ dX8_homeInAgain_2 (by rintro E ω1 ⟨rfl, rfl, hE⟩; exact ⟨rfl, Or.inl ⟨rfl, (by unfold qHome; rw [if_pos hE])⟩⟩) ?_
  rintro _ ⟨hc2, rfl⟩
  obtain ⟨k, rfl⟩ := Int.eq_ofNat_of_zero_le hc2.1
  have gb := hI.b k (by omega)
  refine j_aload0 C dX8_homeInAgain_5 ?_
  refine j_iload1 C dX8_homeInAgain_6 ?_
  refine j_xVV1 C hK2 hxt (c_X8_requireOut hsl (by exact hR) (by exact hS) (by exact hI) (by exact hWI) (by omega)) oX8_requireOut kX8_227 ⟨_, rfl, rfl⟩ at_0 ⟨by decide, by decide⟩ rfl (Nat.le_of_ble_eq_true rfl) ⟨by decide, by decide⟩ ⟨by decide, by decide⟩ dX8_homeInAgain_7 (by rintro E ω1 ⟨rfl, hE, rfl⟩; exact ⟨rfl, Or.inr ⟨rfl, (by unfold qHome; rw [if_neg (by omega), if_pos hE])⟩⟩) ?_
  rintro _ ⟨ho1, rfl⟩
  refine j_aload0 C dX8_homeInAgain_10 ?_
  refine j_getr C fX8_12 at_0 rfl hR.1 dX8_homeInAgain_11 ?_
  refine j_getr C fX8_161 (at_st bs1) rfl hS.r.a1 dX8_homeInAgain_14 ?_
  refine j_iload1 C dX8_homeInAgain_17 ?_
  refine j_aald C (at_bA hB) rfl (Cn := RX1) rfl (N := 3) rfl (by decide) ⟨by omega, by omega⟩ (hS.r.b k (by omega)) dX8_homeInAgain_18 ?_
  refine j_astore2 C rfl dX8_homeInAgain_19 ?_
  refine j_aload2 C dX8_homeInAgain_20 ?_
  refine j_geti C fX8_174 (at_b hB (by omega)) rfl (hS.b3 k (by omega)) dX8_homeInAgain_21 (fun hr21 => ?_)
  refine j_iconst C dX8_homeInAgain_24 ?_
  refine j_mmax C kX8_230 (by decide) (Nat.le_of_ble_eq_true rfl) rfl ⟨by decide, by decide⟩ ⟨by omega, by omega⟩ ⟨by omega, by omega⟩ dX8_homeInAgain_25 ?_
  refine j_istore3 C rfl dX8_homeInAgain_28 ?_
  have loop29 : ∀ (N : Nat) (n : Nat), (21 - n) < N → (1 ≤ n ∧ n ≤ 21) → (sB σ k 3 ≤ n) → (∀ j, 1 ≤ j → j < n → stay σ k j) → J Γ p l e (rmk 7 2 12) s mm args below meth c (vx_MQ below (QI Γ (fun z ω' => z = (qHome σ (k : Int)).2 ∧ (qHome σ (k : Int)).1 = 0 ∧ ω = ω')) (XX Γ (fun E ω' => ω = ω' ∧ ((E = eIdx ∧ (qHome σ (k : Int)).1 = 1) ∨ (E = eNo ∧ (qHome σ (k : Int)).1 = 2)))) args s 2 12 (gA Γ)) 243 2 12 29 [some (.ref (rl Γ 0)), some (.int (iI ((k : Nat) : Int))), some (.ref (rl Γ (1 + 14 + k))), some (.int (iI ((n : Nat) : Int)))] [] ω := by
    intro N
    induction N with
    | zero => intro n hN; exact absurd hN (Nat.not_lt_zero _)
    | succ N ih29 =>
      intro n hN hn0 hnL hst
      refine j_iload3 C dX8_homeInAgain_29 ?_
      refine j_bipush C (by decide) dX8_homeInAgain_30 ?_
      refine j_icmp_ge C ⟨by omega, by omega⟩ ⟨by omega, by omega⟩ dX8_homeInAgain_32 (fun hc32 => ?_) (fun hc32 => ?_)
      · -- 32 T
        refine j_iload3 C dX8_homeInAgain_60 ?_
        refine j_xr (by decide) ?_
        refine j_iret C hrt dX8_homeInAgain_61 ⟨by omega, by omega⟩ ?_
        have hns : ¬ stay σ k n := by
          first
          | (intro z; rcases z with z | z <;> omega)
          | (exfalso; obtain ⟨m9, q1, q2, q3, q4⟩ := home_find hI (b := k) (by omega); exact q4 (hst m9 q1 (by omega)))
        have hc9 := home_at hI (b := k) (by omega) ho1 (m := n) (by omega) hn0.2 hn0.1 hst hns
        refine ⟨?_, ?_, rfl⟩ <;> (unfold qHome; rw [if_neg (by omega), if_neg (by omega)])
        rw [hc9]
      · -- 32 F
        refine j_aload0 C dX8_homeInAgain_35 ?_
        refine j_getr C fX8_12 at_0 rfl hR.1 dX8_homeInAgain_36 ?_
        refine j_geti C fX8_105 (at_st bs1) rfl hS.c6 dX8_homeInAgain_39 (fun hr39 => ?_)
        refine j_iload3 C dX8_homeInAgain_42 ?_
        refine j_iadd C dX8_homeInAgain_43 ?_
        refine j_cSI1 C (c_X8_heightAt (by omega)) oX8_heightAt kX8_108 ⟨by decide, by decide⟩ rfl (Nat.le_of_ble_eq_true rfl) ⟨by decide, by decide⟩ dX8_homeInAgain_44 ?_
        rintro _ _ hz44 ⟨rfl, rfl⟩
        refine j_aload2 C dX8_homeInAgain_47 ?_
        refine j_geti C fX8_165 (at_b hB (by omega)) rfl (hS.b0 k (by omega)) dX8_homeInAgain_48 (fun hr48 => ?_)
        refine j_icmp_ge C ⟨by omega, by omega⟩ ⟨by omega, by omega⟩ dX8_homeInAgain_51 (fun hc51 => ?_) (fun hc51 => ?_)
        · -- 51 T
          refine j_iload3 C dX8_homeInAgain_60 ?_
          refine j_xr (by decide) ?_
          refine j_iret C hrt dX8_homeInAgain_61 ⟨by omega, by omega⟩ ?_
          have hns : ¬ stay σ k n := by
            first
            | (intro z; rcases z with z | z <;> omega)
            | (exfalso; obtain ⟨m9, q1, q2, q3, q4⟩ := home_find hI (b := k) (by omega); exact q4 (hst m9 q1 (by omega)))
          have hc9 := home_at hI (b := k) (by omega) ho1 (m := n) (by omega) hn0.2 hn0.1 hst hns
          refine ⟨?_, ?_, rfl⟩ <;> (unfold qHome; rw [if_neg (by omega), if_neg (by omega)])
          rw [hc9]
        · -- 51 F
          refine j_iinc3n C rfl dX8_homeInAgain_54 ?_
          refine j_goto C dX8_homeInAgain_57 ?_
          exact j_fg (ih29 (n + 1) (by omega) (by omega) (by omega) (fun j j1 j2 => by
            by_cases e : j = n
            · subst e; exact Or.inr (by omega)
            · exact hst j j1 (by omega))) ⟨Or.inr rfl, Or.inr rfl, Or.inr rfl, Or.inr (sI (by omega)), trivial⟩ rfl
  exact j_fg (loop29 _ (max (sB σ k 3) 1).toNat (Nat.lt_succ_self _) (by omega) (by omega) (fun j j1 j2 => Or.inl (by omega))) ⟨Or.inr rfl, Or.inr rfl, Or.inr rfl, Or.inr (sI (by omega)), trivial⟩ rfl
