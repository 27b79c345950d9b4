set_option maxRecDepth 100000 in
set_option maxHeartbeats 4000000 in
theorem c_X8_forgetOldest {Γ : Ga} {l : Launch} {ω : Wo} (hsl : l.stackTraces = false) (hR : CR ω) {σ : Row} (hS : St ω 1 σ) {M : Int} (hI : RI M σ) (hWI : WI σ)  {n0 : Nat} (h5 : ω.1 0 5 = (n0 : Int)) (hn0 : 1 ≤ n0 ∧ n0 ≤ 8) {π : Nat → Nat} (hπ : ∀ j, j < 8 → π j < 8 ∧ ω.2.1 64 j = some (75 + 21 * π j)) : CV Γ l yX8_forgetOldest cX8_forgetOldest 3 0 [.ref (rl Γ 0)] ω (fun ω' => ω' = wi (wr (RW ω 61 0 7) 64 7 (some (75 + 21 * π 0))) 0 5 ((n0 : Int) - 1)) := by
  refine Met.ofJ (k := 2) [some (.ref (rl Γ 0)), none, none] (by decide) rfl rfl rfl (fun p e s mm args below meth c C hrt => ?_)
  have hB := bs1
  have g := hI.s
  have gc := hI.c
  have gM := hI.2.1
  refine j_aload0 C dX8_forgetOldest_0 ?_
  refine j_getr C fX8_26 at_0 rfl hR.2.2.2.1 dX8_forgetOldest_1 ?_
  refine j_iconst C dX8_forgetOldest_4 ?_
  refine j_aald C at_64 rfl (Cn := RX7) rfl (N := 8) rfl (by decide) ⟨by omega, by omega⟩ ((hπ 0 (by omega)).2) dX8_forgetOldest_5 ?_
  refine j_astore1 C rfl dX8_forgetOldest_6 ?_
  refine j_iconst C dX8_forgetOldest_7 ?_
  refine j_istore2 C rfl dX8_forgetOldest_8 ?_
  have hR4 : ∀ n, (RW ω 61 0 n).2.1 0 4 = some 64 := fun n => by show rot ω.2.1 61 0 n 0 4 = _; rw [rot_x (by decide)]; exact hR.2.2.2.1
  have loop9 : ∀ (N : Nat) (n : Nat), (7 - n) < N → (n ≤ 7) → J Γ p l e (rmk 0 0 0) s mm args below meth c (MQ below (QV Γ (fun ω' => ω' = wi (wr (RW ω 61 0 7) 64 7 (some (75 + 21 * π 0))) 0 5 ((n0 : Int) - 1))) args s 0 0 (gA Γ)) 243 0 0 9 [some (.ref (rl Γ 0)), some (.ref (rl Γ (75 + 21 * π 0))), some (.int (iI ((n + 1 : Nat) : Int)))] [] (RW ω 61 0 n) := by
    intro N
    induction N with
    | zero => intro n hN; exact absurd hN (Nat.not_lt_zero _)
    | succ N ih9 =>
      intro n hN hi0
      refine j_iload2 C dX8_forgetOldest_9 ?_
      refine j_bipush C (by decide) dX8_forgetOldest_10 ?_
      refine j_icmp_ge C ⟨by omega, by omega⟩ ⟨by omega, by omega⟩ dX8_forgetOldest_12 (fun hc12 => ?_) (fun hc12 => ?_)
      · -- 12 T
        refine j_aload0 C dX8_forgetOldest_35 ?_
        refine j_getr C fX8_26 at_0 rfl (hR4 n) dX8_forgetOldest_36 ?_
        refine j_bipush C (by decide) dX8_forgetOldest_39 ?_
        refine j_aload1 C dX8_forgetOldest_41 ?_
        have hn9 : n = 7 := by omega
        subst hn9
        refine j_aast C at_64 rfl (r := (RX7, TX7, 11)) (kb := 1) rfl rfl (at_st (bsP (hπ 0 (by omega)).1)) (N := 8) rfl (by decide) ⟨by omega, by omega⟩ dX8_forgetOldest_42 ?_
        refine j_aload0 C dX8_forgetOldest_43 ?_
        refine j_dup C rfl dX8_forgetOldest_44 ?_
        refine j_geti C fX8_30 at_0 rfl h5 dX8_forgetOldest_45 (fun hr45 => ?_)
        refine j_iconst C dX8_forgetOldest_48 ?_
        refine j_isub C dX8_forgetOldest_49 ?_
        refine j_putI C fX8_30 at_0 rfl ty_0_5 ⟨by omega, by omega⟩ dX8_forgetOldest_50 ?_
        refine j_vret C hrt dX8_forgetOldest_53 ?_
        rfl
      · -- 12 F
        refine j_aload0 C dX8_forgetOldest_15 ?_
        refine j_getr C fX8_26 at_0 rfl (hR4 n) dX8_forgetOldest_16 ?_
        refine j_iload2 C dX8_forgetOldest_19 ?_
        refine j_iconst C dX8_forgetOldest_20 ?_
        refine j_isub C dX8_forgetOldest_21 ?_
        refine j_aload0 C dX8_forgetOldest_22 ?_
        refine j_getr C fX8_26 at_0 rfl (hR4 n) dX8_forgetOldest_23 ?_
        refine j_iload2 C dX8_forgetOldest_26 ?_
        refine j_aald C at_64 rfl (Cn := RX7) rfl (N := 8) rfl (by decide) ⟨by omega, by omega⟩ (by show rot ω.2.1 61 0 n (61 + 3) (n + 1) = _; rw [rot_hi (by omega)]; exact (hπ (n + 1) (by omega)).2) dX8_forgetOldest_27 ?_
        refine j_aast C at_64 rfl (r := (RX7, TX7, 11)) (kb := 1) rfl rfl (at_st (bsP (hπ (n + 1) (by omega)).1)) (N := 8) rfl (by decide) ⟨by omega, by omega⟩ dX8_forgetOldest_28 ?_
        refine j_iinc2n C rfl dX8_forgetOldest_29 ?_
        refine j_goto C dX8_forgetOldest_32 ?_
        exact j_fg (ih9 (n + 1) (by omega) (by omega)) ⟨Or.inr rfl, Or.inr rfl, Or.inr rfl, trivial⟩ (by rw [show (((n + 1 : Nat) : Int) - 1).toNat = 0 + n by omega]; exact RW_s (B := 61) (by rw [show 0 + n + 1 = n + 1 by omega]; exact (hπ (n + 1) (by omega)).2))
  exact j_fg (loop9 _ 0 (Nat.lt_succ_self _) (Nat.zero_le _)) ⟨Or.inr rfl, Or.inr rfl, Or.inr rfl, trivial⟩ (RW_0 ω 61 0).symm
