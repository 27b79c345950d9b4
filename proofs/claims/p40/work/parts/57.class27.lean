set_option maxRecDepth 100000 in
set_option maxHeartbeats 4000000 in
theorem c_X6_readDeed {Γ : Ga} {l : Launch} {ω : Wo} (hR : CR ω) {n h : Nat} (hn : ω.1 68 1 = (n : Int)) (hh : ω.1 68 6 = (h : Int)) (hn6 : n ≤ 60) : CRf Γ l yX6_readDeed cX6_readDeed 2 "BoatRota$Deed" 0 [.ref (rl Γ 68)] ω (fun b ω' => (dOf (sgn (ω.1 69) n h) = 9 ∧ b = none ∧ ω = ω') ∨ (dOf (sgn (ω.1 69) n h) ≠ 9 ∧ b = some (1000 + dOf (sgn (ω.1 69) n h)) ∧ ω' = wi ω 68 6 ((h + 1 : Nat) : Int))) := by
  refine Met.ofJ (k := 1) [some (.ref (rl Γ 68)), none] (by decide) rfl rfl rfl (fun p e s mm args below meth c C hrt => ?_)
  refine j_aload0 C dX6_readDeed_0 ?_
  refine j_geti C fX6_35 at_68 rfl hh dX6_readDeed_1 (fun hr1 => ?_)
  refine j_aload0 C dX6_readDeed_4 ?_
  refine j_geti C fX6_15 at_68 rfl hn dX6_readDeed_5 (fun hr5 => ?_)
  refine j_icmp_lt C ⟨by omega, by omega⟩ ⟨by omega, by omega⟩ dX6_readDeed_8 (fun hc8 => ?_) (fun hc8 => ?_)
  · -- 8 T
    have hs9 : sgn (ω.1 69) n h = ω.1 69 h := sgn_in (by omega)
    refine j_iconst C dX6_readDeed_13 ?_
    refine j_istore1 C rfl dX6_readDeed_14 ?_
    have loop15 : ∀ (N : Nat) (k : Nat), (9 - k) < N → (k ≤ 9) → (∀ j, j < k → ltr j ≠ ω.1 69 h) → J Γ p l e (rmk 0 0 0) s mm args below meth c (MQ below (QRf Γ (fun b ω' => (dOf (sgn (ω.1 69) n h) = 9 ∧ b = none ∧ ω = ω') ∨ (dOf (sgn (ω.1 69) n h) ≠ 9 ∧ b = some (1000 + dOf (sgn (ω.1 69) n h)) ∧ ω' = wi ω 68 6 ((h + 1 : Nat) : Int)))) args s 0 0 (gA Γ)) 243 0 0 15 [some (.ref (rl Γ 68)), some (.int (iI ((k : Nat) : Int)))] [] ω := by
      intro N
      induction N with
      | zero => intro k hN; exact absurd hN (Nat.not_lt_zero _)
      | succ N ih15 =>
        intro k hN hk0 hno
        refine j_iload1 C dX6_readDeed_15 ?_
        refine j_deeds C dX6_readDeed_16 ?_
        refine j_deedN C dX6_readDeed_19 ?_
        refine j_icmp_ge C ⟨by omega, by omega⟩ ⟨by omega, by omega⟩ dX6_readDeed_20 (fun hc20 => ?_) (fun hc20 => ?_)
        · -- 20 T
          have hk9 : k = 9 := by omega
          subst hk9
          refine j_null C dX6_readDeed_65 ?_
          refine j_aretN C hrt dX6_readDeed_66 ?_
          exact Or.inl ⟨by rw [hs9]; exact dOf_no hno, rfl, rfl⟩
        · -- 20 F
          refine j_deeds C dX6_readDeed_23 ?_
          refine j_iload1 C dX6_readDeed_26 ?_
          refine j_deedA (i := k) C (by omega) dX6_readDeed_27 ?_
          refine j_ltr C (by omega) dX6_readDeed_28 ?_
          have hlr := ltr_rg k (by omega)
          refine j_aload0 C dX6_readDeed_31 ?_
          refine j_getr C fX6_9 at_68 rfl hR.2.2.2.2.2.2.2.2.2.1 dX6_readDeed_32 ?_
          refine j_aload0 C dX6_readDeed_35 ?_
          refine j_geti C fX6_35 at_68 rfl hh dX6_readDeed_36 (fun hr36 => ?_)
          refine j_cald C at_69 ⟨by omega, by omega⟩ (show _ = ω.1 69 h from rfl) dX6_readDeed_39 (fun hr39 => ?_)
          refine j_icmp_ne C ⟨by omega, by omega⟩ ⟨by omega, by omega⟩ dX6_readDeed_40 (fun hc40 => ?_) (fun hc40 => ?_)
          · -- 40 T
            refine j_iinc1n C rfl dX6_readDeed_59 ?_
            refine j_goto C dX6_readDeed_62 ?_
            exact j_fg (ih15 (k + 1) (by omega) (by omega) (fun j hj => by
              by_cases e : j = k
              · subst e; exact hc40
              · exact hno j (by omega))) ⟨Or.inr rfl, Or.inr rfl, trivial⟩ rfl
          · -- 40 F
            refine j_aload0 C dX6_readDeed_43 ?_
            refine j_dup C rfl dX6_readDeed_44 ?_
            refine j_geti C fX6_35 at_68 rfl hh dX6_readDeed_45 (fun hr45 => ?_)
            refine j_iconst C dX6_readDeed_48 ?_
            refine j_iadd C dX6_readDeed_49 ?_
            refine j_putI C fX6_35 at_68 rfl ty_6_6 ⟨by omega, by omega⟩ dX6_readDeed_50 ?_
            refine j_deeds C dX6_readDeed_53 ?_
            refine j_iload1 C dX6_readDeed_56 ?_
            refine j_deedA (i := k) C (by omega) dX6_readDeed_57 ?_
            refine j_aretD C hrt dX6_readDeed_58 ?_
            have hd9 : dOf (sgn (ω.1 69) n h) = k := by rw [hs9, ← hc40]; exact dOf_ltr k (by omega)
            rw [hd9]
            exact Or.inr ⟨by omega, rfl, rfl⟩
    exact j_fg (loop15 _ 0 (Nat.lt_succ_self _) (Nat.zero_le _) (fun _ h => absurd h (by omega))) ⟨Or.inr rfl, Or.inr rfl, trivial⟩ rfl
  · -- 8 F
    have hs9 : sgn (ω.1 69) n h = -1 := sgn_out (by omega)
    refine j_null C dX6_readDeed_11 ?_
    refine j_aretN C hrt dX6_readDeed_12 ?_
    exact Or.inl ⟨by rw [hs9]; rfl, rfl, rfl⟩
