set_option maxRecDepth 100000 in
set_option maxHeartbeats 4000000 in
theorem c_X6_isDigitNext {Γ : Ga} {l : Launch} {ω : Wo} (hR : CR ω) {n h : Nat} (hn : ω.1 68 1 = (n : Int)) (hh : ω.1 68 6 = (h : Int)) (hn6 : n ≤ 60) : CI Γ l yX6_isDigitNext cX6_isDigitNext 1 .boolean 0 [.ref (rl Γ 68)] ω (fun z ω' => z = bI (48 ≤ sgn (ω.1 69) n h ∧ sgn (ω.1 69) n h ≤ 57) ∧ ω = ω') := by
  refine Met.ofJ (k := 0) [some (.ref (rl Γ 68))] (by decide) rfl rfl rfl (fun p e s mm args below meth c C hrt => ?_)
  refine j_aload0 C dX6_isDigitNext_0 ?_
  refine j_geti C fX6_35 at_68 rfl hh dX6_isDigitNext_1 (fun hr1 => ?_)
  refine j_aload0 C dX6_isDigitNext_4 ?_
  refine j_geti C fX6_15 at_68 rfl hn dX6_isDigitNext_5 (fun hr5 => ?_)
  refine j_icmp_ge C ⟨by omega, by omega⟩ ⟨by omega, by omega⟩ dX6_isDigitNext_8 (fun hc8 => ?_) (fun hc8 => ?_)
  · -- 8 T
    have hs9 : sgn (ω.1 69) n h = -1 := sgn_out (by omega)
    refine j_iconst C dX6_isDigitNext_43 ?_
    refine j_zret C hrt dX6_isDigitNext_44 (by first | exact Or.inl rfl | exact Or.inr rfl | exact bI_01 _) ?_
    rw [hs9]
    refine ⟨?_, rfl⟩
    first | exact (bI_t (by omega)).symm | exact (bI_f (by omega)).symm
  · -- 8 F
    have hs9 : sgn (ω.1 69) n h = ω.1 69 h := sgn_in (by omega)
    refine j_aload0 C dX6_isDigitNext_11 ?_
    refine j_getr C fX6_9 at_68 rfl hR.2.2.2.2.2.2.2.2.2.1 dX6_isDigitNext_12 ?_
    refine j_aload0 C dX6_isDigitNext_15 ?_
    refine j_geti C fX6_35 at_68 rfl hh dX6_isDigitNext_16 (fun hr16 => ?_)
    refine j_cald C at_69 ⟨by omega, by omega⟩ (show _ = ω.1 69 h from rfl) dX6_isDigitNext_19 (fun hr19 => ?_)
    refine j_bipush C (by decide) dX6_isDigitNext_20 ?_
    refine j_icmp_lt C ⟨by omega, by omega⟩ ⟨by omega, by omega⟩ dX6_isDigitNext_22 (fun hc22 => ?_) (fun hc22 => ?_)
    · -- 22 T
      refine j_iconst C dX6_isDigitNext_43 ?_
      refine j_zret C hrt dX6_isDigitNext_44 (by first | exact Or.inl rfl | exact Or.inr rfl | exact bI_01 _) ?_
      rw [hs9]
      refine ⟨?_, rfl⟩
      first | exact (bI_t (by omega)).symm | exact (bI_f (by omega)).symm
    · -- 22 F
      refine j_aload0 C dX6_isDigitNext_25 ?_
      refine j_getr C fX6_9 at_68 rfl hR.2.2.2.2.2.2.2.2.2.1 dX6_isDigitNext_26 ?_
      refine j_aload0 C dX6_isDigitNext_29 ?_
      refine j_geti C fX6_35 at_68 rfl hh dX6_isDigitNext_30 (fun hr30 => ?_)
      refine j_cald C at_69 ⟨by omega, by omega⟩ (show _ = ω.1 69 h from rfl) dX6_isDigitNext_33 (fun hr33 => ?_)
      refine j_bipush C (by decide) dX6_isDigitNext_34 ?_
      refine j_icmp_gt C ⟨by omega, by omega⟩ ⟨by omega, by omega⟩ dX6_isDigitNext_36 (fun hc36 => ?_) (fun hc36 => ?_)
      · -- 36 T
        refine j_iconst C dX6_isDigitNext_43 ?_
        refine j_zret C hrt dX6_isDigitNext_44 (by first | exact Or.inl rfl | exact Or.inr rfl | exact bI_01 _) ?_
        rw [hs9]
        refine ⟨?_, rfl⟩
        first | exact (bI_t (by omega)).symm | exact (bI_f (by omega)).symm
      · -- 36 F
        refine j_iconst C dX6_isDigitNext_39 ?_
        refine j_goto C dX6_isDigitNext_40 ?_
        refine j_zret C hrt dX6_isDigitNext_44 (by first | exact Or.inl rfl | exact Or.inr rfl | exact bI_01 _) ?_
        rw [hs9]
        refine ⟨?_, rfl⟩
        first | exact (bI_t (by omega)).symm | exact (bI_f (by omega)).symm
/-- the number that is read so far -/
def nv (k : Nat) (v : Int) : Int := if k = 0 then -1 else v
theorem nv_c (k : Nat) (v : Int) : (k = 0 ∧ nv k v = -1) ∨ (0 < k ∧ nv k v = v) := by
  unfold nv; split <;> omega
theorem nv_s (k : Nat) (v : Int) : nv (k + 1) v = v := if_neg (by omega)
theorem wi_at {ω : Wo} {h : Nat} (hh : ω.1 68 6 = (h : Int)) : wi ω 68 6 ((h + 0 : Nat) : Int) = ω := by
  rw [wi_wf, Nat.add_zero, up_id' hh, wf_id]
set_option maxRecDepth 100000 in
set_option maxHeartbeats 4000000 in
theorem c_X6_readNumber {Γ : Ga} {l : Launch} {ω : Wo} (hR : CR ω) {n h f : Nat} (hn : ω.1 68 1 = (n : Int)) (hh : ω.1 68 6 = (h : Int)) (hn6 : n ≤ 60) (hf : f ≤ 2) (hhn : h ≤ n) : CI Γ l yX6_readNumber cX6_readNumber 4 .int 1 [.ref (rl Γ 68), .int (iI ((f : Int)))] ω (fun z ω' => z = nv (num (ω.1 69) n f h 0 0).2.2 (num (ω.1 69) n f h 0 0).2.1 ∧ ω' = wi ω 68 6 ((num (ω.1 69) n f h 0 0).1 : Int)) := by
  refine Met.ofJ (k := 2) [some (.ref (rl Γ 68)), some (.int (iI ((f : Int)))), none, none] (by decide) rfl rfl rfl (fun p e s mm args below meth c C hrt => ?_)
  refine j_iconst C dX6_readNumber_0 ?_
  refine j_istore2 C rfl dX6_readNumber_1 ?_
  refine j_iconst C dX6_readNumber_2 ?_
  refine j_istore3 C rfl dX6_readNumber_3 ?_
  have loop4 : ∀ (N : Nat) (k : Nat) (v : Int), (f - k) < N → (k ≤ f) → (h + k ≤ n) → (num (ω.1 69) n f h 0 0 = num (ω.1 69) n (f - k) (h + k) v k) → (0 ≤ v ∧ v ≤ 99 ∧ (k = 0 → v = 0) ∧ (k ≤ 1 → v ≤ 9)) → J Γ p l e (rmk 1 0 0) s mm args below meth c (MQ below (QI Γ (fun z ω' => z = nv (num (ω.1 69) n f h 0 0).2.2 (num (ω.1 69) n f h 0 0).2.1 ∧ ω' = wi ω 68 6 ((num (ω.1 69) n f h 0 0).1 : Int))) args s 0 0 (gA Γ)) 243 0 0 4 [some (.ref (rl Γ 68)), some (.int (iI ((f : Nat) : Int))), some (.int (iI (nv k v))), some (.int (iI ((k : Nat) : Int)))] [] (wi ω 68 6 ((h + k : Nat) : Int)) := by
    intro N
    induction N with
    | zero => intro k v hN; exact absurd hN (Nat.not_lt_zero _)
    | succ N ih4 =>
      intro k v hN hk0 hkn he1 hv0
      have hnk : (wi ω 68 6 ((h + k : Nat) : Int)).1 68 1 = (n : Int) := hn
      have hhk : (wi ω 68 6 ((h + k : Nat) : Int)).1 68 6 = ((h + k : Nat) : Int) := by rw [wi_wf, wf_same, up_same]
      have h69 : (wi ω 68 6 ((h + k : Nat) : Int)).1 69 = ω.1 69 := by rw [wi_wf, wf_ne _ _ (by decide)]
      have hRk : CR (wi ω 68 6 ((h + k : Nat) : Int)) := hR
      have hnv := nv_c k v
      refine j_iload3 C dX6_readNumber_4 ?_
      refine j_iload1 C dX6_readNumber_5 ?_
      refine j_icmp_ge C ⟨by omega, by omega⟩ ⟨by omega, by omega⟩ dX6_readNumber_6 (fun hc6 => ?_) (fun hc6 => ?_)
      · -- 6 T
        refine j_iload2 C dX6_readNumber_54 ?_
        refine j_iret C hrt dX6_readNumber_55 ⟨by omega, by omega⟩ ?_
        rw [he1]
        first
        | (rw [num_e (by assumption)]; exact ⟨rfl, rfl⟩)
        | (rw [show f - k = 0 by omega]; exact ⟨rfl, rfl⟩)
      · -- 6 F
        refine j_aload0 C dX6_readNumber_9 ?_
        refine j_cVI0 C (c_X6_isDigitNext (by exact hRk) hnk hhk (by omega)) oX6_isDigitNext kX6_62 ⟨_, rfl, rfl⟩ at_68 ⟨by decide, by decide⟩ rfl (Nat.le_of_ble_eq_true rfl) ⟨by decide, by decide⟩ dX6_readNumber_10 ?_
        rintro _ _ hz10 ⟨rfl, rfl⟩
        rw [h69] at hz10 ⊢
        refine j_ifeqb C dX6_readNumber_13 (fun hc13 => ?_) (fun hc13 => ?_)
        · -- 13 T
          have hkn2 : h + k < n := by
            refine Decidable.byContradiction fun q => ?_
            rw [sgn_out q] at hc13; omega
          have hs9 : sgn (ω.1 69) n (h + k) = ω.1 69 (h + k) := sgn_in hkn2
          refine j_iload2 C dX6_readNumber_16 ?_
          refine j_iconst C dX6_readNumber_17 ?_
          refine j_mmax C kX6_66 (by decide) (Nat.le_of_ble_eq_true rfl) rfl ⟨by decide, by decide⟩ ⟨by omega, by omega⟩ ⟨by omega, by omega⟩ dX6_readNumber_18 ?_
          refine j_bipush C (by decide) dX6_readNumber_21 ?_
          refine j_imul C dX6_readNumber_23 ?_
          refine j_aload0 C dX6_readNumber_24 ?_
          refine j_getr C fX6_9 at_68 rfl hR.2.2.2.2.2.2.2.2.2.1 dX6_readNumber_25 ?_
          refine j_aload0 C dX6_readNumber_28 ?_
          refine j_geti C fX6_35 at_68 rfl hhk dX6_readNumber_29 (fun hr29 => ?_)
          refine j_cald C at_69 ⟨by omega, by omega⟩ (show _ = ω.1 69 (h + k) from congrFun h69 (h + k)) dX6_readNumber_32 (fun hr32 => ?_)
          refine j_bipush C (by decide) dX6_readNumber_33 ?_
          refine j_isub C dX6_readNumber_35 ?_
          refine j_iadd C dX6_readNumber_36 ?_
          refine j_istore2 C rfl dX6_readNumber_37 ?_
          refine j_aload0 C dX6_readNumber_38 ?_
          refine j_dup C rfl dX6_readNumber_39 ?_
          refine j_geti C fX6_35 at_68 rfl hhk dX6_readNumber_40 (fun hr40 => ?_)
          refine j_iconst C dX6_readNumber_43 ?_
          refine j_iadd C dX6_readNumber_44 ?_
          refine j_putI C fX6_35 at_68 rfl ty_6_6 ⟨by omega, by omega⟩ dX6_readNumber_45 ?_
          refine j_iinc3n C rfl dX6_readNumber_48 ?_
          refine j_goto C dX6_readNumber_51 ?_
          exact j_fg (ih4 (k + 1) (10 * v + sgn (ω.1 69) n (h + k) - 48) (by omega) (by omega) (by omega) (by rw [he1, show f - k = (f - (k + 1)) + 1 by omega, num_s hc13]; rfl) (by omega)) ⟨Or.inr rfl, Or.inr rfl, Or.inr (sI (by rw [hs9, nv_s]; omega)), Or.inr rfl, trivial⟩ (by simp only [wi_wf, wf_wf, wf_same, up_up]; rw [show ((h + (k + 1) : Nat) : Int) = ((h + k : Nat) : Int) + 1 by omega])
        · -- 13 F
          skip
          refine j_iload2 C dX6_readNumber_54 ?_
          refine j_iret C hrt dX6_readNumber_55 ⟨by omega, by omega⟩ ?_
          rw [he1]
          first
          | (rw [num_e (by assumption)]; exact ⟨rfl, rfl⟩)
          | (rw [show f - k = 0 by omega]; exact ⟨rfl, rfl⟩)
  exact j_fg (loop4 _ 0 0 (Nat.lt_succ_self _) (Nat.zero_le _) (by omega) rfl (by omega)) ⟨Or.inr rfl, Or.inr rfl, Or.inr rfl, Or.inr rfl, trivial⟩ (wi_at hh).symm
