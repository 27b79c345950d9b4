set_option maxRecDepth 100000 in
set_option maxHeartbeats 4000000 in
theorem c_X9_leastOf {Γ : Ga} {l : Launch} {ω : Wo} (hw : WM ω.2.1)  {x : Nat} (hx : x < 2147483648) {sk : Int} (hsk : Rg sk) {M : Int} (hI : RI M (ω.1 244)) : CI Γ l yX9_leastOf cX9_leastOf 6 .int 1 [.ref (rl Γ 243), .int (iI ((x : Int))), .int (iI sk)] ω (fun z ω' => z = lst (ω.1 244) x sk ∧ ω = ω') := by
  refine Met.ofJ (k := 3) [some (.ref (rl Γ 243)), some (.int (iI ((x : Int)))), some (.int (iI sk)), none, none, none] (by decide) rfl rfl rfl (fun p e s mm args below meth c C hrt => ?_)
  have g := hI.s
  have gc := hI.c
  refine j_iconst C dX9_leastOf_0 ?_
  refine j_istore3 C rfl dX9_leastOf_1 ?_
  refine j_iconst C dX9_leastOf_2 ?_
  refine j_istore4 C rfl dX9_leastOf_3 ?_
  have loop5 : ∀ (N : Nat) (k : Nat), (cM (ω.1 244) - k) < N → (k ≤ cM (ω.1 244)) → J Γ p l e (rmk 1 0 0) s mm args below meth c (MQ below (QI Γ (fun z ω' => z = lst (ω.1 244) x sk ∧ ω = ω')) args s 0 0 (gA Γ)) 254 0 0 5 [some (.ref (rl Γ 243)), some (.int (iI ((x : Nat) : Int))), some (.int (iI sk)), some (.int (iI (lstUp (ω.1 244) x sk k))), some (.int (iI ((k : Nat) : Int))), none] [] ω := by
    intro N
    induction N with
    | zero => intro k hN; exact absurd hN (Nat.not_lt_zero _)
    | succ N ih5 =>
      intro k hN hi0
      have gl := hI.m k
      have go := lstUp_rg (ω.1 244) x sk k
      refine j_iload4 C dX9_leastOf_5 ?_
      refine j_aload0 C dX9_leastOf_7 ?_
      refine j_getr C fX9_9 at_243 rfl hw.r0 dX9_leastOf_8 ?_
      refine j_iconst C dX9_leastOf_11 ?_
      refine j_ialdK C at_244 ⟨rfl, rfl⟩ (N := 111) rfl (by decide) (k := 1) rfl (by decide) dX9_leastOf_12 (fun hr12 => ?_)
      refine j_icmp_ge C ⟨by omega, by omega⟩ ⟨by omega, by omega⟩ dX9_leastOf_13 (fun hc13 => ?_) (fun hc13 => ?_)
      · -- 13 T
        refine j_iload3 C dX9_leastOf_82 ?_
        refine j_iret C hrt dX9_leastOf_83 ⟨by omega, by omega⟩ ?_
        have : k = cM (ω.1 244) := by omega
        subst this
        exact ⟨rfl, rfl⟩
      · -- 13 F
        refine j_iload1 C dX9_leastOf_16 ?_
        refine j_iload4 C dX9_leastOf_17 ?_
        refine j_ishr C (by omega) (by omega) dX9_leastOf_19 ?_
        refine j_iconstN C (k := 1) rfl dX9_leastOf_20 ?_
        refine j_iand1 C dX9_leastOf_21 ?_
        refine j_iconst C dX9_leastOf_22 ?_
        refine j_icmp_ne C ⟨by omega, by omega⟩ ⟨by omega, by omega⟩ dX9_leastOf_23 (fun hc23 => ?_) (fun hc23 => ?_)
        · -- 23 T
          refine j_iconst C dX9_leastOf_41 ?_
          refine j_istore5 C rfl dX9_leastOf_42 ?_
          refine j_iload5 C dX9_leastOf_44 ?_
          refine j_if_eq C (by decide) dX9_leastOf_46 (fun _ => ?_) (fun hc => absurd hc (by decide))
          refine j_iload3 C dX9_leastOf_74 ?_
          refine j_istore3 C rfl dX9_leastOf_75 ?_
          refine j_iinc4n C rfl dX9_leastOf_76 ?_
          refine j_goto C dX9_leastOf_79 ?_
          exact j_fg (ih5 (k + 1) (by omega) (by omega)) ⟨Or.inr rfl, Or.inr rfl, Or.inr rfl, Or.inr (sI (by simp only [lstUp]; first | rw [if_pos (by omega)] | rw [if_neg (by omega)])), Or.inr rfl, Or.inl rfl, trivial⟩ rfl
        · -- 23 F
          refine j_aload0 C dX9_leastOf_26 ?_
          refine j_iload4 C dX9_leastOf_27 ?_
          refine j_iconst C dX9_leastOf_29 ?_
          refine j_cVI2 C (c_X9_of hw (by omega) (by omega)) oX9_of kX9_103 ⟨_, rfl, rfl⟩ at_243 ⟨by decide, by decide⟩ rfl (Nat.le_of_ble_eq_true rfl) ⟨by decide, by decide⟩ dX9_leastOf_30 ?_
          rintro _ _ hz30 ⟨rfl, rfl⟩
          refine j_iload2 C dX9_leastOf_33 ?_
          refine j_icmp_lt C ⟨by omega, by omega⟩ ⟨by omega, by omega⟩ dX9_leastOf_34 (fun hc34 => ?_) (fun hc34 => ?_)
          · -- 34 T
            refine j_iconst C dX9_leastOf_41 ?_
            refine j_istore5 C rfl dX9_leastOf_42 ?_
            refine j_iload5 C dX9_leastOf_44 ?_
            refine j_if_eq C (by decide) dX9_leastOf_46 (fun _ => ?_) (fun hc => absurd hc (by decide))
            refine j_iload3 C dX9_leastOf_74 ?_
            refine j_istore3 C rfl dX9_leastOf_75 ?_
            refine j_iinc4n C rfl dX9_leastOf_76 ?_
            refine j_goto C dX9_leastOf_79 ?_
            exact j_fg (ih5 (k + 1) (by omega) (by omega)) ⟨Or.inr rfl, Or.inr rfl, Or.inr rfl, Or.inr (sI (by simp only [lstUp]; first | rw [if_pos (by omega)] | rw [if_neg (by omega)])), Or.inr rfl, Or.inl rfl, trivial⟩ rfl
          · -- 34 F
            refine j_iconst C dX9_leastOf_37 ?_
            refine j_goto C dX9_leastOf_38 ?_
            refine j_istore5 C rfl dX9_leastOf_42 ?_
            refine j_iload5 C dX9_leastOf_44 ?_
            refine j_if_eq C (by decide) dX9_leastOf_46 (fun hc => absurd hc (by decide)) (fun _ => ?_)
            refine j_iload3 C dX9_leastOf_49 ?_
            refine j_if_lt C ⟨by omega, by omega⟩ dX9_leastOf_50 (fun hc50 => ?_) (fun hc50 => ?_)
            · -- 50 T
              refine j_iload4 C dX9_leastOf_69 ?_
              refine j_goto C dX9_leastOf_71 ?_
              refine j_istore3 C rfl dX9_leastOf_75 ?_
              refine j_iinc4n C rfl dX9_leastOf_76 ?_
              refine j_goto C dX9_leastOf_79 ?_
              exact j_fg (ih5 (k + 1) (by omega) (by omega)) ⟨Or.inr rfl, Or.inr rfl, Or.inr rfl, Or.inr (sI (by simp only [lstUp]; first | rw [if_pos (by omega)] | rw [if_neg (by omega)])), Or.inr rfl, Or.inl rfl, trivial⟩ rfl
            · -- 50 F
              refine j_aload0 C dX9_leastOf_53 ?_
              refine j_iload4 C dX9_leastOf_54 ?_
              refine j_iconst C dX9_leastOf_56 ?_
              refine j_cVI2 C (c_X9_of hw (by omega) (by omega)) oX9_of kX9_103 ⟨_, rfl, rfl⟩ at_243 ⟨by decide, by decide⟩ rfl (Nat.le_of_ble_eq_true rfl) ⟨by decide, by decide⟩ dX9_leastOf_57 ?_
              rintro _ _ hz57 ⟨rfl, rfl⟩
              refine j_aload0 C dX9_leastOf_60 ?_
              refine j_iload3 C dX9_leastOf_61 ?_
              refine j_iconst C dX9_leastOf_62 ?_
              refine j_cVI2 C (c_X9_of hw (by omega) (by omega)) oX9_of kX9_103 ⟨_, rfl, rfl⟩ at_243 ⟨by decide, by decide⟩ rfl (Nat.le_of_ble_eq_true rfl) ⟨by decide, by decide⟩ dX9_leastOf_63 ?_
              rintro _ _ hz63 ⟨rfl, rfl⟩
              refine j_icmp_ge C ⟨by omega, by omega⟩ ⟨by omega, by omega⟩ dX9_leastOf_66 (fun hc66 => ?_) (fun hc66 => ?_)
              · -- 66 T
                refine j_iload3 C dX9_leastOf_74 ?_
                refine j_istore3 C rfl dX9_leastOf_75 ?_
                refine j_iinc4n C rfl dX9_leastOf_76 ?_
                refine j_goto C dX9_leastOf_79 ?_
                exact j_fg (ih5 (k + 1) (by omega) (by omega)) ⟨Or.inr rfl, Or.inr rfl, Or.inr rfl, Or.inr (sI (by simp only [lstUp]; first | rw [if_pos (by omega)] | rw [if_neg (by omega)])), Or.inr rfl, Or.inl rfl, trivial⟩ rfl
              · -- 66 F
                refine j_iload4 C dX9_leastOf_69 ?_
                refine j_goto C dX9_leastOf_71 ?_
                refine j_istore3 C rfl dX9_leastOf_75 ?_
                refine j_iinc4n C rfl dX9_leastOf_76 ?_
                refine j_goto C dX9_leastOf_79 ?_
                exact j_fg (ih5 (k + 1) (by omega) (by omega)) ⟨Or.inr rfl, Or.inr rfl, Or.inr rfl, Or.inr (sI (by simp only [lstUp]; first | rw [if_pos (by omega)] | rw [if_neg (by omega)])), Or.inr rfl, Or.inl rfl, trivial⟩ rfl
  exact loop5 _ 0 (Nat.lt_succ_self _) (Nat.zero_le _)
set_option maxRecDepth 100000 in
set_option maxHeartbeats 4000000 in
theorem c_X9_skilled {Γ : Ga} {l : Launch} {ω : Wo} (hw : WM ω.2.1)  {x : Nat} (hx : x < 2147483648) {M : Int} (hI : RI M (ω.1 244)) : CI Γ l yX9_skilled cX9_skilled 4 .int 1 [.ref (rl Γ 243), .int (iI ((x : Int)))] ω (fun z ω' => z = skl (ω.1 244) x ∧ ω = ω') := by
  refine Met.ofJ (k := 2) [some (.ref (rl Γ 243)), some (.int (iI ((x : Int)))), none, none] (by decide) rfl rfl rfl (fun p e s mm args below meth c C hrt => ?_)
  have g := hI.s
  have gc := hI.c
  refine j_iconst C dX9_skilled_0 ?_
  refine j_istore2 C rfl dX9_skilled_1 ?_
  refine j_iconst C dX9_skilled_2 ?_
  refine j_istore3 C rfl dX9_skilled_3 ?_
  have loop4 : ∀ (N : Nat) (k : Nat), (cM (ω.1 244) - k) < N → (k ≤ cM (ω.1 244)) → J Γ p l e (rmk 1 0 0) s mm args below meth c (MQ below (QI Γ (fun z ω' => z = skl (ω.1 244) x ∧ ω = ω')) args s 0 0 (gA Γ)) 254 0 0 4 [some (.ref (rl Γ 243)), some (.int (iI ((x : Nat) : Int))), some (.int (iI (sklUp (ω.1 244) x k))), some (.int (iI ((k : Nat) : Int)))] [] ω := by
    intro N
    induction N with
    | zero => intro k hN; exact absurd hN (Nat.not_lt_zero _)
    | succ N ih4 =>
      intro k hN hi0
      have gl := hI.m k
      have go := sklUp_rg (ω.1 244) x k
      refine j_iload3 C dX9_skilled_4 ?_
      refine j_aload0 C dX9_skilled_5 ?_
      refine j_getr C fX9_9 at_243 rfl hw.r0 dX9_skilled_6 ?_
      refine j_iconst C dX9_skilled_9 ?_
      refine j_ialdK C at_244 ⟨rfl, rfl⟩ (N := 111) rfl (by decide) (k := 1) rfl (by decide) dX9_skilled_10 (fun hr10 => ?_)
      refine j_icmp_ge C ⟨by omega, by omega⟩ ⟨by omega, by omega⟩ dX9_skilled_11 (fun hc11 => ?_) (fun hc11 => ?_)
      · -- 11 T
        refine j_iload2 C dX9_skilled_46 ?_
        refine j_iret C hrt dX9_skilled_47 ⟨by omega, by omega⟩ ?_
        have : k = cM (ω.1 244) := by omega
        subst this
        exact ⟨rfl, rfl⟩
      · -- 11 F
        refine j_iload2 C dX9_skilled_14 ?_
        refine j_iload1 C dX9_skilled_15 ?_
        refine j_iload3 C dX9_skilled_16 ?_
        refine j_ishr C (by omega) (by omega) dX9_skilled_17 ?_
        refine j_iconstN C (k := 1) rfl dX9_skilled_18 ?_
        refine j_iand1 C dX9_skilled_19 ?_
        refine j_iconst C dX9_skilled_20 ?_
        refine j_icmp_ne C ⟨by omega, by omega⟩ ⟨by omega, by omega⟩ dX9_skilled_21 (fun hc21 => ?_) (fun hc21 => ?_)
        · -- 21 T
          refine j_iconst C dX9_skilled_37 ?_
          refine j_iadd C dX9_skilled_38 ?_
          refine j_istore2 C rfl dX9_skilled_39 ?_
          refine j_iinc3n C rfl dX9_skilled_40 ?_
          refine j_goto C dX9_skilled_43 ?_
          refine j_conv (by simp only [sklUp]; first | rw [if_pos (by omega)] | rw [if_neg (by omega)]) rfl rfl (ih4 (k + 1) (by omega) (by omega))
        · -- 21 F
          refine j_aload0 C dX9_skilled_24 ?_
          refine j_iload3 C dX9_skilled_25 ?_
          refine j_iconst C dX9_skilled_26 ?_
          refine j_cVI2 C (c_X9_of hw (by omega) (by omega)) oX9_of kX9_103 ⟨_, rfl, rfl⟩ at_243 ⟨by decide, by decide⟩ rfl (Nat.le_of_ble_eq_true rfl) ⟨by decide, by decide⟩ dX9_skilled_27 ?_
          rintro _ _ hz27 ⟨rfl, rfl⟩
          refine j_if_le C ⟨by omega, by omega⟩ dX9_skilled_30 (fun hc30 => ?_) (fun hc30 => ?_)
          · -- 30 T
            refine j_iconst C dX9_skilled_37 ?_
            refine j_iadd C dX9_skilled_38 ?_
            refine j_istore2 C rfl dX9_skilled_39 ?_
            refine j_iinc3n C rfl dX9_skilled_40 ?_
            refine j_goto C dX9_skilled_43 ?_
            refine j_conv (by simp only [sklUp]; first | rw [if_pos (by omega)] | rw [if_neg (by omega)]) rfl rfl (ih4 (k + 1) (by omega) (by omega))
          · -- 30 F
            refine j_iconst C dX9_skilled_33 ?_
            refine j_goto C dX9_skilled_34 ?_
            refine j_iadd C dX9_skilled_38 ?_
            refine j_istore2 C rfl dX9_skilled_39 ?_
            refine j_iinc3n C rfl dX9_skilled_40 ?_
            refine j_goto C dX9_skilled_43 ?_
            refine j_conv (by simp only [sklUp]; first | rw [if_pos (by omega)] | rw [if_neg (by omega)]) rfl rfl (ih4 (k + 1) (by omega) (by omega))
  exact loop4 _ 0 (Nat.lt_succ_self _) (Nat.zero_le _)
