set_option maxRecDepth 100000 in
set_option maxHeartbeats 4000000 in
theorem c_X9_leastOf {Γ : Ga} {l : Launch} {ω : Wo} (hw : WM ω.2.1)  {x : Nat} (hx : x < 2147483648) {sk : Int} (hsk : Rg sk) {M : Int} (hI : RI M (ω.1 244)) : CI Γ l yX9_leastOf cX9_leastOf 6 .int 1 [.ref (rl Γ 243), .int (iI ((x : Int))), .int (iI sk)] ω (fun z ω' => z = lst (ω.1 244) x sk ∧ ω = ω') := by
  refine Met.ofJ (k := 3) [some (.ref (rl Γ 243)), some (.int (iI ((x : Int)))), some (.int (iI sk)), none, none, none] (by decide) rfl rfl rfl (fun p e s mm args below meth c C hrt => ?_)
  have g := hI.s
  have gc := hI.c
  refine j_iconst C dX9_leastOf_0 ?_
  refine j_istore3 C rfl dX9_leastOf_1 ?_
  refine j_iconst C dX9_leastOf_2 ?_
  refine j_istore4 C rfl dX9_leastOf_3 ?_
  have loop5 : ∀ (N : Nat) (k : Nat), (cM (ω.1 244) - k) < N → (k ≤ cM (ω.1 244)) → J Γ p l e (rmk 1 0 0) s mm args below meth c (MQ below (QI Γ (fun z ω' => z = lst (ω.1 244) x sk ∧ ω = ω')) args s 0 0 (gA Γ)) 254 0 0 5 [some (.ref (rl Γ 243)), some (.int (iI ((x : Nat) : Int))), some (.int (iI sk)), some (.int (iI (lstUp (ω.1 244) x sk k))), some (.int (iI ((k : Nat) : Int))), none] [] ω := by
    intro N
    induction N with
    | zero => intro k hN; exact absurd hN (Nat.not_lt_zero _)
    | succ N ih5 =>
      intro k hN hi0
      have gl := hI.m k
      have go := lstUp_rg (ω.1 244) x sk k
      refine j_iload4 C dX9_leastOf_5 ?_
      refine j_aload0 C dX9_leastOf_7 ?_
      refine j_getr C fX9_9 at_243 rfl hw.r0 dX9_leastOf_8 ?_
      refine j_iconst C dX9_leastOf_11 ?_
      refine j_ialdK C at_244 ⟨rfl, rfl⟩ (N := 111) rfl (by decide) (k := 1) rfl (by decide) dX9_leastOf_12 (fun hr12 => ?_)
      refine j_icmp_ge C ⟨by omega, by omega⟩ ⟨by omega, by omega⟩ dX9_leastOf_13 (fun hc13 => ?_) (fun hc13 => ?_)
      · -- 13 T
        refine j_iload3 C dX9_leastOf_82 ?_
        refine j_iret C hrt dX9_leastOf_83 ⟨by omega, by omega⟩ ?_
        have : k = cM (ω.1 244) := by omega
        subst this
        exact ⟨rfl, rfl⟩
      · -- 13 F
        refine j_iload1 C dX9_leastOf_16 ?_
        refine j_iload4 C dX9_leastOf_17 ?_
        refine j_ishr C (by omega) (by omega) dX9_leastOf_19 ?_
        refine j_iconstN C (k := 1) rfl dX9_leastOf_20 ?_
        refine j_iand1 C dX9_leastOf_21 ?_
        refine j_iconst C dX9_leastOf_22 ?_
        refine j_icmp_ne C ⟨by omega, by omega⟩ ⟨by omega, by omega⟩ dX9_leastOf_23 (fun hc23 => ?_) (fun hc23 => ?_)
        · -- 23 T
          refine j_iconst C dX9_leastOf_41 ?_
          refine j_istore5 C rfl dX9_leastOf_42 ?_
          refine j_iload5 C dX9_leastOf_44 ?_
          refine j_if_eq C (by decide) dX9_leastOf_46 (fun _ => ?_) (fun hc => absurd hc (by decide))
          refine j_iload3 C dX9_leastOf_74 ?_
          refine j_istore3 C rfl dX9_leastOf_75 ?_
          refine j_iinc4n C rfl dX9_leastOf_76 ?_
          refine j_goto C dX9_leastOf_79 ?_
          exact j_fg (ih5 (k + 1) (by omega) (by omega)) ⟨Or.inr rfl, Or.inr rfl, Or.inr rfl, Or.inr (sI (by simp only [lstUp]; first | rw [if_pos (by omega)] | rw [if_neg (by omega)])), Or.inr rfl, Or.inl rfl, trivial⟩ rfl
        · -- 23 F
          refine j_aload0 C dX9_leastOf_26 ?_
          refine j_iload4 C dX9_leastOf_27 ?_
          refine j_iconst C dX9_leastOf_29 ?_
          refine j_cVI2 C (c_X9_of (by exact hw) (by omega) (by omega)) oX9_of kX9_103 ⟨_, rfl, rfl⟩ at_243 ⟨by decide, by decide⟩ rfl (Nat.le_of_ble_eq_true rfl) ⟨by decide, by decide⟩ dX9_leastOf_30 ?_
          rintro _ _ hz30 ⟨rfl, rfl⟩
          refine j_iload2 C dX9_leastOf_33 ?_
          refine j_icmp_lt C ⟨by omega, by omega⟩ ⟨by omega, by omega⟩ dX9_leastOf_34 (fun hc34 => ?_) (fun hc34 => ?_)
          · -- 34 T
            refine j_iconst C dX9_leastOf_41 ?_
            refine j_istore5 C rfl dX9_leastOf_42 ?_
            refine j_iload5 C dX9_leastOf_44 ?_
            refine j_if_eq C (by decide) dX9_leastOf_46 (fun _ => ?_) (fun hc => absurd hc (by decide))
            refine j_iload3 C dX9_leastOf_74 ?_
            refine j_istore3 C rfl dX9_leastOf_75 ?_
            refine j_iinc4n C rfl dX9_leastOf_76 ?_
            refine j_goto C dX9_leastOf_79 ?_
            exact j_fg (ih5 (k + 1) (by omega) (by omega)) ⟨Or.inr rfl, Or.inr rfl, Or.inr rfl, Or.inr (sI (by simp only [lstUp]; first | rw [if_pos (by omega)] | rw [if_neg (by omega)])), Or.inr rfl, Or.inl rfl, trivial⟩ rfl
          · -- 34 F
            refine j_iconst C dX9_leastOf_37 ?_
            refine j_goto C dX9_leastOf_38 ?_
            refine j_istore5 C rfl dX9_leastOf_42 ?_
            refine j_iload5 C dX9_leastOf_44 ?_
            refine j_if_eq C (by decide) dX9_leastOf_46 (fun hc => absurd hc (by decide)) (fun _ => ?_)
            refine j_iload3 C dX9_leastOf_49 ?_
            refine j_if_lt C ⟨by omega, by omega⟩ dX9_leastOf_50 (fun hc50 => ?_) (fun hc50 => ?_)
            · -- 50 T
              refine j_iload4 C dX9_leastOf_69 ?_
              refine j_goto C dX9_leastOf_71 ?_
              refine j_istore3 C rfl dX9_leastOf_75 ?_
              refine j_iinc4n C rfl dX9_leastOf_76 ?_
              refine j_goto C dX9_leastOf_79 ?_
              exact j_fg (ih5 (k + 1) (by omega) (by omega)) ⟨Or.inr rfl, Or.inr rfl, Or.inr rfl, Or.inr (sI (by simp only [lstUp]; first | rw [if_pos (by omega)] | rw [if_neg (by omega)])), Or.inr rfl, Or.inl rfl, trivial⟩ rfl
            · -- 50 F
              refine j_aload0 C dX9_leastOf_53 ?_
              refine j_iload4 C dX9_leastOf_54 ?_
              refine j_iconst C dX9_leastOf_56 ?_
              refine j_cVI2 C (c_X9_of (by exact hw) (by omega) (by omega)) oX9_of kX9_103 ⟨_, rfl, rfl⟩ at_243 ⟨by decide, by decide⟩ rfl (Nat.le_of_ble_eq_true rfl) ⟨by decide, by decide⟩ dX9_leastOf_57 ?_
              rintro _ _ hz57 ⟨rfl, rfl⟩
              refine j_aload0 C dX9_leastOf_60 ?_
              refine j_iload3 C dX9_leastOf_61 ?_
              refine j_iconst C dX9_leastOf_62 ?_
              refine j_cVI2 C (c_X9_of (by exact hw) (by omega) (by omega)) oX9_of kX9_103 ⟨_, rfl, rfl⟩ at_243 ⟨by decide, by decide⟩ rfl (Nat.le_of_ble_eq_true rfl) ⟨by decide, by decide⟩ dX9_leastOf_63 ?_
              rintro _ _ hz63 ⟨rfl, rfl⟩
              refine j_icmp_ge C ⟨by omega, by omega⟩ ⟨by omega, by omega⟩ dX9_leastOf_66 (fun hc66 => ?_) (fun hc66 => ?_)
              · -- 66 T
                refine j_iload3 C dX9_leastOf_74 ?_
                refine j_istore3 C rfl dX9_leastOf_75 ?_
                refine j_iinc4n C rfl dX9_leastOf_76 ?_
                refine j_goto C dX9_leastOf_79 ?_
                exact j_fg (ih5 (k + 1) (by omega) (by omega)) ⟨Or.inr rfl, Or.inr rfl, Or.inr rfl, Or.inr (sI (by simp only [lstUp]; first | rw [if_pos (by omega)] | rw [if_neg (by omega)])), Or.inr rfl, Or.inl rfl, trivial⟩ rfl
              · -- 66 F
                refine j_iload4 C dX9_leastOf_69 ?_
                refine j_goto C dX9_leastOf_71 ?_
                refine j_istore3 C rfl dX9_leastOf_75 ?_
                refine j_iinc4n C rfl dX9_leastOf_76 ?_
                refine j_goto C dX9_leastOf_79 ?_
                exact j_fg (ih5 (k + 1) (by omega) (by omega)) ⟨Or.inr rfl, Or.inr rfl, Or.inr rfl, Or.inr (sI (by simp only [lstUp]; first | rw [if_pos (by omega)] | rw [if_neg (by omega)])), Or.inr rfl, Or.inl rfl, trivial⟩ rfl
  exact loop5 _ 0 (Nat.lt_succ_self _) (Nat.zero_le _)
set_option maxRecDepth 100000 in
set_option maxHeartbeats 4000000 in
theorem c_X9_skilled {Γ : Ga} {l : Launch} {ω : Wo} (hw : WM ω.2.1)  {x : Nat} (hx : x < 2147483648) {M : Int} (hI : RI M (ω.1 244)) : CI Γ l yX9_skilled cX9_skilled 4 .int 1 [.ref (rl Γ 243), .int (iI ((x : Int)))] ω (fun z ω' => z = skl (ω.1 244) x ∧ ω = ω') := by
  refine Met.ofJ (k := 2) [some (.ref (rl Γ 243)), some (.int (iI ((x : Int)))), none, none] (by decide) rfl rfl rfl (fun p e s mm args below meth c C hrt => ?_)
  have g := hI.s
  have gc := hI.c
  refine j_iconst C dX9_skilled_0 ?_
  refine j_istore2 C rfl dX9_skilled_1 ?_
  refine j_iconst C dX9_skilled_2 ?_
  refine j_istore3 C rfl dX9_skilled_3 ?_
  have loop4 : ∀ (N : Nat) (k : Nat), (cM (ω.1 244) - k) < N → (k ≤ cM (ω.1 244)) → J Γ p l e (rmk 1 0 0) s mm args below meth c (MQ below (QI Γ (fun z ω' => z = skl (ω.1 244) x ∧ ω = ω')) args s 0 0 (gA Γ)) 254 0 0 4 [some (.ref (rl Γ 243)), some (.int (iI ((x : Nat) : Int))), some (.int (iI (sklUp (ω.1 244) x k))), some (.int (iI ((k : Nat) : Int)))] [] ω := by
    intro N
    induction N with
    | zero => intro k hN; exact absurd hN (Nat.not_lt_zero _)
    | succ N ih4 =>
      intro k hN hi0
      have gl := hI.m k
      have go := sklUp_rg (ω.1 244) x k
      refine j_iload3 C dX9_skilled_4 ?_
      refine j_aload0 C dX9_skilled_5 ?_
      refine j_getr C fX9_9 at_243 rfl hw.r0 dX9_skilled_6 ?_
      refine j_iconst C dX9_skilled_9 ?_
      refine j_ialdK C at_244 ⟨rfl, rfl⟩ (N := 111) rfl (by decide) (k := 1) rfl (by decide) dX9_skilled_10 (fun hr10 => ?_)
      refine j_icmp_ge C ⟨by omega, by omega⟩ ⟨by omega, by omega⟩ dX9_skilled_11 (fun hc11 => ?_) (fun hc11 => ?_)
      · -- 11 T
        refine j_iload2 C dX9_skilled_46 ?_
        refine j_iret C hrt dX9_skilled_47 ⟨by omega, by omega⟩ ?_
        have : k = cM (ω.1 244) := by omega
        subst this
        exact ⟨rfl, rfl⟩
      · -- 11 F
        refine j_iload2 C dX9_skilled_14 ?_
        refine j_iload1 C dX9_skilled_15 ?_
        refine j_iload3 C dX9_skilled_16 ?_
        refine j_ishr C (by omega) (by omega) dX9_skilled_17 ?_
        refine j_iconstN C (k := 1) rfl dX9_skilled_18 ?_
        refine j_iand1 C dX9_skilled_19 ?_
        refine j_iconst C dX9_skilled_20 ?_
        refine j_icmp_ne C ⟨by omega, by omega⟩ ⟨by omega, by omega⟩ dX9_skilled_21 (fun hc21 => ?_) (fun hc21 => ?_)
        · -- 21 T
          refine j_iconst C dX9_skilled_37 ?_
          refine j_iadd C dX9_skilled_38 ?_
          refine j_istore2 C rfl dX9_skilled_39 ?_
          refine j_iinc3n C rfl dX9_skilled_40 ?_
          refine j_goto C dX9_skilled_43 ?_
          exact j_fg (ih4 (k + 1) (by omega) (by omega)) ⟨Or.inr rfl, Or.inr rfl, Or.inr (sI (by simp only [sklUp]; first | rw [if_pos (by omega)] | rw [if_neg (by omega)])), Or.inr rfl, trivial⟩ rfl
        · -- 21 F
          refine j_aload0 C dX9_skilled_24 ?_
          refine j_iload3 C dX9_skilled_25 ?_
          refine j_iconst C dX9_skilled_26 ?_
          refine j_cVI2 C (c_X9_of (by exact hw) (by omega) (by omega)) oX9_of kX9_103 ⟨_, rfl, rfl⟩ at_243 ⟨by decide, by decide⟩ rfl (Nat.le_of_ble_eq_true rfl) ⟨by decide, by decide⟩ dX9_skilled_27 ?_
          rintro _ _ hz27 ⟨rfl, rfl⟩
          refine j_if_le C ⟨by omega, by omega⟩ dX9_skilled_30 (fun hc30 => ?_) (fun hc30 => ?_)
          · -- 30 T
            refine j_iconst C dX9_skilled_37 ?_
            refine j_iadd C dX9_skilled_38 ?_
            refine j_istore2 C rfl dX9_skilled_39 ?_
            refine j_iinc3n C rfl dX9_skilled_40 ?_
            refine j_goto C dX9_skilled_43 ?_
            exact j_fg (ih4 (k + 1) (by omega) (by omega)) ⟨Or.inr rfl, Or.inr rfl, Or.inr (sI (by simp only [sklUp]; first | rw [if_pos (by omega)] | rw [if_neg (by omega)])), Or.inr rfl, trivial⟩ rfl
          · -- 30 F
            refine j_iconst C dX9_skilled_33 ?_
            refine j_goto C dX9_skilled_34 ?_
            refine j_iadd C dX9_skilled_38 ?_
            refine j_istore2 C rfl dX9_skilled_39 ?_
            refine j_iinc3n C rfl dX9_skilled_40 ?_
            refine j_goto C dX9_skilled_43 ?_
            exact j_fg (ih4 (k + 1) (by omega) (by omega)) ⟨Or.inr rfl, Or.inr rfl, Or.inr (sI (by simp only [sklUp]; first | rw [if_pos (by omega)] | rw [if_neg (by omega)])), Or.inr rfl, trivial⟩ rfl
  exact loop4 _ 0 (Nat.lt_succ_self _) (Nat.zero_le _)
theorem c_X9_isRefused_1 {Γ : Ga} {l : Launch} {ω : Wo} (hw : WM ω.2.1) {k w : Int} (hk : Rg k) (hv : Rg w) : CI Γ l yX9_isRefused cX9_isRefused 4 .boolean 0 [.ref (rl Γ 243), .int (iI 1), .int (iI k), .int (iI w)] ω (fun z ω' => z = 1 ∧ ω' = refM ω k w) := by
  have h := c_X9_isRefused (P := True) (Γ := Γ) (l := l) hw hk hv
  simp only [bI, if_true] at h
  exact h
theorem c_X9_isRefused_0 {Γ : Ga} {l : Launch} {ω : Wo} (hw : WM ω.2.1) {k w : Int} (hk : Rg k) (hv : Rg w) : CI Γ l yX9_isRefused cX9_isRefused 4 .boolean 0 [.ref (rl Γ 243), .int (iI 0), .int (iI k), .int (iI w)] ω (fun z ω' => z = 0 ∧ ω' = ω) := by
  have h := c_X9_isRefused (P := False) (Γ := Γ) (l := l) hw hk hv
  simp only [bI, if_false] at h
  exact h
theorem c_X9_isThrown_1 {Γ : Ga} {l : Launch} {ω : Wo} (hw : WM ω.2.1) {k : Int} (hk : Rg k) : CI Γ l yX9_isThrown cX9_isThrown 3 .boolean 0 [.ref (rl Γ 243), .int (iI 1), .int (iI k)] ω (fun z ω' => z = 1 ∧ ω' = wf ω 243 (up (ω.1 243) 6 k)) := by
  have h := c_X9_isThrown (P := True) (Γ := Γ) (l := l) hw hk
  simp only [bI, if_true] at h
  exact h
theorem c_X9_isThrown_0 {Γ : Ga} {l : Launch} {ω : Wo} (hw : WM ω.2.1) {k : Int} (hk : Rg k) : CI Γ l yX9_isThrown cX9_isThrown 3 .boolean 0 [.ref (rl Γ 243), .int (iI 0), .int (iI k)] ω (fun z ω' => z = 0 ∧ ω' = wf ω 243 (up (ω.1 243) 6 0)) := by
  have h := c_X9_isThrown (P := False) (Γ := Γ) (l := l) hw hk
  simp only [bI, if_false] at h
  exact h
theorem c_X9_isOutside_1 {Γ : Ga} {l : Launch} {ω : Wo} (hw : WM ω.2.1) : CI Γ l yX9_isOutside cX9_isOutside 2 .boolean 1 [.ref (rl Γ 243), .int (iI 1)] ω (fun z ω' => z = 0 ∧ ω' = ω) := by
  have h := c_X9_isOutside (P := True) (Γ := Γ) (l := l) hw
  simp only [bI, if_true, not_true_eq_false, if_false] at h
  exact h
theorem c_X9_isOutside_0 {Γ : Ga} {l : Launch} {ω : Wo} (hw : WM ω.2.1) : CI Γ l yX9_isOutside cX9_isOutside 2 .boolean 1 [.ref (rl Γ 243), .int (iI 0)] ω (fun z ω' => z = 1 ∧ ω' = refM ω 1 0) := by
  have h := c_X9_isOutside (P := False) (Γ := Γ) (l := l) hw
  simp only [bI, if_false, not_false_eq_true, if_true] at h
  exact h
def DoM (d : Nat) (ω : Wo) (a b : Int) (z : Int) (ω' : Wo) : Prop := ((jd d (ω.1 244) a b).1 = 0 ∧ z = (ad d (ω.1 244) a b).1 ∧ ω' = wf ω 244 (ad d (ω.1 244) a b).2) ∨ ((jd d (ω.1 244) a b).1 ≠ 0 ∧ z = 0 ∧ ω' = refM ω (jd d (ω.1 244) a b).1 (jd d (ω.1 244) a b).2)
theorem DoM.ref {d : Nat} {ω : Wo} {a b r t : Int} (e : jd d (ω.1 244) a b = (r, t)) (hr : r ≠ 0) : DoM d ω a b 0 (refM ω r t) := Or.inr (by rw [e]; exact ⟨hr, rfl, rfl⟩)
theorem DoM.ok {d : Nat} {ω ω' : Wo} {a b z : Int} (e : jd d (ω.1 244) a b = (0, 0)) (h1 : z = (ad d (ω.1 244) a b).1) (h2 : ω' = wf ω 244 (ad d (ω.1 244) a b).2) : DoM d ω a b z ω' := Or.inl ⟨by rw [e], h1, h2⟩
theorem wf_43 (ω : Wo) (f : Row) : (wf ω 243 f).1 244 = ω.1 244 := rfl
theorem refM_44 (ω : Wo) (a b : Int) : (refM ω a b).1 244 = ω.1 244 := rfl
set_option maxRecDepth 100000 in
set_option maxHeartbeats 4000000 in
theorem c_X9_comes {Γ : Ga} {l : Launch} {ω : Wo} (hw : WM ω.2.1)  {a : Int} (ha : Rg a) {M : Int} (hI : RI M (ω.1 244)) : CI Γ l yX9_comes cX9_comes 4 .int 2 [.ref (rl Γ 243), .int (iI a)] ω (fun z ω' => DoM 0 ω a 0 z ω') := by
  refine Met.ofJ (k := 2) [some (.ref (rl Γ 243)), some (.int (iI a)), none, none] (by decide) rfl rfl rfl (fun p e s mm args below meth c C hrt => ?_)
  have g := hI.s
  have gc := hI.c
  refine j_aload0 C dX9_comes_0 ?_
  refine j_iload1 C dX9_comes_1 ?_
  refine j_iconst C dX9_comes_2 ?_
  refine j_iconst C dX9_comes_3 ?_
  refine j_cSI3 C (c_X9_isIn ⟨by omega, by omega⟩ ⟨by omega, by omega⟩ ⟨by omega, by omega⟩) oX9_isIn kX9_60 ⟨by decide, by decide⟩ rfl (Nat.le_of_ble_eq_true rfl) ⟨by decide, by decide⟩ dX9_comes_4 ?_
  rintro _ _ hz4 ⟨rfl, rfl⟩
  refine j_cVI1 C (c_X9_isOutside (by exact hw)) oX9_isOutside kX9_86 ⟨_, rfl, rfl⟩ at_243 ⟨by decide, by decide⟩ rfl (Nat.le_of_ble_eq_true rfl) ⟨by decide, by decide⟩ dX9_comes_7 ?_
  rintro _ _ hz7 ⟨rfl, rfl⟩
  refine j_ifneb C dX9_comes_10 (fun hc10 => ?_) (fun hc10 => ?_)
  · -- 10 T
    rw [if_pos hc10]
    refine j_iconst C dX9_comes_39 ?_
    refine j_iret C hrt dX9_comes_40 ⟨by omega, by omega⟩ ?_
    first | exact DoM.ref (by simp only [jd]; repeat (first | rw [if_pos (by omega)] | rw [if_neg (by omega)])) (by omega) | (refine DoM.ok (by simp only [jd]; repeat (first | rw [if_pos (by omega)] | rw [if_neg (by omega)])) ?_ ?_; rfl; (try simp only [wi_wf, wf_same, wf_wf, wf_43, refM_44]); congr 1; funext y; simp only [ad, newM, up, zro]; repeat' split; all_goals (first | rfl | omega))
  · -- 10 F
    rw [if_neg hc10]
    refine j_aload0 C dX9_comes_13 ?_
    refine j_aload0 C dX9_comes_14 ?_
    refine j_getr C fX9_9 at_243 rfl hw.r0 dX9_comes_15 ?_
    refine j_iconst C dX9_comes_18 ?_
    refine j_ialdK C at_244 ⟨rfl, rfl⟩ (N := 111) rfl (by decide) (k := 1) rfl (by decide) dX9_comes_19 (fun hr19 => ?_)
    refine j_bipush C (by decide) dX9_comes_20 ?_
    refine j_icmp_ne C ⟨by omega, by omega⟩ ⟨by omega, by omega⟩ dX9_comes_22 (fun hc22 => ?_) (fun hc22 => ?_)
    · -- 22 T
      refine j_iconst C dX9_comes_29 ?_
      refine j_iconst C dX9_comes_30 ?_
      refine j_bipush C (by decide) dX9_comes_31 ?_
      refine j_cVI3 C (c_X9_isRefused_0 (by exact hw) ⟨by omega, by omega⟩ ⟨by omega, by omega⟩) oX9_isRefused kX9_64 ⟨_, rfl, rfl⟩ at_243 ⟨by decide, by decide⟩ rfl (Nat.le_of_ble_eq_true rfl) ⟨by decide, by decide⟩ dX9_comes_33 ?_
      intro _ w9 _ h9
      obtain ⟨h8, h9⟩ := h9
      rw [h8, h9]
      clear h8 h9 w9
      refine j_if_eq C (by decide) dX9_comes_36 (fun _ => ?_) (fun hc => absurd hc (by decide))
      refine j_aload0 C dX9_comes_41 ?_
      refine j_getr C fX9_9 at_243 rfl hw.r0 dX9_comes_42 ?_
      refine j_iconst C dX9_comes_45 ?_
      refine j_ialdK C at_244 ⟨rfl, rfl⟩ (N := 111) rfl (by decide) (k := 1) rfl (by decide) dX9_comes_46 (fun hr46 => ?_)
      refine j_istore2 C rfl dX9_comes_47 ?_
      refine j_iconst C dX9_comes_48 ?_
      refine j_istore3 C rfl dX9_comes_49 ?_
      have hlt : (ω.1 244) 1 < 10 := by omega
      have loop50 : ∀ (N : Nat) (n : Nat), (7 - n) < N → (n ≤ 7) → J Γ p l e (rmk 2 0 0) s mm args below meth c (MQ below (QI Γ (fun z ω' => DoM 0 ω a 0 z ω')) args s 0 0 (gA Γ)) 254 0 0 50 [some (.ref (rl Γ 243)), some (.int (iI a)), some (.int (iI ((ω.1 244) 1))), some (.int (iI ((n : Nat) : Int)))] [] (wf ω 244 (zro (ω.1 244) (8 + 7 * cM (ω.1 244)) n)) := by
        intro N
        induction N with
        | zero => intro n hN; exact absurd hN (Nat.not_lt_zero _)
        | succ N ih50 =>
          intro n hN hi0
          refine j_iload3 C dX9_comes_50 ?_
          refine j_bipush C (by decide) dX9_comes_51 ?_
          refine j_icmp_ge C ⟨by omega, by omega⟩ ⟨by omega, by omega⟩ dX9_comes_53 (fun hc53 => ?_) (fun hc53 => ?_)
          · -- 53 T
            refine j_aload0 C dX9_comes_69 ?_
            refine j_iload2 C dX9_comes_70 ?_
            refine j_iconst C dX9_comes_71 ?_
            refine j_iload1 C dX9_comes_72 ?_
            refine j_cVV3 C (c_X9_sets (by exact hw) (by omega) (by omega) ⟨by omega, by omega⟩) oX9_sets kX9_90 ⟨_, rfl, rfl⟩ at_243 ⟨by decide, by decide⟩ rfl (Nat.le_of_ble_eq_true rfl) ⟨by decide, by decide⟩ dX9_comes_73 ?_
            rintro _ rfl
            try simp only [wi_wf, wf_same, wf_wf, tM0, tM1, tM2, tM3, tM4, tM5, tM6, tB0, tB1, tB2, tB3, tB4, tB5, tB6, tL0, tL1, tL2]
            refine j_aload0 C dX9_comes_76 ?_
            refine j_iload2 C dX9_comes_77 ?_
            refine j_iconst C dX9_comes_78 ?_
            refine j_iconst C dX9_comes_79 ?_
            refine j_cVV3 C (c_X9_sets (by exact hw) (by omega) (by omega) ⟨by omega, by omega⟩) oX9_sets kX9_90 ⟨_, rfl, rfl⟩ at_243 ⟨by decide, by decide⟩ rfl (Nat.le_of_ble_eq_true rfl) ⟨by decide, by decide⟩ dX9_comes_80 ?_
            rintro _ rfl
            try simp only [wi_wf, wf_same, wf_wf, tM0, tM1, tM2, tM3, tM4, tM5, tM6, tB0, tB1, tB2, tB3, tB4, tB5, tB6, tL0, tL1, tL2]
            refine j_aload0 C dX9_comes_83 ?_
            refine j_getr C fX9_9 at_243 rfl hw.r0 dX9_comes_84 ?_
            refine j_iconst C dX9_comes_87 ?_
            refine j_dup2 C rfl rfl dX9_comes_88 ?_
            refine j_ialdK C at_244 ⟨rfl, rfl⟩ (N := 111) rfl (by decide) (k := 1) rfl (by decide) dX9_comes_89 (fun hr89 => ?_)
            refine j_iconst C dX9_comes_90 ?_
            refine j_iadd C dX9_comes_91 ?_
            refine j_iastK C at_244 ⟨rfl, rfl⟩ (N := 111) rfl (by decide) (k := 1) rfl (by decide) (by simp only [wf_same, up, zro, if_true, if_false]; (repeat (first | rw [if_pos (by omega)] | rw [if_neg (by omega)])); exact ⟨by omega, by omega⟩) dX9_comes_92 ?_
            refine j_iload2 C dX9_comes_93 ?_
            refine j_iret C hrt dX9_comes_94 ⟨by omega, by omega⟩ ?_
            first | exact DoM.ref (by simp only [jd]; repeat (first | rw [if_pos (by omega)] | rw [if_neg (by omega)])) (by omega) | (refine DoM.ok (by simp only [jd]; repeat (first | rw [if_pos (by omega)] | rw [if_neg (by omega)])) ?_ ?_; rfl; (try simp only [wi_wf, wf_same, wf_wf, wf_43, refM_44]); congr 1; funext y; simp only [ad, newM, up, zro]; repeat' split; all_goals (first | rfl | omega))
          · -- 53 F
            refine j_aload0 C dX9_comes_56 ?_
            refine j_iload2 C dX9_comes_57 ?_
            refine j_iload3 C dX9_comes_58 ?_
            refine j_iconst C dX9_comes_59 ?_
            refine j_cVV3 C (c_X9_sets (by exact hw) (by omega) (by omega) ⟨by omega, by omega⟩) oX9_sets kX9_90 ⟨_, rfl, rfl⟩ at_243 ⟨by decide, by decide⟩ rfl (Nat.le_of_ble_eq_true rfl) ⟨by decide, by decide⟩ dX9_comes_60 ?_
            rintro _ rfl
            try simp only [wi_wf, wf_same, wf_wf, tM0, tM1, tM2, tM3, tM4, tM5, tM6, tB0, tB1, tB2, tB3, tB4, tB5, tB6, tL0, tL1, tL2]
            refine j_iinc3n C rfl dX9_comes_63 ?_
            refine j_goto C dX9_comes_66 ?_
            exact j_fg (ih50 (n + 1) (by omega) (by omega)) ⟨Or.inr rfl, Or.inr rfl, Or.inr rfl, Or.inr rfl, trivial⟩ (by rw [show (8 + 7 * (ω.1 244) 1 + (n : Int)).toNat = 8 + 7 * cM (ω.1 244) + n by omega, zro_s])
      exact j_fg (loop50 _ 0 (Nat.lt_succ_self _) (Nat.zero_le _)) ⟨Or.inr rfl, Or.inr rfl, Or.inr rfl, Or.inr rfl, trivial⟩ (by rw [zro_0, wf_id])
    · -- 22 F
      refine j_iconst C dX9_comes_25 ?_
      refine j_goto C dX9_comes_26 ?_
      refine j_iconst C dX9_comes_30 ?_
      refine j_bipush C (by decide) dX9_comes_31 ?_
      refine j_cVI3 C (c_X9_isRefused_1 (by exact hw) ⟨by omega, by omega⟩ ⟨by omega, by omega⟩) oX9_isRefused kX9_64 ⟨_, rfl, rfl⟩ at_243 ⟨by decide, by decide⟩ rfl (Nat.le_of_ble_eq_true rfl) ⟨by decide, by decide⟩ dX9_comes_33 ?_
      rintro _ _ hz33 ⟨rfl, rfl⟩
      refine j_if_eq C (by decide) dX9_comes_36 (fun hc => absurd hc (by decide)) (fun _ => ?_)
      refine j_iconst C dX9_comes_39 ?_
      refine j_iret C hrt dX9_comes_40 ⟨by omega, by omega⟩ ?_
      first | exact DoM.ref (by simp only [jd]; repeat (first | rw [if_pos (by omega)] | rw [if_neg (by omega)])) (by omega) | (refine DoM.ok (by simp only [jd]; repeat (first | rw [if_pos (by omega)] | rw [if_neg (by omega)])) ?_ ?_; rfl; (try simp only [wi_wf, wf_same, wf_wf, wf_43, refM_44]); congr 1; funext y; simp only [ad, newM, up, zro]; repeat' split; all_goals (first | rfl | omega))
theorem Na_ref {ω : Wo} {m r t : Int} (e : jA (ω.1 244) m = (r, t)) (hr : r ≠ 0) : (1 : Int) = bI ((jA (ω.1 244) m).1 ≠ 0) ∧ refM ω r t = if (jA (ω.1 244) m).1 ≠ 0 then refM ω (jA (ω.1 244) m).1 (jA (ω.1 244) m).2 else ω := by
  rw [e]; exact ⟨(bI_t hr).symm, (if_pos hr).symm⟩
theorem Na_ok {ω : Wo} {m : Int} (e : jA (ω.1 244) m = (0, 0)) : (0 : Int) = bI ((jA (ω.1 244) m).1 ≠ 0) ∧ ω = if (jA (ω.1 244) m).1 ≠ 0 then refM ω (jA (ω.1 244) m).1 (jA (ω.1 244) m).2 else ω := by
  rw [e]; exact ⟨(bI_f (by decide)).symm, (if_neg (by decide)).symm⟩
theorem jA_ok {s : Row} {m : Int} (h : (jA s m).1 = 0) : (0 ≤ m ∧ m ≤ s 1 - 1) ∧ sM s m 1 ≠ 2 ∧ sM s m 1 ≠ 1 ∧ jA s m = (0, 0) := by
  unfold jA at h ⊢
  split at h
  · simp at h
  · split at h
    · simp at h
    · split at h
      · simp at h
      · rename_i h1 h2 h3
        refine ⟨Decidable.not_not.mp h1, h2, h3, ?_⟩
        rw [if_neg h1, if_neg h2, if_neg h3]
theorem DoM.refJ {d : Nat} {ω : Wo} {a b : Int} {j : Int × Int} (e : jd d (ω.1 244) a b = j) (hr : j.1 ≠ 0) : DoM d ω a b 0 (refM ω j.1 j.2) := Or.inr (by rw [e]; exact ⟨hr, rfl, rfl⟩)
theorem rg_small {z : Int} (h : -1000000000 ≤ z ∧ z ≤ 1000000000) : Rg z := ⟨by omega, by omega⟩
set_option maxRecDepth 100000 in
set_option maxHeartbeats 4000000 in
theorem c_X9_isNotAshore {Γ : Ga} {l : Launch} {ω : Wo} (hw : WM ω.2.1)  {m : Int} (hm : Rg m) {M : Int} (hI : RI M (ω.1 244)) : CI Γ l yX9_isNotAshore cX9_isNotAshore 2 .boolean 2 [.ref (rl Γ 243), .int (iI m)] ω (fun z ω' => z = bI ((jA (ω.1 244) m).1 ≠ 0) ∧ ω' = if (jA (ω.1 244) m).1 ≠ 0 then refM ω (jA (ω.1 244) m).1 (jA (ω.1 244) m).2 else ω) := by
  refine Met.ofJ (k := 0) [some (.ref (rl Γ 243)), some (.int (iI m))] (by decide) rfl rfl rfl (fun p e s mm args below meth c C hrt => ?_)
  have g := hI.s
  have gc := hI.c
  refine j_aload0 C dX9_isNotAshore_0 ?_
  refine j_aload0 C dX9_isNotAshore_1 ?_
  refine j_iload1 C dX9_isNotAshore_2 ?_
  refine j_cVI1 C (c_X9_isMember (by exact hw) ⟨by omega, by omega⟩ (by exact hI)) oX9_isMember kX9_106 ⟨_, rfl, rfl⟩ at_243 ⟨by decide, by decide⟩ rfl (Nat.le_of_ble_eq_true rfl) ⟨by decide, by decide⟩ dX9_isNotAshore_3 ?_
  rintro _ _ hz3 ⟨rfl, rfl⟩
  refine j_ifneb C dX9_isNotAshore_6 (fun hc6 => ?_) (fun hc6 => ?_)
  · -- 6 T
    refine j_iconst C dX9_isNotAshore_13 ?_
    refine j_iconst C dX9_isNotAshore_14 ?_
    refine j_iload1 C dX9_isNotAshore_15 ?_
    refine j_cVI3 C (c_X9_isRefused_0 (by exact hw) ⟨by omega, by omega⟩ ⟨by omega, by omega⟩) oX9_isRefused kX9_64 ⟨_, rfl, rfl⟩ at_243 ⟨by decide, by decide⟩ rfl (Nat.le_of_ble_eq_true rfl) ⟨by decide, by decide⟩ dX9_isNotAshore_16 ?_
    intro _ w9 _ h9
    obtain ⟨h8, h9⟩ := h9
    rw [h8, h9]
    clear h8 h9 w9
    refine j_if_eq C (by decide) dX9_isNotAshore_19 (fun _ => ?_) (fun hc => absurd hc (by decide))
    refine j_aload0 C dX9_isNotAshore_24 ?_
    refine j_aload0 C dX9_isNotAshore_25 ?_
    refine j_iload1 C dX9_isNotAshore_26 ?_
    refine j_iconst C dX9_isNotAshore_27 ?_
    have gm := hI.m m (by omega)
    refine j_cVI2 C (c_X9_of (by exact hw) (by omega) (by omega)) oX9_of kX9_103 ⟨_, rfl, rfl⟩ at_243 ⟨by decide, by decide⟩ rfl (Nat.le_of_ble_eq_true rfl) ⟨by decide, by decide⟩ dX9_isNotAshore_28 ?_
    rintro _ _ hz28 ⟨rfl, rfl⟩
    refine j_iconst C dX9_isNotAshore_31 ?_
    refine j_icmp_ne C ⟨by omega, by omega⟩ ⟨by omega, by omega⟩ dX9_isNotAshore_32 (fun hc32 => ?_) (fun hc32 => ?_)
    · -- 32 T
      refine j_iconst C dX9_isNotAshore_39 ?_
      refine j_iconst C dX9_isNotAshore_40 ?_
      refine j_iconst C dX9_isNotAshore_41 ?_
      refine j_cVI3 C (c_X9_isRefused_0 (by exact hw) ⟨by omega, by omega⟩ ⟨by omega, by omega⟩) oX9_isRefused kX9_64 ⟨_, rfl, rfl⟩ at_243 ⟨by decide, by decide⟩ rfl (Nat.le_of_ble_eq_true rfl) ⟨by decide, by decide⟩ dX9_isNotAshore_42 ?_
      intro _ w9 _ h9
      obtain ⟨h8, h9⟩ := h9
      rw [h8, h9]
      clear h8 h9 w9
      refine j_if_ne C (by decide) dX9_isNotAshore_45 (fun hc => absurd hc (by decide)) (fun _ => ?_)
      refine j_aload0 C dX9_isNotAshore_48 ?_
      refine j_aload0 C dX9_isNotAshore_49 ?_
      refine j_iload1 C dX9_isNotAshore_50 ?_
      refine j_iconst C dX9_isNotAshore_51 ?_
      refine j_cVI2 C (c_X9_of (by exact hw) (by omega) (by omega)) oX9_of kX9_103 ⟨_, rfl, rfl⟩ at_243 ⟨by decide, by decide⟩ rfl (Nat.le_of_ble_eq_true rfl) ⟨by decide, by decide⟩ dX9_isNotAshore_52 ?_
      rintro _ _ hz52 ⟨rfl, rfl⟩
      refine j_iconst C dX9_isNotAshore_55 ?_
      refine j_icmp_ne C ⟨by omega, by omega⟩ ⟨by omega, by omega⟩ dX9_isNotAshore_56 (fun hc56 => ?_) (fun hc56 => ?_)
      · -- 56 T
        refine j_iconst C dX9_isNotAshore_63 ?_
        refine j_iconst C dX9_isNotAshore_64 ?_
        refine j_aload0 C dX9_isNotAshore_65 ?_
        refine j_iload1 C dX9_isNotAshore_66 ?_
        refine j_iconst C dX9_isNotAshore_67 ?_
        refine j_cVI2 C (c_X9_of (by exact hw) (by omega) (by omega)) oX9_of kX9_103 ⟨_, rfl, rfl⟩ at_243 ⟨by decide, by decide⟩ rfl (Nat.le_of_ble_eq_true rfl) ⟨by decide, by decide⟩ dX9_isNotAshore_68 ?_
        rintro _ _ hz68 ⟨rfl, rfl⟩
        refine j_cVI3 C (c_X9_isRefused_0 (by exact hw) ⟨by omega, by omega⟩ ⟨by omega, by omega⟩) oX9_isRefused kX9_64 ⟨_, rfl, rfl⟩ at_243 ⟨by decide, by decide⟩ rfl (Nat.le_of_ble_eq_true rfl) ⟨by decide, by decide⟩ dX9_isNotAshore_71 ?_
        intro _ w9 _ h9
        obtain ⟨h8, h9⟩ := h9
        rw [h8, h9]
        clear h8 h9 w9
        refine j_if_eq C (by decide) dX9_isNotAshore_74 (fun _ => ?_) (fun hc => absurd hc (by decide))
        refine j_iconst C dX9_isNotAshore_81 ?_
        refine j_zret C hrt dX9_isNotAshore_82 (by first | exact Or.inl rfl | exact Or.inr rfl | exact bI_01 _) ?_
        first | exact Na_ref (by simp only [jA]; repeat (first | rw [if_pos (by omega)] | rw [if_neg (by omega)])) (by decide) | exact Na_ok (by simp only [jA]; repeat (first | rw [if_pos (by omega)] | rw [if_neg (by omega)]))
      · -- 56 F
        refine j_iconst C dX9_isNotAshore_59 ?_
        refine j_goto C dX9_isNotAshore_60 ?_
        refine j_iconst C dX9_isNotAshore_64 ?_
        refine j_aload0 C dX9_isNotAshore_65 ?_
        refine j_iload1 C dX9_isNotAshore_66 ?_
        refine j_iconst C dX9_isNotAshore_67 ?_
        refine j_cVI2 C (c_X9_of (by exact hw) (by omega) (by omega)) oX9_of kX9_103 ⟨_, rfl, rfl⟩ at_243 ⟨by decide, by decide⟩ rfl (Nat.le_of_ble_eq_true rfl) ⟨by decide, by decide⟩ dX9_isNotAshore_68 ?_
        rintro _ _ hz68 ⟨rfl, rfl⟩
        refine j_cVI3 C (c_X9_isRefused_1 (by exact hw) ⟨by omega, by omega⟩ ⟨by omega, by omega⟩) oX9_isRefused kX9_64 ⟨_, rfl, rfl⟩ at_243 ⟨by decide, by decide⟩ rfl (Nat.le_of_ble_eq_true rfl) ⟨by decide, by decide⟩ dX9_isNotAshore_71 ?_
        rintro _ _ hz71 ⟨rfl, rfl⟩
        refine j_if_eq C (by decide) dX9_isNotAshore_74 (fun hc => absurd hc (by decide)) (fun _ => ?_)
        refine j_iconst C dX9_isNotAshore_77 ?_
        refine j_goto C dX9_isNotAshore_78 ?_
        refine j_zret C hrt dX9_isNotAshore_82 (by first | exact Or.inl rfl | exact Or.inr rfl | exact bI_01 _) ?_
        first | exact Na_ref (by simp only [jA]; repeat (first | rw [if_pos (by omega)] | rw [if_neg (by omega)])) (by decide) | exact Na_ok (by simp only [jA]; repeat (first | rw [if_pos (by omega)] | rw [if_neg (by omega)]))
    · -- 32 F
      refine j_iconst C dX9_isNotAshore_35 ?_
      refine j_goto C dX9_isNotAshore_36 ?_
      refine j_iconst C dX9_isNotAshore_40 ?_
      refine j_iconst C dX9_isNotAshore_41 ?_
      refine j_cVI3 C (c_X9_isRefused_1 (by exact hw) ⟨by omega, by omega⟩ ⟨by omega, by omega⟩) oX9_isRefused kX9_64 ⟨_, rfl, rfl⟩ at_243 ⟨by decide, by decide⟩ rfl (Nat.le_of_ble_eq_true rfl) ⟨by decide, by decide⟩ dX9_isNotAshore_42 ?_
      rintro _ _ hz42 ⟨rfl, rfl⟩
      refine j_if_ne C (by decide) dX9_isNotAshore_45 (fun _ => ?_) (fun hc => absurd hc (by decide))
      refine j_iconst C dX9_isNotAshore_77 ?_
      refine j_goto C dX9_isNotAshore_78 ?_
      refine j_zret C hrt dX9_isNotAshore_82 (by first | exact Or.inl rfl | exact Or.inr rfl | exact bI_01 _) ?_
      first | exact Na_ref (by simp only [jA]; repeat (first | rw [if_pos (by omega)] | rw [if_neg (by omega)])) (by decide) | exact Na_ok (by simp only [jA]; repeat (first | rw [if_pos (by omega)] | rw [if_neg (by omega)]))
  · -- 6 F
    refine j_iconst C dX9_isNotAshore_9 ?_
    refine j_goto C dX9_isNotAshore_10 ?_
    refine j_iconst C dX9_isNotAshore_14 ?_
    refine j_iload1 C dX9_isNotAshore_15 ?_
    refine j_cVI3 C (c_X9_isRefused_1 (by exact hw) ⟨by omega, by omega⟩ ⟨by omega, by omega⟩) oX9_isRefused kX9_64 ⟨_, rfl, rfl⟩ at_243 ⟨by decide, by decide⟩ rfl (Nat.le_of_ble_eq_true rfl) ⟨by decide, by decide⟩ dX9_isNotAshore_16 ?_
    rintro _ _ hz16 ⟨rfl, rfl⟩
    refine j_if_eq C (by decide) dX9_isNotAshore_19 (fun hc => absurd hc (by decide)) (fun _ => ?_)
    refine j_iconst C dX9_isNotAshore_22 ?_
    refine j_zret C hrt dX9_isNotAshore_23 (by first | exact Or.inl rfl | exact Or.inr rfl | exact bI_01 _) ?_
    first | exact Na_ref (by simp only [jA]; repeat (first | rw [if_pos (by omega)] | rw [if_neg (by omega)])) (by decide) | exact Na_ok (by simp only [jA]; repeat (first | rw [if_pos (by omega)] | rw [if_neg (by omega)]))
set_option maxRecDepth 100000 in
set_option maxHeartbeats 4000000 in
theorem c_X9_leaves {Γ : Ga} {l : Launch} {ω : Wo} (hw : WM ω.2.1)  {a : Int} (ha : Rg a) {M : Int} (hI : RI M (ω.1 244)) : CI Γ l yX9_leaves cX9_leaves 2 .int 3 [.ref (rl Γ 243), .int (iI a)] ω (fun z ω' => DoM 1 ω a 0 z ω') := by
  refine Met.ofJ (k := 0) [some (.ref (rl Γ 243)), some (.int (iI a))] (by decide) rfl rfl rfl (fun p e s mm args below meth c C hrt => ?_)
  have g := hI.s
  have gc := hI.c
  refine j_aload0 C dX9_leaves_0 ?_
  refine j_iload1 C dX9_leaves_1 ?_
  refine j_cVI1 C (c_X9_isNotAshore (by exact hw) ⟨by omega, by omega⟩ (by exact hI)) oX9_isNotAshore kX9_110 ⟨_, rfl, rfl⟩ at_243 ⟨by decide, by decide⟩ rfl (Nat.le_of_ble_eq_true rfl) ⟨by decide, by decide⟩ dX9_leaves_2 ?_
  rintro _ _ hz2 ⟨rfl, rfl⟩
  try simp only [wi_wf, wf_same, wf_wf, tM0, tM1, tM2, tM3, tM4, tM5, tM6, tB0, tB1, tB2, tB3, tB4, tB5, tB6, tL0, tL1, tL2] at hz2 ⊢
  refine j_ifeqb C dX9_leaves_5 (fun hc5 => ?_) (fun hc5 => ?_)
  · -- 5 T
    rw [if_pos hc5]
    skip
    refine j_iconst C dX9_leaves_8 ?_
    refine j_iret C hrt dX9_leaves_9 ⟨by omega, by omega⟩ ?_
    exact DoM.refJ rfl hc5
  · -- 5 F
    rw [if_neg hc5]
    have hj := jA_ok (Decidable.not_not.mp hc5)
    have gm := hI.m a (by omega)
    have hI2 := hI.sm1 (m := a) (by omega) (v := 2) (by omega)
    refine j_aload0 C dX9_leaves_10 ?_
    refine j_iload1 C dX9_leaves_11 ?_
    refine j_iconst C dX9_leaves_12 ?_
    refine j_iconst C dX9_leaves_13 ?_
    refine j_cVV3 C (c_X9_sets (by exact hw) (by omega) (by omega) ⟨by omega, by omega⟩) oX9_sets kX9_90 ⟨_, rfl, rfl⟩ at_243 ⟨by decide, by decide⟩ rfl (Nat.le_of_ble_eq_true rfl) ⟨by decide, by decide⟩ dX9_leaves_14 ?_
    rintro _ rfl
    try simp only [wi_wf, wf_same, wf_wf, tM0, tM1, tM2, tM3, tM4, tM5, tM6, tB0, tB1, tB2, tB3, tB4, tB5, tB6, tL0, tL1, tL2]
    refine j_aload0 C dX9_leaves_17 ?_
    refine j_cVI0 C (c_X9_remaining (by exact hw) hI2) oX9_remaining kX9_113 ⟨_, rfl, rfl⟩ at_243 ⟨by decide, by decide⟩ rfl (Nat.le_of_ble_eq_true rfl) ⟨by decide, by decide⟩ dX9_leaves_18 ?_
    rintro _ _ hz18 ⟨rfl, rfl⟩
    try simp only [wi_wf, wf_same, wf_wf, tM0, tM1, tM2, tM3, tM4, tM5, tM6, tB0, tB1, tB2, tB3, tB4, tB5, tB6, tL0, tL1, tL2] at hz18 ⊢
    have gs := stayUp_rg (up (ω.1 244) (8 + 7 * a + 1).toNat 2) (cM (up (ω.1 244) (8 + 7 * a + 1).toNat 2))
    have gc2 := hI2.c
    refine j_iret C hrt dX9_leaves_21 (rg_small (by unfold stayN; omega)) ?_
    exact DoM.ok hj.2.2.2 rfl rfl
set_option maxRecDepth 100000 in
set_option maxHeartbeats 4000000 in
theorem c_X9_trains {Γ : Ga} {l : Launch} {ω : Wo} (hw : WM ω.2.1)  {a : Int} (ha : Rg a) {M : Int} (hI : RI M (ω.1 244)) : CI Γ l yX9_trains cX9_trains 2 .int 3 [.ref (rl Γ 243), .int (iI a)] ω (fun z ω' => DoM 2 ω a 0 z ω') := by
  refine Met.ofJ (k := 0) [some (.ref (rl Γ 243)), some (.int (iI a))] (by decide) rfl rfl rfl (fun p e s mm args below meth c C hrt => ?_)
  have g := hI.s
  have gc := hI.c
  refine j_aload0 C dX9_trains_0 ?_
  refine j_iload1 C dX9_trains_1 ?_
  refine j_cVI1 C (c_X9_isNotAshore (by exact hw) ⟨by omega, by omega⟩ (by exact hI)) oX9_isNotAshore kX9_110 ⟨_, rfl, rfl⟩ at_243 ⟨by decide, by decide⟩ rfl (Nat.le_of_ble_eq_true rfl) ⟨by decide, by decide⟩ dX9_trains_2 ?_
  rintro _ _ hz2 ⟨rfl, rfl⟩
  try simp only [wi_wf, wf_same, wf_wf, tM0, tM1, tM2, tM3, tM4, tM5, tM6, tB0, tB1, tB2, tB3, tB4, tB5, tB6, tL0, tL1, tL2] at hz2 ⊢
  refine j_ifneb C dX9_trains_5 (fun hc5 => ?_) (fun hc5 => ?_)
  · -- 5 T
    rw [if_pos hc5]
    skip
    refine j_iconst C dX9_trains_33 ?_
    refine j_iret C hrt dX9_trains_34 ⟨by omega, by omega⟩ ?_
    first | exact DoM.refJ (by simp only [jd]; rw [if_pos hc5]) hc5 | exact DoM.ref (by simp only [jd]; rw [if_neg hc5, if_pos (by omega)]) (by decide)
  · -- 5 F
    rw [if_neg hc5]
    have hj := jA_ok (Decidable.not_not.mp hc5)
    have gm := hI.m a (by omega)
    
    refine j_aload0 C dX9_trains_8 ?_
    refine j_aload0 C dX9_trains_9 ?_
    refine j_iload1 C dX9_trains_10 ?_
    refine j_iconst C dX9_trains_11 ?_
    refine j_cVI2 C (c_X9_of (by exact hw) (by omega) (by omega)) oX9_of kX9_103 ⟨_, rfl, rfl⟩ at_243 ⟨by decide, by decide⟩ rfl (Nat.le_of_ble_eq_true rfl) ⟨by decide, by decide⟩ dX9_trains_12 ?_
    rintro _ _ hz12 ⟨rfl, rfl⟩
    try simp only [wi_wf, wf_same, wf_wf, tM0, tM1, tM2, tM3, tM4, tM5, tM6, tB0, tB1, tB2, tB3, tB4, tB5, tB6, tL0, tL1, tL2] at hz12 ⊢
    refine j_iconst C dX9_trains_15 ?_
    refine j_icmp_ne C ⟨by omega, by omega⟩ ⟨by omega, by omega⟩ dX9_trains_16 (fun hc16 => ?_) (fun hc16 => ?_)
    · -- 16 T
      refine j_iconst C dX9_trains_23 ?_
      refine j_bipush C (by decide) dX9_trains_24 ?_
      refine j_iconst C dX9_trains_26 ?_
      refine j_cVI3 C (c_X9_isRefused_0 (by exact hw) ⟨by omega, by omega⟩ ⟨by omega, by omega⟩) oX9_isRefused kX9_64 ⟨_, rfl, rfl⟩ at_243 ⟨by decide, by decide⟩ rfl (Nat.le_of_ble_eq_true rfl) ⟨by decide, by decide⟩ dX9_trains_27 ?_
      intro _ w9 _ h9
      obtain ⟨h8, h9⟩ := h9
      rw [h8, h9]
      clear h8 h9 w9
      refine j_if_eq C (by decide) dX9_trains_30 (fun _ => ?_) (fun hc => absurd hc (by decide))
      refine j_aload0 C dX9_trains_35 ?_
      refine j_iload1 C dX9_trains_36 ?_
      refine j_iconst C dX9_trains_37 ?_
      refine j_aload0 C dX9_trains_38 ?_
      refine j_iload1 C dX9_trains_39 ?_
      refine j_iconst C dX9_trains_40 ?_
      refine j_cVI2 C (c_X9_of (by exact hw) (by omega) (by omega)) oX9_of kX9_103 ⟨_, rfl, rfl⟩ at_243 ⟨by decide, by decide⟩ rfl (Nat.le_of_ble_eq_true rfl) ⟨by decide, by decide⟩ dX9_trains_41 ?_
      rintro _ _ hz41 ⟨rfl, rfl⟩
      try simp only [wi_wf, wf_same, wf_wf, tM0, tM1, tM2, tM3, tM4, tM5, tM6, tB0, tB1, tB2, tB3, tB4, tB5, tB6, tL0, tL1, tL2] at hz41 ⊢
      refine j_iconst C dX9_trains_44 ?_
      refine j_iadd C dX9_trains_45 ?_
      refine j_cVV3 C (c_X9_sets (by exact hw) (by omega) (by omega) ⟨by omega, by omega⟩) oX9_sets kX9_90 ⟨_, rfl, rfl⟩ at_243 ⟨by decide, by decide⟩ rfl (Nat.le_of_ble_eq_true rfl) ⟨by decide, by decide⟩ dX9_trains_46 ?_
      rintro _ rfl
      try simp only [wi_wf, wf_same, wf_wf, tM0, tM1, tM2, tM3, tM4, tM5, tM6, tB0, tB1, tB2, tB3, tB4, tB5, tB6, tL0, tL1, tL2]
      refine j_aload0 C dX9_trains_49 ?_
      refine j_iload1 C dX9_trains_50 ?_
      refine j_iconst C dX9_trains_51 ?_
      refine j_cVI2 C (c_X9_of (by exact hw) (by omega) (by omega)) oX9_of kX9_103 ⟨_, rfl, rfl⟩ at_243 ⟨by decide, by decide⟩ rfl (Nat.le_of_ble_eq_true rfl) ⟨by decide, by decide⟩ dX9_trains_52 ?_
      rintro _ _ hz52 ⟨rfl, rfl⟩
      try simp only [wi_wf, wf_same, wf_wf, tM0, tM1, tM2, tM3, tM4, tM5, tM6, tB0, tB1, tB2, tB3, tB4, tB5, tB6, tL0, tL1, tL2] at hz52 ⊢
      refine j_iret C hrt dX9_trains_55 (rg_small (by simp only [sM, up, if_true]; show -1000000000 ≤ sM (ω.1 244) a 0 + 1 ∧ sM (ω.1 244) a 0 + 1 ≤ 1000000000; omega)) ?_
      refine DoM.ok (by simp only [jd]; rw [if_neg hc5, if_neg (by omega)]) ?_ ?_
      · simp only [sM, up, ad, if_true]
      · simp only [ad]; congr 2; omega
    · -- 16 F
      refine j_iconst C dX9_trains_19 ?_
      refine j_goto C dX9_trains_20 ?_
      refine j_bipush C (by decide) dX9_trains_24 ?_
      refine j_iconst C dX9_trains_26 ?_
      refine j_cVI3 C (c_X9_isRefused_1 (by exact hw) ⟨by omega, by omega⟩ ⟨by omega, by omega⟩) oX9_isRefused kX9_64 ⟨_, rfl, rfl⟩ at_243 ⟨by decide, by decide⟩ rfl (Nat.le_of_ble_eq_true rfl) ⟨by decide, by decide⟩ dX9_trains_27 ?_
      rintro _ _ hz27 ⟨rfl, rfl⟩
      try simp only [wi_wf, wf_same, wf_wf, tM0, tM1, tM2, tM3, tM4, tM5, tM6, tB0, tB1, tB2, tB3, tB4, tB5, tB6, tL0, tL1, tL2] at hz27 ⊢
      refine j_if_eq C (by decide) dX9_trains_30 (fun hc => absurd hc (by decide)) (fun _ => ?_)
      refine j_iconst C dX9_trains_33 ?_
      refine j_iret C hrt dX9_trains_34 ⟨by omega, by omega⟩ ?_
      first | exact DoM.refJ (by simp only [jd]; rw [if_pos hc5]) hc5 | exact DoM.ref (by simp only [jd]; rw [if_neg hc5, if_pos (by omega)]) (by decide)
set_option maxRecDepth 100000 in
set_option maxHeartbeats 4000000 in
theorem c_X9_builds {Γ : Ga} {l : Launch} {ω : Wo} (hw : WM ω.2.1)  {a b : Int} (ha : Rg a) (hb : Rg b) {M : Int} (hI : RI M (ω.1 244)) : CI Γ l yX9_builds cX9_builds 5 .int 2 [.ref (rl Γ 243), .int (iI a), .int (iI b)] ω (fun z ω' => DoM 3 ω a b z ω') := by
  refine Met.ofJ (k := 2) [some (.ref (rl Γ 243)), some (.int (iI a)), some (.int (iI b)), none, none] (by decide) rfl rfl rfl (fun p e s mm args below meth c C hrt => ?_)
  have g := hI.s
  have gc := hI.c
  refine j_aload0 C dX9_builds_0 ?_
  refine j_iload1 C dX9_builds_1 ?_
  refine j_iconst C dX9_builds_2 ?_
  refine j_bipush C (by decide) dX9_builds_3 ?_
  refine j_cSI3 C (c_X9_isIn ⟨by omega, by omega⟩ ⟨by omega, by omega⟩ ⟨by omega, by omega⟩) oX9_isIn kX9_60 ⟨by decide, by decide⟩ rfl (Nat.le_of_ble_eq_true rfl) ⟨by decide, by decide⟩ dX9_builds_5 ?_
  rintro _ _ hz5 ⟨rfl, rfl⟩
  refine j_ifeqb C dX9_builds_8 (fun hc8 => ?_) (fun hc8 => ?_)
  · -- 8 T
    refine j_iload2 C dX9_builds_11 ?_
    refine j_iconst C dX9_builds_12 ?_
    refine j_bipush C (by decide) dX9_builds_13 ?_
    refine j_cSI3 C (c_X9_isIn ⟨by omega, by omega⟩ ⟨by omega, by omega⟩ ⟨by omega, by omega⟩) oX9_isIn kX9_60 ⟨by decide, by decide⟩ rfl (Nat.le_of_ble_eq_true rfl) ⟨by decide, by decide⟩ dX9_builds_15 ?_
    rintro _ _ hz15 ⟨rfl, rfl⟩
    refine j_ifeqb C dX9_builds_18 (fun hc18 => ?_) (fun hc18 => ?_)
    · -- 18 T
      refine j_iconst C dX9_builds_21 ?_
      refine j_goto C dX9_builds_22 ?_
      refine j_cVI1 C (c_X9_isOutside_1 (by exact hw)) oX9_isOutside kX9_86 ⟨_, rfl, rfl⟩ at_243 ⟨by decide, by decide⟩ rfl (Nat.le_of_ble_eq_true rfl) ⟨by decide, by decide⟩ dX9_builds_26 ?_
      intro _ w9 _ h9
      obtain ⟨h8, h9⟩ := h9
      rw [h8, h9]
      clear h8 h9 w9
      refine j_if_ne C (by decide) dX9_builds_29 (fun hc => absurd hc (by decide)) (fun _ => ?_)
      refine j_aload0 C dX9_builds_32 ?_
      refine j_aload0 C dX9_builds_33 ?_
      refine j_getr C fX9_9 at_243 rfl hw.r0 dX9_builds_34 ?_
      refine j_iconst C dX9_builds_37 ?_
      refine j_ialdK C at_244 ⟨rfl, rfl⟩ (N := 111) rfl (by decide) (k := 2) rfl (by decide) dX9_builds_38 (fun hr38 => ?_)
      refine j_iconst C dX9_builds_39 ?_
      refine j_icmp_ne C ⟨by omega, by omega⟩ ⟨by omega, by omega⟩ dX9_builds_40 (fun hc40 => ?_) (fun hc40 => ?_)
      · -- 40 T
        refine j_iconst C dX9_builds_47 ?_
        refine j_iconst C dX9_builds_48 ?_
        refine j_iconst C dX9_builds_49 ?_
        refine j_cVI3 C (c_X9_isRefused_0 (by exact hw) ⟨by omega, by omega⟩ ⟨by omega, by omega⟩) oX9_isRefused kX9_64 ⟨_, rfl, rfl⟩ at_243 ⟨by decide, by decide⟩ rfl (Nat.le_of_ble_eq_true rfl) ⟨by decide, by decide⟩ dX9_builds_50 ?_
        intro _ w9 _ h9
        obtain ⟨h8, h9⟩ := h9
        rw [h8, h9]
        clear h8 h9 w9
        refine j_if_eq C (by decide) dX9_builds_53 (fun _ => ?_) (fun hc => absurd hc (by decide))
        refine j_aload0 C dX9_builds_58 ?_
        refine j_getr C fX9_9 at_243 rfl hw.r0 dX9_builds_59 ?_
        refine j_iconst C dX9_builds_62 ?_
        refine j_ialdK C at_244 ⟨rfl, rfl⟩ (N := 111) rfl (by decide) (k := 2) rfl (by decide) dX9_builds_63 (fun hr63 => ?_)
        refine j_istore3 C rfl dX9_builds_64 ?_
        refine j_iconst C dX9_builds_65 ?_
        refine j_istore4 C rfl dX9_builds_66 ?_
        have hlt : (ω.1 244) 2 < 3 := by omega
        have loop68 : ∀ (N : Nat) (n : Nat), (7 - n) < N → (n ≤ 7) → J Γ p l e (rmk 2 0 0) s mm args below meth c (MQ below (QI Γ (fun z ω' => DoM 3 ω a b z ω')) args s 0 0 (gA Γ)) 254 0 0 68 [some (.ref (rl Γ 243)), some (.int (iI a)), some (.int (iI b)), some (.int (iI ((ω.1 244) 2))), some (.int (iI ((n : Nat) : Int)))] [] (wf ω 244 (zro (ω.1 244) (78 + 7 * cB (ω.1 244)) n)) := by
          intro N
          induction N with
          | zero => intro n hN; exact absurd hN (Nat.not_lt_zero _)
          | succ N ih68 =>
            intro n hN hi0
            refine j_iload4 C dX9_builds_68 ?_
            refine j_bipush C (by decide) dX9_builds_70 ?_
            refine j_icmp_ge C ⟨by omega, by omega⟩ ⟨by omega, by omega⟩ dX9_builds_72 (fun hc72 => ?_) (fun hc72 => ?_)
            · -- 72 T
              refine j_aload0 C dX9_builds_89 ?_
              refine j_iload3 C dX9_builds_90 ?_
              refine j_iconst C dX9_builds_91 ?_
              refine j_iload1 C dX9_builds_92 ?_
              refine j_cVV3 C (c_X9_setsBoat (by exact hw) (by omega) (by omega) ⟨by omega, by omega⟩) oX9_setsBoat kX9_125 ⟨_, rfl, rfl⟩ at_243 ⟨by decide, by decide⟩ rfl (Nat.le_of_ble_eq_true rfl) ⟨by decide, by decide⟩ dX9_builds_93 ?_
              rintro _ rfl
              try simp only [wi_wf, wf_same, wf_wf, tM0, tM1, tM2, tM3, tM4, tM5, tM6, tB0, tB1, tB2, tB3, tB4, tB5, tB6, tL0, tL1, tL2]
              refine j_aload0 C dX9_builds_96 ?_
              refine j_iload3 C dX9_builds_97 ?_
              refine j_iconst C dX9_builds_98 ?_
              refine j_iload2 C dX9_builds_99 ?_
              refine j_cVV3 C (c_X9_setsBoat (by exact hw) (by omega) (by omega) ⟨by omega, by omega⟩) oX9_setsBoat kX9_125 ⟨_, rfl, rfl⟩ at_243 ⟨by decide, by decide⟩ rfl (Nat.le_of_ble_eq_true rfl) ⟨by decide, by decide⟩ dX9_builds_100 ?_
              rintro _ rfl
              try simp only [wi_wf, wf_same, wf_wf, tM0, tM1, tM2, tM3, tM4, tM5, tM6, tB0, tB1, tB2, tB3, tB4, tB5, tB6, tL0, tL1, tL2]
              refine j_aload0 C dX9_builds_103 ?_
              refine j_iload3 C dX9_builds_104 ?_
              refine j_iconst C dX9_builds_105 ?_
              refine j_iconst C dX9_builds_106 ?_
              refine j_cVV3 C (c_X9_setsBoat (by exact hw) (by omega) (by omega) ⟨by omega, by omega⟩) oX9_setsBoat kX9_125 ⟨_, rfl, rfl⟩ at_243 ⟨by decide, by decide⟩ rfl (Nat.le_of_ble_eq_true rfl) ⟨by decide, by decide⟩ dX9_builds_107 ?_
              rintro _ rfl
              try simp only [wi_wf, wf_same, wf_wf, tM0, tM1, tM2, tM3, tM4, tM5, tM6, tB0, tB1, tB2, tB3, tB4, tB5, tB6, tL0, tL1, tL2]
              refine j_aload0 C dX9_builds_110 ?_
              refine j_getr C fX9_9 at_243 rfl hw.r0 dX9_builds_111 ?_
              refine j_iconst C dX9_builds_114 ?_
              refine j_dup2 C rfl rfl dX9_builds_115 ?_
              refine j_ialdK C at_244 ⟨rfl, rfl⟩ (N := 111) rfl (by decide) (k := 2) rfl (by decide) dX9_builds_116 (fun hr116 => ?_)
              refine j_iconst C dX9_builds_117 ?_
              refine j_iadd C dX9_builds_118 ?_
              refine j_iastK C at_244 ⟨rfl, rfl⟩ (N := 111) rfl (by decide) (k := 2) rfl (by decide) (by simp only [wf_same, up, zro, if_true, if_false]; (repeat (first | rw [if_pos (by omega)] | rw [if_neg (by omega)])); exact ⟨by omega, by omega⟩) dX9_builds_119 ?_
              refine j_iload3 C dX9_builds_120 ?_
              refine j_iret C hrt dX9_builds_121 ⟨by omega, by omega⟩ ?_
              first | exact DoM.ref (by simp only [jd]; repeat (first | rw [if_pos (by omega)] | rw [if_neg (by omega)])) (by omega) | (refine DoM.ok (by simp only [jd]; repeat (first | rw [if_pos (by omega)] | rw [if_neg (by omega)])) ?_ ?_; rfl; (try simp only [wi_wf, wf_same, wf_wf, wf_43, refM_44]); congr 1; funext y; simp only [ad, newB, up, zro]; repeat' split; all_goals (first | rfl | omega))
            · -- 72 F
              refine j_aload0 C dX9_builds_75 ?_
              refine j_iload3 C dX9_builds_76 ?_
              refine j_iload4 C dX9_builds_77 ?_
              refine j_iconst C dX9_builds_79 ?_
              refine j_cVV3 C (c_X9_setsBoat (by exact hw) (by omega) (by omega) ⟨by omega, by omega⟩) oX9_setsBoat kX9_125 ⟨_, rfl, rfl⟩ at_243 ⟨by decide, by decide⟩ rfl (Nat.le_of_ble_eq_true rfl) ⟨by decide, by decide⟩ dX9_builds_80 ?_
              rintro _ rfl
              try simp only [wi_wf, wf_same, wf_wf, tM0, tM1, tM2, tM3, tM4, tM5, tM6, tB0, tB1, tB2, tB3, tB4, tB5, tB6, tL0, tL1, tL2]
              refine j_iinc4n C rfl dX9_builds_83 ?_
              refine j_goto C dX9_builds_86 ?_
              exact j_fg (ih68 (n + 1) (by omega) (by omega)) ⟨Or.inr rfl, Or.inr rfl, Or.inr rfl, Or.inr rfl, Or.inr rfl, trivial⟩ (by rw [show (78 + 7 * (ω.1 244) 2 + (n : Int)).toNat = 78 + 7 * cB (ω.1 244) + n by omega, zro_s])
        exact j_fg (loop68 _ 0 (Nat.lt_succ_self _) (Nat.zero_le _)) ⟨Or.inr rfl, Or.inr rfl, Or.inr rfl, Or.inr rfl, Or.inr rfl, trivial⟩ (by rw [zro_0, wf_id])
      · -- 40 F
        refine j_iconst C dX9_builds_43 ?_
        refine j_goto C dX9_builds_44 ?_
        refine j_iconst C dX9_builds_48 ?_
        refine j_iconst C dX9_builds_49 ?_
        refine j_cVI3 C (c_X9_isRefused_1 (by exact hw) ⟨by omega, by omega⟩ ⟨by omega, by omega⟩) oX9_isRefused kX9_64 ⟨_, rfl, rfl⟩ at_243 ⟨by decide, by decide⟩ rfl (Nat.le_of_ble_eq_true rfl) ⟨by decide, by decide⟩ dX9_builds_50 ?_
        rintro _ _ hz50 ⟨rfl, rfl⟩
        refine j_if_eq C (by decide) dX9_builds_53 (fun hc => absurd hc (by decide)) (fun _ => ?_)
        refine j_iconst C dX9_builds_56 ?_
        refine j_iret C hrt dX9_builds_57 ⟨by omega, by omega⟩ ?_
        first | exact DoM.ref (by simp only [jd]; repeat (first | rw [if_pos (by omega)] | rw [if_neg (by omega)])) (by omega) | (refine DoM.ok (by simp only [jd]; repeat (first | rw [if_pos (by omega)] | rw [if_neg (by omega)])) ?_ ?_; rfl; (try simp only [wi_wf, wf_same, wf_wf, wf_43, refM_44]); congr 1; funext y; simp only [ad, newB, up, zro]; repeat' split; all_goals (first | rfl | omega))
    · -- 18 F
      refine j_iconst C dX9_builds_25 ?_
      refine j_cVI1 C (c_X9_isOutside_0 (by exact hw)) oX9_isOutside kX9_86 ⟨_, rfl, rfl⟩ at_243 ⟨by decide, by decide⟩ rfl (Nat.le_of_ble_eq_true rfl) ⟨by decide, by decide⟩ dX9_builds_26 ?_
      rintro _ _ hz26 ⟨rfl, rfl⟩
      refine j_if_ne C (by decide) dX9_builds_29 (fun _ => ?_) (fun hc => absurd hc (by decide))
      refine j_iconst C dX9_builds_56 ?_
      refine j_iret C hrt dX9_builds_57 ⟨by omega, by omega⟩ ?_
      first | exact DoM.ref (by simp only [jd]; repeat (first | rw [if_pos (by omega)] | rw [if_neg (by omega)])) (by omega) | (refine DoM.ok (by simp only [jd]; repeat (first | rw [if_pos (by omega)] | rw [if_neg (by omega)])) ?_ ?_; rfl; (try simp only [wi_wf, wf_same, wf_wf, wf_43, refM_44]); congr 1; funext y; simp only [ad, newB, up, zro]; repeat' split; all_goals (first | rfl | omega))
  · -- 8 F
    refine j_iconst C dX9_builds_25 ?_
    refine j_cVI1 C (c_X9_isOutside_0 (by exact hw)) oX9_isOutside kX9_86 ⟨_, rfl, rfl⟩ at_243 ⟨by decide, by decide⟩ rfl (Nat.le_of_ble_eq_true rfl) ⟨by decide, by decide⟩ dX9_builds_26 ?_
    rintro _ _ hz26 ⟨rfl, rfl⟩
    refine j_if_ne C (by decide) dX9_builds_29 (fun _ => ?_) (fun hc => absurd hc (by decide))
    refine j_iconst C dX9_builds_56 ?_
    refine j_iret C hrt dX9_builds_57 ⟨by omega, by omega⟩ ?_
    first | exact DoM.ref (by simp only [jd]; repeat (first | rw [if_pos (by omega)] | rw [if_neg (by omega)])) (by omega) | (refine DoM.ok (by simp only [jd]; repeat (first | rw [if_pos (by omega)] | rw [if_neg (by omega)])) ?_ ?_; rfl; (try simp only [wi_wf, wf_same, wf_wf, wf_43, refM_44]); congr 1; funext y; simp only [ad, newB, up, zro]; repeat' split; all_goals (first | rfl | omega))
set_option maxRecDepth 100000 in
set_option maxHeartbeats 4000000 in
theorem c_X9_borrows {Γ : Ga} {l : Launch} {ω : Wo} (hw : WM ω.2.1)  {a b : Int} (ha : Rg a) (hb : Rg b) {M : Int} (hI : RI M (ω.1 244)) : CI Γ l yX9_borrows cX9_borrows 4 .int 2 [.ref (rl Γ 243), .int (iI a), .int (iI b)] ω (fun z ω' => DoM 5 ω a b z ω') := by
  refine Met.ofJ (k := 1) [some (.ref (rl Γ 243)), some (.int (iI a)), some (.int (iI b)), none] (by decide) rfl rfl rfl (fun p e s mm args below meth c C hrt => ?_)
  have g := hI.s
  have gc := hI.c
  refine j_aload0 C dX9_borrows_0 ?_
  refine j_iload1 C dX9_borrows_1 ?_
  refine j_iconst C dX9_borrows_2 ?_
  refine j_bipush C (by decide) dX9_borrows_3 ?_
  refine j_cSI3 C (c_X9_isIn ⟨by omega, by omega⟩ ⟨by omega, by omega⟩ ⟨by omega, by omega⟩) oX9_isIn kX9_60 ⟨by decide, by decide⟩ rfl (Nat.le_of_ble_eq_true rfl) ⟨by decide, by decide⟩ dX9_borrows_5 ?_
  rintro _ _ hz5 ⟨rfl, rfl⟩
  try simp only [wi_wf, wf_same, wf_wf, tM0, tM1, tM2, tM3, tM4, tM5, tM6, tB0, tB1, tB2, tB3, tB4, tB5, tB6, tL0, tL1, tL2] at hz5 ⊢
  refine j_cVI1 C (c_X9_isOutside (by exact hw)) oX9_isOutside kX9_86 ⟨_, rfl, rfl⟩ at_243 ⟨by decide, by decide⟩ rfl (Nat.le_of_ble_eq_true rfl) ⟨by decide, by decide⟩ dX9_borrows_8 ?_
  rintro _ _ hz8 ⟨rfl, rfl⟩
  try simp only [wi_wf, wf_same, wf_wf, tM0, tM1, tM2, tM3, tM4, tM5, tM6, tB0, tB1, tB2, tB3, tB4, tB5, tB6, tL0, tL1, tL2] at hz8 ⊢
  refine j_ifneb C dX9_borrows_11 (fun hc11 => ?_) (fun hc11 => ?_)
  · -- 11 T
    rw [if_pos hc11]
    refine j_iconst C dX9_borrows_52 ?_
    refine j_iret C hrt dX9_borrows_53 ⟨by omega, by omega⟩ ?_
    first | exact DoM.ref (by simp only [jd]; repeat (first | rw [if_pos (by omega)] | rw [if_neg (by omega)])) (by omega) | (refine DoM.ok (by simp only [jd]; repeat (first | rw [if_pos (by omega)] | rw [if_neg (by omega)])) ?_ ?_; simp only [wi_wf, wf_same, wf_wf, up, ad, if_true, if_false]; (repeat (first | rw [if_pos (by omega)] | rw [if_neg (by omega)])); omega; (try simp only [wi_wf, wf_same, wf_wf, wf_43, refM_44]); congr 1; funext y; simp only [ad, newL, up, zro]; repeat' split; all_goals (first | rfl | omega))
  · -- 11 F
    rw [if_neg hc11]
    refine j_aload0 C dX9_borrows_14 ?_
    refine j_iload2 C dX9_borrows_15 ?_
    refine j_iconst C dX9_borrows_16 ?_
    refine j_bipush C (by decide) dX9_borrows_17 ?_
    refine j_cSI3 C (c_X9_isIn ⟨by omega, by omega⟩ ⟨by omega, by omega⟩ ⟨by omega, by omega⟩) oX9_isIn kX9_60 ⟨by decide, by decide⟩ rfl (Nat.le_of_ble_eq_true rfl) ⟨by decide, by decide⟩ dX9_borrows_19 ?_
    rintro _ _ hz19 ⟨rfl, rfl⟩
    try simp only [wi_wf, wf_same, wf_wf, tM0, tM1, tM2, tM3, tM4, tM5, tM6, tB0, tB1, tB2, tB3, tB4, tB5, tB6, tL0, tL1, tL2] at hz19 ⊢
    refine j_cVI1 C (c_X9_isOutside (by exact hw)) oX9_isOutside kX9_86 ⟨_, rfl, rfl⟩ at_243 ⟨by decide, by decide⟩ rfl (Nat.le_of_ble_eq_true rfl) ⟨by decide, by decide⟩ dX9_borrows_22 ?_
    rintro _ _ hz22 ⟨rfl, rfl⟩
    try simp only [wi_wf, wf_same, wf_wf, tM0, tM1, tM2, tM3, tM4, tM5, tM6, tB0, tB1, tB2, tB3, tB4, tB5, tB6, tL0, tL1, tL2] at hz22 ⊢
    refine j_ifneb C dX9_borrows_25 (fun hc25 => ?_) (fun hc25 => ?_)
    · -- 25 T
      rw [if_pos hc25]
      refine j_iconst C dX9_borrows_52 ?_
      refine j_iret C hrt dX9_borrows_53 ⟨by omega, by omega⟩ ?_
      first | exact DoM.ref (by simp only [jd]; repeat (first | rw [if_pos (by omega)] | rw [if_neg (by omega)])) (by omega) | (refine DoM.ok (by simp only [jd]; repeat (first | rw [if_pos (by omega)] | rw [if_neg (by omega)])) ?_ ?_; simp only [wi_wf, wf_same, wf_wf, up, ad, if_true, if_false]; (repeat (first | rw [if_pos (by omega)] | rw [if_neg (by omega)])); omega; (try simp only [wi_wf, wf_same, wf_wf, wf_43, refM_44]); congr 1; funext y; simp only [ad, newL, up, zro]; repeat' split; all_goals (first | rfl | omega))
    · -- 25 F
      rw [if_neg hc25]
      refine j_aload0 C dX9_borrows_28 ?_
      refine j_aload0 C dX9_borrows_29 ?_
      refine j_getr C fX9_9 at_243 rfl hw.r0 dX9_borrows_30 ?_
      refine j_iconst C dX9_borrows_33 ?_
      refine j_ialdK C at_244 ⟨rfl, rfl⟩ (N := 111) rfl (by decide) (k := 3) rfl (by decide) dX9_borrows_34 (fun hr34 => ?_)
      try simp only [wf_same] at hr34 ⊢
      refine j_iconst C dX9_borrows_35 ?_
      refine j_icmp_ne C ⟨by omega, by omega⟩ ⟨by omega, by omega⟩ dX9_borrows_36 (fun hc36 => ?_) (fun hc36 => ?_)
      · -- 36 T
        refine j_iconst C dX9_borrows_43 ?_
        refine j_iconst C dX9_borrows_44 ?_
        refine j_iconst C dX9_borrows_45 ?_
        refine j_cVI3 C (c_X9_isRefused_0 (by exact hw) ⟨by omega, by omega⟩ ⟨by omega, by omega⟩) oX9_isRefused kX9_64 ⟨_, rfl, rfl⟩ at_243 ⟨by decide, by decide⟩ rfl (Nat.le_of_ble_eq_true rfl) ⟨by decide, by decide⟩ dX9_borrows_46 ?_
        intro _ w9 _ h9
        obtain ⟨h8, h9⟩ := h9
        rw [h8, h9]
        clear h8 h9 w9
        refine j_if_eq C (by decide) dX9_borrows_49 (fun _ => ?_) (fun hc => absurd hc (by decide))
        refine j_bipush C (by decide) dX9_borrows_54 ?_
        refine j_iconst C dX9_borrows_56 ?_
        refine j_aload0 C dX9_borrows_57 ?_
        refine j_getr C fX9_9 at_243 rfl hw.r0 dX9_borrows_58 ?_
        refine j_iconst C dX9_borrows_61 ?_
        refine j_ialdK C at_244 ⟨rfl, rfl⟩ (N := 111) rfl (by decide) (k := 3) rfl (by decide) dX9_borrows_62 (fun hr62 => ?_)
        try simp only [wf_same] at hr62 ⊢
        refine j_imul C dX9_borrows_63 ?_
        refine j_iadd C dX9_borrows_64 ?_
        refine j_istore3 C rfl dX9_borrows_65 ?_
        refine j_aload0 C dX9_borrows_66 ?_
        refine j_getr C fX9_9 at_243 rfl hw.r0 dX9_borrows_67 ?_
        refine j_iload3 C dX9_borrows_70 ?_
        refine j_iconst C dX9_borrows_71 ?_
        refine j_iadd C dX9_borrows_72 ?_
        refine j_iload1 C dX9_borrows_73 ?_
        refine j_iast C at_244 ⟨rfl, rfl⟩ (N := 111) rfl (by decide) ⟨by omega, by omega⟩ ⟨by omega, by omega⟩ dX9_borrows_74 ?_
        try simp only [wi_wf, wf_same, wf_wf, tM0, tM1, tM2, tM3, tM4, tM5, tM6, tB0, tB1, tB2, tB3, tB4, tB5, tB6, tL0, tL1, tL2]
        refine j_aload0 C dX9_borrows_75 ?_
        refine j_getr C fX9_9 at_243 rfl hw.r0 dX9_borrows_76 ?_
        refine j_iload3 C dX9_borrows_79 ?_
        refine j_iconst C dX9_borrows_80 ?_
        refine j_iadd C dX9_borrows_81 ?_
        refine j_iload2 C dX9_borrows_82 ?_
        refine j_iast C at_244 ⟨rfl, rfl⟩ (N := 111) rfl (by decide) ⟨by omega, by omega⟩ ⟨by omega, by omega⟩ dX9_borrows_83 ?_
        try simp only [wi_wf, wf_same, wf_wf, tM0, tM1, tM2, tM3, tM4, tM5, tM6, tB0, tB1, tB2, tB3, tB4, tB5, tB6, tL0, tL1, tL2]
        refine j_aload0 C dX9_borrows_84 ?_
        refine j_getr C fX9_9 at_243 rfl hw.r0 dX9_borrows_85 ?_
        refine j_iload3 C dX9_borrows_88 ?_
        refine j_iconst C dX9_borrows_89 ?_
        refine j_iadd C dX9_borrows_90 ?_
        refine j_iconst C dX9_borrows_91 ?_
        refine j_iast C at_244 ⟨rfl, rfl⟩ (N := 111) rfl (by decide) ⟨by omega, by omega⟩ ⟨by omega, by omega⟩ dX9_borrows_92 ?_
        try simp only [wi_wf, wf_same, wf_wf, tM0, tM1, tM2, tM3, tM4, tM5, tM6, tB0, tB1, tB2, tB3, tB4, tB5, tB6, tL0, tL1, tL2]
        refine j_aload0 C dX9_borrows_93 ?_
        refine j_getr C fX9_9 at_243 rfl hw.r0 dX9_borrows_94 ?_
        refine j_iconst C dX9_borrows_97 ?_
        refine j_dup2 C rfl rfl dX9_borrows_98 ?_
        refine j_ialdK C at_244 ⟨rfl, rfl⟩ (N := 111) rfl (by decide) (k := 3) rfl (by decide) dX9_borrows_99 (fun hr99 => ?_)
        try simp only [wf_same] at hr99 ⊢
        refine j_iconst C dX9_borrows_100 ?_
        refine j_iadd C dX9_borrows_101 ?_
        refine j_iastK C at_244 ⟨rfl, rfl⟩ (N := 111) rfl (by decide) (k := 3) rfl (by decide) (by simp only [wi_wf, wf_same, wf_wf, up, if_true, if_false]; (repeat (first | rw [if_pos (by omega)] | rw [if_neg (by omega)])); exact ⟨by omega, by omega⟩) dX9_borrows_102 ?_
        try simp only [wi_wf, wf_same, wf_wf, tM0, tM1, tM2, tM3, tM4, tM5, tM6, tB0, tB1, tB2, tB3, tB4, tB5, tB6, tL0, tL1, tL2]
        refine j_aload0 C dX9_borrows_103 ?_
        refine j_getr C fX9_9 at_243 rfl hw.r0 dX9_borrows_104 ?_
        refine j_iconst C dX9_borrows_107 ?_
        refine j_ialdK C at_244 ⟨rfl, rfl⟩ (N := 111) rfl (by decide) (k := 3) rfl (by decide) dX9_borrows_108 (fun hr108 => ?_)
        try simp only [wf_same] at hr108 ⊢
        refine j_iconst C dX9_borrows_109 ?_
        refine j_isub C dX9_borrows_110 ?_
        refine j_iret C hrt dX9_borrows_111 (by simp only [wi_wf, wf_same, wf_wf, up, if_true, if_false]; (repeat (first | rw [if_pos (by omega)] | rw [if_neg (by omega)])); exact ⟨by omega, by omega⟩) ?_
        first | exact DoM.ref (by simp only [jd]; repeat (first | rw [if_pos (by omega)] | rw [if_neg (by omega)])) (by omega) | (refine DoM.ok (by simp only [jd]; repeat (first | rw [if_pos (by omega)] | rw [if_neg (by omega)])) ?_ ?_; simp only [wi_wf, wf_same, wf_wf, up, ad, if_true, if_false]; (repeat (first | rw [if_pos (by omega)] | rw [if_neg (by omega)])); omega; (try simp only [wi_wf, wf_same, wf_wf, wf_43, refM_44]); congr 1; funext y; simp only [ad, newL, up, zro]; repeat' split; all_goals (first | rfl | omega))
      · -- 36 F
        refine j_iconst C dX9_borrows_39 ?_
        refine j_goto C dX9_borrows_40 ?_
        refine j_iconst C dX9_borrows_44 ?_
        refine j_iconst C dX9_borrows_45 ?_
        refine j_cVI3 C (c_X9_isRefused_1 (by exact hw) ⟨by omega, by omega⟩ ⟨by omega, by omega⟩) oX9_isRefused kX9_64 ⟨_, rfl, rfl⟩ at_243 ⟨by decide, by decide⟩ rfl (Nat.le_of_ble_eq_true rfl) ⟨by decide, by decide⟩ dX9_borrows_46 ?_
        rintro _ _ hz46 ⟨rfl, rfl⟩
        try simp only [wi_wf, wf_same, wf_wf, tM0, tM1, tM2, tM3, tM4, tM5, tM6, tB0, tB1, tB2, tB3, tB4, tB5, tB6, tL0, tL1, tL2] at hz46 ⊢
        refine j_if_eq C (by decide) dX9_borrows_49 (fun hc => absurd hc (by decide)) (fun _ => ?_)
        refine j_iconst C dX9_borrows_52 ?_
        refine j_iret C hrt dX9_borrows_53 ⟨by omega, by omega⟩ ?_
        first | exact DoM.ref (by simp only [jd]; repeat (first | rw [if_pos (by omega)] | rw [if_neg (by omega)])) (by omega) | (refine DoM.ok (by simp only [jd]; repeat (first | rw [if_pos (by omega)] | rw [if_neg (by omega)])) ?_ ?_; simp only [wi_wf, wf_same, wf_wf, up, ad, if_true, if_false]; (repeat (first | rw [if_pos (by omega)] | rw [if_neg (by omega)])); omega; (try simp only [wi_wf, wf_same, wf_wf, wf_43, refM_44]); congr 1; funext y; simp only [ad, newL, up, zro]; repeat' split; all_goals (first | rfl | omega))
set_option maxRecDepth 100000 in
set_option maxHeartbeats 4000000 in
theorem c_X9_limits {Γ : Ga} {l : Launch} {ω : Wo} (hw : WM ω.2.1)  {a : Int} (ha : Rg a) {M : Int} (hI : RI M (ω.1 244)) : CI Γ l yX9_limits cX9_limits 3 .int 2 [.ref (rl Γ 243), .int (iI a)] ω (fun z ω' => DoM 7 ω a 0 z ω') := by
  refine Met.ofJ (k := 1) [some (.ref (rl Γ 243)), some (.int (iI a)), none] (by decide) rfl rfl rfl (fun p e s mm args below meth c C hrt => ?_)
  have g := hI.s
  have gc := hI.c
  refine j_aload0 C dX9_limits_0 ?_
  refine j_iload1 C dX9_limits_1 ?_
  refine j_iconst C dX9_limits_2 ?_
  refine j_bipush C (by decide) dX9_limits_3 ?_
  refine j_cSI3 C (c_X9_isIn ⟨by omega, by omega⟩ ⟨by omega, by omega⟩ ⟨by omega, by omega⟩) oX9_isIn kX9_60 ⟨by decide, by decide⟩ rfl (Nat.le_of_ble_eq_true rfl) ⟨by decide, by decide⟩ dX9_limits_5 ?_
  rintro _ _ hz5 ⟨rfl, rfl⟩
  refine j_cVI1 C (c_X9_isOutside (by exact hw)) oX9_isOutside kX9_86 ⟨_, rfl, rfl⟩ at_243 ⟨by decide, by decide⟩ rfl (Nat.le_of_ble_eq_true rfl) ⟨by decide, by decide⟩ dX9_limits_8 ?_
  rintro _ _ hz8 ⟨rfl, rfl⟩
  refine j_ifneb C dX9_limits_11 (fun hc11 => ?_) (fun hc11 => ?_)
  · -- 11 T
    rw [if_pos hc11]
    refine j_iconst C dX9_limits_40 ?_
    refine j_iret C hrt dX9_limits_41 ⟨by omega, by omega⟩ ?_
    first | exact DoM.ref (by simp only [jd]; repeat (first | rw [if_pos (by omega)] | rw [if_neg (by omega)])) (by omega) | (refine DoM.ok (by simp only [jd]; repeat (first | rw [if_pos (by omega)] | rw [if_neg (by omega)])) ?_ ?_; rfl; exact wi_wf _ _ _ _)
  · -- 11 F
    rw [if_neg hc11]
    refine j_aload0 C dX9_limits_14 ?_
    refine j_aload0 C dX9_limits_15 ?_
    refine j_getr C fX9_9 at_243 rfl hw.r0 dX9_limits_16 ?_
    refine j_bipush C (by decide) dX9_limits_19 ?_
    refine j_ialdK C at_244 ⟨rfl, rfl⟩ (N := 111) rfl (by decide) (k := 7) rfl (by decide) dX9_limits_21 (fun hr21 => ?_)
    refine j_iload1 C dX9_limits_22 ?_
    refine j_icmp_ne C ⟨by omega, by omega⟩ ⟨by omega, by omega⟩ dX9_limits_23 (fun hc23 => ?_) (fun hc23 => ?_)
    · -- 23 T
      refine j_iconst C dX9_limits_30 ?_
      refine j_bipush C (by decide) dX9_limits_31 ?_
      refine j_iconst C dX9_limits_33 ?_
      refine j_cVI3 C (c_X9_isRefused_0 (by exact hw) ⟨by omega, by omega⟩ ⟨by omega, by omega⟩) oX9_isRefused kX9_64 ⟨_, rfl, rfl⟩ at_243 ⟨by decide, by decide⟩ rfl (Nat.le_of_ble_eq_true rfl) ⟨by decide, by decide⟩ dX9_limits_34 ?_
      intro _ w9 _ h9
      obtain ⟨h8, h9⟩ := h9
      rw [h8, h9]
      clear h8 h9 w9
      refine j_if_eq C (by decide) dX9_limits_37 (fun _ => ?_) (fun hc => absurd hc (by decide))
      refine j_aload0 C dX9_limits_42 ?_
      refine j_getr C fX9_9 at_243 rfl hw.r0 dX9_limits_43 ?_
      refine j_bipush C (by decide) dX9_limits_46 ?_
      refine j_ialdK C at_244 ⟨rfl, rfl⟩ (N := 111) rfl (by decide) (k := 7) rfl (by decide) dX9_limits_48 (fun hr48 => ?_)
      refine j_istore2 C rfl dX9_limits_49 ?_
      refine j_aload0 C dX9_limits_50 ?_
      refine j_getr C fX9_9 at_243 rfl hw.r0 dX9_limits_51 ?_
      refine j_bipush C (by decide) dX9_limits_54 ?_
      refine j_iload1 C dX9_limits_56 ?_
      refine j_iastK C at_244 ⟨rfl, rfl⟩ (N := 111) rfl (by decide) (k := 7) rfl (by decide) ⟨by omega, by omega⟩ dX9_limits_57 ?_
      refine j_iload2 C dX9_limits_58 ?_
      refine j_iret C hrt dX9_limits_59 ⟨by omega, by omega⟩ ?_
      first | exact DoM.ref (by simp only [jd]; repeat (first | rw [if_pos (by omega)] | rw [if_neg (by omega)])) (by omega) | (refine DoM.ok (by simp only [jd]; repeat (first | rw [if_pos (by omega)] | rw [if_neg (by omega)])) ?_ ?_; rfl; exact wi_wf _ _ _ _)
    · -- 23 F
      refine j_iconst C dX9_limits_26 ?_
      refine j_goto C dX9_limits_27 ?_
      refine j_bipush C (by decide) dX9_limits_31 ?_
      refine j_iconst C dX9_limits_33 ?_
      refine j_cVI3 C (c_X9_isRefused_1 (by exact hw) ⟨by omega, by omega⟩ ⟨by omega, by omega⟩) oX9_isRefused kX9_64 ⟨_, rfl, rfl⟩ at_243 ⟨by decide, by decide⟩ rfl (Nat.le_of_ble_eq_true rfl) ⟨by decide, by decide⟩ dX9_limits_34 ?_
      rintro _ _ hz34 ⟨rfl, rfl⟩
      refine j_if_eq C (by decide) dX9_limits_37 (fun hc => absurd hc (by decide)) (fun _ => ?_)
      refine j_iconst C dX9_limits_40 ?_
      refine j_iret C hrt dX9_limits_41 ⟨by omega, by omega⟩ ?_
      first | exact DoM.ref (by simp only [jd]; repeat (first | rw [if_pos (by omega)] | rw [if_neg (by omega)])) (by omega) | (refine DoM.ok (by simp only [jd]; repeat (first | rw [if_pos (by omega)] | rw [if_neg (by omega)])) ?_ ?_; rfl; exact wi_wf _ _ _ _)
set_option maxRecDepth 100000 in
set_option maxHeartbeats 4000000 in
theorem c_X9_takesLoan {Γ : Ga} {l : Launch} {ω : Wo} (hw : WM ω.2.1)  {q : Nat} (hq : q < cL (ω.1 244)) {M : Int} (hI : RI M (ω.1 244)) : CV Γ l yX9_takesLoan cX9_takesLoan 3 0 [.ref (rl Γ 243), .int (iI ((q : Int)))] ω (fun ω' => ω' = wf ω 244 (takeL (ω.1 244) q)) := by
  refine Met.ofJ (k := 1) [some (.ref (rl Γ 243)), some (.int (iI ((q : Int)))), none] (by decide) rfl rfl rfl (fun p e s mm args below meth c C hrt => ?_)
  have g := hI.s
  have gc := hI.c
  refine j_aload0 C dX9_takesLoan_0 ?_
  refine j_getr C fX9_9 at_243 rfl hw.r0 dX9_takesLoan_1 ?_
  refine j_iconst C dX9_takesLoan_4 ?_
  refine j_dup2 C rfl rfl dX9_takesLoan_5 ?_
  refine j_ialdK C at_244 ⟨rfl, rfl⟩ (N := 111) rfl (by decide) (k := 3) rfl (by decide) dX9_takesLoan_6 (fun hr6 => ?_)
  try simp only [wf_same] at hr6 ⊢
  refine j_iconst C dX9_takesLoan_7 ?_
  refine j_isub C dX9_takesLoan_8 ?_
  refine j_iastK C at_244 ⟨rfl, rfl⟩ (N := 111) rfl (by decide) (k := 3) rfl (by decide) ⟨by omega, by omega⟩ dX9_takesLoan_9 ?_
  try simp only [wi_wf, wf_same, wf_wf, tM0, tM1, tM2, tM3, tM4, tM5, tM6, tB0, tB1, tB2, tB3, tB4, tB5, tB6, tL0, tL1, tL2]
  refine j_bipush C (by decide) dX9_takesLoan_10 ?_
  refine j_iconst C dX9_takesLoan_12 ?_
  refine j_iload1 C dX9_takesLoan_13 ?_
  refine j_imul C dX9_takesLoan_14 ?_
  refine j_iadd C dX9_takesLoan_15 ?_
  refine j_istore2 C rfl dX9_takesLoan_16 ?_
  have loop17 : ∀ (N : Nat) (n : Nat), (3 * (cL (ω.1 244) - 1 - q) - n) < N → (n ≤ 3 * (cL (ω.1 244) - 1 - q)) → J Γ p l e (rmk 0 0 0) s mm args below meth c (MQ below (QV Γ (fun ω' => ω' = wf ω 244 (takeL (ω.1 244) q))) args s 0 0 (gA Γ)) 254 0 0 17 [some (.ref (rl Γ 243)), some (.int (iI ((q : Nat) : Int))), some (.int (iI ((99 + 3 * q + n : Nat) : Int)))] [] (wf ω 244 (tk1 (ω.1 244) q n)) := by
    intro N
    induction N with
    | zero => intro n hN; exact absurd hN (Nat.not_lt_zero _)
    | succ N ih17 =>
      intro n hN hi0
      have e3 : tk1 (ω.1 244) q n 3 = (ω.1 244) 3 - 1 := if_pos rfl
      refine j_iload2 C dX9_takesLoan_17 ?_
      refine j_bipush C (by decide) dX9_takesLoan_18 ?_
      refine j_iconst C dX9_takesLoan_20 ?_
      refine j_aload0 C dX9_takesLoan_21 ?_
      refine j_getr C fX9_9 at_243 rfl hw.r0 dX9_takesLoan_22 ?_
      refine j_iconst C dX9_takesLoan_25 ?_
      refine j_ialdK C at_244 ⟨rfl, rfl⟩ (N := 111) rfl (by decide) (k := 3) rfl (by decide) dX9_takesLoan_26 (fun hr26 => ?_)
      try simp only [wf_same] at hr26 ⊢
      refine j_imul C dX9_takesLoan_27 ?_
      refine j_iadd C dX9_takesLoan_28 ?_
      refine j_icmp_ge C ⟨by omega, by omega⟩ ⟨by omega, by omega⟩ dX9_takesLoan_29 (fun hc29 => ?_) (fun hc29 => ?_)
      · -- 29 T
        refine j_iconst C dX9_takesLoan_52 ?_
        refine j_istore2 C rfl dX9_takesLoan_53 ?_
        have hn : n = 3 * (cL (ω.1 244) - 1 - q) := by omega
        subst hn
        have loop54 : ∀ (N : Nat) (n : Nat), (3 - n) < N → (n ≤ 3) → J Γ p l e (rmk 0 0 0) s mm args below meth c (MQ below (QV Γ (fun ω' => ω' = wf ω 244 (takeL (ω.1 244) q))) args s 0 0 (gA Γ)) 254 0 0 54 [some (.ref (rl Γ 243)), some (.int (iI ((q : Nat) : Int))), some (.int (iI ((n : Nat) : Int)))] [] (wf ω 244 (zro (tk1 (ω.1 244) q (3 * (cL (ω.1 244) - 1 - q))) (99 + 3 * (cL (ω.1 244) - 1)) n)) := by
          intro N
          induction N with
          | zero => intro n hN; exact absurd hN (Nat.not_lt_zero _)
          | succ N ih54 =>
            intro n hN hi0
            have e3 : zro (tk1 (ω.1 244) q (3 * (cL (ω.1 244) - 1 - q))) (99 + 3 * (cL (ω.1 244) - 1)) n 3 = (ω.1 244) 3 - 1 := by unfold zro; rw [if_neg (by omega)]; exact if_pos rfl
            refine j_iload2 C dX9_takesLoan_54 ?_
            refine j_iconst C dX9_takesLoan_55 ?_
            refine j_icmp_ge C ⟨by omega, by omega⟩ ⟨by omega, by omega⟩ dX9_takesLoan_56 (fun hc56 => ?_) (fun hc56 => ?_)
            · -- 56 T
              refine j_vret C hrt dX9_takesLoan_84 ?_
              have hn : n = 3 := by omega
              subst hn
              rw [tk1_e _ _ hq]
            · -- 56 F
              refine j_aload0 C dX9_takesLoan_59 ?_
              refine j_getr C fX9_9 at_243 rfl hw.r0 dX9_takesLoan_60 ?_
              refine j_bipush C (by decide) dX9_takesLoan_63 ?_
              refine j_iconst C dX9_takesLoan_65 ?_
              refine j_aload0 C dX9_takesLoan_66 ?_
              refine j_getr C fX9_9 at_243 rfl hw.r0 dX9_takesLoan_67 ?_
              refine j_iconst C dX9_takesLoan_70 ?_
              refine j_ialdK C at_244 ⟨rfl, rfl⟩ (N := 111) rfl (by decide) (k := 3) rfl (by decide) dX9_takesLoan_71 (fun hr71 => ?_)
              try simp only [wf_same] at hr71 ⊢
              refine j_imul C dX9_takesLoan_72 ?_
              refine j_iadd C dX9_takesLoan_73 ?_
              refine j_iload2 C dX9_takesLoan_74 ?_
              refine j_iadd C dX9_takesLoan_75 ?_
              refine j_iconst C dX9_takesLoan_76 ?_
              refine j_iast C at_244 ⟨rfl, rfl⟩ (N := 111) rfl (by decide) ⟨by omega, by omega⟩ ⟨by omega, by omega⟩ dX9_takesLoan_77 ?_
              try simp only [wi_wf, wf_same, wf_wf, tM0, tM1, tM2, tM3, tM4, tM5, tM6, tB0, tB1, tB2, tB3, tB4, tB5, tB6, tL0, tL1, tL2]
              refine j_iinc2n C rfl dX9_takesLoan_78 ?_
              refine j_goto C dX9_takesLoan_81 ?_
              exact j_fg (ih54 (n + 1) (by omega) (by omega)) ⟨Or.inr rfl, Or.inr rfl, Or.inr rfl, trivial⟩ (by rw [e3, show (99 + 3 * ((ω.1 244) 3 - 1) + (n : Int)).toNat = 99 + 3 * (cL (ω.1 244) - 1) + n by omega, zro_s])
        exact j_fg (loop54 _ 0 (Nat.lt_succ_self _) (Nat.zero_le _)) ⟨Or.inr rfl, Or.inr rfl, Or.inr rfl, trivial⟩ (by rw [zro_0])
      · -- 29 F
        refine j_aload0 C dX9_takesLoan_32 ?_
        refine j_getr C fX9_9 at_243 rfl hw.r0 dX9_takesLoan_33 ?_
        refine j_iload2 C dX9_takesLoan_36 ?_
        refine j_aload0 C dX9_takesLoan_37 ?_
        refine j_getr C fX9_9 at_243 rfl hw.r0 dX9_takesLoan_38 ?_
        refine j_iload2 C dX9_takesLoan_41 ?_
        refine j_iconst C dX9_takesLoan_42 ?_
        refine j_iadd C dX9_takesLoan_43 ?_
        refine j_iald C at_244 ⟨rfl, rfl⟩ (N := 111) rfl (by decide) ⟨by omega, by omega⟩ rfl dX9_takesLoan_44 (fun hr44 => ?_)
        try simp only [wf_same] at hr44 ⊢
        refine j_iast C at_244 ⟨rfl, rfl⟩ (N := 111) rfl (by decide) ⟨by omega, by omega⟩ ⟨by omega, by omega⟩ dX9_takesLoan_45 ?_
        try simp only [wi_wf, wf_same, wf_wf, tM0, tM1, tM2, tM3, tM4, tM5, tM6, tB0, tB1, tB2, tB3, tB4, tB5, tB6, tL0, tL1, tL2]
        refine j_iinc2n C rfl dX9_takesLoan_46 ?_
        refine j_goto C dX9_takesLoan_49 ?_
        exact j_fg (ih17 (n + 1) (by omega) (by omega)) ⟨Or.inr rfl, Or.inr rfl, Or.inr (sN (by omega)), trivial⟩ (by rw [show ((99 + 3 * q + n : Nat) : Int).toNat = 99 + 3 * q + n by omega, show (((99 + 3 * q + n : Nat) : Int) + 3).toNat = 99 + 3 * q + n + 3 by omega, tk1_r, tk1_s])
  exact j_fg (loop17 _ 0 (Nat.lt_succ_self _) (Nat.zero_le _)) ⟨Or.inr rfl, Or.inr rfl, Or.inr (sI (by omega)), trivial⟩ (by rw [tk1_0])
set_option maxRecDepth 100000 in
set_option maxHeartbeats 4000000 in
theorem c_X9_givesBack {Γ : Ga} {l : Launch} {ω : Wo} (hw : WM ω.2.1)  {a : Int} (ha : Rg a) {M : Int} (hI : RI M (ω.1 244)) : CI Γ l yX9_givesBack cX9_givesBack 3 .int 3 [.ref (rl Γ 243), .int (iI a)] ω (fun z ω' => DoM 6 ω a 0 z ω') := by
  refine Met.ofJ (k := 1) [some (.ref (rl Γ 243)), some (.int (iI a)), none] (by decide) rfl rfl rfl (fun p e s mm args below meth c C hrt => ?_)
  have g := hI.s
  have gc := hI.c
  have g1 := oarsUp_rg hI (cL (ω.1 244)) gc.2.2.2
  have g2 := outUp_rg hI (cB (ω.1 244)) gc.2.1.2
  have gf : freeO (ω.1 244) = oarsUp (ω.1 244) (cL (ω.1 244)) - outUp (ω.1 244) (cB (ω.1 244)) := rfl
  refine j_aload0 C dX9_givesBack_0 ?_
  refine j_aload0 C dX9_givesBack_1 ?_
  refine j_iload1 C dX9_givesBack_2 ?_
  refine j_cVI1 C (c_X9_isLoan (by exact hw) ⟨by omega, by omega⟩ (by exact hI)) oX9_isLoan kX9_173 ⟨_, rfl, rfl⟩ at_243 ⟨by decide, by decide⟩ rfl (Nat.le_of_ble_eq_true rfl) ⟨by decide, by decide⟩ dX9_givesBack_3 ?_
  rintro _ _ hz3 ⟨rfl, rfl⟩
  try simp only [wi_wf, wf_same, wf_wf, tM0, tM1, tM2, tM3, tM4, tM5, tM6, tB0, tB1, tB2, tB3, tB4, tB5, tB6, tL0, tL1, tL2] at hz3 ⊢
  refine j_ifneb C dX9_givesBack_6 (fun hc6 => ?_) (fun hc6 => ?_)
  · -- 6 T
    refine j_iconst C dX9_givesBack_13 ?_
    refine j_iconst C dX9_givesBack_14 ?_
    refine j_iload1 C dX9_givesBack_15 ?_
    refine j_cVI3 C (c_X9_isRefused_0 (by exact hw) ⟨by omega, by omega⟩ ⟨by omega, by omega⟩) oX9_isRefused kX9_64 ⟨_, rfl, rfl⟩ at_243 ⟨by decide, by decide⟩ rfl (Nat.le_of_ble_eq_true rfl) ⟨by decide, by decide⟩ dX9_givesBack_16 ?_
    intro _ w9 _ h9
    obtain ⟨h8, h9⟩ := h9
    rw [h8, h9]
    clear h8 h9 w9
    refine j_if_eq C (by decide) dX9_givesBack_19 (fun _ => ?_) (fun hc => absurd hc (by decide))
    refine j_aload0 C dX9_givesBack_24 ?_
    refine j_iload1 C dX9_givesBack_25 ?_
    refine j_iconst C dX9_givesBack_26 ?_
    have gl := hI.l a (by omega)
    refine j_cVI2 C (c_X9_ofLoan (by exact hw) (by omega) (by omega)) oX9_ofLoan kX9_76 ⟨_, rfl, rfl⟩ at_243 ⟨by decide, by decide⟩ rfl (Nat.le_of_ble_eq_true rfl) ⟨by decide, by decide⟩ dX9_givesBack_27 ?_
    rintro _ _ hz27 ⟨rfl, rfl⟩
    try simp only [wi_wf, wf_same, wf_wf, tM0, tM1, tM2, tM3, tM4, tM5, tM6, tB0, tB1, tB2, tB3, tB4, tB5, tB6, tL0, tL1, tL2] at hz27 ⊢
    refine j_aload0 C dX9_givesBack_30 ?_
    refine j_cVI0 C (c_X9_freeOars (by exact hw) hI) oX9_freeOars kX9_152 ⟨_, rfl, rfl⟩ at_243 ⟨by decide, by decide⟩ rfl (Nat.le_of_ble_eq_true rfl) ⟨by decide, by decide⟩ dX9_givesBack_31 ?_
    rintro _ _ hz31 ⟨rfl, rfl⟩
    try simp only [wi_wf, wf_same, wf_wf, tM0, tM1, tM2, tM3, tM4, tM5, tM6, tB0, tB1, tB2, tB3, tB4, tB5, tB6, tL0, tL1, tL2] at hz31 ⊢
    refine j_isub C dX9_givesBack_34 ?_
    refine j_istore2 C rfl dX9_givesBack_35 ?_
    refine j_aload0 C dX9_givesBack_36 ?_
    refine j_iload2 C dX9_givesBack_37 ?_
    refine j_if_le C ⟨by omega, by omega⟩ dX9_givesBack_38 (fun hc38 => ?_) (fun hc38 => ?_)
    · -- 38 T
      refine j_iconst C dX9_givesBack_45 ?_
      refine j_bipush C (by decide) dX9_givesBack_46 ?_
      refine j_iload2 C dX9_givesBack_48 ?_
      refine j_cVI3 C (c_X9_isRefused_0 (by exact hw) ⟨by omega, by omega⟩ ⟨by omega, by omega⟩) oX9_isRefused kX9_64 ⟨_, rfl, rfl⟩ at_243 ⟨by decide, by decide⟩ rfl (Nat.le_of_ble_eq_true rfl) ⟨by decide, by decide⟩ dX9_givesBack_49 ?_
      intro _ w9 _ h9
      obtain ⟨h8, h9⟩ := h9
      rw [h8, h9]
      clear h8 h9 w9
      refine j_if_eq C (by decide) dX9_givesBack_52 (fun _ => ?_) (fun hc => absurd hc (by decide))
      refine j_aload0 C dX9_givesBack_57 ?_
      refine j_iload1 C dX9_givesBack_58 ?_
      obtain ⟨q, rfl⟩ := Int.eq_ofNat_of_zero_le (show 0 ≤ a by omega)
      have hI2 := takeL_RI hI (q := q) (by omega)
      refine j_cVV1 C (c_X9_takesLoan (by exact hw) (by omega) (by exact hI)) oX9_takesLoan kX9_176 ⟨_, rfl, rfl⟩ at_243 ⟨by decide, by decide⟩ rfl (Nat.le_of_ble_eq_true rfl) ⟨by decide, by decide⟩ dX9_givesBack_59 ?_
      rintro _ rfl
      try simp only [wi_wf, wf_same, wf_wf, tM0, tM1, tM2, tM3, tM4, tM5, tM6, tB0, tB1, tB2, tB3, tB4, tB5, tB6, tL0, tL1, tL2]
      refine j_aload0 C dX9_givesBack_62 ?_
      refine j_cVI0 C (c_X9_freeOars (by exact hw) hI2) oX9_freeOars kX9_152 ⟨_, rfl, rfl⟩ at_243 ⟨by decide, by decide⟩ rfl (Nat.le_of_ble_eq_true rfl) ⟨by decide, by decide⟩ dX9_givesBack_63 ?_
      rintro _ _ hz63 ⟨rfl, rfl⟩
      try simp only [wi_wf, wf_same, wf_wf, tM0, tM1, tM2, tM3, tM4, tM5, tM6, tB0, tB1, tB2, tB3, tB4, tB5, tB6, tL0, tL1, tL2] at hz63 ⊢
      refine j_iret C hrt dX9_givesBack_66 ⟨by omega, by omega⟩ ?_
      first | exact DoM.ref (by simp only [jd]; repeat (first | rw [if_pos (by omega)] | rw [if_neg (by omega)])) (by omega) | (refine DoM.ok (by simp only [jd]; repeat (first | rw [if_pos (by omega)] | rw [if_neg (by omega)])) ?_ ?_; rfl; rfl)
    · -- 38 F
      refine j_iconst C dX9_givesBack_41 ?_
      refine j_goto C dX9_givesBack_42 ?_
      refine j_bipush C (by decide) dX9_givesBack_46 ?_
      refine j_iload2 C dX9_givesBack_48 ?_
      refine j_cVI3 C (c_X9_isRefused_1 (by exact hw) ⟨by omega, by omega⟩ ⟨by omega, by omega⟩) oX9_isRefused kX9_64 ⟨_, rfl, rfl⟩ at_243 ⟨by decide, by decide⟩ rfl (Nat.le_of_ble_eq_true rfl) ⟨by decide, by decide⟩ dX9_givesBack_49 ?_
      rintro _ _ hz49 ⟨rfl, rfl⟩
      try simp only [wi_wf, wf_same, wf_wf, tM0, tM1, tM2, tM3, tM4, tM5, tM6, tB0, tB1, tB2, tB3, tB4, tB5, tB6, tL0, tL1, tL2] at hz49 ⊢
      refine j_if_eq C (by decide) dX9_givesBack_52 (fun hc => absurd hc (by decide)) (fun _ => ?_)
      refine j_iconst C dX9_givesBack_55 ?_
      refine j_iret C hrt dX9_givesBack_56 ⟨by omega, by omega⟩ ?_
      first | exact DoM.ref (by simp only [jd]; repeat (first | rw [if_pos (by omega)] | rw [if_neg (by omega)])) (by omega) | (refine DoM.ok (by simp only [jd]; repeat (first | rw [if_pos (by omega)] | rw [if_neg (by omega)])) ?_ ?_; rfl; rfl)
  · -- 6 F
    refine j_iconst C dX9_givesBack_9 ?_
    refine j_goto C dX9_givesBack_10 ?_
    refine j_iconst C dX9_givesBack_14 ?_
    refine j_iload1 C dX9_givesBack_15 ?_
    refine j_cVI3 C (c_X9_isRefused_1 (by exact hw) ⟨by omega, by omega⟩ ⟨by omega, by omega⟩) oX9_isRefused kX9_64 ⟨_, rfl, rfl⟩ at_243 ⟨by decide, by decide⟩ rfl (Nat.le_of_ble_eq_true rfl) ⟨by decide, by decide⟩ dX9_givesBack_16 ?_
    rintro _ _ hz16 ⟨rfl, rfl⟩
    try simp only [wi_wf, wf_same, wf_wf, tM0, tM1, tM2, tM3, tM4, tM5, tM6, tB0, tB1, tB2, tB3, tB4, tB5, tB6, tL0, tL1, tL2] at hz16 ⊢
    refine j_if_eq C (by decide) dX9_givesBack_19 (fun hc => absurd hc (by decide)) (fun _ => ?_)
    refine j_iconst C dX9_givesBack_22 ?_
    refine j_iret C hrt dX9_givesBack_23 ⟨by omega, by omega⟩ ?_
    first | exact DoM.ref (by simp only [jd]; repeat (first | rw [if_pos (by omega)] | rw [if_neg (by omega)])) (by omega) | (refine DoM.ok (by simp only [jd]; repeat (first | rw [if_pos (by omega)] | rw [if_neg (by omega)])) ?_ ?_; rfl; rfl)
set_option maxRecDepth 100000 in
set_option maxHeartbeats 4000000 in
theorem c_X9_memberGoes {Γ : Ga} {l : Launch} {ω : Wo} (hw : WM ω.2.1)  {k : Nat} (hk : k < 10) (hrl : sM (ω.1 244) k 1 = 1 → 0 ≤ sM (ω.1 244) k 3) {M : Int} (hI : RI M (ω.1 244)) : CV Γ l yX9_memberGoes cX9_memberGoes 4 1 [.ref (rl Γ 243), .int (iI ((k : Int)))] ω (fun ω' => ω' = wf ω 244 (memGo (ω.1 244) k)) := by
  refine Met.ofJ (k := 2) [some (.ref (rl Γ 243)), some (.int (iI ((k : Int)))), none, none] (by decide) rfl rfl rfl (fun p e s mm args below meth c C hrt => ?_)
  have g := hI.s
  have gc := hI.c
  have gm := hI.m k (by omega)
  have gM := hI.2.1
  refine j_aload0 C dX9_memberGoes_0 ?_
  refine j_iload1 C dX9_memberGoes_1 ?_
  refine j_iconst C dX9_memberGoes_2 ?_
  refine j_cVI2 C (c_X9_of (by exact hw) (by omega) (by omega)) oX9_of kX9_103 ⟨_, rfl, rfl⟩ at_243 ⟨by decide, by decide⟩ rfl (Nat.le_of_ble_eq_true rfl) ⟨by decide, by decide⟩ dX9_memberGoes_3 ?_
  rintro _ _ hz3 ⟨rfl, rfl⟩
  try simp only [wi_wf, wf_same, wf_wf, tM0, tM1, tM2, tM3, tM4, tM5, tM6, tB0, tB1, tB2, tB3, tB4, tB5, tB6, tL0, tL1, tL2] at hz3 ⊢
  refine j_istore2 C rfl dX9_memberGoes_6 ?_
  refine j_aload0 C dX9_memberGoes_7 ?_
  refine j_iload1 C dX9_memberGoes_8 ?_
  refine j_iconst C dX9_memberGoes_9 ?_
  refine j_cVI2 C (c_X9_of (by exact hw) (by omega) (by omega)) oX9_of kX9_103 ⟨_, rfl, rfl⟩ at_243 ⟨by decide, by decide⟩ rfl (Nat.le_of_ble_eq_true rfl) ⟨by decide, by decide⟩ dX9_memberGoes_10 ?_
  rintro _ _ hz10 ⟨rfl, rfl⟩
  try simp only [wi_wf, wf_same, wf_wf, tM0, tM1, tM2, tM3, tM4, tM5, tM6, tB0, tB1, tB2, tB3, tB4, tB5, tB6, tL0, tL1, tL2] at hz10 ⊢
  refine j_iconst C dX9_memberGoes_13 ?_
  refine j_icmp_ne C ⟨by omega, by omega⟩ ⟨by omega, by omega⟩ dX9_memberGoes_14 (fun hc14 => ?_) (fun hc14 => ?_)
  · -- 14 T
    refine j_aload0 C dX9_memberGoes_72 ?_
    refine j_iload1 C dX9_memberGoes_73 ?_
    refine j_iconst C dX9_memberGoes_74 ?_
    refine j_cVI2 C (c_X9_of (by exact hw) (by omega) (by omega)) oX9_of kX9_103 ⟨_, rfl, rfl⟩ at_243 ⟨by decide, by decide⟩ rfl (Nat.le_of_ble_eq_true rfl) ⟨by decide, by decide⟩ dX9_memberGoes_75 ?_
    rintro _ _ hz75 ⟨rfl, rfl⟩
    try simp only [wi_wf, wf_same, wf_wf, tM0, tM1, tM2, tM3, tM4, tM5, tM6, tB0, tB1, tB2, tB3, tB4, tB5, tB6, tL0, tL1, tL2] at hz75 ⊢
    refine j_if_ne C ⟨by omega, by omega⟩ dX9_memberGoes_78 (fun hc78 => ?_) (fun hc78 => ?_)
    · -- 78 T
      refine j_vret C hrt dX9_memberGoes_94 ?_
      simp only [memGo]; first | rw [if_pos (by omega), if_pos (by omega)] | rw [if_pos (by omega), if_neg (by omega)] | rw [if_neg (by omega), if_pos (by omega)] | (rw [if_neg (by omega), if_neg (by omega), wf_id])
    · -- 78 F
      refine j_aload0 C dX9_memberGoes_81 ?_
      refine j_iload1 C dX9_memberGoes_82 ?_
      refine j_iconst C dX9_memberGoes_83 ?_
      refine j_iconst C dX9_memberGoes_84 ?_
      refine j_iload2 C dX9_memberGoes_85 ?_
      refine j_iconst C dX9_memberGoes_86 ?_
      refine j_isub C dX9_memberGoes_87 ?_
      refine j_cSI2 C (c_X9_greater ⟨by omega, by omega⟩ ⟨by omega, by omega⟩) oX9_greater kX9_186 ⟨by decide, by decide⟩ rfl (Nat.le_of_ble_eq_true rfl) ⟨by decide, by decide⟩ dX9_memberGoes_88 ?_
      rintro _ _ hz88 ⟨rfl, rfl⟩
      try simp only [wi_wf, wf_same, wf_wf, tM0, tM1, tM2, tM3, tM4, tM5, tM6, tB0, tB1, tB2, tB3, tB4, tB5, tB6, tL0, tL1, tL2] at hz88 ⊢
      refine j_cVV3 C (c_X9_sets (by exact hw) (by omega) (by omega) ⟨by omega, by omega⟩) oX9_sets kX9_90 ⟨_, rfl, rfl⟩ at_243 ⟨by decide, by decide⟩ rfl (Nat.le_of_ble_eq_true rfl) ⟨by decide, by decide⟩ dX9_memberGoes_91 ?_
      rintro _ rfl
      try simp only [wi_wf, wf_same, wf_wf, tM0, tM1, tM2, tM3, tM4, tM5, tM6, tB0, tB1, tB2, tB3, tB4, tB5, tB6, tL0, tL1, tL2]
      refine j_vret C hrt dX9_memberGoes_94 ?_
      simp only [memGo]; first | rw [if_pos (by omega), if_pos (by omega)] | rw [if_pos (by omega), if_neg (by omega)] | rw [if_neg (by omega), if_pos (by omega)] | (rw [if_neg (by omega), if_neg (by omega), wf_id])
  · -- 14 F
    refine j_aload0 C dX9_memberGoes_17 ?_
    refine j_aload0 C dX9_memberGoes_18 ?_
    refine j_iload1 C dX9_memberGoes_19 ?_
    refine j_iconst C dX9_memberGoes_20 ?_
    refine j_cVI2 C (c_X9_of (by exact hw) (by omega) (by omega)) oX9_of kX9_103 ⟨_, rfl, rfl⟩ at_243 ⟨by decide, by decide⟩ rfl (Nat.le_of_ble_eq_true rfl) ⟨by decide, by decide⟩ dX9_memberGoes_21 ?_
    rintro _ _ hz21 ⟨rfl, rfl⟩
    try simp only [wi_wf, wf_same, wf_wf, tM0, tM1, tM2, tM3, tM4, tM5, tM6, tB0, tB1, tB2, tB3, tB4, tB5, tB6, tL0, tL1, tL2] at hz21 ⊢
    refine j_iconst C dX9_memberGoes_24 ?_
    have hrl2 := hrl (by omega)
    refine j_cVI2 C (c_X9_ofBoat (by exact hw) (by omega) (by omega)) oX9_ofBoat kX9_72 ⟨_, rfl, rfl⟩ at_243 ⟨by decide, by decide⟩ rfl (Nat.le_of_ble_eq_true rfl) ⟨by decide, by decide⟩ dX9_memberGoes_25 ?_
    rintro _ _ hz25 ⟨rfl, rfl⟩
    try simp only [wi_wf, wf_same, wf_wf, tM0, tM1, tM2, tM3, tM4, tM5, tM6, tB0, tB1, tB2, tB3, tB4, tB5, tB6, tL0, tL1, tL2] at hz25 ⊢
    refine j_iload1 C dX9_memberGoes_28 ?_
    refine j_icmp_ne C ⟨by omega, by omega⟩ ⟨by omega, by omega⟩ dX9_memberGoes_29 (fun hc29 => ?_) (fun hc29 => ?_)
    · -- 29 T
      refine j_iconst C dX9_memberGoes_36 ?_
      refine j_istore3 C rfl dX9_memberGoes_37 ?_
      refine j_aload0 C dX9_memberGoes_38 ?_
      refine j_iload1 C dX9_memberGoes_39 ?_
      refine j_iconst C dX9_memberGoes_40 ?_
      refine j_iload2 C dX9_memberGoes_41 ?_
      refine j_iload3 C dX9_memberGoes_42 ?_
      refine j_if_eq C (by decide) dX9_memberGoes_43 (fun _ => ?_) (fun hc => absurd hc (by decide))
      refine j_iconst C dX9_memberGoes_50 ?_
      refine j_iadd C dX9_memberGoes_51 ?_
      refine j_cVV3 C (c_X9_sets (by exact hw) (by omega) (by omega) ⟨by omega, by omega⟩) oX9_sets kX9_90 ⟨_, rfl, rfl⟩ at_243 ⟨by decide, by decide⟩ rfl (Nat.le_of_ble_eq_true rfl) ⟨by decide, by decide⟩ dX9_memberGoes_52 ?_
      rintro _ rfl
      try simp only [wi_wf, wf_same, wf_wf, tM0, tM1, tM2, tM3, tM4, tM5, tM6, tB0, tB1, tB2, tB3, tB4, tB5, tB6, tL0, tL1, tL2]
      refine j_aload0 C dX9_memberGoes_55 ?_
      refine j_iload1 C dX9_memberGoes_56 ?_
      refine j_iconst C dX9_memberGoes_57 ?_
      refine j_aload0 C dX9_memberGoes_58 ?_
      refine j_iload1 C dX9_memberGoes_59 ?_
      refine j_iconst C dX9_memberGoes_60 ?_
      refine j_cVI2 C (c_X9_of (by exact hw) (by omega) (by omega)) oX9_of kX9_103 ⟨_, rfl, rfl⟩ at_243 ⟨by decide, by decide⟩ rfl (Nat.le_of_ble_eq_true rfl) ⟨by decide, by decide⟩ dX9_memberGoes_61 ?_
      rintro _ _ hz61 ⟨rfl, rfl⟩
      simp only [wf_same, sM_up42] at hz61 ⊢
      refine j_iconst C dX9_memberGoes_64 ?_
      refine j_iadd C dX9_memberGoes_65 ?_
      refine j_cVV3 C (c_X9_sets (by exact hw) (by omega) (by omega) ⟨by omega, by omega⟩) oX9_sets kX9_90 ⟨_, rfl, rfl⟩ at_243 ⟨by decide, by decide⟩ rfl (Nat.le_of_ble_eq_true rfl) ⟨by decide, by decide⟩ dX9_memberGoes_66 ?_
      rintro _ rfl
      try simp only [wi_wf, wf_same, wf_wf, tM0, tM1, tM2, tM3, tM4, tM5, tM6, tB0, tB1, tB2, tB3, tB4, tB5, tB6, tL0, tL1, tL2]
      refine j_goto C dX9_memberGoes_69 ?_
      refine j_vret C hrt dX9_memberGoes_94 ?_
      simp only [memGo]; first | rw [if_pos (by omega), if_pos (by omega)] | rw [if_pos (by omega), if_neg (by omega)] | rw [if_neg (by omega), if_pos (by omega)] | (rw [if_neg (by omega), if_neg (by omega), wf_id])
    · -- 29 F
      refine j_iconst C dX9_memberGoes_32 ?_
      refine j_goto C dX9_memberGoes_33 ?_
      refine j_istore3 C rfl dX9_memberGoes_37 ?_
      refine j_aload0 C dX9_memberGoes_38 ?_
      refine j_iload1 C dX9_memberGoes_39 ?_
      refine j_iconst C dX9_memberGoes_40 ?_
      refine j_iload2 C dX9_memberGoes_41 ?_
      refine j_iload3 C dX9_memberGoes_42 ?_
      refine j_if_eq C (by decide) dX9_memberGoes_43 (fun hc => absurd hc (by decide)) (fun _ => ?_)
      refine j_iconst C dX9_memberGoes_46 ?_
      refine j_goto C dX9_memberGoes_47 ?_
      refine j_iadd C dX9_memberGoes_51 ?_
      refine j_cVV3 C (c_X9_sets (by exact hw) (by omega) (by omega) ⟨by omega, by omega⟩) oX9_sets kX9_90 ⟨_, rfl, rfl⟩ at_243 ⟨by decide, by decide⟩ rfl (Nat.le_of_ble_eq_true rfl) ⟨by decide, by decide⟩ dX9_memberGoes_52 ?_
      rintro _ rfl
      try simp only [wi_wf, wf_same, wf_wf, tM0, tM1, tM2, tM3, tM4, tM5, tM6, tB0, tB1, tB2, tB3, tB4, tB5, tB6, tL0, tL1, tL2]
      refine j_aload0 C dX9_memberGoes_55 ?_
      refine j_iload1 C dX9_memberGoes_56 ?_
      refine j_iconst C dX9_memberGoes_57 ?_
      refine j_aload0 C dX9_memberGoes_58 ?_
      refine j_iload1 C dX9_memberGoes_59 ?_
      refine j_iconst C dX9_memberGoes_60 ?_
      refine j_cVI2 C (c_X9_of (by exact hw) (by omega) (by omega)) oX9_of kX9_103 ⟨_, rfl, rfl⟩ at_243 ⟨by decide, by decide⟩ rfl (Nat.le_of_ble_eq_true rfl) ⟨by decide, by decide⟩ dX9_memberGoes_61 ?_
      rintro _ _ hz61 ⟨rfl, rfl⟩
      simp only [wf_same, sM_up42] at hz61 ⊢
      refine j_iconst C dX9_memberGoes_64 ?_
      refine j_iadd C dX9_memberGoes_65 ?_
      refine j_cVV3 C (c_X9_sets (by exact hw) (by omega) (by omega) ⟨by omega, by omega⟩) oX9_sets kX9_90 ⟨_, rfl, rfl⟩ at_243 ⟨by decide, by decide⟩ rfl (Nat.le_of_ble_eq_true rfl) ⟨by decide, by decide⟩ dX9_memberGoes_66 ?_
      rintro _ rfl
      try simp only [wi_wf, wf_same, wf_wf, tM0, tM1, tM2, tM3, tM4, tM5, tM6, tB0, tB1, tB2, tB3, tB4, tB5, tB6, tL0, tL1, tL2]
      refine j_goto C dX9_memberGoes_69 ?_
      refine j_vret C hrt dX9_memberGoes_94 ?_
      simp only [memGo]; first | rw [if_pos (by omega), if_pos (by omega)] | rw [if_pos (by omega), if_neg (by omega)] | rw [if_neg (by omega), if_pos (by omega)] | (rw [if_neg (by omega), if_neg (by omega), wf_id])
