set_option maxRecDepth 100000 in
set_option maxHeartbeats 4000000 in
theorem c_X5_isThere {Γ : Ga} {l : Launch} {ω : Wo}  {a : Nat} (ha : At 243 a 5)  : CI Γ l yX5_isThere cX5_isThere 1 .boolean 0 [.ref (rl Γ a)] ω (fun z ω' => z = bI (ω.1 a 0 ≠ 0) ∧ ω = ω') := by
  refine Met.ofJ (k := 0) [some (.ref (rl Γ a))] (by decide) rfl rfl rfl (fun p e s mm args below meth c C hrt => ?_)
  refine j_aload0 C dX5_isThere_0 ?_
  refine j_geti C fX5_9 ha rfl rfl dX5_isThere_1 (fun hr1 => ?_)
  refine j_if_eq C ⟨by omega, by omega⟩ dX5_isThere_4 (fun hc4 => ?_) (fun hc4 => ?_)
  · -- 4 T
    refine j_iconst C dX5_isThere_11 ?_
    refine j_zret C hrt dX5_isThere_12 (by first | exact Or.inl rfl | exact Or.inr rfl | exact bI_01 _) ?_
    refine ⟨?_, rfl⟩
    first | exact (bI_t (by assumption)).symm | exact (bI_f (by omega)).symm
  · -- 4 F
    refine j_iconst C dX5_isThere_7 ?_
    refine j_goto C dX5_isThere_8 ?_
    refine j_zret C hrt dX5_isThere_12 (by first | exact Or.inl rfl | exact Or.inr rfl | exact bI_01 _) ?_
    refine ⟨?_, rfl⟩
    first | exact (bI_t (by assumption)).symm | exact (bI_f (by omega)).symm
set_option maxRecDepth 100000 in
set_option maxHeartbeats 4000000 in
theorem c_X5_set {Γ : Ga} {l : Launch} {ω : Wo}  {a : Nat} (ha : At 243 a 5) {n d : Int} (hn : Rg n) (hd : Rg d) : CV Γ l yX5_set cX5_set 3 0 [.ref (rl Γ a), .int (iI n), .int (iI d)] ω (fun ω' => ω' = RF ω a n d) := by
  refine Met.ofJ (k := 0) [some (.ref (rl Γ a)), some (.int (iI n)), some (.int (iI d))] (by decide) rfl rfl rfl (fun p e s mm args below meth c C hrt => ?_)
  refine j_aload0 C dX5_set_0 ?_
  refine j_iload1 C dX5_set_1 ?_
  refine j_putI C fX5_9 ha rfl ty_5_0 ⟨by omega, by omega⟩ dX5_set_2 ?_
  try simp only [wi_wf, wf_same, wf_wf, up_same, up_up, Int.toNat_natCast]
  refine j_aload0 C dX5_set_5 ?_
  refine j_iload2 C dX5_set_6 ?_
  refine j_putI C fX5_15 ha rfl ty_5_1 ⟨by omega, by omega⟩ dX5_set_7 ?_
  try simp only [wi_wf, wf_same, wf_wf, up_same, up_up, Int.toNat_natCast]
  refine j_vret C hrt dX5_set_10 ?_
  rfl
set_option maxRecDepth 100000 in
set_option maxHeartbeats 4000000 in
theorem c_X5_clear {Γ : Ga} {l : Launch} {ω : Wo}  {a : Nat} (ha : At 243 a 5)  : CV Γ l yX5_clear cX5_clear 1 1 [.ref (rl Γ a)] ω (fun ω' => ω' = RF ω a 0 0) := by
  refine Met.ofJ (k := 0) [some (.ref (rl Γ a))] (by decide) rfl rfl rfl (fun p e s mm args below meth c C hrt => ?_)
  refine j_aload0 C dX5_clear_0 ?_
  refine j_iconst C dX5_clear_1 ?_
  refine j_iconst C dX5_clear_2 ?_
  refine j_cVV2 C (c_X5_set ha ⟨by omega, by omega⟩ ⟨by omega, by omega⟩) oX5_set kX5_18 ⟨_, rfl, rfl⟩ ha ⟨by decide, by decide⟩ rfl (Nat.le_of_ble_eq_true rfl) ⟨by decide, by decide⟩ dX5_clear_3 ?_
  rintro _ rfl
  refine j_vret C hrt dX5_clear_6 ?_
  rfl
set_option maxRecDepth 100000 in
set_option maxHeartbeats 4000000 in
theorem c_X5_copyFrom {Γ : Ga} {l : Launch} {ω : Wo}  {a b : Nat} (ha : At 243 a 5) (hb : At 243 b 5) : CV Γ l yX5_copyFrom cX5_copyFrom 2 1 [.ref (rl Γ a), .ref (rl Γ b)] ω (fun ω' => ω' = RF ω a (ω.1 b 0) (ω.1 b 1)) := by
  refine Met.ofJ (k := 0) [some (.ref (rl Γ a)), some (.ref (rl Γ b))] (by decide) rfl rfl rfl (fun p e s mm args below meth c C hrt => ?_)
  refine j_aload0 C dX5_copyFrom_0 ?_
  refine j_aload1 C dX5_copyFrom_1 ?_
  refine j_geti C fX5_9 hb rfl rfl dX5_copyFrom_2 (fun hr2 => ?_)
  refine j_aload1 C dX5_copyFrom_5 ?_
  refine j_geti C fX5_15 hb rfl rfl dX5_copyFrom_6 (fun hr6 => ?_)
  refine j_cVV2 C (c_X5_set ha ⟨by omega, by omega⟩ ⟨by omega, by omega⟩) oX5_set kX5_18 ⟨_, rfl, rfl⟩ ha ⟨by decide, by decide⟩ rfl (Nat.le_of_ble_eq_true rfl) ⟨by decide, by decide⟩ dX5_copyFrom_9 ?_
  rintro _ rfl
  refine j_vret C hrt dX5_copyFrom_12 ?_
  rfl
set_option maxRecDepth 100000 in
set_option maxHeartbeats 4000000 in
theorem c_X4_isOut {Γ : Ga} {l : Launch} {ω : Wo}  {a : Nat} (ha : At 243 a 2) {v : Int} (h1 : ω.1 a 1 = v) : CI Γ l yX4_isOut cX4_isOut 1 .boolean 0 [.ref (rl Γ a)] ω (fun z ω' => z = bI (0 ≤ v) ∧ ω = ω') := by
  refine Met.ofJ (k := 0) [some (.ref (rl Γ a))] (by decide) rfl rfl rfl (fun p e s mm args below meth c C hrt => ?_)
  refine j_aload0 C dX4_isOut_0 ?_
  refine j_geti C fX4_15 ha rfl h1 dX4_isOut_1 (fun hr1 => ?_)
  refine j_if_lt C ⟨by omega, by omega⟩ dX4_isOut_4 (fun hc4 => ?_) (fun hc4 => ?_)
  · -- 4 T
    refine j_iconst C dX4_isOut_11 ?_
    refine j_zret C hrt dX4_isOut_12 (by first | exact Or.inl rfl | exact Or.inr rfl | exact bI_01 _) ?_
    refine ⟨?_, rfl⟩
    first | exact (bI_t (by omega)).symm | exact (bI_f (by omega)).symm
  · -- 4 F
    refine j_iconst C dX4_isOut_7 ?_
    refine j_goto C dX4_isOut_8 ?_
    refine j_zret C hrt dX4_isOut_12 (by first | exact Or.inl rfl | exact Or.inr rfl | exact bI_01 _) ?_
    refine ⟨?_, rfl⟩
    first | exact (bI_t (by omega)).symm | exact (bI_f (by omega)).symm
set_option maxRecDepth 100000 in
set_option maxHeartbeats 4000000 in
theorem c_X4_isAble {Γ : Ga} {l : Launch} {ω : Wo}  {a : Nat} (ha : At 243 a 2) {v u w : Int} (h1 : ω.1 a 1 = v) (h2 : ω.1 a 2 = u) (hw : Rg w) : CI Γ l yX4_isAble cX4_isAble 2 .boolean 0 [.ref (rl Γ a), .int (iI w)] ω (fun z ω' => z = bI (v = -1 ∧ u < w) ∧ ω = ω') := by
  refine Met.ofJ (k := 0) [some (.ref (rl Γ a)), some (.int (iI w))] (by decide) rfl rfl rfl (fun p e s mm args below meth c C hrt => ?_)
  refine j_aload0 C dX4_isAble_0 ?_
  refine j_geti C fX4_15 ha rfl h1 dX4_isAble_1 (fun hr1 => ?_)
  refine j_iconst C dX4_isAble_4 ?_
  refine j_icmp_ne C ⟨by omega, by omega⟩ ⟨by omega, by omega⟩ dX4_isAble_5 (fun hc5 => ?_) (fun hc5 => ?_)
  · -- 5 T
    refine j_iconst C dX4_isAble_20 ?_
    refine j_zret C hrt dX4_isAble_21 (by first | exact Or.inl rfl | exact Or.inr rfl | exact bI_01 _) ?_
    refine ⟨?_, rfl⟩
    first | exact (bI_t (by omega)).symm | exact (bI_f (by omega)).symm
  · -- 5 F
    refine j_aload0 C dX4_isAble_8 ?_
    refine j_geti C fX4_18 ha rfl h2 dX4_isAble_9 (fun hr9 => ?_)
    refine j_iload1 C dX4_isAble_12 ?_
    refine j_icmp_ge C ⟨by omega, by omega⟩ ⟨by omega, by omega⟩ dX4_isAble_13 (fun hc13 => ?_) (fun hc13 => ?_)
    · -- 13 T
      refine j_iconst C dX4_isAble_20 ?_
      refine j_zret C hrt dX4_isAble_21 (by first | exact Or.inl rfl | exact Or.inr rfl | exact bI_01 _) ?_
      refine ⟨?_, rfl⟩
      first | exact (bI_t (by omega)).symm | exact (bI_f (by omega)).symm
    · -- 13 F
      refine j_iconst C dX4_isAble_16 ?_
      refine j_goto C dX4_isAble_17 ?_
      refine j_zret C hrt dX4_isAble_21 (by first | exact Or.inl rfl | exact Or.inr rfl | exact bI_01 _) ?_
      refine ⟨?_, rfl⟩
      first | exact (bI_t (by omega)).symm | exact (bI_f (by omega)).symm
set_option maxRecDepth 100000 in
set_option maxHeartbeats 4000000 in
theorem c_X1_isOut {Γ : Ga} {l : Launch} {ω : Wo}  {a : Nat} (ha : At 243 a 3) {v : Int} (h1 : ω.1 a 2 = v) : CI Γ l yX1_isOut cX1_isOut 1 .boolean 0 [.ref (rl Γ a)] ω (fun z ω' => z = bI (v ≠ -1) ∧ ω = ω') := by
  refine Met.ofJ (k := 0) [some (.ref (rl Γ a))] (by decide) rfl rfl rfl (fun p e s mm args below meth c C hrt => ?_)
  refine j_aload0 C dX1_isOut_0 ?_
  refine j_geti C fX1_18 ha rfl h1 dX1_isOut_1 (fun hr1 => ?_)
  refine j_iconst C dX1_isOut_4 ?_
  refine j_icmp_eq C ⟨by omega, by omega⟩ ⟨by omega, by omega⟩ dX1_isOut_5 (fun hc5 => ?_) (fun hc5 => ?_)
  · -- 5 T
    refine j_iconst C dX1_isOut_12 ?_
    refine j_zret C hrt dX1_isOut_13 (by first | exact Or.inl rfl | exact Or.inr rfl | exact bI_01 _) ?_
    refine ⟨?_, rfl⟩
    first | exact (bI_t (by omega)).symm | exact (bI_f (by omega)).symm
  · -- 5 F
    refine j_iconst C dX1_isOut_8 ?_
    refine j_goto C dX1_isOut_9 ?_
    refine j_zret C hrt dX1_isOut_13 (by first | exact Or.inl rfl | exact Or.inr rfl | exact bI_01 _) ?_
    refine ⟨?_, rfl⟩
    first | exact (bI_t (by omega)).symm | exact (bI_f (by omega)).symm
set_option maxRecDepth 100000 in
set_option maxHeartbeats 4000000 in
theorem c_X1_oarsNeeded {Γ : Ga} {l : Launch} {ω : Wo}  {a : Nat} (ha : At 243 a 3) {v : Int} (h1 : ω.1 a 1 = v) (hv : 0 ≤ v ∧ v ≤ 6) : CI Γ l yX1_oarsNeeded cX1_oarsNeeded 1 .int 0 [.ref (rl Γ a)] ω (fun z ω' => z = v - 1 ∧ ω = ω') := by
  refine Met.ofJ (k := 0) [some (.ref (rl Γ a))] (by decide) rfl rfl rfl (fun p e s mm args below meth c C hrt => ?_)
  refine j_aload0 C dX1_oarsNeeded_0 ?_
  refine j_geti C fX1_15 ha rfl h1 dX1_oarsNeeded_1 (fun hr1 => ?_)
  refine j_iconst C dX1_oarsNeeded_4 ?_
  refine j_isub C dX1_oarsNeeded_5 ?_
  refine j_iret C hrt dX1_oarsNeeded_6 ⟨by omega, by omega⟩ ?_
  exact ⟨rfl, rfl⟩
set_option maxRecDepth 100000 in
set_option maxHeartbeats 4000000 in
theorem c_X1_skilledNeeded {Γ : Ga} {l : Launch} {ω : Wo}  {a : Nat} (ha : At 243 a 3) {v : Int} (h1 : ω.1 a 1 = v) (hv : 1 ≤ v ∧ v ≤ 6) : CI Γ l yX1_skilledNeeded cX1_skilledNeeded 1 .int 0 [.ref (rl Γ a)] ω (fun z ω' => z = (v - 1) / 2 ∧ ω = ω') := by
  refine Met.ofJ (k := 0) [some (.ref (rl Γ a))] (by decide) rfl rfl rfl (fun p e s mm args below meth c C hrt => ?_)
  refine j_aload0 C dX1_skilledNeeded_0 ?_
  refine j_geti C fX1_15 ha rfl h1 dX1_skilledNeeded_1 (fun hr1 => ?_)
  refine j_iconst C dX1_skilledNeeded_4 ?_
  refine j_isub C dX1_skilledNeeded_5 ?_
  refine j_iconst C dX1_skilledNeeded_6 ?_
  refine j_idiv C ⟨by omega, by omega⟩ (by decide) dX1_skilledNeeded_7 ?_
  refine j_iret C hrt dX1_skilledNeeded_8 ⟨by omega, by omega⟩ ?_
  exact ⟨rfl, rfl⟩
set_option maxRecDepth 100000 in
set_option maxHeartbeats 4000000 in
theorem c_X4_start {Γ : Ga} {l : Launch} {ω : Wo}  {a : Nat} (ha : At 243 a 2) {v : Int} (hv : Rg v) : CV Γ l yX4_start cX4_start 2 0 [.ref (rl Γ a), .int (iI v)] ω (fun ω' => ω' = wf ω a (up (up (up (up (up (up (ω.1 a) 0 v) 1 (-1)) 2 0) 3 0) 4 0) 5 0)) := by
  refine Met.ofJ (k := 0) [some (.ref (rl Γ a)), some (.int (iI v))] (by decide) rfl rfl rfl (fun p e s mm args below meth c C hrt => ?_)
  refine j_aload0 C dX4_start_0 ?_
  refine j_iload1 C dX4_start_1 ?_
  refine j_putI C fX4_9 ha rfl ty_2_0 ⟨by omega, by omega⟩ dX4_start_2 ?_
  try simp only [wi_wf, wf_same, wf_wf, up_same, up_up, Int.toNat_natCast]
  refine j_aload0 C dX4_start_5 ?_
  refine j_iconst C dX4_start_6 ?_
  refine j_putI C fX4_15 ha rfl ty_2_1 ⟨by omega, by omega⟩ dX4_start_7 ?_
  try simp only [wi_wf, wf_same, wf_wf, up_same, up_up, Int.toNat_natCast]
  refine j_aload0 C dX4_start_10 ?_
  refine j_iconst C dX4_start_11 ?_
  refine j_putI C fX4_18 ha rfl ty_2_2 ⟨by omega, by omega⟩ dX4_start_12 ?_
  try simp only [wi_wf, wf_same, wf_wf, up_same, up_up, Int.toNat_natCast]
  refine j_aload0 C dX4_start_15 ?_
  refine j_iconst C dX4_start_16 ?_
  refine j_putI C fX4_21 ha rfl ty_2_3 ⟨by omega, by omega⟩ dX4_start_17 ?_
  try simp only [wi_wf, wf_same, wf_wf, up_same, up_up, Int.toNat_natCast]
  refine j_aload0 C dX4_start_20 ?_
  refine j_iconst C dX4_start_21 ?_
  refine j_putI C fX4_24 ha rfl ty_2_4 ⟨by omega, by omega⟩ dX4_start_22 ?_
  try simp only [wi_wf, wf_same, wf_wf, up_same, up_up, Int.toNat_natCast]
  refine j_aload0 C dX4_start_25 ?_
  refine j_iconst C dX4_start_26 ?_
  refine j_putI C fX4_27 ha rfl ty_2_5 ⟨by omega, by omega⟩ dX4_start_27 ?_
  try simp only [wi_wf, wf_same, wf_wf, up_same, up_up, Int.toNat_natCast]
  refine j_vret C hrt dX4_start_30 ?_
  rfl
set_option maxRecDepth 100000 in
set_option maxHeartbeats 4000000 in
theorem c_X1_start {Γ : Ga} {l : Launch} {ω : Wo}  {a : Nat} (ha : At 243 a 3) {v u : Int} (hv : Rg v) (hu : Rg u) : CV Γ l yX1_start cX1_start 3 0 [.ref (rl Γ a), .int (iI v), .int (iI u)] ω (fun ω' => ω' = wf ω a (up (up (up (up (up (up (ω.1 a) 0 v) 1 u) 2 (-1)) 3 0) 4 0) 5 0)) := by
  refine Met.ofJ (k := 0) [some (.ref (rl Γ a)), some (.int (iI v)), some (.int (iI u))] (by decide) rfl rfl rfl (fun p e s mm args below meth c C hrt => ?_)
  refine j_aload0 C dX1_start_0 ?_
  refine j_iload1 C dX1_start_1 ?_
  refine j_putI C fX1_9 ha rfl ty_3_0 ⟨by omega, by omega⟩ dX1_start_2 ?_
  try simp only [wi_wf, wf_same, wf_wf, up_same, up_up, Int.toNat_natCast]
  refine j_aload0 C dX1_start_5 ?_
  refine j_iload2 C dX1_start_6 ?_
  refine j_putI C fX1_15 ha rfl ty_3_1 ⟨by omega, by omega⟩ dX1_start_7 ?_
  try simp only [wi_wf, wf_same, wf_wf, up_same, up_up, Int.toNat_natCast]
  refine j_aload0 C dX1_start_10 ?_
  refine j_iconst C dX1_start_11 ?_
  refine j_putI C fX1_18 ha rfl ty_3_2 ⟨by omega, by omega⟩ dX1_start_12 ?_
  try simp only [wi_wf, wf_same, wf_wf, up_same, up_up, Int.toNat_natCast]
  refine j_aload0 C dX1_start_15 ?_
  refine j_iconst C dX1_start_16 ?_
  refine j_putI C fX1_21 ha rfl ty_3_3 ⟨by omega, by omega⟩ dX1_start_17 ?_
  try simp only [wi_wf, wf_same, wf_wf, up_same, up_up, Int.toNat_natCast]
  refine j_aload0 C dX1_start_20 ?_
  refine j_iconst C dX1_start_21 ?_
  refine j_putI C fX1_24 ha rfl ty_3_4 ⟨by omega, by omega⟩ dX1_start_22 ?_
  try simp only [wi_wf, wf_same, wf_wf, up_same, up_up, Int.toNat_natCast]
  refine j_aload0 C dX1_start_25 ?_
  refine j_iconst C dX1_start_26 ?_
  refine j_putI C fX1_27 ha rfl ty_3_5 ⟨by omega, by omega⟩ dX1_start_27 ?_
  try simp only [wi_wf, wf_same, wf_wf, up_same, up_up, Int.toNat_natCast]
  refine j_vret C hrt dX1_start_30 ?_
  rfl
set_option maxRecDepth 100000 in
set_option maxHeartbeats 4000000 in
theorem c_X3_start {Γ : Ga} {l : Launch} {ω : Wo}  {a : Nat} (ha : At 243 a 4) {v u : Int} (hv : Rg v) (hu : Rg u) : CV Γ l yX3_start cX3_start 3 0 [.ref (rl Γ a), .int (iI v), .int (iI u)] ω (fun ω' => ω' = wf ω a (up (up (up (ω.1 a) 0 v) 1 u) 2 0)) := by
  refine Met.ofJ (k := 0) [some (.ref (rl Γ a)), some (.int (iI v)), some (.int (iI u))] (by decide) rfl rfl rfl (fun p e s mm args below meth c C hrt => ?_)
  refine j_aload0 C dX3_start_0 ?_
  refine j_iload1 C dX3_start_1 ?_
  refine j_putI C fX3_7 ha rfl ty_4_0 ⟨by omega, by omega⟩ dX3_start_2 ?_
  try simp only [wi_wf, wf_same, wf_wf, up_same, up_up, Int.toNat_natCast]
  refine j_aload0 C dX3_start_5 ?_
  refine j_iload2 C dX3_start_6 ?_
  refine j_putI C fX3_13 ha rfl ty_4_1 ⟨by omega, by omega⟩ dX3_start_7 ?_
  try simp only [wi_wf, wf_same, wf_wf, up_same, up_up, Int.toNat_natCast]
  refine j_aload0 C dX3_start_10 ?_
  refine j_iconst C dX3_start_11 ?_
  refine j_putI C fX3_16 ha rfl ty_4_2 ⟨by omega, by omega⟩ dX3_start_12 ?_
  try simp only [wi_wf, wf_same, wf_wf, up_same, up_up, Int.toNat_natCast]
  refine j_vret C hrt dX3_start_15 ?_
  rfl
set_option maxRecDepth 100000 in
set_option maxHeartbeats 4000000 in
theorem c_X4_copyFrom {Γ : Ga} {l : Launch} {ω : Wo}  {a b : Nat} (ha : At 243 a 2) (hb : At 243 b 2) (hab : a ≠ b) : CV Γ l yX4_copyFrom cX4_copyFrom 2 0 [.ref (rl Γ a), .ref (rl Γ b)] ω (fun ω' => ω' = wf ω a (up (up (up (up (up (up (ω.1 a) 0 (ω.1 b 0)) 1 (ω.1 b 1)) 2 (ω.1 b 2)) 3 (ω.1 b 3)) 4 (ω.1 b 4)) 5 (ω.1 b 5))) := by
  refine Met.ofJ (k := 0) [some (.ref (rl Γ a)), some (.ref (rl Γ b))] (by decide) rfl rfl rfl (fun p e s mm args below meth c C hrt => ?_)
  refine j_aload0 C dX4_copyFrom_0 ?_
  refine j_aload1 C dX4_copyFrom_1 ?_
  refine j_geti C fX4_9 hb rfl rfl dX4_copyFrom_2 (fun hr2 => ?_)
  try simp only [wf_same, up_same, Int.toNat_natCast] at hr2 ⊢
  refine j_putI C fX4_9 ha rfl ty_2_0 ⟨by omega, by omega⟩ dX4_copyFrom_5 ?_
  try simp only [wi_wf, wf_same, wf_wf, up_same, up_up, Int.toNat_natCast]
  refine j_aload0 C dX4_copyFrom_8 ?_
  refine j_aload1 C dX4_copyFrom_9 ?_
  refine j_geti C fX4_15 hb rfl (show _ = ω.1 b 1 by rw [wf_ne _ _ (Ne.symm hab)]) dX4_copyFrom_10 (fun hr10 => ?_)
  try simp only [wf_same, up_same, Int.toNat_natCast] at hr10 ⊢
  refine j_putI C fX4_15 ha rfl ty_2_1 ⟨by omega, by omega⟩ dX4_copyFrom_13 ?_
  try simp only [wi_wf, wf_same, wf_wf, up_same, up_up, Int.toNat_natCast]
  refine j_aload0 C dX4_copyFrom_16 ?_
  refine j_aload1 C dX4_copyFrom_17 ?_
  refine j_geti C fX4_18 hb rfl (show _ = ω.1 b 2 by rw [wf_ne _ _ (Ne.symm hab)]) dX4_copyFrom_18 (fun hr18 => ?_)
  try simp only [wf_same, up_same, Int.toNat_natCast] at hr18 ⊢
  refine j_putI C fX4_18 ha rfl ty_2_2 ⟨by omega, by omega⟩ dX4_copyFrom_21 ?_
  try simp only [wi_wf, wf_same, wf_wf, up_same, up_up, Int.toNat_natCast]
  refine j_aload0 C dX4_copyFrom_24 ?_
  refine j_aload1 C dX4_copyFrom_25 ?_
  refine j_geti C fX4_21 hb rfl (show _ = ω.1 b 3 by rw [wf_ne _ _ (Ne.symm hab)]) dX4_copyFrom_26 (fun hr26 => ?_)
  try simp only [wf_same, up_same, Int.toNat_natCast] at hr26 ⊢
  refine j_putI C fX4_21 ha rfl ty_2_3 ⟨by omega, by omega⟩ dX4_copyFrom_29 ?_
  try simp only [wi_wf, wf_same, wf_wf, up_same, up_up, Int.toNat_natCast]
  refine j_aload0 C dX4_copyFrom_32 ?_
  refine j_aload1 C dX4_copyFrom_33 ?_
  refine j_geti C fX4_24 hb rfl (show _ = ω.1 b 4 by rw [wf_ne _ _ (Ne.symm hab)]) dX4_copyFrom_34 (fun hr34 => ?_)
  try simp only [wf_same, up_same, Int.toNat_natCast] at hr34 ⊢
  refine j_putI C fX4_24 ha rfl ty_2_4 ⟨by omega, by omega⟩ dX4_copyFrom_37 ?_
  try simp only [wi_wf, wf_same, wf_wf, up_same, up_up, Int.toNat_natCast]
  refine j_aload0 C dX4_copyFrom_40 ?_
  refine j_aload1 C dX4_copyFrom_41 ?_
  refine j_geti C fX4_27 hb rfl (show _ = ω.1 b 5 by rw [wf_ne _ _ (Ne.symm hab)]) dX4_copyFrom_42 (fun hr42 => ?_)
  try simp only [wf_same, up_same, Int.toNat_natCast] at hr42 ⊢
  refine j_putI C fX4_27 ha rfl ty_2_5 ⟨by omega, by omega⟩ dX4_copyFrom_45 ?_
  try simp only [wi_wf, wf_same, wf_wf, up_same, up_up, Int.toNat_natCast]
  refine j_vret C hrt dX4_copyFrom_48 ?_
  rfl
set_option maxRecDepth 100000 in
set_option maxHeartbeats 4000000 in
theorem c_X1_copyFrom {Γ : Ga} {l : Launch} {ω : Wo}  {a b : Nat} (ha : At 243 a 3) (hb : At 243 b 3) (hab : a ≠ b) : CV Γ l yX1_copyFrom cX1_copyFrom 2 0 [.ref (rl Γ a), .ref (rl Γ b)] ω (fun ω' => ω' = wf ω a (up (up (up (up (up (up (ω.1 a) 0 (ω.1 b 0)) 1 (ω.1 b 1)) 2 (ω.1 b 2)) 3 (ω.1 b 3)) 4 (ω.1 b 4)) 5 (ω.1 b 5))) := by
  refine Met.ofJ (k := 0) [some (.ref (rl Γ a)), some (.ref (rl Γ b))] (by decide) rfl rfl rfl (fun p e s mm args below meth c C hrt => ?_)
  refine j_aload0 C dX1_copyFrom_0 ?_
  refine j_aload1 C dX1_copyFrom_1 ?_
  refine j_geti C fX1_9 hb rfl rfl dX1_copyFrom_2 (fun hr2 => ?_)
  try simp only [wf_same, up_same, Int.toNat_natCast] at hr2 ⊢
  refine j_putI C fX1_9 ha rfl ty_3_0 ⟨by omega, by omega⟩ dX1_copyFrom_5 ?_
  try simp only [wi_wf, wf_same, wf_wf, up_same, up_up, Int.toNat_natCast]
  refine j_aload0 C dX1_copyFrom_8 ?_
  refine j_aload1 C dX1_copyFrom_9 ?_
  refine j_geti C fX1_15 hb rfl (show _ = ω.1 b 1 by rw [wf_ne _ _ (Ne.symm hab)]) dX1_copyFrom_10 (fun hr10 => ?_)
  try simp only [wf_same, up_same, Int.toNat_natCast] at hr10 ⊢
  refine j_putI C fX1_15 ha rfl ty_3_1 ⟨by omega, by omega⟩ dX1_copyFrom_13 ?_
  try simp only [wi_wf, wf_same, wf_wf, up_same, up_up, Int.toNat_natCast]
  refine j_aload0 C dX1_copyFrom_16 ?_
  refine j_aload1 C dX1_copyFrom_17 ?_
  refine j_geti C fX1_18 hb rfl (show _ = ω.1 b 2 by rw [wf_ne _ _ (Ne.symm hab)]) dX1_copyFrom_18 (fun hr18 => ?_)
  try simp only [wf_same, up_same, Int.toNat_natCast] at hr18 ⊢
  refine j_putI C fX1_18 ha rfl ty_3_2 ⟨by omega, by omega⟩ dX1_copyFrom_21 ?_
  try simp only [wi_wf, wf_same, wf_wf, up_same, up_up, Int.toNat_natCast]
  refine j_aload0 C dX1_copyFrom_24 ?_
  refine j_aload1 C dX1_copyFrom_25 ?_
  refine j_geti C fX1_21 hb rfl (show _ = ω.1 b 3 by rw [wf_ne _ _ (Ne.symm hab)]) dX1_copyFrom_26 (fun hr26 => ?_)
  try simp only [wf_same, up_same, Int.toNat_natCast] at hr26 ⊢
  refine j_putI C fX1_21 ha rfl ty_3_3 ⟨by omega, by omega⟩ dX1_copyFrom_29 ?_
  try simp only [wi_wf, wf_same, wf_wf, up_same, up_up, Int.toNat_natCast]
  refine j_aload0 C dX1_copyFrom_32 ?_
  refine j_aload1 C dX1_copyFrom_33 ?_
  refine j_geti C fX1_24 hb rfl (show _ = ω.1 b 4 by rw [wf_ne _ _ (Ne.symm hab)]) dX1_copyFrom_34 (fun hr34 => ?_)
  try simp only [wf_same, up_same, Int.toNat_natCast] at hr34 ⊢
  refine j_putI C fX1_24 ha rfl ty_3_4 ⟨by omega, by omega⟩ dX1_copyFrom_37 ?_
  try simp only [wi_wf, wf_same, wf_wf, up_same, up_up, Int.toNat_natCast]
  refine j_aload0 C dX1_copyFrom_40 ?_
  refine j_aload1 C dX1_copyFrom_41 ?_
  refine j_geti C fX1_27 hb rfl (show _ = ω.1 b 5 by rw [wf_ne _ _ (Ne.symm hab)]) dX1_copyFrom_42 (fun hr42 => ?_)
  try simp only [wf_same, up_same, Int.toNat_natCast] at hr42 ⊢
  refine j_putI C fX1_27 ha rfl ty_3_5 ⟨by omega, by omega⟩ dX1_copyFrom_45 ?_
  try simp only [wi_wf, wf_same, wf_wf, up_same, up_up, Int.toNat_natCast]
  refine j_vret C hrt dX1_copyFrom_48 ?_
  rfl
set_option maxRecDepth 100000 in
set_option maxHeartbeats 4000000 in
theorem c_X3_copyFrom {Γ : Ga} {l : Launch} {ω : Wo}  {a b : Nat} (ha : At 243 a 4) (hb : At 243 b 4) (hab : a ≠ b) : CV Γ l yX3_copyFrom cX3_copyFrom 2 0 [.ref (rl Γ a), .ref (rl Γ b)] ω (fun ω' => ω' = wf ω a (up (up (up (ω.1 a) 0 (ω.1 b 0)) 1 (ω.1 b 1)) 2 (ω.1 b 2))) := by
  refine Met.ofJ (k := 0) [some (.ref (rl Γ a)), some (.ref (rl Γ b))] (by decide) rfl rfl rfl (fun p e s mm args below meth c C hrt => ?_)
  refine j_aload0 C dX3_copyFrom_0 ?_
  refine j_aload1 C dX3_copyFrom_1 ?_
  refine j_geti C fX3_7 hb rfl rfl dX3_copyFrom_2 (fun hr2 => ?_)
  try simp only [wf_same, up_same, Int.toNat_natCast] at hr2 ⊢
  refine j_putI C fX3_7 ha rfl ty_4_0 ⟨by omega, by omega⟩ dX3_copyFrom_5 ?_
  try simp only [wi_wf, wf_same, wf_wf, up_same, up_up, Int.toNat_natCast]
  refine j_aload0 C dX3_copyFrom_8 ?_
  refine j_aload1 C dX3_copyFrom_9 ?_
  refine j_geti C fX3_13 hb rfl (show _ = ω.1 b 1 by rw [wf_ne _ _ (Ne.symm hab)]) dX3_copyFrom_10 (fun hr10 => ?_)
  try simp only [wf_same, up_same, Int.toNat_natCast] at hr10 ⊢
  refine j_putI C fX3_13 ha rfl ty_4_1 ⟨by omega, by omega⟩ dX3_copyFrom_13 ?_
  try simp only [wi_wf, wf_same, wf_wf, up_same, up_up, Int.toNat_natCast]
  refine j_aload0 C dX3_copyFrom_16 ?_
  refine j_aload1 C dX3_copyFrom_17 ?_
  refine j_geti C fX3_16 hb rfl (show _ = ω.1 b 2 by rw [wf_ne _ _ (Ne.symm hab)]) dX3_copyFrom_18 (fun hr18 => ?_)
  try simp only [wf_same, up_same, Int.toNat_natCast] at hr18 ⊢
  refine j_putI C fX3_16 ha rfl ty_4_2 ⟨by omega, by omega⟩ dX3_copyFrom_21 ?_
  try simp only [wi_wf, wf_same, wf_wf, up_same, up_up, Int.toNat_natCast]
  refine j_vret C hrt dX3_copyFrom_24 ?_
  rfl
set_option maxRecDepth 100000 in
set_option maxHeartbeats 4000000 in
theorem c_X8_heightAt {Γ : Ga} {l : Launch} {ω : Wo}  {h : Int} (hh : 0 ≤ h ∧ h < 2147483648) : CI Γ l yX8_heightAt cX8_heightAt 2 .int 0 [.int (iI h)] ω (fun z ω' => z = hgt h ∧ ω = ω') := by
  refine Met.ofJ (k := 1) [some (.int (iI h)), none] (by decide) rfl rfl rfl (fun p e s mm args below meth c C hrt => ?_)
  refine j_iload0 C dX8_heightAt_0 ?_
  refine j_bipush C (by decide) dX8_heightAt_1 ?_
  refine j_irem C ⟨by omega, by omega⟩ (by decide) dX8_heightAt_3 ?_
  refine j_istore1 C rfl dX8_heightAt_4 ?_
  refine j_iload1 C dX8_heightAt_5 ?_
  refine j_bipush C (by decide) dX8_heightAt_6 ?_
  refine j_icmp_gt C ⟨by omega, by omega⟩ ⟨by omega, by omega⟩ dX8_heightAt_8 (fun hc8 => ?_) (fun hc8 => ?_)
  · -- 8 T
    refine j_bipush C (by decide) dX8_heightAt_15 ?_
    refine j_iload1 C dX8_heightAt_17 ?_
    refine j_isub C dX8_heightAt_18 ?_
    refine j_iret C hrt dX8_heightAt_19 ⟨by omega, by omega⟩ ?_
    exact ⟨by unfold hgt; first | rw [if_pos (by omega)] | rw [if_neg (by omega)], rfl⟩
  · -- 8 F
    refine j_iload1 C dX8_heightAt_11 ?_
    refine j_goto C dX8_heightAt_12 ?_
    refine j_iret C hrt dX8_heightAt_19 ⟨by omega, by omega⟩ ?_
    exact ⟨by unfold hgt; first | rw [if_pos (by omega)] | rw [if_neg (by omega)], rfl⟩
set_option maxRecDepth 100000 in
set_option maxHeartbeats 4000000 in
theorem c_X8_isIn {Γ : Ga} {l : Launch} {ω : Wo}  {k x : Nat} (hk : k < 31) (hx : x < 2147483648) : CI Γ l yX8_isIn cX8_isIn 2 .boolean 0 [.int (iI ((k : Int))), .int (iI ((x : Int)))] ω (fun z ω' => z = bI (x / 2 ^ k % 2 = 1) ∧ ω = ω') := by
  refine Met.ofJ (k := 0) [some (.int (iI ((k : Int)))), some (.int (iI ((x : Int))))] (by decide) rfl rfl rfl (fun p e s mm args below meth c C hrt => ?_)
  refine j_iload1 C dX8_isIn_0 ?_
  refine j_iconstN C (k := 1) rfl dX8_isIn_1 ?_
  refine j_iload0 C dX8_isIn_2 ?_
  refine j_ishl1 C (by omega) dX8_isIn_3 ?_
  refine j_iand C dX8_isIn_4 ?_
  refine j_if_eq C (by have := and_lt (y := 2 ^ k) hx; exact ⟨by omega, by omega⟩) dX8_isIn_5 (fun hc5 => ?_) (fun hc5 => ?_)
  · -- 5 T
    refine j_iconst C dX8_isIn_12 ?_
    refine j_zret C hrt dX8_isIn_13 (by first | exact Or.inl rfl | exact Or.inr rfl | exact bI_01 _) ?_
    refine ⟨?_, rfl⟩
    first | exact (bI_t (and_pow.mp (by omega))).symm | exact (bI_f (fun q => and_pow.mpr q (by omega))).symm
  · -- 5 F
    refine j_iconst C dX8_isIn_8 ?_
    refine j_goto C dX8_isIn_9 ?_
    refine j_zret C hrt dX8_isIn_13 (by first | exact Or.inl rfl | exact Or.inr rfl | exact bI_01 _) ?_
    refine ⟨?_, rfl⟩
    first | exact (bI_t (and_pow.mp (by omega))).symm | exact (bI_f (fun q => and_pow.mpr q (by omega))).symm
