set_option maxRecDepth 100000 in
set_option maxHeartbeats 4000000 in
theorem c_X9_thrown {Γ : Ga} {l : Launch} {ω : Wo} (hw : WM ω.2.1)   : CI Γ l yX9_thrown cX9_thrown 1 .int 0 [.ref (rl Γ 243)] ω (fun z ω' => z = ω.1 243 6 ∧ ω = ω') := by
  refine Met.ofJ (k := 0) [some (.ref (rl Γ 243))] (by decide) rfl rfl rfl (fun p e s mm args below meth c C hrt => ?_)
  refine j_aload0 C dX9_thrown_0 ?_
  refine j_geti C fX9_38 at_243 rfl rfl dX9_thrown_1 (fun hr1 => ?_)
  refine j_iret C hrt dX9_thrown_4 ⟨by omega, by omega⟩ ?_
  exact ⟨rfl, rfl⟩
set_option maxRecDepth 100000 in
set_option maxHeartbeats 4000000 in
theorem c_X9_isIn {Γ : Ga} {l : Launch} {ω : Wo}  {v lo hi : Int} (hv : Rg v) (hl : Rg lo) (hh : Rg hi) : CI Γ l yX9_isIn cX9_isIn 3 .boolean 0 [.int (iI v), .int (iI lo), .int (iI hi)] ω (fun z ω' => z = bI (lo ≤ v ∧ v ≤ hi) ∧ ω = ω') := by
  refine Met.ofJ (k := 0) [some (.int (iI v)), some (.int (iI lo)), some (.int (iI hi))] (by decide) rfl rfl rfl (fun p e s mm args below meth c C hrt => ?_)
  refine j_iload0 C dX9_isIn_0 ?_
  refine j_iload1 C dX9_isIn_1 ?_
  refine j_icmp_lt C ⟨by omega, by omega⟩ ⟨by omega, by omega⟩ dX9_isIn_2 (fun hc2 => ?_) (fun hc2 => ?_)
  · -- 2 T
    refine j_iconst C dX9_isIn_14 ?_
    refine j_zret C hrt dX9_isIn_15 (by first | exact Or.inl rfl | exact Or.inr rfl | exact bI_01 _) ?_
    refine ⟨?_, rfl⟩
    unfold bI; split <;> omega
  · -- 2 F
    refine j_iload0 C dX9_isIn_5 ?_
    refine j_iload2 C dX9_isIn_6 ?_
    refine j_icmp_gt C ⟨by omega, by omega⟩ ⟨by omega, by omega⟩ dX9_isIn_7 (fun hc7 => ?_) (fun hc7 => ?_)
    · -- 7 T
      refine j_iconst C dX9_isIn_14 ?_
      refine j_zret C hrt dX9_isIn_15 (by first | exact Or.inl rfl | exact Or.inr rfl | exact bI_01 _) ?_
      refine ⟨?_, rfl⟩
      unfold bI; split <;> omega
    · -- 7 F
      refine j_iconst C dX9_isIn_10 ?_
      refine j_goto C dX9_isIn_11 ?_
      refine j_zret C hrt dX9_isIn_15 (by first | exact Or.inl rfl | exact Or.inr rfl | exact bI_01 _) ?_
      refine ⟨?_, rfl⟩
      unfold bI; split <;> omega
set_option maxRecDepth 100000 in
set_option maxHeartbeats 4000000 in
theorem c_X9_greater {Γ : Ga} {l : Launch} {ω : Wo}  {v w : Int} (hv : Rg v) (hl : Rg w) : CI Γ l yX9_greater cX9_greater 2 .int 0 [.int (iI v), .int (iI w)] ω (fun z ω' => z = max v w ∧ ω = ω') := by
  refine Met.ofJ (k := 0) [some (.int (iI v)), some (.int (iI w))] (by decide) rfl rfl rfl (fun p e s mm args below meth c C hrt => ?_)
  refine j_iload0 C dX9_greater_0 ?_
  refine j_iload1 C dX9_greater_1 ?_
  refine j_icmp_le C ⟨by omega, by omega⟩ ⟨by omega, by omega⟩ dX9_greater_2 (fun hc2 => ?_) (fun hc2 => ?_)
  · -- 2 T
    refine j_iload1 C dX9_greater_9 ?_
    refine j_iret C hrt dX9_greater_10 ⟨by omega, by omega⟩ ?_
    exact ⟨by omega, rfl⟩
  · -- 2 F
    refine j_iload0 C dX9_greater_5 ?_
    refine j_goto C dX9_greater_6 ?_
    refine j_iret C hrt dX9_greater_10 ⟨by omega, by omega⟩ ?_
    exact ⟨by omega, rfl⟩
set_option maxRecDepth 100000 in
set_option maxHeartbeats 4000000 in
theorem c_X9_of {Γ : Ga} {l : Launch} {ω : Wo} (hw : WM ω.2.1)  {m w : Int} (hm : 0 ≤ m ∧ m < 10) (hv : 0 ≤ w ∧ w < 7) : CI Γ l yX9_of cX9_of 3 .int 0 [.ref (rl Γ 243), .int (iI m), .int (iI w)] ω (fun z ω' => z = sM (ω.1 244) m w ∧ ω = ω') := by
  refine Met.ofJ (k := 0) [some (.ref (rl Γ 243)), some (.int (iI m)), some (.int (iI w))] (by decide) rfl rfl rfl (fun p e s mm args below meth c C hrt => ?_)
  refine j_aload0 C dX9_of_0 ?_
  refine j_getr C fX9_9 at_243 rfl hw.r0 dX9_of_1 ?_
  refine j_bipush C (by decide) dX9_of_4 ?_
  refine j_bipush C (by decide) dX9_of_6 ?_
  refine j_iload1 C dX9_of_8 ?_
  refine j_imul C dX9_of_9 ?_
  refine j_iadd C dX9_of_10 ?_
  refine j_iload2 C dX9_of_11 ?_
  refine j_iadd C dX9_of_12 ?_
  refine j_iald C at_244 ⟨rfl, rfl⟩ (N := 111) rfl (by decide) ⟨by omega, by omega⟩ rfl dX9_of_13 (fun hr13 => ?_)
  refine j_iret C hrt dX9_of_14 ⟨by omega, by omega⟩ ?_
  exact ⟨rfl, rfl⟩
set_option maxRecDepth 100000 in
set_option maxHeartbeats 4000000 in
theorem c_X9_ofBoat {Γ : Ga} {l : Launch} {ω : Wo} (hw : WM ω.2.1)  {m w : Int} (hm : 0 ≤ m ∧ m < 3) (hv : 0 ≤ w ∧ w < 7) : CI Γ l yX9_ofBoat cX9_ofBoat 3 .int 0 [.ref (rl Γ 243), .int (iI m), .int (iI w)] ω (fun z ω' => z = sB (ω.1 244) m w ∧ ω = ω') := by
  refine Met.ofJ (k := 0) [some (.ref (rl Γ 243)), some (.int (iI m)), some (.int (iI w))] (by decide) rfl rfl rfl (fun p e s mm args below meth c C hrt => ?_)
  refine j_aload0 C dX9_ofBoat_0 ?_
  refine j_getr C fX9_9 at_243 rfl hw.r0 dX9_ofBoat_1 ?_
  refine j_bipush C (by decide) dX9_ofBoat_4 ?_
  refine j_bipush C (by decide) dX9_ofBoat_6 ?_
  refine j_iload1 C dX9_ofBoat_8 ?_
  refine j_imul C dX9_ofBoat_9 ?_
  refine j_iadd C dX9_ofBoat_10 ?_
  refine j_iload2 C dX9_ofBoat_11 ?_
  refine j_iadd C dX9_ofBoat_12 ?_
  refine j_iald C at_244 ⟨rfl, rfl⟩ (N := 111) rfl (by decide) ⟨by omega, by omega⟩ rfl dX9_ofBoat_13 (fun hr13 => ?_)
  refine j_iret C hrt dX9_ofBoat_14 ⟨by omega, by omega⟩ ?_
  exact ⟨rfl, rfl⟩
set_option maxRecDepth 100000 in
set_option maxHeartbeats 4000000 in
theorem c_X9_ofLoan {Γ : Ga} {l : Launch} {ω : Wo} (hw : WM ω.2.1)  {m w : Int} (hm : 0 ≤ m ∧ m < 4) (hv : 0 ≤ w ∧ w < 3) : CI Γ l yX9_ofLoan cX9_ofLoan 3 .int 0 [.ref (rl Γ 243), .int (iI m), .int (iI w)] ω (fun z ω' => z = sL (ω.1 244) m w ∧ ω = ω') := by
  refine Met.ofJ (k := 0) [some (.ref (rl Γ 243)), some (.int (iI m)), some (.int (iI w))] (by decide) rfl rfl rfl (fun p e s mm args below meth c C hrt => ?_)
  refine j_aload0 C dX9_ofLoan_0 ?_
  refine j_getr C fX9_9 at_243 rfl hw.r0 dX9_ofLoan_1 ?_
  refine j_bipush C (by decide) dX9_ofLoan_4 ?_
  refine j_iconst C dX9_ofLoan_6 ?_
  refine j_iload1 C dX9_ofLoan_7 ?_
  refine j_imul C dX9_ofLoan_8 ?_
  refine j_iadd C dX9_ofLoan_9 ?_
  refine j_iload2 C dX9_ofLoan_10 ?_
  refine j_iadd C dX9_ofLoan_11 ?_
  refine j_iald C at_244 ⟨rfl, rfl⟩ (N := 111) rfl (by decide) ⟨by omega, by omega⟩ rfl dX9_ofLoan_12 (fun hr12 => ?_)
  refine j_iret C hrt dX9_ofLoan_13 ⟨by omega, by omega⟩ ?_
  exact ⟨rfl, rfl⟩
set_option maxRecDepth 100000 in
set_option maxHeartbeats 4000000 in
theorem c_X9_sets {Γ : Ga} {l : Launch} {ω : Wo} (hw : WM ω.2.1)  {m w v : Int} (hm : 0 ≤ m ∧ m < 10) (h2 : 0 ≤ w ∧ w < 7) (hv : Rg v) : CV Γ l yX9_sets cX9_sets 4 0 [.ref (rl Γ 243), .int (iI m), .int (iI w), .int (iI v)] ω (fun ω' => ω' = wf ω 244 (up (ω.1 244) (8 + 7 * m + w).toNat v)) := by
  refine Met.ofJ (k := 0) [some (.ref (rl Γ 243)), some (.int (iI m)), some (.int (iI w)), some (.int (iI v))] (by decide) rfl rfl rfl (fun p e s mm args below meth c C hrt => ?_)
  refine j_aload0 C dX9_sets_0 ?_
  refine j_getr C fX9_9 at_243 rfl hw.r0 dX9_sets_1 ?_
  refine j_bipush C (by decide) dX9_sets_4 ?_
  refine j_bipush C (by decide) dX9_sets_6 ?_
  refine j_iload1 C dX9_sets_8 ?_
  refine j_imul C dX9_sets_9 ?_
  refine j_iadd C dX9_sets_10 ?_
  refine j_iload2 C dX9_sets_11 ?_
  refine j_iadd C dX9_sets_12 ?_
  refine j_iload3 C dX9_sets_13 ?_
  refine j_iast C at_244 ⟨rfl, rfl⟩ (N := 111) rfl (by decide) ⟨by omega, by omega⟩ ⟨by omega, by omega⟩ dX9_sets_14 ?_
  refine j_vret C hrt dX9_sets_15 ?_
  exact wi_wf _ _ _ _
set_option maxRecDepth 100000 in
set_option maxHeartbeats 4000000 in
theorem c_X9_setsBoat {Γ : Ga} {l : Launch} {ω : Wo} (hw : WM ω.2.1)  {m w v : Int} (hm : 0 ≤ m ∧ m < 3) (h2 : 0 ≤ w ∧ w < 7) (hv : Rg v) : CV Γ l yX9_setsBoat cX9_setsBoat 4 0 [.ref (rl Γ 243), .int (iI m), .int (iI w), .int (iI v)] ω (fun ω' => ω' = wf ω 244 (up (ω.1 244) (78 + 7 * m + w).toNat v)) := by
  refine Met.ofJ (k := 0) [some (.ref (rl Γ 243)), some (.int (iI m)), some (.int (iI w)), some (.int (iI v))] (by decide) rfl rfl rfl (fun p e s mm args below meth c C hrt => ?_)
  refine j_aload0 C dX9_setsBoat_0 ?_
  refine j_getr C fX9_9 at_243 rfl hw.r0 dX9_setsBoat_1 ?_
  refine j_bipush C (by decide) dX9_setsBoat_4 ?_
  refine j_bipush C (by decide) dX9_setsBoat_6 ?_
  refine j_iload1 C dX9_setsBoat_8 ?_
  refine j_imul C dX9_setsBoat_9 ?_
  refine j_iadd C dX9_setsBoat_10 ?_
  refine j_iload2 C dX9_setsBoat_11 ?_
  refine j_iadd C dX9_setsBoat_12 ?_
  refine j_iload3 C dX9_setsBoat_13 ?_
  refine j_iast C at_244 ⟨rfl, rfl⟩ (N := 111) rfl (by decide) ⟨by omega, by omega⟩ ⟨by omega, by omega⟩ dX9_setsBoat_14 ?_
  refine j_vret C hrt dX9_setsBoat_15 ?_
  exact wi_wf _ _ _ _
set_option maxRecDepth 100000 in
set_option maxHeartbeats 4000000 in
theorem c_X9_isThrown {Γ : Ga} {l : Launch} {ω : Wo} (hw : WM ω.2.1)  {P : Prop} [Decidable P] {k : Int} (hk : Rg k) : CI Γ l yX9_isThrown cX9_isThrown 3 .boolean 0 [.ref (rl Γ 243), .int (iI (bI P)), .int (iI k)] ω (fun z ω' => z = bI P ∧ ω' = wf ω 243 (up (ω.1 243) 6 (if P then k else 0))) := by
  refine Met.ofJ (k := 0) [some (.ref (rl Γ 243)), some (.int (iI (bI P))), some (.int (iI k))] (by decide) rfl rfl rfl (fun p e s mm args below meth c C hrt => ?_)
  refine j_aload0 C dX9_isThrown_0 ?_
  refine j_iload1 C dX9_isThrown_1 ?_
  refine j_ifeqb C dX9_isThrown_2 (fun hc2 => ?_) (fun hc2 => ?_)
  · -- 2 T
    refine j_iload2 C dX9_isThrown_5 ?_
    refine j_goto C dX9_isThrown_6 ?_
    refine j_putI C fX9_38 at_243 rfl ty_7_6 ⟨by omega, by omega⟩ dX9_isThrown_10 ?_
    refine j_iload1 C dX9_isThrown_13 ?_
    refine j_zret C hrt dX9_isThrown_14 (by first | exact Or.inl rfl | exact Or.inr rfl | exact bI_01 _) ?_
    first | exact ⟨rfl, by rw [if_pos hc2, wi_wf]⟩ | exact ⟨rfl, by rw [if_neg hc2, wi_wf]⟩
  · -- 2 F
    refine j_iconst C dX9_isThrown_9 ?_
    refine j_putI C fX9_38 at_243 rfl ty_7_6 ⟨by omega, by omega⟩ dX9_isThrown_10 ?_
    refine j_iload1 C dX9_isThrown_13 ?_
    refine j_zret C hrt dX9_isThrown_14 (by first | exact Or.inl rfl | exact Or.inr rfl | exact bI_01 _) ?_
    first | exact ⟨rfl, by rw [if_pos hc2, wi_wf]⟩ | exact ⟨rfl, by rw [if_neg hc2, wi_wf]⟩
def refM (ω : Wo) (why wth : Int) : Wo := wf ω 243 (up (up (up (up (ω.1 243) 7 why) 8 wth) 9 0) 6 9)
theorem refM_eq (ω : Wo) (why wth : Int) : wi (wi (wi (wi ω 243 7 why) 243 8 wth) 243 9 0) 243 6 9 = refM ω why wth := by
  simp only [wi_wf, wf_same, wf_wf]; rfl
set_option maxRecDepth 100000 in
set_option maxHeartbeats 4000000 in
theorem c_X9_isRefused {Γ : Ga} {l : Launch} {ω : Wo} (hw : WM ω.2.1)  {P : Prop} [Decidable P] {k w : Int} (hk : Rg k) (hv : Rg w) : CI Γ l yX9_isRefused cX9_isRefused 4 .boolean 0 [.ref (rl Γ 243), .int (iI (bI P)), .int (iI k), .int (iI w)] ω (fun z ω' => z = bI P ∧ ω' = if P then refM ω k w else ω) := by
  refine Met.ofJ (k := 0) [some (.ref (rl Γ 243)), some (.int (iI (bI P))), some (.int (iI k)), some (.int (iI w))] (by decide) rfl rfl rfl (fun p e s mm args below meth c C hrt => ?_)
  refine j_iload1 C dX9_isRefused_0 ?_
  refine j_ifeqb C dX9_isRefused_1 (fun hc1 => ?_) (fun hc1 => ?_)
  · -- 1 T
    refine j_aload0 C dX9_isRefused_4 ?_
    refine j_iload2 C dX9_isRefused_5 ?_
    refine j_putI C fX9_51 at_243 rfl ty_7_7 ⟨by omega, by omega⟩ dX9_isRefused_6 ?_
    refine j_aload0 C dX9_isRefused_9 ?_
    refine j_iload3 C dX9_isRefused_10 ?_
    refine j_putI C fX9_54 at_243 rfl ty_7_8 ⟨by omega, by omega⟩ dX9_isRefused_11 ?_
    refine j_aload0 C dX9_isRefused_14 ?_
    refine j_iconst C dX9_isRefused_15 ?_
    refine j_putI C fX9_57 at_243 rfl ty_7_9 ⟨by omega, by omega⟩ dX9_isRefused_16 ?_
    refine j_aload0 C dX9_isRefused_19 ?_
    refine j_bipush C (by decide) dX9_isRefused_20 ?_
    refine j_putI C fX9_38 at_243 rfl ty_7_6 ⟨by omega, by omega⟩ dX9_isRefused_22 ?_
    refine j_iload1 C dX9_isRefused_25 ?_
    refine j_zret C hrt dX9_isRefused_26 (by first | exact Or.inl rfl | exact Or.inr rfl | exact bI_01 _) ?_
    first | exact ⟨rfl, by rw [if_pos hc1, refM_eq]⟩ | exact ⟨rfl, by rw [if_neg hc1]⟩
  · -- 1 F
    refine j_iload1 C dX9_isRefused_25 ?_
    refine j_zret C hrt dX9_isRefused_26 (by first | exact Or.inl rfl | exact Or.inr rfl | exact bI_01 _) ?_
    first | exact ⟨rfl, by rw [if_pos hc1, refM_eq]⟩ | exact ⟨rfl, by rw [if_neg hc1]⟩
set_option maxRecDepth 100000 in
set_option maxHeartbeats 4000000 in
theorem c_X9_isOutside {Γ : Ga} {l : Launch} {ω : Wo} (hw : WM ω.2.1)  {P : Prop} [Decidable P] : CI Γ l yX9_isOutside cX9_isOutside 2 .boolean 1 [.ref (rl Γ 243), .int (iI (bI P))] ω (fun z ω' => z = bI (¬ P) ∧ ω' = if ¬ P then refM ω 1 0 else ω) := by
  refine Met.ofJ (k := 0) [some (.ref (rl Γ 243)), some (.int (iI (bI P)))] (by decide) rfl rfl rfl (fun p e s mm args below meth c C hrt => ?_)
  refine j_aload0 C dX9_isOutside_0 ?_
  refine j_iload1 C dX9_isOutside_1 ?_
  refine j_ifneb C dX9_isOutside_2 (fun hc2 => ?_) (fun hc2 => ?_)
  · -- 2 T
    have hq : (0 : Int) = bI (¬ P) := (bI_f (fun h => h hc2)).symm
    refine j_iconst C dX9_isOutside_9 ?_
    refine j_iconst C dX9_isOutside_10 ?_
    refine j_iconst C dX9_isOutside_11 ?_
    rw [hq]
    refine j_cVI3 C (c_X9_isRefused (by exact hw) ⟨by omega, by omega⟩ ⟨by omega, by omega⟩) oX9_isRefused kX9_64 ⟨_, rfl, rfl⟩ at_243 ⟨by decide, by decide⟩ rfl (Nat.le_of_ble_eq_true rfl) ⟨by decide, by decide⟩ dX9_isOutside_12 ?_
    rintro _ _ hz12 ⟨rfl, rfl⟩
    refine j_zret C hrt dX9_isOutside_15 (by first | exact Or.inl rfl | exact Or.inr rfl | exact bI_01 _) ?_
    exact ⟨rfl, rfl⟩
  · -- 2 F
    have hq : (1 : Int) = bI (¬ P) := (bI_t hc2).symm
    refine j_iconst C dX9_isOutside_5 ?_
    refine j_goto C dX9_isOutside_6 ?_
    refine j_iconst C dX9_isOutside_10 ?_
    refine j_iconst C dX9_isOutside_11 ?_
    rw [hq]
    refine j_cVI3 C (c_X9_isRefused (by exact hw) ⟨by omega, by omega⟩ ⟨by omega, by omega⟩) oX9_isRefused kX9_64 ⟨_, rfl, rfl⟩ at_243 ⟨by decide, by decide⟩ rfl (Nat.le_of_ble_eq_true rfl) ⟨by decide, by decide⟩ dX9_isOutside_12 ?_
    rintro _ _ hz12 ⟨rfl, rfl⟩
    refine j_zret C hrt dX9_isOutside_15 (by first | exact Or.inl rfl | exact Or.inr rfl | exact bI_01 _) ?_
    exact ⟨rfl, rfl⟩
set_option maxRecDepth 100000 in
set_option maxHeartbeats 4000000 in
theorem c_X9_isMember {Γ : Ga} {l : Launch} {ω : Wo} (hw : WM ω.2.1)  {m : Int} (hm : Rg m) {M : Int} (hI : RI M (ω.1 244)) : CI Γ l yX9_isMember cX9_isMember 2 .boolean 1 [.ref (rl Γ 243), .int (iI m)] ω (fun z ω' => z = bI (0 ≤ m ∧ m ≤ (ω.1 244) 1 - 1) ∧ ω = ω') := by
  refine Met.ofJ (k := 0) [some (.ref (rl Γ 243)), some (.int (iI m))] (by decide) rfl rfl rfl (fun p e s mm args below meth c C hrt => ?_)
  have g := hI.s
  refine j_iload1 C dX9_isMember_0 ?_
  refine j_iconst C dX9_isMember_1 ?_
  refine j_aload0 C dX9_isMember_2 ?_
  refine j_getr C fX9_9 at_243 rfl hw.r0 dX9_isMember_3 ?_
  refine j_iconst C dX9_isMember_6 ?_
  refine j_ialdK C at_244 ⟨rfl, rfl⟩ (N := 111) rfl (by decide) (k := 1) rfl (by decide) dX9_isMember_7 (fun hr7 => ?_)
  refine j_iconst C dX9_isMember_8 ?_
  refine j_isub C dX9_isMember_9 ?_
  refine j_cSI3 C (c_X9_isIn ⟨by omega, by omega⟩ ⟨by omega, by omega⟩ ⟨by omega, by omega⟩) oX9_isIn kX9_60 ⟨by decide, by decide⟩ rfl (Nat.le_of_ble_eq_true rfl) ⟨by decide, by decide⟩ dX9_isMember_10 ?_
  rintro _ _ hz10 ⟨rfl, rfl⟩
  refine j_zret C hrt dX9_isMember_13 (by first | exact Or.inl rfl | exact Or.inr rfl | exact bI_01 _) ?_
  exact ⟨rfl, rfl⟩
set_option maxRecDepth 100000 in
set_option maxHeartbeats 4000000 in
theorem c_X9_isBoat {Γ : Ga} {l : Launch} {ω : Wo} (hw : WM ω.2.1)  {m : Int} (hm : Rg m) {M : Int} (hI : RI M (ω.1 244)) : CI Γ l yX9_isBoat cX9_isBoat 2 .boolean 1 [.ref (rl Γ 243), .int (iI m)] ω (fun z ω' => z = bI (0 ≤ m ∧ m ≤ (ω.1 244) 2 - 1) ∧ ω = ω') := by
  refine Met.ofJ (k := 0) [some (.ref (rl Γ 243)), some (.int (iI m))] (by decide) rfl rfl rfl (fun p e s mm args below meth c C hrt => ?_)
  have g := hI.s
  refine j_iload1 C dX9_isBoat_0 ?_
  refine j_iconst C dX9_isBoat_1 ?_
  refine j_aload0 C dX9_isBoat_2 ?_
  refine j_getr C fX9_9 at_243 rfl hw.r0 dX9_isBoat_3 ?_
  refine j_iconst C dX9_isBoat_6 ?_
  refine j_ialdK C at_244 ⟨rfl, rfl⟩ (N := 111) rfl (by decide) (k := 2) rfl (by decide) dX9_isBoat_7 (fun hr7 => ?_)
  refine j_iconst C dX9_isBoat_8 ?_
  refine j_isub C dX9_isBoat_9 ?_
  refine j_cSI3 C (c_X9_isIn ⟨by omega, by omega⟩ ⟨by omega, by omega⟩ ⟨by omega, by omega⟩) oX9_isIn kX9_60 ⟨by decide, by decide⟩ rfl (Nat.le_of_ble_eq_true rfl) ⟨by decide, by decide⟩ dX9_isBoat_10 ?_
  rintro _ _ hz10 ⟨rfl, rfl⟩
  refine j_zret C hrt dX9_isBoat_13 (by first | exact Or.inl rfl | exact Or.inr rfl | exact bI_01 _) ?_
  exact ⟨rfl, rfl⟩
set_option maxRecDepth 100000 in
set_option maxHeartbeats 4000000 in
theorem c_X9_isLoan {Γ : Ga} {l : Launch} {ω : Wo} (hw : WM ω.2.1)  {m : Int} (hm : Rg m) {M : Int} (hI : RI M (ω.1 244)) : CI Γ l yX9_isLoan cX9_isLoan 2 .boolean 1 [.ref (rl Γ 243), .int (iI m)] ω (fun z ω' => z = bI (0 ≤ m ∧ m ≤ (ω.1 244) 3 - 1) ∧ ω = ω') := by
  refine Met.ofJ (k := 0) [some (.ref (rl Γ 243)), some (.int (iI m))] (by decide) rfl rfl rfl (fun p e s mm args below meth c C hrt => ?_)
  have g := hI.s
  refine j_iload1 C dX9_isLoan_0 ?_
  refine j_iconst C dX9_isLoan_1 ?_
  refine j_aload0 C dX9_isLoan_2 ?_
  refine j_getr C fX9_9 at_243 rfl hw.r0 dX9_isLoan_3 ?_
  refine j_iconst C dX9_isLoan_6 ?_
  refine j_ialdK C at_244 ⟨rfl, rfl⟩ (N := 111) rfl (by decide) (k := 3) rfl (by decide) dX9_isLoan_7 (fun hr7 => ?_)
  refine j_iconst C dX9_isLoan_8 ?_
  refine j_isub C dX9_isLoan_9 ?_
  refine j_cSI3 C (c_X9_isIn ⟨by omega, by omega⟩ ⟨by omega, by omega⟩ ⟨by omega, by omega⟩) oX9_isIn kX9_60 ⟨by decide, by decide⟩ rfl (Nat.le_of_ble_eq_true rfl) ⟨by decide, by decide⟩ dX9_isLoan_10 ?_
  rintro _ _ hz10 ⟨rfl, rfl⟩
  refine j_zret C hrt dX9_isLoan_13 (by first | exact Or.inl rfl | exact Or.inr rfl | exact bI_01 _) ?_
  exact ⟨rfl, rfl⟩
set_option maxRecDepth 100000 in
set_option maxHeartbeats 4000000 in
theorem c_X9_heightAt {Γ : Ga} {l : Launch} {ω : Wo} (hw : WM ω.2.1)  {h : Int} (hh : 0 ≤ h ∧ h < 2147483648) : CI Γ l yX9_heightAt cX9_heightAt 3 .int 0 [.ref (rl Γ 243), .int (iI h)] ω (fun z ω' => z = hgt h ∧ ω = ω') := by
  refine Met.ofJ (k := 1) [some (.ref (rl Γ 243)), some (.int (iI h)), none] (by decide) rfl rfl rfl (fun p e s mm args below meth c C hrt => ?_)
  refine j_iload1 C dX9_heightAt_0 ?_
  refine j_bipush C (by decide) dX9_heightAt_1 ?_
  refine j_irem C ⟨by omega, by omega⟩ (by decide) dX9_heightAt_3 ?_
  refine j_istore2 C rfl dX9_heightAt_4 ?_
  refine j_iload2 C dX9_heightAt_5 ?_
  refine j_bipush C (by decide) dX9_heightAt_6 ?_
  refine j_icmp_gt C ⟨by omega, by omega⟩ ⟨by omega, by omega⟩ dX9_heightAt_8 (fun hc8 => ?_) (fun hc8 => ?_)
  · -- 8 T
    refine j_bipush C (by decide) dX9_heightAt_15 ?_
    refine j_iload2 C dX9_heightAt_17 ?_
    refine j_isub C dX9_heightAt_18 ?_
    refine j_iret C hrt dX9_heightAt_19 ⟨by omega, by omega⟩ ?_
    exact ⟨by unfold hgt; first | rw [if_pos (by omega)] | rw [if_neg (by omega)], rfl⟩
  · -- 8 F
    refine j_iload2 C dX9_heightAt_11 ?_
    refine j_goto C dX9_heightAt_12 ?_
    refine j_iret C hrt dX9_heightAt_19 ⟨by omega, by omega⟩ ?_
    exact ⟨by unfold hgt; first | rw [if_pos (by omega)] | rw [if_neg (by omega)], rfl⟩
set_option maxRecDepth 100000 in
set_option maxHeartbeats 4000000 in
theorem c_X9_isLow {Γ : Ga} {l : Launch} {ω : Wo} (hw : WM ω.2.1)  {b : Int} (hb : 0 ≤ b ∧ b < 3) {M : Int} (hI : RI M (ω.1 244)) : CI Γ l yX9_isLow cX9_isLow 2 .boolean 1 [.ref (rl Γ 243), .int (iI b)] ω (fun z ω' => z = bI (hgt ((ω.1 244) 0) < sB (ω.1 244) b 0) ∧ ω = ω') := by
  refine Met.ofJ (k := 0) [some (.ref (rl Γ 243)), some (.int (iI b))] (by decide) rfl rfl rfl (fun p e s mm args below meth c C hrt => ?_)
  have g := hI.s
  have gb := hI.b b hb
  have gM := hI.2.1
  have gh := hgt_rg ((ω.1 244) 0)
  refine j_aload0 C dX9_isLow_0 ?_
  refine j_aload0 C dX9_isLow_1 ?_
  refine j_getr C fX9_9 at_243 rfl hw.r0 dX9_isLow_2 ?_
  refine j_iconst C dX9_isLow_5 ?_
  refine j_ialdK C at_244 ⟨rfl, rfl⟩ (N := 111) rfl (by decide) (k := 0) rfl (by decide) dX9_isLow_6 (fun hr6 => ?_)
  refine j_cVI1 C (c_X9_heightAt (by exact hw) (by omega)) oX9_heightAt kX9_68 ⟨_, rfl, rfl⟩ at_243 ⟨by decide, by decide⟩ rfl (Nat.le_of_ble_eq_true rfl) ⟨by decide, by decide⟩ dX9_isLow_7 ?_
  rintro _ _ hz7 ⟨rfl, rfl⟩
  refine j_aload0 C dX9_isLow_10 ?_
  refine j_iload1 C dX9_isLow_11 ?_
  refine j_iconst C dX9_isLow_12 ?_
  refine j_cVI2 C (c_X9_ofBoat (by exact hw) (by omega) (by omega)) oX9_ofBoat kX9_72 ⟨_, rfl, rfl⟩ at_243 ⟨by decide, by decide⟩ rfl (Nat.le_of_ble_eq_true rfl) ⟨by decide, by decide⟩ dX9_isLow_13 ?_
  rintro _ _ hz13 ⟨rfl, rfl⟩
  refine j_icmp_ge C ⟨by omega, by omega⟩ ⟨by omega, by omega⟩ dX9_isLow_16 (fun hc16 => ?_) (fun hc16 => ?_)
  · -- 16 T
    refine j_iconst C dX9_isLow_23 ?_
    refine j_zret C hrt dX9_isLow_24 (by first | exact Or.inl rfl | exact Or.inr rfl | exact bI_01 _) ?_
    refine ⟨?_, rfl⟩
    first | exact (bI_t (by omega)).symm | exact (bI_f (by omega)).symm
  · -- 16 F
    refine j_iconst C dX9_isLow_19 ?_
    refine j_goto C dX9_isLow_20 ?_
    refine j_zret C hrt dX9_isLow_24 (by first | exact Or.inl rfl | exact Or.inr rfl | exact bI_01 _) ?_
    refine ⟨?_, rfl⟩
    first | exact (bI_t (by omega)).symm | exact (bI_f (by omega)).symm
set_option maxRecDepth 100000 in
set_option maxHeartbeats 4000000 in
theorem c_X9_allOars {Γ : Ga} {l : Launch} {ω : Wo} (hw : WM ω.2.1)  {M : Int} (hI : RI M (ω.1 244)) : CI Γ l yX9_allOars cX9_allOars 3 .int 1 [.ref (rl Γ 243)] ω (fun z ω' => z = allO (ω.1 244) ∧ ω = ω') := by
  refine Met.ofJ (k := 2) [some (.ref (rl Γ 243)), none, none] (by decide) rfl rfl rfl (fun p e s mm args below meth c C hrt => ?_)
  have g := hI.s
  have gc := hI.c
  refine j_bipush C (by decide) dX9_allOars_0 ?_
  refine j_istore1 C rfl dX9_allOars_2 ?_
  refine j_iconst C dX9_allOars_3 ?_
  refine j_istore2 C rfl dX9_allOars_4 ?_
  have loop5 : ∀ (N : Nat) (k : Nat), (cL (ω.1 244) - k) < N → (k ≤ cL (ω.1 244)) → J Γ p l e (rmk 1 0 0) s mm args below meth c (MQ below (QI Γ (fun z ω' => z = allO (ω.1 244) ∧ ω = ω')) args s 0 0 (gA Γ)) 254 0 0 5 [some (.ref (rl Γ 243)), some (.int (iI (oarsUp (ω.1 244) k))), some (.int (iI ((k : Nat) : Int)))] [] ω := by
    intro N
    induction N with
    | zero => intro k hN; exact absurd hN (Nat.not_lt_zero _)
    | succ N ih5 =>
      intro k hN hi0
      have gl := hI.l k
      have go := oarsUp_rg hI k (by omega)
      have go2 : k < cL (ω.1 244) → 6 ≤ oarsUp (ω.1 244) (k+1) ∧ oarsUp (ω.1 244) (k+1) ≤ 6 + 9 * ↑(k+1) := fun h => oarsUp_rg hI (k+1) (by omega)
      refine j_iload2 C dX9_allOars_5 ?_
      refine j_aload0 C dX9_allOars_6 ?_
      refine j_getr C fX9_9 at_243 rfl hw.r0 dX9_allOars_7 ?_
      refine j_iconst C dX9_allOars_10 ?_
      refine j_ialdK C at_244 ⟨rfl, rfl⟩ (N := 111) rfl (by decide) (k := 3) rfl (by decide) dX9_allOars_11 (fun hr11 => ?_)
      refine j_icmp_ge C ⟨by omega, by omega⟩ ⟨by omega, by omega⟩ dX9_allOars_12 (fun hc12 => ?_) (fun hc12 => ?_)
      · -- 12 T
        refine j_iload1 C dX9_allOars_30 ?_
        refine j_iret C hrt dX9_allOars_31 ⟨by omega, by omega⟩ ?_
        have : k = cL (ω.1 244) := by omega
        subst this
        exact ⟨rfl, rfl⟩
      · -- 12 F
        refine j_iload1 C dX9_allOars_15 ?_
        refine j_aload0 C dX9_allOars_16 ?_
        refine j_iload2 C dX9_allOars_17 ?_
        refine j_iconst C dX9_allOars_18 ?_
        refine j_cVI2 C (c_X9_ofLoan (by exact hw) (by omega) (by omega)) oX9_ofLoan kX9_76 ⟨_, rfl, rfl⟩ at_243 ⟨by decide, by decide⟩ rfl (Nat.le_of_ble_eq_true rfl) ⟨by decide, by decide⟩ dX9_allOars_19 ?_
        rintro _ _ hz19 ⟨rfl, rfl⟩
        refine j_iadd C dX9_allOars_22 ?_
        refine j_istore1 C rfl dX9_allOars_23 ?_
        refine j_iinc2n C rfl dX9_allOars_24 ?_
        refine j_goto C dX9_allOars_27 ?_
        exact ih5 (k + 1) (by omega) (by omega)
  exact loop5 _ 0 (Nat.lt_succ_self _) (Nat.zero_le _)
set_option maxRecDepth 100000 in
set_option maxHeartbeats 4000000 in
theorem c_X9_oarsOut {Γ : Ga} {l : Launch} {ω : Wo} (hw : WM ω.2.1)  {M : Int} (hI : RI M (ω.1 244)) : CI Γ l yX9_oarsOut cX9_oarsOut 3 .int 1 [.ref (rl Γ 243)] ω (fun z ω' => z = outO (ω.1 244) ∧ ω = ω') := by
  refine Met.ofJ (k := 2) [some (.ref (rl Γ 243)), none, none] (by decide) rfl rfl rfl (fun p e s mm args below meth c C hrt => ?_)
  have g := hI.s
  have gc := hI.c
  refine j_iconst C dX9_oarsOut_0 ?_
  refine j_istore1 C rfl dX9_oarsOut_1 ?_
  refine j_iconst C dX9_oarsOut_2 ?_
  refine j_istore2 C rfl dX9_oarsOut_3 ?_
  have loop4 : ∀ (N : Nat) (k : Nat), (cB (ω.1 244) - k) < N → (k ≤ cB (ω.1 244)) → J Γ p l e (rmk 1 0 0) s mm args below meth c (MQ below (QI Γ (fun z ω' => z = outO (ω.1 244) ∧ ω = ω')) args s 0 0 (gA Γ)) 254 0 0 4 [some (.ref (rl Γ 243)), some (.int (iI (outUp (ω.1 244) k))), some (.int (iI ((k : Nat) : Int)))] [] ω := by
    intro N
    induction N with
    | zero => intro k hN; exact absurd hN (Nat.not_lt_zero _)
    | succ N ih4 =>
      intro k hN hi0
      have gl := hI.b k
      have go := outUp_rg hI k (by omega)
      refine j_iload2 C dX9_oarsOut_4 ?_
      refine j_aload0 C dX9_oarsOut_5 ?_
      refine j_getr C fX9_9 at_243 rfl hw.r0 dX9_oarsOut_6 ?_
      refine j_iconst C dX9_oarsOut_9 ?_
      refine j_ialdK C at_244 ⟨rfl, rfl⟩ (N := 111) rfl (by decide) (k := 2) rfl (by decide) dX9_oarsOut_10 (fun hr10 => ?_)
      refine j_icmp_ge C ⟨by omega, by omega⟩ ⟨by omega, by omega⟩ dX9_oarsOut_11 (fun hc11 => ?_) (fun hc11 => ?_)
      · -- 11 T
        refine j_iload1 C dX9_oarsOut_45 ?_
        refine j_iret C hrt dX9_oarsOut_46 ⟨by omega, by omega⟩ ?_
        have : k = cB (ω.1 244) := by omega
        subst this
        exact ⟨rfl, rfl⟩
      · -- 11 F
        refine j_iload1 C dX9_oarsOut_14 ?_
        refine j_aload0 C dX9_oarsOut_15 ?_
        refine j_iload2 C dX9_oarsOut_16 ?_
        refine j_iconst C dX9_oarsOut_17 ?_
        refine j_cVI2 C (c_X9_ofBoat (by exact hw) (by omega) (by omega)) oX9_ofBoat kX9_72 ⟨_, rfl, rfl⟩ at_243 ⟨by decide, by decide⟩ rfl (Nat.le_of_ble_eq_true rfl) ⟨by decide, by decide⟩ dX9_oarsOut_18 ?_
        rintro _ _ hz18 ⟨rfl, rfl⟩
        refine j_iconst C dX9_oarsOut_21 ?_
        refine j_icmp_ne C ⟨by omega, by omega⟩ ⟨by omega, by omega⟩ dX9_oarsOut_22 (fun hc22 => ?_) (fun hc22 => ?_)
        · -- 22 T
          refine j_iconst C dX9_oarsOut_36 ?_
          refine j_iadd C dX9_oarsOut_37 ?_
          refine j_istore1 C rfl dX9_oarsOut_38 ?_
          refine j_iinc2n C rfl dX9_oarsOut_39 ?_
          refine j_goto C dX9_oarsOut_42 ?_
          refine j_conv (by simp only [outUp]; first | rw [if_pos (by assumption)] | rw [if_neg (by assumption)]) rfl rfl (ih4 (k + 1) (by omega) (by omega))
        · -- 22 F
          refine j_aload0 C dX9_oarsOut_25 ?_
          refine j_iload2 C dX9_oarsOut_26 ?_
          refine j_iconst C dX9_oarsOut_27 ?_
          refine j_cVI2 C (c_X9_ofBoat (by exact hw) (by omega) (by omega)) oX9_ofBoat kX9_72 ⟨_, rfl, rfl⟩ at_243 ⟨by decide, by decide⟩ rfl (Nat.le_of_ble_eq_true rfl) ⟨by decide, by decide⟩ dX9_oarsOut_28 ?_
          rintro _ _ hz28 ⟨rfl, rfl⟩
          refine j_iconst C dX9_oarsOut_31 ?_
          refine j_isub C dX9_oarsOut_32 ?_
          refine j_goto C dX9_oarsOut_33 ?_
          refine j_iadd C dX9_oarsOut_37 ?_
          refine j_istore1 C rfl dX9_oarsOut_38 ?_
          refine j_iinc2n C rfl dX9_oarsOut_39 ?_
          refine j_goto C dX9_oarsOut_42 ?_
          refine j_conv (by simp only [outUp]; first | rw [if_pos (by assumption)] | rw [if_neg (by assumption)]) rfl rfl (ih4 (k + 1) (by omega) (by omega))
  exact loop4 _ 0 (Nat.lt_succ_self _) (Nat.zero_le _)
set_option maxRecDepth 100000 in
set_option maxHeartbeats 4000000 in
theorem c_X9_freeOars {Γ : Ga} {l : Launch} {ω : Wo} (hw : WM ω.2.1)  {M : Int} (hI : RI M (ω.1 244)) : CI Γ l yX9_freeOars cX9_freeOars 1 .int 2 [.ref (rl Γ 243)] ω (fun z ω' => z = freeO (ω.1 244) ∧ ω = ω') := by
  refine Met.ofJ (k := 0) [some (.ref (rl Γ 243))] (by decide) rfl rfl rfl (fun p e s mm args below meth c C hrt => ?_)
  have gc := hI.c
  have g1 := oarsUp_rg hI (cL (ω.1 244)) gc.2.2.2
  have g2 := outUp_rg hI (cB (ω.1 244)) gc.2.1.2
  refine j_aload0 C dX9_freeOars_0 ?_
  refine j_cVI0 C (c_X9_allOars (by exact hw) hI) oX9_allOars kX9_79 ⟨_, rfl, rfl⟩ at_243 ⟨by decide, by decide⟩ rfl (Nat.le_of_ble_eq_true rfl) ⟨by decide, by decide⟩ dX9_freeOars_1 ?_
  rintro _ _ hz1 ⟨rfl, rfl⟩
  refine j_aload0 C dX9_freeOars_4 ?_
  refine j_cVI0 C (c_X9_oarsOut (by exact hw) hI) oX9_oarsOut kX9_83 ⟨_, rfl, rfl⟩ at_243 ⟨by decide, by decide⟩ rfl (Nat.le_of_ble_eq_true rfl) ⟨by decide, by decide⟩ dX9_freeOars_5 ?_
  rintro _ _ hz5 ⟨rfl, rfl⟩
  refine j_isub C dX9_freeOars_8 ?_
  refine j_iret C hrt dX9_freeOars_9 ⟨by unfold allO outO; omega, by unfold allO outO; omega⟩ ?_
  exact ⟨rfl, rfl⟩
set_option maxRecDepth 100000 in
set_option maxHeartbeats 4000000 in
theorem c_X9_remaining {Γ : Ga} {l : Launch} {ω : Wo} (hw : WM ω.2.1)  {M : Int} (hI : RI M (ω.1 244)) : CI Γ l yX9_remaining cX9_remaining 3 .int 1 [.ref (rl Γ 243)] ω (fun z ω' => z = stayN (ω.1 244) ∧ ω = ω') := by
  refine Met.ofJ (k := 2) [some (.ref (rl Γ 243)), none, none] (by decide) rfl rfl rfl (fun p e s mm args below meth c C hrt => ?_)
  have g := hI.s
  have gc := hI.c
  refine j_iconst C dX9_remaining_0 ?_
  refine j_istore1 C rfl dX9_remaining_1 ?_
  refine j_iconst C dX9_remaining_2 ?_
  refine j_istore2 C rfl dX9_remaining_3 ?_
  have loop4 : ∀ (N : Nat) (k : Nat), (cM (ω.1 244) - k) < N → (k ≤ cM (ω.1 244)) → J Γ p l e (rmk 1 0 0) s mm args below meth c (MQ below (QI Γ (fun z ω' => z = stayN (ω.1 244) ∧ ω = ω')) args s 0 0 (gA Γ)) 254 0 0 4 [some (.ref (rl Γ 243)), some (.int (iI (stayUp (ω.1 244) k))), some (.int (iI ((k : Nat) : Int)))] [] ω := by
    intro N
    induction N with
    | zero => intro k hN; exact absurd hN (Nat.not_lt_zero _)
    | succ N ih4 =>
      intro k hN hi0
      have gl := hI.m k
      have go := stayUp_rg (ω.1 244) k
      refine j_iload2 C dX9_remaining_4 ?_
      refine j_aload0 C dX9_remaining_5 ?_
      refine j_getr C fX9_9 at_243 rfl hw.r0 dX9_remaining_6 ?_
      refine j_iconst C dX9_remaining_9 ?_
      refine j_ialdK C at_244 ⟨rfl, rfl⟩ (N := 111) rfl (by decide) (k := 1) rfl (by decide) dX9_remaining_10 (fun hr10 => ?_)
      refine j_icmp_ge C ⟨by omega, by omega⟩ ⟨by omega, by omega⟩ dX9_remaining_11 (fun hc11 => ?_) (fun hc11 => ?_)
      · -- 11 T
        refine j_iload1 C dX9_remaining_38 ?_
        refine j_iret C hrt dX9_remaining_39 ⟨by omega, by omega⟩ ?_
        have : k = cM (ω.1 244) := by omega
        subst this
        exact ⟨rfl, rfl⟩
      · -- 11 F
        refine j_iload1 C dX9_remaining_14 ?_
        refine j_aload0 C dX9_remaining_15 ?_
        refine j_iload2 C dX9_remaining_16 ?_
        refine j_iconst C dX9_remaining_17 ?_
        refine j_cVI2 C (c_X9_of (by exact hw) (by omega) (by omega)) oX9_of kX9_103 ⟨_, rfl, rfl⟩ at_243 ⟨by decide, by decide⟩ rfl (Nat.le_of_ble_eq_true rfl) ⟨by decide, by decide⟩ dX9_remaining_18 ?_
        rintro _ _ hz18 ⟨rfl, rfl⟩
        refine j_iconst C dX9_remaining_21 ?_
        refine j_icmp_ne C ⟨by omega, by omega⟩ ⟨by omega, by omega⟩ dX9_remaining_22 (fun hc22 => ?_) (fun hc22 => ?_)
        · -- 22 T
          refine j_iconst C dX9_remaining_29 ?_
          refine j_iadd C dX9_remaining_30 ?_
          refine j_istore1 C rfl dX9_remaining_31 ?_
          refine j_iinc2n C rfl dX9_remaining_32 ?_
          refine j_goto C dX9_remaining_35 ?_
          refine j_conv (by simp only [stayUp]; first | rw [if_pos (by assumption)] | rw [if_neg (by assumption)]) rfl rfl (ih4 (k + 1) (by omega) (by omega))
        · -- 22 F
          refine j_iconst C dX9_remaining_25 ?_
          refine j_goto C dX9_remaining_26 ?_
          refine j_iadd C dX9_remaining_30 ?_
          refine j_istore1 C rfl dX9_remaining_31 ?_
          refine j_iinc2n C rfl dX9_remaining_32 ?_
          refine j_goto C dX9_remaining_35 ?_
          refine j_conv (by simp only [stayUp]; first | rw [if_pos (by assumption)] | rw [if_neg (by assumption)]) rfl rfl (ih4 (k + 1) (by omega) (by omega))
  exact loop4 _ 0 (Nat.lt_succ_self _) (Nat.zero_le _)
set_option maxRecDepth 100000 in
set_option maxHeartbeats 4000000 in
theorem c_X9_isAble {Γ : Ga} {l : Launch} {ω : Wo} (hw : WM ω.2.1)  {m : Int} (hm : 0 ≤ m ∧ m < 10) {M : Int} (hI : RI M (ω.1 244)) : CI Γ l yX9_isAble cX9_isAble 2 .boolean 1 [.ref (rl Γ 243), .int (iI m)] ω (fun z ω' => z = bI (sM (ω.1 244) m 1 = 0 ∧ sM (ω.1 244) m 2 < (ω.1 244) 7) ∧ ω = ω') := by
  refine Met.ofJ (k := 0) [some (.ref (rl Γ 243)), some (.int (iI m))] (by decide) rfl rfl rfl (fun p e s mm args below meth c C hrt => ?_)
  have g := hI.s
  have gm := hI.m m hm
  have gM := hI.2.1
  refine j_aload0 C dX9_isAble_0 ?_
  refine j_iload1 C dX9_isAble_1 ?_
  refine j_iconst C dX9_isAble_2 ?_
  refine j_cVI2 C (c_X9_of (by exact hw) (by omega) (by omega)) oX9_of kX9_103 ⟨_, rfl, rfl⟩ at_243 ⟨by decide, by decide⟩ rfl (Nat.le_of_ble_eq_true rfl) ⟨by decide, by decide⟩ dX9_isAble_3 ?_
  rintro _ _ hz3 ⟨rfl, rfl⟩
  refine j_if_ne C ⟨by omega, by omega⟩ dX9_isAble_6 (fun hc6 => ?_) (fun hc6 => ?_)
  · -- 6 T
    refine j_iconst C dX9_isAble_29 ?_
    refine j_zret C hrt dX9_isAble_30 (by first | exact Or.inl rfl | exact Or.inr rfl | exact bI_01 _) ?_
    refine ⟨?_, rfl⟩
    first | exact (bI_t ⟨by omega, by omega⟩).symm | exact (bI_f (by omega)).symm
  · -- 6 F
    refine j_aload0 C dX9_isAble_9 ?_
    refine j_iload1 C dX9_isAble_10 ?_
    refine j_iconst C dX9_isAble_11 ?_
    refine j_cVI2 C (c_X9_of (by exact hw) (by omega) (by omega)) oX9_of kX9_103 ⟨_, rfl, rfl⟩ at_243 ⟨by decide, by decide⟩ rfl (Nat.le_of_ble_eq_true rfl) ⟨by decide, by decide⟩ dX9_isAble_12 ?_
    rintro _ _ hz12 ⟨rfl, rfl⟩
    refine j_aload0 C dX9_isAble_15 ?_
    refine j_getr C fX9_9 at_243 rfl hw.r0 dX9_isAble_16 ?_
    refine j_bipush C (by decide) dX9_isAble_19 ?_
    refine j_ialdK C at_244 ⟨rfl, rfl⟩ (N := 111) rfl (by decide) (k := 7) rfl (by decide) dX9_isAble_21 (fun hr21 => ?_)
    refine j_icmp_ge C ⟨by omega, by omega⟩ ⟨by omega, by omega⟩ dX9_isAble_22 (fun hc22 => ?_) (fun hc22 => ?_)
    · -- 22 T
      refine j_iconst C dX9_isAble_29 ?_
      refine j_zret C hrt dX9_isAble_30 (by first | exact Or.inl rfl | exact Or.inr rfl | exact bI_01 _) ?_
      refine ⟨?_, rfl⟩
      first | exact (bI_t ⟨by omega, by omega⟩).symm | exact (bI_f (by omega)).symm
    · -- 22 F
      refine j_iconst C dX9_isAble_25 ?_
      refine j_goto C dX9_isAble_26 ?_
      refine j_zret C hrt dX9_isAble_30 (by first | exact Or.inl rfl | exact Or.inr rfl | exact bI_01 _) ?_
      refine ⟨?_, rfl⟩
      first | exact (bI_t ⟨by omega, by omega⟩).symm | exact (bI_f (by omega)).symm
set_option maxRecDepth 100000 in
set_option maxHeartbeats 4000000 in
theorem c_X9_ableSet {Γ : Ga} {l : Launch} {ω : Wo} (hw : WM ω.2.1)  {M : Int} (hI : RI M (ω.1 244)) : CI Γ l yX9_ableSet cX9_ableSet 3 .int 2 [.ref (rl Γ 243)] ω (fun z ω' => z = (ableS (ω.1 244) : Int) ∧ ω = ω') := by
  refine Met.ofJ (k := 2) [some (.ref (rl Γ 243)), none, none] (by decide) rfl rfl rfl (fun p e s mm args below meth c C hrt => ?_)
  have g := hI.s
  have gc := hI.c
  refine j_iconst C dX9_ableSet_0 ?_
  refine j_istore1 C rfl dX9_ableSet_1 ?_
  refine j_iconst C dX9_ableSet_2 ?_
  refine j_istore2 C rfl dX9_ableSet_3 ?_
  have loop4 : ∀ (N : Nat) (k : Nat), (cM (ω.1 244) - k) < N → (k ≤ cM (ω.1 244)) → J Γ p l e (rmk 2 0 0) s mm args below meth c (MQ below (QI Γ (fun z ω' => z = (ableS (ω.1 244) : Int) ∧ ω = ω')) args s 0 0 (gA Γ)) 254 0 0 4 [some (.ref (rl Γ 243)), some (.int (iI ((ableUp (ω.1 244) k : Nat) : Int))), some (.int (iI ((k : Nat) : Int)))] [] ω := by
    intro N
    induction N with
    | zero => intro k hN; exact absurd hN (Nat.not_lt_zero _)
    | succ N ih4 =>
      intro k hN hi0
      have gl := hI.m k
      have go := ableUp_lt (ω.1 244) k
      refine j_iload2 C dX9_ableSet_4 ?_
      refine j_aload0 C dX9_ableSet_5 ?_
      refine j_getr C fX9_9 at_243 rfl hw.r0 dX9_ableSet_6 ?_
      refine j_iconst C dX9_ableSet_9 ?_
      refine j_ialdK C at_244 ⟨rfl, rfl⟩ (N := 111) rfl (by decide) (k := 1) rfl (by decide) dX9_ableSet_10 (fun hr10 => ?_)
      refine j_icmp_ge C ⟨by omega, by omega⟩ ⟨by omega, by omega⟩ dX9_ableSet_11 (fun hc11 => ?_) (fun hc11 => ?_)
      · -- 11 T
        refine j_iload1 C dX9_ableSet_38 ?_
        have ha := ableS_lt hI
        have hk2 : k = cM (ω.1 244) := by omega
        have ha2 : ableUp (ω.1 244) k < 1024 := by rw [hk2]; exact ha
        refine j_iret C hrt dX9_ableSet_39 ⟨by omega, by omega⟩ ?_
        have : k = cM (ω.1 244) := by omega
        subst this
        exact ⟨rfl, rfl⟩
      · -- 11 F
        refine j_iload1 C dX9_ableSet_14 ?_
        refine j_aload0 C dX9_ableSet_15 ?_
        refine j_iload2 C dX9_ableSet_16 ?_
        refine j_cVI1 C (c_X9_isAble (by exact hw) (by omega) (by exact hI)) oX9_isAble kX9_122 ⟨_, rfl, rfl⟩ at_243 ⟨by decide, by decide⟩ rfl (Nat.le_of_ble_eq_true rfl) ⟨by decide, by decide⟩ dX9_ableSet_17 ?_
        rintro _ _ hz17 ⟨rfl, rfl⟩
        refine j_ifeqb C dX9_ableSet_20 (fun hc20 => ?_) (fun hc20 => ?_)
        · -- 20 T
          refine j_iconstN C (k := 1) rfl dX9_ableSet_23 ?_
          refine j_iload2 C dX9_ableSet_24 ?_
          refine j_ishl1 C (by omega) dX9_ableSet_25 ?_
          refine j_goto C dX9_ableSet_26 ?_
          refine j_ior C dX9_ableSet_30 ?_
          refine j_istore1 C rfl dX9_ableSet_31 ?_
          refine j_iinc2n C rfl dX9_ableSet_32 ?_
          refine j_goto C dX9_ableSet_35 ?_
          refine j_conv (by simp only [ableUp, mul1p]; first | rw [if_pos (by assumption)] | rw [if_neg (by assumption)]) rfl rfl (ih4 (k + 1) (by omega) (by omega))
        · -- 20 F
          refine j_iconstN C (k := 0) rfl dX9_ableSet_29 ?_
          refine j_ior C dX9_ableSet_30 ?_
          refine j_istore1 C rfl dX9_ableSet_31 ?_
          refine j_iinc2n C rfl dX9_ableSet_32 ?_
          refine j_goto C dX9_ableSet_35 ?_
          refine j_conv (by simp only [ableUp, mul1p]; first | rw [if_pos (by assumption)] | rw [if_neg (by assumption)]) rfl rfl (ih4 (k + 1) (by omega) (by omega))
  exact loop4 _ 0 (Nat.lt_succ_self _) (Nat.zero_le _)
set_option maxRecDepth 100000 in
set_option maxHeartbeats 4000000 in
theorem c_X9_bits {Γ : Ga} {l : Launch} {ω : Wo}  {x : Nat} (hx : x < 2147483648) : CI Γ l yX9_bits cX9_bits 3 .int 0 [.int (iI ((x : Int)))] ω (fun z ω' => z = (bitsN x : Int) ∧ ω = ω') := by
  refine Met.ofJ (k := 2) [some (.int (iI ((x : Int)))), none, none] (by decide) rfl rfl rfl (fun p e s mm args below meth c C hrt => ?_)
  refine j_iconst C dX9_bits_0 ?_
  refine j_istore1 C rfl dX9_bits_1 ?_
  refine j_iconst C dX9_bits_2 ?_
  refine j_istore2 C rfl dX9_bits_3 ?_
  have loop4 : ∀ (N : Nat) (k : Nat), (10 - k) < N → (k ≤ 10) → J Γ p l e (rmk 0 0 0) s mm args below meth c (MQ below (QI Γ (fun z ω' => z = (bitsN x : Int) ∧ ω = ω')) args s 0 0 (gA Γ)) 254 0 0 4 [some (.int (iI ((x : Nat) : Int))), some (.int (iI ((bitsUp x k : Nat) : Int))), some (.int (iI ((k : Nat) : Int)))] [] ω := by
    intro N
    induction N with
    | zero => intro k hN; exact absurd hN (Nat.not_lt_zero _)
    | succ N ih4 =>
      intro k hN hi0
      have go := bitsUp_rg x k
      refine j_iload2 C dX9_bits_4 ?_
      refine j_bipush C (by decide) dX9_bits_5 ?_
      refine j_icmp_ge C ⟨by omega, by omega⟩ ⟨by omega, by omega⟩ dX9_bits_7 (fun hc7 => ?_) (fun hc7 => ?_)
      · -- 7 T
        refine j_iload1 C dX9_bits_24 ?_
        refine j_iret C hrt dX9_bits_25 ⟨by omega, by omega⟩ ?_
        have : k = 10 := by omega
        subst this
        exact ⟨rfl, rfl⟩
      · -- 7 F
        refine j_iload1 C dX9_bits_10 ?_
        refine j_iload0 C dX9_bits_11 ?_
        refine j_iload2 C dX9_bits_12 ?_
        refine j_ishr C (by omega) (by omega) dX9_bits_13 ?_
        refine j_iconstN C (k := 1) rfl dX9_bits_14 ?_
        refine j_iand1 C dX9_bits_15 ?_
        refine j_iadd C dX9_bits_16 ?_
        refine j_istore1 C rfl dX9_bits_17 ?_
        refine j_iinc2n C rfl dX9_bits_18 ?_
        refine j_goto C dX9_bits_21 ?_
        refine j_conv (by simp only [bitsUp]; rfl) rfl rfl (ih4 (k + 1) (by omega) (by omega))
  exact loop4 _ 0 (Nat.lt_succ_self _) (Nat.zero_le _)
set_option maxRecDepth 100000 in
set_option maxHeartbeats 4000000 in
theorem c_X9_must {Γ : Ga} {l : Launch} {ω : Wo} (hw : WM ω.2.1)  {b : Int} (hb : 0 ≤ b ∧ b < 3) (hs : 1 ≤ sB (ω.1 244) b 1) {M : Int} (hI : RI M (ω.1 244)) : CI Γ l yX9_must cX9_must 2 .int 1 [.ref (rl Γ 243), .int (iI b)] ω (fun z ω' => z = mustO (ω.1 244) b ∧ ω = ω') := by
  refine Met.ofJ (k := 0) [some (.ref (rl Γ 243)), some (.int (iI b))] (by decide) rfl rfl rfl (fun p e s mm args below meth c C hrt => ?_)
  have gb := hI.b b hb
  refine j_aload0 C dX9_must_0 ?_
  refine j_iload1 C dX9_must_1 ?_
  refine j_iconst C dX9_must_2 ?_
  refine j_cVI2 C (c_X9_ofBoat (by exact hw) (by omega) (by omega)) oX9_ofBoat kX9_72 ⟨_, rfl, rfl⟩ at_243 ⟨by decide, by decide⟩ rfl (Nat.le_of_ble_eq_true rfl) ⟨by decide, by decide⟩ dX9_must_3 ?_
  rintro _ _ hz3 ⟨rfl, rfl⟩
  refine j_iconst C dX9_must_6 ?_
  refine j_isub C dX9_must_7 ?_
  refine j_iconst C dX9_must_8 ?_
  refine j_idiv C ⟨by omega, by omega⟩ (by decide) dX9_must_9 ?_
  refine j_iret C hrt dX9_must_10 ⟨by omega, by omega⟩ ?_
  exact ⟨rfl, rfl⟩
