set_option maxRecDepth 100000 in
set_option maxHeartbeats 4000000 in
theorem c_X8_wouldRefuse {Γ : Ga} {l : Launch} {ω : Wo} (hsl : l.stackTraces = false) (hR : CR ω) {σ : Row} (hS : St ω 1 σ) {M : Int} (hI : RI M σ) (hWI : WI σ)  {a : Int} (ha : Rg a) : XI Γ l yX8_wouldRefuse cX8_wouldRefuse 2 .int 7 1 [.ref (rl Γ 0), .int (iI a)] ω (fun z ω' => z = (qRefuse σ a).2 ∧ (qRefuse σ a).1 = 0 ∧ (∃ v w, ω' = RF ω 67 v w)) (fun E ω' => ω = ω' ∧ E = eIdx ∧ (qRefuse σ a).1 = 1) := by
  refine MetX.ofJ (k := 0) [some (.ref (rl Γ 0)), some (.int (iI a))] (by decide) rfl rfl rfl (fun p e s mm args below meth c C hK2 hxt hrt => ?_)
  have hB := bs1
  have g := hI.s
  have gc := hI.c
  have gM := hI.2.1
  refine j_aload0 C dX8_wouldRefuse_0 ?_
  refine j_iload1 C dX8_wouldRefuse_1 ?_
  refine j_xVV1 C hK2 hxt (c_X8_requireBoat hsl (by exact hR) (by exact hS) (by exact hI) (by exact hWI) ⟨by omega, by omega⟩) oX8_requireBoat kX8_157 ⟨_, rfl, rfl⟩ at_0 ⟨by decide, by decide⟩ rfl (Nat.le_of_ble_eq_true rfl) ⟨by decide, by decide⟩ ⟨by decide, by decide⟩ dX8_wouldRefuse_2 (by rintro E ω1 ⟨rfl, rfl, hE⟩; exact ⟨rfl, rfl, (by unfold qRefuse; rw [if_pos hE])⟩) ?_
  rintro _ ⟨hc2, rfl⟩
  have gyn := whyN_nn σ a
  refine j_aload0 C dX8_wouldRefuse_5 ?_
  refine j_getr C fX8_12 at_0 rfl hR.1 dX8_wouldRefuse_6 ?_
  refine j_iload1 C dX8_wouldRefuse_9 ?_
  refine j_iconst C dX8_wouldRefuse_10 ?_
  refine j_aload0 C dX8_wouldRefuse_11 ?_
  refine j_getr C fX8_44 at_0 rfl hR.2.2.2.2.2.2.1 dX8_wouldRefuse_12 ?_
  refine j_cVV3 C (c_X7_judgeCall hB (by exact hS) (by exact hI) (by exact hWI) ⟨by omega, by omega⟩ ⟨by omega, by omega⟩) oX7_judgeCall kX8_205 ⟨_, rfl, rfl⟩ (at_st bs1) ⟨by decide, by decide⟩ rfl (Nat.le_of_ble_eq_true rfl) ⟨by decide, by decide⟩ dX8_wouldRefuse_15 ?_
  rintro _ rfl
  refine j_aload0 C dX8_wouldRefuse_18 ?_
  refine j_getr C fX8_44 at_0 rfl hR.2.2.2.2.2.2.1 dX8_wouldRefuse_19 ?_
  refine j_geti C fX8_209 at_67 rfl (RF_0 _ _ _ _) dX8_wouldRefuse_22 (fun hr22 => ?_)
  refine j_xr (by decide) ?_
  refine j_iret C hrt dX8_wouldRefuse_25 ⟨by omega, by omega⟩ ?_
  have e9 := jd4_why hc2
  refine ⟨?_, ?_, _, _, rfl⟩ <;> (unfold qRefuse; rw [if_neg (by omega)])
  exact e9

set_option maxRecDepth 100000 in
set_option maxHeartbeats 4000000 in
theorem c_X8_least {Γ : Ga} {l : Launch} {ω : Wo} (hsl : l.stackTraces = false) (hR : CR ω) {σ : Row} (hS : St ω 1 σ) {M : Int} (hI : RI M σ) (hWI : WI σ)  {a : Int} (ha : Rg a) : XI Γ l yX8_least cX8_least 3 .int 6 1 [.ref (rl Γ 0), .int (iI a)] ω (fun z ω' => z = (qLeast σ a).2 ∧ (qLeast σ a).1 = 0 ∧ ω = ω') (fun E ω' => ω = ω' ∧ ((E = eNo ∧ (qLeast σ a).1 = 1))) := by
  refine MetX.ofJ (k := 1) [some (.ref (rl Γ 0)), some (.int (iI a)), none] (by decide) rfl rfl rfl (fun p e s mm args below meth c C hK2 hxt hrt => ?_)
  have hB := bs1
  have g := hI.s
  have gc := hI.c
  have gM := hI.2.1
  have gst := stS_lt hI
  have glu := leastUp_rg σ a (cM σ) 0
  refine j_aload0 C dX8_least_0 ?_
  refine j_getr C fX8_12 at_0 rfl hR.1 dX8_least_1 ?_
  refine j_iload1 C dX8_least_4 ?_
  refine j_aload0 C dX8_least_5 ?_
  refine j_getr C fX8_12 at_0 rfl hR.1 dX8_least_6 ?_
  refine j_cVI0 C (c_X7_staying hB (by exact hS) (by exact hI) (by exact hWI)) oX7_staying kX8_261 ⟨_, rfl, rfl⟩ (at_st bs1) ⟨by decide, by decide⟩ rfl (Nat.le_of_ble_eq_true rfl) ⟨by decide, by decide⟩ dX8_least_9 ?_
  rintro _ _ hz9 ⟨rfl, rfl⟩
  refine j_iconst C dX8_least_12 ?_
  refine j_cVI3 C (c_X7_memberInPlace_F hB (by exact hS) (by exact hI) (by exact hWI) ⟨by omega, by omega⟩ gst) oX7_memberInPlace kX8_264 ⟨_, rfl, rfl⟩ (at_st bs1) ⟨by decide, by decide⟩ rfl (Nat.le_of_ble_eq_true rfl) ⟨by decide, by decide⟩ dX8_least_13 ?_
  rintro _ _ hz13 ⟨rfl, rfl⟩
  rw [mp_st hI hWI a (cM σ) 0 (by omega)] at hz13 ⊢
  refine j_istore2 C rfl dX8_least_16 ?_
  refine j_iload2 C dX8_least_17 ?_
  refine j_iconst C dX8_least_18 ?_
  refine j_icmp_ne C ⟨by omega, by omega⟩ ⟨by omega, by omega⟩ dX8_least_19 (fun hc19 => ?_) (fun hc19 => ?_)
  · -- 19 T
    refine j_iload2 C dX8_least_33 ?_
    refine j_xr (by decide) ?_
    refine j_iret C hrt dX8_least_34 ⟨by omega, by omega⟩ ?_
    refine ⟨?_, ?_, rfl⟩ <;> (unfold qLeast; repeat (first | rw [if_pos (by omega)] | rw [if_neg (by omega)]); try first | rfl | (dsimp only; omega))
  · -- 19 F
    refine j_throwNW hsl C hK2 hxt th_222 (List.mem_of_getElem? (i := 10) rfl) rfl dX8_least_22 dX8_least_25 dX8_least_26 dX8_least_29 dX8_least_32 (by decide) (Nat.le_of_ble_eq_true rfl) ⟨by decide, by decide⟩ ⟨by decide, by decide⟩ ?_
    refine ⟨rfl, rfl, ?_⟩
    unfold qLeast; repeat (first | rw [if_pos (by omega)] | rw [if_neg (by omega)])
set_option maxRecDepth 100000 in
set_option maxHeartbeats 4000000 in
theorem c_X8_busiest {Γ : Ga} {l : Launch} {ω : Wo} (hsl : l.stackTraces = false) (hR : CR ω) {σ : Row} (hS : St ω 1 σ) {M : Int} (hI : RI M σ) (hWI : WI σ)  {a : Int} (ha : Rg a) : XI Γ l yX8_busiest cX8_busiest 3 .int 6 1 [.ref (rl Γ 0), .int (iI a)] ω (fun z ω' => z = (qBusy σ a).2 ∧ (qBusy σ a).1 = 0 ∧ ω = ω') (fun E ω' => ω = ω' ∧ ((E = eNo ∧ (qBusy σ a).1 = 1))) := by
  refine MetX.ofJ (k := 1) [some (.ref (rl Γ 0)), some (.int (iI a)), none] (by decide) rfl rfl rfl (fun p e s mm args below meth c C hK2 hxt hrt => ?_)
  have hB := bs1
  have g := hI.s
  have gc := hI.c
  have gM := hI.2.1
  have gst : 2 ^ cM σ - 1 < 1024 := by have := Nat.pow_le_pow_right (show 0 < 2 by decide) gc.1.2; have e : (2 : Nat) ^ 10 = 1024 := rfl; omega
  have glu := busyUp_rg σ a (cM σ) 0
  refine j_aload0 C dX8_busiest_0 ?_
  refine j_getr C fX8_12 at_0 rfl hR.1 dX8_busiest_1 ?_
  refine j_iload1 C dX8_busiest_4 ?_
  refine j_aload0 C dX8_busiest_5 ?_
  refine j_getr C fX8_12 at_0 rfl hR.1 dX8_busiest_6 ?_
  refine j_cVI0 C (c_X7_everyone hB (by exact hS) (by exact hI) (by exact hWI)) oX7_everyone kX8_270 ⟨_, rfl, rfl⟩ (at_st bs1) ⟨by decide, by decide⟩ rfl (Nat.le_of_ble_eq_true rfl) ⟨by decide, by decide⟩ dX8_busiest_9 ?_
  rintro _ _ hz9 ⟨rfl, rfl⟩
  refine j_iconst C dX8_busiest_12 ?_
  refine j_cVI3 C (c_X7_memberInPlace_T hB (by exact hS) (by exact hI) (by exact hWI) ⟨by omega, by omega⟩ gst) oX7_memberInPlace kX8_264 ⟨_, rfl, rfl⟩ (at_st bs1) ⟨by decide, by decide⟩ rfl (Nat.le_of_ble_eq_true rfl) ⟨by decide, by decide⟩ dX8_busiest_13 ?_
  rintro _ _ hz13 ⟨rfl, rfl⟩
  rw [mp_ev a (cM σ) 0 (by omega)] at hz13 ⊢
  refine j_istore2 C rfl dX8_busiest_16 ?_
  refine j_iload2 C dX8_busiest_17 ?_
  refine j_iconst C dX8_busiest_18 ?_
  refine j_icmp_ne C ⟨by omega, by omega⟩ ⟨by omega, by omega⟩ dX8_busiest_19 (fun hc19 => ?_) (fun hc19 => ?_)
  · -- 19 T
    refine j_iload2 C dX8_busiest_33 ?_
    refine j_xr (by decide) ?_
    refine j_iret C hrt dX8_busiest_34 ⟨by omega, by omega⟩ ?_
    refine ⟨?_, ?_, rfl⟩ <;> (unfold qBusy; repeat (first | rw [if_pos (by omega)] | rw [if_neg (by omega)]); try first | rfl | (dsimp only; omega))
  · -- 19 F
    refine j_throwNW hsl C hK2 hxt th_222 (List.mem_of_getElem? (i := 10) rfl) rfl dX8_busiest_22 dX8_busiest_25 dX8_busiest_26 dX8_busiest_29 dX8_busiest_32 (by decide) (Nat.le_of_ble_eq_true rfl) ⟨by decide, by decide⟩ ⟨by decide, by decide⟩ ?_
    refine ⟨rfl, rfl, ?_⟩
    unfold qBusy; repeat (first | rw [if_pos (by omega)] | rw [if_neg (by omega)])
