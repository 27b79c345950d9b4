set_option maxRecDepth 100000 in
set_option maxHeartbeats 4000000 in
theorem c_X8_remember {Γ : Ga} {l : Launch} {ω : Wo} (hsl : l.stackTraces = false) (hR : CR ω) {σ : Row} (hS : St ω 1 σ) {M : Int} (hI : RI M σ) (hWI : WI σ)  {n : Nat} {hh : Nat → Row} (hPA : PA M ω n hh) : CV Γ l yX8_remember cX8_remember 2 2 [.ref (rl Γ 0), .ref (rl Γ 1)] ω (fun ω' => PA M ω' (rmN n) (rmH n hh σ) ∧ KP ω ω') := by
  refine Met.ofJ (k := 0) [some (.ref (rl Γ 0)), some (.ref (rl Γ 1))] (by decide) rfl rfl rfl (fun p e s mm args below meth c C hrt => ?_)
  have hB := bs1
  have g := hI.s
  have gc := hI.c
  have gM := hI.2.1
  obtain ⟨h5, hn8, π, p1, p2, p3⟩ := hPA
  refine j_aload0 C dX8_remember_0 ?_
  refine j_geti C fX8_30 at_0 rfl h5 dX8_remember_1 (fun hr1 => ?_)
  refine j_bipush C (by decide) dX8_remember_4 ?_
  refine j_icmp_ne C ⟨by omega, by omega⟩ ⟨by omega, by omega⟩ dX8_remember_6 (fun hc6 => ?_) (fun hc6 => ?_)
  · -- 6 T
    obtain ⟨W0, hW0, m0, h0, q5, q8, hk0, hen, heh, hS0, hR0, π0, r1, r2, r3⟩ : ∃ W0, W0 = ω ∧ ∃ (m0 : Nat) (h0 : Nat → Row), W0.1 0 5 = (m0 : Int) ∧ m0 < 8 ∧ KP ω W0 ∧ rmN n = m0 + 1 ∧ (rmH n hh σ = fun j => if j = m0 then σ else h0 j) ∧ St W0 1 σ ∧ CR W0 ∧ ∃ π0 : Nat → Nat, (∀ j, j < 8 → π0 j < 8 ∧ W0.2.1 64 j = some (75 + 21 * π0 j) ∧ QR W0 (75 + 21 * π0 j)) ∧ (∀ j k, j < 8 → k < 8 → π0 j = π0 k → j = k) ∧ ∀ j, j < m0 → St W0 (75 + 21 * π0 j) (h0 j) ∧ RI M (h0 j) ∧ WI (h0 j) := ⟨ω, rfl, n, hh, h5, by omega, KP.rf ω, if_neg (by omega), if_neg (by omega), hS, hR, π, p1, p2, p3⟩
    refine j_conv rfl rfl hW0.symm ?_
    refine j_aload0 C dX8_remember_13 ?_
    refine j_getr C fX8_26 at_0 rfl hR0.2.2.2.1 dX8_remember_14 ?_
    refine j_aload0 C dX8_remember_17 ?_
    refine j_geti C fX8_30 at_0 rfl q5 dX8_remember_18 (fun hr18 => ?_)
    refine j_aald C at_64 rfl (Cn := RX7) rfl (N := 8) rfl (by decide) ⟨by omega, by omega⟩ ((r1 m0 (by omega)).2.1) dX8_remember_21 ?_
    refine j_aload1 C dX8_remember_22 ?_
    refine j_cVV1 C (c_X7_copyFrom (bsP (r1 m0 (by omega)).1) bs1 (by omega) (r1 m0 (by omega)).2.2 (by exact hS0) (by exact hI)) oX7_copyFrom kX8_212 ⟨_, rfl, rfl⟩ (at_st (bsP (r1 m0 (by omega)).1)) ⟨by decide, by decide⟩ rfl (Nat.le_of_ble_eq_true rfl) ⟨by decide, by decide⟩ dX8_remember_23 ?_
    rintro W9 ⟨hF9, hS9⟩
    refine j_aload0 C dX8_remember_26 ?_
    refine j_dup C rfl dX8_remember_27 ?_
    refine j_geti C fX8_30 at_0 rfl ((congrFun (hF9.1 0 (by omega)) 5).trans q5) dX8_remember_28 (fun hr28 => ?_)
    refine j_iconst C dX8_remember_31 ?_
    refine j_iadd C dX8_remember_32 ?_
    refine j_putI C fX8_30 at_0 rfl ty_0_5 ⟨by omega, by omega⟩ dX8_remember_33 ?_
    refine j_vret C hrt dX8_remember_36 ?_
    have hpu := PA.push (by omega) r1 r2 r3 hF9 hS9 hI hWI
    rw [hen, heh]
    exact ⟨hpu.1, hk0.tr hpu.2⟩
  · -- 6 F
    have hn88 : n = 8 := by omega
    subst hn88
    refine j_aload0 C dX8_remember_9 ?_
    refine j_cVV0 C (c_X8_forgetOldest hsl (by exact hR) (by exact hS) (by exact hI) (by exact hWI) h5 (by omega) (fun j hj => ⟨(p1 j hj).1, (p1 j hj).2.1⟩)) oX8_forgetOldest kX8_456 ⟨_, rfl, rfl⟩ at_0 ⟨by decide, by decide⟩ rfl (Nat.le_of_ble_eq_true rfl) ⟨by decide, by decide⟩ dX8_remember_10 ?_
    rintro _ rfl
    have hfg := PA.forget p1 p2 p3 (W := wi (wr (RW ω 61 0 7) 64 7 (some (75 + 21 * π 0))) 0 5 (((8 : Nat) : Int) - 1)) rfl
    obtain ⟨W0, hW0, m0, h0, q5, q8, hk0, hen, heh, hS0, hR0, π0, r1, r2, r3⟩ : ∃ W0, W0 = wi (wr (RW ω 61 0 7) 64 7 (some (75 + 21 * π 0))) 0 5 (((8 : Nat) : Int) - 1) ∧ ∃ (m0 : Nat) (h0 : Nat → Row), W0.1 0 5 = (m0 : Int) ∧ m0 < 8 ∧ KP ω W0 ∧ rmN 8 = m0 + 1 ∧ (rmH 8 hh σ = fun j => if j = m0 then σ else h0 j) ∧ St W0 1 σ ∧ CR W0 ∧ ∃ π0 : Nat → Nat, (∀ j, j < 8 → π0 j < 8 ∧ W0.2.1 64 j = some (75 + 21 * π0 j) ∧ QR W0 (75 + 21 * π0 j)) ∧ (∀ j k, j < 8 → k < 8 → π0 j = π0 k → j = k) ∧ ∀ j, j < m0 → St W0 (75 + 21 * π0 j) (h0 j) ∧ RI M (h0 j) ∧ WI (h0 j) := by
      obtain ⟨⟨g5, -, π1, g1, g2, g3⟩, gk⟩ := hfg
      exact ⟨_, rfl, 7, fun j => hh (j + 1), g5, by omega, gk, rfl, rfl, gk.st hS hI.cc (by omega), gk.cr hR, π1, g1, g2, g3⟩
    refine j_conv rfl rfl hW0.symm ?_
    refine j_aload0 C dX8_remember_13 ?_
    refine j_getr C fX8_26 at_0 rfl hR0.2.2.2.1 dX8_remember_14 ?_
    refine j_aload0 C dX8_remember_17 ?_
    refine j_geti C fX8_30 at_0 rfl q5 dX8_remember_18 (fun hr18 => ?_)
    refine j_aald C at_64 rfl (Cn := RX7) rfl (N := 8) rfl (by decide) ⟨by omega, by omega⟩ ((r1 m0 (by omega)).2.1) dX8_remember_21 ?_
    refine j_aload1 C dX8_remember_22 ?_
    refine j_cVV1 C (c_X7_copyFrom (bsP (r1 m0 (by omega)).1) bs1 (by omega) (r1 m0 (by omega)).2.2 (by exact hS0) (by exact hI)) oX7_copyFrom kX8_212 ⟨_, rfl, rfl⟩ (at_st (bsP (r1 m0 (by omega)).1)) ⟨by decide, by decide⟩ rfl (Nat.le_of_ble_eq_true rfl) ⟨by decide, by decide⟩ dX8_remember_23 ?_
    rintro W9 ⟨hF9, hS9⟩
    refine j_aload0 C dX8_remember_26 ?_
    refine j_dup C rfl dX8_remember_27 ?_
    refine j_geti C fX8_30 at_0 rfl ((congrFun (hF9.1 0 (by omega)) 5).trans q5) dX8_remember_28 (fun hr28 => ?_)
    refine j_iconst C dX8_remember_31 ?_
    refine j_iadd C dX8_remember_32 ?_
    refine j_putI C fX8_30 at_0 rfl ty_0_5 ⟨by omega, by omega⟩ dX8_remember_33 ?_
    refine j_vret C hrt dX8_remember_36 ?_
    have hpu := PA.push (by omega) r1 r2 r3 hF9 hS9 hI hWI
    rw [hen, heh]
    exact ⟨hpu.1, hk0.tr hpu.2⟩
