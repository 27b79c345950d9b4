set_option maxRecDepth 100000 in
set_option maxHeartbeats 4000000 in
theorem c_X8_remember22 {Γ : Ga} {l : Launch} {ω : Wo} (hsl : l.stackTraces = false) (hR : CR ω) {σ : Row} (hS : St ω 22 σ) {M : Int} (hI : RI M σ) (hWI : WI σ) {τ : Row} {Mt : Int} (hS1 : St ω 1 τ) (hI1 : RI Mt τ) (hWI1 : WI τ) {n : Nat} {hh : Nat → Row} (hPA : PA M ω n hh) : CV Γ l yX8_remember cX8_remember 2 2 [.ref (rl Γ 0), .ref (rl Γ 22)] ω (fun ω' => PA M ω' (rmN n) (rmH n hh σ) ∧ KP ω ω') := by
  refine Met.ofJ (k := 0) [some (.ref (rl Γ 0)), some (.ref (rl Γ 22))] (by decide) rfl rfl rfl (fun p e s mm args below meth c C hrt => ?_)
  have hB := bs22
  have g := hI.s
  have gc := hI.c
  have gM := hI.2.1
  obtain ⟨h5, hn8, π, p1, p2, p3⟩ := hPA
  refine j_aload0 C dX8_remember_0 ?_
  refine j_geti C fX8_30 at_0 rfl h5 dX8_remember_1 (fun hr1 => ?_)
  refine j_bipush C (by decide) dX8_remember_4 ?_
  refine j_icmp_ne C ⟨by omega, by omega⟩ ⟨by omega, by omega⟩ dX8_remember_6 (fun hc6 => ?_) (fun hc6 => ?_)
  · -- 6 T
    obtain ⟨W0, hW0, m0, h0, q5, q8, hk0, hen, heh, hS0, hR0, π0, r1, r2, r3⟩ : ∃ W0, W0 = ω ∧ ∃ (m0 : Nat) (h0 : Nat → Row), W0.1 0 5 = (m0 : Int) ∧ m0 < 8 ∧ KP ω W0 ∧ rmN n = m0 + 1 ∧ (rmH n hh σ = fun j => if j = m0 then σ else h0 j) ∧ St W0 22 σ ∧ CR W0 ∧ ∃ π0 : Nat → Nat, (∀ j, j < 8 → π0 j < 8 ∧ W0.2.1 64 j = some (75 + 21 * π0 j) ∧ QR W0 (75 + 21 * π0 j)) ∧ (∀ j k, j < 8 → k < 8 → π0 j = π0 k → j = k) ∧ ∀ j, j < m0 → St W0 (75 + 21 * π0 j) (h0 j) ∧ RI M (h0 j) ∧ WI (h0 j) := ⟨ω, rfl, n, hh, h5, by omega, KP.rf ω, if_neg (by omega), if_neg (by omega), hS, hR, π, p1, p2, p3⟩
    refine j_conv rfl rfl hW0.symm ?_
    refine j_aload0 C dX8_remember_13 ?_
    refine j_getr C fX8_26 at_0 rfl hR0.2.2.2.1 dX8_remember_14 ?_
    refine j_aload0 C dX8_remember_17 ?_
    refine j_geti C fX8_30 at_0 rfl q5 dX8_remember_18 (fun hr18 => ?_)
    refine j_aald C at_64 rfl (Cn := RX7) rfl (N := 8) rfl (by decide) ⟨by omega, by omega⟩ ((r1 m0 (by omega)).2.1) dX8_remember_21 ?_
    refine j_aload1 C dX8_remember_22 ?_
    refine j_cVV1 C (c_X7_copyFrom (bsP (r1 m0 (by omega)).1) bs22 (by omega) (r1 m0 (by omega)).2.2 (by exact hS0) (by exact hI)) oX7_copyFrom kX8_212 ⟨_, rfl, rfl⟩ (at_st (bsP (r1 m0 (by omega)).1)) ⟨by decide, by decide⟩ rfl (Nat.le_of_ble_eq_true rfl) ⟨by decide, by decide⟩ dX8_remember_23 ?_
    rintro W9 ⟨hF9, hS9⟩
    refine j_aload0 C dX8_remember_26 ?_
    refine j_dup C rfl dX8_remember_27 ?_
    refine j_geti C fX8_30 at_0 rfl ((congrFun (hF9.1 0 (by omega)) 5).trans q5) dX8_remember_28 (fun hr28 => ?_)
    refine j_iconst C dX8_remember_31 ?_
    refine j_iadd C dX8_remember_32 ?_
    refine j_putI C fX8_30 at_0 rfl ty_0_5 ⟨by omega, by omega⟩ dX8_remember_33 ?_
    refine j_vret C hrt dX8_remember_36 ?_
    have hpu := PA.push (by omega) r1 r2 r3 hF9 hS9 hI hWI
    rw [hen, heh]
    exact ⟨hpu.1, hk0.tr hpu.2⟩
  · -- 6 F
    have hn88 : n = 8 := by omega
    subst hn88
    refine j_aload0 C dX8_remember_9 ?_
    refine j_cVV0 C (c_X8_forgetOldest hsl (by exact hR) (by exact hS1) (by exact hI1) (by exact hWI1) h5 (by omega) (fun j hj => ⟨(p1 j hj).1, (p1 j hj).2.1⟩)) oX8_forgetOldest kX8_456 ⟨_, rfl, rfl⟩ at_0 ⟨by decide, by decide⟩ rfl (Nat.le_of_ble_eq_true rfl) ⟨by decide, by decide⟩ dX8_remember_10 ?_
    rintro _ rfl
    have hfg := PA.forget p1 p2 p3 (W := wi (wr (RW ω 61 0 7) 64 7 (some (75 + 21 * π 0))) 0 5 (((8 : Nat) : Int) - 1)) rfl
    obtain ⟨W0, hW0, m0, h0, q5, q8, hk0, hen, heh, hS0, hR0, π0, r1, r2, r3⟩ : ∃ W0, W0 = wi (wr (RW ω 61 0 7) 64 7 (some (75 + 21 * π 0))) 0 5 (((8 : Nat) : Int) - 1) ∧ ∃ (m0 : Nat) (h0 : Nat → Row), W0.1 0 5 = (m0 : Int) ∧ m0 < 8 ∧ KP ω W0 ∧ rmN 8 = m0 + 1 ∧ (rmH 8 hh σ = fun j => if j = m0 then σ else h0 j) ∧ St W0 22 σ ∧ CR W0 ∧ ∃ π0 : Nat → Nat, (∀ j, j < 8 → π0 j < 8 ∧ W0.2.1 64 j = some (75 + 21 * π0 j) ∧ QR W0 (75 + 21 * π0 j)) ∧ (∀ j k, j < 8 → k < 8 → π0 j = π0 k → j = k) ∧ ∀ j, j < m0 → St W0 (75 + 21 * π0 j) (h0 j) ∧ RI M (h0 j) ∧ WI (h0 j) := by
      obtain ⟨⟨g5, -, π1, g1, g2, g3⟩, gk⟩ := hfg
      exact ⟨_, rfl, 7, fun j => hh (j + 1), g5, by omega, gk, rfl, rfl, gk.st hS hI.cc (by omega), gk.cr hR, π1, g1, g2, g3⟩
    refine j_conv rfl rfl hW0.symm ?_
    refine j_aload0 C dX8_remember_13 ?_
    refine j_getr C fX8_26 at_0 rfl hR0.2.2.2.1 dX8_remember_14 ?_
    refine j_aload0 C dX8_remember_17 ?_
    refine j_geti C fX8_30 at_0 rfl q5 dX8_remember_18 (fun hr18 => ?_)
    refine j_aald C at_64 rfl (Cn := RX7) rfl (N := 8) rfl (by decide) ⟨by omega, by omega⟩ ((r1 m0 (by omega)).2.1) dX8_remember_21 ?_
    refine j_aload1 C dX8_remember_22 ?_
    refine j_cVV1 C (c_X7_copyFrom (bsP (r1 m0 (by omega)).1) bs22 (by omega) (r1 m0 (by omega)).2.2 (by exact hS0) (by exact hI)) oX7_copyFrom kX8_212 ⟨_, rfl, rfl⟩ (at_st (bsP (r1 m0 (by omega)).1)) ⟨by decide, by decide⟩ rfl (Nat.le_of_ble_eq_true rfl) ⟨by decide, by decide⟩ dX8_remember_23 ?_
    rintro W9 ⟨hF9, hS9⟩
    refine j_aload0 C dX8_remember_26 ?_
    refine j_dup C rfl dX8_remember_27 ?_
    refine j_geti C fX8_30 at_0 rfl ((congrFun (hF9.1 0 (by omega)) 5).trans q5) dX8_remember_28 (fun hr28 => ?_)
    refine j_iconst C dX8_remember_31 ?_
    refine j_iadd C dX8_remember_32 ?_
    refine j_putI C fX8_30 at_0 rfl ty_0_5 ⟨by omega, by omega⟩ dX8_remember_33 ?_
    refine j_vret C hrt dX8_remember_36 ?_
    have hpu := PA.push (by omega) r1 r2 r3 hF9 hS9 hI hWI
    rw [hen, heh]
    exact ⟨hpu.1, hk0.tr hpu.2⟩
/-! commands -/
def KM (ω W : Wo) : Prop := (∀ x, (43 ≤ x ∧ x < 65) ∨ x = 69 ∨ x = 73 ∨ x = 74 ∨ 243 ≤ x → W.1 x = ω.1 x) ∧ (∀ y, y ≠ 5 → y ≠ 10 → W.1 0 y = ω.1 0 y) ∧ (∀ x, x ≠ 4 → x ≠ 25 → x ≠ 64 → x ≠ 70 → (x < 75 ∨ 243 ≤ x) → W.2.1 x = ω.2.1 x) ∧ W.2.2 = ω.2.2
theorem KR.st {ω W : Wo} {B : Nat} {s : Row} (h : KR ω W) (hS : St ω B s) (hc : cM s ≤ 10 ∧ cB s ≤ 3 ∧ cL s ≤ 4) (hB : B + 21 ≤ 68) : St W B s :=
  hS.fr hc (fun x _ _ => h.1 x (by omega) (by omega) (by omega)) (fun x _ _ => h.2.2.1 x (by omega))
/-- the worlds of a script's run -/
def W2c (W1 : Wo) (z : Int) : Wo := wi (wi W1 0 10 z) 68 1 0
theorem W2c_68 {W1 : Wo} {z : Int} : (W2c W1 z).1 68 1 = 0 := by unfold W2c; rw [wi_wf, wf_same, up_same]
theorem W2c_z {W1 : Wo} {z : Int} : (W2c W1 z).1 0 10 = z := by
  unfold W2c; rw [wi_wf, wf_ne _ _ (by decide), wi_wf, wf_same, up_same]
theorem W2c_0 {W1 : Wo} {z : Int} {y : Nat} (h : y ≠ 10) : (W2c W1 z).1 0 y = W1.1 0 y := by
  unfold W2c; rw [wi_wf, wf_ne _ _ (by decide), wi_wf, wf_same, up_ne _ _ h]
theorem W2c_x {W1 : Wo} {z : Int} {x : Nat} (h : x ≠ 0) (h2 : x ≠ 68) : (W2c W1 z).1 x = W1.1 x := by
  unfold W2c; rw [wi_wf, wf_ne _ _ h2, wi_wf, wf_ne _ _ h]
theorem W2c_5 {W1 : Wo} {z : Int} : (W2c W1 z).1 68 5 = W1.1 68 5 := by
  unfold W2c; rw [wi_wf, wf_same, up_ne _ _ (by decide), wi_wf, wf_ne _ _ (by decide)]
theorem W2c_st {W1 : Wo} {z : Int} {B : Nat} {s : Row} (hS : St W1 B s) (hc : cM s ≤ 10 ∧ cB s ≤ 3 ∧ cL s ≤ 4) (hB : 1 ≤ B ∧ B + 21 ≤ 68) : St (W2c W1 z) B s :=
  hS.fr hc (fun x _ _ => W2c_x (by omega) (by omega)) (fun x _ _ => rfl)
theorem W2c_sp {W1 : Wo} {z : Int} {K : Nat} {D : Nat → Nat} {A B : Nat → Int} (h : SP W1 K D A B) : SP (W2c W1 z) K D A B := by
  refine ⟨by rw [W2c_5]; exact h.1, fun j hj => ?_⟩
  rw [W2c_x (by decide) (by decide), W2c_x (by decide) (by decide)]
  exact h.2 j hj
theorem Fr.sp {W W' : Wo} {K B : Nat} {D : Nat → Nat} {A C : Nat → Int} (hF : Fr B W W') (hB : B + 21 ≤ 68) (h : SP W K D A C) : SP W' K D A C := by
  refine ⟨by rw [hF.1 68 (by omega)]; exact h.1, fun j hj => ?_⟩
  rw [hF.2.1 70 (by omega), hF.1 71 (by omega), hF.1 72 (by omega)]
  exact h.2 j hj
theorem qr_of {ω W : Wo} {B : Nat} (h : ∀ x, B ≤ x → x < B + 4 → W.2.1 x = ω.2.1 x) (hq : QR ω B) : QR W B := by
  unfold QR SR at hq ⊢
  rw [h B (by omega) (by omega), h (B + 1) (by omega) (by omega), h (B + 2) (by omega) (by omega), h (B + 3) (by omega) (by omega)]; exact hq
theorem KM.w2 {ω W1 : Wo} {z : Int} (h : KR ω W1) : KM ω (W2c W1 z) :=
  ⟨fun x hx => (W2c_x (by omega) (by omega)).trans (h.1 x (by omega) (by omega) (by omega)), fun y h5 h10 => (W2c_0 h10).trans (congrFun (h.1 0 (by decide) (by decide) (by decide)) y), fun x h4 h25 h64 h70 _ => h.2.2.1 x h70, h.2.2.2⟩
theorem KM.f22 {ω W W' : Wo} (h : KM ω W) (hF : Fr 22 W W') : KM ω W' :=
  ⟨fun x hx => (hF.1 x (by omega)).trans (h.1 x hx), fun y h5 h10 => (congrFun (hF.1 0 (by omega)) y).trans (h.2.1 y h5 h10), fun x h4 h25 h64 h70 hb => (hF.2.1 x (by omega)).trans (h.2.2.1 x h4 h25 h64 h70 hb), hF.2.2.trans h.2.2.2⟩
theorem KM.f1 {ω W W' : Wo} (h : KM ω W) (hF : Fr 1 W W') : KM ω W' :=
  ⟨fun x hx => (hF.1 x (by omega)).trans (h.1 x hx), fun y h5 h10 => (congrFun (hF.1 0 (by omega)) y).trans (h.2.1 y h5 h10), fun x h4 h25 h64 h70 hb => (hF.2.1 x (by omega)).trans (h.2.2.1 x h4 h25 h64 h70 hb), hF.2.2.trans h.2.2.2⟩
theorem KM.kx {ω W W' : Wo} (h : KM ω W) (hF : KX W W') : KM ω W' :=
  ⟨fun x hx => (hF.1 x (by omega) (by omega)).trans (h.1 x hx), fun y h5 h10 => (congrFun (hF.1 0 (by omega) (by omega)) y).trans (h.2.1 y h5 h10), fun x h4 h25 h64 h70 hb => (hF.2.1 x (by omega)).trans (h.2.2.1 x h4 h25 h64 h70 hb), hF.2.2.trans h.2.2.2⟩
theorem KM.kp {ω W W' : Wo} (h : KM ω W) (hF : KP W W') : KM ω W' :=
  ⟨fun x hx => (hF.1 x (by omega) (by omega)).trans (h.1 x hx), fun y h5 h10 => (hF.2.1 y h5).trans (h.2.1 y h5 h10), fun x h4 h25 h64 h70 hb => (hF.2.2.1 x h64 hb).trans (h.2.2.1 x h4 h25 h64 h70 hb), hF.2.2.2.trans h.2.2.2⟩
theorem KM.rF {ω W : Wo} {a : Nat} {v w : Int} (h : KM ω W) (ha : a = 65 ∨ a = 66) : KM ω (RF W a v w) :=
  ⟨fun x hx => (show (RF W a v w).1 x = _ from wf_ne _ _ (by omega)).trans (h.1 x hx), fun y h5 h10 => (congrFun (show (RF W a v w).1 0 = _ from wf_ne _ _ (by omega)) y).trans (h.2.1 y h5 h10), h.2.2⟩
set_option maxRecDepth 100000 in
set_option maxHeartbeats 4000000 in
theorem c_X8_commands {Γ : Ga} {l : Launch} {ω : Wo} (hsl : l.stackTraces = false) (hR : CR ω) {σ : Row} (hS : St ω 1 σ) {M : Int} (hI : RI M σ) (hWI : WI σ)  {n h0 : Nat} (hn : ω.1 68 1 = (n : Int)) (hh6 : ω.1 68 6 = (h0 : Int)) (hn6 : n ≤ 60) (hM : M + 70000 ≤ 100000000) (hq : QR ω 22) {n0 : Nat} {hh : Nat → Row} (hPA : PA M ω n0 hh) : XI Γ l yX8_commands cX8_commands 2 .int 8 1 [.ref (rl Γ 0)] ω (fun z ω' => (prs (ω.1 69) n 21 0).1 = -1 ∧ z = ((prs (ω.1 69) n 21 0).2 : Int) ∧ (excN σ (tD (ω.1 69) n) (tA (ω.1 69) n) (tB (ω.1 69) n) (prs (ω.1 69) n 21 0).2 0) = (prs (ω.1 69) n 21 0).2 ∧ St ω' 1 (exc σ (tD (ω.1 69) n) (tA (ω.1 69) n) (tB (ω.1 69) n) (prs (ω.1 69) n 21 0).2) ∧ PA M ω' (rmN n0) (rmH n0 hh σ) ∧ CR ω' ∧ QR ω' 22 ∧ KM ω ω' ∧ ω'.1 0 10 = (prs (ω.1 69) n 21 0).1 ∧ ω'.1 68 1 = 0 ∧ ω'.1 65 = ω.1 65 ∧ ω'.1 66 = ω.1 66) (fun E ω' => (E = eArg ∧ (prs (ω.1 69) n 21 0).1 ≠ -1 ∧ St ω' 1 σ ∧ PA M ω' n0 hh ∧ CR ω' ∧ QR ω' 22 ∧ KM ω ω' ∧ ω'.1 0 10 = (prs (ω.1 69) n 21 0).1 ∧ ω'.1 68 1 = 0 ∧ ω'.1 65 = ω.1 65 ∧ ω'.1 66 = ω.1 66) ∨ (E = eUn ∧ (prs (ω.1 69) n 21 0).1 = -1 ∧ (excN σ (tD (ω.1 69) n) (tA (ω.1 69) n) (tB (ω.1 69) n) (prs (ω.1 69) n 21 0).2 0) < (prs (ω.1 69) n 21 0).2 ∧ St ω' 1 σ ∧ PA M ω' n0 hh ∧ CR ω' ∧ QR ω' 22 ∧ KM ω ω' ∧ ω'.1 0 10 = (prs (ω.1 69) n 21 0).1 ∧ ω'.1 68 1 = 0 ∧ ω'.1 65 0 = 12 ∧ ω'.1 65 1 = ((excN σ (tD (ω.1 69) n) (tA (ω.1 69) n) (tB (ω.1 69) n) (prs (ω.1 69) n 21 0).2 0) : Int) ∧ ω'.1 66 0 = (jd ((tD (ω.1 69) n) (excN σ (tD (ω.1 69) n) (tA (ω.1 69) n) (tB (ω.1 69) n) (prs (ω.1 69) n 21 0).2 0)) (exc σ (tD (ω.1 69) n) (tA (ω.1 69) n) (tB (ω.1 69) n) (excN σ (tD (ω.1 69) n) (tA (ω.1 69) n) (tB (ω.1 69) n) (prs (ω.1 69) n 21 0).2 0)) ((tA (ω.1 69) n) (excN σ (tD (ω.1 69) n) (tA (ω.1 69) n) (tB (ω.1 69) n) (prs (ω.1 69) n 21 0).2 0)) ((tB (ω.1 69) n) (excN σ (tD (ω.1 69) n) (tA (ω.1 69) n) (tB (ω.1 69) n) (prs (ω.1 69) n 21 0).2 0))).1 ∧ ω'.1 66 1 = (jd ((tD (ω.1 69) n) (excN σ (tD (ω.1 69) n) (tA (ω.1 69) n) (tB (ω.1 69) n) (prs (ω.1 69) n 21 0).2 0)) (exc σ (tD (ω.1 69) n) (tA (ω.1 69) n) (tB (ω.1 69) n) (excN σ (tD (ω.1 69) n) (tA (ω.1 69) n) (tB (ω.1 69) n) (prs (ω.1 69) n 21 0).2 0)) ((tA (ω.1 69) n) (excN σ (tD (ω.1 69) n) (tA (ω.1 69) n) (tB (ω.1 69) n) (prs (ω.1 69) n 21 0).2 0)) ((tB (ω.1 69) n) (excN σ (tD (ω.1 69) n) (tA (ω.1 69) n) (tB (ω.1 69) n) (prs (ω.1 69) n 21 0).2 0))).2)) := by
  refine MetX.ofJ (k := 1) [some (.ref (rl Γ 0)), none] (by decide) rfl rfl rfl (fun p e s mm args below meth c C hK2 hxt hrt => ?_)
  have hB := bs1
  have g := hI.s
  have gc := hI.c
  have gM := hI.2.1
  refine j_aload0 C dX8_commands_0 ?_
  refine j_aload0 C dX8_commands_1 ?_
  refine j_getr C fX8_50 at_0 rfl hR.2.2.2.2.2.2.2.1 dX8_commands_2 ?_
  refine j_cVI0 C (c_X6_read (by exact hR) hn hh6 hn6) oX6_read kX8_285 ⟨_, rfl, rfl⟩ at_68 ⟨by decide, by decide⟩ rfl (Nat.le_of_ble_eq_true rfl) ⟨by decide, by decide⟩ dX8_commands_5 ?_
  rintro z1 W1 hr5 ⟨hz1, hK1, hsp1⟩
  have hcc := hI.cc
  have hR2 : CR (W2c W1 z1) := hK1.cr hR
  have hR1 : CR W1 := hK1.cr hR
  have hS2 : St (W2c W1 z1) 1 σ := W2c_st (hK1.st hS hcc (by omega)) hcc (by omega)
  have hq2 : QR (W2c W1 z1) 22 := qr_of (fun x _ _ => hK1.2.2.1 x (by omega)) hq
  have hkm2 : KM ω (W2c W1 z1) := KM.w2 hK1
  have hPA2 : PA M (W2c W1 z1) n0 hh := hPA.of ⟨by omega, by omega⟩ ((W2c_0 (by decide)).trans (congrFun (hK1.1 0 (by decide) (by decide) (by decide)) 5)) (fun x _ _ => (W2c_x (by omega) (by omega)).trans (hK1.1 x (by omega) (by omega) (by omega))) (fun x _ => hK1.2.2.1 x (by omega))
  have h652 : (W2c W1 z1).1 65 = ω.1 65 := (W2c_x (by decide) (by decide)).trans (hK1.1 65 (by decide) (by decide) (by decide))
  have h662 : (W2c W1 z1).1 66 = ω.1 66 := (W2c_x (by decide) (by decide)).trans (hK1.1 66 (by decide) (by decide) (by decide))
  refine j_putI C fX8_54 at_0 rfl ty_0_10 ⟨by omega, by omega⟩ dX8_commands_8 ?_
  refine j_aload0 C dX8_commands_11 ?_
  refine j_getr C fX8_50 at_0 rfl (show CR (wi W1 0 10 z1) from hR1).2.2.2.2.2.2.2.1 dX8_commands_12 ?_
  refine j_iconst C dX8_commands_15 ?_
  refine j_putI C fX8_273 at_68 rfl ty_6_1 ⟨by omega, by omega⟩ dX8_commands_16 ?_
  refine j_conv rfl rfl (show _ = W2c W1 z1 from rfl) ?_
  refine j_aload0 C dX8_commands_19 ?_
  refine j_geti C fX8_54 at_0 rfl W2c_z dX8_commands_20 (fun hr20 => ?_)
  refine j_iconst C dX8_commands_23 ?_
  refine j_icmp_eq C ⟨by omega, by omega⟩ ⟨by omega, by omega⟩ dX8_commands_24 (fun hc24 => ?_) (fun hc24 => ?_)
  · -- 24 T
    have hp9 : (prs (ω.1 69) n 21 0).1 = -1 := by omega
    obtain ⟨hk20, hsp⟩ := hsp1 hp9
    generalize hKK : (prs (ω.1 69) n 21 0).2 = K at hk20 hsp ⊢
    have hSP2 : SP (W2c W1 z1) K (tD (ω.1 69) n) (tA (ω.1 69) n) (tB (ω.1 69) n) := W2c_sp hsp
    refine j_aload0 C dX8_commands_38 ?_
    refine j_getr C fX8_16 at_0 rfl hR2.2.1 dX8_commands_39 ?_
    refine j_aload0 C dX8_commands_42 ?_
    refine j_getr C fX8_12 at_0 rfl hR2.1 dX8_commands_43 ?_
    refine j_cVV1 C (c_X7_copyFrom bs22 bs1 (by omega) hq2 (by exact hS2) (by exact hI)) oX7_copyFrom kX8_212 ⟨_, rfl, rfl⟩ (at_st bs22) ⟨by decide, by decide⟩ rfl (Nat.le_of_ble_eq_true rfl) ⟨by decide, by decide⟩ dX8_commands_46 ?_
    rintro W3 ⟨hF3, hS3⟩
    have hR3 := hR2.fr hF3 (by decide)
    have hS31 : St W3 1 σ := hS2.fr hcc (fun x _ _ => hF3.1 x (by omega)) (fun x _ _ => hF3.2.1 x (by omega))
    have hSP3 := hF3.sp (by omega) hSP2
    refine j_aload0 C dX8_commands_49 ?_
    refine j_xVI0 C hK2 hxt (c_X8_carryOutAll hsl (by exact hR3) (by exact hS31) (by exact hI) (by exact hWI) hk20 hM hSP3) oX8_carryOutAll kX8_290 ⟨_, rfl, rfl⟩ at_0 ⟨by decide, by decide⟩ rfl (Nat.le_of_ble_eq_true rfl) ⟨by decide, by decide⟩ ⟨by decide, by decide⟩ dX8_commands_50 (fun _ _ hE => hE.elim) ?_
    rintro z4 W4 hr50 ⟨rfl, hN4, hS4, hX4, hj4, ha4⟩
    have hR4 := hX4.cr hR3
    have hSP4 := hX4.sp hSP3
    have hS422 : St W4 22 σ := hS3.fr hcc (fun x _ _ => hX4.1 x (by omega) (by omega)) (fun x _ _ => hX4.2.1 x (by omega))
    have hkm4 := (hkm2.f22 hF3).kx hX4
    have hq4 : QR W4 22 := hS422.q
    have hPA4 : PA M W4 n0 hh := hPA2.of ⟨by omega, by omega⟩ ((congrFun (hX4.1 0 (by omega) (by omega)) 5).trans (congrFun (hF3.1 0 (by omega)) 5)) (fun x _ _ => (hX4.1 x (by omega) (by omega)).trans (hF3.1 x (by omega))) (fun x _ => (hX4.2.1 x (by omega)).trans (hF3.2.1 x (by omega)))
    have h104 : W4.1 0 10 = z1 := ((congrFun (hX4.1 0 (by omega) (by omega)) 10).trans (congrFun (hF3.1 0 (by omega)) 10)).trans W2c_z
    have h684 : W4.1 68 1 = 0 := ((congrFun (hX4.1 68 (by omega) (by omega)) 1).trans (congrFun (hF3.1 68 (by omega)) 1)).trans W2c_68
    have h654 : W4.1 65 = ω.1 65 := ((hX4.1 65 (by omega) (by omega)).trans (hF3.1 65 (by omega))).trans h652
    have h664 : W4.1 66 = ω.1 66 := ((hX4.1 66 (by omega) (by omega)).trans (hF3.1 66 (by omega))).trans h662
    have hIe := exc_keep (D := (tD (ω.1 69) n)) (A := (tA (ω.1 69) n)) (B := (tB (ω.1 69) n)) hI hWI (excN σ (tD (ω.1 69) n) (tA (ω.1 69) n) (tB (ω.1 69) n) K 0) (by omega) (fun j hj => ⟨by have := (hSP2.2 j (by omega)).1; omega, ha4 j hj⟩)
    refine j_istore1 C rfl dX8_commands_53 ?_
    refine j_iload1 C dX8_commands_54 ?_
    refine j_aload0 C dX8_commands_55 ?_
    refine j_getr C fX8_50 at_0 rfl hR4.2.2.2.2.2.2.2.1 dX8_commands_56 ?_
    refine j_geti C fX8_293 at_68 rfl hSP4.1 dX8_commands_59 (fun hr59 => ?_)
    refine j_icmp_ge C ⟨by omega, by omega⟩ ⟨by omega, by omega⟩ dX8_commands_62 (fun hc62 => ?_) (fun hc62 => ?_)
    · -- 62 T
      refine j_aload0 C dX8_commands_108 ?_
      refine j_aload0 C dX8_commands_109 ?_
      refine j_getr C fX8_16 at_0 rfl hR4.2.1 dX8_commands_110 ?_
      refine j_cVV1 C (c_X8_remember22 hsl (by exact hR4) (by exact hS422) (by exact hI) (by exact hWI) (by exact hS4) (by exact hIe.1) (by exact hIe.2) hPA4) oX8_remember kX8_308 ⟨_, rfl, rfl⟩ at_0 ⟨by decide, by decide⟩ rfl (Nat.le_of_ble_eq_true rfl) ⟨by decide, by decide⟩ dX8_commands_113 ?_
      rintro W5 ⟨hPA5, hKP5⟩
      have hR5 := hKP5.cr hR4
      have hNK : (excN σ (tD (ω.1 69) n) (tA (ω.1 69) n) (tB (ω.1 69) n) K 0) = K := by omega
      refine j_aload0 C dX8_commands_116 ?_
      refine j_getr C fX8_50 at_0 rfl hR5.2.2.2.2.2.2.2.1 dX8_commands_117 ?_
      refine j_geti C fX8_293 at_68 rfl (show _ = (K : Int) from (congrFun (hKP5.1 68 (by decide) (by omega)) 5).trans hSP4.1) dX8_commands_120 (fun hr120 => ?_)
      refine j_xr (by decide) ?_
      refine j_iret C hrt dX8_commands_123 ⟨by omega, by omega⟩ ?_
      rw [hNK] at hS4 hIe
      refine ⟨hp9, rfl, hNK, hKP5.st hS4 hIe.1.cc (by omega), hPA5, hR5, hKP5.st hS422 hcc (by omega) |>.q, hkm4.kp hKP5, ?_, ?_, ?_, ?_⟩
      · rw [hKP5.2.1 10 (by decide), h104, hz1]
      · rw [hKP5.1 68 (by decide) (by omega)]; exact h684
      · rw [hKP5.1 65 (by decide) (by omega)]; exact h654
      · rw [hKP5.1 66 (by decide) (by omega)]; exact h664
    · -- 62 F
      refine j_aload0 C dX8_commands_65 ?_
      refine j_getr C fX8_12 at_0 rfl hR4.1 dX8_commands_66 ?_
      refine j_aload0 C dX8_commands_69 ?_
      refine j_getr C fX8_16 at_0 rfl hR4.2.1 dX8_commands_70 ?_
      refine j_cVV1 C (c_X7_copyFrom bs1 bs22 (by omega) (by exact hS4.q) (by exact hS422) (by exact hI)) oX7_copyFrom kX8_212 ⟨_, rfl, rfl⟩ (at_st bs1) ⟨by decide, by decide⟩ rfl (Nat.le_of_ble_eq_true rfl) ⟨by decide, by decide⟩ dX8_commands_73 ?_
      rintro W5 ⟨hF5, hS5⟩
      have hR5 := hR4.fr hF5 (by decide)
      have hR6 : CR (RF W5 65 12 ((excN σ (tD (ω.1 69) n) (tA (ω.1 69) n) (tB (ω.1 69) n) K 0) : Int)) := hR5
      obtain ⟨hj67, hj671⟩ := hj4 (by omega)
      have h675 : W5.1 67 = W4.1 67 := hF5.1 67 (by omega)
      refine j_aload0 C dX8_commands_76 ?_
      refine j_getr C fX8_37 at_0 rfl hR5.2.2.2.2.1 dX8_commands_77 ?_
      refine j_bipush C (by decide) dX8_commands_80 ?_
      refine j_iload1 C dX8_commands_82 ?_
      refine j_cVV2 C (c_X5_set at_65 ⟨by omega, by omega⟩ ⟨by omega, by omega⟩) oX5_set kX8_296 ⟨_, rfl, rfl⟩ at_65 ⟨by decide, by decide⟩ rfl (Nat.le_of_ble_eq_true rfl) ⟨by decide, by decide⟩ dX8_commands_83 ?_
      rintro _ rfl
      refine j_aload0 C dX8_commands_86 ?_
      refine j_getr C fX8_41 at_0 rfl hR6.2.2.2.2.2.1 dX8_commands_87 ?_
      refine j_aload0 C dX8_commands_90 ?_
      refine j_getr C fX8_44 at_0 rfl hR6.2.2.2.2.2.2.1 dX8_commands_91 ?_
      refine j_cVV1 C (c_X5_copyFrom at_66 at_67) oX5_copyFrom kX8_300 ⟨_, rfl, rfl⟩ at_66 ⟨by decide, by decide⟩ rfl (Nat.le_of_ble_eq_true rfl) ⟨by decide, by decide⟩ dX8_commands_94 ?_
      rintro _ rfl
      refine j_throwW hsl C hK2 hxt th_303 (List.mem_of_getElem? (i := 13) rfl) rfl dX8_commands_97 dX8_commands_100 dX8_commands_101 dX8_commands_104 dX8_commands_107 (by decide) (Nat.le_of_ble_eq_true rfl) ⟨by decide, by decide⟩ ⟨by decide, by decide⟩ ?_
      have e67 : (RF W5 65 12 ((excN σ (tD (ω.1 69) n) (tA (ω.1 69) n) (tB (ω.1 69) n) K 0) : Int)).1 67 = W4.1 67 := (show (RF W5 65 12 ((excN σ (tD (ω.1 69) n) (tA (ω.1 69) n) (tB (ω.1 69) n) K 0) : Int)).1 67 = W5.1 67 from wf_ne _ _ (by decide)).trans h675
      rw [e67]
      have hkm5 := ((hkm4.f1 hF5).rF (a := 65) (v := 12) (w := ((excN σ (tD (ω.1 69) n) (tA (ω.1 69) n) (tB (ω.1 69) n) K 0) : Int)) (Or.inl rfl)).rF (a := 66) (v := W4.1 67 0) (w := W4.1 67 1) (Or.inr rfl)
      have e0 : (RF (RF W5 65 12 ((excN σ (tD (ω.1 69) n) (tA (ω.1 69) n) (tB (ω.1 69) n) K 0) : Int)) 66 (W4.1 67 0) (W4.1 67 1)).1 0 = W4.1 0 := ((show _ = (RF W5 65 12 ((excN σ (tD (ω.1 69) n) (tA (ω.1 69) n) (tB (ω.1 69) n) K 0) : Int)).1 0 from wf_ne _ _ (by decide)).trans (wf_ne _ _ (by decide))).trans (hF5.1 0 (by omega))
      have ex : ∀ x, x ≠ 65 → x ≠ 66 → (RF (RF W5 65 12 ((excN σ (tD (ω.1 69) n) (tA (ω.1 69) n) (tB (ω.1 69) n) K 0) : Int)) 66 (W4.1 67 0) (W4.1 67 1)).1 x = W5.1 x := fun x q1 q2 => (show _ = (RF W5 65 12 ((excN σ (tD (ω.1 69) n) (tA (ω.1 69) n) (tB (ω.1 69) n) K 0) : Int)).1 x from wf_ne _ _ q2).trans (wf_ne _ _ q1)
      refine Or.inr ⟨rfl, hp9, by omega, (by unfold RF; exact (hS5.wx hcc (by omega)).wx hcc (by omega)), hPA4.of ⟨by omega, by omega⟩ (congrFun e0 5) (fun x _ _ => (ex x (by omega) (by omega)).trans (hF5.1 x (by omega))) (fun x _ => hF5.2.1 x (by omega)), hR6, qr_of (fun x _ _ => hF5.2.1 x (by omega)) hq4, hkm5, ?_, ?_, ?_, ?_, ?_, ?_⟩
      · rw [e0, h104, hz1]
      · rw [ex 68 (by decide) (by decide), hF5.1 68 (by omega)]; exact h684
      · exact (congrFun (show _ = (RF W5 65 12 ((excN σ (tD (ω.1 69) n) (tA (ω.1 69) n) (tB (ω.1 69) n) K 0) : Int)).1 65 from wf_ne _ _ (by decide)) 0).trans (RF_0 _ _ _ _)
      · exact (congrFun (show _ = (RF W5 65 12 ((excN σ (tD (ω.1 69) n) (tA (ω.1 69) n) (tB (ω.1 69) n) K 0) : Int)).1 65 from wf_ne _ _ (by decide)) 1).trans (RF_1 _ _ _ _)
      · rw [RF_0]; exact hj67
      · rw [RF_1]; exact hj671
  · -- 24 F
    refine j_throwW hsl C hK2 hxt th_98 (List.mem_of_getElem? (i := 12) rfl) rfl dX8_commands_27 dX8_commands_30 dX8_commands_31 dX8_commands_34 dX8_commands_37 (by decide) (Nat.le_of_ble_eq_true rfl) ⟨by decide, by decide⟩ ⟨by decide, by decide⟩ ?_
    exact Or.inl ⟨rfl, by omega, hS2, hPA2, hR2, hq2, hkm2, by rw [W2c_z, hz1], W2c_68, h652, h662⟩
