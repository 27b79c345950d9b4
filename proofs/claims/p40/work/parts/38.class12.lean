set_option maxRecDepth 100000 in
set_option maxHeartbeats 4000000 in
theorem c_X8_undo {Γ : Ga} {l : Launch} {ω : Wo} (hsl : l.stackTraces = false) (hR : CR ω) {σ : Row} (hS : St ω 1 σ) {M : Int} (hI : RI M σ) (hWI : WI σ)  {n D : Nat} {τ : Row} {Mt : Int} (hn : n ≤ 8) (h5 : ω.1 0 5 = (n : Int)) (hp : 0 < n → ω.2.1 64 (n - 1) = some D ∧ Bs D ∧ 22 ≤ D ∧ St ω D τ ∧ RI Mt τ) : XI Γ l yX8_undo cX8_undo 1 .int 6 1 [.ref (rl Γ 0)] ω (fun z ω' => z = (n : Int) - 1 ∧ 0 < n ∧ Fr 1 (wi ω 0 5 ((n : Int) - 1)) ω' ∧ St ω' 1 τ) (fun E ω' => ω = ω' ∧ E = eSt ∧ n = 0) := by
  refine MetX.ofJ (k := 0) [some (.ref (rl Γ 0))] (by decide) rfl rfl rfl (fun p e s mm args below meth c C hK2 hxt hrt => ?_)
  have hB := bs1
  have g := hI.s
  have gc := hI.c
  have gM := hI.2.1
  refine j_aload0 C dX8_undo_0 ?_
  refine j_geti C fX8_30 at_0 rfl h5 dX8_undo_1 (fun hr1 => ?_)
  refine j_if_gt C ⟨by omega, by omega⟩ dX8_undo_4 (fun hc4 => ?_) (fun hc4 => ?_)
  · -- 4 T
    obtain ⟨p1, p2, p3, p4, p5⟩ := hp (by omega)
    have pcc := p5.cc
    have p4w : St (wi ω 0 5 ((n : Int) - 1)) D τ := by rw [wi_wf]; exact p4.wx pcc (by omega)
    refine j_aload0 C dX8_undo_18 ?_
    refine j_dup C rfl dX8_undo_19 ?_
    refine j_geti C fX8_30 at_0 rfl h5 dX8_undo_20 (fun hr20 => ?_)
    refine j_iconst C dX8_undo_23 ?_
    refine j_isub C dX8_undo_24 ?_
    refine j_putI C fX8_30 at_0 rfl ty_0_5 ⟨by omega, by omega⟩ dX8_undo_25 ?_
    refine j_aload0 C dX8_undo_28 ?_
    refine j_getr C fX8_12 at_0 rfl hR.1 dX8_undo_29 ?_
    refine j_aload0 C dX8_undo_32 ?_
    refine j_getr C fX8_26 at_0 rfl hR.2.2.2.1 dX8_undo_33 ?_
    refine j_aload0 C dX8_undo_36 ?_
    refine j_geti C fX8_30 at_0 rfl (show _ = ((n : Int) - 1) from by rw [wi_wf, wf_same, up_same]) dX8_undo_37 (fun hr37 => ?_)
    refine j_aald C at_64 rfl (Cn := RX7) rfl (N := 8) rfl (by decide) ⟨by omega, by omega⟩ (show _ = some D from by rw [show ((n : Int) - 1).toNat = n - 1 by omega]; exact p1) dX8_undo_40 ?_
    refine j_cVV1 C (c_X7_copyFrom bs1 p2 (by omega) (show QR (wi ω 0 5 ((n : Int) - 1)) 1 from hS.q) (by exact p4w) (by exact p5)) oX7_copyFrom kX8_212 ⟨_, rfl, rfl⟩ (at_st bs1) ⟨by decide, by decide⟩ rfl (Nat.le_of_ble_eq_true rfl) ⟨by decide, by decide⟩ dX8_undo_41 ?_
    rintro W9 ⟨hF9, hS9⟩
    refine j_aload0 C dX8_undo_44 ?_
    refine j_geti C fX8_30 at_0 rfl (show _ = ((n : Int) - 1) from (congrFun (hF9.1 0 (by omega)) 5).trans (by rw [wi_wf, wf_same, up_same])) dX8_undo_45 (fun hr45 => ?_)
    refine j_xr (by decide) ?_
    refine j_iret C hrt dX8_undo_48 ⟨by omega, by omega⟩ ?_
    exact ⟨rfl, by omega, hF9, hS9⟩
  · -- 4 F
    refine j_throwW hsl C hK2 hxt th_276 (List.mem_of_getElem? (i := 15) rfl) rfl dX8_undo_7 dX8_undo_10 dX8_undo_11 dX8_undo_14 dX8_undo_17 (by decide) (Nat.le_of_ble_eq_true rfl) ⟨by decide, by decide⟩ ⟨by decide, by decide⟩ ?_
    exact ⟨rfl, rfl, by omega⟩
set_option maxRecDepth 100000 in
set_option maxHeartbeats 4000000 in
theorem c_X8_save {Γ : Ga} {l : Launch} {ω : Wo} (hsl : l.stackTraces = false) (hR : CR ω) {σ : Row} (hS : St ω 1 σ) {M : Int} (hI : RI M σ) (hWI : WI σ)  (hq : QR ω 43) : CI Γ l yX8_save cX8_save 1 .int 2 [.ref (rl Γ 0)] ω (fun z ω' => z = σ 0 ∧ ∃ W, Fr 43 ω W ∧ St W 43 σ ∧ ω' = wi W 0 3 1) := by
  refine Met.ofJ (k := 0) [some (.ref (rl Γ 0))] (by decide) rfl rfl rfl (fun p e s mm args below meth c C hrt => ?_)
  have hB := bs1
  have g := hI.s
  have gc := hI.c
  have gM := hI.2.1
  refine j_aload0 C dX8_save_0 ?_
  refine j_getr C fX8_19 at_0 rfl hR.2.2.1 dX8_save_1 ?_
  refine j_aload0 C dX8_save_4 ?_
  refine j_getr C fX8_12 at_0 rfl hR.1 dX8_save_5 ?_
  refine j_cVV1 C (c_X7_copyFrom bs43 bs1 (by omega) hq (by exact hS) (by exact hI)) oX7_copyFrom kX8_212 ⟨_, rfl, rfl⟩ (at_st bs43) ⟨by decide, by decide⟩ rfl (Nat.le_of_ble_eq_true rfl) ⟨by decide, by decide⟩ dX8_save_8 ?_
  rintro W9 ⟨hF9, hS9⟩
  have hcc := hI.cc
  have hS1w : St (wi W9 0 3 1) 1 σ := by rw [wi_wf]; exact (hS.fr hcc (fun x _ _ => hF9.1 x (by omega)) (fun x _ _ => hF9.2.1 x (by omega))).wx hcc (by omega)
  have hR9 := hR.fr hF9 (by decide)
  refine j_aload0 C dX8_save_11 ?_
  refine j_iconst C dX8_save_12 ?_
  refine j_putB C fX8_22 at_0 rfl ty_0_3 (Or.inr rfl) dX8_save_13 ?_
  refine j_aload0 C dX8_save_16 ?_
  refine j_getr C fX8_12 at_0 rfl hR9.1 dX8_save_17 ?_
  refine j_geti C fX8_105 (at_st bs1) rfl hS1w.c6 dX8_save_20 (fun hr20 => ?_)
  refine j_iret C hrt dX8_save_23 ⟨by omega, by omega⟩ ?_
  exact ⟨rfl, W9, hF9, hS9, rfl⟩
set_option maxRecDepth 100000 in
set_option maxHeartbeats 4000000 in
theorem c_X8_restore {Γ : Ga} {l : Launch} {ω : Wo} (hsl : l.stackTraces = false) (hR : CR ω) {σ : Row} (hS : St ω 1 σ) {M : Int} (hI : RI M σ) (hWI : WI σ)  {v : Int} {τ : Row} {Mt : Int} (h3 : ω.1 0 3 = v) (hp : v ≠ 0 → St ω 43 τ ∧ RI Mt τ) : XI Γ l yX8_restore cX8_restore 1 .int 6 1 [.ref (rl Γ 0)] ω (fun z ω' => z = τ 0 ∧ v ≠ 0 ∧ ∃ W, Fr 1 ω W ∧ St W 1 τ ∧ ω' = wi W 0 5 0) (fun E ω' => ω = ω' ∧ E = eSt ∧ v = 0) := by
  refine MetX.ofJ (k := 0) [some (.ref (rl Γ 0))] (by decide) rfl rfl rfl (fun p e s mm args below meth c C hK2 hxt hrt => ?_)
  have hB := bs1
  have g := hI.s
  have gc := hI.c
  have gM := hI.2.1
  refine j_aload0 C dX8_restore_0 ?_
  refine j_geti C fX8_22 at_0 rfl h3 dX8_restore_1 (fun hr1 => ?_)
  refine j_if_ne C ⟨by omega, by omega⟩ dX8_restore_4 (fun hc4 => ?_) (fun hc4 => ?_)
  · -- 4 T
    obtain ⟨p4, p5⟩ := hp (by omega)
    refine j_aload0 C dX8_restore_18 ?_
    refine j_getr C fX8_12 at_0 rfl hR.1 dX8_restore_19 ?_
    refine j_aload0 C dX8_restore_22 ?_
    refine j_getr C fX8_19 at_0 rfl hR.2.2.1 dX8_restore_23 ?_
    refine j_cVV1 C (c_X7_copyFrom bs1 bs43 (by omega) hS.q (by exact p4) (by exact p5)) oX7_copyFrom kX8_212 ⟨_, rfl, rfl⟩ (at_st bs1) ⟨by decide, by decide⟩ rfl (Nat.le_of_ble_eq_true rfl) ⟨by decide, by decide⟩ dX8_restore_26 ?_
    rintro W9 ⟨hF9, hS9⟩
    have hcc := p5.cc
    have hS1w : St (wi W9 0 5 0) 1 τ := by rw [wi_wf]; exact hS9.wx hcc (by omega)
    have hR9 := hR.fr hF9 (by decide)
    refine j_aload0 C dX8_restore_29 ?_
    refine j_iconst C dX8_restore_30 ?_
    refine j_putI C fX8_30 at_0 rfl ty_0_5 ⟨by omega, by omega⟩ dX8_restore_31 ?_
    refine j_aload0 C dX8_restore_34 ?_
    refine j_getr C fX8_12 at_0 rfl hR9.1 dX8_restore_35 ?_
    refine j_geti C fX8_105 (at_st bs1) rfl hS1w.c6 dX8_restore_38 (fun hr38 => ?_)
    refine j_xr (by decide) ?_
    refine j_iret C hrt dX8_restore_41 ⟨by omega, by omega⟩ ?_
    exact ⟨rfl, by omega, W9, hF9, hS9, rfl⟩
  · -- 4 F
    refine j_throwW hsl C hK2 hxt th_276 (List.mem_of_getElem? (i := 16) rfl) rfl dX8_restore_7 dX8_restore_10 dX8_restore_11 dX8_restore_14 dX8_restore_17 (by decide) (Nat.le_of_ble_eq_true rfl) ⟨by decide, by decide⟩ ⟨by decide, by decide⟩ ?_
    exact ⟨rfl, rfl, by omega⟩
