/-! the two begin alike -/
abbrev om9 : Wo := MDN (pst 8)
theorem pst_i {x : Nat} (h : ∀ k, k < 8 → x ≠ 75 + 21 * k) : ∀ k, k ≤ 8 → (pst k).1 x = BRB.1 x := by
  intro k
  induction k with
  | zero => intro _; rfl
  | succ k ih =>
    intro hk
    show (STN (pst k) (75 + 21 * k)).1 x = _
    rw [STN_i (h k (by omega))]
    exact ih (by omega)
theorem BRB_i {x : Nat} (h0 : x ≠ 0) (h1 : x ≠ 1) (h2 : x ≠ 22) (h3 : x ≠ 43) : BRB.1 x = fun _ => 0 := by
  have a1 : BRB.1 x = (wi (wr (SCN BR4) 0 9 (some 68)) 0 10 (-1)).1 x := rfl
  have a2 : (wi (wr (SCN BR4) 0 9 (some 68)) 0 10 (-1)).1 x = (STN BR2 43).1 x := (wi_ne h0).trans rfl
  rw [a1, a2, STN_i h3]
  show (STN BR1 22).1 x = _
  rw [STN_i h2]
  show (STN om0 1).1 x = _
  rw [STN_i h1]; rfl
theorem om9_i {x : Nat} (h0 : x ≠ 0) (h1 : x ≠ 1) (h2 : x ≠ 22) (h3 : x ≠ 43) (h4 : ∀ k, k < 8 → x ≠ 75 + 21 * k) (h5 : x ≠ 243) (h6 : x ≠ 244) : om9.1 x = fun _ => 0 := by
  show (wi (wr (wr (wr (wi (wr (wr (wr (wr (wr (pst 8) 243 0 (some 244)) 243 1 (some 245)) 243 2 (some 246)) 243 3 (some 247)) 243 4 (some 248)) 243 11 (-1)) 243 13 (some 249)) 243 14 (some 250)) 243 18 (some 251)) 244 7 8).1 x = _
  rw [wi_ne h6]
  show (wi (wr (wr (wr (wr (wr (pst 8) 243 0 (some 244)) 243 1 (some 245)) 243 2 (some 246)) 243 3 (some 247)) 243 4 (some 248)) 243 11 (-1)).1 x = _
  rw [wi_ne h5]
  show (pst 8).1 x = _
  rw [pst_i h4 8 (Nat.le_refl _), BRB_i h0 h1 h2 h3]
theorem pst_z {x : Nat} (h0 : x ≠ 0) (h1 : x ≠ 1) (h2 : x ≠ 22) (h3 : x ≠ 43) (h4 : ∀ k, k < 8 → x ≠ 75 + 21 * k) : (pst 8).1 x = fun _ => 0 := by
  rw [pst_i h4 8 (Nat.le_refl _), BRB_i h0 h1 h2 h3]
theorem pst_zr {x : Nat} (hx : 243 ≤ x) : ∀ k, k ≤ 8 → (pst k).2.1 x = fun _ => none := by
  intro k
  induction k with
  | zero =>
    intro _
    show (wr (wr BR5 73 0 (some 74)) 0 11 (some 73)).2.1 x = _
    rw [wr_ne (by omega), wr_ne (by omega)]
    show (wr (SCN BR4) 0 9 (some 68)).2.1 x = _
    rw [wr_ne (by omega)]
    show (wr (wr (wr (wr BR4 68 0 (some 69)) 68 2 (some 70)) 68 3 (some 71)) 68 4 (some 72)).2.1 x = _
    rw [wr_ne (by omega), wr_ne (by omega), wr_ne (by omega), wr_ne (by omega)]
    show (wr (wr (wr (wr (wr (STN BR2 43) 0 2 (some 43)) 0 4 (some 64)) 0 6 (some 65)) 0 7 (some 66)) 0 8 (some 67)).2.1 x = _
    rw [wr_ne (by omega), wr_ne (by omega), wr_ne (by omega), wr_ne (by omega), wr_ne (by omega), STN_r (by omega)]
    show (wr (STN BR1 22) 0 1 (some 22)).2.1 x = _
    rw [wr_ne (by omega), STN_r (by omega)]
    show (wr (STN om0 1) 0 0 (some 1)).2.1 x = _
    rw [wr_ne (by omega), STN_r (by omega)]; rfl
  | succ k ih => intro hk; exact ((wr_ne (by omega)).trans (STN_r (by omega))).trans (ih (by omega))
theorem ZN_pst {n : Nat} (hn : 243 ≤ n) : ZN (pst 8) n := fun x hx => ⟨pst_z (by omega) (by omega) (by omega) (by omega) (fun k hk => by omega), pst_zr (by omega) 8 (Nat.le_refl _)⟩
theorem MDN_4 (ω : Wo) (y : Nat) : (MDN ω).1 244 y = if y = 7 then 8 else ω.1 244 y := by
  unfold MDN wi wr
  simp
theorem s0_at (y : Nat) : om9.1 244 y = if y = 7 then 8 else 0 := by
  have e : (pst 8).1 244 = fun _ => 0 := pst_z (by decide) (by decide) (by decide) (by decide) (fun k hk => by omega)
  rw [show om9.1 244 y = _ from MDN_4 (pst 8) y, e]
theorem s0_z (y : Nat) (h : y ≠ 7) : om9.1 244 y = 0 := by rw [s0_at, if_neg h]
theorem s0_ri : RI 1000 (om9.1 244) := by
  refine ⟨by decide, by decide, fun y => ?_⟩
  rw [s0_at]
  by_cases h : y = 7
  · subst h; decide
  · rw [if_neg h]
    unfold lo hiC
    constructor
    · repeat' split
      all_goals omega
    · repeat' split
      all_goals (try simp)
      all_goals omega
theorem s0_m (k w : Int) (hk : 0 ≤ k) (hw : 0 ≤ w) : sM (om9.1 244) k w = 0 := s0_z _ (by omega)
theorem s0_c : cM (om9.1 244) = 0 ∧ cB (om9.1 244) = 0 ∧ cL (om9.1 244) = 0 := by
  unfold cM cB cL
  rw [s0_z 1 (by decide), s0_z 2 (by decide), s0_z 3 (by decide)]
  decide
theorem s0_wi : WI (om9.1 244) := by
  refine ⟨fun k hk h => ?_, fun b hb => ?_, fun k hk => ?_, fun b hb => ?_⟩
  · rw [s0_m _ _ (by omega) (by decide)] at h; exact absurd h (by decide)
  · rw [s0_z 2 (by decide)] at hb; omega
  · rw [s0_c.1] at hk; omega
  · rw [s0_c.2.1] at hb; omega
theorem SR.of3 {r : Rf} {B : Nat} (h : r B 0 = some (B + 1) ∧ r B 1 = some (B + 2) ∧ r B 2 = some (B + 3) ∧ (∀ k, k < 10 → r (B + 1) k = some (B + 4 + k)) ∧ (∀ k, k < 3 → r (B + 2) k = some (B + 14 + k)) ∧ ∀ k, k < 4 → r (B + 3) k = some (B + 17 + k)) : SR r B :=
  ⟨h.1, h.2.1, h.2.2.1, h.2.2.2.1, h.2.2.2.2.1, fun k => k, fun k hk => ⟨hk, h.2.2.2.2.2 k hk⟩, fun _ _ _ _ q => q⟩
set_option maxRecDepth 100000 in
theorem om9_q1 : QR om9 1 := SR.of3 (by decide +kernel)
set_option maxRecDepth 100000 in
theorem om9_q22 : QR om9 22 := SR.of3 (by decide +kernel)
set_option maxRecDepth 100000 in
theorem om9_q43 : QR om9 43 := SR.of3 (by decide +kernel)
set_option maxRecDepth 100000 in
theorem om9_past : ∀ j, j < 8 → om9.2.1 64 j = some (75 + 21 * j) ∧ (om9.2.1 (75 + 21 * j) 0 = some (75 + 21 * j + 1) ∧ om9.2.1 (75 + 21 * j) 1 = some (75 + 21 * j + 2) ∧ om9.2.1 (75 + 21 * j) 2 = some (75 + 21 * j + 3) ∧ (∀ k, k < 10 → om9.2.1 (75 + 21 * j + 1) k = some (75 + 21 * j + 4 + k)) ∧ (∀ k, k < 3 → om9.2.1 (75 + 21 * j + 2) k = some (75 + 21 * j + 14 + k)) ∧ ∀ k, k < 4 → om9.2.1 (75 + 21 * j + 3) k = some (75 + 21 * j + 17 + k)) := by decide +kernel
set_option maxRecDepth 100000 in
theorem om9_wm : WM om9.2.1 := by unfold WM; decide +kernel
set_option maxRecDepth 100000 in
theorem om9_cr : CR om9 := by unfold CR; decide +kernel
set_option maxRecDepth 100000 in
theorem om9_vals : (om9.1 1 3 = 0 ∧ om9.1 1 4 = 0 ∧ om9.1 1 5 = 0 ∧ om9.1 1 6 = 0 ∧ om9.1 1 7 = 8 ∧ om9.1 1 8 = 0 ∧ om9.1 1 9 = 0 ∧ om9.1 1 10 = 0) ∧ om9.1 0 5 = 0 ∧ om9.1 243 5 = 0 ∧ om9.1 0 3 = 0 ∧ om9.1 243 12 = 0 ∧ (om9.1 243 7 = 0 ∧ om9.1 243 8 = 0 ∧ om9.1 243 9 = 0 ∧ om9.1 243 10 = 0) ∧ om9.1 0 10 = -1 ∧ om9.1 243 11 = -1 ∧ om9.1 243 15 = 0 ∧ om9.1 243 19 = 0 := by decide +kernel
theorem om9_z {x : Nat} (h : (64 ≤ x ∧ x < 75) ∨ 245 ≤ x) : om9.1 x = fun _ => 0 := om9_i (by omega) (by omega) (by omega) (by omega) (fun k hk => by omega) (by omega) (by omega)
theorem pst_d : ∀ k, (pst k).2.2 = 0 := by
  intro k
  induction k with
  | zero =>
    show (STN BR2 43).2.2 = 0
    rw [STN_d]
    show (STN BR1 22).2.2 = 0
    rw [STN_d]
    show (STN om0 1).2.2 = 0
    rw [STN_d]; rfl
  | succ k ih => show (STN (pst k) (75 + 21 * k)).2.2 = 0; rw [STN_d]; exact ih
theorem om9_d : om9.2.2 = 0 := by
  show (pst 8).2.2 = 0
  exact pst_d 8
theorem PA_of {M : Int} {ω : Wo} {h : Nat → Row} (h5 : ω.1 0 5 = 0) (hp : ∀ j, j < 8 → ω.2.1 64 j = some (75 + 21 * j) ∧ SR ω.2.1 (75 + 21 * j)) : PA M ω 0 h :=
  ⟨h5, Nat.zero_le 8, fun j => j, fun j hj => ⟨hj, (hp j hj).1, (hp j hj).2⟩, fun _ _ _ _ q => q, fun j hj => absurd hj (Nat.not_lt_zero j)⟩
theorem om9_past2 : ∀ j, j < 8 → om9.2.1 64 j = some (75 + 21 * j) ∧ SR om9.2.1 (75 + 21 * j) := fun j hj => ⟨(om9_past j hj).1, SR.of3 (om9_past j hj).2⟩
theorem INV_0 : INV 1000 om9 := by
  obtain ⟨⟨a3, a4, a5, a6, a7, a8, a9, a10⟩, b5, b6, b3, b12, ⟨c7, c8, c9, c10⟩, d0, d11, d15, d19⟩ := om9_vals
  refine ⟨⟨om9_wm, om9_cr⟩, ⟨⟨om9_q1, ?_, ?_, ?_, ?_⟩, s0_ri, s0_wi⟩, ?_, ?_, om9_q22, ?_, d0.trans d11.symm, ?_, ?_, ?_⟩
  · refine ⟨?_, ?_, ?_, ?_, ?_, ?_, ?_, ?_⟩
    · rw [a3, s0_z 1 (by decide)]
    · rw [a4, s0_z 2 (by decide)]
    · rw [a5, s0_z 3 (by decide)]
    · rw [a6, s0_z 0 (by decide)]
    · rw [a7, s0_at]; rfl
    · rw [a8, s0_z 4 (by decide)]
    · rw [a9, s0_z 5 (by decide)]
    · rw [a10, s0_z 6 (by decide)]
  · intro k hk; rw [s0_c.1] at hk; omega
  · intro k hk; rw [s0_c.2.1] at hk; omega
  · intro k hk; rw [s0_c.2.2] at hk; omega
  · refine ⟨0, fun _ => om9.1 244, PA_of b5 om9_past2, b6, fun j hj => absurd hj (by omega)⟩
  · exact ⟨b3.trans b12.symm, fun q => absurd b12 q, om9_q43, Or.inl b12⟩
  · unfold RFr
    rw [om9_z (x := 65) (by omega), om9_z (x := 66) (by omega), c7, c8, c9, c10]
    exact ⟨rfl, rfl, rfl, fun _ => rfl⟩
  · refine ⟨0, by decide, ?_, d15, ?_⟩
    · rw [om9_z (x := 68) (by omega)]; rfl
    · rw [om9_z (x := 69) (by omega), om9_z (x := 249) (by omega)]
  · refine ⟨[], by decide, ⟨?_, ?_, hol_nil _, fun v hv => absurd hv List.not_mem_nil⟩, d19, hol_nil _⟩
    · rw [om9_z (x := 73) (by omega)]
    · rw [om9_z (x := 73) (by omega)]; rfl
  · exact ⟨fun y _ => by rw [om9_z (x := 245) (by omega)], fun y _ => by rw [om9_z (x := 246) (by omega)], fun y _ => by rw [om9_z (x := 247) (by omega)]⟩
