/-! the rota as it begins -/
theorem pst_i {x : Nat} (h : ∀ k, k < 8 → x ≠ 75 + 21 * k) : ∀ k, k ≤ 8 → (pst k).1 x = BRB.1 x := by
  intro k
  induction k with
  | zero => intro _; rfl
  | succ k ih =>
    intro hk
    show (STN (pst k) (75 + 21 * k)).1 x = _
    rw [STN_i (h k (by omega))]
    exact ih (by omega)
theorem BRB_i {x : Nat} (h0 : x ≠ 0) (h1 : x ≠ 1) (h2 : x ≠ 22) (h3 : x ≠ 43) : BRB.1 x = fun _ => 0 := by
  have a1 : BRB.1 x = (wi (wr (SCN BR4) 0 9 (some 68)) 0 10 (-1)).1 x := rfl
  have a2 : (wi (wr (SCN BR4) 0 9 (some 68)) 0 10 (-1)).1 x = (STN BR2 43).1 x := (wi_ne h0).trans rfl
  rw [a1, a2, STN_i h3]
  show (STN BR1 22).1 x = _
  rw [STN_i h2]
  show (STN om0 1).1 x = _
  rw [STN_i h1]; rfl
theorem pst_z {x : Nat} (h0 : x ≠ 0) (h1 : x ≠ 1) (h2 : x ≠ 22) (h3 : x ≠ 43) (h4 : ∀ k, k < 8 → x ≠ 75 + 21 * k) : (pst 8).1 x = fun _ => 0 := by
  rw [pst_i h4 8 (Nat.le_refl _), BRB_i h0 h1 h2 h3]
theorem pst_zr {x : Nat} (hx : 243 ≤ x) : ∀ k, k ≤ 8 → (pst k).2.1 x = fun _ => none := by
  intro k
  induction k with
  | zero =>
    intro _
    show (wr (wr BR5 73 0 (some 74)) 0 11 (some 73)).2.1 x = _
    rw [wr_ne (by omega), wr_ne (by omega)]
    show (wr (SCN BR4) 0 9 (some 68)).2.1 x = _
    rw [wr_ne (by omega)]
    show (wr (wr (wr (wr BR4 68 0 (some 69)) 68 2 (some 70)) 68 3 (some 71)) 68 4 (some 72)).2.1 x = _
    rw [wr_ne (by omega), wr_ne (by omega), wr_ne (by omega), wr_ne (by omega)]
    show (wr (wr (wr (wr (wr (STN BR2 43) 0 2 (some 43)) 0 4 (some 64)) 0 6 (some 65)) 0 7 (some 66)) 0 8 (some 67)).2.1 x = _
    rw [wr_ne (by omega), wr_ne (by omega), wr_ne (by omega), wr_ne (by omega), wr_ne (by omega), STN_r (by omega)]
    show (wr (STN BR1 22) 0 1 (some 22)).2.1 x = _
    rw [wr_ne (by omega), STN_r (by omega)]
    show (wr (STN om0 1) 0 0 (some 1)).2.1 x = _
    rw [wr_ne (by omega), STN_r (by omega)]; rfl
  | succ k ih => intro hk; exact ((wr_ne (by omega)).trans (STN_r (by omega))).trans (ih (by omega))
theorem ZN_pst {n : Nat} (hn : 243 ≤ n) : ZN (pst 8) n := fun x hx => ⟨pst_z (by omega) (by omega) (by omega) (by omega) (fun k hk => by omega), pst_zr (by omega) 8 (Nat.le_refl _)⟩
def s00 : Row := fun y => if y = 7 then 8 else 0
theorem s0_at (y : Nat) : s00 y = if y = 7 then 8 else 0 := rfl
theorem s0_z (y : Nat) (h : y ≠ 7) : s00 y = 0 := by rw [s0_at, if_neg h]
theorem s0_ri : RI 1000 (s00) := by
  refine ⟨by decide, by decide, fun y => ?_⟩
  rw [s0_at]
  by_cases h : y = 7
  · subst h; decide
  · rw [if_neg h]
    unfold lo hiC
    constructor
    · repeat' split
      all_goals omega
    · repeat' split
      all_goals (try simp)
      all_goals omega
theorem s0_m (k w : Int) (hk : 0 ≤ k) (hw : 0 ≤ w) : sM (s00) k w = 0 := s0_z _ (by omega)
theorem s0_c : cM (s00) = 0 ∧ cB (s00) = 0 ∧ cL (s00) = 0 := by
  unfold cM cB cL
  rw [s0_z 1 (by decide), s0_z 2 (by decide), s0_z 3 (by decide)]
  decide
theorem s0_wi : WI (s00) := by
  refine ⟨fun k hk h => ?_, fun b hb => ?_, fun k hk => ?_, fun b hb => ?_⟩
  · rw [s0_m _ _ (by omega) (by decide)] at h; exact absurd h (by decide)
  · rw [s0_z 2 (by decide)] at hb; omega
  · rw [s0_c.1] at hk; omega
  · rw [s0_c.2.1] at hb; omega
theorem SR.of3 {r : Rf} {B : Nat} (h : r B 0 = some (B + 1) ∧ r B 1 = some (B + 2) ∧ r B 2 = some (B + 3) ∧ (∀ k, k < 10 → r (B + 1) k = some (B + 4 + k)) ∧ (∀ k, k < 3 → r (B + 2) k = some (B + 14 + k)) ∧ ∀ k, k < 4 → r (B + 3) k = some (B + 17 + k)) : SR r B :=
  ⟨h.1, h.2.1, h.2.2.1, h.2.2.2.1, h.2.2.2.2.1, fun k => k, fun k hk => ⟨hk, h.2.2.2.2.2 k hk⟩, fun _ _ _ _ q => q⟩
set_option maxRecDepth 100000 in
theorem pst_q1 : QR (pst 8) 1 := SR.of3 (by decide +kernel)
set_option maxRecDepth 100000 in
theorem pst_q22 : QR (pst 8) 22 := SR.of3 (by decide +kernel)
set_option maxRecDepth 100000 in
theorem pst_q43 : QR (pst 8) 43 := SR.of3 (by decide +kernel)
set_option maxRecDepth 100000 in
theorem pst_past : ∀ j, j < 8 → (pst 8).2.1 64 j = some (75 + 21 * j) ∧ ((pst 8).2.1 (75 + 21 * j) 0 = some (75 + 21 * j + 1) ∧ (pst 8).2.1 (75 + 21 * j) 1 = some (75 + 21 * j + 2) ∧ (pst 8).2.1 (75 + 21 * j) 2 = some (75 + 21 * j + 3) ∧ (∀ k, k < 10 → (pst 8).2.1 (75 + 21 * j + 1) k = some (75 + 21 * j + 4 + k)) ∧ (∀ k, k < 3 → (pst 8).2.1 (75 + 21 * j + 2) k = some (75 + 21 * j + 14 + k)) ∧ ∀ k, k < 4 → (pst 8).2.1 (75 + 21 * j + 3) k = some (75 + 21 * j + 17 + k)) := by decide +kernel
set_option maxRecDepth 100000 in
theorem pst_cr : CR (pst 8) := by unfold CR; decide +kernel
set_option maxRecDepth 100000 in
theorem pst_vals : ((pst 8).1 1 3 = 0 ∧ (pst 8).1 1 4 = 0 ∧ (pst 8).1 1 5 = 0 ∧ (pst 8).1 1 6 = 0 ∧ (pst 8).1 1 7 = 8 ∧ (pst 8).1 1 8 = 0 ∧ (pst 8).1 1 9 = 0 ∧ (pst 8).1 1 10 = 0) ∧ (pst 8).1 0 5 = 0 ∧ (pst 8).1 0 3 = 0 := by decide +kernel
theorem PA_of {M : Int} {ω : Wo} {h : Nat → Row} (h5 : ω.1 0 5 = 0) (hp : ∀ j, j < 8 → ω.2.1 64 j = some (75 + 21 * j) ∧ SR ω.2.1 (75 + 21 * j)) : PA M ω 0 h :=
  ⟨h5, Nat.zero_le 8, fun j => j, fun j hj => ⟨hj, (hp j hj).1, (hp j hj).2⟩, fun _ _ _ _ q => q, fun j hj => absurd hj (Nat.not_lt_zero j)⟩
theorem pst_past2 : ∀ j, j < 8 → (pst 8).2.1 64 j = some (75 + 21 * j) ∧ SR (pst 8).2.1 (75 + 21 * j) := fun j hj => ⟨(pst_past j hj).1, SR.of3 (pst_past j hj).2⟩
theorem s0_wj : WJ s00 := by
  refine ⟨fun k hk => ?_, fun b hb => ?_, ?_, ?_⟩
  · rw [s0_c.1] at hk; omega
  · rw [s0_c.2.1] at hb; omega
  · unfold outO allO
    rw [s0_c.2.1, s0_c.2.2]
    show (0 : Int) ≤ 6
    decide
  · rw [s0_z 4 (by decide), s0_z 5 (by decide), s0_c.2.1]; rfl
theorem INV_0 : INV 1000 (pst 8) s00 0 (fun _ => s00) := by
  obtain ⟨⟨a3, a4, a5, a6, a7, a8, a9, a10⟩, b5, b3⟩ := pst_vals
  refine ⟨pst_cr, ⟨⟨pst_q1, ?_, ?_, ?_, ?_⟩, s0_ri, s0_wi, s0_wj⟩, ⟨PA_of b5 pst_past2, fun j hj => absurd hj (by omega)⟩, ⟨pst_q22, pst_q43⟩, ?_⟩
  · refine ⟨?_, ?_, ?_, ?_, ?_, ?_, ?_, ?_⟩
    · rw [a3, s0_z 1 (by decide)]
    · rw [a4, s0_z 2 (by decide)]
    · rw [a5, s0_z 3 (by decide)]
    · rw [a6, s0_z 0 (by decide)]
    · rw [a7, s0_at]; rfl
    · rw [a8, s0_z 4 (by decide)]
    · rw [a9, s0_z 5 (by decide)]
    · rw [a10, s0_z 6 (by decide)]
  · intro k hk; rw [s0_c.1] at hk; omega
  · intro k hk; rw [s0_c.2.1] at hk; omega
  · intro k hk; rw [s0_c.2.2] at hk; omega
  · rw [pst_z (x := 68) (by decide) (by decide) (by decide) (by decide) (fun k hk => by omega)]
