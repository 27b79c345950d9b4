/-! what the law checks of a row: that it comes out true -/
theorem crewUp_b1 (s : Row) (b : Int) : ∀ n k, crewUp s b n / 2 ^ k % 2 = 1 ↔ k < n ∧ sM s k 1 = 1 ∧ sM s k 3 = b := by
  intro n
  induction n with
  | zero => intro k; simp [crewUp]
  | succ n ih =>
    intro k
    unfold crewUp
    by_cases h : sM s n 1 = 1 ∧ sM s n 3 = b
    · rw [if_pos h, or_b1, ih]
      constructor
      · rintro (q | q)
        · exact ⟨by omega, q.2⟩
        · subst q; exact ⟨by omega, h⟩
      · rintro ⟨q1, q2⟩
        by_cases e : n = k
        · exact Or.inr e
        · exact Or.inl ⟨by omega, q2⟩
    · rw [if_neg h, Nat.or_zero, ih]
      constructor
      · rintro ⟨q1, q2⟩; exact ⟨by omega, q2⟩
      · rintro ⟨q1, q2⟩
        refine ⟨?_, q2⟩
        refine Decidable.byContradiction fun e => ?_
        have : k = n := by omega
        subst this; exact h q2
def outM (s : Row) : Nat → Nat
  | 0 => 0
  | n + 1 => outM s n ||| (if sM s n 1 = 1 then 2 ^ n else 0)
theorem outM_b1 (s : Row) : ∀ n k, outM s n / 2 ^ k % 2 = 1 ↔ k < n ∧ sM s k 1 = 1 := by
  intro n
  induction n with
  | zero => intro k; simp [outM]
  | succ n ih =>
    intro k
    unfold outM
    by_cases h : sM s n 1 = 1
    · rw [if_pos h, or_b1, ih]
      constructor
      · rintro (q | q)
        · exact ⟨by omega, q.2⟩
        · subst q; exact ⟨by omega, h⟩
      · rintro ⟨q1, q2⟩
        by_cases e : n = k
        · exact Or.inr e
        · exact Or.inl ⟨by omega, q2⟩
    · rw [if_neg h, Nat.or_zero, ih]
      constructor
      · rintro ⟨q1, q2⟩; exact ⟨by omega, q2⟩
      · rintro ⟨q1, q2⟩
        refine ⟨?_, q2⟩
        refine Decidable.byContradiction fun e => ?_
        have : k = n := by omega
        subst this; exact h q2
theorem outM_lt (s : Row) : ∀ n, outM s n < 2 ^ n := by
  intro n
  induction n with
  | zero => simp [outM]
  | succ n ih =>
    unfold outM
    refine Nat.or_lt_two_pow (Nat.lt_of_lt_of_le ih (Nat.pow_le_pow_right (by decide) (Nat.le_succ n))) ?_
    split
    · exact Nat.pow_lt_pow_right (by decide) (Nat.lt_succ_self n)
    · exact Nat.two_pow_pos _
/-- who is out, but for the crews of the first boats -/
def oR (s : Row) : Nat → Nat
  | 0 => outM s (cM s)
  | b + 1 => oR s b &&& (4294967295 - crewO s b)
theorem oR_b1 {M : Int} {s : Row} (hI : RI M s) : ∀ (b k : Nat), k < 32 → (oR s b / 2 ^ k % 2 = 1 ↔ (k < cM s ∧ sM s k 1 = 1) ∧ ∀ j : Nat, j < b → sM s k 3 ≠ j) := by
  intro b
  induction b with
  | zero => intro k _; show outM s (cM s) / 2 ^ k % 2 = 1 ↔ _; rw [outM_b1]; exact ⟨fun q => ⟨q, fun j hj => by omega⟩, fun q => q.1⟩
  | succ b ih =>
    intro k hk
    have hc := crewO_lt hI (b : Int)
    show (oR s b &&& (4294967295 - crewO s b)) / 2 ^ k % 2 = 1 ↔ _
    rw [and_b1, ih k hk, not_b1 _ (by omega) k hk]
    unfold crewO
    rw [crewUp_b1]
    constructor
    · rintro ⟨⟨q1, q2⟩, q3⟩
      refine ⟨q1, fun j hj => ?_⟩
      by_cases e : j = b
      · subst e; exact fun r => q3 ⟨q1.1, q1.2, r⟩
      · exact q2 j (by omega)
    · rintro ⟨q1, q2⟩
      exact ⟨⟨q1, fun j hj => q2 j (by omega)⟩, fun r => q2 b (by omega) r.2.2⟩
theorem oR_lt {M : Int} {s : Row} (hI : RI M s) : ∀ b, oR s b < 1024 := by
  intro b
  have gc := hI.c
  induction b with
  | zero => exact p10 (outM_lt s (cM s)) gc.1.2
  | succ b ih => exact Nat.lt_of_le_of_lt Nat.and_le_left ih
theorem oR_0 {M : Int} {s : Row} (hI : RI M s) (hW : WI s) : oR s (cB s) = 0 := by
  have gc := hI.c
  have gs := hI.s
  refine Decidable.byContradiction fun q => ?_
  obtain ⟨k, hk⟩ := bit_of_ne0 q
  have h10 := bit_lt (n := 10) (oR_lt hI _) hk
  obtain ⟨⟨h1, h2⟩, h3⟩ := (oR_b1 hI _ k (by omega)).mp hk
  obtain ⟨b1, b2, -⟩ := (hW.2.2.1 k h1).1 h2
  obtain ⟨j, hj⟩ := Int.eq_ofNat_of_zero_le b1
  exact h3 j (by omega) hj
theorem crew_bits {M : Int} {s : Row} (hI : RI M s) (b : Int) : bitsN (crewO s b) = cntUp s b (cM s) := by
  have gc := hI.c
  have e9 : bitsN (crewO s b) = bitsUp (crewO s b) (cM s) := bits_stop (crewUp_lt s b (cM s)) 10 gc.1.2
  rw [e9]
  refine (cnt_is _ (fun k hk => ?_)).symm
  unfold crewO
  rw [crewUp_b1]
  exact ⟨fun q => ⟨hk, q⟩, fun q => q.2⟩
theorem crew_none {M : Int} {s : Row} (hI : RI M s) (hW : WI s) {b : Nat} (hb : b < cB s) (h0 : sB s b 2 ≠ 1) : crewO s b = 0 := by
  refine Decidable.byContradiction fun q => ?_
  obtain ⟨k, hk⟩ := bit_of_ne0 q
  obtain ⟨h1, h2, h3⟩ := (crewUp_b1 s b (cM s) k).mp hk
  have := ((hW.2.2.1 k h1).1 h2).2.2
  rw [h3] at this
  exact h0 this
theorem crw_able {M : Int} {s : Row} (hI : RI M s) {b : Int} (hb : 0 ≤ b ∧ b < 3) (hs : 2 ≤ sB s b 1) (hw : ¬ 0 < whyC s b) : crw s b &&& (4294967295 - ableS s) = 0 := by
  have hw0 : whyC s b = 0 := by have := whyC_rg s b; omega
  have hk := crOk_of hI hb hs hw0
  have hA := ableS_lt hI
  refine Decidable.byContradiction fun q => ?_
  obtain ⟨k, hq⟩ := bit_of_ne0 q
  have h10 := bit_lt (n := 10) (show _ < 2 ^ 10 from Nat.lt_of_le_of_lt Nat.and_le_left (crw_lt hI b)) hq
  rw [and_b1, not_b1 _ (by omega) k (by omega)] at hq
  exact hq.2 (((crw_sets hI hk (sB s b 1 - 1).toNat (by omega)).1 k (by omega)).1 hq.1)
theorem vQ_why {M : Int} {s : Row} (hI : RI M s) {b : Int} (hb : 0 ≤ b ∧ b ≤ s 2 - 1) : (0 < whyC s b → vQ (qWear s b) = -900002 ∧ vQ (qGo s b) = -900002) ∧ (¬ 0 < whyC s b → 0 ≤ vQ (qWear s b) ∧ vQ (qGo s b) = (crw s b : Int)) := by
  have gc := hI.c
  unfold qWear qGo
  rw [if_neg (not_not_intro hb), if_neg (not_not_intro hb)]
  refine ⟨fun h => ?_, fun h => ?_⟩
  · rw [if_pos h, if_pos h]; exact ⟨rfl, rfl⟩
  · rw [if_neg h, if_neg h]
    exact ⟨(wsUp_rg hI (crw s b) (cM s) gc.1.2).1, rfl⟩
theorem vM0 {s : Row} {a : Int} (ha : 0 ≤ a ∧ a ≤ s 1 - 1) : vMem s a 0 = sM s a 0 := (vMem_e ha (by decide)).trans (by rw [if_neg (by decide), if_neg (by decide)])
theorem vM1 {s : Row} {a : Int} (ha : 0 ≤ a ∧ a ≤ s 1 - 1) : vMem s a 1 = sM s a 1 := (vMem_e ha (by decide)).trans (by rw [if_neg (by decide), if_neg (by decide)])
theorem vM2 {s : Row} {a : Int} (ha : 0 ≤ a ∧ a ≤ s 1 - 1) : vMem s a 2 = sM s a 2 := (vMem_e ha (by decide)).trans (by rw [if_neg (by decide), if_neg (by decide)])
theorem vM3 {s : Row} {a : Int} (ha : 0 ≤ a ∧ a ≤ s 1 - 1) : vMem s a 3 = sM s a 3 := (vMem_e ha (by decide)).trans (by rw [if_neg (by decide), if_neg (by decide)])
theorem vM4 {s : Row} {a : Int} (ha : 0 ≤ a ∧ a ≤ s 1 - 1) : vMem s a 4 = if sM s a 1 = 0 ∧ sM s a 2 < s 7 then 1 else 0 := (vMem_e ha (by decide)).trans (if_pos rfl)
theorem vM6 {s : Row} {a : Int} (ha : 0 ≤ a ∧ a ≤ s 1 - 1) : vMem s a 6 = sM s a 5 := (vMem_e ha (by decide)).trans (by rw [if_neg (by decide), if_pos (by decide)]; rfl)
theorem vM7 {s : Row} {a : Int} (ha : 0 ≤ a ∧ a ≤ s 1 - 1) : vMem s a 7 = sM s a 6 := (vMem_e ha (by decide)).trans (by rw [if_neg (by decide), if_pos (by decide)]; rfl)
