/-! who is chosen: sets -/
theorem or_b1 (x k j : Nat) : (x ||| 2 ^ k) / 2 ^ j % 2 = 1 ↔ x / 2 ^ j % 2 = 1 ∨ k = j := by
  rw [bt1_tb, bt1_tb, Nat.testBit_or, Nat.testBit_two_pow]; simp
theorem pow_b1 (k j : Nat) : 2 ^ k / 2 ^ j % 2 = 1 ↔ k = j := by
  rw [bt1_tb, Nat.testBit_two_pow]; simp
theorem lstUp_bit {s : Row} {x : Nat} {sk : Int} : ∀ n, 0 ≤ lstUp s x sk n → (lstUp s x sk n).toNat < n ∧ x / 2 ^ (lstUp s x sk n).toNat % 2 = 1 ∧ sk ≤ sM s (lstUp s x sk n) 0 := by
  intro n
  induction n with
  | zero => intro h; simp [lstUp] at h
  | succ n ih =>
    unfold lstUp
    split
    · rename_i h
      intro _
      rw [Int.toNat_natCast]
      exact ⟨by omega, h.1.1, h.1.2⟩
    · intro h
      obtain ⟨h1, h2, h3⟩ := ih h
      exact ⟨by omega, h2, h3⟩
theorem lstUp_min {s : Row} {x : Nat} {sk : Int} : ∀ (n j : Nat), j < n → x / 2 ^ j % 2 = 1 → sk ≤ sM s j 0 → 0 ≤ lstUp s x sk n ∧ sM s (lstUp s x sk n) 2 ≤ sM s j 2 := by
  intro n
  induction n with
  | zero => intro j hj; omega
  | succ n ih =>
    intro j hj hb hs
    unfold lstUp
    by_cases hjn : j < n
    · obtain ⟨h1, h2⟩ := ih j hjn hb hs
      split
      · rename_i h
        exact ⟨by omega, by omega⟩
      · exact ⟨h1, h2⟩
    · have : j = n := by omega
      subst this
      split
      · exact ⟨by omega, Int.le_refl _⟩
      · rename_i h
        have h9 : ¬ (lstUp s x sk j < 0 ∨ sM s j 2 < sM s (lstUp s x sk j) 2) := fun q => h ⟨⟨hb, hs⟩, q⟩
        omega
theorem lst_bit {s : Row} {x : Nat} {sk : Int} (h : 0 ≤ lst s x sk) : (lst s x sk).toNat < cM s ∧ x / 2 ^ (lst s x sk).toNat % 2 = 1 ∧ sk ≤ sM s (lst s x sk) 0 := lstUp_bit _ h
theorem lst_min {s : Row} {x : Nat} {sk : Int} {j : Nat} (hj : j < cM s) (hb : x / 2 ^ j % 2 = 1) (hs : sk ≤ sM s j 0) : 0 ≤ lst s x sk ∧ sM s (lst s x sk) 2 ≤ sM s j 2 := lstUp_min _ j hj hb hs
theorem bits_or {x k : Nat} (h : ¬ x / 2 ^ k % 2 = 1) : ∀ n, bitsUp (x ||| 2 ^ k) n = bitsUp x n + (if k < n then 1 else 0) := by
  intro n
  induction n with
  | zero => rfl
  | succ n ih =>
    unfold bitsUp
    rw [ih]
    have h1 := or_b1 x k n
    have m1 := Nat.mod_lt ((x ||| 2 ^ k) / 2 ^ n) (show 0 < 2 by decide)
    have m2 := Nat.mod_lt (x / 2 ^ n) (show 0 < 2 by decide)
    by_cases e : k = n
    · subst e
      have h2 : (x ||| 2 ^ k) / 2 ^ k % 2 = 1 := h1.mpr (Or.inr rfl)
      rw [if_neg (by omega), if_pos (by omega)]
      omega
    · have h2 : (x ||| 2 ^ k) / 2 ^ n % 2 = 1 ↔ x / 2 ^ n % 2 = 1 := h1.trans ⟨fun q => q.elim id (fun r => absurd r e), Or.inl⟩
      by_cases hk : k < n
      · rw [if_pos hk, if_pos (by omega)]; omega
      · rw [if_neg hk, if_neg (by omega)]; omega
theorem bits_pow (k : Nat) : ∀ n, bitsUp (2 ^ k) n = if k < n then 1 else 0 := by
  intro n
  have h := bits_or (x := 0) (k := k) (by simp) n
  have h0 : ∀ n, bitsUp 0 n = 0 := by
    intro n; induction n with
    | zero => rfl
    | succ n ih => unfold bitsUp; rw [ih]; simp
  rw [Nat.zero_or, h0] at h
  rw [h]; omega
theorem crw_sets {M : Int} {s : Row} (h : RI M s) {b : Int} (hk : crOk s b) : ∀ n : Nat, (n : Int) ≤ sB s b 1 - 1 →
    (∀ j, j < 32 → ((crwUp s b n).1 / 2 ^ j % 2 = 1 → ableS s / 2 ^ j % 2 = 1) ∧ ((crwUp s b n).2 / 2 ^ j % 2 = 1 ↔ ableS s / 2 ^ j % 2 = 1 ∧ ¬ (crwUp s b n).1 / 2 ^ j % 2 = 1)) ∧ bitsN (crwUp s b n).1 = n + 1 ∧ (crwUp s b n).1 / 2 ^ (lst s (ableS s) 2).toNat % 2 = 1 := by
  have gc := h.c
  intro n
  induction n with
  | zero =>
    intro _
    obtain ⟨l1, l2, l3⟩ := lst_bit hk.1
    refine ⟨fun j hj => ⟨fun q => ?_, ?_⟩, ?_, (pow_b1 _ _).mpr rfl⟩
    · have e := (pow_b1 (lst s (ableS s) 2).toNat j).mp q
      rw [← e]; exact l2
    · show del (ableS s) (lst s (ableS s) 2).toNat / 2 ^ j % 2 = 1 ↔ _ ∧ ¬ 2 ^ (lst s (ableS s) 2).toNat / 2 ^ j % 2 = 1
      rw [del_b1 _ (by omega) hj, pow_b1]
    · show bitsUp (2 ^ (lst s (ableS s) 2).toNat) 10 = 1
      rw [bits_pow, if_pos (by omega)]
  | succ n ih =>
    intro hn
    obtain ⟨i1, i2, i3⟩ := ih (by omega)
    have hl := hk.2 n (by omega)
    obtain ⟨l1, l2, l3⟩ := lst_bit hl
    generalize hg : (lst s (crwUp s b n).2 (if (n : Int) < mustO s b then 1 else 0)).toNat = g at l1 l2
    have e1 : (crwUp s b (n + 1)).1 = (crwUp s b n).1 ||| 2 ^ g := by show _ ||| _ = _; rw [hg]
    have e2 : (crwUp s b (n + 1)).2 = del (crwUp s b n).2 g := by show del _ _ = _; rw [hg]
    have hg32 : g < 32 := by omega
    obtain ⟨ga, gna⟩ := (i1 g hg32).2.mp l2
    rw [e1, e2]
    refine ⟨fun j hj => ⟨fun q => ?_, ?_⟩, ?_, (or_b1 _ _ _).mpr (Or.inl i3)⟩
    · rcases (or_b1 _ _ _).mp q with q | q
      · exact (i1 j hj).1 q
      · rw [← q]; exact ga
    · rw [del_b1 _ hg32 hj, or_b1, (i1 j hj).2]
      constructor
      · rintro ⟨⟨q1, q2⟩, q3⟩; exact ⟨q1, fun r => r.elim q2 q3⟩
      · rintro ⟨q1, q2⟩; exact ⟨⟨q1, fun r => q2 (Or.inl r)⟩, fun r => q2 (Or.inr r)⟩
    · show bitsUp ((crwUp s b n).1 ||| 2 ^ g) 10 = _
      rw [bits_or gna, if_pos (by omega)]
      have : bitsUp (crwUp s b n).1 10 = n + 1 := i2
      omega
theorem ableUp_b1 (s : Row) : ∀ n k, ableUp s n / 2 ^ k % 2 = 1 ↔ k < n ∧ sM s k 1 = 0 ∧ sM s k 2 < s 7 := by
  intro n
  induction n with
  | zero => intro k; simp [ableUp]
  | succ n ih =>
    intro k
    unfold ableUp
    by_cases h : sM s n 1 = 0 ∧ sM s n 2 < s 7
    · rw [if_pos h, or_b1, ih]
      constructor
      · rintro (q | q)
        · exact ⟨by omega, q.2⟩
        · subst q; exact ⟨by omega, h⟩
      · rintro ⟨q1, q2⟩
        by_cases e : n = k
        · exact Or.inr e
        · exact Or.inl ⟨by omega, q2⟩
    · rw [if_neg h, Nat.or_zero, ih]
      constructor
      · rintro ⟨q1, q2⟩; exact ⟨by omega, q2⟩
      · rintro ⟨q1, q2⟩
        refine ⟨?_, q2⟩
        refine Decidable.byContradiction fun e => ?_
        have : k = n := by omega
        subst this; exact h q2
theorem ableS_b1 (s : Row) (k : Nat) : ableS s / 2 ^ k % 2 = 1 ↔ k < cM s ∧ sM s k 1 = 0 ∧ sM s k 2 < s 7 := ableUp_b1 s (cM s) k
/-- the crew that is chosen -/
theorem crw_in {M : Int} {s : Row} (h : RI M s) {b : Int} (hs : 2 ≤ sB s b 1) (hk : crOk s b) {k : Nat} (hb : crw s b / 2 ^ k % 2 = 1) : k < cM s ∧ sM s k 1 = 0 := by
  have hkx : k < 32 := by
    refine Decidable.byContradiction fun q => ?_
    have := crw_lt h b
    rw [Nat.div_eq_of_lt (Nat.lt_of_lt_of_le this (Nat.pow_le_pow_right (show 0 < 2 by decide) (show 10 ≤ k by omega)))] at hb
    exact absurd hb (by decide)
  have := (ableS_b1 s k).mp (((crw_sets h hk (sB s b 1 - 1).toNat (by omega)).1 k hkx).1 hb)
  exact ⟨this.1, this.2.1⟩
theorem crw_bits {M : Int} {s : Row} (h : RI M s) {b : Int} (hs : 2 ≤ sB s b 1) (hk : crOk s b) : (bitsN (crw s b) : Int) = sB s b 1 := by
  have := (crw_sets h hk (sB s b 1 - 1).toNat (by omega)).2.1
  show ((bitsN (crwUp s b (sB s b 1 - 1).toNat).1 : Nat) : Int) = _
  omega
theorem crw_cox {M : Int} {s : Row} (h : RI M s) {b : Int} (hs : 2 ≤ sB s b 1) (hk : crOk s b) : crw s b / 2 ^ (lst s (ableS s) 2).toNat % 2 = 1 := (crw_sets h hk (sB s b 1 - 1).toNat (by omega)).2.2
