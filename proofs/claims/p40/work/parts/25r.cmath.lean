/-! sets of members as the class makes them -/
def atUp (s : Row) (p : Int) : Nat → Nat
  | 0 => 0
  | n + 1 => atUp s p n ||| (if plc s n = p then 2 ^ n else 0)
theorem atUp_lt (s : Row) (p : Int) : ∀ n, atUp s p n < 2 ^ n := by
  intro n
  induction n with
  | zero => simp [atUp]
  | succ n ih =>
    unfold atUp
    refine Nat.or_lt_two_pow (Nat.lt_of_lt_of_le ih (Nat.pow_le_pow_right (by decide) (Nat.le_succ n))) ?_
    split
    · exact Nat.pow_lt_pow_right (by decide) (Nat.lt_succ_self n)
    · exact Nat.two_pow_pos _
theorem p10 {x n : Nat} (h : x < 2 ^ n) (hn : n ≤ 10) : x < 1024 := Nat.lt_of_lt_of_le h (Nat.pow_le_pow_right (show 0 < 2 by decide) hn)
theorem atUp_b1 (s : Row) (p : Int) : ∀ n k : Nat, atUp s p n / 2 ^ k % 2 = 1 ↔ k < n ∧ plc s k = p := by
  intro n
  induction n with
  | zero => intro k; simp [atUp]
  | succ n ih =>
    intro k
    unfold atUp
    by_cases h : plc s n = p
    · rw [if_pos h, or_b1, ih]
      constructor
      · rintro (q | q)
        · exact ⟨by omega, q.2⟩
        · subst q; exact ⟨by omega, h⟩
      · rintro ⟨q1, q2⟩
        by_cases e : n = k
        · exact Or.inr e
        · exact Or.inl ⟨by omega, q2⟩
    · rw [if_neg h, Nat.or_zero, ih]
      constructor
      · rintro ⟨q1, q2⟩; exact ⟨by omega, q2⟩
      · rintro ⟨q1, q2⟩
        refine ⟨?_, q2⟩
        refine Decidable.byContradiction fun e => ?_
        have : k = n := by omega
        subst this; exact h q2
theorem plc_w {M : Int} {s : Row} (hI : RI M s) (h : WI s) {k : Nat} (hk : k < cM s) : (sM s k 1 = 1 ∧ 0 ≤ plc s k ∧ plc s k = sM s k 3 ∧ plc s k < s 2) ∨ (sM s k 1 = 0 ∧ plc s k = -1 ∧ sM s k 3 = -1) ∨ (sM s k 1 = 2 ∧ plc s k = -2 ∧ sM s k 3 = -1) := by
  have gc := hI.c
  have gm := hI.m k (by omega)
  have hw := h.2.2.1 k hk
  rcases plc_c gm.2.1 (fun q => (hw.1 q).1) with q | q | q
  · exact Or.inl ⟨q.1, q.2.1, q.2.2, by have := hw.1 q.1; omega⟩
  · exact Or.inr (Or.inl ⟨q.1, q.2, hw.2 (by omega)⟩)
  · exact Or.inr (Or.inr ⟨q.1, q.2, hw.2 (by omega)⟩)
theorem atUp_crew {M : Int} {s : Row} (hI : RI M s) (h : WI s) {b : Int} (hb : 0 ≤ b) : ∀ n, n ≤ cM s → atUp s b n = crewUp s b n := by
  intro n
  induction n with
  | zero => intro _; rfl
  | succ n ih =>
    intro hn
    have := plc_w hI h (k := n) (by omega)
    unfold atUp crewUp
    rw [ih (by omega)]
    by_cases q : plc s n = b
    · rw [if_pos q, if_pos (by omega)]
    · rw [if_neg q, if_neg (by omega)]
def skUp (s : Row) (sk : Int) : Nat → Nat
  | 0 => 0
  | n + 1 => skUp s sk n ||| (if sk ≤ sM s n 0 then 2 ^ n else 0)
theorem skUp_lt (s : Row) (sk : Int) : ∀ n, skUp s sk n < 2 ^ n := by
  intro n
  induction n with
  | zero => simp [skUp]
  | succ n ih =>
    unfold skUp
    refine Nat.or_lt_two_pow (Nat.lt_of_lt_of_le ih (Nat.pow_le_pow_right (by decide) (Nat.le_succ n))) ?_
    split
    · exact Nat.pow_lt_pow_right (by decide) (Nat.lt_succ_self n)
    · exact Nat.two_pow_pos _
theorem skUp_b1 (s : Row) (sk : Int) : ∀ n k : Nat, skUp s sk n / 2 ^ k % 2 = 1 ↔ k < n ∧ sk ≤ sM s k 0 := by
  intro n
  induction n with
  | zero => intro k; simp [skUp]
  | succ n ih =>
    intro k
    unfold skUp
    by_cases h : sk ≤ sM s n 0
    · rw [if_pos h, or_b1, ih]
      constructor
      · rintro (q | q)
        · exact ⟨by omega, q.2⟩
        · subst q; exact ⟨by omega, h⟩
      · rintro ⟨q1, q2⟩
        by_cases e : n = k
        · exact Or.inr e
        · exact Or.inl ⟨by omega, q2⟩
    · rw [if_neg h, Nat.or_zero, ih]
      constructor
      · rintro ⟨q1, q2⟩; exact ⟨by omega, q2⟩
      · rintro ⟨q1, q2⟩
        refine ⟨?_, q2⟩
        refine Decidable.byContradiction fun e => ?_
        have : k = n := by omega
        subst this; exact h q2
def skS (s : Row) (sk : Int) : Nat := skUp s sk (cM s)
theorem skS_b1 (s : Row) (sk : Int) (k : Nat) : skS s sk / 2 ^ k % 2 = 1 ↔ k < cM s ∧ sk ≤ sM s k 0 := skUp_b1 s sk (cM s) k
theorem and_b1 (x y k : Nat) : (x &&& y) / 2 ^ k % 2 = 1 ↔ x / 2 ^ k % 2 = 1 ∧ y / 2 ^ k % 2 = 1 := by
  rw [bt1_tb, bt1_tb, bt1_tb, Nat.testBit_and]; simp
theorem not_b1 (x : Nat) (hx : x < 4294967296) (k : Nat) (hk : k < 32) : (4294967295 - x) / 2 ^ k % 2 = 1 ↔ ¬ x / 2 ^ k % 2 = 1 := by
  rw [bt1_tb, bt1_tb]
  have := Nat.testBit_two_pow_sub_succ (show x < 2 ^ 32 from hx) k
  rw [show 2 ^ 32 - (x + 1) = 4294967295 - x by omega] at this
  rw [this]; simp [hk]
/-- the least weary of a set is that of another one with the same members among those who are looked at -/
theorem lstUp_eq {s : Row} {x y : Nat} {a b : Int} : ∀ n, (∀ k : Nat, k < n → ((x / 2 ^ k % 2 = 1 ∧ a ≤ sM s k 0) ↔ (y / 2 ^ k % 2 = 1 ∧ b ≤ sM s k 0))) → lstUp s x a n = lstUp s y b n := by
  intro n
  induction n with
  | zero => intro _; rfl
  | succ n ih =>
    intro h
    have e := ih (fun k hk => h k (by omega))
    unfold lstUp
    rw [e]
    have hn := h n (by omega)
    by_cases q : x / 2 ^ n % 2 = 1 ∧ a ≤ sM s n 0
    · by_cases r : lstUp s y b n < 0 ∨ sM s n 2 < sM s (lstUp s y b n) 2
      · rw [if_pos ⟨q, r⟩, if_pos ⟨hn.mp q, r⟩]
      · rw [if_neg (fun z => r z.2), if_neg (fun z => r z.2)]
    · rw [if_neg (fun z => q z.1), if_neg (fun z => q (hn.mpr z.1))]
theorem lst_and {M : Int} {s : Row} (hI : RI M s) (x : Nat) (sk : Int) : lst s (x &&& skS s sk) 0 = lst s x sk := by
  have gc := hI.c
  refine lstUp_eq _ (fun k hk => ?_)
  rw [and_b1, skS_b1]
  have gm := (hI.m k (by omega)).1
  constructor
  · rintro ⟨⟨q1, -, q2⟩, -⟩; exact ⟨q1, q2⟩
  · rintro ⟨q1, q2⟩; exact ⟨⟨q1, hk, q2⟩, gm.1⟩
/-- a crew filled up with the least weary of the candidates, a member a step -/
def flUp (s : Row) (x cand : Nat) : Nat → Nat
  | 0 => x
  | n + 1 => if lst s (cand &&& (4294967295 - flUp s x cand n)) 0 = -1 then flUp s x cand n else flUp s x cand n ||| 2 ^ (lst s (cand &&& (4294967295 - flUp s x cand n)) 0).toNat
theorem flUp_lt {M : Int} {s : Row} (hI : RI M s) {x cand : Nat} (hx : x < 1024) : ∀ n, flUp s x cand n < 1024 := by
  intro n
  induction n with
  | zero => exact hx
  | succ n ih =>
    unfold flUp
    split
    · exact ih
    · have hl := lst_lt hI (cand &&& (4294967295 - flUp s x cand n)) 0
      exact Nat.or_lt_two_pow (n := 10) ih (Nat.pow_lt_pow_right (by decide) (by omega))
def stS (s : Row) : Nat := (2 ^ cM s - 1) &&& (4294967295 - atUp s (-2) (cM s))
theorem ev_b1 {n k : Nat} : (2 ^ n - 1) / 2 ^ k % 2 = 1 ↔ k < n := by
  rw [bt1_tb, Nat.testBit_two_pow_sub_one]; simp
theorem stS_b1 {M : Int} {s : Row} (hI : RI M s) (h : WI s) (k : Nat) : stS s / 2 ^ k % 2 = 1 ↔ k < cM s ∧ sM s k 1 ≠ 2 := by
  have gc := hI.c
  have ha := p10 (atUp_lt s (-2) (cM s)) gc.1.2
  unfold stS
  rw [and_b1, ev_b1]
  constructor
  · rintro ⟨q1, q2⟩
    rw [not_b1 _ (by omega) k (by omega), atUp_b1] at q2
    have := plc_w hI h q1
    exact ⟨q1, fun q => q2 ⟨q1, by omega⟩⟩
  · rintro ⟨q1, q2⟩
    refine ⟨q1, ?_⟩
    rw [not_b1 _ (by omega) k (by omega), atUp_b1]
    have := plc_w hI h q1
    rintro ⟨-, q⟩; omega
theorem stS_lt {M : Int} {s : Row} (hI : RI M s) : stS s < 1024 := by
  have gc := hI.c
  have h1 : 2 ^ cM s ≤ 2 ^ 10 := Nat.pow_le_pow_right (by decide) gc.1.2
  have h2 := Nat.two_pow_pos (cM s)
  exact and_lt (by omega)
theorem bits_stay {M : Int} {s : Row} (hI : RI M s) (h : WI s) : (bitsN (stS s) : Int) = stayN s := by
  have gc := hI.c
  have hs : stS s < 2 ^ cM s := and_lt (by have := Nat.two_pow_pos (cM s); omega)
  have e : ∀ n, n ≤ cM s → (bitsUp (stS s) n : Int) = stayUp s n := by
    intro n
    induction n with
    | zero => intro _; rfl
    | succ n ih =>
      intro hn
      have i := ih (by omega)
      have b := stS_b1 hI h n
      have m := Nat.mod_lt (stS s / 2 ^ n) (show 0 < 2 by decide)
      unfold bitsUp stayUp
      by_cases q : sM s n 1 = 2
      · rw [if_pos q]
        have : ¬ stS s / 2 ^ n % 2 = 1 := fun r => (b.mp r).2 q
        omega
      · rw [if_neg q]
        have := b.mpr ⟨by omega, q⟩
        omega
  unfold bitsN
  rw [bits_stop hs 10 gc.1.2]
  exact e _ (Nat.le_refl _)
theorem wy_stay {M : Int} {s : Row} (hI : RI M s) (h : WI s) : ∀ n, n ≤ cM s → wsUp s (stS s) n = wyUp s n := by
  intro n
  induction n with
  | zero => intro _; rfl
  | succ n ih =>
    intro hn
    have b := stS_b1 hI h n
    unfold wsUp wyUp
    rw [ih (by omega)]
    by_cases q : sM s n 1 = 2
    · rw [if_pos q, if_neg (fun r => (b.mp r).2 q)]
    · rw [if_neg q, if_pos (b.mpr ⟨by omega, q⟩)]
