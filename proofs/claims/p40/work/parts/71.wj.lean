/-! what the law asks of a station's row: boats out with their crews, oars out that are there, numbers that add up -/
def skcUp (s : Row) (b : Int) : Nat → Int
  | 0 => 0
  | n + 1 => skcUp s b n + (if (sM s n 1 = 1 ∧ sM s n 3 = b) ∧ 0 < sM s n 0 then 1 else 0)
def WJb (s : Row) (b : Int) : Prop := (sB s b 2 = 1 → (cntUp s b (cM s) : Int) = sB s b 1 ∧ sM s (sB s b 5) 0 = 2 ∧ mustO s b + 1 ≤ skcUp s b (cM s)) ∧ (sB s b 2 ≠ 1 → sB s b 3 = 0)
def WJ (s : Row) : Prop := (∀ k : Nat, k < cM s → sM s k 6 ≤ sM s k 5) ∧ (∀ b : Nat, b < cB s → WJb s b) ∧ outO s ≤ allO s ∧ s 4 = s 5 + bOutUp s (cB s)
theorem wj_cnt {s t : Row} {b : Int} : ∀ n, (∀ k : Nat, k < n → ((sM t k 1 = 1 ∧ sM t k 3 = b) ↔ (sM s k 1 = 1 ∧ sM s k 3 = b))) → cntUp t b n = cntUp s b n := by
  intro n
  induction n with
  | zero => intro _; rfl
  | succ n ih =>
    intro h
    unfold cntUp
    rw [ih (fun k hk => h k (by omega))]
    by_cases q : sM s n 1 = 1 ∧ sM s n 3 = b
    · rw [if_pos q, if_pos ((h n (by omega)).mpr q)]
    · rw [if_neg q, if_neg (fun r => q ((h n (by omega)).mp r))]
theorem wj_skc {s t : Row} {b : Int} : ∀ n, (∀ k : Nat, k < n → ((sM t k 1 = 1 ∧ sM t k 3 = b) ↔ (sM s k 1 = 1 ∧ sM s k 3 = b)) ∧ (sM s k 1 = 1 → sM t k 0 = sM s k 0)) → skcUp t b n = skcUp s b n := by
  intro n
  induction n with
  | zero => intro _; rfl
  | succ n ih =>
    intro h
    unfold skcUp
    rw [ih (fun k hk => h k (by omega))]
    obtain ⟨h1, h2⟩ := h n (by omega)
    by_cases q : (sM s n 1 = 1 ∧ sM s n 3 = b) ∧ 0 < sM s n 0
    · rw [if_pos q, if_pos ⟨h1.mpr q.1, by rw [h2 q.1.1]; exact q.2⟩]
    · rw [if_neg q, if_neg (fun r => q ⟨h1.mp r.1, by rw [← h2 (h1.mp r.1).1]; exact r.2⟩)]
theorem wj_out {s t : Row} : ∀ n, (∀ b : Nat, b < n → sB t b 2 = sB s b 2 ∧ sB t b 1 = sB s b 1) → outUp t n = outUp s n := by
  intro n
  induction n with
  | zero => intro _; rfl
  | succ n ih => intro h; unfold outUp; rw [ih (fun k hk => h k (by omega)), (h n (by omega)).1, (h n (by omega)).2]
theorem wj_bo {s t : Row} : ∀ n, (∀ b : Nat, b < n → sB t b 2 = sB s b 2) → bOutUp t n = bOutUp s n := by
  intro n
  induction n with
  | zero => intro _; rfl
  | succ n ih => intro h; unfold bOutUp; rw [ih (fun k hk => h k (by omega)), h n (by omega)]
theorem wj_oars {s t : Row} : ∀ n, (∀ b : Nat, b < n → sL t b 0 = sL s b 0) → oarsUp t n = oarsUp s n := by
  intro n
  induction n with
  | zero => intro _; rfl
  | succ n ih => intro h; unfold oarsUp; rw [ih (fun k hk => h k (by omega)), h n (by omega)]
theorem wj_out1 {s t : Row} {a : Nat} (h : ∀ b : Nat, b ≠ a → sB t b 2 = sB s b 2 ∧ sB t b 1 = sB s b 1) : ∀ n, outUp t n = outUp s n + (if a < n then (if sB t a 2 = 1 then sB t a 1 - 1 else 0) - (if sB s a 2 = 1 then sB s a 1 - 1 else 0) else 0) := by
  intro n
  induction n with
  | zero => rw [if_neg (by omega)]; rfl
  | succ n ih =>
    unfold outUp
    rw [ih]
    by_cases e : n = a
    · subst e
      rw [if_neg (Nat.lt_irrefl n), if_pos (Nat.lt_succ_self n)]; omega
    · obtain ⟨e1, e2⟩ := h n e
      rw [e1, e2]
      by_cases q : a < n
      · rw [if_pos q, if_pos (show a < n + 1 by omega)]; omega
      · rw [if_neg q, if_neg (show ¬ a < n + 1 by omega)]; omega
theorem wj_bo1 {s t : Row} {a : Nat} (h : ∀ b : Nat, b ≠ a → sB t b 2 = sB s b 2) : ∀ n, bOutUp t n = bOutUp s n + (if a < n then sB t a 2 - sB s a 2 else 0) := by
  intro n
  induction n with
  | zero => rw [if_neg (by omega)]; rfl
  | succ n ih =>
    unfold bOutUp
    rw [ih]
    by_cases e : n = a
    · subst e
      rw [if_neg (Nat.lt_irrefl n), if_pos (Nat.lt_succ_self n)]; omega
    · rw [h n e]
      by_cases q : a < n
      · rw [if_pos q, if_pos (show a < n + 1 by omega)]; omega
      · rw [if_neg q, if_neg (show ¬ a < n + 1 by omega)]; omega
theorem WJb.of {s t : Row} {b : Int} (h : WJb s b) (h1 : sB t b 1 = sB s b 1) (h2 : sB t b 2 = sB s b 2) (h3 : sB s b 2 ≠ 1 → sB s b 3 = 0 → sB t b 3 = 0) (hc : cntUp t b (cM t) = cntUp s b (cM s)) (hk : skcUp t b (cM t) = skcUp s b (cM s)) (hx : sB s b 2 = 1 → sM t (sB t b 5) 0 = sM s (sB s b 5) 0) : WJb t b := by
  unfold WJb mustO at h ⊢
  rw [h1, h2, hc, hk]
  refine ⟨fun r => ?_, fun r => h3 r (h.2 r)⟩
  rw [hx r]; exact h.1 r
/-- where a row must be the same -/
def RelY (y : Nat) : Prop := (1 ≤ y ∧ y ≤ 5) ∨ (8 ≤ y ∧ y < 78 ∧ (y - 8) % 7 ≠ 2 ∧ (y - 8) % 7 ≠ 4) ∨ (78 ≤ y ∧ y < 99 ∧ (y - 78) % 7 ≠ 0 ∧ (y - 78) % 7 ≠ 4 ∧ (y - 78) % 7 ≠ 6) ∨ (99 ≤ y ∧ y < 111 ∧ (y - 99) % 3 = 0)
theorem WJ.same {M : Int} {s t : Row} (hI : RI M s) (h : WJ s) (e : ∀ y, RelY y → t y = s y) : WJ t := by
  have gc := hI.c
  have ec : cM t = cM s := congrArg Int.toNat (e 1 (by unfold RelY; omega))
  have eb : cB t = cB s := congrArg Int.toNat (e 2 (by unfold RelY; omega))
  have el : cL t = cL s := congrArg Int.toNat (e 3 (by unfold RelY; omega))
  have em : ∀ k : Nat, k < 10 → ∀ w : Nat, w < 7 → w ≠ 2 → w ≠ 4 → sM t k w = sM s k w := fun k hk w q1 q2 q3 => by rw [sM_n, sM_n]; exact e _ (by unfold RelY; omega)
  have e9 : ∀ k : Nat, k < 3 → ∀ w : Nat, w < 7 → w ≠ 0 → w ≠ 4 → w ≠ 6 → sB t k w = sB s k w := fun k hk w q1 q2 q3 q4 => by rw [sB_n, sB_n]; exact e _ (by unfold RelY; omega)
  obtain ⟨h1, h2, h3, h4⟩ := h
  refine ⟨fun k hk => ?_, fun b hb => ?_, ?_, ?_⟩
  · rw [ec] at hk
    have q5 : sM t k 5 = sM s k 5 := em k (by omega) 5 (by omega) (by omega) (by omega)
    have q6 : sM t k 6 = sM s k 6 := em k (by omega) 6 (by omega) (by omega) (by omega)
    have := h1 k hk
    omega
  · rw [eb] at hb
    have b1 := e9 b (by omega) 1 (by omega) (by omega) (by omega) (by omega)
    have b2 := e9 b (by omega) 2 (by omega) (by omega) (by omega) (by omega)
    have b3 := e9 b (by omega) 3 (by omega) (by omega) (by omega) (by omega)
    have b5 := e9 b (by omega) 5 (by omega) (by omega) (by omega) (by omega)
    refine (h2 b hb).of b1 b2 (fun _ q => b3.trans q) ?_ ?_ (fun _ => ?_)
    · rw [ec]; exact cnt_eq _ (fun k hk => ⟨em k (by omega) 1 (by omega) (by omega) (by omega), em k (by omega) 3 (by omega) (by omega) (by omega)⟩)
    · rw [ec]
      refine wj_skc _ (fun k hk => ⟨?_, fun _ => em k (by omega) 0 (by omega) (by omega) (by omega)⟩)
      have m1 : sM t k 1 = sM s k 1 := em k (by omega) 1 (by omega) (by omega) (by omega)
      have m3 : sM t k 3 = sM s k 3 := em k (by omega) 3 (by omega) (by omega) (by omega)
      rw [show sM t k 1 = sM s k 1 from m1, show sM t k 3 = sM s k 3 from m3]
    · rw [show sB t b 5 = sB s b 5 from b5]
      have g := (hI.b b (by omega)).2.2.2.2.2.1
      unfold sM
      exact e _ (by unfold RelY; omega)
  · unfold outO allO
    rw [eb, el, wj_out (s := s) (t := t) _ (fun b hb => ⟨e9 b (by omega) 2 (by omega) (by omega) (by omega) (by omega), e9 b (by omega) 1 (by omega) (by omega) (by omega) (by omega)⟩), wj_oars (s := s) (t := t) _ (fun q hq => by rw [eL0, eL0]; exact e _ (by unfold RelY; omega))]
    exact h3
  · rw [eb, wj_bo (s := s) (t := t) _ (fun b hb => e9 b (by omega) 2 (by omega) (by omega) (by omega) (by omega)), e 4 (by unfold RelY; omega), e 5 (by unfold RelY; omega)]
    exact h4
theorem WJ.at9 {M : Int} {s : Row} (hI : RI M s) (h : WJ s) {y : Nat} {v : Int} (hy : ¬ RelY y) : WJ (up s y v) := h.same hI (fun z hz => up_ne _ _ (fun q => hy (q ▸ hz)))
theorem WJ.nM {M : Int} {s : Row} (hI : RI M s) (hW : WI s) (h : WJ s) {v : Int} (h9 : s 1 < 10) : WJ (newM s v) := by
  have gc := hI.c
  have gs := hI.s
  obtain ⟨e1, e2, ek, -, n1, -, -, -, n5, n6, ehi, elo⟩ := newM_v hI (v := v) h9
  have ec : cM (newM s v) = cM s + 1 := by unfold cM; rw [e1]; omega
  have eb : cB (newM s v) = cB s := congrArg Int.toNat e2
  have el : cL (newM s v) = cL s := congrArg Int.toNat (elo 3 (by omega) (by omega))
  have e9 : ∀ k : Nat, ∀ w : Nat, sB (newM s v) k w = sB s k w := fun k w => newM_B hI h9 (by omega) (by omega)
  obtain ⟨h1, h2, h3, h4⟩ := h
  refine ⟨fun k hk => ?_, fun b hb => ?_, ?_, ?_⟩
  · by_cases q : k = cM s
    · subst q
      have n5' : sM (newM s v) (cM s : Nat) 5 = 0 := n5
      have n6' : sM (newM s v) (cM s : Nat) 6 = 0 := n6
      omega
    · have q5 : sM (newM s v) k 5 = sM s k 5 := ek k q 5 (by omega)
      have q6 : sM (newM s v) k 6 = sM s k 6 := ek k q 6 (by omega)
      have := h1 k (by omega)
      omega
  · rw [eb] at hb
    have hb5 := (hW.2.2.2 b hb).1
    refine (h2 b hb).of (e9 b 1) (e9 b 2) (fun _ q => (e9 b 3).trans q) ?_ ?_ (fun r => ?_)
    · rw [ec]
      show cntUp _ _ (cM s) + _ = _
      rw [if_neg (fun q => by rw [n1] at q; exact absurd q.1 (by decide)), cnt_eq (s := s) _ (fun k hk => ⟨ek k (by omega) 1 (by omega), ek k (by omega) 3 (by omega)⟩)]; rfl
    · rw [ec]
      show skcUp _ _ (cM s) + _ = _
      rw [if_neg (fun q => by rw [n1] at q; exact absurd q.1.1 (by decide)), wj_skc (s := s) _ (fun k hk => ⟨?_, fun _ => ek k (by omega) 0 (by omega)⟩)]
      · omega
      · have m1 : sM (newM s v) k 1 = sM s k 1 := ek k (by omega) 1 (by omega)
        have m3 : sM (newM s v) k 3 = sM s k 3 := ek k (by omega) 3 (by omega)
        rw [show sM (newM s v) k 1 = sM s k 1 from m1, show sM (newM s v) k 3 = sM s k 3 from m3]
    · obtain ⟨c1, c2, -⟩ := hb5 r
      rw [show sB (newM s v) b 5 = sB s b 5 from e9 b 5]
      obtain ⟨k, hk⟩ := Int.eq_ofNat_of_zero_le c1
      rw [hk]
      exact ek k (by omega) 0 (by omega)
  · unfold outO allO
    rw [eb, el, wj_out (s := s) _ (fun b hb => ⟨e9 b 2, e9 b 1⟩), wj_oars (s := s) _ (fun q hq => by rw [eL0, eL0]; exact ehi _ (by omega))]
    exact h3
  · rw [eb, wj_bo (s := s) _ (fun b hb => e9 b 2), elo 4 (by omega) (by omega), elo 5 (by omega) (by omega)]
    exact h4
theorem WJ.leave {M : Int} {s : Row} (hI : RI M s) (hW : WI s) (h : WJ s) {a : Nat} (ha : a < cM s) (h0 : sM s a 1 ≠ 1) {w : Nat} (hw : w = 0 ∨ w = 1) {v : Int} (hv : w = 1 → v = 2) : WJ (up s (8 + 7 * a + w) v) := by
  have gc := hI.c
  have ec : cM (up s (8 + 7 * a + w) v) = cM s := congrArg Int.toNat (up_ne _ _ (by omega))
  have eb : cB (up s (8 + 7 * a + w) v) = cB s := congrArg Int.toNat (up_ne _ _ (by omega))
  have el : cL (up s (8 + 7 * a + w) v) = cL s := congrArg Int.toNat (up_ne _ _ (by omega))
  have e9 : ∀ k : Nat, ∀ w1 : Nat, sB (up s (8 + 7 * a + w) v) k w1 = sB s k w1 := fun k w1 => sB_up (by omega)
  have em : ∀ k : Nat, k ≠ a → ∀ w1 : Nat, w1 < 7 → sM (up s (8 + 7 * a + w) v) k w1 = sM s k w1 := fun k q w1 hw1 => sM_up (by omega)
  have ea : ∀ w1 : Nat, w1 ≠ w → w1 < 7 → sM (up s (8 + 7 * a + w) v) a w1 = sM s a w1 := fun w1 q hw1 => sM_up (by omega)
  have ex : ∀ k : Nat, ∀ b : Int, (sM (up s (8 + 7 * a + w) v) k 1 = 1 ∧ sM (up s (8 + 7 * a + w) v) k 3 = b) ↔ (sM s k 1 = 1 ∧ sM s k 3 = b) := by
    intro k b
    by_cases q : k = a
    · subst q
      have q3 : sM (up s (8 + 7 * k + w) v) k 3 = sM s k 3 := ea 3 (by omega) (by omega)
      have q1 : sM (up s (8 + 7 * k + w) v) k 1 ≠ 1 := by
        rcases hw with rfl | rfl
        · rw [show sM (up s (8 + 7 * k + 0) v) k 1 = sM s k 1 from ea 1 (by omega) (by omega)]; exact h0
        · rw [sM_ue (by omega), hv rfl]; decide
      exact ⟨fun r => absurd r.1 q1, fun r => absurd r.1 h0⟩
    · rw [show sM (up s (8 + 7 * a + w) v) k 1 = sM s k 1 from em k q 1 (by omega), show sM (up s (8 + 7 * a + w) v) k 3 = sM s k 3 from em k q 3 (by omega)]
  have e0 : ∀ k : Nat, sM s k 1 = 1 → sM (up s (8 + 7 * a + w) v) k 0 = sM s k 0 := fun k q => em k (fun r => h0 (r ▸ q)) 0 (by omega)
  obtain ⟨h1, h2, h3, h4⟩ := h
  refine ⟨fun k hk => ?_, fun b hb => ?_, ?_, ?_⟩
  · rw [ec] at hk
    have q5 : sM (up s (8 + 7 * a + w) v) k 5 = sM s k 5 := sM_up (by omega)
    have q6 : sM (up s (8 + 7 * a + w) v) k 6 = sM s k 6 := sM_up (by omega)
    rw [q5, q6]; exact h1 k hk
  · rw [eb] at hb
    have hb5 := (hW.2.2.2 b hb).1
    refine (h2 b hb).of (e9 b 1) (e9 b 2) (fun _ q => (e9 b 3).trans q) ?_ ?_ (fun r => ?_)
    · rw [ec]; exact wj_cnt _ (fun k _ => ex k b)
    · rw [ec]; exact wj_skc _ (fun k _ => ⟨ex k b, e0 k⟩)
    · obtain ⟨c1, c2, c3, c4⟩ := hb5 r
      rw [show sB (up s (8 + 7 * a + w) v) b 5 = sB s b 5 from e9 b 5]
      obtain ⟨k, hk⟩ := Int.eq_ofNat_of_zero_le c1
      rw [hk] at c3 ⊢
      exact e0 k c3
  · unfold outO allO
    rw [eb, el, wj_out (s := s) _ (fun b hb => ⟨e9 b 2, e9 b 1⟩), wj_oars (s := s) _ (fun q hq => sL_up (by omega))]
    exact h3
  · rw [eb, wj_bo (s := s) _ (fun b hb => e9 b 2), up_ne _ _ (by omega), up_ne _ _ (by omega)]
    exact h4
theorem WJ.nB {M : Int} {s : Row} (hI : RI M s) (hW : WI s) (h : WJ s) {v u : Int} (h9 : s 2 < 3) : WJ (newB s v u) := by
  have gc := hI.c
  have gs := hI.s
  obtain ⟨e2, ek, -, -, n2, n3, -, -, -, elo, ehi⟩ := newB_v hI (v := v) (u := u) h9
  have ec : cM (newB s v u) = cM s := congrArg Int.toNat (elo 1 (by omega) (by omega))
  have eb : cB (newB s v u) = cB s + 1 := by unfold cB; rw [e2]; omega
  have el : cL (newB s v u) = cL s := congrArg Int.toNat (elo 3 (by omega) (by omega))
  have em : ∀ k : Int, 0 ≤ k ∧ k < 10 → ∀ w : Nat, w < 7 → sM (newB s v u) k w = sM s k w := fun k hk w hw => newB_M hI h9 hk (by omega)
  obtain ⟨h1, h2, h3, h4⟩ := h
  refine ⟨fun k hk => ?_, fun b hb => ?_, ?_, ?_⟩
  · rw [ec] at hk
    have q5 : sM (newB s v u) k 5 = sM s k 5 := em k (by omega) 5 (by omega)
    have q6 : sM (newB s v u) k 6 = sM s k 6 := em k (by omega) 6 (by omega)
    have := h1 k hk
    omega
  · by_cases q : b = cB s
    · subst q
      refine ⟨fun r => ?_, fun _ => n3⟩
      rw [n2] at r; exact absurd r (by decide)
    · have hb2 : b < cB s := by omega
      have hb5 := (hW.2.2.2 b hb2).1
      refine (h2 b hb2).of (ek b q 1 (by omega)) (ek b q 2 (by omega)) (fun _ r => (ek b q 3 (by omega)).trans r) ?_ ?_ (fun r => ?_)
      · rw [ec]; exact cnt_eq _ (fun k hk => ⟨em k (by omega) 1 (by omega), em k (by omega) 3 (by omega)⟩)
      · rw [ec]
        refine wj_skc _ (fun k hk => ⟨?_, fun _ => em k (by omega) 0 (by omega)⟩)
        have m1 : sM (newB s v u) k 1 = sM s k 1 := em k (by omega) 1 (by omega)
        have m3 : sM (newB s v u) k 3 = sM s k 3 := em k (by omega) 3 (by omega)
        rw [show sM (newB s v u) k 1 = sM s k 1 from m1, show sM (newB s v u) k 3 = sM s k 3 from m3]
      · obtain ⟨c1, c2, -⟩ := hb5 r
        rw [show sB (newB s v u) b 5 = sB s b 5 from ek b q 5 (by omega)]
        exact em _ (by omega) 0 (by omega)
  · unfold outO allO
    rw [eb, el]
    show outUp _ (cB s) + _ ≤ _
    rw [if_neg (fun q => by rw [n2] at q; exact absurd q (by decide)), wj_out (s := s) _ (fun b hb => ⟨ek b (by omega) 2 (by omega), ek b (by omega) 1 (by omega)⟩), wj_oars (s := s) _ (fun q hq => by rw [eL0, eL0]; exact ehi _ (by omega))]
    have : outUp s (cB s) ≤ oarsUp s (cL s) := h3
    omega
  · rw [eb]
    show _ = _ + (bOutUp _ (cB s) + _)
    have n2' : sB (newB s v u) (cB s : Nat) 2 = 0 := n2
    rw [wj_bo (s := s) _ (fun b hb => ek b (by omega) 2 (by omega)), elo 4 (by omega) (by omega), elo 5 (by omega) (by omega), n2']
    omega
/-- a crew goes out -/
theorem sendUp_56 {s : Row} {x : Nat} {b cox : Int} : ∀ n k : Nat, sM (sendUp s x b cox n) k 5 = sM s k 5 + (if k < n ∧ x / 2 ^ k % 2 = 1 then 1 else 0) ∧ sM (sendUp s x b cox n) k 6 = sM s k 6 + (if k < n ∧ x / 2 ^ k % 2 = 1 then (if (k : Int) = cox then 1 else 0) else 0) := by
  intro n
  induction n with
  | zero => intro k; rw [if_neg (by omega), if_neg (by omega)]; exact ⟨(Int.add_zero _).symm, (Int.add_zero _).symm⟩
  | succ n ih =>
    intro k
    obtain ⟨i1, i3⟩ := ih k
    obtain ⟨n1, n3⟩ := ih n
    rw [if_neg (by omega)] at n1 n3
    unfold sendUp
    by_cases hb : x / 2 ^ n % 2 = 1
    · rw [if_pos hb]
      by_cases e : k = n
      · subst e
        have hp : k < k + 1 ∧ x / 2 ^ k % 2 = 1 := ⟨by omega, hb⟩
        rw [sM_up (by omega), sM_ue (by omega), sM_ue (by omega), n1, n3, if_pos hp, if_pos hp]
        exact ⟨by omega, by omega⟩
      · rw [sM_up (by omega), sM_up (by omega), sM_up (by omega), sM_up (by omega), sM_up (by omega), sM_up (by omega), sM_up (by omega), sM_up (by omega), i1, i3]
        by_cases q : k < n ∧ x / 2 ^ k % 2 = 1
        · have hp : k < n + 1 ∧ x / 2 ^ k % 2 = 1 := ⟨by omega, q.2⟩
          rw [if_pos q, if_pos q, if_pos hp, if_pos hp]; exact ⟨rfl, rfl⟩
        · have hp : ¬ (k < n + 1 ∧ x / 2 ^ k % 2 = 1) := fun r => q ⟨by omega, r.2⟩
          rw [if_neg q, if_neg q, if_neg hp, if_neg hp]; exact ⟨rfl, rfl⟩
    · rw [if_neg hb, i1, i3]
      by_cases q : k < n ∧ x / 2 ^ k % 2 = 1
      · have hp : k < n + 1 ∧ x / 2 ^ k % 2 = 1 := ⟨by omega, q.2⟩
        rw [if_pos q, if_pos q, if_pos hp, if_pos hp]; exact ⟨rfl, rfl⟩
      · have q2 : ¬ (k < n + 1 ∧ x / 2 ^ k % 2 = 1) := by
          rintro ⟨r1, r2⟩
          by_cases e : k = n
          · subst e; exact hb r2
          · exact q ⟨by omega, r2⟩
        rw [if_neg q, if_neg q, if_neg q2, if_neg q2]; exact ⟨rfl, rfl⟩
theorem sendUp_0 {s : Row} {x : Nat} {b cox : Int} (n k : Nat) : sM (sendUp s x b cox n) k 0 = sM s k 0 := by rw [eM0, eM0]; exact sendUp_at n _ (fun j hj => by omega)
theorem cnt_is {t : Row} {b : Int} {x : Nat} : ∀ n, (∀ k : Nat, k < n → ((sM t k 1 = 1 ∧ sM t k 3 = b) ↔ x / 2 ^ k % 2 = 1)) → cntUp t b n = bitsUp x n := by
  intro n
  induction n with
  | zero => intro _; rfl
  | succ n ih =>
    intro h
    unfold cntUp bitsUp
    rw [ih (fun k hk => h k (by omega))]
    have m := Nat.mod_lt (x / 2 ^ n) (show 0 < 2 by decide)
    have hn := h n (by omega)
    by_cases q : x / 2 ^ n % 2 = 1
    · rw [if_pos (hn.mpr q), q]
    · rw [if_neg (fun r => q (hn.mp r))]; omega
theorem skc_is {s t : Row} {b : Int} {x : Nat} : ∀ n, (∀ k : Nat, k < n → ((sM t k 1 = 1 ∧ sM t k 3 = b) ↔ x / 2 ^ k % 2 = 1) ∧ sM t k 0 = sM s k 0) → skcUp t b n = smUp (skf s 1) x n := by
  intro n
  induction n with
  | zero => intro _; rfl
  | succ n ih =>
    intro h
    unfold skcUp smUp
    rw [ih (fun k hk => h k (by omega))]
    obtain ⟨hn, h0⟩ := h n (by omega)
    rw [h0]
    by_cases q : x / 2 ^ n % 2 = 1
    · rw [if_pos q]
      rcases skf_c s 1 n with ⟨c1, c2⟩ | ⟨c1, c2⟩
      · rw [c2, if_pos ⟨hn.mpr q, by omega⟩]
      · rw [c2, if_neg (fun r => c1 (by omega))]
    · rw [if_neg q, if_neg (fun r => q (hn.mp r.1))]
theorem WJ.send {M : Int} {s : Row} (hI : RI M s) (hW : WI s) (h : WJ s) {a : Nat} {hr : Int} (ha : a < cB s) (h0 : sB s a 2 ≠ 1) (hk : crOk s a) (hf : sB s a 1 - 1 ≤ freeO s) : WJ (sendR s a hr) := by
  have gc := hI.c
  have gs := hI.s
  obtain ⟨w1, w2, wm, wb⟩ := hW
  have hs := w2 a (by omega)
  have ga := hI.b a (by omega)
  have hl0 := hk.1
  have hll := lst_lt hI (ableS s) 2
  obtain ⟨l1, l2, l3⟩ := lst_bit hl0
  have ha3 : a < 3 := by omega
  obtain ⟨b1, b2, b5, -, -, -, -, bo⟩ := sendR_B (s := s) (a := a) (h := hr) gc.1.2
  have e1 : sendR s a hr 1 = s 1 := sendR_low ha3 (by omega) gc.1.2
  have e2 : sendR s a hr 2 = s 2 := sendR_low ha3 (by omega) gc.1.2
  have e3 : sendR s a hr 3 = s 3 := sendR_low ha3 (by omega) gc.1.2
  have e5 : sendR s a hr 5 = s 5 := sendR_low ha3 (by omega) gc.1.2
  have e4 : sendR s a hr 4 = s 4 + 1 := by
    have q : sendUp s (crw s a) a (lst s (ableS s) 2) (cM s) 4 = s 4 := sendUp_at _ _ (fun k hk => by omega)
    unfold sendR
    try simp only []
    rw [up_same, q]
  have ec : cM (sendR s a hr) = cM s := congrArg Int.toNat e1
  have eb : cB (sendR s a hr) = cB s := congrArg Int.toNat e2
  have el : cL (sendR s a hr) = cL s := congrArg Int.toNat e3
  have m1 : ∀ k : Nat, k < 10 → sM (sendR s a hr) k 1 = if k < cM s ∧ crw s a / 2 ^ k % 2 = 1 then 1 else sM s k 1 := fun k hk2 => (sendR_M ha3 hk2 (w := 1) (by decide)).trans (sendUp_v _ k).1
  have m3 : ∀ k : Nat, k < 10 → sM (sendR s a hr) k 3 = if k < cM s ∧ crw s a / 2 ^ k % 2 = 1 then (a : Int) else sM s k 3 := fun k hk2 => (sendR_M ha3 hk2 (w := 3) (by decide)).trans (sendUp_v _ k).2
  have m0 : ∀ k : Nat, k < 10 → sM (sendR s a hr) k 0 = sM s k 0 := fun k hk2 => (sendR_M ha3 hk2 (w := 0) (by decide)).trans (sendUp_0 _ k)
  have m5 : ∀ k : Nat, k < 10 → _ := fun k hk2 => (sendR_M (s := s) (h := hr) ha3 hk2 (w := 5) (by decide)).trans (sendUp_56 _ k).1
  have m6 : ∀ k : Nat, k < 10 → _ := fun k hk2 => (sendR_M (s := s) (h := hr) ha3 hk2 (w := 6) (by decide)).trans (sendUp_56 _ k).2
  have bo' : ∀ i : Nat, i ≠ a → ∀ w : Nat, w < 7 → sB (sendR s a hr) i w = sB s i w := fun i hi w hw => bo i (by omega) (by omega) w (by omega) (by omega)
  have b21 : sB (sendR s a hr) a 1 = sB s a 1 := b1
  obtain ⟨h1, h2, h3, h4⟩ := h
  refine ⟨fun k hk2 => ?_, fun b hb => ?_, ?_, ?_⟩
  · rw [ec] at hk2
    have q5 : sM (sendR s a hr) k 5 = _ := m5 k (by omega)
    have q6 : sM (sendR s a hr) k 6 = _ := m6 k (by omega)
    rw [q5, q6]
    have := h1 k hk2
    split
    · split <;> omega
    · omega
  · rw [eb] at hb
    by_cases e : b = a
    · subst e
      have ex : ∀ k : Nat, k < cM s → ((sM (sendR s b hr) k 1 = 1 ∧ sM (sendR s b hr) k 3 = b) ↔ crw s b / 2 ^ k % 2 = 1) := by
        intro k hk2
        rw [m1 k (by omega), m3 k (by omega)]
        by_cases q : crw s b / 2 ^ k % 2 = 1
        · rw [if_pos ⟨hk2, q⟩, if_pos ⟨hk2, q⟩]; exact ⟨fun _ => q, fun _ => ⟨rfl, rfl⟩⟩
        · rw [if_neg (fun r => q r.2), if_neg (fun r => q r.2)]
          refine ⟨fun r => ?_, fun r => absurd r q⟩
          have := ((wm k hk2).1 r.1).2.2
          rw [r.2] at this
          exact absurd this h0
      refine ⟨fun _ => ⟨?_, ?_, ?_⟩, fun r => absurd b2 r⟩
      · have hx := crw_bits hI hs hk
        have hc2 : crw s b < 2 ^ cM s := by
          have hlt : ∀ j, crw s b / 2 ^ j % 2 = 1 → j < cM s := fun j hj => (crw_in hI hs hk hj).1
          refine Decidable.byContradiction fun q => ?_
          obtain ⟨j, hj, hj2⟩ := Nat.exists_ge_and_testBit_of_ge_two_pow (show crw s b ≥ 2 ^ cM s by omega)
          have := hlt j ((bt1_tb _ _).mpr hj2)
          omega
        unfold bitsN at hx
        rw [bits_stop hc2 10 gc.1.2] at hx
        rw [ec, cnt_is _ ex, b21]
        exact hx
      · rw [b5]
        obtain ⟨j, hj⟩ := Int.eq_ofNat_of_zero_le hl0
        rw [hj] at l3 ⊢
        rw [m0 j (by omega)]
        have := (hI.m j (by omega)).1
        omega
      · rw [ec, skc_is (s := s) _ (fun k hk2 => ⟨ex k hk2, m0 k (by omega)⟩)]
        unfold mustO
        rw [b21]
        exact crw_sk hI hk (sB s b 1 - 1).toNat (by omega) (mustO s b) (by unfold mustO; omega) (Int.le_refl _)
    · have ex : ∀ k : Nat, k < cM s → ((sM (sendR s a hr) k 1 = 1 ∧ sM (sendR s a hr) k 3 = b) ↔ (sM s k 1 = 1 ∧ sM s k 3 = b)) := by
        intro k hk2
        rw [m1 k (by omega), m3 k (by omega)]
        by_cases q : crw s a / 2 ^ k % 2 = 1
        · rw [if_pos ⟨hk2, q⟩, if_pos ⟨hk2, q⟩]
          have := (crw_in hI hs hk q).2
          exact ⟨fun r => absurd r.2 (by omega), fun r => absurd r.1 (by omega)⟩
        · rw [if_neg (fun r => q r.2), if_neg (fun r => q r.2)]
      refine (h2 b hb).of (bo' b e 1 (by omega)) (bo' b e 2 (by omega)) (fun _ q => (bo' b e 3 (by omega)).trans q) ?_ ?_ (fun r => ?_)
      · rw [ec]; exact wj_cnt _ ex
      · rw [ec]; exact wj_skc _ (fun k hk2 => ⟨ex k hk2, fun _ => m0 k (by omega)⟩)
      · obtain ⟨c1, c2, -⟩ := (wb b hb).1 r
        rw [show sB (sendR s a hr) b 5 = sB s b 5 from bo' b e 5 (by omega)]
        obtain ⟨k, hk2⟩ := Int.eq_ofNat_of_zero_le c1
        rw [hk2]
        exact m0 k (by omega)
  · unfold freeO outO allO at hf
    unfold outO allO
    have o9 := wj_out1 (s := s) (t := sendR s a hr) (a := a) (fun i hi => ⟨bo' i hi 2 (by omega), bo' i hi 1 (by omega)⟩) (cB s)
    rw [if_pos ha, if_pos b2, if_neg h0, b21] at o9
    rw [eb, el, o9, wj_oars (s := s) _ (fun q hq => by rw [eL0, eL0]; exact sendR_low ha3 (by omega) gc.1.2)]
    omega
  · have o9 := wj_bo1 (s := s) (t := sendR s a hr) (a := a) (fun i hi => bo' i hi 2 (by omega)) (cB s)
    rw [if_pos ha, b2] at o9
    rw [eb, o9, e4, e5]
    omega
/-- a boat comes in -/
theorem WJ.inn {M : Int} {s : Row} (hI : RI M s) (hW : WI s) (h : WJ s) {b : Nat} (hb : b < cB s) (h0 : sB s b 2 = 1) (h9 : sB s b 3 = 0) : WJ (comeIn s b) := by
  have gc := hI.c
  have gs := hI.s
  have hb3 : b < 3 := by omega
  have hs := hW.2.1 b (by omega)
  obtain ⟨b2, b5, bs, bo⟩ := comeIn_B (s := s) (b := b) gc.1.2
  have m1 : ∀ k : Nat, k < 10 → sM (comeIn s b) k 1 = if k < cM s ∧ sM s k 1 = 1 ∧ sM s k 3 = b then 0 else sM s k 1 := fun k hk => (comeIn_M hk (w := 1) (by decide)).trans (inUp_v _ k).1
  have m3 : ∀ k : Nat, k < 10 → sM (comeIn s b) k 3 = if k < cM s ∧ sM s k 1 = 1 ∧ sM s k 3 = b then -1 else sM s k 3 := fun k hk => (comeIn_M hk (w := 3) (by decide)).trans (inUp_v _ k).2
  have mw : ∀ k : Nat, k < 10 → ∀ w : Nat, w < 7 → w ≠ 1 → w ≠ 3 → sM (comeIn s b) k w = sM s k w := fun k hk w hw q1 q3 => (comeIn_M hk hw).trans (by rw [sM_n, sM_n]; exact inUp_at _ _ (fun j hj => by omega))
  have bo' : ∀ i : Nat, i ≠ b → ∀ w : Nat, w < 7 → sB (comeIn s b) i w = sB s i w := fun i hi w hw => bo i (by omega) (by omega) w (by omega) (by omega)
  have e1 : comeIn s b 1 = s 1 := comeIn_at gc.1.2 (by omega) hb3
  have e2 : comeIn s b 2 = s 2 := comeIn_at gc.1.2 (by omega) hb3
  have e3 : comeIn s b 3 = s 3 := comeIn_at gc.1.2 (by omega) hb3
  have e4 : comeIn s b 4 = s 4 := comeIn_at gc.1.2 (by omega) hb3
  have e5 : comeIn s b 5 = s 5 + 1 := by
    have q : inUp s b (cM s) 5 = s 5 := inUp_at _ _ (fun j hj => by omega)
    unfold comeIn
    try simp only []
    rw [up_same, q]
  have ec : cM (comeIn s b) = cM s := congrArg Int.toNat e1
  have eb : cB (comeIn s b) = cB s := congrArg Int.toNat e2
  have el : cL (comeIn s b) = cL s := congrArg Int.toNat e3
  obtain ⟨h1, h2, h3, h4⟩ := h
  refine ⟨fun k hk => ?_, fun i hi => ?_, ?_, ?_⟩
  · rw [ec] at hk
    have q5 : sM (comeIn s b) k 5 = sM s k 5 := mw k (by omega) 5 (by omega) (by omega) (by omega)
    have q6 : sM (comeIn s b) k 6 = sM s k 6 := mw k (by omega) 6 (by omega) (by omega) (by omega)
    have := h1 k hk
    omega
  · rw [eb] at hi
    by_cases e : i = b
    · subst e
      refine ⟨fun r => ?_, fun _ => ?_⟩
      · rw [b2] at r; exact absurd r (by decide)
      · rw [bs 3 (by decide) (by decide) (by decide) (by decide)]; exact h9
    · have ex : ∀ k : Nat, k < cM s → ((sM (comeIn s b) k 1 = 1 ∧ sM (comeIn s b) k 3 = i) ↔ (sM s k 1 = 1 ∧ sM s k 3 = i)) := by
        intro k hk
        rw [m1 k (by omega), m3 k (by omega)]
        by_cases q : k < cM s ∧ sM s k 1 = 1 ∧ sM s k 3 = b
        · rw [if_pos q, if_pos q]
          exact ⟨fun r => absurd r.1 (by decide), fun r => absurd r.2 (by omega)⟩
        · rw [if_neg q, if_neg q]
      refine (h2 i hi).of (bo' i e 1 (by omega)) (bo' i e 2 (by omega)) (fun _ q => (bo' i e 3 (by omega)).trans q) ?_ ?_ (fun r => ?_)
      · rw [ec]; exact wj_cnt _ ex
      · rw [ec]; exact wj_skc _ (fun k hk => ⟨ex k hk, fun _ => mw k (by omega) 0 (by omega) (by omega) (by omega)⟩)
      · obtain ⟨c1, c2, -⟩ := (hW.2.2.2 i hi).1 r
        rw [show sB (comeIn s b) i 5 = sB s i 5 from bo' i e 5 (by omega)]
        obtain ⟨k, hk⟩ := Int.eq_ofNat_of_zero_le c1
        rw [hk]
        exact mw k (by omega) 0 (by omega) (by omega) (by omega)
  · have o9 := wj_out1 (s := s) (t := comeIn s b) (a := b) (fun i hi => ⟨bo' i hi 2 (by omega), bo' i hi 1 (by omega)⟩) (cB s)
    rw [if_pos hb, if_neg (by rw [b2]; decide), if_pos h0] at o9
    have o8 := wj_oars (s := s) (t := comeIn s b) (cL s) (fun q hq => by rw [eL0, eL0]; exact comeIn_at gc.1.2 (by omega) hb3)
    unfold outO allO at h3 ⊢
    rw [eb, el, o9, o8]
    omega
  · have o9 := wj_bo1 (s := s) (t := comeIn s b) (a := b) (fun i hi => bo' i hi 2 (by omega)) (cB s)
    rw [if_pos hb, b2, h0] at o9
    rw [eb, o9, e4, e5]
    omega
theorem WJ.b3 {M : Int} {s : Row} (hI : RI M s) (hW : WI s) (h : WJ s) {b : Nat} (hb : b < cB s) (h0 : sB s b 2 = 1) {v : Int} : WJ (up s (78 + 7 * b + 3) v) := by
  have gc := hI.c
  have ec : cM (up s (78 + 7 * b + 3) v) = cM s := congrArg Int.toNat (up_ne _ _ (by omega))
  have eb : cB (up s (78 + 7 * b + 3) v) = cB s := congrArg Int.toNat (up_ne _ _ (by omega))
  have el : cL (up s (78 + 7 * b + 3) v) = cL s := congrArg Int.toNat (up_ne _ _ (by omega))
  have em : ∀ k : Int, 0 ≤ k ∧ k < 10 → ∀ w : Nat, w < 7 → sM (up s (78 + 7 * b + 3) v) k w = sM s k w := fun k hk w hw => sM_up (by omega)
  have e9 : ∀ k : Nat, ∀ w : Nat, w < 7 → w ≠ 3 → sB (up s (78 + 7 * b + 3) v) k w = sB s k w := fun k w q1 q2 => sB_up (by omega)
  obtain ⟨h1, h2, h3, h4⟩ := h
  refine ⟨fun k hk => ?_, fun i hi => ?_, ?_, ?_⟩
  · rw [ec] at hk
    have q5 : sM (up s (78 + 7 * b + 3) v) k 5 = sM s k 5 := em k (by omega) 5 (by omega)
    have q6 : sM (up s (78 + 7 * b + 3) v) k 6 = sM s k 6 := em k (by omega) 6 (by omega)
    have := h1 k hk
    omega
  · rw [eb] at hi
    refine (h2 i hi).of (e9 i 1 (by omega) (by omega)) (e9 i 2 (by omega) (by omega)) (fun r q => ?_) ?_ ?_ (fun r => ?_)
    · rw [sB_up (fun e => r ?_)]
      · exact q
      · have : i = b := by omega
        subst this; exact h0
    · rw [ec]; exact cnt_eq _ (fun k hk => ⟨em k (by omega) 1 (by omega), em k (by omega) 3 (by omega)⟩)
    · rw [ec]
      refine wj_skc _ (fun k hk => ⟨?_, fun _ => em k (by omega) 0 (by omega)⟩)
      have q1 : sM (up s (78 + 7 * b + 3) v) k 1 = sM s k 1 := em k (by omega) 1 (by omega)
      have q3 : sM (up s (78 + 7 * b + 3) v) k 3 = sM s k 3 := em k (by omega) 3 (by omega)
      rw [show sM (up s (78 + 7 * b + 3) v) k 1 = sM s k 1 from q1, show sM (up s (78 + 7 * b + 3) v) k 3 = sM s k 3 from q3]
    · obtain ⟨c1, c2, -⟩ := (hW.2.2.2 i hi).1 r
      rw [show sB (up s (78 + 7 * b + 3) v) i 5 = sB s i 5 from e9 i 5 (by omega) (by omega)]
      exact em _ (by have := gc.1; omega) 0 (by omega)
  · unfold outO allO
    rw [eb, el, wj_out (s := s) _ (fun i hi => ⟨e9 i 2 (by omega) (by omega), e9 i 1 (by omega) (by omega)⟩), wj_oars (s := s) _ (fun q hq => sL_up (by omega))]
    exact h3
  · rw [eb, wj_bo (s := s) _ (fun i hi => e9 i 2 (by omega) (by omega)), up_ne _ _ (by omega), up_ne _ _ (by omega)]
    exact h4
theorem WJ.bGo {M : Int} {s : Row} (hI : RI M s) (hW : WI s) (h : WJ s) {b : Nat} (hb : b < cB s) : WJ (boatGo s b) := by
  have gc := hI.c
  have gb := hI.b b (by omega)
  unfold boatGo
  try simp only []
  split
  · exact h
  · rename_i q0
    have h0 : sB s b 2 = 1 := by omega
    have hI1 : RI M (up s (78 + 7 * b + 3) (max 0 (sB s b 3 - 1))) := by rw [← tB3]; exact RI.sb3 hI (by omega) (by omega)
    have hW1 : WI (up s (78 + 7 * b + 3) (max 0 (sB s b 3 - 1))) := WI_up hI hW (by omega)
    have h1 : WJ (up s (78 + 7 * b + 3) (max 0 (sB s b 3 - 1))) := h.b3 hI hW hb h0
    have hb1 : b < cB (up s (78 + 7 * b + 3) (max 0 (sB s b 3 - 1))) := by show b < (up s (78 + 7 * b + 3) _ 2).toNat; rw [up_ne _ _ (by omega)]; exact hb
    split
    · exact h1
    · rename_i q3
      have g3 := (hI1.b b (by omega)).2.2.2.1.1
      split
      · exact h1.at9 hI1 (by unfold RelY; omega)
      · refine h1.inn hI1 hW1 hb1 ?_ (by omega)
        rw [sB_up (by omega)]; exact h0
theorem WJ.boats {M : Int} {s : Row} (hI : RI M s) (hW : WI s) (h : WJ s) : ∀ n : Nat, n ≤ cB s → M + n ≤ 100000000 → WJ (boatsUp s n) := by
  have gc := hI.c
  intro n
  induction n with
  | zero => intro _ _; exact h
  | succ n ih =>
    intro hn hM
    have e2 : boatsUp s n 2 = s 2 := boatsUp_at gc.1.2 n 2 (by omega) (by omega)
    exact (ih (by omega) (by omega)).bGo (boatsUp_RI hI n (by omega) (by omega)) (WI_boats hI hW n (by omega) (by omega)) (by show n < (boatsUp s n 2).toNat; rw [e2]; exact hn)
/-- oars are given back -/
theorem take_oars {s : Row} {q : Nat} (hq : q < cL s) : ∀ n, n + 1 = cL s → oarsUp (takeL s q) n = oarsUp s (n + 1) - sL s q 0 := by
  have key : ∀ n, n + 1 ≤ cL s → oarsUp (takeL s q) n = (if q < n then oarsUp s (n + 1) - sL s q 0 else oarsUp s n) := by
    intro n
    induction n with
    | zero => intro _; rw [if_neg (by omega)]; rfl
    | succ n ih =>
      intro hn
      have i := ih (by omega)
      have e1 : oarsUp (takeL s q) (n + 1) = oarsUp (takeL s q) n + sL (takeL s q) n 0 := rfl
      have e2 : oarsUp s (n + 1 + 1) = oarsUp s (n + 1) + sL s (n + 1 : Nat) 0 := rfl
      have e3 : oarsUp s (n + 1) = oarsUp s n + sL s n 0 := rfl
      have e4 : sL (takeL s q) n 0 = if q ≤ n then sL s (n + 1 : Nat) 0 else sL s n 0 := by
        rw [eL0, eL0, eL0]
        show (if _ then _ else _) = _
        rw [if_neg (by omega)]
        by_cases r : q ≤ n
        · rw [if_pos (by omega), if_pos r]; congr 1
        · rw [if_neg (by omega), if_neg (by omega), if_neg r]
      rw [e1, i, e4, e2]
      by_cases r : q < n
      · rw [if_pos r, if_pos (by omega), if_pos (by omega)]; omega
      · rw [if_neg r]
        by_cases r2 : q = n
        · subst r2
          rw [if_pos (Nat.le_refl _), if_pos (by omega), e3]; omega
        · rw [if_neg (by omega), if_neg (by omega), e3]
  intro n hn
  rw [key n (by omega)]
  by_cases r : q < n
  · rw [if_pos r]
  · rw [if_neg r]
    have : q = n := by omega
    subst this
    have e3 : oarsUp s (q + 1) = oarsUp s q + sL s q 0 := rfl
    omega
theorem WJ.take {M : Int} {s : Row} (hI : RI M s) (h : WJ s) {q : Nat} (hq : q < cL s) (hf : sL s q 0 ≤ freeO s) : WJ (takeL s q) := by
  have gc := hI.c
  have gs := hI.s
  have e3 : takeL s q 3 = s 3 - 1 := if_pos rfl
  have el : cL (takeL s q) + 1 = cL s := by unfold cL; rw [e3]; unfold cL at hq; omega
  have ec : cM (takeL s q) = cM s := congrArg Int.toNat (takeL_at (by omega))
  have eb : cB (takeL s q) = cB s := congrArg Int.toNat (takeL_at (by omega))
  have em : ∀ k : Int, -1 ≤ k ∧ k < 10 → ∀ w : Nat, w < 7 → w ≠ 2 → sM (takeL s q) k w = sM s k w := fun k hk w hw _ => takeL_at (by omega)
  have e9 : ∀ k : Nat, k < 3 → ∀ w : Nat, w < 7 → sB (takeL s q) k w = sB s k w := fun k hk w q1 => takeL_at (by omega)
  obtain ⟨h1, h2, h3, h4⟩ := h
  refine ⟨fun k hk => ?_, fun b hb => ?_, ?_, ?_⟩
  · rw [ec] at hk
    have q5 : sM (takeL s q) k 5 = sM s k 5 := em k (by omega) 5 (by omega) (by omega)
    have q6 : sM (takeL s q) k 6 = sM s k 6 := em k (by omega) 6 (by omega) (by omega)
    have := h1 k hk
    omega
  · rw [eb] at hb
    refine (h2 b hb).of (e9 b (by omega) 1 (by omega)) (e9 b (by omega) 2 (by omega)) (fun _ r => (e9 b (by omega) 3 (by omega)).trans r) ?_ ?_ (fun r => ?_)
    · rw [ec]; exact cnt_eq _ (fun k hk => ⟨em k (by omega) 1 (by omega) (by omega), em k (by omega) 3 (by omega) (by omega)⟩)
    · rw [ec]
      refine wj_skc _ (fun k hk => ⟨?_, fun _ => em k (by omega) 0 (by omega) (by omega)⟩)
      have q1 : sM (takeL s q) k 1 = sM s k 1 := em k (by omega) 1 (by omega) (by omega)
      have q3 : sM (takeL s q) k 3 = sM s k 3 := em k (by omega) 3 (by omega) (by omega)
      rw [show sM (takeL s q) k 1 = sM s k 1 from q1, show sM (takeL s q) k 3 = sM s k 3 from q3]
    · rw [show sB (takeL s q) b 5 = sB s b 5 from e9 b (by omega) 5 (by omega)]
      have g := (hI.b b (by omega)).2.2.2.2.2.1
      exact em _ (by omega) 0 (by omega) (by omega)
  · unfold freeO outO allO at hf
    unfold outO allO
    rw [eb, wj_out (s := s) _ (fun b hb => ⟨e9 b (by omega) 2 (by omega), e9 b (by omega) 1 (by omega)⟩), take_oars hq _ el, el]
    omega
  · rw [eb, wj_bo (s := s) _ (fun b hb => e9 b (by omega) 2 (by omega)), takeL_at (by omega), takeL_at (by omega)]
    exact h4
theorem WJ.loans : ∀ (n : Nat) {M : Int} {s : Row} (k : Nat), RI M s → WJ s → k ≤ 4 → M + n ≤ 100000000 → WJ (lnGo n s k) := by
  intro n
  induction n with
  | zero => intro M s k _ h _ _; simpa [lnGo] using h
  | succ n ih =>
    intro M s k hI h hk hM
    have g := hI.s
    unfold lnGo
    split
    · rename_i hlt
      have gl := hI.l k (by omega)
      have hI1 : RI M (up s (99 + 3 * k + 1) (max 0 (sL s k 1 - 1))) := by rw [← tL1]; exact RI.sl1 hI (by omega) (by omega)
      have h1 : WJ (up s (99 + 3 * k + 1) (max 0 (sL s k 1 - 1))) := h.at9 hI (by unfold RelY; omega)
      have g1 := hI1.s
      have gl1 := hI1.l k (by omega)
      have ec : (up s (99 + 3 * k + 1) (max 0 (sL s k 1 - 1))) 3 = s 3 := up_ne _ _ (by omega)
      simp only []
      split
      · rename_i hc
        have hq : k < cL (up s (99 + 3 * k + 1) (max 0 (sL s k 1 - 1))) := by unfold cL; rw [ec]; omega
        exact ih k (takeL_RI hI1 hq) (h1.take hI1 hq hc.2) (by omega) (by omega)
      · have hI2 := hI1.le (N := M + 1) (by omega) (by omega)
        have hI3 : RI (M + 1) (up (up s (99 + 3 * k + 1) (max 0 (sL s k 1 - 1))) (99 + 3 * k + 2) (sL (up s (99 + 3 * k + 1) (max 0 (sL s k 1 - 1))) k 2 + (if sL (up s (99 + 3 * k + 1) (max 0 (sL s k 1 - 1))) k 1 = 0 then 1 else 0))) := by
          rw [← tL2]; refine RI.sl2 hI2 (by omega) ?_
          split <;> omega
        refine ih (M := M + 1) (k + 1) (RI.ss6 hI3 ?_) ((h1.at9 hI1 (by unfold RelY; omega)).at9 hI3 (by unfold RelY; omega)) (by omega) (by omega)
        split <;> omega
    · exact h
theorem WJ.hour {M : Int} {s : Row} (hI : RI M s) (hW : WI s) (h : WJ s) (hM : M + 30 ≤ 100000000) : WJ (hourR s) := by
  have gc := hI.c
  have gs := hI.s
  have hI1 : RI (M + 1) (up s 0 (s 0 + 1)) := RI.ss0 (hI.le (by omega) (by omega)) (by omega)
  have hW1 : WI (up s 0 (s 0 + 1)) := WI_up hI hW (by omega)
  have h1 : WJ (up s 0 (s 0 + 1)) := h.at9 hI (by unfold RelY; omega)
  have c1 := hI1.c
  have hI2 := memsUp_RI hI1 (cM (up s 0 (s 0 + 1))) c1.1.2 (by omega)
  have hW2 : WI (memsUp (up s 0 (s 0 + 1)) (cM (up s 0 (s 0 + 1)))) := WI_same hI1 hW1 (memsUp_at _ _ (fun k hk => by omega)) (memsUp_at _ _ (fun k hk => by omega))
    (fun i a b => ⟨memsUp_at _ _ (fun k hk => by omega), memsUp_at _ _ (fun k hk => by omega), memsUp_at _ _ (fun k hk => by omega)⟩) (fun k hk => memsUp_IS _ _ k)
  have h2 : WJ (memsUp (up s 0 (s 0 + 1)) (cM (up s 0 (s 0 + 1)))) := h1.same hI1 (fun y hy => memsUp_at _ _ (fun k hk => by unfold RelY at hy; omega))
  have c2 := hI2.c
  have hI3 := boatsUp_RI hI2 _ c2.2.1.2 (by omega)
  have h3 := h2.boats hI2 hW2 _ (Nat.le_refl _) (by omega)
  have c3 := hI3.c
  unfold hourR
  exact h3.loans _ 0 hI3 (by omega) (by omega)
theorem WJ.hours {M : Int} {s : Row} (hI : RI M s) (hW : WI s) (h : WJ s) : ∀ n : Nat, M + 30 * n ≤ 100000000 → WJ (hoursUp s n) := by
  intro n
  induction n with
  | zero => intro _; exact h
  | succ n ih => intro hM; exact (ih (by omega)).hour (hoursUp_RI hI n (by omega)) (WI_hours hI hW n (by omega)) (by omega)
theorem ad_wj {M : Int} {s : Row} (hI : RI M s) (hW : WI s) (h : WJ s) (hM : M + 3000 ≤ 100000000) {d : Nat} (hd : d ≤ 8) {a b : Int} (hj : (jd d s a b).1 = 0) : WJ (ad d s a b).2 := by
  have gc := hI.c
  have gs := hI.s
  obtain h9 | h9 | h9 | h9 | h9 | h9 | h9 | h9 | h9 : d = 0 ∨ d = 1 ∨ d = 2 ∨ d = 3 ∨ d = 4 ∨ d = 5 ∨ d = 6 ∨ d = 7 ∨ d = 8 := by omega
  all_goals subst h9
  · have hq := jd0_ok hj
    exact h.nM hI hW (by omega)
  · have hq := jd1_ok hj
    obtain ⟨k, rfl⟩ := Int.eq_ofNat_of_zero_le hq.1.1
    show WJ (up s (8 + 7 * (k : Int) + 1).toNat 2)
    rw [tM1]
    exact h.leave hI hW (by omega) hq.2.2 (Or.inr rfl) (fun _ => rfl)
  · have hq := jd2_ok hj
    obtain ⟨k, rfl⟩ := Int.eq_ofNat_of_zero_le hq.1.1
    show WJ (up s (8 + 7 * (k : Int)).toNat (sM s k 0 + 1))
    rw [show (8 + 7 * (k : Int)).toNat = 8 + 7 * k + 0 by omega]
    exact h.leave hI hW (by omega) hq.2.2.1 (Or.inl rfl) (fun q => absurd q (by decide))
  · have hq := jd3_ok hj
    exact h.nB hI hW (by omega)
  · have hq := jd4_ok hj
    obtain ⟨k, rfl⟩ := Int.eq_ofNat_of_zero_le hq.1.1
    have hs2 := hW.2.1 k (by omega)
    have hout := whyN_out hq.2.2
    have hok := crOk_of hI (by omega) hs2 (whyN_0 hq.2.2)
    refine h.send hI hW (by omega) hout hok ?_
    have h7 : ¬ hgt (s 0) < sB s k 0 := fun q => by
      have := hq.2.2; unfold whyN at this; rw [if_neg hout, if_pos q] at this; omega
    have hc : ¬ 0 < whyC s k := by rw [whyN_0 hq.2.2]; omega
    refine Decidable.byContradiction fun q => ?_
    have := whyN_11 hout h7 hc (by omega)
    have := hq.2.2
    omega
  · have hq := jd5_ok hj
    show WJ (newL s a b)
    have e3 : newL s a b 3 = s 3 + 1 := if_pos rfl
    have en : ∀ y, y ≠ 3 → y < 99 + 3 * cL s ∨ 99 + 3 * cL s + 3 ≤ y → newL s a b y = s y := fun y h1 h2 => by
      show (if _ then _ else _) = _
      rw [if_neg h1, if_neg (by omega), if_neg (by omega), if_neg (by omega)]
    have el : cL (newL s a b) = cL s + 1 := by unfold cL; rw [e3]; omega
    have ec : cM (newL s a b) = cM s := congrArg Int.toNat (en 1 (by omega) (by omega))
    have eb : cB (newL s a b) = cB s := congrArg Int.toNat (en 2 (by omega) (by omega))
    have em : ∀ k : Int, -1 ≤ k ∧ k < 10 → ∀ w : Nat, w < 7 → w ≠ 2 → sM (newL s a b) k w = sM s k w := fun k hk w hw _ => en _ (by omega) (by omega)
    have e9 : ∀ k : Nat, k < 3 → ∀ w : Nat, w < 7 → sB (newL s a b) k w = sB s k w := fun k hk w q1 => en _ (by omega) (by omega)
    obtain ⟨h1, h2, h3, h4⟩ := h
    refine ⟨fun k hk => ?_, fun b2 hb => ?_, ?_, ?_⟩
    · rw [ec] at hk
      have q5 : sM (newL s a b) k 5 = sM s k 5 := em k (by omega) 5 (by omega) (by omega)
      have q6 : sM (newL s a b) k 6 = sM s k 6 := em k (by omega) 6 (by omega) (by omega)
      have := h1 k hk
      omega
    · rw [eb] at hb
      refine (h2 b2 hb).of (e9 b2 (by omega) 1 (by omega)) (e9 b2 (by omega) 2 (by omega)) (fun _ r => (e9 b2 (by omega) 3 (by omega)).trans r) ?_ ?_ (fun r => ?_)
      · rw [ec]; exact cnt_eq _ (fun k hk => ⟨em k (by omega) 1 (by omega) (by omega), em k (by omega) 3 (by omega) (by omega)⟩)
      · rw [ec]
        refine wj_skc _ (fun k hk => ⟨?_, fun _ => em k (by omega) 0 (by omega) (by omega)⟩)
        have q1 : sM (newL s a b) k 1 = sM s k 1 := em k (by omega) 1 (by omega) (by omega)
        have q3 : sM (newL s a b) k 3 = sM s k 3 := em k (by omega) 3 (by omega) (by omega)
        rw [show sM (newL s a b) k 1 = sM s k 1 from q1, show sM (newL s a b) k 3 = sM s k 3 from q3]
      · rw [show sB (newL s a b) b2 5 = sB s b2 5 from e9 b2 (by omega) 5 (by omega)]
        have g := (hI.b b2 (by omega)).2.2.2.2.2.1
        exact em _ (by omega) 0 (by omega) (by omega)
    · have ea : sL (newL s a b) (cL s : Nat) 0 = a := by
        rw [eL0]; show (if _ then _ else _) = _
        rw [if_neg (by omega), if_pos (by omega)]
      have o8 := wj_oars (s := s) (t := newL s a b) (cL s) (fun q hq => by rw [eL0, eL0]; exact en _ (by omega) (by omega))
      have o9 : oarsUp (newL s a b) (cL s + 1) = oarsUp (newL s a b) (cL s) + sL (newL s a b) (cL s : Nat) 0 := rfl
      unfold outO allO at h3 ⊢
      rw [eb, el, o9, o8, ea, wj_out (s := s) _ (fun i hi => ⟨e9 i (by omega) 2 (by omega), e9 i (by omega) 1 (by omega)⟩)]
      omega
    · rw [eb, wj_bo (s := s) _ (fun i hi => e9 i (by omega) 2 (by omega)), en 4 (by omega) (by omega), en 5 (by omega) (by omega)]
      exact h4
  · have hq := jd6_ok hj
    obtain ⟨k, rfl⟩ := Int.eq_ofNat_of_zero_le hq.1.1
    show WJ (takeL s (k : Int).toNat)
    rw [Int.toNat_natCast]
    exact h.take hI (by omega) (by omega)
  · have hq := jd7_ok hj
    exact h.at9 hI (by unfold RelY; omega)
  · have hq := jd8_ok hj
    exact h.hours hI hW a.toNat (by omega)
