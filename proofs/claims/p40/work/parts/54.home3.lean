theorem hour_in {M : Int} {s : Row} (h : RI M s) {b : Nat} (hb : b < cB s) (ho : sB s b 2 = 0) : sB (hourR s) b 2 = 0 := by
  have gc := h.c
  have e1 : ∀ k, 0 < k → up s 0 (s 0 + 1) k = s k := fun k hk => up_ne _ _ (by omega)
  have ec : cM (up s 0 (s 0 + 1)) = cM s := cM_e (e1 1 (by omega))
  have em : ∀ z, (z < 8 ∨ 78 ≤ z) → memsUp (up s 0 (s 0 + 1)) (cM (up s 0 (s 0 + 1))) z = up s 0 (s 0 + 1) z := fun z hz => memsUp_at _ _ (fun k hk => by omega)
  have ecm : cM (memsUp (up s 0 (s 0 + 1)) (cM (up s 0 (s 0 + 1)))) = cM s := cM_e ((em 1 (by omega)).trans (e1 1 (by omega)))
  have ecb : cB (memsUp (up s 0 (s 0 + 1)) (cM (up s 0 (s 0 + 1)))) = cB s := cB_e ((em 2 (by omega)).trans (e1 2 (by omega)))
  generalize hu : memsUp (up s 0 (s 0 + 1)) (cM (up s 0 (s 0 + 1))) = u at em ecm ecb
  have hcu : cM u ≤ 10 := by omega
  have hr : ∀ y, y < 99 ∧ y ≠ 3 ∧ y ≠ 6 → hourR s y = boatsUp u (cB u) y := fun y hy => by
    rw [hour_e, hu]; exact lnGo_at _ _ _ _ hy
  have er : sB (hourR s) b 2 = sB (boatGo (boatsUp u b) b) b 2 := by
    have q := boatsUp_row (s := u) hcu (b := b) (w := 2) (by decide) (cB u) (by omega) (by omega)
    exact (hr _ (by omega)).trans q
  have eu : sB (boatsUp u b) b 2 = sB s b 2 := (boatsUp_oth (w := 2) hcu (by decide) b (by omega) (Nat.le_refl _)).trans ((em _ (by omega)).trans (e1 _ (by omega)))
  rw [er, boatGo_in (eu.trans ho), eu, ho]
theorem hours_in {M : Int} {s : Row} (h : RI M s) {b : Nat} (hb : b < cB s) {m : Nat} (ho : sB (hoursUp s m) b 2 = 0) : ∀ n : Nat, M + 30 * (m + n) + 60 ≤ 100000000 → sB (hoursUp s (m + n)) b 2 = 0 := by
  intro n
  induction n with
  | zero => intro _; exact ho
  | succ n ih =>
    intro hM
    have e2 : hoursUp s (m + n) 2 = s 2 := hoursUp_at h (y := 2) (by omega) (m + n) (by omega)
    exact hour_in (hoursUp_RI h (m + n) (by omega)) (by rw [cB_e e2]; exact hb) (ih (by omega))
/-- the first hour that is not one of staying out -/
theorem home_find {M : Int} {s : Row} (h : RI M s) {b : Nat} (hb : b < cB s) : ∃ m : Nat, 1 ≤ m ∧ m ≤ 20 ∧ (∀ j, 1 ≤ j → j < m → stay s b j) ∧ ¬ stay s b m := by
  have gb := h.b b (by have := h.c; omega)
  have gs := h.s
  have key : ∀ f k : Nat, 1 ≤ k → k + f = 21 → (∀ j, 1 ≤ j → j < k → stay s b j) → (∃ m : Nat, 1 ≤ m ∧ m ≤ 20 ∧ (∀ j, 1 ≤ j → j < m → stay s b j) ∧ ¬ stay s b m) ∨ (∀ j, 1 ≤ j → j < 21 → stay s b j) := by
    intro f
    induction f with
    | zero => intro k h1 h2 hj; right; rw [show k = 21 by omega] at hj; exact hj
    | succ f ih =>
      intro k h1 h2 hj
      by_cases e : stay s b k
      · exact ih (k + 1) (by omega) (by omega) (fun j a q => by
          by_cases c : j = k
          · subst c; exact e
          · exact hj j a (by omega))
      · exact Or.inl ⟨k, h1, by omega, hj, e⟩
  rcases key 20 1 (Nat.le_refl _) rfl (fun j a q => by omega) with q | q
  · exact q
  · exfalso
    obtain ⟨j, j1, j2, j3⟩ := hgt_top (s 0) 9 (by omega)
    have := q j (by omega) (by omega)
    unfold stay at this
    rw [j3] at this
    omega
theorem home_hh {M : Int} {s : Row} (h : RI M s) (hM : M + 3000 ≤ 100000000) {a : Int} (ha : 0 ≤ a ∧ a ≤ s 2 - 1) : ∀ n : Nat, n ≤ 21 → sB (hoursUp s n) a 2 = 1 → n < 21 := by
  obtain ⟨b, rfl⟩ := Int.eq_ofNat_of_zero_le ha.1
  have gc := h.c
  have hb : b < cB s := by omega
  intro n hn ho
  refine Decidable.byContradiction fun q => ?_
  have hn9 : n = 21 := by omega
  subst hn9
  have gb := h.b b (by omega)
  by_cases h0 : sB s b 2 = 0
  · have := hours_in h hb (m := 0) h0 21 (by omega)
    rw [Nat.zero_add] at this
    omega
  · obtain ⟨m, m1, m2, m3, m4⟩ := home_find h hb
    have z := hours_home h hb (by omega) (m := m) (by omega) m1 m3 m4
    have := hours_in h hb z (21 - m) (by omega)
    rw [show m + (21 - m) = 21 by omega] at this
    omega
