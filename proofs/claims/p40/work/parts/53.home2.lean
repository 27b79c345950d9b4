/-! a boat that is out comes home within 21 hours -/
abbrev stay (s : Row) (b : Nat) (j : Nat) : Prop := (j : Int) < sB s b 3 ∨ hgt (s 0 + j) < sB s b 0
theorem hours_out {M : Int} {s : Row} (h : RI M s) {b : Nat} (hb : b < cB s) (ho : sB s b 2 = 1) : ∀ n : Nat, M + 30 * n + 60 ≤ 100000000 → (∀ j, 1 ≤ j → j ≤ n → stay s b j) →
    sB (hoursUp s n) b 2 = 1 ∧ sB (hoursUp s n) b 3 = max 0 (sB s b 3 - n) ∧ hoursUp s n 0 = s 0 + n := by
  have gb := h.b b (by have := h.c; omega)
  intro n
  induction n with
  | zero => intro _ _; exact ⟨ho, by show sB s b 3 = _; omega, by show s 0 = _; omega⟩
  | succ n ih =>
    intro hM hj
    obtain ⟨i1, i2, i3⟩ := ih (by omega) (fun j a q => hj j a (by omega))
    have hIn := hoursUp_RI h n (by omega)
    have e2 : hoursUp s n 2 = s 2 := hoursUp_at h (y := 2) (by omega) n (by omega)
    have e0 : sB (hoursUp s n) b 0 = sB s b 0 := hoursUp_at h (y := (78 + 7 * (b : Int) + 0).toNat) (Or.inl (by unfold seatY; have := h.c; omega)) n (by omega)
    have own := hour_own hIn (by omega) (b := b) (by rw [cB_e e2]; exact hb) i1
    have hs := hj (n + 1) (by omega) (Nat.le_refl _)
    have en : ((n + 1 : Nat) : Int) = n + 1 := by omega
    have o := own.2.1 (by
      rw [i2, i3, e0]
      rcases hs with hs | hs
      · left; omega
      · right; rw [en, ← Int.add_assoc] at hs; exact hs)
    refine ⟨o.1, o.2.trans ?_, own.1.trans ?_⟩
    · rw [i2]; omega
    · rw [i3]; omega
theorem hours_home {M : Int} {s : Row} (h : RI M s) {b : Nat} (hb : b < cB s) (ho : sB s b 2 = 1) {m : Nat} (hM : M + 30 * m + 60 ≤ 100000000) (h1 : 1 ≤ m) (hj : ∀ j, 1 ≤ j → j < m → stay s b j) (hm : ¬ stay s b m) : sB (hoursUp s m) b 2 = 0 := by
  obtain ⟨n, rfl⟩ : ∃ n, m = n + 1 := ⟨m - 1, by omega⟩
  have gb := h.b b (by have := h.c; omega)
  obtain ⟨i1, i2, i3⟩ := hours_out h hb ho n (by omega) (fun j a q => hj j a (by omega))
  have hIn := hoursUp_RI h n (by omega)
  have e2 : hoursUp s n 2 = s 2 := hoursUp_at h (y := 2) (by omega) n (by omega)
  have e0 : sB (hoursUp s n) b 0 = sB s b 0 := hoursUp_at h (y := (78 + 7 * (b : Int) + 0).toNat) (Or.inl (by unfold seatY; have := h.c; omega)) n (by omega)
  have own := hour_own hIn (by omega) (b := b) (by rw [cB_e e2]; exact hb) i1
  have en : ((n + 1 : Nat) : Int) = n + 1 := by omega
  refine own.2.2 fun q => hm ?_
  rw [i2, i3, e0] at q
  rcases q with q | q
  · left; omega
  · right; rw [en, ← Int.add_assoc]; exact q
theorem homeUp_first {s : Row} {b : Int} : ∀ f n m : Nat, n ≤ m → m - n ≤ f → (∀ j, n ≤ j → j < m → sB (hoursUp s j) b 2 = 1) → sB (hoursUp s m) b 2 ≠ 1 → homeUp s b f n = m := by
  intro f
  induction f with
  | zero => intro n m h1 h2 _ _; show n = m; omega
  | succ f ih =>
    intro n m h1 h2 hj hm
    by_cases e : n = m
    · subst e; exact homeUp_e hm
    · rw [homeUp_s (hj n (Nat.le_refl _) (by omega))]
      exact ih (n + 1) m (by omega) (by omega) (fun j a q => hj j (by omega) q) hm
/-- the first hour of coming home, as the class's second answer finds it -/
theorem home_at {M : Int} {s : Row} (h : RI M s) {b : Nat} (hb : b < cB s) (ho : sB s b 2 = 1) {m : Nat} (hM : M + 30 * m + 60 ≤ 100000000) (hm21 : m ≤ 21) (h1 : 1 ≤ m) (hj : ∀ j, 1 ≤ j → j < m → stay s b j) (hm : ¬ stay s b m) : homeUp s b 21 0 = m := by
  refine homeUp_first 21 0 m (Nat.zero_le _) (by omega) (fun j _ q => (hours_out h hb ho j (by omega) (fun k a r => hj k a (by omega))).1) ?_
  have := hours_home h hb ho hM h1 hj hm
  omega
/-- within twelve hours the water stands at its highest -/
theorem hgt_top (h0 : Int) (L : Nat) (hh : 0 ≤ h0) : ∃ j : Nat, L ≤ j ∧ j < L + 12 ∧ hgt (h0 + j) = 6 := by
  have e : ∃ r : Nat, r < 12 ∧ (h0 + L + r) % 12 = 6 := ⟨(((18 : Int) - (h0 + L) % 12) % 12).toNat, by omega, by omega⟩
  obtain ⟨r, hr, er⟩ := e
  refine ⟨L + r, by omega, by omega, ?_⟩
  unfold hgt
  have q : (h0 + ((L + r : Nat) : Int)) % 12 = 6 := by rw [show h0 + ((L + r : Nat) : Int) = h0 + L + r by omega]; exact er
  rw [q, if_pos (by decide)]
