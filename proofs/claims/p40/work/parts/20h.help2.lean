/-! helper rows of texts -/
theorem cRd_mono {t : Row} {n h : Nat} {o o' : Row} {k m : Nat} (hf : ∀ y, y < 3 * m → o' y = o y) (hk : k < m) (h1 : cRd t n h o k) : cRd t n h o' k :=
  ⟨(hf _ (by omega)).trans h1.1, (hf _ (by omega)).trans h1.2.1, fun q => (hf _ (by omega)).trans (h1.2.2 q)⟩
def TxtP (ω : Wo) (t : Row) (n : Nat) (z : Int) (ω' : Wo) : Prop :=
  ∃ (o : Row) (K E : Nat), ω' = NW ω (up (up (ω.1 243) 17 (K : Int)) 16 (E : Int)) o ∧ ((z = 1 ∧ prs t n 21 0 = (-1, K) ∧ K ≤ 20 ∧ ∀ j : Nat, j < K → cOk t n (psn t n j) ∧ cRd t n (psn t n j) o j) ∨ (z = 0 ∧ prs t n 21 0 = ((E : Int), K)))
def TxL (ω : Wo) (n k : Nat) (o : Row) (z : Int) : Prop :=
  prs (ω.1 249) n (21 - k) k = prs (ω.1 249) n 21 0 ∧ (k ≤ 20 ∧ 3 * k ≤ psn (ω.1 249) n k ∧ psn (ω.1 249) n k ≤ n) ∧ (∀ j : Nat, j < k → cOk (ω.1 249) n (psn (ω.1 249) n j) ∧ cRd (ω.1 249) n (psn (ω.1 249) n j) o j) ∧ ((z = 1 ∧ cOk (ω.1 249) n (psn (ω.1 249) n k) ∧ cRd (ω.1 249) n (psn (ω.1 249) n k) o k) ∨ (z = 0 ∧ ¬ cOk (ω.1 249) n (psn (ω.1 249) n k)))
theorem TxL.next {ω : Wo} {n k : Nat} {o o1 : Row} {z z1 : Int} (h : TxL ω n k o z) (hz : z ≠ 0) (hn : n ≤ 60) (hs : sgn (ω.1 249) n (cEnd (ω.1 249) n (psn (ω.1 249) n k)) = 59) (hf : ∀ y, y < 3 * (k + 1) → o1 y = o y)
    (h1 : (z1 = 1 ∧ cOk (ω.1 249) n (cEnd (ω.1 249) n (psn (ω.1 249) n k) + 1) ∧ cRd (ω.1 249) n (cEnd (ω.1 249) n (psn (ω.1 249) n k) + 1) o1 (k + 1)) ∨ (z1 = 0 ∧ ¬ cOk (ω.1 249) n (cEnd (ω.1 249) n (psn (ω.1 249) n k) + 1))) : TxL ω n (k + 1) o1 z1 := by
  obtain ⟨i0, i1, i2, i3⟩ := h
  have hk : cOk (ω.1 249) n (psn (ω.1 249) n k) ∧ cRd (ω.1 249) n (psn (ω.1 249) n k) o k := by
    rcases i3 with q | q
    · exact q.2
    · exact absurd q.1 hz
  have hr := cOk_rg hk.1
  have hlt : cEnd (ω.1 249) n (psn (ω.1 249) n k) < n := by
    refine Decidable.byContradiction fun q => ?_
    rw [sgn_out q] at hs; exact absurd hs (by decide)
  have e : psn (ω.1 249) n (k + 1) = cEnd (ω.1 249) n (psn (ω.1 249) n k) + 1 := rfl
  refine ⟨?_, ?_, fun j hj => ?_, ?_⟩
  · rw [← i0, show 21 - k = (21 - (k + 1)) + 1 by omega]; exact (prs_go hk.1 hs).symm
  · rw [e]; omega
  · by_cases q : j < k
    · exact ⟨(i2 j q).1, cRd_mono hf (by omega) (i2 j q).2⟩
    · have : j = k := by omega
      subst this
      exact ⟨hk.1, cRd_mono hf (by omega) hk.2⟩
  · rw [e]; exact h1
theorem TxL.no {ω : Wo} {n k : Nat} {o : Row} {z : Int} (h : TxL ω n k o z) (hz : z = 0) : TxtP ω (ω.1 249) n 0 (NW ω (up (up (ω.1 243) 17 ((k + 1 : Nat) : Int)) 16 (cEnd (ω.1 249) n (psn (ω.1 249) n k) : Int)) o) := by
  obtain ⟨i0, i1, i2, i3⟩ := h
  refine ⟨o, k + 1, _, rfl, Or.inr ⟨rfl, ?_⟩⟩
  have hk : ¬ cOk (ω.1 249) n (psn (ω.1 249) n k) := by
    rcases i3 with q | q
    · omega
    · exact q.2
  rw [← i0, show 21 - k = (20 - k) + 1 by omega]; exact prs_no hk
theorem TxL.ok {ω : Wo} {n k : Nat} {o : Row} {z : Int} (h : TxL ω n k o z) (hn : n ≤ 60) (hz : z ≠ 0) (hs : ¬ sgn (ω.1 249) n (cEnd (ω.1 249) n (psn (ω.1 249) n k)) = 59) (he : (cEnd (ω.1 249) n (psn (ω.1 249) n k) : Int) = n) : TxtP ω (ω.1 249) n 1 (NW ω (up (up (ω.1 243) 17 ((k + 1 : Nat) : Int)) 16 (cEnd (ω.1 249) n (psn (ω.1 249) n k) : Int)) o) := by
  obtain ⟨i0, i1, i2, i3⟩ := h
  have hk : cOk (ω.1 249) n (psn (ω.1 249) n k) ∧ cRd (ω.1 249) n (psn (ω.1 249) n k) o k := by
    rcases i3 with q | q
    · exact q.2
    · exact absurd q.1 hz
  have hr := cOk_rg hk.1
  refine ⟨o, k + 1, _, rfl, Or.inl ⟨rfl, ?_, by omega, fun j hj => ?_⟩⟩
  · rw [← i0, show 21 - k = (20 - k) + 1 by omega]; exact prs_end hk.1 hs (by omega)
  · by_cases q : j < k
    · exact i2 j q
    · have : j = k := by omega
      subst this; exact hk
theorem exc_keep {M : Int} {s : Row} (hI : RI M s) (h : WI s) {D : Nat → Nat} {A B : Nat → Int} : ∀ k : Nat, M + 3000 * k ≤ 100000000 → (∀ j : Nat, j < k → D j ≤ 8 ∧ (jd (D j) (exc s D A B j) (A j) (B j)).1 = 0) → RI (M + 3000 * k) (exc s D A B k) ∧ WI (exc s D A B k) := by
  intro k
  induction k with
  | zero => intro _ _; refine ⟨?_, h⟩; have e : M + 3000 * ((0 : Nat) : Int) = M := by omega
            rw [e]; exact hI
  | succ k ih =>
    intro hM hj
    obtain ⟨i1, i2⟩ := ih (by omega) (fun j q => hj j (by omega))
    obtain ⟨j1, j2⟩ := hj k (by omega)
    have := ad_keep i1 i2 (by omega) j1 j2
    have e : M + 3000 * ((k + 1 : Nat) : Int) = M + 3000 * k + 3000 := by omega
    rw [e]; exact this
def wyUp (s : Row) : Nat → Int
  | 0 => 0
  | n + 1 => wyUp s n + (if sM s n 1 = 2 then 0 else sM s n 2)

