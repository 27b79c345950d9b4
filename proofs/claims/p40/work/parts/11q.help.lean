/-! helper rows of the numbers -/
theorem jA_ok {s : Row} {m : Int} (h : (jA s m).1 = 0) : (0 ≤ m ∧ m ≤ s 1 - 1) ∧ sM s m 1 ≠ 2 ∧ sM s m 1 ≠ 1 ∧ jA s m = (0, 0) := by
  unfold jA at h ⊢
  split at h
  · simp at h
  · split at h
    · simp at h
    · split at h
      · simp at h
      · rename_i h1 h2 h3
        refine ⟨Decidable.not_not.mp h1, h2, h3, ?_⟩
        rw [if_neg h1, if_neg h2, if_neg h3]
