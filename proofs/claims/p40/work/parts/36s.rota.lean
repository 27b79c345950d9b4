/-! the class's own cell -/
theorem bs1 : Bs 1 := rfl
theorem bs22 : Bs 22 := rfl
theorem bs43 : Bs 43 := rfl
theorem bsP {j : Nat} (h : j < 8) : Bs (75 + 21 * j) := by
  have : ∀ j, j < 8 → bsB (75 + 21 * j) = true := by decide
  exact this j h
def CR (ω : Wo) : Prop := ω.2.1 0 0 = some 1 ∧ ω.2.1 0 1 = some 22 ∧ ω.2.1 0 2 = some 43 ∧ ω.2.1 0 4 = some 64 ∧ ω.2.1 0 6 = some 65 ∧ ω.2.1 0 7 = some 66 ∧ ω.2.1 0 8 = some 67 ∧ ω.2.1 0 9 = some 68 ∧ ω.2.1 0 11 = some 73 ∧
  ω.2.1 68 0 = some 69 ∧ ω.2.1 68 2 = some 70 ∧ ω.2.1 68 3 = some 71 ∧ ω.2.1 68 4 = some 72 ∧ ω.2.1 73 0 = some 74
theorem CR.fr {ω ω' : Wo} {B : Nat} (h : CR ω) (hF : Fr B ω ω') (hB : B + 3 ≠ 0 ∧ B + 3 ≠ 68 ∧ B + 3 ≠ 73) : CR ω' := by
  unfold CR at h ⊢
  rw [hF.2.1 0 (by omega), hF.2.1 68 (by omega), hF.2.1 73 (by omega)]; exact h
theorem CR.wf {ω : Wo} {a : Nat} {f : Row} (h : CR ω) : CR (wf ω a f) := h
abbrev eIdx : String := "java/lang/IndexOutOfBoundsException"
abbrev eArg : String := "java/lang/IllegalArgumentException"
abbrev eSt : String := "java/lang/IllegalStateException"
abbrev eNo : String := "java/util/NoSuchElementException"
abbrev eUn : String := "java/lang/UnsupportedOperationException"
abbrev eAr : String := "java/lang/ArithmeticException"
