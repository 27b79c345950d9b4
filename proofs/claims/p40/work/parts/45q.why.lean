theorem whyN_nn (s : Row) (b : Int) : 0 ≤ whyN s b := by
  have := whyC_rg s b
  unfold whyN
  repeat' split
  all_goals omega
theorem jd4_why {s : Row} {a : Int} (h : 0 ≤ a ∧ a ≤ s 2 - 1) : (jd 4 s a 1).1 = whyN s a := by
  have := whyN_nn s a
  rw [show jd 4 s a 1 = (if ¬ (0 ≤ a ∧ a ≤ s 2 - 1) then (3, a) else if ¬ (1 ≤ (1 : Int) ∧ (1 : Int) ≤ 9) then (1, 0) else if 0 < whyN s a then (whyN s a, lack s a (whyN s a)) else (0, 0)) from rfl, if_neg (by omega), if_neg (by omega)]
  split
  · rfl
  · show (0 : Int) = _
    omega
theorem leastUp_rg (s : Row) (p : Int) : ∀ f k : Nat, -1 ≤ leastUp s p f k := by
  intro f
  induction f with
  | zero => intro k; exact Int.le_refl _
  | succ f ih => intro k; unfold leastUp; have := ih (k + 1); split <;> omega
theorem busyUp_rg (s : Row) (p : Int) : ∀ f k : Nat, -1 ≤ busyUp s p f k := by
  intro f
  induction f with
  | zero => intro k; exact Int.le_refl _
  | succ f ih => intro k; unfold busyUp; have := ih (k + 1); split <;> omega
