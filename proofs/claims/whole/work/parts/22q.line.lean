/-! the line -/
def LWp (ω : Wo) (r o : Row) (ll : List Int) : Wo := wf (wf ω 243 (up r 19 (ll.length : Int))) 251 o
theorem LW_3 (ω : Wo) (r o : Row) (ll : List Int) : (LWp ω r o ll).1 243 = up r 19 (ll.length : Int) := rfl
theorem LW_4 (ω : Wo) (r o : Row) (ll : List Int) : (LWp ω r o ll).1 244 = ω.1 244 := rfl
theorem LW_1 (ω : Wo) (r o : Row) (ll : List Int) : (LWp ω r o ll).1 251 = o := rfl
theorem LW_put {ω : Wo} {r o : Row} {ll : List Int} {v : Int} (h : hol o ll) : ∃ o', hol o' (ll ++ [v]) ∧ wf (wf (LWp ω r o ll) 251 (up o ll.length v)) 243 (up (up r 19 (ll.length : Int)) 19 ((ll.length : Int) + 1)) = LWp ω r o' (ll ++ [v]) := by
  refine ⟨_, h.snoc v, ?_⟩
  unfold LWp
  rw [up_up, List.length_append]
  refine wo_ext (fun x => ?_) rfl
  simp only [wf]
  by_cases h1 : x = 243
  · simp [h1]
  · by_cases h2 : x = 251
    · simp [h2]
    · simp [h1, h2]
def LnP (ω : Wo) (b z : Int) (ω' : Wo) : Prop :=
  (¬ (0 ≤ b ∧ b ≤ ω.1 244 2 - 1) ∧ z = 0 ∧ ω' = wf ω 243 (up (ω.1 243) 6 1)) ∨ ((0 ≤ b ∧ b ≤ ω.1 244 2 - 1) ∧ ∃ o, hol o (lineL (ω.1 244) b) ∧ z = ((lineL (ω.1 244) b).length : Int) ∧ ω' = LWp ω (up (ω.1 243) 6 0) o (lineL (ω.1 244) b))
theorem LnP.fin {ω : Wo} {b : Int} {o : Row} {ll : List Int} (hb : 0 ≤ b ∧ b ≤ ω.1 244 2 - 1) (hl : ll = lineL (ω.1 244) b) (ho : hol o ll) : LnP ω b (ll.length : Int) (LWp ω (up (ω.1 243) 6 0) o ll) := by
  subst hl; exact Or.inr ⟨hb, o, ho, rfl, rfl⟩
theorem crewL_0 {s : Row} {b : Int} {k : Nat} (h : ¬ crewO s b / 2 ^ k % 2 = 1) : crewL s b k = crewL s b (k + 1) := by
  show _ = crewL s b k ++ _
  rw [if_neg h, List.append_nil]
theorem crewL_1 {s : Row} {b : Int} {k : Nat} (h : crewO s b / 2 ^ k % 2 = 1) (hc : sB s b 5 ≠ k) : crewL s b k ++ [48 + (k : Int)] = crewL s b (k + 1) := by
  show _ = crewL s b k ++ _
  rw [if_pos h, if_neg hc, List.append_nil]
theorem crewL_2 {s : Row} {b : Int} {k : Nat} (h : crewO s b / 2 ^ k % 2 = 1) (hc : sB s b 5 = k) : crewL s b k ++ [48 + (k : Int)] ++ [42] = crewL s b (k + 1) := by
  show _ = crewL s b k ++ _
  rw [if_pos h, if_pos hc, List.append_assoc]
def preL (s : Row) (b : Int) : List Int := [48 + b, 100, 48 + sB s b 0, 115, 48 + sB s b 1, 58]
theorem lineL_out {s : Row} {b : Int} (h : sB s b 2 = 1) : preL s b ++ crewL s b (cM s) ++ [43] ++ [48 + sB s b 3] = lineL s b := by
  unfold lineL preL
  rw [if_pos h]
  simp
theorem lineL_in {s : Row} {b : Int} (h : sB s b 2 ≠ 1) : [48 + b, 100, 48 + sB s b 0, 115, 48 + sB s b 1] = lineL s b := by
  unfold lineL
  rw [if_neg h, List.append_nil]
theorem preL_len (s : Row) (b : Int) (k : Nat) : (preL s b ++ crewL s b k).length ≤ 6 + 2 * k := by
  rw [List.length_append]
  have := crewL_len s b k
  show 6 + _ ≤ _
  omega
