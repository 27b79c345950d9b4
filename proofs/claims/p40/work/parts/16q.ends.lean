/-! contracts weakened; worlds compared -/
theorem CI.mono {Γ : Ga} {l : Launch} {y : MethodName} {bytes : ByteArray} {maxL : Nat} {rt : FieldType} {d : Nat} {as : List Value} {ω : Wo} {Po Po' : Int → Wo → Prop} (h : CI Γ l y bytes maxL rt d as ω Po) (hp : ∀ z w, Po z w → Po' z w) : CI Γ l y bytes maxL rt d as ω Po' := by
  unfold CI Met at h ⊢
  refine MetFree.mono h (fun _ _ h => h) (fun _ _ _ _ _ h => h) (fun _ _ _ _ _ hq => ⟨?_, hq.2⟩)
  obtain ⟨⟨⟨r, u, e1, ⟨z, e2, e3, e4⟩, e5⟩, e6⟩, -⟩ := hq
  exact ⟨⟨r, u, e1, ⟨z, e2, e3, hp z u e4⟩, e5⟩, e6⟩
theorem CV.mono {Γ : Ga} {l : Launch} {y : MethodName} {bytes : ByteArray} {maxL : Nat} {d : Nat} {as : List Value} {ω : Wo} {Po Po' : Wo → Prop} (h : CV Γ l y bytes maxL d as ω Po) (hp : ∀ w, Po w → Po' w) : CV Γ l y bytes maxL d as ω Po' := by
  unfold CV Met at h ⊢
  refine MetFree.mono h (fun _ _ h => h) (fun _ _ _ _ _ h => h) (fun _ _ _ _ _ hq => ⟨?_, hq.2⟩)
  obtain ⟨⟨⟨u, e1, e4, e5⟩, e6⟩, -⟩ := hq
  exact ⟨⟨u, e1, hp u e4, e5⟩, e6⟩
theorem wo_ext {a b : Wo} (h1 : ∀ x, a.1 x = b.1 x) (h2 : a.2 = b.2) : a = b := Prod.ext (funext h1) h2
theorem chg_a {ω : Wo} {c5 : Nat} (h : ω.1 243 5 = (c5 : Int)) (hn : c5 ≠ 8) : wf (wf ω 248 (cpy (ω.1 245) 0 (ω.1 248) (111 * c5) 111)) 243 (up (ω.1 243) 5 ((c5 : Int) + 1)) = chg ω := by
  unfold chg
  rw [if_neg (by omega), show (ω.1 243 5).toNat = c5 by omega, h]
theorem chg_b {ω : Wo} (h : ω.1 243 5 = 8) : wf (wf (wf (wf ω 248 (shf (ω.1 248) 7)) 243 (up (ω.1 243) 5 7)) 248 (cpy (ω.1 245) 0 (shf (ω.1 248) 7) 777 111)) 243 (up (up (ω.1 243) 5 7) 5 (7 + 1)) = chg ω := by
  unfold chg
  rw [if_pos h, up_up, show (7 : Int) + 1 = 8 from rfl]
  refine wo_ext (fun x => ?_) rfl
  simp only [wf]
  by_cases h1 : x = 243
  · simp [h1]
  · by_cases h2 : x = 248
    · simp [h2]
    · simp [h1, h2]
theorem cons_i {a b : Int} (h : a = b) (S : List Value) : Value.int (iI a) :: S = .int (iI b) :: S := by rw [h]
theorem cons_i3 {a b c d : Int} {v : Value} (h : a = b) (h2 : c = d) (S : List Value) : Value.int (iI a) :: v :: Value.int (iI c) :: S = .int (iI b) :: v :: .int (iI d) :: S := by rw [h, h2]
