/-! what a change leaves as it was -/
theorem PA.of {M M' : Int} {ω W : Wo} {n : Nat} {h : Nat → Row} (hP : PA M ω n h) (hM : M ≤ M' ∧ M' ≤ 100000000) (h0 : W.1 0 5 = ω.1 0 5) (h1 : ∀ x, 75 ≤ x → x < 243 → W.1 x = ω.1 x) (h2 : ∀ x, (x = 64 ∨ (75 ≤ x ∧ x < 243)) → W.2.1 x = ω.2.1 x) : PA M' W n h := by
  obtain ⟨q5, q8, π, r1, r2, r3⟩ := hP
  refine ⟨h0.trans q5, q8, π, fun j hj => ⟨(r1 j hj).1, ?_, ?_⟩, r2, fun j hj => ?_⟩
  · rw [h2 64 (Or.inl rfl)]; exact (r1 j hj).2.1
  · have hm := (r1 j hj).1
    have := (r1 j hj).2.2
    unfold QR SR at this ⊢
    rw [h2 _ (by omega), h2 _ (by omega), h2 _ (by omega), h2 _ (by omega)]; exact this
  · have hm := (r1 j (by omega)).1
    have q := r3 j hj
    exact ⟨q.1.fr q.2.1.cc (fun x _ _ => h1 x (by omega) (by omega)) (fun x _ _ => h2 x (by omega)), q.2.1.le hM.1 hM.2, q.2.2⟩
def KQ (ω ω' : Wo) : Prop := (∀ x, 22 ≤ x → x ≠ 67 → (x < 75 ∨ 243 ≤ x) → ω'.1 x = ω.1 x) ∧ (∀ y, y ≠ 5 → ω'.1 0 y = ω.1 0 y) ∧ (∀ x, x ≠ 64 → x ≠ 4 → (x < 75 ∨ 243 ≤ x) → ω'.2.1 x = ω.2.1 x) ∧ ω'.2.2 = ω.2.2
theorem KQ.mk {ω W1 W9 : Wo} {v w : Int} (h1 : KP (RF ω 67 v w) W1) (h2 : Fr 1 W1 W9) : KQ ω W9 :=
  ⟨fun x hx h67 hb => ((h2.1 x (by omega)).trans (h1.1 x (by omega) hb)).trans (wf_ne _ _ h67), fun y hy => ((congrFun (h2.1 0 (by omega)) y).trans (h1.2.1 y hy)).trans (congrFun (wf_ne _ _ (by decide)) y),
   fun x h64 h4 hb => (h2.2.1 x (by omega)).trans (h1.2.2.1 x h64 hb), h2.2.2.trans h1.2.2.2⟩
