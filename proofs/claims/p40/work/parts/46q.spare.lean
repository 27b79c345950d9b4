/-! what a question on the spare station leaves as it was -/
def KC (ω ω' : Wo) : Prop := (∀ x, (x < 22 ∨ 43 ≤ x) → x ≠ 67 → ω'.1 x = ω.1 x) ∧ (∀ x, x ≠ 25 → ω'.2.1 x = ω.2.1 x) ∧ ω'.2.2 = ω.2.2
theorem KC.rf (ω : Wo) : KC ω ω := ⟨fun _ _ _ => rfl, fun _ _ => rfl, rfl⟩
theorem KC.fr {ω W W' : Wo} (h : KC ω W) (h2 : Fr 22 W W') : KC ω W' := ⟨fun x hx h67 => (h2.1 x (by omega)).trans (h.1 x hx h67), fun x hx => (h2.2.1 x (by omega)).trans (h.2.1 x hx), h2.2.2.trans h.2.2⟩
theorem KC.rF {ω W : Wo} {v w : Int} (h : KC ω W) : KC ω (RF W 67 v w) := ⟨fun x hx h67 => (show (RF W 67 v w).1 x = _ from wf_ne _ _ h67).trans (h.1 x hx h67), h.2⟩
theorem KC.cr {ω W : Wo} (h : KC ω W) (hR : CR ω) : CR W := by
  unfold CR at hR ⊢
  rw [h.2.1 0 (by decide), h.2.1 68 (by decide), h.2.1 73 (by decide)]; exact hR
theorem KC.st {ω W : Wo} {s : Row} (h : KC ω W) (hS : St ω 1 s) (hc : cM s ≤ 10 ∧ cB s ≤ 3 ∧ cL s ≤ 4) : St W 1 s :=
  hS.fr hc (fun x _ _ => h.1 x (by omega) (by omega)) (fun x _ _ => h.2.1 x (by omega))
