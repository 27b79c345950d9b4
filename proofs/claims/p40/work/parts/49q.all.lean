/-! a script carried out -/
def KX (ω ω' : Wo) : Prop := (∀ x, (x < 1 ∨ 22 ≤ x) → x ≠ 67 → ω'.1 x = ω.1 x) ∧ (∀ x, x ≠ 4 → ω'.2.1 x = ω.2.1 x) ∧ ω'.2.2 = ω.2.2
theorem KX.rf (ω : Wo) : KX ω ω := ⟨fun _ _ _ => rfl, fun _ _ => rfl, rfl⟩
theorem KX.fr {ω W W' : Wo} (h : KX ω W) (h2 : Fr 1 W W') : KX ω W' := ⟨fun x hx h67 => (h2.1 x (by omega)).trans (h.1 x hx h67), fun x hx => (h2.2.1 x (by omega)).trans (h.2.1 x hx), h2.2.2.trans h.2.2⟩
theorem KX.rF {ω W : Wo} {v w : Int} (h : KX ω W) : KX ω (RF W 67 v w) := ⟨fun x hx h67 => (show (RF W 67 v w).1 x = _ from wf_ne _ _ h67).trans (h.1 x hx h67), h.2⟩
theorem KX.cr {ω W : Wo} (h : KX ω W) (hR : CR ω) : CR W := by
  unfold CR at hR ⊢
  rw [h.2.1 0 (by decide), h.2.1 68 (by decide), h.2.1 73 (by decide)]; exact hR
/-- the script's cells hold K commands -/
def SP (ω : Wo) (K : Nat) (D : Nat → Nat) (A B : Nat → Int) : Prop := ω.1 68 5 = (K : Int) ∧ ∀ j, j < K → D j < 9 ∧ ω.2.1 70 j = some (1000 + D j) ∧ ω.1 71 j = A j ∧ ω.1 72 j = B j ∧ Rg (A j) ∧ Rg (B j)
theorem KX.sp {ω W : Wo} {K : Nat} {D : Nat → Nat} {A B : Nat → Int} (h : KX ω W) (hs : SP ω K D A B) : SP W K D A B := by
  refine ⟨by rw [h.1 68 (by omega) (by decide)]; exact hs.1, fun j hj => ?_⟩
  have q := hs.2 j hj
  rw [h.2.1 70 (by decide), h.1 71 (by omega) (by decide), h.1 72 (by omega) (by decide)]; exact q
