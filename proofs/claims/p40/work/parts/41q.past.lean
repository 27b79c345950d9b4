/-! the states that may be taken back -/
theorem Bs_far {B : Nat} (h : Bs B) : 1 ≤ B ∧ (B + 21 ≤ 64 ∨ 75 ≤ B) ∧ B + 21 ≤ 243 := by
  have e : ∀ B, B < 243 → bsB B = true → 1 ≤ B ∧ (B + 21 ≤ 64 ∨ 75 ≤ B) ∧ B + 21 ≤ 243 := by decide +kernel
  exact e B (Bs_lt h) h
def PA (M : Int) (ω : Wo) (n : Nat) (h : Nat → Row) : Prop := ω.1 0 5 = (n : Int) ∧ n ≤ 8 ∧ ∃ π : Nat → Nat, (∀ j, j < 8 → π j < 8 ∧ ω.2.1 64 j = some (75 + 21 * π j) ∧ QR ω (75 + 21 * π j)) ∧ (∀ j k, j < 8 → k < 8 → π j = π k → j = k) ∧
  ∀ j, j < n → St ω (75 + 21 * π j) (h j) ∧ RI M (h j) ∧ WI (h j)
/-- cells that lie neither in the past nor in the class's own count of it -/
def KP (ω ω' : Wo) : Prop := (∀ x, x ≠ 0 → (x < 75 ∨ 243 ≤ x) → ω'.1 x = ω.1 x) ∧ (∀ y, y ≠ 5 → ω'.1 0 y = ω.1 0 y) ∧ (∀ x, x ≠ 64 → (x < 75 ∨ 243 ≤ x) → ω'.2.1 x = ω.2.1 x) ∧ ω'.2.2 = ω.2.2
theorem KP.rf (ω : Wo) : KP ω ω := ⟨fun _ _ _ => rfl, fun _ _ => rfl, fun _ _ _ => rfl, rfl⟩
theorem KP.tr {a b c : Wo} (h : KP a b) (h2 : KP b c) : KP a c := ⟨fun x q r => (h2.1 x q r).trans (h.1 x q r), fun y q => (h2.2.1 y q).trans (h.2.1 y q), fun x q r => (h2.2.2.1 x q r).trans (h.2.2.1 x q r), h2.2.2.2.trans h.2.2.2⟩
theorem KP.cr {ω ω' : Wo} (h : KP ω ω') (hR : CR ω) : CR ω' := by
  unfold CR at hR ⊢
  rw [h.2.2.1 0 (by decide) (by decide), h.2.2.1 68 (by decide) (by decide), h.2.2.1 73 (by decide) (by decide)]; exact hR
theorem KP.st {ω ω' : Wo} {B : Nat} {s : Row} (h : KP ω ω') (hS : St ω B s) (hc : cM s ≤ 10 ∧ cB s ≤ 3 ∧ cL s ≤ 4) (hB : 1 ≤ B ∧ B + 21 ≤ 64) : St ω' B s :=
  hS.fr hc (fun x _ _ => h.1 x (by omega) (by omega)) (fun x _ _ => h.2.2.1 x (by omega) (by omega))
theorem PA.forget {M : Int} {ω : Wo} {h : Nat → Row} {π : Nat → Nat} {W : Wo} (p1 : ∀ j, j < 8 → π j < 8 ∧ ω.2.1 64 j = some (75 + 21 * π j) ∧ QR ω (75 + 21 * π j)) (p2 : ∀ j k, j < 8 → k < 8 → π j = π k → j = k) (p3 : ∀ j, j < 8 → St ω (75 + 21 * π j) (h j) ∧ RI M (h j) ∧ WI (h j))
    (hW : W = wi (wr (RW ω 61 0 7) 64 7 (some (75 + 21 * π 0))) 0 5 ((8 : Nat) - 1)) : PA M W 7 (fun j => h (j + 1)) ∧ KP ω W := by
  have e1 : ∀ x, x ≠ 0 → W.1 x = ω.1 x := fun x hx => by rw [hW, wi_wf, wf_ne _ _ hx]; rfl
  have e0 : ∀ y, W.1 0 y = if y = 5 then 7 else ω.1 0 y := fun y => by rw [hW]; rfl
  have e2 : ∀ x y, W.2.1 x y = if x = 64 then (if y = 7 then some (75 + 21 * π 0) else if y < 7 then ω.2.1 64 (y + 1) else ω.2.1 64 y) else ω.2.1 x y := by
    intro x y
    rw [hW]
    show (if x = 64 then (if y = 7 then some (75 + 21 * π 0) else rot ω.2.1 61 0 7 x y) else rot ω.2.1 61 0 7 x y) = _
    by_cases hx : x = 64
    · subst hx
      rw [if_pos rfl, if_pos rfl]
      by_cases hy : y = 7
      · rw [if_pos hy, if_pos hy]
      · rw [if_neg hy, if_neg hy]
        by_cases hz : y < 7
        · rw [if_pos hz]; exact rot_in (B := 61) (by omega)
        · rw [if_neg hz]; exact rot_hi (B := 61) (by omega)
    · rw [if_neg hx, if_neg hx, rot_x (B := 61) (by omega)]
  have e3 : ∀ x, x ≠ 64 → W.2.1 x = ω.2.1 x := fun x hx => by funext y; rw [e2, if_neg hx]
  have eq : ∀ j, j < 8 → QR W (75 + 21 * π j) := fun j hj => by
    have := (p1 j hj).2.2
    unfold QR SR at this ⊢
    rw [e3 _ (by omega), e3 _ (by omega), e3 _ (by omega), e3 _ (by omega)]; exact this
  refine ⟨⟨by rw [e0, if_pos rfl]; rfl, by omega, fun j => if j = 7 then π 0 else π (j + 1), fun j hj => ?_, fun j k hj hk hjk => ?_, fun j hj => ?_⟩, fun x hx _ => e1 x hx, fun y hy => by rw [e0, if_neg hy], fun x hx _ => e3 x hx, by rw [hW]; rfl⟩
  · show (if j = 7 then π 0 else π (j + 1)) < 8 ∧ W.2.1 64 j = some (75 + 21 * (if j = 7 then π 0 else π (j + 1))) ∧ QR W (75 + 21 * (if j = 7 then π 0 else π (j + 1)))
    by_cases c1 : j = 7
    · rw [if_pos c1, e2, if_pos rfl, if_pos c1]; exact ⟨(p1 0 (by omega)).1, rfl, eq 0 (by omega)⟩
    · rw [if_neg c1, e2, if_pos rfl, if_neg c1, if_pos (by omega)]; exact ⟨(p1 (j + 1) (by omega)).1, (p1 (j + 1) (by omega)).2.1, eq (j + 1) (by omega)⟩
  · simp only [] at hjk
    by_cases c1 : j = 7
    · rw [if_pos c1] at hjk
      by_cases d1 : k = 7
      · omega
      · rw [if_neg d1] at hjk; have := p2 0 (k + 1) (by omega) (by omega) hjk; omega
    · rw [if_neg c1] at hjk
      by_cases d1 : k = 7
      · rw [if_pos d1] at hjk; have := p2 (j + 1) 0 (by omega) (by omega) hjk; omega
      · rw [if_neg d1] at hjk; have := p2 (j + 1) (k + 1) (by omega) (by omega) hjk; omega
  · show St W (75 + 21 * (if j = 7 then π 0 else π (j + 1))) (h (j + 1)) ∧ _
    rw [if_neg (by omega)]
    have q := p3 (j + 1) (by omega)
    exact ⟨q.1.fr q.2.1.cc (fun x _ _ => e1 x (by omega)) (fun x _ _ => e3 x (by omega)), q.2⟩
theorem PA.push {M : Int} {ω W9 : Wo} {m : Nat} {h : Nat → Row} {π : Nat → Nat} {s : Row} (hm : m < 8) (p1 : ∀ j, j < 8 → π j < 8 ∧ ω.2.1 64 j = some (75 + 21 * π j) ∧ QR ω (75 + 21 * π j)) (p2 : ∀ j k, j < 8 → k < 8 → π j = π k → j = k) (p3 : ∀ j, j < m → St ω (75 + 21 * π j) (h j) ∧ RI M (h j) ∧ WI (h j))
    (hF : Fr (75 + 21 * π m) ω W9) (hS : St W9 (75 + 21 * π m) s) (hI : RI M s) (hWI : WI s) : PA M (wi W9 0 5 ((m : Int) + 1)) (m + 1) (fun j => if j = m then s else h j) ∧ KP ω (wi W9 0 5 ((m : Int) + 1)) := by
  have hm8 := (p1 m hm).1
  have e1 : ∀ x, x ≠ 0 → (wi W9 0 5 ((m : Int) + 1)).1 x = W9.1 x := fun x hx => by rw [wi_wf, wf_ne _ _ hx]
  have e0 : ∀ y, (wi W9 0 5 ((m : Int) + 1)).1 0 y = if y = 5 then (m : Int) + 1 else W9.1 0 y := fun y => rfl
  have f0 := hF.1 0 (by omega)
  refine ⟨⟨by rw [e0, if_pos rfl]; omega, by omega, π, fun j hj => ⟨(p1 j hj).1, ?_, ?_⟩, p2, fun j hj => ?_⟩, fun x hx hb => (e1 x hx).trans (hF.1 x (by omega)), fun y hy => by rw [e0, if_neg hy, f0], fun x hx hb => hF.2.1 x (by omega), hF.2.2⟩
  · show W9.2.1 64 j = _
    rw [hF.2.1 64 (by omega)]; exact (p1 j hj).2.1
  · show SR W9.2.1 _
    by_cases c1 : j = m
    · subst c1; exact hS.r
    · have hne : π j ≠ π m := fun q => c1 (p2 j m hj hm q)
      have := (p1 j hj).2.2
      unfold QR SR at this
      unfold SR
      rw [hF.2.1 _ (by omega), hF.2.1 _ (by omega), hF.2.1 _ (by omega), hF.2.1 _ (by omega)]; exact this
  · show St _ _ (if j = m then s else h j) ∧ RI M (if j = m then s else h j) ∧ WI (if j = m then s else h j)
    by_cases c1 : j = m
    · subst c1
      rw [if_pos rfl]
      exact ⟨by rw [wi_wf]; exact hS.wx hI.cc (by omega), hI, hWI⟩
    · rw [if_neg c1]
      have hne : π j ≠ π m := fun q => c1 (p2 j m (by omega) hm q)
      have q := p3 j (by omega)
      refine ⟨q.1.fr q.2.1.cc (fun x _ _ => (e1 x (by omega)).trans (hF.1 x (by omega))) (fun x _ _ => hF.2.1 x (by omega)), q.2⟩
def rmN (n : Nat) : Nat := if n = 8 then 8 else n + 1
def rmH (n : Nat) (h : Nat → Row) (s : Row) : Nat → Row := if n = 8 then (fun j => if j = 7 then s else h (j + 1)) else (fun j => if j = n then s else h j)
