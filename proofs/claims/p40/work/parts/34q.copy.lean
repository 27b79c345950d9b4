/-! a station copied into another -/
def QR (ω : Wo) (B : Nat) : Prop := SR ω.2.1 B
theorem QR.r {ω : Wo} {B : Nat} (h : QR ω B) : SR ω.2.1 B := h
theorem St.q {ω : Wo} {B : Nat} {s : Row} (h : St ω B s) : QR ω B := h.1
def CP (ω W : Wo) (B D m b l : Nat) : Prop := W.2 = ω.2 ∧ (∀ x, (x < B ∨ B + 21 ≤ x) → W.1 x = ω.1 x) ∧ (∀ j, j < m → ∀ w, w < 6 → W.1 (B + 4 + j) w = ω.1 (D + 4 + j) w) ∧
  (∀ j, j < b → ∀ w, w < 6 → W.1 (B + 14 + j) w = ω.1 (D + 14 + j) w) ∧ (∀ j, j < l → ∀ a c, ω.2.1 (B + 3) j = some a → ω.2.1 (D + 3) j = some c → ∀ w, w < 3 → W.1 a w = ω.1 c w)
theorem CP.z (ω : Wo) (B D : Nat) : CP ω ω B D 0 0 0 := ⟨rfl, fun _ _ => rfl, fun _ h => absurd h (by omega), fun _ h => absurd h (by omega), fun _ h => absurd h (by omega)⟩
theorem CP.q {ω W : Wo} {B D m b l X : Nat} (h : CP ω W B D m b l) (hq : QR ω X) : QR W X := by
  unfold QR at hq ⊢; rw [h.1]; exact hq
theorem CP.s {ω W : Wo} {B D m b l : Nat} {s : Row} (h : CP ω W B D m b l) (hS : St ω D s) (hc : cM s ≤ 10 ∧ cB s ≤ 3 ∧ cL s ≤ 4) (hd : B + 21 ≤ D ∨ D + 21 ≤ B) : St W D s :=
  hS.fr hc (fun x h1 h2 => h.2.1 x (by omega)) (fun x _ _ => by rw [h.1])
theorem up6 {f g : Row} : ∀ w, w < 6 → up (up (up (up (up (up f 0 (g 0)) 1 (g 1)) 2 (g 2)) 3 (g 3)) 4 (g 4)) 5 (g 5) w = g w := by
  intro w hw
  match w, hw with
  | 0, _ => rfl
  | 1, _ => rfl
  | 2, _ => rfl
  | 3, _ => rfl
  | 4, _ => rfl
  | 5, _ => rfl
theorem up3 {f g : Row} : ∀ w, w < 3 → up (up (up f 0 (g 0)) 1 (g 1)) 2 (g 2) w = g w := by
  intro w hw
  match w, hw with
  | 0, _ => rfl
  | 1, _ => rfl
  | 2, _ => rfl
theorem CP.m {ω W : Wo} {B D k : Nat} (h : CP ω W B D k 0 0) (hk : k < 10) (hd : B + 21 ≤ D ∨ D + 21 ≤ B) : CP ω (wf W (B + 4 + k) (up (up (up (up (up (up (W.1 (B + 4 + k)) 0 (W.1 (D + 4 + k) 0)) 1 (W.1 (D + 4 + k) 1)) 2 (W.1 (D + 4 + k) 2)) 3 (W.1 (D + 4 + k) 3)) 4 (W.1 (D + 4 + k) 4)) 5 (W.1 (D + 4 + k) 5))) B D (k + 1) 0 0 := by
  refine ⟨h.1, fun x hx => by rw [wf_ne _ _ (by omega)]; exact h.2.1 x hx, fun j hj w hw => ?_, fun _ q => absurd q (by omega), fun _ q => absurd q (by omega)⟩
  by_cases e : j = k
  · subst e; rw [wf_same, up6 w hw, h.2.1 _ (by omega)]
  · rw [wf_ne _ _ (by omega)]; exact h.2.2.1 j (by omega) w hw
theorem CP.b {ω W : Wo} {B D k : Nat} (h : CP ω W B D 10 k 0) (hk : k < 3) (hd : B + 21 ≤ D ∨ D + 21 ≤ B) : CP ω (wf W (B + 14 + k) (up (up (up (up (up (up (W.1 (B + 14 + k)) 0 (W.1 (D + 14 + k) 0)) 1 (W.1 (D + 14 + k) 1)) 2 (W.1 (D + 14 + k) 2)) 3 (W.1 (D + 14 + k) 3)) 4 (W.1 (D + 14 + k) 4)) 5 (W.1 (D + 14 + k) 5))) B D 10 (k + 1) 0 := by
  refine ⟨h.1, fun x hx => by rw [wf_ne _ _ (by omega)]; exact h.2.1 x hx, fun j hj w hw => ?_, fun j hj w hw => ?_, fun _ q => absurd q (by omega)⟩
  · rw [wf_ne _ _ (by omega)]; exact h.2.2.1 j (by omega) w hw
  by_cases e : j = k
  · subst e; rw [wf_same, up6 w hw, h.2.1 _ (by omega)]
  · rw [wf_ne _ _ (by omega)]; exact h.2.2.2.1 j (by omega) w hw
theorem CP.l {ω W : Wo} {B D k a c : Nat} (h : CP ω W B D 10 3 k) (hk : k < 4) (hd : B + 21 ≤ D ∨ D + 21 ≤ B) (hB : QR ω B) (hD : QR ω D) (ha : W.2.1 (B + 3) k = some a) (hc : W.2.1 (D + 3) k = some c) : CP ω (wf W a (up (up (up (W.1 a) 0 (W.1 c 0)) 1 (W.1 c 1)) 2 (W.1 c 2))) B D 10 3 (k + 1) := by
  rw [h.1] at ha hc
  obtain ⟨a', q1, q2, q3⟩ := hB.r.l k hk
  cases Option.some.inj (q1.symm.trans ha)
  obtain ⟨c', r1, r2, r3⟩ := hD.r.l k hk
  cases Option.some.inj (r1.symm.trans hc)
  refine ⟨h.1, fun x hx => by rw [wf_ne _ _ (by omega)]; exact h.2.1 x hx, fun j hj w hw => ?_, fun j hj w hw => ?_, fun j hj a2 c2 h1 h2 w hw => ?_⟩
  · rw [wf_ne _ _ (by omega)]; exact h.2.2.1 j (by omega) w hw
  · rw [wf_ne _ _ (by omega)]; exact h.2.2.2.1 j (by omega) w hw
  by_cases e : j = k
  · subst e
    cases Option.some.inj (h1.symm.trans ha)
    cases Option.some.inj (h2.symm.trans hc)
    rw [wf_same, up3 w hw, h.2.1 _ (by omega)]
  · have hab : a2 ≠ a := fun q => e (hB.r.inj (by omega) hk h1 (q ▸ ha))
    rw [wf_ne _ _ hab]; exact h.2.2.2.2 j (by omega) a2 c2 h1 h2 w hw
theorem CP.st {ω W : Wo} {B D : Nat} {s : Row} {f : Row} (h : CP ω W B D 10 3 4) (hd : B + 21 ≤ D ∨ D + 21 ≤ B) (hB : QR ω B) (hS : St ω D s) (hc : cM s ≤ 10 ∧ cB s ≤ 3 ∧ cL s ≤ 4)
    (hf : f 3 = s 1 ∧ f 4 = s 2 ∧ f 5 = s 3 ∧ f 6 = s 0 ∧ f 7 = s 7 ∧ f 8 = s 4 ∧ f 9 = s 5 ∧ f 10 = s 6) : Fr B ω (wf W B f) ∧ St (wf W B f) B s := by
  refine ⟨⟨fun x hx => by rw [wf_ne _ _ (by omega)]; exact h.2.1 x hx, fun x hx => by rw [wf_r, h.1], by rw [wf_r, h.1]⟩, ?_, ?_, fun j hj => ?_, fun j hj => ?_, fun j hj a ha => ?_⟩
  · rw [wf_r, h.1]; exact hB
  · unfold SCc; rw [wf_same]; exact hf
  · rw [wf_ne _ _ (by omega)]
    have q := hS.2.2.1 j hj
    have p := h.2.2.1 j (by omega)
    exact ⟨(p 0 (by decide)).trans q.1, (p 1 (by decide)).trans q.2.1, (p 2 (by decide)).trans q.2.2.1, (p 3 (by decide)).trans q.2.2.2.1, (p 4 (by decide)).trans q.2.2.2.2.1, (p 5 (by decide)).trans q.2.2.2.2.2⟩
  · rw [wf_ne _ _ (by omega)]
    have q := hS.2.2.2.1 j hj
    have p := h.2.2.2.1 j (by omega)
    exact ⟨(p 0 (by decide)).trans q.1, (p 1 (by decide)).trans q.2.1, (p 2 (by decide)).trans q.2.2.1, (p 3 (by decide)).trans q.2.2.2.1, (p 4 (by decide)).trans q.2.2.2.2.1, (p 5 (by decide)).trans q.2.2.2.2.2⟩
  · rw [wf_r, h.1] at ha
    obtain ⟨a', q1, q2, q3⟩ := hB.r.l j (by omega)
    cases Option.some.inj (q1.symm.trans ha)
    obtain ⟨c, r1, r2, r3⟩ := hS.r.l j (by omega)
    rw [wf_ne _ _ (by omega)]
    have q := hS.2.2.2.2 j hj c r1
    have p := h.2.2.2.2 j (by omega) a c ha r1
    exact ⟨(p 0 (by decide)).trans q.1, (p 1 (by decide)).trans q.2.1, (p 2 (by decide)).trans q.2.2⟩
