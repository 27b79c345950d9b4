/-! the class's side: where a station lies, and which row it holds -/
def bsB (B : Nat) : Bool := B == 1 || B == 22 || B == 43 || (75 ≤ B && B < 243 && (B - 75) % 21 == 0)
abbrev Bs (B : Nat) : Prop := bsB B = true
theorem Bs_lt {B : Nat} (h : Bs B) : B < 243 := by
  unfold Bs bsB at h
  simp only [Bool.or_eq_true, Bool.and_eq_true, beq_iff_eq, decide_eq_true_eq] at h
  omega
theorem at_all : ∀ B, B < 243 → bsB B = true → (B + 21 ≤ 243) ∧ kd B = 1 ∧ kd (B + 1) = 10 ∧ kd (B + 2) = 11 ∧ kd (B + 3) = 12 ∧ (∀ k, k < 10 → kd (B + 4 + k) = 2) ∧ (∀ k, k < 3 → kd (B + 14 + k) = 3) ∧ (∀ k, k < 4 → kd (B + 17 + k) = 4) := by decide +kernel
theorem Bs_e {B : Nat} (h : Bs B) : (B + 21 ≤ 243) ∧ kd B = 1 ∧ kd (B + 1) = 10 ∧ kd (B + 2) = 11 ∧ kd (B + 3) = 12 ∧ (∀ k, k < 10 → kd (B + 4 + k) = 2) ∧ (∀ k, k < 3 → kd (B + 14 + k) = 3) ∧ (∀ k, k < 4 → kd (B + 17 + k) = 4) := at_all B (Bs_lt h) h
theorem at_st {B : Nat} (h : Bs B) : At 243 B 1 := by have q := Bs_e h; exact ⟨by omega, by omega, q.2.1⟩
theorem at_mA {B : Nat} (h : Bs B) : At 243 (B + 1) 10 := by have q := Bs_e h; exact ⟨by omega, by omega, q.2.2.1⟩
theorem at_bA {B : Nat} (h : Bs B) : At 243 (B + 2) 11 := by have q := Bs_e h; exact ⟨by omega, by omega, q.2.2.2.1⟩
theorem at_lA {B : Nat} (h : Bs B) : At 243 (B + 3) 12 := by have q := Bs_e h; exact ⟨by omega, by omega, q.2.2.2.2.1⟩
theorem at_m {B k : Nat} (h : Bs B) (hk : k < 10) : At 243 (B + 4 + k) 2 := by have q := Bs_e h; exact ⟨by omega, by omega, q.2.2.2.2.2.1 k hk⟩
theorem at_b {B k : Nat} (h : Bs B) (hk : k < 3) : At 243 (B + 14 + k) 3 := by have q := Bs_e h; exact ⟨by omega, by omega, q.2.2.2.2.2.2.1 k hk⟩
theorem at_l {B k : Nat} (h : Bs B) (hk : k < 4) : At 243 (B + 17 + k) 4 := by have q := Bs_e h; exact ⟨by omega, by omega, q.2.2.2.2.2.2.2 k hk⟩
def SR (r : Rf) (B : Nat) : Prop := r B 0 = some (B + 1) ∧ r B 1 = some (B + 2) ∧ r B 2 = some (B + 3) ∧ (∀ k, k < 10 → r (B + 1) k = some (B + 4 + k)) ∧ (∀ k, k < 3 → r (B + 2) k = some (B + 14 + k)) ∧
  ∃ π : Nat → Nat, (∀ k, k < 4 → π k < 4 ∧ r (B + 3) k = some (B + 17 + π k)) ∧ ∀ j k, j < 4 → k < 4 → π j = π k → j = k
def plc (s : Row) (k : Nat) : Int := if sM s k 1 = 1 then sM s k 3 else if sM s k 1 = 0 then -1 else -2
def SCc (i : Nat → Row) (B : Nat) (s : Row) : Prop := i B 3 = s 1 ∧ i B 4 = s 2 ∧ i B 5 = s 3 ∧ i B 6 = s 0 ∧ i B 7 = s 7 ∧ i B 8 = s 4 ∧ i B 9 = s 5 ∧ i B 10 = s 6
def mEq (f s : Row) (k : Nat) : Prop := f 0 = sM s k 0 ∧ f 1 = plc s k ∧ f 2 = sM s k 2 ∧ f 3 = sM s k 4 ∧ f 4 = sM s k 5 ∧ f 5 = sM s k 6
def bEq (f s : Row) (k : Nat) : Prop := f 0 = sB s k 0 ∧ f 1 = sB s k 1 ∧ f 2 = sB s k 5 ∧ f 3 = sB s k 3 ∧ f 4 = sB s k 4 ∧ f 5 = sB s k 6
def lEq (f s : Row) (k : Nat) : Prop := f 0 = sL s k 0 ∧ f 1 = sL s k 1 ∧ f 2 = sL s k 2
def SCm (i : Nat → Row) (B : Nat) (s : Row) : Prop := ∀ k : Nat, k < cM s → mEq (i (B + 4 + k)) s k
def SCb (i : Nat → Row) (B : Nat) (s : Row) : Prop := ∀ k : Nat, k < cB s → bEq (i (B + 14 + k)) s k
def SCl (i : Nat → Row) (r : Rf) (B : Nat) (s : Row) : Prop := ∀ k : Nat, k < cL s → ∀ a, r (B + 3) k = some a → lEq (i a) s k
/-- the station at B holds the row s -/
def St (ω : Wo) (B : Nat) (s : Row) : Prop := SR ω.2.1 B ∧ SCc ω.1 B s ∧ SCm ω.1 B s ∧ SCb ω.1 B s ∧ SCl ω.1 ω.2.1 B s
theorem SR.a0 {r : Rf} {B : Nat} (h : SR r B) : r B 0 = some (B + 1) := h.1
theorem SR.a1 {r : Rf} {B : Nat} (h : SR r B) : r B 1 = some (B + 2) := h.2.1
theorem SR.a2 {r : Rf} {B : Nat} (h : SR r B) : r B 2 = some (B + 3) := h.2.2.1
theorem SR.m {r : Rf} {B : Nat} (h : SR r B) (k : Nat) (hk : k < 10) : r (B + 1) k = some (B + 4 + k) := h.2.2.2.1 k hk
theorem SR.b {r : Rf} {B : Nat} (h : SR r B) (k : Nat) (hk : k < 3) : r (B + 2) k = some (B + 14 + k) := h.2.2.2.2.1 k hk
theorem SR.l {r : Rf} {B : Nat} (h : SR r B) (k : Nat) (hk : k < 4) : ∃ a, r (B + 3) k = some a ∧ B + 17 ≤ a ∧ a < B + 21 := by
  obtain ⟨π, h1, -⟩ := h.2.2.2.2.2
  exact ⟨_, (h1 k hk).2, by omega, by have := (h1 k hk).1; omega⟩
theorem SR.inj {r : Rf} {B : Nat} (h : SR r B) {j k a : Nat} (hj : j < 4) (hk : k < 4) (h1 : r (B + 3) j = some a) (h2 : r (B + 3) k = some a) : j = k := by
  obtain ⟨π, q1, q2⟩ := h.2.2.2.2.2
  refine q2 j k hj hk ?_
  have e1 := (q1 j hj).2.symm.trans h1
  have e2 := (q1 k hk).2.symm.trans h2
  have := Option.some.inj (e1.trans e2.symm)
  omega
theorem at_lx {B a : Nat} (h : Bs B) (h1 : B + 17 ≤ a) (h2 : a < B + 21) : At 243 a 4 := by
  have := at_l h (k := a - (B + 17)) (by omega)
  rw [show B + 17 + (a - (B + 17)) = a by omega] at this
  exact this
theorem St.r {ω : Wo} {B : Nat} {s : Row} (h : St ω B s) : SR ω.2.1 B := h.1
theorem St.c3 {ω : Wo} {B : Nat} {s : Row} (h : St ω B s) : ω.1 B 3 = s 1 := h.2.1.1
theorem St.c4 {ω : Wo} {B : Nat} {s : Row} (h : St ω B s) : ω.1 B 4 = s 2 := h.2.1.2.1
theorem St.c5 {ω : Wo} {B : Nat} {s : Row} (h : St ω B s) : ω.1 B 5 = s 3 := h.2.1.2.2.1
theorem St.c6 {ω : Wo} {B : Nat} {s : Row} (h : St ω B s) : ω.1 B 6 = s 0 := h.2.1.2.2.2.1
theorem St.c7 {ω : Wo} {B : Nat} {s : Row} (h : St ω B s) : ω.1 B 7 = s 7 := h.2.1.2.2.2.2.1
theorem St.c8 {ω : Wo} {B : Nat} {s : Row} (h : St ω B s) : ω.1 B 8 = s 4 := h.2.1.2.2.2.2.2.1
theorem St.c9 {ω : Wo} {B : Nat} {s : Row} (h : St ω B s) : ω.1 B 9 = s 5 := h.2.1.2.2.2.2.2.2.1
theorem St.c10 {ω : Wo} {B : Nat} {s : Row} (h : St ω B s) : ω.1 B 10 = s 6 := h.2.1.2.2.2.2.2.2.2
theorem St.m0 {ω : Wo} {B : Nat} {s : Row} (h : St ω B s) (k : Nat) (hk : k < cM s) : ω.1 (B + 4 + k) 0 = sM s k 0 := (h.2.2.1 k hk).1
theorem St.m1 {ω : Wo} {B : Nat} {s : Row} (h : St ω B s) (k : Nat) (hk : k < cM s) : ω.1 (B + 4 + k) 1 = plc s k := (h.2.2.1 k hk).2.1
theorem St.m2 {ω : Wo} {B : Nat} {s : Row} (h : St ω B s) (k : Nat) (hk : k < cM s) : ω.1 (B + 4 + k) 2 = sM s k 2 := (h.2.2.1 k hk).2.2.1
theorem St.m3 {ω : Wo} {B : Nat} {s : Row} (h : St ω B s) (k : Nat) (hk : k < cM s) : ω.1 (B + 4 + k) 3 = sM s k 4 := (h.2.2.1 k hk).2.2.2.1
theorem St.m4 {ω : Wo} {B : Nat} {s : Row} (h : St ω B s) (k : Nat) (hk : k < cM s) : ω.1 (B + 4 + k) 4 = sM s k 5 := (h.2.2.1 k hk).2.2.2.2.1
theorem St.m5 {ω : Wo} {B : Nat} {s : Row} (h : St ω B s) (k : Nat) (hk : k < cM s) : ω.1 (B + 4 + k) 5 = sM s k 6 := (h.2.2.1 k hk).2.2.2.2.2
theorem St.b0 {ω : Wo} {B : Nat} {s : Row} (h : St ω B s) (k : Nat) (hk : k < cB s) : ω.1 (B + 14 + k) 0 = sB s k 0 := (h.2.2.2.1 k hk).1
theorem St.b1 {ω : Wo} {B : Nat} {s : Row} (h : St ω B s) (k : Nat) (hk : k < cB s) : ω.1 (B + 14 + k) 1 = sB s k 1 := (h.2.2.2.1 k hk).2.1
theorem St.b2 {ω : Wo} {B : Nat} {s : Row} (h : St ω B s) (k : Nat) (hk : k < cB s) : ω.1 (B + 14 + k) 2 = sB s k 5 := (h.2.2.2.1 k hk).2.2.1
theorem St.b3 {ω : Wo} {B : Nat} {s : Row} (h : St ω B s) (k : Nat) (hk : k < cB s) : ω.1 (B + 14 + k) 3 = sB s k 3 := (h.2.2.2.1 k hk).2.2.2.1
theorem St.b4 {ω : Wo} {B : Nat} {s : Row} (h : St ω B s) (k : Nat) (hk : k < cB s) : ω.1 (B + 14 + k) 4 = sB s k 4 := (h.2.2.2.1 k hk).2.2.2.2.1
theorem St.b5 {ω : Wo} {B : Nat} {s : Row} (h : St ω B s) (k : Nat) (hk : k < cB s) : ω.1 (B + 14 + k) 5 = sB s k 6 := (h.2.2.2.1 k hk).2.2.2.2.2
theorem St.l0 {ω : Wo} {B : Nat} {s : Row} (h : St ω B s) (k : Nat) (hk : k < cL s) {a : Nat} (ha : ω.2.1 (B + 3) k = some a) : ω.1 a 0 = sL s k 0 := (h.2.2.2.2 k hk a ha).1
theorem St.l1 {ω : Wo} {B : Nat} {s : Row} (h : St ω B s) (k : Nat) (hk : k < cL s) {a : Nat} (ha : ω.2.1 (B + 3) k = some a) : ω.1 a 1 = sL s k 1 := (h.2.2.2.2 k hk a ha).2.1
theorem St.l2 {ω : Wo} {B : Nat} {s : Row} (h : St ω B s) (k : Nat) (hk : k < cL s) {a : Nat} (ha : ω.2.1 (B + 3) k = some a) : ω.1 a 2 = sL s k 2 := (h.2.2.2.2 k hk a ha).2.2
theorem plc_c {s : Row} {k : Nat} (hm : 0 ≤ sM s k 1 ∧ sM s k 1 ≤ 2) (hw : sM s k 1 = 1 → 0 ≤ sM s k 3) : (sM s k 1 = 1 ∧ 0 ≤ plc s k ∧ plc s k = sM s k 3) ∨ (sM s k 1 = 0 ∧ plc s k = -1) ∨ (sM s k 1 = 2 ∧ plc s k = -2) := by
  unfold plc
  by_cases h1 : sM s k 1 = 1
  · rw [if_pos h1]; exact Or.inl ⟨h1, hw h1, rfl⟩
  · rw [if_neg h1]
    by_cases h0 : sM s k 1 = 0
    · rw [if_pos h0]; exact Or.inr (Or.inl ⟨h0, rfl⟩)
    · rw [if_neg h0]; exact Or.inr (Or.inr ⟨by omega, rfl⟩)
/-- the station's own cells, and all else as it was -/
def Fr (B : Nat) (ω ω' : Wo) : Prop := (∀ x, (x < B ∨ B + 21 ≤ x) → ω'.1 x = ω.1 x) ∧ (∀ x, x ≠ B + 3 → ω'.2.1 x = ω.2.1 x) ∧ ω'.2.2 = ω.2.2
theorem Fr.rf {B : Nat} {ω : Wo} : Fr B ω ω := ⟨fun _ _ => rfl, fun _ _ => rfl, rfl⟩
theorem Fr.tr {B : Nat} {a b c : Wo} (h : Fr B a b) (h2 : Fr B b c) : Fr B a c := ⟨fun x q => (h2.1 x q).trans (h.1 x q), fun x q => (h2.2.1 x q).trans (h.2.1 x q), h2.2.2.trans h.2.2⟩
theorem Fr.wf {B a : Nat} {ω : Wo} {f : Row} (h1 : B ≤ a) (h2 : a < B + 21) : Fr B ω (wf ω a f) := ⟨fun x q => wf_ne _ _ (by omega), fun _ _ => rfl, rfl⟩
theorem cM_e {s t : Row} (h : t 1 = s 1) : cM t = cM s := congrArg Int.toNat h
theorem cB_e {s t : Row} (h : t 2 = s 2) : cB t = cB s := congrArg Int.toNat h
theorem cL_e {s t : Row} (h : t 3 = s 3) : cL t = cL s := congrArg Int.toNat h
theorem plc_e {s t : Row} {k : Nat} (h1 : sM t k 1 = sM s k 1) (h3 : sM t k 3 = sM s k 3) : plc t k = plc s k := by unfold plc; rw [h1, h3]
theorem mEq_e {f s t : Row} {k : Nat} (h : mEq f s k) (hs : ∀ y, 8 + 7 * k ≤ y → y < 8 + 7 * k + 7 → t y = s y) : mEq f t k := by
  have e : ∀ w : Int, 0 ≤ w → w < 7 → sM t k w = sM s k w := fun w h0 h7 => hs _ (by omega) (by omega)
  obtain ⟨a, b, c, d, e5, f6⟩ := h
  exact ⟨a.trans (e 0 (by decide) (by decide)).symm, b.trans (plc_e (e 1 (by decide) (by decide)) (e 3 (by decide) (by decide))).symm, c.trans (e 2 (by decide) (by decide)).symm, d.trans (e 4 (by decide) (by decide)).symm, e5.trans (e 5 (by decide) (by decide)).symm, f6.trans (e 6 (by decide) (by decide)).symm⟩
theorem bEq_e {f s t : Row} {k : Nat} (h : bEq f s k) (hs : ∀ y, 78 + 7 * k ≤ y → y < 78 + 7 * k + 7 → y ≠ 78 + 7 * k + 2 → t y = s y) : bEq f t k := by
  have e : ∀ w : Int, 0 ≤ w → w < 7 → w ≠ 2 → sB t k w = sB s k w := fun w h0 h7 h2 => hs _ (by omega) (by omega) (by omega)
  obtain ⟨a, b, c, d, e5, f6⟩ := h
  exact ⟨a.trans (e 0 (by decide) (by decide) (by decide)).symm, b.trans (e 1 (by decide) (by decide) (by decide)).symm, c.trans (e 5 (by decide) (by decide) (by decide)).symm, d.trans (e 3 (by decide) (by decide) (by decide)).symm, e5.trans (e 4 (by decide) (by decide) (by decide)).symm, f6.trans (e 6 (by decide) (by decide) (by decide)).symm⟩
theorem lEq_e {f s t : Row} {k : Nat} (h : lEq f s k) (hs : ∀ y, 99 + 3 * k ≤ y → y < 99 + 3 * k + 3 → t y = s y) : lEq f t k := by
  have e : ∀ w : Int, 0 ≤ w → w < 3 → sL t k w = sL s k w := fun w h0 h7 => hs _ (by omega) (by omega)
  exact ⟨h.1.trans (e 0 (by decide) (by decide)).symm, h.2.1.trans (e 1 (by decide) (by decide)).symm, h.2.2.trans (e 2 (by decide) (by decide)).symm⟩
theorem wf_r (ω : Wo) (a : Nat) (f : Row) : (wf ω a f).2 = ω.2 := rfl
/-- a member's cell is written -/
theorem St.wm {ω : Wo} {B : Nat} {s t : Row} (h : St ω B s) {k : Nat} (hk : k < cM s) (hc : cM s ≤ 10 ∧ cB s ≤ 3 ∧ cL s ≤ 4) {f : Row} (hf : mEq f t k) (hs : ∀ y, (y < 8 + 7 * k ∨ 8 + 7 * k + 7 ≤ y) → t y = s y) : St (wf ω (B + 4 + k) f) B t := by
  obtain ⟨hr, h1, h2, h3, h4⟩ := h
  have e1 := cM_e (hs 1 (by omega))
  have e2 := cB_e (hs 2 (by omega))
  have e3 := cL_e (hs 3 (by omega))
  refine ⟨hr, ?_, fun j hj => ?_, fun j hj => ?_, fun j hj a ha => ?_⟩
  · unfold SCc at h1 ⊢
    rw [wf_ne _ _ (by omega), hs 0 (by omega), hs 1 (by omega), hs 2 (by omega), hs 3 (by omega), hs 4 (by omega), hs 5 (by omega), hs 6 (by omega), hs 7 (by omega)]; exact h1
  · by_cases e : j = k
    · subst e; rw [wf_same]; exact hf
    · rw [wf_ne _ _ (by omega)]; exact mEq_e (h2 j (by omega)) (fun y _ _ => hs y (by omega))
  · rw [wf_ne _ _ (by omega)]; exact bEq_e (h3 j (by omega)) (fun y _ _ _ => hs y (by omega))
  · obtain ⟨a', q1, q2, q3⟩ := hr.l j (by omega)
    cases Option.some.inj (q1.symm.trans ha)
    rw [wf_ne _ _ (by omega)]; exact lEq_e (h4 j (by omega) a ha) (fun y _ _ => hs y (by omega))
/-- a boat's cell is written; what the class does not hold (whether it is out) may change -/
theorem St.wb {ω : Wo} {B : Nat} {s t : Row} (h : St ω B s) {k : Nat} (hk : k < cB s) (hc : cM s ≤ 10 ∧ cB s ≤ 3 ∧ cL s ≤ 4) {f : Row} (hf : bEq f t k) (hs : ∀ y, (y < 78 + 7 * k ∨ 78 + 7 * k + 7 ≤ y) → t y = s y) : St (wf ω (B + 14 + k) f) B t := by
  obtain ⟨hr, h1, h2, h3, h4⟩ := h
  have e1 := cM_e (hs 1 (by omega))
  have e2 := cB_e (hs 2 (by omega))
  have e3 := cL_e (hs 3 (by omega))
  refine ⟨hr, ?_, fun j hj => ?_, fun j hj => ?_, fun j hj a ha => ?_⟩
  · unfold SCc at h1 ⊢
    rw [wf_ne _ _ (by omega), hs 0 (by omega), hs 1 (by omega), hs 2 (by omega), hs 3 (by omega), hs 4 (by omega), hs 5 (by omega), hs 6 (by omega), hs 7 (by omega)]; exact h1
  · rw [wf_ne _ _ (by omega)]; exact mEq_e (h2 j (by omega)) (fun y _ _ => hs y (by omega))
  · by_cases e : j = k
    · subst e; rw [wf_same]; exact hf
    · rw [wf_ne _ _ (by omega)]; exact bEq_e (h3 j (by omega)) (fun y _ _ _ => hs y (by omega))
  · obtain ⟨a', q1, q2, q3⟩ := hr.l j (by omega)
    cases Option.some.inj (q1.symm.trans ha)
    rw [wf_ne _ _ (by omega)]; exact lEq_e (h4 j (by omega) a ha) (fun y _ _ => hs y (by omega))
/-- a loan's cell is written -/
theorem St.wl {ω : Wo} {B : Nat} {s t : Row} (h : St ω B s) {k a : Nat} (hk : k < cL s) (ha : ω.2.1 (B + 3) k = some a) (hc : cM s ≤ 10 ∧ cB s ≤ 3 ∧ cL s ≤ 4) {f : Row} (hf : lEq f t k) (hs : ∀ y, (y < 99 + 3 * k ∨ 99 + 3 * k + 3 ≤ y) → t y = s y) : St (wf ω a f) B t := by
  obtain ⟨hr, h1, h2, h3, h4⟩ := h
  have e1 := cM_e (hs 1 (by omega))
  have e2 := cB_e (hs 2 (by omega))
  have e3 := cL_e (hs 3 (by omega))
  obtain ⟨a', q1, q2, q3⟩ := hr.l k (by omega)
  cases Option.some.inj (q1.symm.trans ha)
  refine ⟨hr, ?_, fun j hj => ?_, fun j hj => ?_, fun j hj b hb => ?_⟩
  · unfold SCc at h1 ⊢
    rw [wf_ne _ _ (by omega), hs 0 (by omega), hs 1 (by omega), hs 2 (by omega), hs 3 (by omega), hs 4 (by omega), hs 5 (by omega), hs 6 (by omega), hs 7 (by omega)]; exact h1
  · rw [wf_ne _ _ (by omega)]; exact mEq_e (h2 j (by omega)) (fun y _ _ => hs y (by omega))
  · rw [wf_ne _ _ (by omega)]; exact bEq_e (h3 j (by omega)) (fun y _ _ _ => hs y (by omega))
  · by_cases e : j = k
    · subst e
      cases Option.some.inj (hb.symm.trans ha)
      rw [wf_same]; exact hf
    · have hab : b ≠ a := fun q => e (hr.inj (by omega) (by omega) hb (q ▸ ha))
      rw [wf_ne _ _ hab]; exact lEq_e (h4 j (by omega) b hb) (fun y _ _ => hs y (by omega))
/-- the station's own cell is written, the counts of what there is as they were -/
theorem St.wc {ω : Wo} {B : Nat} {s t : Row} (h : St ω B s) (hc : cM s ≤ 10 ∧ cB s ≤ 3 ∧ cL s ≤ 4) {f : Row} (hf : f 3 = t 1 ∧ f 4 = t 2 ∧ f 5 = t 3 ∧ f 6 = t 0 ∧ f 7 = t 7 ∧ f 8 = t 4 ∧ f 9 = t 5 ∧ f 10 = t 6) (h1 : t 1 = s 1) (h2 : t 2 = s 2) (h3 : t 3 = s 3) (hs : ∀ y, 8 ≤ y → t y = s y) : St (wf ω B f) B t := by
  obtain ⟨hr, -, m2, m3, m4⟩ := h
  have e1 := cM_e h1
  have e2 := cB_e h2
  have e3 := cL_e h3
  refine ⟨hr, ?_, fun j hj => ?_, fun j hj => ?_, fun j hj b hb => ?_⟩
  · unfold SCc; rw [wf_same]; exact hf
  · rw [wf_ne _ _ (by omega)]; exact mEq_e (m2 j (by omega)) (fun y _ _ => hs y (by omega))
  · rw [wf_ne _ _ (by omega)]; exact bEq_e (m3 j (by omega)) (fun y _ _ _ => hs y (by omega))
  · obtain ⟨a', q1, q2, q3⟩ := hr.l j (by omega)
    cases Option.some.inj (q1.symm.trans hb)
    rw [wf_ne _ _ (by omega)]; exact lEq_e (m4 j (by omega) b hb) (fun y _ _ => hs y (by omega))
/-- another cell is written -/
theorem St.wx {ω : Wo} {B a : Nat} {s : Row} {f : Row} (h : St ω B s) (hc : cM s ≤ 10 ∧ cB s ≤ 3 ∧ cL s ≤ 4) (ha : a < B ∨ B + 21 ≤ a) : St (wf ω a f) B s := by
  obtain ⟨hr, m1, m2, m3, m4⟩ := h
  refine ⟨hr, ?_, fun j hj => ?_, fun j hj => ?_, fun j hj b hb => ?_⟩
  · unfold SCc; rw [wf_ne _ _ (by omega)]; exact m1
  · rw [wf_ne _ _ (by omega)]; exact m2 j hj
  · rw [wf_ne _ _ (by omega)]; exact m3 j hj
  · obtain ⟨a', q1, q2, q3⟩ := hr.l j (by omega)
    cases Option.some.inj (q1.symm.trans hb)
    rw [wf_ne _ _ (by omega)]; exact m4 j hj b hb
/-- a world that is the same at the station -/
theorem St.fr {ω ω' : Wo} {B : Nat} {s : Row} (h : St ω B s) (hc : cM s ≤ 10 ∧ cB s ≤ 3 ∧ cL s ≤ 4) (h1 : ∀ x, B ≤ x → x < B + 21 → ω'.1 x = ω.1 x) (h2 : ∀ x, B ≤ x → x < B + 4 → ω'.2.1 x = ω.2.1 x) : St ω' B s := by
  obtain ⟨hr, m1, m2, m3, m4⟩ := h
  refine ⟨?_, ?_, fun j hj => ?_, fun j hj => ?_, fun j hj b hb => ?_⟩
  · unfold SR at hr ⊢
    rw [h2 B (by omega) (by omega), h2 (B + 1) (by omega) (by omega), h2 (B + 2) (by omega) (by omega), h2 (B + 3) (by omega) (by omega)]; exact hr
  · unfold SCc; rw [h1 B (by omega) (by omega)]; exact m1
  · rw [h1 _ (by omega) (by omega)]; exact m2 j hj
  · rw [h1 _ (by omega) (by omega)]; exact m3 j hj
  · rw [h2 (B + 3) (by omega) (by omega)] at hb
    obtain ⟨a', q1, q2, q3⟩ := hr.l j (by omega)
    cases Option.some.inj (q1.symm.trans hb)
    rw [h1 _ (by omega) (by omega)]; exact m4 j hj b hb
theorem St.irr {ω : Wo} {B : Nat} {s t : Row} (h : St ω B s) (hs : ∀ y, (y < 78 ∨ 99 ≤ y ∨ (y - 78) % 7 ≠ 2) → t y = s y) (hc : cM s ≤ 10 ∧ cB s ≤ 3 ∧ cL s ≤ 4) : St ω B t := by
  obtain ⟨hr, h1, m2, m3, m4⟩ := h
  have e1 := cM_e (hs 1 (by omega))
  have e2 := cB_e (hs 2 (by omega))
  have e3 := cL_e (hs 3 (by omega))
  refine ⟨hr, ?_, fun j hj => ?_, fun j hj => ?_, fun j hj b hb => ?_⟩
  · unfold SCc at h1 ⊢
    rw [hs 0 (by omega), hs 1 (by omega), hs 2 (by omega), hs 3 (by omega), hs 4 (by omega), hs 5 (by omega), hs 6 (by omega), hs 7 (by omega)]; exact h1
  · exact mEq_e (m2 j (by omega)) (fun y _ _ => hs y (by omega))
  · exact bEq_e (m3 j (by omega)) (fun y _ _ _ => hs y (by omega))
  · exact lEq_e (m4 j (by omega) b hb) (fun y _ _ => hs y (by omega))
def RF (ω : Wo) (a : Nat) (n d : Int) : Wo := wf ω a (up (up (ω.1 a) 0 n) 1 d)
theorem RI.cc {M : Int} {s : Row} (h : RI M s) : cM s ≤ 10 ∧ cB s ≤ 3 ∧ cL s ≤ 4 := by have := h.c; omega
