/-! loans go, crews go out: worlds and rows -/
def rot (r : Rf) (B q n : Nat) : Rf := fun x y => if x = B + 3 then (if q ≤ y ∧ y < q + n then r x (y + 1) else r x y) else r x y
def RW (ω : Wo) (B q n : Nat) : Wo := (ω.1, (rot ω.2.1 B q n, ω.2.2))
theorem RW_0 (ω : Wo) (B q : Nat) : RW ω B q 0 = ω := by
  have : rot ω.2.1 B q 0 = ω.2.1 := by
    funext x y; unfold rot
    rw [if_neg (show ¬ (q ≤ y ∧ y < q + 0) by omega)]; split <;> rfl
  unfold RW; rw [this]
theorem rot_x {r : Rf} {B q n x : Nat} (h : x ≠ B + 3) : rot r B q n x = r x := by funext y; unfold rot; rw [if_neg h]
theorem rot_hi {r : Rf} {B q n y : Nat} (h : q + n ≤ y ∨ y < q) : rot r B q n (B + 3) y = r (B + 3) y := by unfold rot; rw [if_pos rfl, if_neg (by omega)]
theorem rot_in {r : Rf} {B q n y : Nat} (h : q ≤ y ∧ y < q + n) : rot r B q n (B + 3) y = r (B + 3) (y + 1) := by unfold rot; rw [if_pos rfl, if_pos h]
theorem RW_s {ω : Wo} {B q n b : Nat} (h : ω.2.1 (B + 3) (q + n + 1) = some b) : wr (RW ω B q n) (B + 3) (q + n) (some b) = RW ω B q (n + 1) := by
  unfold wr RW
  congr 2
  funext x y
  show (if x = B + 3 then (if y = q + n then some b else rot ω.2.1 B q n x y) else rot ω.2.1 B q n x y) = rot ω.2.1 B q (n + 1) x y
  by_cases hx : x = B + 3
  · subst hx
    rw [if_pos rfl]
    by_cases hy : y = q + n
    · subst hy; rw [if_pos rfl, rot_in (by omega), h]
    · rw [if_neg hy]
      by_cases hq : q ≤ y ∧ y < q + n
      · rw [rot_in hq, rot_in (by omega)]
      · rw [rot_hi (by omega), rot_hi (by omega)]
  · rw [if_neg hx, rot_x hx, rot_x hx]
theorem take_St {M : Int} {ω : Wo} {B a q : Nat} {s : Row} (h : St ω B s) (hI : RI M s) (hq : q < cL s) (ha : ω.2.1 (B + 3) q = some a) : St (wi (wr (RW ω B q (cL s - 1 - q)) (B + 3) (cL s - 1) (some a)) B 5 (s 3 - 1)) B (takeL s q) ∧ Fr B ω (wi (wr (RW ω B q (cL s - 1 - q)) (B + 3) (cL s - 1) (some a)) B 5 (s 3 - 1)) := by
  have gc := hI.c
  rw [wi_wf]
  have er : ∀ x y, (wr (RW ω B q (cL s - 1 - q)) (B + 3) (cL s - 1) (some a)).2.1 x y = if x = B + 3 then (if y = cL s - 1 then some a else if q ≤ y ∧ y < cL s - 1 then ω.2.1 (B + 3) (y + 1) else ω.2.1 (B + 3) y) else ω.2.1 x y := by
    intro x y
    show (if x = B + 3 then (if y = cL s - 1 then some a else rot ω.2.1 B q (cL s - 1 - q) x y) else rot ω.2.1 B q (cL s - 1 - q) x y) = _
    by_cases hx : x = B + 3
    · subst hx
      rw [if_pos rfl, if_pos rfl]
      by_cases hy : y = cL s - 1
      · rw [if_pos hy, if_pos hy]
      · rw [if_neg hy, if_neg hy]
        by_cases hz : q ≤ y ∧ y < cL s - 1
        · rw [if_pos hz, rot_in (by omega)]
        · rw [if_neg hz, rot_hi (by omega)]
    · rw [if_neg hx, if_neg hx, rot_x hx]
  obtain ⟨hr, h1, h2, h3, h4⟩ := h
  have e3 : takeL s q 3 = s 3 - 1 := if_pos rfl
  have eo : ∀ y, y < 99 → y ≠ 3 → takeL s q y = s y := fun y h1 h2 => takeL_at ⟨h1, h2⟩
  have ecM : cM (takeL s q) = cM s := cM_e (eo 1 (by decide) (by decide))
  have ecB : cB (takeL s q) = cB s := cB_e (eo 2 (by decide) (by decide))
  have ecL : cL (takeL s q) = cL s - 1 := by unfold cL; rw [e3]; omega
  refine ⟨⟨?_, ?_, fun j hj => ?_, fun j hj => ?_, fun j hj b hb => ?_⟩, fun x hx => wf_ne _ _ (by omega), fun x hx => ?_, rfl⟩
  · obtain ⟨r0, r1, r2, r3, r4, π, p1, p2⟩ := hr
    have key : ∀ x, x ≠ B + 3 → ∀ y, (wf (wr (RW ω B q (cL s - 1 - q)) (B + 3) (cL s - 1) (some a)) B (up ((wr (RW ω B q (cL s - 1 - q)) (B + 3) (cL s - 1) (some a)).1 B) 5 (s 3 - 1))).2.1 x y = ω.2.1 x y := fun x hx y => (er x y).trans (if_neg hx)
    refine ⟨(key B (by omega) 0).trans r0, (key B (by omega) 1).trans r1, (key B (by omega) 2).trans r2, fun k hk => (key (B + 1) (by omega) k).trans (r3 k hk), fun k hk => (key (B + 2) (by omega) k).trans (r4 k hk), fun y => if y = cL s - 1 then π q else if q ≤ y ∧ y < cL s - 1 then π (y + 1) else π y, fun k hk => ?_, fun j k hj hk hjk => ?_⟩
    · have p := fun z hz => p1 z hz
      have hy := er (B + 3) k
      rw [if_pos rfl] at hy
      show (if k = cL s - 1 then π q else if q ≤ k ∧ k < cL s - 1 then π (k + 1) else π k) < 4 ∧ (wr (RW ω B q (cL s - 1 - q)) (B + 3) (cL s - 1) (some a)).2.1 (B + 3) k = some (B + 17 + (if k = cL s - 1 then π q else if q ≤ k ∧ k < cL s - 1 then π (k + 1) else π k))
      by_cases c1 : k = cL s - 1
      · have aq := Option.some.inj (ha.symm.trans (p q (by omega)).2)
        refine ⟨?_, ?_⟩
        · rw [if_pos c1]; exact (p q (by omega)).1
        · rw [if_pos c1] at hy
          rw [if_pos c1, ← aq]; exact hy
      · by_cases c2 : q ≤ k ∧ k < cL s - 1
        · rw [if_neg c1, if_pos c2] at hy
          refine ⟨?_, ?_⟩
          · rw [if_neg c1, if_pos c2]; exact (p (k + 1) (by omega)).1
          · rw [if_neg c1, if_pos c2]; exact hy.trans (p (k + 1) (by omega)).2
        · rw [if_neg c1, if_neg c2] at hy
          refine ⟨?_, ?_⟩
          · rw [if_neg c1, if_neg c2]; exact (p k hk).1
          · rw [if_neg c1, if_neg c2]; exact hy.trans (p k hk).2
    · simp only [] at hjk
      have inj := fun x y hx hy e => p2 x y hx hy e
      by_cases c1 : j = cL s - 1
      · rw [if_pos c1] at hjk
        by_cases d1 : k = cL s - 1
        · omega
        · rw [if_neg d1] at hjk
          by_cases d2 : q ≤ k ∧ k < cL s - 1
          · rw [if_pos d2] at hjk; have := inj q (k + 1) (by omega) (by omega) hjk; omega
          · rw [if_neg d2] at hjk; have := inj q k (by omega) hk hjk; omega
      · rw [if_neg c1] at hjk
        by_cases c2 : q ≤ j ∧ j < cL s - 1
        · rw [if_pos c2] at hjk
          by_cases d1 : k = cL s - 1
          · rw [if_pos d1] at hjk; have := inj (j + 1) q (by omega) (by omega) hjk; omega
          · rw [if_neg d1] at hjk
            by_cases d2 : q ≤ k ∧ k < cL s - 1
            · rw [if_pos d2] at hjk; have := inj (j + 1) (k + 1) (by omega) (by omega) hjk; omega
            · rw [if_neg d2] at hjk; have := inj (j + 1) k (by omega) hk hjk; omega
        · rw [if_neg c2] at hjk
          by_cases d1 : k = cL s - 1
          · rw [if_pos d1] at hjk; have := inj j q hj (by omega) hjk; omega
          · rw [if_neg d1] at hjk
            by_cases d2 : q ≤ k ∧ k < cL s - 1
            · rw [if_pos d2] at hjk; have := inj j (k + 1) hj (by omega) hjk; omega
            · rw [if_neg d2] at hjk; exact inj j k hj hk hjk
  · unfold SCc at h1 ⊢
    rw [wf_same]
    show up (ω.1 B) 5 (s 3 - 1) 3 = _ ∧ up (ω.1 B) 5 (s 3 - 1) 4 = _ ∧ up (ω.1 B) 5 (s 3 - 1) 5 = _ ∧ up (ω.1 B) 5 (s 3 - 1) 6 = _ ∧ up (ω.1 B) 5 (s 3 - 1) 7 = _ ∧ up (ω.1 B) 5 (s 3 - 1) 8 = _ ∧ up (ω.1 B) 5 (s 3 - 1) 9 = _ ∧ up (ω.1 B) 5 (s 3 - 1) 10 = _
    rw [up_ne _ _ (by decide), up_ne _ _ (by decide), up_same, up_ne _ _ (by decide), up_ne _ _ (by decide), up_ne _ _ (by decide), up_ne _ _ (by decide), up_ne _ _ (by decide), e3, eo 0 (by decide) (by decide), eo 1 (by decide) (by decide), eo 2 (by decide) (by decide), eo 4 (by decide) (by decide), eo 5 (by decide) (by decide), eo 6 (by decide) (by decide), eo 7 (by decide) (by decide)]
    exact ⟨h1.1, h1.2.1, rfl, h1.2.2.2⟩
  · rw [wf_ne _ _ (by omega)]; exact mEq_e (h2 j (by omega)) (fun y _ _ => eo y (by omega) (by omega))
  · rw [wf_ne _ _ (by omega)]; exact bEq_e (h3 j (by omega)) (fun y _ _ _ => eo y (by omega) (by omega))
  · have hb2 : (wr (RW ω B q (cL s - 1 - q)) (B + 3) (cL s - 1) (some a)).2.1 (B + 3) j = some b := hb
    rw [er, if_pos rfl, if_neg (show j ≠ cL s - 1 by omega)] at hb2
    have hbB : b ≠ B := by
      by_cases c2 : q ≤ j ∧ j < cL s - 1
      · rw [if_pos c2] at hb2
        obtain ⟨a', q1, q2, q3⟩ := hr.l (j + 1) (by omega)
        cases Option.some.inj (q1.symm.trans hb2); omega
      · rw [if_neg c2] at hb2
        obtain ⟨a', q1, q2, q3⟩ := hr.l j (by omega)
        cases Option.some.inj (q1.symm.trans hb2); omega
    rw [wf_ne _ _ hbB]
    show lEq (ω.1 b) (takeL s q) j
    by_cases c2 : q ≤ j ∧ j < cL s - 1
    · rw [if_pos c2] at hb2
      have hl := h4 (j + 1) (by omega) b hb2
      have e : ∀ w : Nat, w < 3 → sL (takeL s q) j w = sL s ((j + 1 : Nat) : Int) w := fun w hw => by
        rw [sL_n, sL_n]
        show (if _ then _ else _) = _
        rw [if_neg (by omega), if_pos (by omega)]
        congr 1; omega
      exact ⟨hl.1.trans (e 0 (by decide)).symm, hl.2.1.trans (e 1 (by decide)).symm, hl.2.2.trans (e 2 (by decide)).symm⟩
    · rw [if_neg c2] at hb2
      have hl := h4 j (by omega) b hb2
      have e : ∀ w : Nat, w < 3 → sL (takeL s q) j w = sL s j w := fun w hw => by
        rw [sL_n, sL_n]
        show (if _ then _ else _) = _
        rw [if_neg (by omega), if_neg (by omega), if_neg (by omega)]
      exact ⟨hl.1.trans (e 0 (by decide)).symm, hl.2.1.trans (e 1 (by decide)).symm, hl.2.2.trans (e 2 (by decide)).symm⟩
  · funext y; exact (er x y).trans (if_neg hx)
theorem outUp_e {s t : Row} (h : ∀ y, 78 ≤ y → y < 99 → t y = s y) : ∀ n, n ≤ 3 → outUp t n = outUp s n := by
  intro n
  induction n with
  | zero => intro _; rfl
  | succ n ih =>
    intro hn
    have e1 : sB t n 1 = sB s n 1 := h _ (by omega) (by omega)
    have e2 : sB t n 2 = sB s n 2 := h _ (by omega) (by omega)
    unfold outUp
    rw [ih (by omega), e1, e2]
theorem outO_e {s t : Row} (h : ∀ y, 78 ≤ y → y < 99 → t y = s y) (h2 : t 2 = s 2) (hc : cB s ≤ 3) : outO t = outO s := by
  unfold outO; rw [cB_e h2]; exact outUp_e h _ hc
theorem sendR_irr {s : Row} {b y : Nat} {hr : Int} (hb : b < 3) (hy : y < 78 ∨ 99 ≤ y ∨ (y - 78) % 7 ≠ 2) : sendR s b hr y = up (up (up (up (sendUp s (crw s b) b (lst s (ableS s) 2) (cM s)) (78 + 7 * b + 5) (lst s (ableS s) 2)) (78 + 7 * b + 3) hr) (78 + 7 * b + 6) (sB (sendUp s (crw s b) b (lst s (ableS s) 2) (cM s)) b 6 + 1)) 4 (sendUp s (crw s b) b (lst s (ableS s) 2) (cM s) 4 + 1) y := by
  have e : (78 + 7 * (b : Int)).toNat = 78 + 7 * b := by omega
  unfold sendR
  try simp only []
  rw [e]
  simp only [up]
  repeat' split
  all_goals (first | rfl | omega)
