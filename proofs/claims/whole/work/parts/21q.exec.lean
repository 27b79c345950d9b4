/-! the carrying out of commands -/
theorem DoM.WM {d : Nat} {ω ω' : Wo} {a b z : Int} (h : DoM d ω a b z ω') (hw : WM ω.2.1) : WM ω'.2.1 := by
  rcases h with ⟨-, -, rfl⟩ | ⟨-, -, rfl⟩
  · exact hw
  · exact hw
theorem exc_keep {M : Int} {s : Row} (hI : RI M s) (h : WI s) {D : Nat → Nat} {A B : Nat → Int} : ∀ k : Nat, M + 3000 * k ≤ 100000000 → (∀ j : Nat, j < k → D j ≤ 8 ∧ (jd (D j) (exc s D A B j) (A j) (B j)).1 = 0) → RI (M + 3000 * k) (exc s D A B k) ∧ WI (exc s D A B k) := by
  intro k
  induction k with
  | zero => intro _ _; refine ⟨?_, h⟩; have e : M + 3000 * ((0 : Nat) : Int) = M := by omega
            rw [e]; exact hI
  | succ k ih =>
    intro hM hj
    obtain ⟨i1, i2⟩ := ih (by omega) (fun j q => hj j (by omega))
    obtain ⟨j1, j2⟩ := hj k (by omega)
    have := ad_keep i1 i2 (by omega) j1 j2
    have e : M + 3000 * ((k + 1 : Nat) : Int) = M + 3000 * k + 3000 := by omega
    rw [e]; exact this
theorem dOf_8 {c : Int} (h : isW c) : dOf c ≤ 8 := by
  have h1 := dOf_le c
  have h2 := (dOf_w c).mpr h
  omega
/-- the reference's world while it carries out commands -/
def EW (ω : Wo) (r o : Row) (D : Nat → Nat) (A B : Nat → Int) (k : Nat) : Wo := wf (wf (NW ω r o) 245 (ω.1 244)) 244 (exc (ω.1 244) D A B k)
theorem EW_4 (ω : Wo) (r o : Row) (D : Nat → Nat) (A B : Nat → Int) (k : Nat) : (EW ω r o D A B k).1 244 = exc (ω.1 244) D A B k := rfl
theorem EW_5 (ω : Wo) (r o : Row) (D : Nat → Nat) (A B : Nat → Int) (k : Nat) : (EW ω r o D A B k).1 245 = ω.1 244 := rfl
theorem EW_3 (ω : Wo) (r o : Row) (D : Nat → Nat) (A B : Nat → Int) (k : Nat) : (EW ω r o D A B k).1 243 = r := rfl
theorem EW_0 (ω : Wo) (r o : Row) (D : Nat → Nat) (A B : Nat → Int) (k : Nat) : (EW ω r o D A B k).1 250 = o := rfl
theorem EW_s {ω : Wo} {r o : Row} {D : Nat → Nat} {A B : Nat → Int} {k : Nat} {f : Row} (h : f = exc (ω.1 244) D A B (k + 1)) : wf (EW ω r o D A B k) 244 f = EW ω r o D A B (k + 1) := by
  unfold EW; rw [wf_wf, h]
theorem ref_3 {ω : Wo} {a b : Int} : (refM ω a b).1 243 6 = 9 := rfl
/-- what carrying out commands leaves behind (243: the reference's own cell) -/
def CmdP (ω : Wo) (n : Nat) (z : Int) (ω' : Wo) : Prop :=
  ∃ (o : Row) (K E : Nat), K = (prs (ω.1 249) n 21 0).2 ∧
  (((prs (ω.1 249) n 21 0).1 ≠ -1 ∧ z = 0 ∧ ω' = NW ω (up (up (up (up (up (ω.1 243) 17 (K : Int)) 16 (E : Int)) 15 0) 11 (prs (ω.1 249) n 21 0).1) 6 1) o) ∨
  ((prs (ω.1 249) n 21 0).1 = -1 ∧ K ≤ 20 ∧ (∀ j : Nat, j < K → tD (ω.1 249) n j ≤ 8) ∧ excN (ω.1 244) (tD (ω.1 249) n) (tA (ω.1 249) n) (tB (ω.1 249) n) K 0 < K ∧ z = 0 ∧
    ω' = wf (NW ω (up (up (up (up (up (up (up (up (up (ω.1 243) 17 (K : Int)) 16 (E : Int)) 15 0) 11 (-1)) 9 (jd (tD (ω.1 249) n (excN (ω.1 244) (tD (ω.1 249) n) (tA (ω.1 249) n) (tB (ω.1 249) n) K 0)) (exc (ω.1 244) (tD (ω.1 249) n) (tA (ω.1 249) n) (tB (ω.1 249) n) (excN (ω.1 244) (tD (ω.1 249) n) (tA (ω.1 249) n) (tB (ω.1 249) n) K 0)) (tA (ω.1 249) n (excN (ω.1 244) (tD (ω.1 249) n) (tA (ω.1 249) n) (tB (ω.1 249) n) K 0)) (tB (ω.1 249) n (excN (ω.1 244) (tD (ω.1 249) n) (tA (ω.1 249) n) (tB (ω.1 249) n) K 0))).1) 10 (jd (tD (ω.1 249) n (excN (ω.1 244) (tD (ω.1 249) n) (tA (ω.1 249) n) (tB (ω.1 249) n) K 0)) (exc (ω.1 244) (tD (ω.1 249) n) (tA (ω.1 249) n) (tB (ω.1 249) n) (excN (ω.1 244) (tD (ω.1 249) n) (tA (ω.1 249) n) (tB (ω.1 249) n) K 0)) (tA (ω.1 249) n (excN (ω.1 244) (tD (ω.1 249) n) (tA (ω.1 249) n) (tB (ω.1 249) n) K 0)) (tB (ω.1 249) n (excN (ω.1 244) (tD (ω.1 249) n) (tA (ω.1 249) n) (tB (ω.1 249) n) K 0))).2) 7 12) 8 (excN (ω.1 244) (tD (ω.1 249) n) (tA (ω.1 249) n) (tB (ω.1 249) n) K 0 : Int)) 6 2) o) 245 (ω.1 244)) ∨
  ((prs (ω.1 249) n 21 0).1 = -1 ∧ K ≤ 20 ∧ (∀ j : Nat, j < K → tD (ω.1 249) n j ≤ 8) ∧ (∀ j : Nat, j < K → (jd (tD (ω.1 249) n j) (exc (ω.1 244) (tD (ω.1 249) n) (tA (ω.1 249) n) (tB (ω.1 249) n) j) (tA (ω.1 249) n j) (tB (ω.1 249) n j)).1 = 0) ∧ z = K ∧
    ω' = chg (EW ω (up (up (up (up (up (ω.1 243) 17 (K : Int)) 16 (E : Int)) 15 0) 11 (-1)) 6 0) o (tD (ω.1 249) n) (tA (ω.1 249) n) (tB (ω.1 249) n) K)))
theorem kp_EW {ω : Wo} {r o : Row} {D : Nat → Nat} {A B : Nat → Int} : kp (NW ω r o) = EW ω (up r 6 0) o D A B 0 := by
  unfold kp EW NW
  refine wo_ext (fun x => ?_) rfl
  simp only [wf, exc]
  by_cases h1 : x = 243
  · simp [h1]
  · by_cases h2 : x = 245
    · simp [h2]
    · by_cases h3 : x = 244
      · simp [h3]
      · simp [h1, h2, h3]
theorem DoM_rd {ω ω' : Wo} {t : Row} {n k : Nat} {z : Int} (hr : cRd t n (psn t n k) (ω.1 250) k) (h : DoM (dOf (ω.1 250 (3 * k))) ω (ω.1 250 (3 * k + 1)) (if dg2 (dOf (ω.1 250 (3 * k))) = 0 then 0 else ω.1 250 (3 * k + 2)) z ω') : DoM (tD t n k) ω (tA t n k) (tB t n k) z ω' := by
  have e0 : dOf (ω.1 250 (3 * k)) = tD t n k := by rw [hr.1]; rfl
  rw [e0, hr.2.1] at h
  by_cases q : dg2 (tD t n k) = 0
  · rw [if_pos q] at h
    rw [tB_0 q]; exact h
  · rw [if_neg q, hr.2.2 q] at h
    exact h
theorem DoM_t {ω w : Wo} {r o : Row} {D : Nat → Nat} {A B : Nat → Int} {k : Nat} {z : Int} (h : DoM (D k) (EW ω r o D A B k) (A k) (B k) z w) (hc : w.1 243 6 = 0) : w = EW ω r o D A B (k + 1) ∧ (jd (D k) (exc (ω.1 244) D A B k) (A k) (B k)).1 = 0 := by
  rcases h with ⟨h0, -, rfl⟩ | ⟨-, -, rfl⟩
  · exact ⟨EW_s rfl, h0⟩
  · exact absurd hc (by rw [ref_3]; decide)
theorem DoM_f {ω w : Wo} {r o : Row} {D : Nat → Nat} {A B : Nat → Int} {k : Nat} {z : Int} (h : DoM (D k) (EW ω r o D A B k) (A k) (B k) z w) (hr : r 6 = 0) (hc : w.1 243 6 ≠ 0) : z = 0 ∧ w = refM (EW ω r o D A B k) (jd (D k) (exc (ω.1 244) D A B k) (A k) (B k)).1 (jd (D k) (exc (ω.1 244) D A B k) (A k) (B k)).2 ∧ (jd (D k) (exc (ω.1 244) D A B k) (A k) (B k)).1 ≠ 0 := by
  rcases h with ⟨-, -, rfl⟩ | ⟨h0, h1, rfl⟩
  · exact absurd hr hc
  · exact ⟨h1, rfl, h0⟩
theorem refM_45 (ω : Wo) (a b : Int) : (refM ω a b).1 245 = ω.1 245 := rfl
theorem refM_43 (ω : Wo) (a b : Int) : (refM ω a b).1 243 = up (up (up (up (ω.1 243) 7 a) 8 b) 9 0) 6 9 := rfl
/-- the reference's own cell behind the reading of a good text -/
def RR (ω : Wo) (K E : Nat) : Row := up (up (up (up (up (ω.1 243) 17 (K : Int)) 16 (E : Int)) 15 0) 11 (-1)) 6 0
theorem cmd_no {ω : Wo} {o : Row} {D : Nat → Nat} {A B : Nat → Int} {K E k : Nat} {a b : Int} :
    wf (wf (wf (refM (EW ω (RR ω K E) o D A B k) a b) 243 (up (up (up (up (up (up (up (up (RR ω K E) 7 a) 8 b) 9 0) 6 9) 9 a) 10 b) 7 12) 8 (k : Int))) 244 (ω.1 244)) 243 (up (up (up (up (up (up (up (up (up (RR ω K E) 7 a) 8 b) 9 0) 6 9) 9 a) 10 b) 7 12) 8 (k : Int)) 6 2) =
    wf (NW ω (up (up (up (up (up (up (up (up (up (ω.1 243) 17 (K : Int)) 16 (E : Int)) 15 0) 11 (-1)) 9 a) 10 b) 7 12) 8 (k : Int)) 6 2) o) 245 (ω.1 244) := by
  have hr : up (up (up (up (up (up (up (up (up (RR ω K E) 7 a) 8 b) 9 0) 6 9) 9 a) 10 b) 7 12) 8 (k : Int)) 6 2 = up (up (up (up (up (up (up (up (up (ω.1 243) 17 (K : Int)) 16 (E : Int)) 15 0) 11 (-1)) 9 a) 10 b) 7 12) 8 (k : Int)) 6 2 := by
    funext y
    unfold RR
    simp only [up]
    by_cases h6 : y = 6
    · simp [h6]
    · by_cases h7 : y = 7
      · simp [h7]
      · by_cases h8 : y = 8
        · simp [h8]
        · by_cases h9 : y = 9
          · simp [h9]
          · simp [h6, h7, h8, h9]
  rw [hr]
  refine wo_ext (fun x => ?_) rfl
  unfold refM EW NW
  simp only [wf]
  by_cases h1 : x = 243
  · simp [h1]
  · by_cases h2 : x = 245
    · simp [h2]
    · by_cases h3 : x = 244
      · simp [h3]
      · by_cases h4 : x = 250
        · simp [h4]
        · simp [h1, h2, h3, h4]
theorem excN_at {s : Row} {D : Nat → Nat} {A B : Nat → Int} {K k : Nat} (hk : k < K) (hi : excN s D A B (K - k) k = excN s D A B K 0) (h : (jd (D k) (exc s D A B k) (A k) (B k)).1 ≠ 0) : excN s D A B K 0 = k := by
  rw [← hi, show K - k = (K - k - 1) + 1 by omega]; exact excN_e h
theorem excN_nx {s : Row} {D : Nat → Nat} {A B : Nat → Int} {K k : Nat} (hk : k < K) (hi : excN s D A B (K - k) k = excN s D A B K 0) (h : (jd (D k) (exc s D A B k) (A k) (B k)).1 = 0) : excN s D A B (K - (k + 1)) (k + 1) = excN s D A B K 0 := by
  rw [← hi, show K - k = (K - (k + 1)) + 1 by omega]; exact (excN_s h).symm
