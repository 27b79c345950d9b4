/-! a deed that is not refused: what its numbers are, and that it keeps the ranges and what holds of the row -/
theorem jd0_ok {s : Row} {a b : Int} (h : (jd 0 s a b).1 = 0) : (0 ≤ a ∧ a ≤ 2) ∧ s 1 ≠ 10 := by
  unfold jd at h
  simp only [] at h
  split at h
  · exact absurd h (by simp)
  · split at h
    · exact absurd h (by simp)
    · rename_i h1 h2; exact ⟨Decidable.not_not.mp h1, h2⟩
theorem jd1_ok {s : Row} {a b : Int} (h : (jd 1 s a b).1 = 0) : (0 ≤ a ∧ a ≤ s 1 - 1) ∧ sM s a 1 ≠ 2 ∧ sM s a 1 ≠ 1 := by
  have := jA_ok (show (jA s a).1 = 0 from h)
  exact ⟨this.1, this.2.1, this.2.2.1⟩
theorem jd2_ok {s : Row} {a b : Int} (h : (jd 2 s a b).1 = 0) : (0 ≤ a ∧ a ≤ s 1 - 1) ∧ sM s a 1 ≠ 2 ∧ sM s a 1 ≠ 1 ∧ sM s a 0 ≠ 2 := by
  unfold jd at h
  simp only [] at h
  split at h
  · rename_i h1; exact absurd h h1
  · split at h
    · exact absurd h (by simp)
    · rename_i h1 h2
      have := jA_ok (Decidable.not_not.mp h1)
      exact ⟨this.1, this.2.1, this.2.2.1, h2⟩
theorem jd3_ok {s : Row} {a b : Int} (h : (jd 3 s a b).1 = 0) : ((0 ≤ a ∧ a ≤ 6) ∧ 2 ≤ b ∧ b ≤ 6) ∧ s 2 ≠ 3 := by
  unfold jd at h
  simp only [] at h
  split at h
  · exact absurd h (by simp)
  · split at h
    · exact absurd h (by simp)
    · rename_i h1 h2; exact ⟨Decidable.not_not.mp h1, h2⟩
theorem jd4_ok {s : Row} {a b : Int} (h : (jd 4 s a b).1 = 0) : (0 ≤ a ∧ a ≤ s 2 - 1) ∧ (1 ≤ b ∧ b ≤ 9) ∧ ¬ 0 < whyN s a := by
  unfold jd at h
  simp only [] at h
  split at h
  · exact absurd h (by simp)
  · split at h
    · exact absurd h (by simp)
    · split at h
      · rename_i h3
        have h3' : whyN s a = 0 := h
        omega
      · rename_i h1 h2 h3; exact ⟨Decidable.not_not.mp h1, Decidable.not_not.mp h2, h3⟩
theorem jd5_ok {s : Row} {a b : Int} (h : (jd 5 s a b).1 = 0) : (1 ≤ a ∧ a ≤ 9) ∧ (1 ≤ b ∧ b ≤ 48) ∧ s 3 ≠ 4 := by
  unfold jd at h
  simp only [] at h
  split at h
  · exact absurd h (by simp)
  · split at h
    · exact absurd h (by simp)
    · split at h
      · exact absurd h (by simp)
      · rename_i h1 h2 h3; exact ⟨Decidable.not_not.mp h1, Decidable.not_not.mp h2, h3⟩
theorem jd6_ok {s : Row} {a b : Int} (h : (jd 6 s a b).1 = 0) : (0 ≤ a ∧ a ≤ s 3 - 1) ∧ ¬ 0 < sL s a 0 - freeO s := by
  unfold jd at h
  simp only [] at h
  split at h
  · exact absurd h (by simp)
  · split at h
    · exact absurd h (by simp)
    · rename_i h1 h2; exact ⟨Decidable.not_not.mp h1, h2⟩
theorem jd7_ok {s : Row} {a b : Int} (h : (jd 7 s a b).1 = 0) : (1 ≤ a ∧ a ≤ 20) ∧ s 7 ≠ a := by
  unfold jd at h
  simp only [] at h
  split at h
  · exact absurd h (by simp)
  · split at h
    · exact absurd h (by simp)
    · rename_i h1 h2; exact ⟨Decidable.not_not.mp h1, h2⟩
theorem jd8_ok {s : Row} {a b : Int} (h : (jd 8 s a b).1 = 0) : 1 ≤ a ∧ a ≤ 99 := by
  unfold jd at h
  simp only [] at h
  split at h
  · exact absurd h (by simp)
  · rename_i h1; exact Decidable.not_not.mp h1
theorem newM_RI {M : Int} {s : Row} (hI : RI M s) {v : Int} (h1 : s 1 < 10) (hv : 0 ≤ v ∧ v ≤ 2) : RI M (newM s v) := by
  have gc := hI.c
  have gs := hI.s
  have hM := hI.1
  refine ⟨hI.1, hI.2.1, fun y => ?_⟩
  have e : newM s v y = if y = 1 then s 1 + 1 else if 8 + 7 * cM s ≤ y ∧ y < 8 + 7 * cM s + 7 then (if y = 8 + 7 * cM s then v else if y = 8 + 7 * cM s + 3 then -1 else 0) else s y := rfl
  rw [e]
  by_cases y1 : y = 1
  · rw [if_pos y1, y1]; show (0 : Int) ≤ _ ∧ _ ≤ (10 : Int); omega
  · rw [if_neg y1]
    by_cases y2 : 8 + 7 * cM s ≤ y ∧ y < 8 + 7 * cM s + 7
    · rw [if_pos y2]
      have l := lo_m (cM s) (by omega)
      have u := hi_m (cM s) (by omega)
      obtain h | h | h | h | h | h | h : y = 8 + 7 * cM s + 0 ∨ y = 8 + 7 * cM s + 1 ∨ y = 8 + 7 * cM s + 2 ∨ y = 8 + 7 * cM s + 3 ∨ y = 8 + 7 * cM s + 4 ∨ y = 8 + 7 * cM s + 5 ∨ y = 8 + 7 * cM s + 6 := by omega
      · subst h; rw [l.1, u.1, if_pos (by omega)]; exact hv
      · subst h; rw [l.2.1, u.2.1, if_neg (by omega), if_neg (by omega)]; show (0 : Int) ≤ 0 ∧ (0 : Int) ≤ 2; omega
      · subst h; rw [l.2.2.1, u.2.2.1, if_neg (by omega), if_neg (by omega)]; show (0 : Int) ≤ 0 ∧ (0 : Int) ≤ M; omega
      · subst h; rw [l.2.2.2.1, u.2.2.2.1, if_neg (by omega), if_pos (by omega)]; show (-1 : Int) ≤ -1 ∧ (-1 : Int) ≤ 2; omega
      · subst h; rw [l.2.2.2.2.1, u.2.2.2.2.1, if_neg (by omega), if_neg (by omega)]; show (0 : Int) ≤ 0 ∧ (0 : Int) ≤ M; omega
      · subst h; rw [l.2.2.2.2.2.1, u.2.2.2.2.2.1, if_neg (by omega), if_neg (by omega)]; show (0 : Int) ≤ 0 ∧ (0 : Int) ≤ M; omega
      · subst h; rw [l.2.2.2.2.2.2, u.2.2.2.2.2.2, if_neg (by omega), if_neg (by omega)]; show (0 : Int) ≤ 0 ∧ (0 : Int) ≤ M; omega
    · rw [if_neg y2]; exact hI.2.2 y
theorem newB_RI {M : Int} {s : Row} (hI : RI M s) {v u : Int} (h1 : s 2 < 3) (hv : 0 ≤ v ∧ v ≤ 6) (hu : 0 ≤ u ∧ u ≤ 6) : RI M (newB s v u) := by
  have gc := hI.c
  have gs := hI.s
  have hM := hI.1
  refine ⟨hI.1, hI.2.1, fun y => ?_⟩
  have e : newB s v u y = if y = 2 then s 2 + 1 else if 78 + 7 * cB s ≤ y ∧ y < 78 + 7 * cB s + 7 then (if y = 78 + 7 * cB s then v else if y = 78 + 7 * cB s + 1 then u else if y = 78 + 7 * cB s + 5 then -1 else 0) else s y := rfl
  rw [e]
  by_cases y1 : y = 2
  · rw [if_pos y1, y1]; show (0 : Int) ≤ _ ∧ _ ≤ (3 : Int); omega
  · rw [if_neg y1]
    by_cases y2 : 78 + 7 * cB s ≤ y ∧ y < 78 + 7 * cB s + 7
    · rw [if_pos y2]
      have l := lo_b (cB s) (by omega)
      have w := hi_b (cB s) (by omega)
      obtain h | h | h | h | h | h | h : y = 78 + 7 * cB s + 0 ∨ y = 78 + 7 * cB s + 1 ∨ y = 78 + 7 * cB s + 2 ∨ y = 78 + 7 * cB s + 3 ∨ y = 78 + 7 * cB s + 4 ∨ y = 78 + 7 * cB s + 5 ∨ y = 78 + 7 * cB s + 6 := by omega
      · subst h; rw [l.1, w.1, if_pos (by omega)]; exact hv
      · subst h; rw [l.2.1, w.2.1, if_neg (by omega), if_pos (by omega)]; exact hu
      · subst h; rw [l.2.2.1, w.2.2.1, if_neg (by omega), if_neg (by omega), if_neg (by omega)]; show (0 : Int) ≤ 0 ∧ (0 : Int) ≤ 1; omega
      · subst h; rw [l.2.2.2.1, w.2.2.2.1, if_neg (by omega), if_neg (by omega), if_neg (by omega)]; show (0 : Int) ≤ 0 ∧ (0 : Int) ≤ 9; omega
      · subst h; rw [l.2.2.2.2.1, w.2.2.2.2.1, if_neg (by omega), if_neg (by omega), if_neg (by omega)]; show (0 : Int) ≤ 0 ∧ (0 : Int) ≤ M; omega
      · subst h; rw [l.2.2.2.2.2.1, w.2.2.2.2.2.1, if_neg (by omega), if_neg (by omega), if_pos (by omega)]; show (-1 : Int) ≤ -1 ∧ (-1 : Int) ≤ 9; omega
      · subst h; rw [l.2.2.2.2.2.2, w.2.2.2.2.2.2, if_neg (by omega), if_neg (by omega), if_neg (by omega)]; show (0 : Int) ≤ 0 ∧ (0 : Int) ≤ M; omega
    · rw [if_neg y2]; exact hI.2.2 y
theorem newL_e {s : Row} {a b : Int} : newL s a b = up (up (up (up s (99 + 3 * (cL s : Int) + 0).toNat a) (99 + 3 * (cL s : Int) + 1).toNat b) (99 + 3 * (cL s : Int) + 2).toNat 0) 3 (s 3 + 1) := by
  funext y
  simp only [newL, up]
  repeat' split
  all_goals (first | rfl | omega)
theorem newL_RI {M : Int} {s : Row} (hI : RI M s) {a b : Int} (h1 : s 3 < 4) (ha : 0 ≤ a ∧ a ≤ 9) (hb : 0 ≤ b ∧ b ≤ 48) : RI M (newL s a b) := by
  have gc := hI.c
  have gs := hI.s
  have hM := hI.1
  rw [newL_e]
  exact (((hI.sl0 (m := cL s) (by omega) ha).sl1 (m := cL s) (by omega) hb).sl2 (m := cL s) (by omega) (by omega)).ss3 (by omega)
theorem newL_WI {M : Int} {s : Row} (hI : RI M s) (h : WI s) {a b : Int} : WI (newL s a b) := by
  have e : ∀ y, y < 99 → y ≠ 3 → newL s a b y = s y := fun y h1 h2 => by
    show (if _ then _ else _) = _
    rw [if_neg (by omega), if_neg (by omega), if_neg (by omega), if_neg (by omega)]
  exact WI_same hI h (e 1 (by decide) (by decide)) (e 2 (by decide) (by decide)) (fun i p q => ⟨e _ (by omega) (by omega), e _ (by omega) (by omega), e _ (by omega) (by omega)⟩) (fun k hk => ⟨e _ (by omega) (by omega), e _ (by omega) (by omega)⟩)
theorem takeL_at {s : Row} {q y : Nat} (h : y < 99 ∧ y ≠ 3) : takeL s q y = s y := by
  show (if _ then _ else _) = _
  rw [if_neg (by omega), if_neg (by omega), if_neg (by omega)]
theorem takeL_WI {M : Int} {s : Row} (hI : RI M s) (h : WI s) {q : Nat} : WI (takeL s q) :=
  WI_same hI h (takeL_at (by decide)) (takeL_at (by decide)) (fun i p r => ⟨takeL_at (by omega), takeL_at (by omega), takeL_at (by omega)⟩) (fun k hk => ⟨takeL_at (by omega), takeL_at (by omega)⟩)
theorem sendR_RI {M : Int} {s : Row} (hI : RI M s) {a : Nat} (ha : a < 3) {b : Int} (hb : 0 ≤ b ∧ b ≤ 9) (hM : M + 1 ≤ 100000000) : RI (M + 1) (sendR s a b) := by
  have gc := hI.c
  have gs := hI.s
  have gb := hI.b a (by omega)
  have hll := lst_lt hI (ableS s) 2
  have h1 := sendUp_RI hI (x := crw s a) (b := a) (cox := lst s (ableS s) 2) (by omega) hM (cM s) gc.1.2
  have h4 : sendUp s (crw s a) a (lst s (ableS s) 2) (cM s) 4 = s 4 := sendUp_at _ _ (fun k hk => by omega)
  have e : (78 + 7 * (a : Int)).toNat = 78 + 7 * a := by omega
  unfold sendR
  try simp only []
  rw [e, show 78 + 7 * a + 2 = (78 + 7 * (a : Int) + 2).toNat by omega, show 78 + 7 * a + 3 = (78 + 7 * (a : Int) + 3).toNat by omega, show 78 + 7 * a + 5 = (78 + 7 * (a : Int) + 5).toNat by omega, show 78 + 7 * a + 6 = (78 + 7 * (a : Int) + 6).toNat by omega, h4]
  refine RI.ss4 (RI.sb6 (RI.sb5 (RI.sb3 (RI.sb2 h1 (by omega) (by omega)) (by omega) hb) (by omega) (by omega)) (by omega) ?_) (by omega)
  rw [sendUp_B gc.1.2 (by omega) (by decide)]; omega
theorem whyN_out {s : Row} {b : Int} (h : ¬ 0 < whyN s b) : sB s b 2 ≠ 1 := fun q => by
  unfold whyN at h; rw [if_pos q] at h; omega
theorem ad_keep {M : Int} {s : Row} (hI : RI M s) (h : WI s) (hM : M + 3000 ≤ 100000000) {d : Nat} (hd : d ≤ 8) {a b : Int} (hj : (jd d s a b).1 = 0) : RI (M + 3000) (ad d s a b).2 ∧ WI (ad d s a b).2 := by
  have gc := hI.c
  have gs := hI.s
  obtain h9 | h9 | h9 | h9 | h9 | h9 | h9 | h9 | h9 : d = 0 ∨ d = 1 ∨ d = 2 ∨ d = 3 ∨ d = 4 ∨ d = 5 ∨ d = 6 ∨ d = 7 ∨ d = 8 := by omega
  all_goals subst h9
  · have hq := jd0_ok hj
    exact ⟨(newM_RI hI (by omega) hq.1).le (by omega) hM, WI_newM hI h (by omega)⟩
  · have hq := jd1_ok hj
    obtain ⟨k, rfl⟩ := Int.eq_ofNat_of_zero_le hq.1.1
    refine ⟨(hI.sm1 (m := k) (by omega) (by decide)).le (by omega) hM, ?_⟩
    show WI (up s (8 + 7 * (k : Int) + 1).toNat 2)
    rw [tM1]
    exact WI_leave hI h (by omega) hq.2.2
  · have hq := jd2_ok hj
    have gm := hI.m a (by omega)
    obtain ⟨k, rfl⟩ := Int.eq_ofNat_of_zero_le hq.1.1
    have e : (8 + 7 * (k : Int)).toNat = (8 + 7 * (k : Int) + 0).toNat := by omega
    refine ⟨?_, ?_⟩
    · show RI _ (up s (8 + 7 * (k : Int)).toNat (sM s k 0 + 1))
      rw [e]
      exact (hI.sm0 (m := k) (by omega) (by omega)).le (by omega) hM
    · exact WI_up hI h (by omega)
  · have hq := jd3_ok hj
    exact ⟨(newB_RI hI (by omega) hq.1.1 (by omega)).le (by omega) hM, WI_newB hI h (by omega) hq.1.2.1⟩
  · have hq := jd4_ok hj
    obtain ⟨k, rfl⟩ := Int.eq_ofNat_of_zero_le hq.1.1
    have hs2 := h.2.1 k (by omega)
    exact ⟨(sendR_RI hI (by omega) (by omega) (by omega)).le (by omega) hM, WI_send hI h (by omega) (whyN_out hq.2.2) (crOk_of hI (by omega) hs2 (whyN_0 hq.2.2))⟩
  · have hq := jd5_ok hj
    exact ⟨(newL_RI hI (by omega) (by omega) (by omega)).le (by omega) hM, newL_WI hI h⟩
  · have hq := jd6_ok hj
    exact ⟨(takeL_RI hI (by omega)).le (by omega) hM, takeL_WI hI h⟩
  · have hq := jd7_ok hj
    exact ⟨(hI.ss7 hq.1).le (by omega) hM, WI_up hI h (by decide)⟩
  · have hq := jd8_ok hj
    exact ⟨(hoursUp_RI hI a.toNat (by omega)).le (by omega) hM, WI_hours hI h a.toNat (by omega)⟩
