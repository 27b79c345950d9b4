/-! what holds of every station's row: members with their boats, boats with their coxswains -/
theorem sM_up {s : Row} {y : Nat} {v i w : Int} (h : (8 + 7 * i + w).toNat ≠ y) : sM (up s y v) i w = sM s i w := up_ne _ _ h
theorem sB_up {s : Row} {y : Nat} {v i w : Int} (h : (78 + 7 * i + w).toNat ≠ y) : sB (up s y v) i w = sB s i w := up_ne _ _ h
theorem sL_up {s : Row} {y : Nat} {v i w : Int} (h : (99 + 3 * i + w).toNat ≠ y) : sL (up s y v) i w = sL s i w := up_ne _ _ h
theorem sM_ue {s : Row} {y : Nat} {v i w : Int} (h : (8 + 7 * i + w).toNat = y) : sM (up s y v) i w = v := by subst h; exact up_same _ _ _
theorem sB_ue {s : Row} {y : Nat} {v i w : Int} (h : (78 + 7 * i + w).toNat = y) : sB (up s y v) i w = v := by subst h; exact up_same _ _ _
def cntUp (s : Row) (b : Int) : Nat → Nat
  | 0 => 0
  | n + 1 => cntUp s b n + (if sM s n 1 = 1 ∧ sM s n 3 = b then 1 else 0)
def WIm (s : Row) : Prop := ∀ k : Nat, k < cM s → (sM s k 1 = 1 → 0 ≤ sM s k 3 ∧ sM s k 3 < s 2 ∧ sB s (sM s k 3) 2 = 1) ∧ (sM s k 1 ≠ 1 → sM s k 3 = -1)
def WIb (s : Row) : Prop := ∀ b : Nat, b < cB s → (sB s b 2 = 1 → 0 ≤ sB s b 5 ∧ sB s b 5 < s 1 ∧ sM s (sB s b 5) 1 = 1 ∧ sM s (sB s b 5) 3 = b) ∧ (sB s b 2 ≠ 1 → sB s b 5 = -1) ∧ cntUp s b (cM s) ≤ 6
def WI (s : Row) : Prop := W1 s ∧ W2 s ∧ WIm s ∧ WIb s
theorem cntUp_le {s t : Row} {b : Int} : ∀ n, (∀ k : Nat, k < n → sM t k 1 = 1 → sM t k 3 = b → sM s k 1 = 1 ∧ sM s k 3 = b) → cntUp t b n ≤ cntUp s b n := by
  intro n
  induction n with
  | zero => intro _; exact Nat.le_refl _
  | succ n ih =>
    intro h
    have := ih (fun k hk => h k (by omega))
    unfold cntUp
    by_cases q : sM t n 1 = 1 ∧ sM t n 3 = b
    · rw [if_pos q, if_pos (h n (by omega) q.1 q.2)]; omega
    · rw [if_neg q]; omega
theorem WI_down {M : Int} {s t : Row} (hI : RI M s) (h : WI s) (h1 : t 1 = s 1) (h2 : t 2 = s 2) (hW : W1 t) (hs : ∀ i : Int, 0 ≤ i → i < 3 → sB t i 1 = sB s i 1)
    (hm : ∀ k : Nat, k < cM s → (sM t k 1 = sM s k 1 ∧ sM t k 3 = sM s k 3 ∧ (sM s k 1 = 1 → sB t (sM s k 3) 2 = sB s (sM s k 3) 2)) ∨ (sM t k 1 ≠ 1 ∧ sM t k 3 = -1 ∧ (sM s k 1 = 1 → sB t (sM s k 3) 2 = 0)))
    (hb : ∀ b : Nat, b < cB s → (sB t b 2 = sB s b 2 ∧ sB t b 5 = sB s b 5) ∨ (sB t b 2 = 0 ∧ sB t b 5 = -1)) : WI t := by
  obtain ⟨-, w2, wm, wb⟩ := h
  have ec : cM t = cM s := congrArg Int.toNat h1
  have eb : cB t = cB s := congrArg Int.toNat h2
  have gc := hI.c
  have gs := hI.s
  refine ⟨hW, fun b q => ?_, fun k hk => ?_, fun b hk => ?_⟩
  · rw [hs b (by omega) (by omega)]; exact w2 b (by omega)
  · rw [ec] at hk
    obtain ⟨a1, a2⟩ := wm k hk
    rcases hm k hk with ⟨q1, q2, q3⟩ | ⟨q1, q2, q3⟩
    · rw [q1, q2, h2]
      refine ⟨fun r => ?_, a2⟩
      obtain ⟨b1, b2, b3⟩ := a1 r
      exact ⟨b1, b2, by rw [q3 r]; exact b3⟩
    · exact ⟨fun r => absurd r q1, fun _ => q2⟩
  · rw [eb] at hk
    obtain ⟨a1, a2, a3⟩ := wb b hk
    refine ⟨fun r => ?_, fun r => ?_, ?_⟩
    · rcases hb b hk with ⟨q1, q2⟩ | ⟨q1, q2⟩
      · rw [q1] at r
        obtain ⟨b1, b2, b3, b4⟩ := a1 r
        rw [q2, h1]
        refine ⟨b1, b2, ?_⟩
        obtain ⟨k, hk2⟩ := Int.eq_ofNat_of_zero_le b1
        rw [hk2] at b2 b3 b4 ⊢
        rcases hm k (by omega) with ⟨c1, c2, c3⟩ | ⟨c1, c2, c3⟩
        · rw [c1, c2]; exact ⟨b3, b4⟩
        · have := c3 b3
          rw [b4, q1, r] at this
          exact absurd this (by decide)
      · rw [q1] at r; exact absurd r (by decide)
    · rcases hb b hk with ⟨q1, q2⟩ | ⟨q1, q2⟩
      · rw [q2]; exact a2 (by rw [← q1]; exact r)
      · exact q2
    · rw [ec]
      refine Nat.le_trans (cntUp_le _ (fun k hk r1 r2 => ?_)) a3
      rcases hm k hk with ⟨q1, q2, -⟩ | ⟨q1, -, -⟩
      · rw [← q1, ← q2]; exact ⟨r1, r2⟩
      · exact absurd r1 q1
theorem WI_same {M : Int} {s t : Row} (hI : RI M s) (h : WI s) (h1 : t 1 = s 1) (h2 : t 2 = s 2) (hs : ∀ i : Int, 0 ≤ i → i < 3 → sB t i 1 = sB s i 1 ∧ sB t i 2 = sB s i 2 ∧ sB t i 5 = sB s i 5)
    (hm : ∀ k : Nat, k < 10 → sM t k 1 = sM s k 1 ∧ sM t k 3 = sM s k 3) : WI t := by
  have gc := hI.c
  refine WI_down hI h h1 h2 (fun k hk => by rw [(hm k hk).1, (hm k hk).2]; exact h.1 k hk) (fun i a b => (hs i a b).1) (fun k hk => Or.inl ⟨(hm k (by omega)).1, (hm k (by omega)).2, fun r => ?_⟩) (fun b hk => Or.inl (hs b (by omega) (by omega)).2)
  obtain ⟨b1, b2, -⟩ := (h.2.2.1 k hk).1 r
  have gs := hI.s
  exact (hs _ b1 (by omega)).2.1
/-- a change elsewhere -/
theorem WI_up {M : Int} {s : Row} (hI : RI M s) (h : WI s) {y : Nat} {v : Int} (hy : y ≠ 1 ∧ y ≠ 2 ∧ (y < 8 ∨ 99 ≤ y ∨ (y < 78 ∧ (y - 8) % 7 ≠ 1 ∧ (y - 8) % 7 ≠ 3) ∨ (78 ≤ y ∧ (y - 78) % 7 ≠ 1 ∧ (y - 78) % 7 ≠ 2 ∧ (y - 78) % 7 ≠ 5))) : WI (up s y v) := by
  refine WI_same hI h (up_ne _ _ (by omega)) (up_ne _ _ (by omega)) (fun i a b => ⟨sB_up (by omega), sB_up (by omega), sB_up (by omega)⟩) (fun k hk => ⟨sM_up (by omega), sM_up (by omega)⟩)
theorem WI_leave {M : Int} {s : Row} (hI : RI M s) (h : WI s) {a : Nat} (ha : a < cM s) (h0 : sM s a 1 ≠ 1) : WI (up s (8 + 7 * a + 1) 2) := by
  have gc := hI.c
  refine WI_down hI h (up_ne _ _ (by omega)) (up_ne _ _ (by omega)) (fun k hk => ?_) (fun i p q => sB_up (by omega)) (fun k hk => ?_) (fun b hk => Or.inl ⟨sB_up (by omega), sB_up (by omega)⟩)
  · by_cases e : k = a
    · subst e; rw [sM_ue (by omega)]; intro q; exact absurd q (by decide)
    · rw [sM_up (by omega), sM_up (by omega)]; exact h.1 k hk
  · by_cases e : k = a
    · subst e
      right
      rw [sM_ue (by omega), sM_up (by omega)]
      exact ⟨by decide, (h.2.2.1 k hk).2 h0, fun q => absurd q h0⟩
    · left
      rw [sM_up (by omega), sM_up (by omega)]
      refine ⟨rfl, rfl, fun r => ?_⟩
      obtain ⟨b1, b2, -⟩ := (h.2.2.1 k hk).1 r
      exact sB_up (by omega)
theorem cnt0 {s : Row} {b : Int} : ∀ n, (∀ k : Nat, k < n → ¬ (sM s k 1 = 1 ∧ sM s k 3 = b)) → cntUp s b n = 0 := by
  intro n
  induction n with
  | zero => intro _; rfl
  | succ n ih =>
    intro h
    unfold cntUp
    rw [ih (fun k hk => h k (by omega)), if_neg (h n (by omega))]
theorem cnt_eq {s t : Row} {b : Int} : ∀ n, (∀ k : Nat, k < n → sM t k 1 = sM s k 1 ∧ sM t k 3 = sM s k 3) → cntUp t b n = cntUp s b n := by
  intro n
  induction n with
  | zero => intro _; rfl
  | succ n ih =>
    intro h
    unfold cntUp
    rw [ih (fun k hk => h k (by omega)), (h n (by omega)).1, (h n (by omega)).2]
theorem newM_v {M : Int} {s : Row} (hI : RI M s) {v : Int} (h1 : s 1 < 10) : newM s v 1 = s 1 + 1 ∧ newM s v 2 = s 2 ∧ (∀ k : Nat, k ≠ cM s → ∀ w : Nat, w < 7 → sM (newM s v) k w = sM s k w) ∧
    sM (newM s v) (cM s) 0 = v ∧ sM (newM s v) (cM s) 1 = 0 ∧ sM (newM s v) (cM s) 2 = 0 ∧ sM (newM s v) (cM s) 3 = -1 ∧ sM (newM s v) (cM s) 4 = 0 ∧ sM (newM s v) (cM s) 5 = 0 ∧ sM (newM s v) (cM s) 6 = 0 ∧ (∀ y, 78 ≤ y → newM s v y = s y) ∧ (∀ y, y < 8 → y ≠ 1 → newM s v y = s y) := by
  have gc := hI.c
  have gs := hI.s
  unfold newM
  refine ⟨if_pos rfl, ?_, fun k hk w hw => ?_, ?_, ?_, ?_, ?_, ?_, ?_, ?_, fun y hy => ?_, fun y hy h => ?_⟩
  · show (if _ then _ else _) = _
    rw [if_neg (by omega), if_neg (by omega)]
  · rw [sM_n, sM_n]
    show (if _ then _ else _) = _
    rw [if_neg (by omega), if_neg (by omega)]
  · rw [eM0]; show (if _ then _ else _) = _
    rw [if_neg (by omega), if_pos (by omega), if_pos (by omega)]
  · rw [eM1]; show (if _ then _ else _) = _
    rw [if_neg (by omega), if_pos (by omega), if_neg (by omega), if_neg (by omega)]
  · rw [eM2]; show (if _ then _ else _) = _
    rw [if_neg (by omega), if_pos (by omega), if_neg (by omega), if_neg (by omega)]
  · rw [eM3]; show (if _ then _ else _) = _
    rw [if_neg (by omega), if_pos (by omega), if_neg (by omega), if_pos (by omega)]
  · rw [eM4]; show (if _ then _ else _) = _
    rw [if_neg (by omega), if_pos (by omega), if_neg (by omega), if_neg (by omega)]
  · rw [eM5]; show (if _ then _ else _) = _
    rw [if_neg (by omega), if_pos (by omega), if_neg (by omega), if_neg (by omega)]
  · rw [eM6]; show (if _ then _ else _) = _
    rw [if_neg (by omega), if_pos (by omega), if_neg (by omega), if_neg (by omega)]
  · show (if _ then _ else _) = _
    rw [if_neg (by omega), if_neg (by omega)]
  · show (if _ then _ else _) = _
    rw [if_neg (by omega), if_neg (by omega)]
theorem newM_B {M : Int} {s : Row} (hI : RI M s) {v : Int} (h1 : s 1 < 10) {i w : Int} (hi : 0 ≤ i) (hw : 0 ≤ w) : sB (newM s v) i w = sB s i w := (newM_v hI (v := v) h1).2.2.2.2.2.2.2.2.2.2.1 _ (by omega)
theorem WI_newM {M : Int} {s : Row} (hI : RI M s) (h : WI s) {v : Int} (h1 : s 1 < 10) : WI (newM s v) := by
  obtain ⟨e1, e2, eo, e30, e31, e32, e33, -⟩ := newM_v hI (v := v) h1
  have gc := hI.c
  have gs := hI.s
  have ec : cM (newM s v) = cM s + 1 := by unfold cM; rw [e1]; omega
  have eb : cB (newM s v) = cB s := congrArg Int.toNat e2
  have o1 : ∀ k : Nat, k ≠ cM s → sM (newM s v) k 1 = sM s k 1 := fun k hk => eo k hk 1 (by decide)
  have o3 : ∀ k : Nat, k ≠ cM s → sM (newM s v) k 3 = sM s k 3 := fun k hk => eo k hk 3 (by decide)
  obtain ⟨w1, w2, wm, wb⟩ := h
  refine ⟨fun k hk => ?_, fun b hb => ?_, fun k hk => ?_, fun b hk => ?_⟩
  · by_cases e : k = cM s
    · subst e; rw [e31]; intro q; exact absurd q (by decide)
    · rw [o1 k e, o3 k e]; exact w1 k hk
  · rw [newM_B hI h1 (by omega) (by decide)]; exact w2 b (by omega)
  · by_cases e : k = cM s
    · subst e; rw [e31, e33]; exact ⟨fun q => absurd q (by decide), fun _ => rfl⟩
    · rw [o1 k e, o3 k e, e2]
      obtain ⟨a1, a2⟩ := wm k (by omega)
      refine ⟨fun q => ?_, a2⟩
      obtain ⟨b1, b2, b3⟩ := a1 q
      exact ⟨b1, b2, by rw [newM_B hI h1 b1 (by decide)]; exact b3⟩
  · rw [eb] at hk
    obtain ⟨a1, a2, a3⟩ := wb b hk
    rw [newM_B hI h1 (by omega) (by decide), newM_B hI h1 (by omega) (by decide), e1, ec]
    refine ⟨fun q => ?_, a2, ?_⟩
    · obtain ⟨b1, b2, b3, b4⟩ := a1 q
      refine ⟨b1, by omega, ?_⟩
      obtain ⟨k, hk2⟩ := Int.eq_ofNat_of_zero_le b1
      rw [hk2] at b2 b3 b4 ⊢
      rw [o1 k (by omega), o3 k (by omega)]; exact ⟨b3, b4⟩
    · show cntUp (newM s v) b (cM s) + (if _ then 1 else 0) ≤ 6
      rw [if_neg (fun q => by rw [e31] at q; exact absurd q.1 (by decide)), cnt_eq (s := s) _ (fun k hk => ⟨o1 k (by omega), o3 k (by omega)⟩)]
      exact a3
theorem newB_v {M : Int} {s : Row} (hI : RI M s) {v u : Int} (h1 : s 2 < 3) : newB s v u 2 = s 2 + 1 ∧ (∀ k : Nat, k ≠ cB s → ∀ w : Nat, w < 7 → sB (newB s v u) k w = sB s k w) ∧
    sB (newB s v u) (cB s) 0 = v ∧ sB (newB s v u) (cB s) 1 = u ∧ sB (newB s v u) (cB s) 2 = 0 ∧ sB (newB s v u) (cB s) 3 = 0 ∧ sB (newB s v u) (cB s) 4 = 0 ∧ sB (newB s v u) (cB s) 5 = -1 ∧ sB (newB s v u) (cB s) 6 = 0 ∧ (∀ y, y < 78 → y ≠ 2 → newB s v u y = s y) ∧ (∀ y, 99 ≤ y → newB s v u y = s y) := by
  have gc := hI.c
  have gs := hI.s
  unfold newB
  refine ⟨if_pos rfl, fun k hk w hw => ?_, ?_, ?_, ?_, ?_, ?_, ?_, ?_, fun y hy h => ?_, fun y hy => ?_⟩
  · rw [sB_n, sB_n]
    show (if _ then _ else _) = _
    rw [if_neg (by omega), if_neg (by omega)]
  · rw [eB0]; show (if _ then _ else _) = _
    rw [if_neg (by omega), if_pos (by omega), if_pos (by omega)]
  · rw [eB1]; show (if _ then _ else _) = _
    rw [if_neg (by omega), if_pos (by omega), if_neg (by omega), if_pos (by omega)]
  · rw [eB2]; show (if _ then _ else _) = _
    rw [if_neg (by omega), if_pos (by omega), if_neg (by omega), if_neg (by omega), if_neg (by omega)]
  · rw [eB3]; show (if _ then _ else _) = _
    rw [if_neg (by omega), if_pos (by omega), if_neg (by omega), if_neg (by omega), if_neg (by omega)]
  · rw [eB4]; show (if _ then _ else _) = _
    rw [if_neg (by omega), if_pos (by omega), if_neg (by omega), if_neg (by omega), if_neg (by omega)]
  · rw [eB5]; show (if _ then _ else _) = _
    rw [if_neg (by omega), if_pos (by omega), if_neg (by omega), if_neg (by omega), if_pos (by omega)]
  · rw [eB6]; show (if _ then _ else _) = _
    rw [if_neg (by omega), if_pos (by omega), if_neg (by omega), if_neg (by omega), if_neg (by omega)]
  · show (if _ then _ else _) = _
    rw [if_neg (by omega), if_neg (by omega)]
  · show (if _ then _ else _) = _
    rw [if_neg (by omega), if_neg (by omega)]
theorem newB_M {M : Int} {s : Row} (hI : RI M s) {v u : Int} (h1 : s 2 < 3) {i w : Int} (hi : 0 ≤ i ∧ i < 10) (hw : 0 ≤ w ∧ w < 7) : sM (newB s v u) i w = sM s i w := (newB_v hI (v := v) (u := u) h1).2.2.2.2.2.2.2.2.2.1 _ (by omega) (by omega)
theorem WI_newB {M : Int} {s : Row} (hI : RI M s) (h : WI s) {v u : Int} (h1 : s 2 < 3) (hu : 2 ≤ u) : WI (newB s v u) := by
  obtain ⟨e2, eo, -, f1, f2, -, -, f5, -, fl, -⟩ := newB_v hI (v := v) (u := u) h1
  have gc := hI.c
  have gs := hI.s
  have e1 : newB s v u 1 = s 1 := fl 1 (by decide) (by decide)
  have ec : cM (newB s v u) = cM s := congrArg Int.toNat e1
  have eb : cB (newB s v u) = cB s + 1 := by unfold cB; rw [e2]; omega
  have m1 : ∀ k : Nat, k < 10 → sM (newB s v u) k 1 = sM s k 1 := fun k hk => newB_M hI h1 (by omega) (by decide)
  have m3 : ∀ k : Nat, k < 10 → sM (newB s v u) k 3 = sM s k 3 := fun k hk => newB_M hI h1 (by omega) (by decide)
  have o1 : ∀ k : Nat, k ≠ cB s → sB (newB s v u) k 1 = sB s k 1 := fun k hk => eo k hk 1 (by decide)
  have o2 : ∀ k : Nat, k ≠ cB s → sB (newB s v u) k 2 = sB s k 2 := fun k hk => eo k hk 2 (by decide)
  have o5 : ∀ k : Nat, k ≠ cB s → sB (newB s v u) k 5 = sB s k 5 := fun k hk => eo k hk 5 (by decide)
  obtain ⟨w1, w2, wm, wb⟩ := h
  refine ⟨fun k hk => ?_, fun b hb => ?_, fun k hk => ?_, fun b hk => ?_⟩
  · rw [m1 k hk, m3 k hk]; exact w1 k hk
  · by_cases e : b = cB s
    · subst e; rw [f1]; exact hu
    · rw [o1 b e]; exact w2 b (by omega)
  · rw [ec] at hk
    rw [m1 k (by omega), m3 k (by omega), e2]
    obtain ⟨a1, a2⟩ := wm k hk
    refine ⟨fun q => ?_, a2⟩
    obtain ⟨b1, b2, b3⟩ := a1 q
    refine ⟨b1, by omega, ?_⟩
    obtain ⟨j, hj⟩ := Int.eq_ofNat_of_zero_le b1
    rw [hj] at b2 b3 ⊢
    rw [o2 j (by omega)]; exact b3
  · rw [eb] at hk
    rw [ec, e1, cnt_eq (s := s) _ (fun k hk => ⟨m1 k (by omega), m3 k (by omega)⟩)]
    by_cases e : b = cB s
    · subst e
      rw [f2, f5, cnt0 _ (fun k hk q => by have := (wm k hk).1 q.1; omega)]
      exact ⟨fun q => absurd q (by decide), fun _ => rfl, by decide⟩
    · obtain ⟨a1, a2, a3⟩ := wb b (by omega)
      rw [o2 b e, o5 b e]
      refine ⟨fun q => ?_, a2, a3⟩
      obtain ⟨b1, b2, b3, b4⟩ := a1 q
      refine ⟨b1, b2, ?_⟩
      obtain ⟨k, hk2⟩ := Int.eq_ofNat_of_zero_le b1
      rw [hk2] at b2 b3 b4 ⊢
      rw [m1 k (by omega), m3 k (by omega)]; exact ⟨b3, b4⟩
