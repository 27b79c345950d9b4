/-! the deeds keep what holds of the row -/
theorem sendUp_v {s : Row} {x : Nat} {b cox : Int} : ∀ n k : Nat, sM (sendUp s x b cox n) k 1 = (if k < n ∧ x / 2 ^ k % 2 = 1 then 1 else sM s k 1) ∧ sM (sendUp s x b cox n) k 3 = (if k < n ∧ x / 2 ^ k % 2 = 1 then b else sM s k 3) := by
  intro n
  induction n with
  | zero => intro k; rw [if_neg (by omega), if_neg (by omega)]; exact ⟨rfl, rfl⟩
  | succ n ih =>
    intro k
    obtain ⟨i1, i3⟩ := ih k
    unfold sendUp
    by_cases hb : x / 2 ^ n % 2 = 1
    · rw [if_pos hb]
      by_cases e : k = n
      · subst e
        rw [sM_up (by omega), sM_up (by omega), sM_up (by omega), sM_ue (by omega), sM_up (by omega), sM_up (by omega), sM_ue (by omega)]
        exact ⟨(if_pos ⟨by omega, hb⟩).symm, (if_pos ⟨by omega, hb⟩).symm⟩
      · rw [sM_up (by omega), sM_up (by omega), sM_up (by omega), sM_up (by omega), sM_up (by omega), sM_up (by omega), sM_up (by omega), sM_up (by omega), i1, i3]
        by_cases q : k < n ∧ x / 2 ^ k % 2 = 1
        · rw [if_pos q, if_pos q, if_pos ⟨by omega, q.2⟩, if_pos ⟨by omega, q.2⟩]; exact ⟨rfl, rfl⟩
        · rw [if_neg q, if_neg q, if_neg (fun r => q ⟨by omega, r.2⟩), if_neg (fun r => q ⟨by omega, r.2⟩)]; exact ⟨rfl, rfl⟩
    · rw [if_neg hb, i1, i3]
      by_cases q : k < n ∧ x / 2 ^ k % 2 = 1
      · rw [if_pos q, if_pos q, if_pos ⟨by omega, q.2⟩, if_pos ⟨by omega, q.2⟩]; exact ⟨rfl, rfl⟩
      · have q2 : ¬ (k < n + 1 ∧ x / 2 ^ k % 2 = 1) := by
          rintro ⟨r1, r2⟩
          by_cases e : k = n
          · subst e; exact hb r2
          · exact q ⟨by omega, r2⟩
        rw [if_neg q, if_neg q, if_neg q2, if_neg q2]; exact ⟨rfl, rfl⟩
theorem sendUp_B {s : Row} {x : Nat} {b cox : Int} {n : Nat} (hn : n ≤ 10) {i w : Int} (hi : 0 ≤ i) (hw : 0 ≤ w) : sB (sendUp s x b cox n) i w = sB s i w := sendUp_at n _ (fun k hk => by omega)
theorem cnt_bits {s : Row} {b : Int} {x : Nat} : ∀ n, (∀ k : Nat, k < n → sM s k 1 = 1 → sM s k 3 = b → x / 2 ^ k % 2 = 1) → cntUp s b n ≤ bitsUp x n := by
  intro n
  induction n with
  | zero => intro _; exact Nat.le_refl _
  | succ n ih =>
    intro h
    have := ih (fun k hk => h k (by omega))
    unfold cntUp bitsUp
    have m := Nat.mod_lt (x / 2 ^ n) (show 0 < 2 by decide)
    by_cases q : sM s n 1 = 1 ∧ sM s n 3 = b
    · have := h n (by omega) q.1 q.2
      rw [if_pos q]; omega
    · rw [if_neg q]; omega
theorem bitsUp_mono {x : Nat} {m : Nat} : ∀ n, m ≤ n → bitsUp x m ≤ bitsUp x n := by
  intro n
  induction n with
  | zero => intro h; have : m = 0 := by omega
            subst this; exact Nat.le_refl _
  | succ n ih =>
    intro h
    by_cases e : m = n + 1
    · subst e; exact Nat.le_refl _
    · have := ih (by omega)
      show bitsUp x m ≤ bitsUp x n + _
      omega
theorem sendR_B {s : Row} {a : Nat} {h : Int} (hc : cM s ≤ 10) : sB (sendR s a h) a 1 = sB s a 1 ∧ sB (sendR s a h) a 2 = 1 ∧ sB (sendR s a h) a 5 = lst s (ableS s) 2 ∧ sB (sendR s a h) a 0 = sB s a 0 ∧ sB (sendR s a h) a 3 = h ∧ sB (sendR s a h) a 4 = sB s a 4 ∧ sB (sendR s a h) a 6 = sB s a 6 + 1 ∧ ∀ i : Int, 0 ≤ i → i ≠ a → ∀ w : Int, 0 ≤ w → w < 7 → sB (sendR s a h) i w = sB s i w := by
  unfold sendR
  try simp only []
  have e : (78 + 7 * (a : Int)).toNat = 78 + 7 * a := by omega
  rw [e]
  refine ⟨?_, ?_, ?_, ?_, ?_, ?_, ?_, fun i h0 hi w hw hw7 => ?_⟩
  · rw [sB_up (by omega), sB_up (by omega), sB_up (by omega), sB_up (by omega), sB_up (by omega), sendUp_B hc (by omega) (by omega)]
  · rw [sB_up (by omega), sB_up (by omega), sB_up (by omega), sB_up (by omega), sB_ue (by omega)]
  · rw [sB_up (by omega), sB_up (by omega), sB_ue (by omega)]
  · rw [sB_up (by omega), sB_up (by omega), sB_up (by omega), sB_up (by omega), sB_up (by omega), sendUp_B hc (by omega) (by omega)]
  · rw [sB_up (by omega), sB_up (by omega), sB_up (by omega), sB_ue (by omega)]
  · rw [sB_up (by omega), sB_up (by omega), sB_up (by omega), sB_up (by omega), sB_up (by omega), sendUp_B hc (by omega) (by omega)]
  · rw [sB_up (by omega), sB_ue (by omega), sendUp_B hc (by omega) (by omega)]
  · rw [sB_up (by omega), sB_up (by omega), sB_up (by omega), sB_up (by omega), sB_up (by omega), sendUp_B hc (by omega) (by omega)]
theorem sendR_at {s : Row} {a : Nat} {h : Int} {y : Nat} (hy : y < 78 ∧ y ≠ 4 ∨ 99 ≤ y) (ha : a < 3) : sendR s a h y = sendUp s (crw s a) a (lst s (ableS s) 2) (cM s) y := by
  unfold sendR
  try simp only []
  rw [up_ne _ _ (by omega), up_ne _ _ (by omega), up_ne _ _ (by omega), up_ne _ _ (by omega), up_ne _ _ (by omega)]
theorem sendR_M {s : Row} {a : Nat} {h : Int} (ha : a < 3) {k : Nat} (hk : k < 10) {w : Nat} (hw : w < 7) : sM (sendR s a h) k w = sM (sendUp s (crw s a) a (lst s (ableS s) 2) (cM s)) k w := by
  rw [sM_n, sM_n]; exact sendR_at (by omega) ha
theorem sendR_low {s : Row} {a : Nat} {h : Int} (ha : a < 3) {y : Nat} (hy : y < 8 ∧ y ≠ 4 ∨ 99 ≤ y) (hc : cM s ≤ 10) : sendR s a h y = s y := by
  rw [sendR_at (by omega) ha]; exact sendUp_at _ _ (fun k hk => by omega)
theorem WI_send {M : Int} {s : Row} (hI : RI M s) (h : WI s) {a : Nat} {hr : Int} (ha : a < cB s) (h0 : sB s a 2 ≠ 1) (hk : crOk s a) : WI (sendR s a hr) := by
  have gc := hI.c
  have gs := hI.s
  obtain ⟨w1, w2, wm, wb⟩ := h
  have hs := w2 a (by omega)
  have ga := hI.b a (by omega)
  have hll := lst_lt hI (ableS s) 2
  have hl0 := hk.1
  obtain ⟨l1, l2, l3⟩ := lst_bit hl0
  have ha3 : a < 3 := by omega
  obtain ⟨b1, b2, b5, -, -, -, -, bo⟩ := sendR_B (s := s) (a := a) (h := hr) gc.1.2
  have e1 : sendR s a hr 1 = s 1 := sendR_low ha3 (by omega) gc.1.2
  have e2 : sendR s a hr 2 = s 2 := sendR_low ha3 (by omega) gc.1.2
  have ec : cM (sendR s a hr) = cM s := congrArg Int.toNat e1
  have eb : cB (sendR s a hr) = cB s := congrArg Int.toNat e2
  have m1 : ∀ k : Nat, k < 10 → sM (sendR s a hr) k 1 = if k < cM s ∧ crw s a / 2 ^ k % 2 = 1 then 1 else sM s k 1 := fun k hk2 => (sendR_M ha3 hk2 (w := 1) (by decide)).trans (sendUp_v _ k).1
  have m3 : ∀ k : Nat, k < 10 → sM (sendR s a hr) k 3 = if k < cM s ∧ crw s a / 2 ^ k % 2 = 1 then (a : Int) else sM s k 3 := fun k hk2 => (sendR_M ha3 hk2 (w := 3) (by decide)).trans (sendUp_v _ k).2
  refine ⟨fun k hk2 => ?_, fun b hb => ?_, fun k hk2 => ?_, fun b hb => ?_⟩
  · rw [m1 k hk2, m3 k hk2]
    by_cases q : k < cM s ∧ crw s a / 2 ^ k % 2 = 1
    · rw [if_pos q, if_pos q]; intro _; omega
    · rw [if_neg q, if_neg q]; exact w1 k hk2
  · by_cases e : b = a
    · subst e; rw [b1]; exact hs
    · rw [bo b (by omega) (by omega) 1 (by decide) (by decide)]; exact w2 b (by omega)
  · rw [ec] at hk2
    rw [m1 k (by omega), m3 k (by omega), e2]
    by_cases q : k < cM s ∧ crw s a / 2 ^ k % 2 = 1
    · rw [if_pos q, if_pos q]
      exact ⟨fun _ => ⟨by omega, by omega, b2⟩, fun r => absurd rfl r⟩
    · rw [if_neg q, if_neg q]
      obtain ⟨a1, a2⟩ := wm k hk2
      refine ⟨fun r => ?_, a2⟩
      obtain ⟨c1, c2, c3⟩ := a1 r
      refine ⟨c1, c2, ?_⟩
      by_cases e : sM s k 3 = a
      · rw [e]; exact b2
      · rw [bo _ c1 e 2 (by decide) (by decide)]; exact c3
  · rw [eb] at hb
    rw [ec, e1]
    by_cases e : b = a
    · subst e
      rw [b2, b5]
      refine ⟨fun _ => ⟨hl0, by omega, ?_⟩, fun r => absurd rfl r, ?_⟩
      · obtain ⟨j, hj⟩ := Int.eq_ofNat_of_zero_le hl0
        rw [hj, Int.toNat_natCast] at l1
        have hcx := crw_cox hI hs hk
        rw [hj, Int.toNat_natCast] at hcx
        rw [hj, m1 j (by omega), m3 j (by omega), if_pos ⟨l1, hcx⟩, if_pos ⟨l1, hcx⟩]
        exact ⟨rfl, rfl⟩
      · have hx := crw_bits hI hs hk
        have h1 : cntUp (sendR s b hr) b (cM s) ≤ bitsUp (crw s b) (cM s) := by
          refine cnt_bits _ (fun k hk2 r1 r2 => ?_)
          rw [m1 k (by omega)] at r1
          rw [m3 k (by omega)] at r2
          refine Decidable.byContradiction fun q => ?_
          have q2 : ¬ (k < cM s ∧ crw s b / 2 ^ k % 2 = 1) := fun r => q r.2
          rw [if_neg q2] at r1 r2
          have := ((wm k hk2).1 r1).2.2
          rw [r2] at this
          exact h0 this
        have h2 := bitsUp_mono (x := crw s b) (m := cM s) 10 gc.1.2
        have h3 : bitsN (crw s b) = bitsUp (crw s b) 10 := rfl
        omega
    · obtain ⟨a1, a2, a3⟩ := wb b hb
      rw [bo b (by omega) (by omega) 2 (by decide) (by decide), bo b (by omega) (by omega) 5 (by decide) (by decide)]
      refine ⟨fun r => ?_, a2, ?_⟩
      · obtain ⟨c1, c2, c3, c4⟩ := a1 r
        refine ⟨c1, c2, ?_⟩
        obtain ⟨k, hk2⟩ := Int.eq_ofNat_of_zero_le c1
        rw [hk2] at c2 c3 c4 ⊢
        have q2 : ¬ (k < cM s ∧ crw s a / 2 ^ k % 2 = 1) := fun r => by
          have := (crw_in hI hs hk r.2).2
          omega
        rw [m1 k (by omega), m3 k (by omega), if_neg q2, if_neg q2]
        exact ⟨c3, c4⟩
      · refine Nat.le_trans (cntUp_le _ (fun k hk2 r1 r2 => ?_)) a3
        rw [m1 k (by omega)] at r1
        rw [m3 k (by omega)] at r2
        by_cases q : k < cM s ∧ crw s a / 2 ^ k % 2 = 1
        · rw [if_pos q] at r2; omega
        · rw [if_neg q] at r1 r2; exact ⟨r1, r2⟩
theorem inUp_v {s : Row} {b : Int} : ∀ n k : Nat, sM (inUp s b n) k 1 = (if k < n ∧ sM s k 1 = 1 ∧ sM s k 3 = b then 0 else sM s k 1) ∧ sM (inUp s b n) k 3 = (if k < n ∧ sM s k 1 = 1 ∧ sM s k 3 = b then -1 else sM s k 3) := by
  intro n
  induction n with
  | zero => intro k; rw [if_neg (by omega), if_neg (by omega)]; exact ⟨rfl, rfl⟩
  | succ n ih =>
    intro k
    obtain ⟨i1, i3⟩ := ih k
    obtain ⟨n1, n3⟩ := ih n
    rw [if_neg (by omega)] at n1 n3
    unfold inUp
    rw [n1, n3]
    by_cases hb : sM s n 1 = 1 ∧ sM s n 3 = b
    · rw [if_pos hb]
      by_cases e : k = n
      · subst e
        rw [sM_up (by omega), sM_ue (by omega), sM_ue (by omega)]
        exact ⟨(if_pos ⟨by omega, hb⟩).symm, (if_pos ⟨by omega, hb⟩).symm⟩
      · rw [sM_up (by omega), sM_up (by omega), sM_up (by omega), sM_up (by omega), i1, i3]
        by_cases q : k < n ∧ sM s k 1 = 1 ∧ sM s k 3 = b
        · rw [if_pos q, if_pos q, if_pos ⟨by omega, q.2⟩, if_pos ⟨by omega, q.2⟩]; exact ⟨rfl, rfl⟩
        · rw [if_neg q, if_neg q, if_neg (fun r => q ⟨by omega, r.2⟩), if_neg (fun r => q ⟨by omega, r.2⟩)]; exact ⟨rfl, rfl⟩
    · rw [if_neg hb, i1, i3]
      by_cases q : k < n ∧ sM s k 1 = 1 ∧ sM s k 3 = b
      · rw [if_pos q, if_pos q, if_pos ⟨by omega, q.2⟩, if_pos ⟨by omega, q.2⟩]; exact ⟨rfl, rfl⟩
      · have q2 : ¬ (k < n + 1 ∧ sM s k 1 = 1 ∧ sM s k 3 = b) := by
          rintro ⟨r1, r2⟩
          by_cases e : k = n
          · subst e; exact hb r2
          · exact q ⟨by omega, r2⟩
        rw [if_neg q, if_neg q, if_neg q2, if_neg q2]; exact ⟨rfl, rfl⟩
theorem inUp_B {s : Row} {b : Int} {n : Nat} (hn : n ≤ 10) {i w : Int} (hi : 0 ≤ i) (hw : 0 ≤ w) : sB (inUp s b n) i w = sB s i w := inUp_at n _ (fun k hk => by omega)
theorem comeIn_B {s : Row} {b : Nat} (hc : cM s ≤ 10) : sB (comeIn s b) b 2 = 0 ∧ sB (comeIn s b) b 5 = -1 ∧ (∀ w : Int, 0 ≤ w → w < 7 → w ≠ 2 → w ≠ 5 → sB (comeIn s b) b w = sB s b w) ∧ ∀ i : Int, 0 ≤ i → i ≠ b → ∀ w : Int, 0 ≤ w → w < 7 → sB (comeIn s b) i w = sB s i w := by
  unfold comeIn
  try simp only []
  refine ⟨?_, ?_, fun w h0 h7 h2 h5 => ?_, fun i h0 hi w hw hw7 => ?_⟩
  · rw [sB_up (by omega), sB_up (by omega), sB_ue (by omega)]
  · rw [sB_up (by omega), sB_ue (by omega)]
  · rw [sB_up (by omega), sB_up (by omega), sB_up (by omega), inUp_B hc (by omega) (by omega)]
  · rw [sB_up (by omega), sB_up (by omega), sB_up (by omega), inUp_B hc (by omega) (by omega)]
theorem comeIn_M {s : Row} {b : Nat} {k : Nat} (hk : k < 10) {w : Nat} (hw : w < 7) : sM (comeIn s b) k w = sM (inUp s b (cM s)) k w := by
  unfold comeIn
  try simp only []
  rw [sM_up (by omega), sM_up (by omega), sM_up (by omega)]
theorem WI_comeIn {M : Int} {s : Row} (hI : RI M s) (h : WI s) {b : Nat} (hb : b < cB s) : WI (comeIn s b) := by
  have gc := hI.c
  have gs := hI.s
  obtain ⟨b2, b5, bs, bo⟩ := comeIn_B (s := s) (b := b) gc.1.2
  have m1 : ∀ k : Nat, k < 10 → sM (comeIn s b) k 1 = if k < cM s ∧ sM s k 1 = 1 ∧ sM s k 3 = b then 0 else sM s k 1 := fun k hk => (comeIn_M hk (w := 1) (by decide)).trans (inUp_v _ k).1
  have m3 : ∀ k : Nat, k < 10 → sM (comeIn s b) k 3 = if k < cM s ∧ sM s k 1 = 1 ∧ sM s k 3 = b then -1 else sM s k 3 := fun k hk => (comeIn_M hk (w := 3) (by decide)).trans (inUp_v _ k).2
  refine WI_down hI h (comeIn_at gc.1.2 (by omega) (by omega)) (comeIn_at gc.1.2 (by omega) (by omega)) (fun k hk => ?_) (fun i h0 h3 => ?_) (fun k hk => ?_) (fun i hi => ?_)
  · rw [m1 k hk, m3 k hk]
    by_cases q : k < cM s ∧ sM s k 1 = 1 ∧ sM s k 3 = b
    · rw [if_pos q]; intro r; exact absurd r (by decide)
    · rw [if_neg q, if_neg q]; exact h.1 k hk
  · by_cases e : i = b
    · subst e; exact bs 1 (by decide) (by decide) (by decide) (by decide)
    · exact bo i h0 e 1 (by decide) (by decide)
  · rw [m1 k (by omega), m3 k (by omega)]
    by_cases q : k < cM s ∧ sM s k 1 = 1 ∧ sM s k 3 = b
    · right
      rw [if_pos q, if_pos q]
      exact ⟨by decide, rfl, fun _ => by rw [q.2.2]; exact b2⟩
    · left
      rw [if_neg q, if_neg q]
      refine ⟨rfl, rfl, fun r => ?_⟩
      obtain ⟨c1, c2, -⟩ := (h.2.2.1 k hk).1 r
      exact bo _ c1 (fun e => q ⟨hk, r, e⟩) 2 (by decide) (by decide)
  · by_cases e : i = b
    · subst e; exact Or.inr ⟨b2, b5⟩
    · exact Or.inl ⟨bo i (by omega) (by omega) 2 (by decide) (by decide), bo i (by omega) (by omega) 5 (by decide) (by decide)⟩
theorem WI_boatGo {M : Int} {s : Row} (hI : RI M s) (h : WI s) {b : Nat} (hb : b < cB s) : WI (boatGo s b) := by
  have gc := hI.c
  have gb := hI.b b (by omega)
  have hI1 : RI M (up s (78 + 7 * b + 3) (max 0 (sB s b 3 - 1))) := by rw [← tB3]; exact RI.sb3 hI (by omega) (by omega)
  have h1 : WI (up s (78 + 7 * b + 3) (max 0 (sB s b 3 - 1))) := WI_up hI h (by omega)
  unfold boatGo
  try simp only []
  split
  · exact h
  · split
    · exact h1
    · split
      · exact WI_up hI1 h1 (by omega)
      · exact WI_comeIn hI1 h1 (by show b < (up s (78 + 7 * b + 3) _ 2).toNat; rw [up_ne _ _ (by omega)]; exact hb)
theorem WI_boats {M : Int} {s : Row} (hI : RI M s) (h : WI s) : ∀ n : Nat, n ≤ cB s → M + n ≤ 100000000 → WI (boatsUp s n) := by
  have gc := hI.c
  intro n
  induction n with
  | zero => intro _ _; exact h
  | succ n ih =>
    intro hn hM
    have e2 : boatsUp s n 2 = s 2 := boatsUp_at gc.1.2 n 2 (by omega) (by omega)
    exact WI_boatGo (boatsUp_RI hI n (by omega) (by omega)) (ih (by omega) (by omega)) (by show n < (boatsUp s n 2).toNat; rw [e2]; exact hn)
theorem lnGo_at3 (n : Nat) (s : Row) (k y : Nat) (h : y < 99 ∧ y ≠ 3 ∧ y ≠ 6) : lnGo n s k y = s y := lnGo_at n s k y h
theorem WI_hour {M : Int} {s : Row} (hI : RI M s) (h : WI s) (hM : M + 30 ≤ 100000000) : WI (hourR s) := by
  have gc := hI.c
  have gs := hI.s
  have hI1 : RI (M + 1) (up s 0 (s 0 + 1)) := RI.ss0 (hI.le (by omega) (by omega)) (by omega)
  have h1 : WI (up s 0 (s 0 + 1)) := WI_up hI h (by omega)
  have c1 := hI1.c
  have hI2 := memsUp_RI hI1 (cM (up s 0 (s 0 + 1))) c1.1.2 (by omega)
  have h2 : WI (memsUp (up s 0 (s 0 + 1)) (cM (up s 0 (s 0 + 1)))) := WI_same hI1 h1 (memsUp_at _ _ (fun k hk => by omega)) (memsUp_at _ _ (fun k hk => by omega))
    (fun i a b => ⟨memsUp_at _ _ (fun k hk => by omega), memsUp_at _ _ (fun k hk => by omega), memsUp_at _ _ (fun k hk => by omega)⟩) (fun k hk => memsUp_IS _ _ k)
  have c2 := hI2.c
  have hI3 := boatsUp_RI hI2 _ c2.2.1.2 (by omega)
  have h3 := WI_boats hI2 h2 _ (Nat.le_refl _) (by omega)
  unfold hourR
  exact WI_same hI3 h3 (lnGo_at _ _ _ _ (by omega)) (lnGo_at _ _ _ _ (by omega)) (fun i a b => ⟨lnGo_at _ _ _ _ (by omega), lnGo_at _ _ _ _ (by omega), lnGo_at _ _ _ _ (by omega)⟩) (fun k hk => ⟨lnGo_at _ _ _ _ (by omega), lnGo_at _ _ _ _ (by omega)⟩)
theorem WI_hours {M : Int} {s : Row} (hI : RI M s) (h : WI s) : ∀ n : Nat, M + 30 * n ≤ 100000000 → WI (hoursUp s n) := by
  intro n
  induction n with
  | zero => intro _; exact h
  | succ n ih => intro hM; exact WI_hour (hoursUp_RI hI n (by omega)) (ih (by omega)) (by omega)
