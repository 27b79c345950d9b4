/-! boats that come home -/
theorem boatGo_oth {s : Row} {k : Nat} (hc : cM s ≤ 10) {i : Nat} (hi : i ≠ k) {w : Nat} (hw : w < 7) : sB (boatGo s k) i w = sB s i w := by
  by_cases h : sB s k 2 = 0
  · rw [boatGo_in h]
  · have ec : cM (up s (78 + 7 * k + 3) (max 0 (sB s k 3 - 1))) = cM s := cM_e (up_ne _ _ (by omega))
    have e3 : sB (up s (78 + 7 * k + 3) (max 0 (sB s k 3 - 1))) i w = sB s i w := sB_up (by omega)
    rw [boatGo_t h rfl]
    split
    · exact e3
    · split
      · rw [sB_up (by omega)]; exact e3
      · rw [(comeIn_B (b := k) (by rw [ec]; exact hc)).2.2.2 i (by omega) (by omega) w (by omega) (by omega)]; exact e3
theorem boatGo_own {s : Row} {k : Nat} (hc : cM s ≤ 10) (ho : sB s k 2 = 1) : ((0 < sB s k 3 - 1 ∨ hgt (s 0) < sB s k 0) → sB (boatGo s k) k 2 = 1 ∧ sB (boatGo s k) k 3 = max 0 (sB s k 3 - 1)) ∧ (¬ (0 < sB s k 3 - 1 ∨ hgt (s 0) < sB s k 0) → sB (boatGo s k) k 2 = 0) := by
  have ec : cM (up s (78 + 7 * k + 3) (max 0 (sB s k 3 - 1))) = cM s := cM_e (up_ne _ _ (by omega))
  have e3 : sB (up s (78 + 7 * k + 3) (max 0 (sB s k 3 - 1))) k 3 = max 0 (sB s k 3 - 1) := sB_ue (by omega)
  have e2 : sB (up s (78 + 7 * k + 3) (max 0 (sB s k 3 - 1))) k 2 = sB s k 2 := sB_up (by omega)
  have e0 : sB (up s (78 + 7 * k + 3) (max 0 (sB s k 3 - 1))) k 0 = sB s k 0 := sB_up (by omega)
  have eh : up s (78 + 7 * k + 3) (max 0 (sB s k 3 - 1)) 0 = s 0 := up_ne _ _ (by omega)
  rw [boatGo_t (by omega) rfl]
  refine ⟨fun h => ?_, fun h => ?_⟩
  · by_cases h3 : 0 < sB (up s (78 + 7 * k + 3) (max 0 (sB s k 3 - 1))) k 3
    · rw [if_pos h3]; exact ⟨e2.trans ho, e3⟩
    · rw [if_neg h3, if_pos (by rw [eh, e0]; omega)]
      exact ⟨(sB_up (by omega)).trans (e2.trans ho), (sB_up (by omega)).trans e3⟩
  · rw [if_neg (by omega), if_neg (by rw [eh, e0]; omega)]
    exact (comeIn_B (b := k) (by rw [ec]; exact hc)).1
theorem boatsUp_oth {s : Row} (hc : cM s ≤ 10) {i w : Nat} (hw : w < 7) : ∀ n, n ≤ 3 → n ≤ i → sB (boatsUp s n) i w = sB s i w := by
  intro n
  induction n with
  | zero => intro _ _; rfl
  | succ n ih =>
    intro hn hi
    have ec : cM (boatsUp s n) = cM s := cM_e (boatsUp_at hc n 1 (by omega) (by omega))
    exact (boatGo_oth (by rw [ec]; exact hc) (by omega) hw).trans (ih (by omega) (by omega))
theorem boatsUp_row {s : Row} (hc : cM s ≤ 10) {b : Nat} {w : Nat} (hw : w < 7) : ∀ n, n ≤ 3 → b < n → sB (boatsUp s n) b w = sB (boatGo (boatsUp s b) b) b w := by
  intro n
  induction n with
  | zero => intro _ h; omega
  | succ n ih =>
    intro hn hb
    have ec : cM (boatsUp s n) = cM s := cM_e (boatsUp_at hc n 1 (by omega) (by omega))
    by_cases e : n = b
    · subst e; rfl
    · exact (boatGo_oth (by rw [ec]; exact hc) (by omega) hw).trans (ih (by omega) (by omega))
/-- a boat that is out: an hour later -/
theorem hour_own {M : Int} {s : Row} (h : RI M s) (hM : M + 30 ≤ 100000000) {b : Nat} (hb : b < cB s) (ho : sB s b 2 = 1) :
    hourR s 0 = s 0 + 1 ∧ ((0 < sB s b 3 - 1 ∨ hgt (s 0 + 1) < sB s b 0) → sB (hourR s) b 2 = 1 ∧ sB (hourR s) b 3 = max 0 (sB s b 3 - 1)) ∧ (¬ (0 < sB s b 3 - 1 ∨ hgt (s 0 + 1) < sB s b 0) → sB (hourR s) b 2 = 0) := by
  have gc := h.c
  have e1 : ∀ k, 0 < k → up s 0 (s 0 + 1) k = s k := fun k hk => up_ne _ _ (by omega)
  have ec : cM (up s 0 (s 0 + 1)) = cM s := cM_e (e1 1 (by omega))
  have em : ∀ z, (z < 8 ∨ 78 ≤ z) → memsUp (up s 0 (s 0 + 1)) (cM (up s 0 (s 0 + 1))) z = up s 0 (s 0 + 1) z := fun z hz => memsUp_at _ _ (fun k hk => by omega)
  have ecm : cM (memsUp (up s 0 (s 0 + 1)) (cM (up s 0 (s 0 + 1)))) = cM s := cM_e ((em 1 (by omega)).trans (e1 1 (by omega)))
  have ecb : cB (memsUp (up s 0 (s 0 + 1)) (cM (up s 0 (s 0 + 1)))) = cB s := cB_e ((em 2 (by omega)).trans (e1 2 (by omega)))
  generalize hu : memsUp (up s 0 (s 0 + 1)) (cM (up s 0 (s 0 + 1))) = u at em ecm ecb
  have hcu : cM u ≤ 10 := by omega
  have hr : ∀ y, y < 99 ∧ y ≠ 3 ∧ y ≠ 6 → hourR s y = boatsUp u (cB u) y := fun y hy => by
    rw [hour_e, hu]; exact lnGo_at _ _ _ _ hy
  have er : ∀ w : Nat, w < 7 → sB (hourR s) b w = sB (boatGo (boatsUp u b) b) b w := fun w hw => by
    have q := boatsUp_row (s := u) hcu (b := b) hw (cB u) (by omega) (by omega)
    rw [← q]; exact hr _ (by omega)
  have eu : ∀ w : Nat, w < 7 → sB (boatsUp u b) b w = sB s b w := fun w hw => (boatsUp_oth hcu hw b (by omega) (Nat.le_refl _)).trans ((em _ (by omega)).trans (e1 _ (by omega)))
  have e0 : boatsUp u b 0 = s 0 + 1 := (boatsUp_at hcu b 0 (by omega) (by omega)).trans ((em 0 (by omega)).trans (up_same _ _ _))
  have ecu : cM (boatsUp u b) = cM u := cM_e (boatsUp_at hcu b 1 (by omega) (by omega))
  have own := boatGo_own (s := boatsUp u b) (k := b) (by omega) ((eu 2 (by decide)).trans ho)
  have x3 := eu 3 (by decide)
  have x0 := eu 0 (by decide)
  have y2 := er 2 (by decide)
  have y3 := er 3 (by decide)
  refine ⟨?_, fun q => ?_, fun q => ?_⟩
  · rw [hr 0 (by omega)]; exact (boatsUp_at hcu _ 0 (by omega) (by omega)).trans ((em 0 (by omega)).trans (up_same _ _ _))
  · have := own.1 (by rw [e0]; rcases q with q | q; (left; exact x3 ▸ q); (right; exact x0 ▸ q))
    exact ⟨y2.trans this.1, y3.trans (this.2.trans (by rw [show sB (boatsUp u b) b 3 = sB s b 3 from x3]))⟩
  · have := own.2 (by rw [e0]; intro z; apply q; rcases z with z | z; (left; exact x3 ▸ z); (right; exact x0 ▸ z))
    exact y2.trans this
