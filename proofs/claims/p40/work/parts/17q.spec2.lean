/-! what the questions answer: which exception (0: none), and the answer -/
def qHeight (s : Row) (a : Int) : Int × Int := if ¬ (0 ≤ a ∧ a ≤ 99) then (1, 0) else (0, hgt (s 0 + a))
def qMember (s : Row) (a b : Int) : Int × Int := if ¬ (0 ≤ a ∧ a ≤ s 1 - 1) then (1, 0) else if ¬ (0 ≤ b ∧ b ≤ 7) then (2, 0) else if b = 4 then (0, if sM s a 1 = 0 ∧ sM s a 2 < s 7 then 1 else 0) else (0, if 4 < b then sM s a (b - 1) else sM s a b)
def qBoat (s : Row) (a b : Int) : Int × Int := if ¬ (0 ≤ a ∧ a ≤ s 2 - 1) then (1, 0) else if ¬ (0 ≤ b ∧ b ≤ 6) then (2, 0) else (0, sB s a b)
def qLoan (s : Row) (a b : Int) : Int × Int := if ¬ (0 ≤ a ∧ a ≤ s 3 - 1) then (1, 0) else if ¬ (0 ≤ b ∧ b ≤ 2) then (2, 0) else (0, sL s a b)
def crewUp (s : Row) (b : Int) : Nat → Nat
  | 0 => 0
  | n + 1 => crewUp s b n ||| (if sM s n 1 = 1 ∧ sM s n 3 = b then 2 ^ n else 0)
def crewO (s : Row) (b : Int) : Nat := crewUp s b (cM s)
theorem crewUp_lt (s : Row) (b : Int) : ∀ n, crewUp s b n < 2 ^ n := by
  intro n
  induction n with
  | zero => simp [crewUp]
  | succ n ih =>
    unfold crewUp
    refine Nat.or_lt_two_pow (Nat.lt_of_lt_of_le ih (Nat.pow_le_pow_right (by decide) (Nat.le_succ n))) ?_
    split
    · exact Nat.pow_lt_pow_right (by decide) (Nat.lt_succ_self n)
    · exact Nat.two_pow_pos _
theorem crewO_lt {M : Int} {s : Row} (h : RI M s) (b : Int) : crewO s b < 1024 := by
  have h1 := crewUp_lt s b (cM s)
  have h2 : 2 ^ (cM s) ≤ 2 ^ 10 := Nat.pow_le_pow_right (by decide) h.c.1.2
  unfold crewO; omega
theorem crewUp_lt2 {M : Int} {s : Row} (h : RI M s) (b : Int) {n : Nat} (hn : n ≤ cM s) : crewUp s b n < 1024 := by
  have h1 := crewUp_lt s b n
  have h2 : 2 ^ n ≤ 2 ^ 10 := Nat.pow_le_pow_right (by decide) (Nat.le_trans hn h.c.1.2)
  omega
def qCrew (s : Row) (a : Int) : Int × Int := if ¬ (0 ≤ a ∧ a ≤ s 2 - 1) then (1, 0) else (0, (crewO s a : Int))
def qGo (s : Row) (a : Int) : Int × Int := if ¬ (0 ≤ a ∧ a ≤ s 2 - 1) then (1, 0) else if 0 < whyC s a then (2, 0) else (0, (crw s a : Int))
def wsUp (s : Row) (x : Nat) : Nat → Int
  | 0 => 0
  | n + 1 => wsUp s x n + (if x / 2 ^ n % 2 = 1 then sM s n 2 else 0)
theorem wsUp_rg {M : Int} {s : Row} (h : RI M s) (x : Nat) : ∀ n, n ≤ 10 → 0 ≤ wsUp s x n ∧ wsUp s x n ≤ 100000000 * n := by
  intro n
  induction n with
  | zero => intro _; simp [wsUp]
  | succ n ih =>
    intro hn
    have := ih (by omega)
    have g := h.m n (by omega)
    have hM := h.2.1
    unfold wsUp
    split <;> omega
def qWear (s : Row) (a : Int) : Int × Int := if ¬ (0 ≤ a ∧ a ≤ s 2 - 1) then (1, 0) else if 0 < whyC s a then (2, 0) else (0, wsUp s (crw s a) (cM s))
def qRefuse (s : Row) (a : Int) : Int × Int := if ¬ (0 ≤ a ∧ a ≤ s 2 - 1) then (1, 0) else (0, whyN s a)
/-- the first hour from the n-th on in which a boat could go, or n behind the fuel -/
def callUp (s : Row) (b : Int) : Nat → Nat → Nat
  | 0, n => n
  | f + 1, n => if 0 < whyN (hoursUp s n) b then callUp s b f (n + 1) else n
theorem callUp_le (s : Row) (b : Int) : ∀ f n, callUp s b f n ≤ f + n := by
  intro f
  induction f with
  | zero => intro n; simp [callUp]
  | succ f ih => intro n; unfold callUp; have := ih (n + 1); split <;> omega
def qCallable (s : Row) (a : Int) : Int × Int := if ¬ (0 ≤ a ∧ a ≤ s 2 - 1) then (1, 0) else if whyN (hoursUp s (callUp s a 48 0)) a ≠ 0 then (2, 0) else (0, (callUp s a 48 0 : Int))
def homeUp (s : Row) (b : Int) : Nat → Nat → Nat
  | 0, n => n
  | f + 1, n => if sB (hoursUp s n) b 2 = 1 then homeUp s b f (n + 1) else n
theorem homeUp_le (s : Row) (b : Int) : ∀ f n, homeUp s b f n ≤ f + n := by
  intro f
  induction f with
  | zero => intro n; simp [homeUp]
  | succ f ih => intro n; unfold homeUp; have := ih (n + 1); split <;> omega
def qHome (s : Row) (a : Int) : Int × Int := if ¬ (0 ≤ a ∧ a ≤ s 2 - 1) then (1, 0) else if sB s a 2 = 0 then (2, 0) else (0, (homeUp s a 21 0 : Int))
abbrev lessP (s : Row) (m o : Int) : Prop := sM s m 2 < sM s o 2 ∨ (sM s m 2 = sM s o 2 ∧ (sM s o 0 < sM s m 0 ∨ (sM s m 0 = sM s o 0 ∧ m < o)))
abbrev busyP (s : Row) (m o : Int) : Prop := sM s o 4 < sM s m 4 ∨ (sM s m 4 = sM s o 4 ∧ (sM s o 5 < sM s m 5 ∨ (sM s m 5 = sM s o 5 ∧ m < o)))
def aheadUp (s : Row) (k : Nat) : Nat → Int
  | 0 => 0
  | n + 1 => aheadUp s k n + (if n ≠ k ∧ sM s n 1 ≠ 2 ∧ lessP s n k then 1 else 0)
def aheadUpB (s : Row) (k : Nat) : Nat → Int
  | 0 => 0
  | n + 1 => aheadUpB s k n + (if n ≠ k ∧ busyP s n k then 1 else 0)
theorem aheadUp_rg (s : Row) (k : Nat) : ∀ n, 0 ≤ aheadUp s k n ∧ aheadUp s k n ≤ n := by
  intro n
  induction n with
  | zero => simp [aheadUp]
  | succ n ih => unfold aheadUp; split <;> omega
theorem aheadUpB_rg (s : Row) (k : Nat) : ∀ n, 0 ≤ aheadUpB s k n ∧ aheadUpB s k n ≤ n := by
  intro n
  induction n with
  | zero => simp [aheadUpB]
  | succ n ih => unfold aheadUpB; split <;> omega
def leastUp (s : Row) (p : Int) : Nat → Nat → Int
  | 0, _ => -1
  | f + 1, k => if sM s k 1 ≠ 2 ∧ aheadUp s k (cM s) = p then (k : Int) else leastUp s p f (k + 1)
def busyUp (s : Row) (p : Int) : Nat → Nat → Int
  | 0, _ => -1
  | f + 1, k => if aheadUpB s k (cM s) = p then (k : Int) else busyUp s p f (k + 1)
def qLeast (s : Row) (p : Int) : Int × Int := if leastUp s p (cM s) 0 < 0 then (1, 0) else (0, leastUp s p (cM s) 0)
def qBusy (s : Row) (p : Int) : Int × Int := if busyUp s p (cM s) 0 < 0 then (1, 0) else (0, busyUp s p (cM s) 0)
theorem leastUp_t {s : Row} {p : Int} {f k : Nat} (h : sM s k 1 ≠ 2 ∧ aheadUp s k (cM s) = p) : leastUp s p (f + 1) k = k := by show (if _ then _ else _) = _; rw [if_pos h]
theorem leastUp_f {s : Row} {p : Int} {f k : Nat} (h : ¬ (sM s k 1 ≠ 2 ∧ aheadUp s k (cM s) = p)) : leastUp s p (f + 1) k = leastUp s p f (k + 1) := by show (if _ then _ else _) = _; rw [if_neg h]
theorem busyUp_t {s : Row} {p : Int} {f k : Nat} (h : aheadUpB s k (cM s) = p) : busyUp s p (f + 1) k = k := by show (if _ then _ else _) = _; rw [if_pos h]
theorem busyUp_f {s : Row} {p : Int} {f k : Nat} (h : ¬ aheadUpB s k (cM s) = p) : busyUp s p (f + 1) k = busyUp s p f (k + 1) := by show (if _ then _ else _) = _; rw [if_neg h]
def bOutUp (s : Row) : Nat → Int
  | 0 => 0
  | n + 1 => bOutUp s n + sB s n 2
theorem bOutUp_rg {M : Int} {s : Row} (h : RI M s) : ∀ n, n ≤ 3 → 0 ≤ bOutUp s n ∧ bOutUp s n ≤ n := by
  intro n
  induction n with
  | zero => intro _; simp [bOutUp]
  | succ n ih => intro hn; have := ih (by omega); have g := h.b n (by omega); unfold bOutUp; omega
def qAcc (s : Row) (c5 c15 : Int) (a : Int) : Int × Int :=
  if ¬ (0 ≤ a ∧ a ≤ 12) then (1, 0) else if a = 0 then (0, s 0) else if a = 1 then (0, s 1) else if a = 2 then (0, s 1 - stayN s) else if a = 3 then (0, s 2) else if a = 4 then (0, bOutUp s (cB s))
  else if a = 5 then (0, s 3) else if a = 6 then (0, allO s) else if a = 7 then (0, s 4) else if a = 8 then (0, s 5) else if a = 9 then (0, s 6) else if a = 10 then (0, s 7) else if a = 11 then (0, c5) else (0, c15)
def qReason (m : Row) (p q : Prop) [Decidable p] [Decidable q] : Int × Int := if p then (if m 9 = 0 then (1, 0) else (0, if q then m 10 else m 9)) else (if m 7 = 0 then (1, 0) else (0, if q then m 8 else m 7))
theorem callUp_s {s : Row} {b : Int} {f n : Nat} (h : 0 < whyN (hoursUp s n) b) : callUp s b (f + 1) n = callUp s b f (n + 1) := by show (if _ then _ else _) = _; rw [if_pos h]
theorem callUp_e {s : Row} {b : Int} {f n : Nat} (h : ¬ 0 < whyN (hoursUp s n) b) : callUp s b f n = n := by
  cases f with
  | zero => rfl
  | succ f => show (if _ then _ else _) = _; rw [if_neg h]
theorem homeUp_s {s : Row} {b : Int} {f n : Nat} (h : sB (hoursUp s n) b 2 = 1) : homeUp s b (f + 1) n = homeUp s b f (n + 1) := by show (if _ then _ else _) = _; rw [if_pos h]
theorem homeUp_e {s : Row} {b : Int} {f n : Nat} (h : ¬ sB (hoursUp s n) b 2 = 1) : homeUp s b f n = n := by
  cases f with
  | zero => rfl
  | succ f => show (if _ then _ else _) = _; rw [if_neg h]
theorem lnGo_at2 : ∀ (n : Nat) (s : Row) (k y : Nat), (y < 99 ∧ y ≠ 3 ∧ y ≠ 6) → lnGo n s k y = s y := lnGo_at
/-! what an hour leaves as it was -/
def seatY (y : Nat) : Prop := 78 ≤ y ∧ y < 99 ∧ ((y - 78) % 7 = 0 ∨ (y - 78) % 7 = 1 ∨ (y - 78) % 7 = 6)
theorem comeIn_at2 {s : Row} {b y : Nat} (hc : cM s ≤ 10) (h : seatY y) (hb : b < 3) : comeIn s b y = s y := by
  unfold comeIn
  unfold seatY at h
  show up (up (up (inUp s b (cM s)) _ _) _ _) _ _ y = _
  rw [up_ne _ _ (by omega), up_ne _ _ (by omega), up_ne _ _ (by omega)]
  exact inUp_at _ _ (fun k hk => by omega)
theorem boatGo_at2 {s : Row} {b y : Nat} (hc : cM s ≤ 10) (h : seatY y) (hb : b < 3) : boatGo s b y = s y := by
  unfold boatGo
  simp only []
  have h0 := h
  unfold seatY at h0
  have e : ∀ v, up s (78 + 7 * b + 3) v y = s y := fun v => up_ne _ _ (by omega)
  have ec : ∀ v, cM (up s (78 + 7 * b + 3) v) = cM s := fun v => by unfold cM; rw [up_ne _ _ (by omega)]
  split
  · rfl
  · split
    · exact e _
    · split
      · rw [up_ne _ _ (by omega)]; exact e _
      · rw [comeIn_at2 (by rw [ec]; exact hc) h hb]; exact e _
theorem boatsUp_at2 {s : Row} (hc : cM s ≤ 10) : ∀ (n y : Nat), n ≤ 3 → seatY y → boatsUp s n y = s y := by
  intro n
  induction n with
  | zero => intro y _ _; rfl
  | succ n ih =>
    intro y hn h
    show boatGo (boatsUp s n) n y = _
    have : cM (boatsUp s n) = cM s := by unfold cM; rw [boatsUp_at hc n 1 (by omega) (by omega)]
    rw [boatGo_at2 (by rw [this]; exact hc) h (by omega)]
    exact ih y (by omega) h
theorem hourR_at {M : Int} {s : Row} (h : RI M s) (hM : M + 30 ≤ 100000000) {y : Nat} (hy : seatY y ∨ y = 1 ∨ y = 2 ∨ y = 4 ∨ y = 7) : hourR s y = s y := by
  have gc := h.c
  have gs := h.s
  have hy9 : y < 99 ∧ y ≠ 3 ∧ y ≠ 6 := by unfold seatY at hy; omega
  unfold hourR
  rw [lnGo_at _ _ _ _ hy9]
  have e1 : ∀ k, 0 < k → up s 0 (s 0 + 1) k = s k := fun k hk => up_ne _ _ (by omega)
  have ec : cM (up s 0 (s 0 + 1)) = cM s := by unfold cM; rw [e1 1 (by omega)]
  have em : ∀ z, (seatY z ∨ z = 1 ∨ z = 2 ∨ z = 4 ∨ z = 7) → memsUp (up s 0 (s 0 + 1)) (cM (up s 0 (s 0 + 1))) z = s z := fun z hz => by
    have hz2 : 0 < z ∧ (z < 10 ∨ 78 ≤ z) := by unfold seatY at hz; omega
    rw [memsUp_at _ _ (fun k hk => by omega)]
    exact e1 z hz2.1
  have ecm : cM (memsUp (up s 0 (s 0 + 1)) (cM (up s 0 (s 0 + 1)))) = cM s := congrArg Int.toNat (em 1 (by omega))
  have ecb : cB (memsUp (up s 0 (s 0 + 1)) (cM (up s 0 (s 0 + 1)))) = cB s := congrArg Int.toNat (em 2 (by omega))
  rcases hy with hy | hy
  · rw [boatsUp_at2 (by rw [ecm]; exact gc.1.2) _ _ (by rw [ecb]; exact gc.2.1.2) hy]; exact em y (Or.inl hy)
  · rw [boatsUp_at (by rw [ecm]; exact gc.1.2) _ _ (by rw [ecb]; exact gc.2.1.2) (by omega)]; exact em y (Or.inr hy)
theorem hoursUp_at {M : Int} {s : Row} (h : RI M s) {y : Nat} (hy : seatY y ∨ y = 1 ∨ y = 2 ∨ y = 4 ∨ y = 7) : ∀ n : Nat, M + 30 * n ≤ 100000000 → hoursUp s n y = s y := by
  intro n
  induction n with
  | zero => intro _; rfl
  | succ n ih =>
    intro hM
    show hourR (hoursUp s n) y = _
    rw [hourR_at (hoursUp_RI h n (by omega)) (by omega) hy]
    exact ih (by omega)
theorem seat_hours {M : Int} {s : Row} (h : RI M s) (n : Nat) (hM : M + 30 * n ≤ 100000000) {b : Int} (hb : 0 ≤ b ∧ b < 3) : sB (hoursUp s n) b 1 = sB s b 1 ∧ sB (hoursUp s n) b 0 = sB s b 0 ∧ hoursUp s n 2 = s 2 ∧ hoursUp s n 1 = s 1 := by
  obtain ⟨k, rfl⟩ := Int.eq_ofNat_of_zero_le hb.1
  have hk : k < 3 := by omega
  refine ⟨?_, ?_, hoursUp_at h (by omega) n hM, hoursUp_at h (by omega) n hM⟩
  · rw [eB1, eB1]; exact hoursUp_at h (Or.inl (by unfold seatY; omega)) n hM
  · rw [eB0, eB0]; exact hoursUp_at h (Or.inl (by unfold seatY; omega)) n hM
theorem wn_243_244 (ω : Wo) (f : Row) : (wf ω 243 f).1 244 = ω.1 244 := rfl
theorem wn_243_245 (ω : Wo) (f : Row) : (wf ω 243 f).1 245 = ω.1 245 := rfl
theorem wn_243_246 (ω : Wo) (f : Row) : (wf ω 243 f).1 246 = ω.1 246 := rfl
theorem wn_243_247 (ω : Wo) (f : Row) : (wf ω 243 f).1 247 = ω.1 247 := rfl
theorem wn_243_248 (ω : Wo) (f : Row) : (wf ω 243 f).1 248 = ω.1 248 := rfl
theorem wn_243_249 (ω : Wo) (f : Row) : (wf ω 243 f).1 249 = ω.1 249 := rfl
theorem wn_243_250 (ω : Wo) (f : Row) : (wf ω 243 f).1 250 = ω.1 250 := rfl
theorem wn_243_251 (ω : Wo) (f : Row) : (wf ω 243 f).1 251 = ω.1 251 := rfl
theorem wn_244_243 (ω : Wo) (f : Row) : (wf ω 244 f).1 243 = ω.1 243 := rfl
theorem wn_244_245 (ω : Wo) (f : Row) : (wf ω 244 f).1 245 = ω.1 245 := rfl
theorem wn_244_246 (ω : Wo) (f : Row) : (wf ω 244 f).1 246 = ω.1 246 := rfl
theorem wn_244_247 (ω : Wo) (f : Row) : (wf ω 244 f).1 247 = ω.1 247 := rfl
theorem wn_244_248 (ω : Wo) (f : Row) : (wf ω 244 f).1 248 = ω.1 248 := rfl
theorem wn_244_249 (ω : Wo) (f : Row) : (wf ω 244 f).1 249 = ω.1 249 := rfl
theorem wn_244_250 (ω : Wo) (f : Row) : (wf ω 244 f).1 250 = ω.1 250 := rfl
theorem wn_244_251 (ω : Wo) (f : Row) : (wf ω 244 f).1 251 = ω.1 251 := rfl
theorem wn_245_243 (ω : Wo) (f : Row) : (wf ω 245 f).1 243 = ω.1 243 := rfl
theorem wn_245_244 (ω : Wo) (f : Row) : (wf ω 245 f).1 244 = ω.1 244 := rfl
theorem wn_245_246 (ω : Wo) (f : Row) : (wf ω 245 f).1 246 = ω.1 246 := rfl
theorem wn_245_247 (ω : Wo) (f : Row) : (wf ω 245 f).1 247 = ω.1 247 := rfl
theorem wn_245_248 (ω : Wo) (f : Row) : (wf ω 245 f).1 248 = ω.1 248 := rfl
theorem wn_245_249 (ω : Wo) (f : Row) : (wf ω 245 f).1 249 = ω.1 249 := rfl
theorem wn_245_250 (ω : Wo) (f : Row) : (wf ω 245 f).1 250 = ω.1 250 := rfl
theorem wn_245_251 (ω : Wo) (f : Row) : (wf ω 245 f).1 251 = ω.1 251 := rfl
theorem wn_246_243 (ω : Wo) (f : Row) : (wf ω 246 f).1 243 = ω.1 243 := rfl
theorem wn_246_244 (ω : Wo) (f : Row) : (wf ω 246 f).1 244 = ω.1 244 := rfl
theorem wn_246_245 (ω : Wo) (f : Row) : (wf ω 246 f).1 245 = ω.1 245 := rfl
theorem wn_246_247 (ω : Wo) (f : Row) : (wf ω 246 f).1 247 = ω.1 247 := rfl
theorem wn_246_248 (ω : Wo) (f : Row) : (wf ω 246 f).1 248 = ω.1 248 := rfl
theorem wn_246_249 (ω : Wo) (f : Row) : (wf ω 246 f).1 249 = ω.1 249 := rfl
theorem wn_246_250 (ω : Wo) (f : Row) : (wf ω 246 f).1 250 = ω.1 250 := rfl
theorem wn_246_251 (ω : Wo) (f : Row) : (wf ω 246 f).1 251 = ω.1 251 := rfl
theorem wn_247_243 (ω : Wo) (f : Row) : (wf ω 247 f).1 243 = ω.1 243 := rfl
theorem wn_247_244 (ω : Wo) (f : Row) : (wf ω 247 f).1 244 = ω.1 244 := rfl
theorem wn_247_245 (ω : Wo) (f : Row) : (wf ω 247 f).1 245 = ω.1 245 := rfl
theorem wn_247_246 (ω : Wo) (f : Row) : (wf ω 247 f).1 246 = ω.1 246 := rfl
theorem wn_247_248 (ω : Wo) (f : Row) : (wf ω 247 f).1 248 = ω.1 248 := rfl
theorem wn_247_249 (ω : Wo) (f : Row) : (wf ω 247 f).1 249 = ω.1 249 := rfl
theorem wn_247_250 (ω : Wo) (f : Row) : (wf ω 247 f).1 250 = ω.1 250 := rfl
theorem wn_247_251 (ω : Wo) (f : Row) : (wf ω 247 f).1 251 = ω.1 251 := rfl
theorem wn_248_243 (ω : Wo) (f : Row) : (wf ω 248 f).1 243 = ω.1 243 := rfl
theorem wn_248_244 (ω : Wo) (f : Row) : (wf ω 248 f).1 244 = ω.1 244 := rfl
theorem wn_248_245 (ω : Wo) (f : Row) : (wf ω 248 f).1 245 = ω.1 245 := rfl
theorem wn_248_246 (ω : Wo) (f : Row) : (wf ω 248 f).1 246 = ω.1 246 := rfl
theorem wn_248_247 (ω : Wo) (f : Row) : (wf ω 248 f).1 247 = ω.1 247 := rfl
theorem wn_248_249 (ω : Wo) (f : Row) : (wf ω 248 f).1 249 = ω.1 249 := rfl
theorem wn_248_250 (ω : Wo) (f : Row) : (wf ω 248 f).1 250 = ω.1 250 := rfl
theorem wn_248_251 (ω : Wo) (f : Row) : (wf ω 248 f).1 251 = ω.1 251 := rfl
theorem wn_249_243 (ω : Wo) (f : Row) : (wf ω 249 f).1 243 = ω.1 243 := rfl
theorem wn_249_244 (ω : Wo) (f : Row) : (wf ω 249 f).1 244 = ω.1 244 := rfl
theorem wn_249_245 (ω : Wo) (f : Row) : (wf ω 249 f).1 245 = ω.1 245 := rfl
theorem wn_249_246 (ω : Wo) (f : Row) : (wf ω 249 f).1 246 = ω.1 246 := rfl
theorem wn_249_247 (ω : Wo) (f : Row) : (wf ω 249 f).1 247 = ω.1 247 := rfl
theorem wn_249_248 (ω : Wo) (f : Row) : (wf ω 249 f).1 248 = ω.1 248 := rfl
theorem wn_249_250 (ω : Wo) (f : Row) : (wf ω 249 f).1 250 = ω.1 250 := rfl
theorem wn_249_251 (ω : Wo) (f : Row) : (wf ω 249 f).1 251 = ω.1 251 := rfl
theorem wn_250_243 (ω : Wo) (f : Row) : (wf ω 250 f).1 243 = ω.1 243 := rfl
theorem wn_250_244 (ω : Wo) (f : Row) : (wf ω 250 f).1 244 = ω.1 244 := rfl
theorem wn_250_245 (ω : Wo) (f : Row) : (wf ω 250 f).1 245 = ω.1 245 := rfl
theorem wn_250_246 (ω : Wo) (f : Row) : (wf ω 250 f).1 246 = ω.1 246 := rfl
theorem wn_250_247 (ω : Wo) (f : Row) : (wf ω 250 f).1 247 = ω.1 247 := rfl
theorem wn_250_248 (ω : Wo) (f : Row) : (wf ω 250 f).1 248 = ω.1 248 := rfl
theorem wn_250_249 (ω : Wo) (f : Row) : (wf ω 250 f).1 249 = ω.1 249 := rfl
theorem wn_250_251 (ω : Wo) (f : Row) : (wf ω 250 f).1 251 = ω.1 251 := rfl
theorem wn_251_243 (ω : Wo) (f : Row) : (wf ω 251 f).1 243 = ω.1 243 := rfl
theorem wn_251_244 (ω : Wo) (f : Row) : (wf ω 251 f).1 244 = ω.1 244 := rfl
theorem wn_251_245 (ω : Wo) (f : Row) : (wf ω 251 f).1 245 = ω.1 245 := rfl
theorem wn_251_246 (ω : Wo) (f : Row) : (wf ω 251 f).1 246 = ω.1 246 := rfl
theorem wn_251_247 (ω : Wo) (f : Row) : (wf ω 251 f).1 247 = ω.1 247 := rfl
theorem wn_251_248 (ω : Wo) (f : Row) : (wf ω 251 f).1 248 = ω.1 248 := rfl
theorem wn_251_249 (ω : Wo) (f : Row) : (wf ω 251 f).1 249 = ω.1 249 := rfl
theorem wn_251_250 (ω : Wo) (f : Row) : (wf ω 251 f).1 250 = ω.1 250 := rfl
