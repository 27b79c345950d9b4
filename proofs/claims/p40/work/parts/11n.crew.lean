/-! choosing: bits of a set, how many are left -/
def bt1 (x k : Nat) : Prop := x / 2 ^ k % 2 = 1
theorem bt1_tb (x k : Nat) : x / 2 ^ k % 2 = 1 ↔ x.testBit k = true := by rw [Nat.testBit_eq_decide_div_mod_eq]; simp
theorem bt0_tb (x k : Nat) : x / 2 ^ k % 2 = 0 ↔ x.testBit k = false := by
  rw [Nat.testBit_eq_decide_div_mod_eq]
  simp
theorem msk_tb {k : Nat} (hk : k < 32) (j : Nat) : (4294967295 - 2 ^ k).testBit j = (decide (j < 32) && !decide (k = j)) := by
  have h : 2 ^ k < 2 ^ 32 := Nat.pow_lt_pow_right (by decide) hk
  have := Nat.testBit_two_pow_sub_succ h j
  rw [show 2 ^ 32 - (2 ^ k + 1) = 4294967295 - 2 ^ k by omega] at this
  rw [this, Nat.testBit_two_pow]
theorem del_tb (x : Nat) {k : Nat} (hk : k < 32) {j : Nat} (hj : j < 32) : (del x k).testBit j = (x.testBit j && !decide (k = j)) := by
  unfold del; rw [Nat.testBit_and, msk_tb hk]; simp [hj]
theorem del_b1 (x : Nat) {k : Nat} (hk : k < 32) {j : Nat} (hj : j < 32) : del x k / 2 ^ j % 2 = 1 ↔ x / 2 ^ j % 2 = 1 ∧ k ≠ j := by
  rw [bt1_tb, bt1_tb, del_tb x hk hj]; simp
def cwUp (s : Row) (x : Nat) (sk : Int) : Nat → Nat
  | 0 => 0
  | n + 1 => cwUp s x sk n + (if x / 2 ^ n % 2 = 1 ∧ sk ≤ sM s n 0 then 1 else 0)
theorem skl_cw (s : Row) (x : Nat) : ∀ n, sklUp s x n = cwUp s x 1 n := by
  intro n
  induction n with
  | zero => rfl
  | succ n ih =>
    unfold sklUp cwUp
    rw [ih]
    by_cases h : x / 2 ^ n % 2 = 1 ∧ 0 < sM s n 0
    · rw [if_pos h, if_pos ⟨h.1, by omega⟩]; rfl
    · rw [if_neg h, if_neg (fun q => h ⟨q.1, by omega⟩)]; rfl
theorem bits_cw {M : Int} {s : Row} (h : RI M s) (x : Nat) : ∀ n, n ≤ 10 → bitsUp x n = cwUp s x 0 n := by
  intro n
  induction n with
  | zero => intro _; rfl
  | succ n ih =>
    intro hn
    have gm := (h.m n (by omega)).1
    unfold bitsUp cwUp
    rw [ih (by omega)]
    have := Nat.mod_lt (x / 2 ^ n) (show 0 < 2 by decide)
    split <;> omega
theorem bits_stop {x m : Nat} (hx : x < 2 ^ m) : ∀ n, m ≤ n → bitsUp x n = bitsUp x m := by
  intro n hn
  induction n with
  | zero => have : m = 0 := by omega
            subst this; rfl
  | succ n ih =>
    rcases Nat.eq_or_lt_of_le hn with e | e
    · rw [e]
    · unfold bitsUp
      have h0 : x / 2 ^ n = 0 := Nat.div_eq_of_lt (Nat.lt_of_lt_of_le hx (Nat.pow_le_pow_right (by decide) (by omega)))
      rw [h0, ih (by omega)]
      show bitsUp x m + 0 % 2 = _
      simp
      cases m with
      | zero => rfl
      | succ m => rfl
theorem bitsN_cw {M : Int} {s : Row} (h : RI M s) {x : Nat} (hx : x < 2 ^ cM s) : bitsN x = cwUp s x 0 (cM s) := by
  unfold bitsN
  rw [bits_stop hx 10 h.c.1.2, bits_cw h x _ h.c.1.2]
theorem lst_pos {s : Row} {x : Nat} {sk : Int} : ∀ n, 0 < cwUp s x sk n → 0 ≤ lstUp s x sk n := by
  intro n
  induction n with
  | zero => intro h; exact absurd h (by simp [cwUp])
  | succ n ih =>
    intro h
    have := lstUp_rg s x sk n
    unfold lstUp
    unfold cwUp at h
    by_cases hc : x / 2 ^ n % 2 = 1 ∧ sk ≤ sM s n 0
    · by_cases hl : lstUp s x sk n < 0
      · rw [if_pos ⟨hc, Or.inl hl⟩]; omega
      · split <;> omega
    · rw [if_neg hc] at h
      have := ih (by omega)
      rw [if_neg (fun q => hc q.1)]; exact this
theorem cw_del (s : Row) (x : Nat) (sk : Int) {k : Nat} (hk : k < 32) : ∀ n, n ≤ 32 → cwUp s x sk n ≤ cwUp s (del x k) sk n + (if k < n then 1 else 0) := by
  intro n
  induction n with
  | zero => intro _; simp [cwUp]
  | succ n ih =>
    intro hn
    have := ih (by omega)
    unfold cwUp
    have hb := del_b1 x hk (j := n) (by omega)
    have q1 : (if k < n then (1 : Nat) else 0) ≤ (if k < n + 1 then 1 else 0) := by split <;> split <;> omega
    by_cases hc : x / 2 ^ n % 2 = 1 ∧ sk ≤ sM s n 0
    · by_cases hkn : k = n
      · subst hkn
        rw [if_pos hc, if_neg (fun q => (hb.mp q.1).2 rfl), if_pos (by omega)]
        rw [if_neg (by omega)] at this; omega
      · rw [if_pos hc, if_pos ⟨hb.mpr ⟨hc.1, hkn⟩, hc.2⟩]
        omega
    · rw [if_neg hc]
      omega
theorem cw_del1 (s : Row) (x : Nat) (sk : Int) {k : Nat} (hk : k < 32) (n : Nat) (hn : n ≤ 32) : cwUp s x sk n ≤ cwUp s (del x k) sk n + 1 := by
  have := cw_del s x sk hk n hn
  split at this <;> omega
theorem lst_lt {M : Int} {s : Row} (h : RI M s) (x : Nat) (sk : Int) : -1 ≤ lst s x sk ∧ lst s x sk < 10 := by
  have := lstUp_rg s x sk (cM s)
  have := h.c
  unfold lst; omega
/-- what a boat needs to be called out -/
def crOk (s : Row) (b : Int) : Prop := 0 ≤ lst s (ableS s) 2 ∧ ∀ n : Nat, (n : Int) < sB s b 1 - 1 → 0 ≤ lst s (crwUp s b n).2 (if (n : Int) < mustO s b then 1 else 0)
theorem crw_left {M : Int} {s : Row} (h : RI M s) (b : Int) (hb : 0 ≤ b ∧ b < 3) (hs : 2 ≤ sB s b 1) (hw : whyC s b = 0) : ∀ n : Nat, (n : Int) ≤ sB s b 1 - 1 → sB s b 1 - 1 - n ≤ cwUp s (crwUp s b n).2 0 (cM s) ∧ mustO s b - n ≤ cwUp s (crwUp s b n).2 1 (cM s) := by
  have gc := h.c
  have gb := h.b b hb
  unfold whyC at hw
  have h8 : ¬ lst s (ableS s) 2 < 0 := fun q => by rw [if_pos q] at hw; exact absurd hw (by decide)
  rw [if_neg h8] at hw
  have h9 : ¬ (bitsN (ableS s) : Int) < sB s b 1 := fun q => by rw [if_pos q] at hw; exact absurd hw (by decide)
  rw [if_neg h9] at hw
  have h10 : ¬ skl s (del (ableS s) (lst s (ableS s) 2).toNat) < mustO s b := fun q => by rw [if_pos q] at hw; exact absurd hw (by decide)
  have hl := lst_lt h (ableS s) 2
  rw [bitsN_cw h (show ableS s < 2 ^ cM s from ableUp_lt s (cM s))] at h9
  unfold skl at h10
  rw [skl_cw] at h10
  intro n
  induction n with
  | zero =>
    intro _
    have h1 := cw_del1 s (ableS s) 0 (k := (lst s (ableS s) 2).toNat) (by omega) (cM s) (by omega)
    show sB s b 1 - 1 - ((0 : Nat) : Int) ≤ cwUp s (del (ableS s) (lst s (ableS s) 2).toNat) 0 (cM s) ∧ mustO s b - ((0 : Nat) : Int) ≤ cwUp s (del (ableS s) (lst s (ableS s) 2).toNat) 1 (cM s)
    unfold ableS at h1 h9 h10 ⊢
    omega
  | succ n ih =>
    intro hn
    obtain ⟨i1, i2⟩ := ih (by omega)
    have hk := lst_lt h (crwUp s b n).2 (if (n : Int) < mustO s b then 1 else 0)
    have d0 := cw_del1 s (crwUp s b n).2 0 (k := (lst s (crwUp s b n).2 (if (n : Int) < mustO s b then 1 else 0)).toNat) (by omega) (cM s) (by omega)
    have d1 := cw_del1 s (crwUp s b n).2 1 (k := (lst s (crwUp s b n).2 (if (n : Int) < mustO s b then 1 else 0)).toNat) (by omega) (cM s) (by omega)
    show sB s b 1 - 1 - ((n + 1 : Nat) : Int) ≤ cwUp s (del (crwUp s b n).2 (lst s (crwUp s b n).2 (if (n : Int) < mustO s b then 1 else 0)).toNat) 0 (cM s) ∧ mustO s b - ((n + 1 : Nat) : Int) ≤ cwUp s (del (crwUp s b n).2 (lst s (crwUp s b n).2 (if (n : Int) < mustO s b then 1 else 0)).toNat) 1 (cM s)
    omega
theorem crOk_of {M : Int} {s : Row} (h : RI M s) {b : Int} (hb : 0 ≤ b ∧ b < 3) (hs : 2 ≤ sB s b 1) (hw : whyC s b = 0) : crOk s b := by
  refine ⟨?_, fun n hn => ?_⟩
  · unfold whyC at hw
    apply Decidable.byContradiction
    intro q
    rw [if_pos (by omega)] at hw
    exact absurd hw (by decide)
  · obtain ⟨i1, i2⟩ := crw_left h b hb hs hw n (by omega)
    refine lst_pos (cM s) ?_
    split
    · omega
    · omega
theorem crwUp_lt {M : Int} {s : Row} (h : RI M s) (b : Int) : ∀ n, (crwUp s b n).1 < 1024 ∧ (crwUp s b n).2 < 1024 := by
  have ha := ableS_lt h
  intro n
  induction n with
  | zero =>
    have hl := lst_lt h (ableS s) 2
    exact ⟨two_lt (by omega), Nat.lt_of_le_of_lt (del_le _ _) ha⟩
  | succ n ih =>
    have hl := lst_lt h (crwUp s b n).2 (if (n : Int) < mustO s b then 1 else 0)
    refine ⟨?_, Nat.lt_of_le_of_lt (del_le _ _) ih.2⟩
    exact Nat.or_lt_two_pow (n := 10) ih.1 (two_lt (by omega))
theorem j_ishl1 {κ : Nat → Nat} {Γ : Ga} {p : Program} {l : Launch} {e : Env} {R : Room} {s : State} {m : MethodId} {args : Array Value} {below : List Frame} {meth : Method} {c : Code} {Q : State → Prop} {n ce sl : Nat} {cc : ByteArray} {own : String} {nL pc pc' : Nat} {L : List (Option Value)} {S : List Value} {ω : Wo}
    (C : Cx Γ p l s m args meth c cc own nL) {k : Nat} (h : k < 31) (d : Dx cc pc (.ishl) 1 pc') (kx : J Γ p l e R s m args below meth c Q n ce sl pc' L (.int (iI ((2 ^ k : Nat) : Int)) :: S) ω κ) : J Γ p l e R s m args below meth c Q n ce sl pc L (.int (iI (k : Int)) :: .int (iI ((1 : Nat) : Int)) :: S) ω κ := by
  refine j_ishl C h d ?_
  rw [Nat.one_mul]; exact kx
/-- each boat has seats for two -/
def W2 (s : Row) : Prop := ∀ b : Nat, (b : Int) < s 2 → 2 ≤ sB s b 1
theorem W2.i {s : Row} (h : W2 s) {b : Int} (hb : 0 ≤ b ∧ b ≤ s 2 - 1) : 2 ≤ sB s b 1 := by
  obtain ⟨n, rfl⟩ := Int.eq_ofNat_of_zero_le hb.1
  exact h n (by omega)
theorem crw_lt {M : Int} {s : Row} (h : RI M s) (b : Int) : crw s b < 1024 := (crwUp_lt h b _).1
theorem sendUp_at {s : Row} {x : Nat} {b cox : Int} : ∀ (n y : Nat), (∀ k, k < n → y ≠ 8 + 7 * k + 1 ∧ y ≠ 8 + 7 * k + 3 ∧ y ≠ 8 + 7 * k + 5 ∧ y ≠ 8 + 7 * k + 6) → sendUp s x b cox n y = s y := by
  intro n
  induction n with
  | zero => intro y _; rfl
  | succ n ih =>
    intro y h
    have hn := h n (by omega)
    unfold sendUp
    split
    · rw [up_ne _ _ hn.2.2.2, up_ne _ _ hn.2.2.1, up_ne _ _ hn.2.1, up_ne _ _ hn.1]; exact ih y (fun k hk => h k (by omega))
    · exact ih y (fun k hk => h k (by omega))
theorem sendUp_RI {M : Int} {s : Row} (h : RI M s) {x : Nat} {b cox : Int} (hb : 0 ≤ b ∧ b < 3) (hM : M + 1 ≤ 100000000) : ∀ n, n ≤ 10 → RI (M + 1) (sendUp s x b cox n) := by
  intro n
  induction n with
  | zero => intro _; exact h.le (by omega) hM
  | succ n ih =>
    intro hn
    have h1 := ih (by omega)
    have e5 : sM (sendUp s x b cox n) n 5 = sM s n 5 := by rw [eM5, eM5]; exact sendUp_at n _ (fun k hk => by omega)
    have e6 : sM (sendUp s x b cox n) n 6 = sM s n 6 := by rw [eM6, eM6]; exact sendUp_at n _ (fun k hk => by omega)
    have gm := h.m n (by omega)
    unfold sendUp
    split
    · rw [e5, e6, ← tM1, ← tM3, ← tM5, ← tM6]
      refine RI.sm6 (RI.sm5 (RI.sm3 (RI.sm1 h1 (by omega) (by omega)) (by omega) (by omega)) (by omega) (by omega)) (by omega) ?_
      split <;> omega
    · exact h1
/-! rows copied -/
def cpy (p : Row) (f : Nat) (q : Row) (g n : Nat) : Row := fun y => if g ≤ y ∧ y < g + n then p (f + (y - g)) else q y
theorem cpy_0 (p : Row) (f : Nat) (q : Row) (g : Nat) : cpy p f q g 0 = q := by funext y; unfold cpy; rw [if_neg (by omega)]
theorem cpy_s (p : Row) (f : Nat) (q : Row) (g n : Nat) : up (cpy p f q g n) (g + n) (p (f + n)) = cpy p f q g (n + 1) := by
  funext y; simp only [cpy, up]; repeat' split
  all_goals (first | rfl | omega | (congr 1; omega))
theorem cpy_rd {ω : Wo} {a1 a2 f g n : Nat} (hd : a1 ≠ a2 ∨ g + 111 ≤ f) (hn : n < 111) : (wf ω a2 (cpy (ω.1 a1) f (ω.1 a2) g n)).1 a1 (f + n) = ω.1 a1 (f + n) := by
  by_cases h : a1 = a2
  · subst h
    rw [wf_same]; unfold cpy; rw [if_neg (by omega)]
  · rw [wf_ne _ _ h]
theorem cpy_full {p q : Row} (hp : ∀ y, 111 ≤ y → p y = 0) (hq : ∀ y, 111 ≤ y → q y = 0) : cpy p 0 q 0 111 = p := by
  funext y; unfold cpy
  by_cases h : y < 111
  · rw [if_pos (by omega)]; congr 1; omega
  · rw [if_neg (by omega), hp y (by omega), hq y (by omega)]
theorem RI.z {M : Int} {s : Row} (h : RI M s) : ∀ y, 111 ≤ y → s y = 0 := by
  intro y hy
  have := h.2.2 y
  have e1 : lo y = 0 := by unfold lo; rw [if_neg (by omega), if_neg (by omega), if_neg (by omega)]
  have e2 : hiC y = some 0 := by
    unfold hiC
    rw [if_neg (by omega), if_neg (by omega), if_neg (by omega), if_neg (by omega), if_neg (by omega), if_neg (by omega), if_neg (by omega), if_neg (by omega)]
  rw [e1, e2] at this
  have h2 : s y ≤ 0 := this.2
  omega
def shf (f : Row) (n : Nat) : Row := fun y => if y < 111 * n then f (y + 111) else f y
theorem shf_0 (f : Row) : shf f 0 = f := by funext y; unfold shf; rw [if_neg (by omega)]
theorem shf_s (f : Row) (n : Nat) : cpy (shf f n) (111 * (n + 1)) (shf f n) (111 * n) 111 = shf f (n + 1) := by
  funext y; simp only [cpy, shf]; repeat' split
  all_goals (first | rfl | omega | (congr 1; omega))
theorem up_up (f : Row) (k : Nat) (v w : Int) : up (up f k v) k w = up f k w := by
  funext y; simp only [up]; split <;> rfl
/-- a change is kept -/
def chg (ω : Wo) : Wo :=
  if ω.1 243 5 = 8 then wf (wf ω 248 (cpy (ω.1 245) 0 (shf (ω.1 248) 7) 777 111)) 243 (up (ω.1 243) 5 8)
  else wf (wf ω 248 (cpy (ω.1 245) 0 (ω.1 248) (111 * (ω.1 243 5).toNat) 111)) 243 (up (ω.1 243) 5 (ω.1 243 5 + 1))
def kp (ω : Wo) : Wo := wf (wf ω 245 (ω.1 244)) 243 (up (ω.1 243) 6 0)
/-- what a public deed of the reference makes: 'as' the number of the exception that stands for a refusal -/
def PubM (d : Nat) (as : Int) (ω : Wo) (a b : Int) (z : Int) (ω' : Wo) : Prop :=
  ((jd d (ω.1 244) a b).1 = 0 ∧ z = (ad d (ω.1 244) a b).1 ∧ ω' = chg (wf (kp ω) 244 (ad d (ω.1 244) a b).2)) ∨
  ((jd d (ω.1 244) a b).1 ≠ 0 ∧ z = 0 ∧ ω' = wf (wf ω 245 (ω.1 244)) 243 (up (up (up (up (ω.1 243) 7 (jd d (ω.1 244) a b).1) 8 (jd d (ω.1 244) a b).2) 9 0) 6 as))
theorem whyC_rg (s : Row) (b : Int) : whyC s b = 0 ∨ whyC s b = 8 ∨ whyC s b = 9 ∨ whyC s b = 10 := by
  unfold whyC; repeat' split
  all_goals simp
theorem whyN_rg (s : Row) (b : Int) (h : 0 < whyN s b) : whyN s b = 5 ∨ whyN s b = 7 ∨ whyN s b = 8 ∨ whyN s b = 9 ∨ whyN s b = 10 ∨ whyN s b = 11 := by
  have := whyC_rg s b
  unfold whyN at h ⊢
  repeat' split
  all_goals (first | omega | simp)
theorem whyN_10 (s : Row) (b : Int) (h : whyN s b = 10) : 0 ≤ lst s (ableS s) 2 := by
  have hc : whyC s b = 10 := by
    unfold whyN at h
    split at h
    · omega
    · split at h
      · omega
      · split at h
        · exact h
        · split at h <;> omega
  unfold whyC at hc
  split at hc
  · omega
  · omega
theorem whyN_0 {s : Row} {b : Int} (h : ¬ 0 < whyN s b) : whyC s b = 0 := by
  have := whyC_rg s b
  unfold whyN at h
  split at h
  · omega
  · split at h
    · omega
    · split at h
      · omega
      · omega
