/-! the class's choosing is the reference's -/
theorem bit_of_ne0 {x : Nat} (h : x ≠ 0) : ∃ k, x / 2 ^ k % 2 = 1 := by
  obtain ⟨i, hi⟩ := Nat.exists_testBit_of_ne_zero h
  exact ⟨i, (bt1_tb x i).mpr hi⟩
theorem bit_lt {x n k : Nat} (hx : x < 2 ^ n) (h : x / 2 ^ k % 2 = 1) : k < n := by
  refine Decidable.byContradiction fun q => ?_
  rw [Nat.div_eq_of_lt (Nat.lt_of_lt_of_le hx (Nat.pow_le_pow_right (show 0 < 2 by decide) (show n ≤ k by omega)))] at h
  exact absurd h (by decide)
theorem cox_none {M : Int} {s : Row} (hI : RI M s) : (ableS s &&& skS s 2 = 0) ↔ lst s (ableS s) 2 < 0 := by
  constructor
  · intro h
    refine Decidable.byContradiction fun q => ?_
    obtain ⟨l1, l2, l3⟩ := lst_bit (s := s) (x := ableS s) (sk := 2) (by omega)
    have : (ableS s &&& skS s 2) / 2 ^ (lst s (ableS s) 2).toNat % 2 = 1 := by
      rw [and_b1, skS_b1]
      refine ⟨l2, l1, ?_⟩
      rw [show ((lst s (ableS s) 2).toNat : Int) = lst s (ableS s) 2 by omega]; exact l3
    rw [h] at this
    simp at this
  · intro h
    refine Decidable.byContradiction fun q => ?_
    obtain ⟨k, hk⟩ := bit_of_ne0 q
    rw [and_b1, skS_b1] at hk
    have := (lst_min (x := ableS s) hk.2.1 hk.1 hk.2.2).1
    omega
theorem skl_bits {M : Int} {s : Row} (hI : RI M s) {x : Nat} (hx : x < 2 ^ cM s) : (bitsN (x &&& skS s 1) : Int) = skl s x := by
  have gc := hI.c
  have e : ∀ n, n ≤ cM s → (bitsUp (x &&& skS s 1) n : Int) = sklUp s x n := by
    intro n
    induction n with
    | zero => intro _; rfl
    | succ n ih =>
      intro hn
      have i := ih (by omega)
      have b := and_b1 x (skS s 1) n
      have c := skS_b1 s 1 n
      have m := Nat.mod_lt ((x &&& skS s 1) / 2 ^ n) (show 0 < 2 by decide)
      unfold bitsUp sklUp
      by_cases q : x / 2 ^ n % 2 = 1 ∧ 0 < sM s n 0
      · rw [if_pos q]
        have := b.mpr ⟨q.1, c.mpr ⟨by omega, by omega⟩⟩
        omega
      · rw [if_neg q]
        have : ¬ (x &&& skS s 1) / 2 ^ n % 2 = 1 := fun r => by
          have h1 := b.mp r
          have h2 := c.mp h1.2
          exact q ⟨h1.1, by omega⟩
        omega
  unfold bitsN skl
  rw [bits_stop (Nat.lt_of_le_of_lt Nat.and_le_left hx) 10 gc.1.2]
  exact e _ (Nat.le_refl _)
theorem skl_del {M : Int} {s : Row} (hI : RI M s) {x k : Nat} (hb : x / 2 ^ k % 2 = 1) (hk : k < cM s) (hs : 0 < sM s k 0) : skl s (del x k) = skl s x - 1 := by
  have gc := hI.c
  have e : ∀ n, n ≤ cM s → sklUp s (del x k) n = sklUp s x n - (if k < n then 1 else 0) := by
    intro n
    induction n with
    | zero => intro _; rfl
    | succ n ih =>
      intro hn
      have i := ih (by omega)
      have d := del_b1 x (k := k) (by omega) (j := n) (by omega)
      unfold sklUp
      rw [i]
      by_cases e : k = n
      · subst e
        rw [if_neg (by omega), if_neg (fun q => (d.mp q.1).2 rfl), if_pos ⟨hb, hs⟩, if_pos (by omega)]; omega
      · have d2 : (del x k / 2 ^ n % 2 = 1 ∧ 0 < sM s n 0) ↔ (x / 2 ^ n % 2 = 1 ∧ 0 < sM s n 0) := ⟨fun q => ⟨(d.mp q.1).1, q.2⟩, fun q => ⟨d.mpr ⟨q.1, e⟩, q.2⟩⟩
        by_cases q : x / 2 ^ n % 2 = 1 ∧ 0 < sM s n 0
        · rw [if_pos q, if_pos (d2.mpr q)]
          by_cases r : k < n
          · rw [if_pos r, if_pos (by omega)]; omega
          · rw [if_neg r, if_neg (by omega)]; omega
        · rw [if_neg q, if_neg (fun z => q (d2.mp z))]
          by_cases r : k < n
          · rw [if_pos r, if_pos (by omega)]; omega
          · rw [if_neg r, if_neg (by omega)]; omega
  unfold skl
  rw [e _ (Nat.le_refl _), if_pos hk]
/-- why no crew, in the class's numbers -/
theorem whyC_c {M : Int} {s : Row} (hI : RI M s) (b : Int) : whyC s b = (if ableS s &&& skS s 2 = 0 then 8 else if 0 < sB s b 1 - bitsN (ableS s) then 9 else if 0 < mustO s b + 1 - bitsN (ableS s &&& skS s 1) then 10 else 0) ∧
    lack s b (whyC s b) = (if ableS s &&& skS s 2 = 0 then 0 else if 0 < sB s b 1 - bitsN (ableS s) then sB s b 1 - bitsN (ableS s) else if 0 < mustO s b + 1 - bitsN (ableS s &&& skS s 1) then mustO s b + 1 - bitsN (ableS s &&& skS s 1) else 0) := by
  have hc := cox_none hI
  have hk := skl_bits hI (x := ableS s) (ableUp_lt s (cM s))
  by_cases h8 : lst s (ableS s) 2 < 0
  · have e : whyC s b = 8 := by unfold whyC; rw [if_pos h8]
    rw [e, if_pos (hc.mpr h8), if_pos (hc.mpr h8)]
    exact ⟨rfl, rfl⟩
  · rw [if_neg (fun q => h8 (hc.mp q)), if_neg (fun q => h8 (hc.mp q))]
    obtain ⟨l1, l2, l3⟩ := lst_bit (s := s) (x := ableS s) (sk := 2) (by omega)
    have hd := skl_del hI l2 l1 (by rw [show ((lst s (ableS s) 2).toNat : Int) = lst s (ableS s) 2 by omega]; omega)
    by_cases h9 : (bitsN (ableS s) : Int) < sB s b 1
    · have e : whyC s b = 9 := by unfold whyC; rw [if_neg h8, if_pos h9]
      have c9 : 0 < sB s b 1 - (bitsN (ableS s) : Int) := by omega
      rw [e, if_pos c9, if_pos c9]
      exact ⟨rfl, rfl⟩
    · have n9 : ¬ 0 < sB s b 1 - (bitsN (ableS s) : Int) := by omega
      rw [if_neg n9, if_neg n9]
      by_cases h10 : skl s (del (ableS s) (lst s (ableS s) 2).toNat) < mustO s b
      · have e : whyC s b = 10 := by unfold whyC; rw [if_neg h8, if_neg h9, if_pos h10]
        have c10 : 0 < mustO s b + 1 - (bitsN (ableS s &&& skS s 1) : Int) := by omega
        rw [e, if_pos c10, if_pos c10]
        refine ⟨rfl, ?_⟩
        show mustO s b - skl s (del (ableS s) (lst s (ableS s) 2).toNat) = _
        omega
      · have e : whyC s b = 0 := by unfold whyC; rw [if_neg h8, if_neg h9, if_neg h10]
        have n10 : ¬ 0 < mustO s b + 1 - (bitsN (ableS s &&& skS s 1) : Int) := by omega
        rw [e, if_neg n10, if_neg n10]
        exact ⟨rfl, rfl⟩
/-- the steps of filling up are the reference's choices -/
theorem fl_1 {M : Int} {s : Row} (hI : RI M s) {b : Int} (hk : crOk s b) : flUp s 0 (ableS s &&& skS s 2) 1 = (crwUp s b 0).1 := by
  have gc := hI.c
  have e : lst s ((ableS s &&& skS s 2) &&& (4294967295 - flUp s 0 (ableS s &&& skS s 2) 0)) 0 = lst s (ableS s) 2 := by
    rw [← lst_and hI (ableS s) 2]
    refine lstUp_eq _ (fun k hk => ?_)
    show ((ableS s &&& skS s 2) &&& (4294967295 - 0)) / 2 ^ k % 2 = 1 ∧ _ ↔ _
    rw [and_b1, not_b1 0 (by decide) k (by omega)]
    simp
  have h0 := hk.1
  show (if _ then _ else _) = _
  rw [e, if_neg (by omega)]
  show 0 ||| _ = _
  rw [Nat.zero_or]; rfl
theorem fl_sk {M : Int} {s : Row} (hI : RI M s) {b : Int} (hk : crOk s b) {n : Nat} (hn : (n : Int) ≤ sB s b 1 - 1) : lst s ((ableS s &&& skS s 1) &&& (4294967295 - (crwUp s b n).1)) 0 = lst s (crwUp s b n).2 1 := by
  have gc := hI.c
  have hl := crwUp_lt hI b n
  refine lstUp_eq _ (fun k hkc => ?_)
  have gm := (hI.m k (by omega)).1
  rw [and_b1, and_b1, skS_b1, not_b1 _ (by omega) k (by omega), ((crw_sets hI hk n hn).1 k (by omega)).2]
  constructor
  · rintro ⟨⟨⟨q1, q2, q3⟩, q4⟩, -⟩; exact ⟨⟨q1, q4⟩, q3⟩
  · rintro ⟨⟨q1, q4⟩, q3⟩; exact ⟨⟨⟨q1, hkc, q3⟩, q4⟩, gm.1⟩
theorem fl_al {M : Int} {s : Row} (hI : RI M s) {b : Int} (hk : crOk s b) {n : Nat} (hn : (n : Int) ≤ sB s b 1 - 1) : lst s (ableS s &&& (4294967295 - (crwUp s b n).1)) 0 = lst s (crwUp s b n).2 0 := by
  have gc := hI.c
  have hl := crwUp_lt hI b n
  refine lstUp_eq _ (fun k hkc => ?_)
  rw [and_b1, not_b1 _ (by omega) k (by omega), ((crw_sets hI hk n hn).1 k (by omega)).2]
theorem fl_2 {M : Int} {s : Row} (hI : RI M s) {b : Int} (hk : crOk s b) : ∀ n : Nat, (n : Int) ≤ mustO s b → (n : Int) ≤ sB s b 1 - 1 → flUp s (crwUp s b 0).1 (ableS s &&& skS s 1) n = (crwUp s b n).1 := by
  intro n
  induction n with
  | zero => intro _ _; rfl
  | succ n ih =>
    intro h1 h2
    have i := ih (by omega) (by omega)
    have hn := hk.2 n (by omega)
    rw [if_pos (by omega)] at hn
    show (if _ then _ else _) = _
    rw [i, fl_sk hI hk (by omega), if_neg (by omega)]
    show _ = (crwUp s b n).1 ||| _
    rw [if_pos (by omega)]
theorem fl_3 {M : Int} {s : Row} (hI : RI M s) {b : Int} (hk : crOk s b) (m : Nat) (hm : (m : Int) = mustO s b) : ∀ n : Nat, (m : Int) + n ≤ sB s b 1 - 1 → flUp s (crwUp s b m).1 (ableS s) n = (crwUp s b (m + n)).1 := by
  intro n
  induction n with
  | zero => intro _; rfl
  | succ n ih =>
    intro h2
    have i := ih (by omega)
    have hn := hk.2 (m + n) (by omega)
    rw [if_neg (by omega)] at hn
    show (if _ then _ else _) = _
    rw [i, fl_al hI hk (by omega), if_neg (by omega)]
    show _ = (crwUp s b (m + n)).1 ||| 2 ^ (lst s (crwUp s b (m + n)).2 (if ((m + n : Nat) : Int) < mustO s b then 1 else 0)).toNat
    rw [if_neg (by omega)]
theorem Bs_mid {B a : Nat} (h : Bs B) (h1 : 64 ≤ a) (h2 : a < 75) : a < B ∨ B + 21 ≤ a := by
  unfold Bs bsB at h
  simp only [Bool.or_eq_true, Bool.and_eq_true, beq_iff_eq, decide_eq_true_eq] at h
  omega
theorem RF_0 (ω : Wo) (a : Nat) (n d : Int) : (RF ω a n d).1 a 0 = n := by unfold RF; rw [wf_same, up_ne _ _ (by decide), up_same]
theorem RF_1 (ω : Wo) (a : Nat) (n d : Int) : (RF ω a n d).1 a 1 = d := by unfold RF; rw [wf_same, up_same]
theorem RF_RF (ω : Wo) (a : Nat) (n d x y : Int) : RF (RF ω a n d) a x y = RF ω a x y := by
  unfold RF
  rw [wf_wf, wf_same]
  congr 1
  funext y
  simp only [up]
  repeat' split
  all_goals (first | rfl | omega)
theorem St.rf {ω : Wo} {B : Nat} {s : Row} {M : Int} (h : St ω B s) (hB : Bs B) (hI : RI M s) {n d : Int} : St (RF ω 67 n d) B s := h.wx hI.cc (Bs_mid hB (by decide) (by decide))
theorem jdE {ω : Wo} {d : Nat} {s : Row} {a b r t : Int} (e : jd d s a b = (r, t)) : RF ω 67 r t = RF ω 67 (jd d s a b).1 (jd d s a b).2 := by rw [e]
