/-! the class's choosing is the reference's -/
theorem bit_of_ne0 {x : Nat} (h : x ≠ 0) : ∃ k, x / 2 ^ k % 2 = 1 := by
  obtain ⟨i, hi⟩ := Nat.exists_testBit_of_ne_zero h
  exact ⟨i, (bt1_tb x i).mpr hi⟩
theorem bit_lt {x n k : Nat} (hx : x < 2 ^ n) (h : x / 2 ^ k % 2 = 1) : k < n := by
  refine Decidable.byContradiction fun q => ?_
  rw [Nat.div_eq_of_lt (Nat.lt_of_lt_of_le hx (Nat.pow_le_pow_right (show 0 < 2 by decide) (show n ≤ k by omega)))] at h
  exact absurd h (by decide)
theorem cox_none {M : Int} {s : Row} (hI : RI M s) : (ableS s &&& skS s 2 = 0) ↔ lst s (ableS s) 2 < 0 := by
  constructor
  · intro h
    refine Decidable.byContradiction fun q => ?_
    obtain ⟨l1, l2, l3⟩ := lst_bit (s := s) (x := ableS s) (sk := 2) (by omega)
    have : (ableS s &&& skS s 2) / 2 ^ (lst s (ableS s) 2).toNat % 2 = 1 := by
      rw [and_b1, skS_b1]
      refine ⟨l2, l1, ?_⟩
      rw [show ((lst s (ableS s) 2).toNat : Int) = lst s (ableS s) 2 by omega]; exact l3
    rw [h] at this
    simp at this
  · intro h
    refine Decidable.byContradiction fun q => ?_
    obtain ⟨k, hk⟩ := bit_of_ne0 q
    rw [and_b1, skS_b1] at hk
    have := (lst_min (x := ableS s) hk.2.1 hk.1 hk.2.2).1
    omega
theorem skl_bits {M : Int} {s : Row} (hI : RI M s) {x : Nat} (hx : x < 2 ^ cM s) : (bitsN (x &&& skS s 1) : Int) = skl s x := by
  have gc := hI.c
  have e : ∀ n, n ≤ cM s → (bitsUp (x &&& skS s 1) n : Int) = sklUp s x n := by
    intro n
    induction n with
    | zero => intro _; rfl
    | succ n ih =>
      intro hn
      have i := ih (by omega)
      have b := and_b1 x (skS s 1) n
      have c := skS_b1 s 1 n
      have m := Nat.mod_lt ((x &&& skS s 1) / 2 ^ n) (show 0 < 2 by decide)
      unfold bitsUp sklUp
      by_cases q : x / 2 ^ n % 2 = 1 ∧ 0 < sM s n 0
      · rw [if_pos q]
        have := b.mpr ⟨q.1, c.mpr ⟨by omega, by omega⟩⟩
        omega
      · rw [if_neg q]
        have : ¬ (x &&& skS s 1) / 2 ^ n % 2 = 1 := fun r => by
          have h1 := b.mp r
          have h2 := c.mp h1.2
          exact q ⟨h1.1, by omega⟩
        omega
  unfold bitsN skl
  rw [bits_stop (Nat.lt_of_le_of_lt Nat.and_le_left hx) 10 gc.1.2]
  exact e _ (Nat.le_refl _)
theorem skl_del {M : Int} {s : Row} (hI : RI M s) {x k : Nat} (hb : x / 2 ^ k % 2 = 1) (hk : k < cM s) (hs : 0 < sM s k 0) : skl s (del x k) = skl s x - 1 := by
  have gc := hI.c
  have e : ∀ n, n ≤ cM s → sklUp s (del x k) n = sklUp s x n - (if k < n then 1 else 0) := by
    intro n
    induction n with
    | zero => intro _; rfl
    | succ n ih =>
      intro hn
      have i := ih (by omega)
      have d := del_b1 x (k := k) (by omega) (j := n) (by omega)
      unfold sklUp
      rw [i]
      by_cases e : k = n
      · subst e
        rw [if_neg (by omega), if_neg (fun q => (d.mp q.1).2 rfl), if_pos ⟨hb, hs⟩, if_pos (by omega)]; omega
      · have d2 : (del x k / 2 ^ n % 2 = 1 ∧ 0 < sM s n 0) ↔ (x / 2 ^ n % 2 = 1 ∧ 0 < sM s n 0) := ⟨fun q => ⟨(d.mp q.1).1, q.2⟩, fun q => ⟨d.mpr ⟨q.1, e⟩, q.2⟩⟩
        by_cases q : x / 2 ^ n % 2 = 1 ∧ 0 < sM s n 0
        · rw [if_pos q, if_pos (d2.mpr q)]
          by_cases r : k < n
          · rw [if_pos r, if_pos (by omega)]; omega
          · rw [if_neg r, if_neg (by omega)]; omega
        · rw [if_neg q, if_neg (fun z => q (d2.mp z))]
          by_cases r : k < n
          · rw [if_pos r, if_pos (by omega)]; omega
          · rw [if_neg r, if_neg (by omega)]; omega
  unfold skl
  rw [e _ (Nat.le_refl _), if_pos hk]
/-- why no crew, in the class's numbers -/
theorem whyC_c {M : Int} {s : Row} (hI : RI M s) (b : Int) : whyC s b = (if ableS s &&& skS s 2 = 0 then 8 else if 0 < sB s b 1 - bitsN (ableS s) then 9 else if 0 < mustO s b + 1 - bitsN (ableS s &&& skS s 1) then 10 else 0) ∧
    lack s b (whyC s b) = (if ableS s &&& skS s 2 = 0 then 0 else if 0 < sB s b 1 - bitsN (ableS s) then sB s b 1 - bitsN (ableS s) else if 0 < mustO s b + 1 - bitsN (ableS s &&& skS s 1) then mustO s b + 1 - bitsN (ableS s &&& skS s 1) else 0) := by
  have hc := cox_none hI
  have hk := skl_bits hI (x := ableS s) (ableUp_lt s (cM s))
  by_cases h8 : lst s (ableS s) 2 < 0
  · have e : whyC s b = 8 := by unfold whyC; rw [if_pos h8]
    rw [e, if_pos (hc.mpr h8), if_pos (hc.mpr h8)]
    exact ⟨rfl, rfl⟩
  · rw [if_neg (fun q => h8 (hc.mp q)), if_neg (fun q => h8 (hc.mp q))]
    obtain ⟨l1, l2, l3⟩ := lst_bit (s := s) (x := ableS s) (sk := 2) (by omega)
    have hd := skl_del hI l2 l1 (by rw [show ((lst s (ableS s) 2).toNat : Int) = lst s (ableS s) 2 by omega]; omega)
    by_cases h9 : (bitsN (ableS s) : Int) < sB s b 1
    · have e : whyC s b = 9 := by unfold whyC; rw [if_neg h8, if_pos h9]
      have c9 : 0 < sB s b 1 - (bitsN (ableS s) : Int) := by omega
      rw [e, if_pos c9, if_pos c9]
      exact ⟨rfl, rfl⟩
    · have n9 : ¬ 0 < sB s b 1 - (bitsN (ableS s) : Int) := by omega
      rw [if_neg n9, if_neg n9]
      by_cases h10 : skl s (del (ableS s) (lst s (ableS s) 2).toNat) < mustO s b
      · have e : whyC s b = 10 := by unfold whyC; rw [if_neg h8, if_neg h9, if_pos h10]
        have c10 : 0 < mustO s b + 1 - (bitsN (ableS s &&& skS s 1) : Int) := by omega
        rw [e, if_pos c10, if_pos c10]
        refine ⟨rfl, ?_⟩
        show mustO s b - skl s (del (ableS s) (lst s (ableS s) 2).toNat) = _
        omega
      · have e : whyC s b = 0 := by unfold whyC; rw [if_neg h8, if_neg h9, if_neg h10]
        have n10 : ¬ 0 < mustO s b + 1 - (bitsN (ableS s &&& skS s 1) : Int) := by omega
        rw [e, if_neg n10, if_neg n10]
        exact ⟨rfl, rfl⟩
/-- the steps of filling up are the reference's choices -/
theorem fl_1 {M : Int} {s : Row} (hI : RI M s) {b : Int} (hk : crOk s b) : flUp s 0 (ableS s &&& skS s 2) 1 = (crwUp s b 0).1 := by
  have gc := hI.c
  have e : lst s ((ableS s &&& skS s 2) &&& (4294967295 - flUp s 0 (ableS s &&& skS s 2) 0)) 0 = lst s (ableS s) 2 := by
    rw [← lst_and hI (ableS s) 2]
    refine lstUp_eq _ (fun k hk => ?_)
    show ((ableS s &&& skS s 2) &&& (4294967295 - 0)) / 2 ^ k % 2 = 1 ∧ _ ↔ _
    rw [and_b1, not_b1 0 (by decide) k (by omega)]
    simp
  have h0 := hk.1
  show (if _ then _ else _) = _
  rw [e, if_neg (by omega)]
  show 0 ||| _ = _
  rw [Nat.zero_or]; rfl
theorem fl_sk {M : Int} {s : Row} (hI : RI M s) {b : Int} (hk : crOk s b) {n : Nat} (hn : (n : Int) ≤ sB s b 1 - 1) : lst s ((ableS s &&& skS s 1) &&& (4294967295 - (crwUp s b n).1)) 0 = lst s (crwUp s b n).2 1 := by
  have gc := hI.c
  have hl := crwUp_lt hI b n
  refine lstUp_eq _ (fun k hkc => ?_)
  have gm := (hI.m k (by omega)).1
  rw [and_b1, and_b1, skS_b1, not_b1 _ (by omega) k (by omega), ((crw_sets hI hk n hn).1 k (by omega)).2]
  constructor
  · rintro ⟨⟨⟨q1, q2, q3⟩, q4⟩, -⟩; exact ⟨⟨q1, q4⟩, q3⟩
  · rintro ⟨⟨q1, q4⟩, q3⟩; exact ⟨⟨⟨q1, hkc, q3⟩, q4⟩, gm.1⟩
theorem fl_al {M : Int} {s : Row} (hI : RI M s) {b : Int} (hk : crOk s b) {n : Nat} (hn : (n : Int) ≤ sB s b 1 - 1) : lst s (ableS s &&& (4294967295 - (crwUp s b n).1)) 0 = lst s (crwUp s b n).2 0 := by
  have gc := hI.c
  have hl := crwUp_lt hI b n
  refine lstUp_eq _ (fun k hkc => ?_)
  rw [and_b1, not_b1 _ (by omega) k (by omega), ((crw_sets hI hk n hn).1 k (by omega)).2]
theorem fl_2 {M : Int} {s : Row} (hI : RI M s) {b : Int} (hk : crOk s b) : ∀ n : Nat, (n : Int) ≤ mustO s b → (n : Int) ≤ sB s b 1 - 1 → flUp s (crwUp s b 0).1 (ableS s &&& skS s 1) n = (crwUp s b n).1 := by
  intro n
  induction n with
  | zero => intro _ _; rfl
  | succ n ih =>
    intro h1 h2
    have i := ih (by omega) (by omega)
    have hn := hk.2 n (by omega)
    rw [if_pos (by omega)] at hn
    show (if _ then _ else _) = _
    rw [i, fl_sk hI hk (by omega), if_neg (by omega)]
    show _ = (crwUp s b n).1 ||| _
    rw [if_pos (by omega)]
theorem fl_3 {M : Int} {s : Row} (hI : RI M s) {b : Int} (hk : crOk s b) (m : Nat) (hm : (m : Int) = mustO s b) : ∀ n : Nat, (m : Int) + n ≤ sB s b 1 - 1 → flUp s (crwUp s b m).1 (ableS s) n = (crwUp s b (m + n)).1 := by
  intro n
  induction n with
  | zero => intro _; rfl
  | succ n ih =>
    intro h2
    have i := ih (by omega)
    have hn := hk.2 (m + n) (by omega)
    rw [if_neg (by omega)] at hn
    show (if _ then _ else _) = _
    rw [i, fl_al hI hk (by omega), if_neg (by omega)]
    show _ = (crwUp s b (m + n)).1 ||| 2 ^ (lst s (crwUp s b (m + n)).2 (if ((m + n : Nat) : Int) < mustO s b then 1 else 0)).toNat
    rw [if_neg (by omega)]
theorem Bs_mid {B a : Nat} (h : Bs B) (h1 : 64 ≤ a) (h2 : a < 75) : a < B ∨ B + 21 ≤ a := by
  unfold Bs bsB at h
  simp only [Bool.or_eq_true, Bool.and_eq_true, beq_iff_eq, decide_eq_true_eq] at h
  omega
theorem RF_0 (ω : Wo) (a : Nat) (n d : Int) : (RF ω a n d).1 a 0 = n := by unfold RF; rw [wf_same, up_ne _ _ (by decide), up_same]
theorem RF_1 (ω : Wo) (a : Nat) (n d : Int) : (RF ω a n d).1 a 1 = d := by unfold RF; rw [wf_same, up_same]
theorem RF_RF (ω : Wo) (a : Nat) (n d x y : Int) : RF (RF ω a n d) a x y = RF ω a x y := by
  unfold RF
  rw [wf_wf, wf_same]
  congr 1
  funext y
  simp only [up]
  repeat' split
  all_goals (first | rfl | omega)
theorem St.rf {ω : Wo} {B : Nat} {s : Row} {M : Int} (h : St ω B s) (hB : Bs B) (hI : RI M s) {n d : Int} : St (RF ω 67 n d) B s := h.wx hI.cc (Bs_mid hB (by decide) (by decide))
theorem jdE {ω : Wo} {d : Nat} {s : Row} {a b r t : Int} (e : jd d s a b = (r, t)) : RF ω 67 r t = RF ω 67 (jd d s a b).1 (jd d s a b).2 := by rw [e]
/-- places in an order, as the class counts them -/
def cbUp (s : Row) (x k : Nat) : Nat → Int
  | 0 => 0
  | n + 1 => cbUp s x k n + (if x / 2 ^ n % 2 = 1 ∧ lessP s n k then 1 else 0)
def cbUpB (s : Row) (x k : Nat) : Nat → Int
  | 0 => 0
  | n + 1 => cbUpB s x k n + (if x / 2 ^ n % 2 = 1 ∧ busyP s n k then 1 else 0)
theorem cbUp_rg (s : Row) (x k : Nat) : ∀ n, 0 ≤ cbUp s x k n ∧ cbUp s x k n ≤ n := by
  intro n
  induction n with
  | zero => simp [cbUp]
  | succ n ih => unfold cbUp; split <;> omega
theorem cbUpB_rg (s : Row) (x k : Nat) : ∀ n, 0 ≤ cbUpB s x k n ∧ cbUpB s x k n ≤ n := by
  intro n
  induction n with
  | zero => simp [cbUpB]
  | succ n ih => unfold cbUpB; split <;> omega
def mpUp (s : Row) (x : Nat) (p : Int) : Nat → Nat → Int
  | 0, _ => -1
  | f + 1, k => if x / 2 ^ k % 2 = 1 ∧ cbUp s x k (cM s) = p then (k : Int) else mpUp s x p f (k + 1)
def mpUpB (s : Row) (x : Nat) (p : Int) : Nat → Nat → Int
  | 0, _ => -1
  | f + 1, k => if x / 2 ^ k % 2 = 1 ∧ cbUpB s x k (cM s) = p then (k : Int) else mpUpB s x p f (k + 1)
theorem mpUp_t {s : Row} {x : Nat} {p : Int} {f k : Nat} (h : x / 2 ^ k % 2 = 1 ∧ cbUp s x k (cM s) = p) : mpUp s x p (f + 1) k = k := by show (if _ then _ else _) = _; rw [if_pos h]
theorem mpUp_f {s : Row} {x : Nat} {p : Int} {f k : Nat} (h : ¬ (x / 2 ^ k % 2 = 1 ∧ cbUp s x k (cM s) = p)) : mpUp s x p (f + 1) k = mpUp s x p f (k + 1) := by show (if _ then _ else _) = _; rw [if_neg h]
theorem mpUpB_t {s : Row} {x : Nat} {p : Int} {f k : Nat} (h : x / 2 ^ k % 2 = 1 ∧ cbUpB s x k (cM s) = p) : mpUpB s x p (f + 1) k = k := by show (if _ then _ else _) = _; rw [if_pos h]
theorem mpUpB_f {s : Row} {x : Nat} {p : Int} {f k : Nat} (h : ¬ (x / 2 ^ k % 2 = 1 ∧ cbUpB s x k (cM s) = p)) : mpUpB s x p (f + 1) k = mpUpB s x p f (k + 1) := by show (if _ then _ else _) = _; rw [if_neg h]
theorem cb_st {M : Int} {s : Row} (hI : RI M s) (h : WI s) (k : Nat) : ∀ n, n ≤ cM s → cbUp s (stS s) k n = aheadUp s k n := by
  intro n
  induction n with
  | zero => intro _; rfl
  | succ n ih =>
    intro hn
    have b := stS_b1 hI h n
    unfold cbUp aheadUp
    rw [ih (by omega)]
    by_cases q : n ≠ k ∧ sM s n 1 ≠ 2 ∧ lessP s n k
    · rw [if_pos q, if_pos ⟨b.mpr ⟨by omega, q.2.1⟩, q.2.2⟩]
    · rw [if_neg q, if_neg (fun r => q ⟨fun e => by subst e; exact absurd r.2 (by unfold lessP; omega), (b.mp r.1).2, r.2⟩)]
theorem cb_ev {s : Row} (k : Nat) : ∀ n, n ≤ cM s → cbUpB s (2 ^ cM s - 1) k n = aheadUpB s k n := by
  intro n
  induction n with
  | zero => intro _; rfl
  | succ n ih =>
    intro hn
    unfold cbUpB aheadUpB
    rw [ih (by omega)]
    by_cases q : n ≠ k ∧ busyP s n k
    · rw [if_pos q, if_pos ⟨ev_b1.mpr (by omega), q.2⟩]
    · rw [if_neg q, if_neg (fun r => q ⟨fun e => by subst e; exact absurd r.2 (by unfold busyP; omega), r.2⟩)]
theorem mp_st {M : Int} {s : Row} (hI : RI M s) (h : WI s) (p : Int) : ∀ f k, f + k = cM s → mpUp s (stS s) p f k = leastUp s p f k := by
  intro f
  induction f with
  | zero => intro k _; rfl
  | succ f ih =>
    intro k hk
    have b := stS_b1 hI h k
    have c := cb_st hI h k (cM s) (Nat.le_refl _)
    unfold mpUp leastUp
    rw [c, ih (k + 1) (by omega)]
    by_cases q : sM s k 1 ≠ 2 ∧ aheadUp s k (cM s) = p
    · rw [if_pos q, if_pos ⟨b.mpr ⟨by omega, q.1⟩, q.2⟩]
    · rw [if_neg q, if_neg (fun r => q ⟨(b.mp r.1).2, r.2⟩)]
theorem mp_ev {s : Row} (p : Int) : ∀ f k, f + k = cM s → mpUpB s (2 ^ cM s - 1) p f k = busyUp s p f k := by
  intro f
  induction f with
  | zero => intro k _; rfl
  | succ f ih =>
    intro k hk
    have c := cb_ev (s := s) k (cM s) (Nat.le_refl _)
    unfold mpUpB busyUp
    rw [c, ih (k + 1) (by omega)]
    by_cases q : aheadUpB s k (cM s) = p
    · rw [if_pos q, if_pos ⟨ev_b1.mpr (by omega), q⟩]
    · rw [if_neg q, if_neg (fun r => q r.2)]
/-- every crew is tried -/
abbrev okC (s : Row) (b : Int) (x : Nat) : Prop := (x &&& (4294967295 - ableS s) = 0 ∧ (bitsN x : Int) = sB s b 1) ∧ x &&& skS s 2 ≠ 0 ∧ mustO s b < bitsN (x &&& skS s 1)
def lwUp (s : Row) (b : Int) : Nat → Int
  | 0 => wsUp s (ableS s) (cM s)
  | n + 1 => if okC s b (n + 1) then min (lwUp s b n) (wsUp s (n + 1) (cM s)) else lwUp s b n
theorem lwUp_rg {M : Int} {s : Row} (hI : RI M s) (b : Int) : ∀ n, 0 ≤ lwUp s b n ∧ lwUp s b n ≤ 2147483647 := by
  intro n
  induction n with
  | zero =>
    have := wsUp_rg hI (ableS s) (cM s) hI.c.1.2
    have := hI.c.1.2
    unfold lwUp
    omega
  | succ n ih =>
    have := wsUp_rg hI (n + 1) (cM s) hI.c.1.2
    unfold lwUp
    split <;> omega
section LDC
variable {κ : Nat → Nat} {Γ : Ga} {p : Program} {l : Launch} {e : Env} {R : Room} {s : State} {m : MethodId} {args : Array Value} {below : List Frame} {meth : Method} {c : Code} {Q : State → Prop} {n ce sl : Nat} {cc : ByteArray} {own : String} {nL pc pc' : Nat} {L : List (Option Value)} {S : List Value} {ω : Wo}
theorem j_ldc (C : Cx Γ p l s m args meth c cc own nL) {idx : Nat} {z : Int} (h : Cond.constant own idx (iI z) ∈ WS) (d : Dx cc pc (.ldc idx) 2 pc') (kk : J Γ p l e R s m args below meth c Q n ce sl pc' L (.int (iI z) :: S) ω κ) : J Γ p l e R s m args below meth c Q n ce sl pc L S ω κ := by
  intro H locs ls hP hS hl; obtain ⟨hd, rfl⟩ := d; exact lv_ldc C.1 C.2.1 C.2.2.2.1 (C.2.2.2.2.1 _ h) hd (kk H locs ls hP hS hl)
end LDC
theorem jd2_a {s : Row} {a : Int} (h : (jd 1 s a 0).1 ≠ 0) : jd 2 s a 0 = jd 1 s a 0 := if_pos h
theorem jd2_b {s : Row} {a : Int} (h : (jd 1 s a 0).1 = 0) (h2 : sM s a 0 = 2) : jd 2 s a 0 = (6, 0) := by
  show (if (jA s a).1 ≠ 0 then _ else _) = _
  rw [if_neg (fun q => q h), if_pos h2]
theorem jd2_c {s : Row} {a : Int} (h : (jd 1 s a 0).1 = 0) (h2 : sM s a 0 ≠ 2) : jd 2 s a 0 = (0, 0) ∧ jd 1 s a 0 = (0, 0) := by
  refine ⟨?_, (jA_ok h).2.2.2⟩
  show (if (jA s a).1 ≠ 0 then _ else _) = _
  rw [if_neg (fun q => q h), if_neg h2]
theorem jd4_3 {s : Row} {a b : Int} (h : ¬ (0 ≤ a ∧ a ≤ s 2 - 1)) : jd 4 s a b = (3, a) := if_pos h
theorem jd4_1 {s : Row} {a b : Int} (h : 0 ≤ a ∧ a ≤ s 2 - 1) (h2 : ¬ (1 ≤ b ∧ b ≤ 9)) : jd 4 s a b = (1, 0) := by
  show (if _ then _ else _) = _
  rw [if_neg (fun q => q h), if_pos h2]
theorem jd4_r {s : Row} {a b r t : Int} (h : 0 ≤ a ∧ a ≤ s 2 - 1) (h2 : 1 ≤ b ∧ b ≤ 9) (e : whyN s a = r) (hr : 0 < r) (el : lack s a r = t) : jd 4 s a b = (r, t) := by
  show (if _ then _ else _) = _
  rw [if_neg (fun q => q h), if_neg (fun q => q h2), e, if_pos hr, el]
theorem jd4_z {s : Row} {a b : Int} (h : 0 ≤ a ∧ a ≤ s 2 - 1) (h2 : 1 ≤ b ∧ b ≤ 9) (e : whyN s a = 0) : jd 4 s a b = (0, 0) := by
  show (if _ then _ else _) = _
  rw [if_neg (fun q => q h), if_neg (fun q => q h2), e, if_neg (by decide)]
theorem whyN_5 {s : Row} {b : Int} (h : sB s b 2 = 1) : whyN s b = 5 := if_pos h
theorem whyN_7 {s : Row} {b : Int} (h : sB s b 2 ≠ 1) (h7 : hgt (s 0) < sB s b 0) : whyN s b = 7 := by unfold whyN; rw [if_neg h, if_pos h7]
theorem whyN_w {s : Row} {b : Int} (h : sB s b 2 ≠ 1) (h7 : ¬ hgt (s 0) < sB s b 0) (hc : 0 < whyC s b) : whyN s b = whyC s b := by unfold whyN; rw [if_neg h, if_neg h7, if_pos hc]
theorem whyN_11 {s : Row} {b : Int} (h : sB s b 2 ≠ 1) (h7 : ¬ hgt (s 0) < sB s b 0) (hc : ¬ 0 < whyC s b) (hf : freeO s < sB s b 1 - 1) : whyN s b = 11 := by unfold whyN; rw [if_neg h, if_neg h7, if_neg hc, if_pos hf]
theorem whyN_z {s : Row} {b : Int} (h : sB s b 2 ≠ 1) (h7 : ¬ hgt (s 0) < sB s b 0) (hc : ¬ 0 < whyC s b) (hf : ¬ freeO s < sB s b 1 - 1) : whyN s b = 0 := by unfold whyN; rw [if_neg h, if_neg h7, if_neg hc, if_neg hf]
theorem lack_0 (s : Row) (b : Int) : lack s b 0 = 0 := rfl
theorem jcE_8 {ω : Wo} {M : Int} {s : Row} (hI : RI M s) {b : Int} (h : ableS s &&& skS s 2 = 0) : RF ω 67 8 0 = RF ω 67 (whyC s b) (lack s b (whyC s b)) := by
  have hw := whyC_c hI b
  rw [hw.2, hw.1, if_pos h, if_pos h]
theorem jcE_9 {ω : Wo} {M : Int} {s : Row} (hI : RI M s) {b : Int} (h : ¬ ableS s &&& skS s 2 = 0) (h9 : 0 < sB s b 1 - (bitsN (ableS s) : Int)) : RF ω 67 9 (sB s b 1 - (bitsN (ableS s) : Int)) = RF ω 67 (whyC s b) (lack s b (whyC s b)) := by
  have hw := whyC_c hI b
  rw [hw.2, hw.1, if_neg h, if_neg h, if_pos h9, if_pos h9]
theorem jcE_10 {ω : Wo} {M : Int} {s : Row} (hI : RI M s) {b v : Int} (h : ¬ ableS s &&& skS s 2 = 0) (h9 : ¬ 0 < sB s b 1 - (bitsN (ableS s) : Int)) (hv : v = mustO s b + 1 - (bitsN (ableS s &&& skS s 1) : Int)) (h10 : 0 < v) : RF ω 67 10 v = RF ω 67 (whyC s b) (lack s b (whyC s b)) := by
  have hw := whyC_c hI b
  rw [hv] at h10 ⊢
  rw [hw.2, hw.1, if_neg h, if_neg h, if_neg h9, if_neg h9, if_pos h10, if_pos h10]
theorem jcE_0 {ω : Wo} {M : Int} {s : Row} (hI : RI M s) {b : Int} (h : ¬ ableS s &&& skS s 2 = 0) (h9 : ¬ 0 < sB s b 1 - (bitsN (ableS s) : Int)) (h10 : ¬ 0 < mustO s b + 1 - (bitsN (ableS s &&& skS s 1) : Int)) : RF ω 67 0 0 = RF ω 67 (whyC s b) (lack s b (whyC s b)) := by
  have hw := whyC_c hI b
  rw [hw.2, hw.1, if_neg h, if_neg h, if_neg h9, if_neg h9, if_neg h10, if_neg h10]
section MATH
variable {κ : Nat → Nat} {Γ : Ga} {p : Program} {l : Launch} {e : Env} {s : State} {m : MethodId} {args : Array Value} {below : List Frame} {meth : Method} {c : Code} {Q : State → Prop} {n ce sl : Nat} {cc : ByteArray} {own : String} {nL pc pc' D mx sx : Nat} {L : List (Option Value)} {S : List Value} {ω : Wo}
theorem min_n : yJ9_min_7cf53 = Lib.Math.min.name := by decide
theorem max_n : yJ9_max_7cf53 = Lib.Math.max.name := by decide
theorem min_c : cJ9_min_7cf53 = Lib.Math.min.code := by decide +kernel
theorem max_c : cJ9_max_7cf53 = Lib.Math.max.code := by decide +kernel
theorem j_mmin (C : Cx Γ p l s m args meth c cc own nL) {idx : Nat} (K : Lk own idx yJ9_min_7cf53) (hD : 1 ≤ D) (hcat : (S.map fun v => v.category).sum ≤ 8) (hL : L.length = nL) (hce : ce ≤ mx ∧ sl ≤ sx) {a b : Int} (ha : Rg a) (hb : Rg b) (d : Dx cc pc (.invokestatic idx) 3 pc')
    (kk : J Γ p l e (rmk D mx sx) s m args below meth c Q n ce sl pc' L (.int (iI (min a b)) :: S) ω κ) : J Γ p l e (rmk D mx sx) s m args below meth c Q n ce sl pc L (.int (iI b) :: .int (iI a) :: S) ω κ := by
  intro H locs ls hP hS hl
  obtain ⟨hd, rfl⟩ := d
  have o := oJ9_min_7cf53
  have K2 : Cond.methodLink own idx yJ9_min_7cf53 ∈ WS := K
  obtain ⟨o1, o2, o3, -⟩ := o
  rw [min_n] at K2 o1 o3
  rw [min_c] at o3
  refine va_mmin C.1 C.2.1 (by rw [C.2.2.1, hl.1, hL]) C.2.2.2.1 (C.2.2.2.2.1 _ K2) (C.2.2.2.2.1 _ o1) (C.2.2.2.2.1 _ o2) (C.2.2.2.2.1 _ o3) (by show 1 ≤ D; exact hD) (by show _ + 13 ≤ 64 * D; omega) (by show ce ≤ mx; exact hce.1) (by show sl ≤ sx; exact hce.2) hd ?_
  have e : (if iI b < iI a then iI b else iI a) = iI (min a b) := by
    by_cases q : b < a
    · rw [if_pos ((iI_lt hb ha).mpr q)]; congr 1; omega
    · rw [if_neg (fun r => q ((iI_lt hb ha).mp r))]; congr 1; omega
  rw [e]
  exact kk H locs ls hP hS hl
theorem j_mmax (C : Cx Γ p l s m args meth c cc own nL) {idx : Nat} (K : Lk own idx yJ9_max_7cf53) (hD : 1 ≤ D) (hcat : (S.map fun v => v.category).sum ≤ 8) (hL : L.length = nL) (hce : ce ≤ mx ∧ sl ≤ sx) {a b : Int} (ha : Rg a) (hb : Rg b) (d : Dx cc pc (.invokestatic idx) 3 pc')
    (kk : J Γ p l e (rmk D mx sx) s m args below meth c Q n ce sl pc' L (.int (iI (max a b)) :: S) ω κ) : J Γ p l e (rmk D mx sx) s m args below meth c Q n ce sl pc L (.int (iI b) :: .int (iI a) :: S) ω κ := by
  intro H locs ls hP hS hl
  obtain ⟨hd, rfl⟩ := d
  have o := oJ9_max_7cf53
  have K2 : Cond.methodLink own idx yJ9_max_7cf53 ∈ WS := K
  obtain ⟨o1, o2, o3, -⟩ := o
  rw [max_n] at K2 o1 o3
  rw [max_c] at o3
  refine va_mmax C.1 C.2.1 (by rw [C.2.2.1, hl.1, hL]) C.2.2.2.1 (C.2.2.2.2.1 _ K2) (C.2.2.2.2.1 _ o1) (C.2.2.2.2.1 _ o2) (C.2.2.2.2.1 _ o3) (by show 1 ≤ D; exact hD) (by show _ + 13 ≤ 64 * D; omega) (by show ce ≤ mx; exact hce.1) (by show sl ≤ sx; exact hce.2) hd ?_
  have e : (if iI a < iI b then iI b else iI a) = iI (max a b) := by
    by_cases q : a < b
    · rw [if_pos ((iI_lt ha hb).mpr q)]; congr 1; omega
    · rw [if_neg (fun r => q ((iI_lt ha hb).mp r))]; congr 1; omega
  rw [e]
  exact kk H locs ls hP hS hl
end MATH
