/-! the crew that is chosen is as little weary as any -/
def smUp (f : Nat → Int) (x : Nat) : Nat → Int
  | 0 => 0
  | n + 1 => smUp f x n + (if x / 2 ^ n % 2 = 1 then f n else 0)
abbrev skf (s : Row) (sk : Int) : Nat → Int := fun k => if sk ≤ sM s k 0 then 1 else 0
theorem cw_sm (s : Row) (x : Nat) (sk : Int) : ∀ n, (cwUp s x sk n : Int) = smUp (skf s sk) x n := by
  intro n
  induction n with
  | zero => rfl
  | succ n ih =>
    unfold cwUp smUp
    by_cases h1 : x / 2 ^ n % 2 = 1
    · by_cases h2 : sk ≤ sM s n 0
      · rw [if_pos ⟨h1, h2⟩, if_pos h1]; show _ = _ + (if sk ≤ sM s n 0 then (1 : Int) else 0); rw [if_pos h2]; omega
      · rw [if_neg (fun q => h2 q.2), if_pos h1]; show _ = _ + (if sk ≤ sM s n 0 then (1 : Int) else 0); rw [if_neg h2]; omega
    · rw [if_neg (fun q => h1 q.1), if_neg h1]; omega
theorem ws_sm (s : Row) (x : Nat) : ∀ n, wsUp s x n = smUp (fun k => sM s k 2) x n := by
  intro n
  induction n with
  | zero => rfl
  | succ n ih => unfold wsUp smUp; rw [ih]
theorem sm_del (f : Nat → Int) {x k : Nat} (hk : k < 32) (hb : x / 2 ^ k % 2 = 1) : ∀ n, n ≤ 32 → smUp f (del x k) n = smUp f x n - (if k < n then f k else 0) := by
  intro n
  induction n with
  | zero => intro _; simp [smUp]
  | succ n ih =>
    intro hn
    have i := ih (by omega)
    have d := del_b1 x hk (j := n) (by omega)
    unfold smUp
    rw [i]
    by_cases e : k = n
    · subst e
      rw [if_neg (fun q => (d.mp q).2 rfl), if_pos hb, if_neg (by omega), if_pos (by omega)]; omega
    · have q1 : (if k < n then f k else 0) = (if k < n + 1 then f k else 0) := by
        by_cases r : k < n
        · rw [if_pos r, if_pos (by omega)]
        · rw [if_neg r, if_neg (by omega)]
      rw [q1]
      by_cases q : x / 2 ^ n % 2 = 1
      · rw [if_pos q, if_pos (d.mpr ⟨q, e⟩)]; omega
      · rw [if_neg q, if_neg (fun r => q (d.mp r).1)]; omega
theorem sm_or (f : Nat → Int) {x k : Nat} (hb : ¬ x / 2 ^ k % 2 = 1) : ∀ n, smUp f (x ||| 2 ^ k) n = smUp f x n + (if k < n then f k else 0) := by
  intro n
  induction n with
  | zero => simp [smUp]
  | succ n ih =>
    have d := or_b1 x k n
    unfold smUp
    rw [ih]
    by_cases e : k = n
    · subst e
      rw [if_pos (d.mpr (Or.inr rfl)), if_neg hb, if_neg (by omega), if_pos (by omega)]
      all_goals omega
    · have q1 : (if k < n then f k else 0) = (if k < n + 1 then f k else 0) := by
        by_cases r : k < n
        · rw [if_pos r, if_pos (by omega)]
        · rw [if_neg r, if_neg (by omega)]
      rw [q1]
      by_cases q : x / 2 ^ n % 2 = 1
      · rw [if_pos q, if_pos (d.mpr (Or.inl q))]; omega
      · rw [if_neg q, if_neg (fun r => (d.mp r).elim q e)]; omega
theorem sm_ex (f : Nat → Int) (hf : ∀ k, 0 ≤ f k) {x z : Nat} : ∀ n, smUp f z n < smUp f x n → ∃ k, k < n ∧ x / 2 ^ k % 2 = 1 ∧ ¬ z / 2 ^ k % 2 = 1 ∧ 0 < f k := by
  intro n
  induction n with
  | zero => intro h; simp [smUp] at h
  | succ n ih =>
    intro h
    unfold smUp at h
    by_cases q : x / 2 ^ n % 2 = 1 ∧ ¬ z / 2 ^ n % 2 = 1 ∧ 0 < f n
    · exact ⟨n, by omega, q⟩
    · have h0 := hf n
      have h9 : smUp f z n < smUp f x n := by
        by_cases qx : x / 2 ^ n % 2 = 1
        · by_cases qz : z / 2 ^ n % 2 = 1
          · rw [if_pos qx, if_pos qz] at h; omega
          · rw [if_pos qx, if_neg qz] at h
            have : ¬ 0 < f n := fun r => q ⟨qx, qz, r⟩
            omega
        · rw [if_neg qx] at h
          split at h <;> omega
      obtain ⟨k, k1, k2⟩ := ih h9
      exact ⟨k, by omega, k2⟩
theorem sm_sub (f : Nat → Int) (hf : ∀ k, 0 ≤ f k) {x z : Nat} : ∀ n, (∀ k, k < n → z / 2 ^ k % 2 = 1 → x / 2 ^ k % 2 = 1) → smUp f z n ≤ smUp f x n := by
  intro n
  induction n with
  | zero => intro _; simp [smUp]
  | succ n ih =>
    intro h
    have i := ih (fun k hk => h k (by omega))
    have h0 := hf n
    unfold smUp
    by_cases qz : z / 2 ^ n % 2 = 1
    · rw [if_pos qz, if_pos (h n (by omega) qz)]; omega
    · rw [if_neg qz]; split <;> omega
theorem sm_eq (f g : Nat → Int) (hg : ∀ k, 1 ≤ g k) {x z : Nat} : ∀ n, (∀ k, k < n → z / 2 ^ k % 2 = 1 → x / 2 ^ k % 2 = 1) → smUp g x n ≤ smUp g z n → smUp f x n = smUp f z n := by
  intro n
  induction n with
  | zero => intro _ _; rfl
  | succ n ih =>
    intro h h2
    have hs := sm_sub g (fun k => by have := hg k; omega) n (fun k hk => h k (by omega))
    have g1 := hg n
    unfold smUp at h2 ⊢
    by_cases qz : z / 2 ^ n % 2 = 1
    · have qx := h n (by omega) qz
      rw [if_pos qz, if_pos qx] at h2
      rw [if_pos qz, if_pos qx, ih (fun k hk => h k (by omega)) (by omega)]
    · rw [if_neg qz] at h2
      by_cases qx : x / 2 ^ n % 2 = 1
      · rw [if_pos qx] at h2; omega
      · rw [if_neg qx] at h2
        rw [if_neg qx, if_neg qz, ih (fun k hk => h k (by omega)) (by omega)]
/-- a crew that would do -/
def VC (s : Row) (b : Int) (x : Nat) : Prop := (∀ j, x / 2 ^ j % 2 = 1 → ableS s / 2 ^ j % 2 = 1) ∧ smUp (skf s 0) x (cM s) = sB s b 1 ∧ (∃ j : Nat, x / 2 ^ j % 2 = 1 ∧ 2 ≤ sM s j 0) ∧ mustO s b < smUp (skf s 1) x (cM s)
theorem skf_nn (s : Row) (sk : Int) (k : Nat) : 0 ≤ skf s sk k := by show (0 : Int) ≤ if _ then _ else _; split <;> omega
theorem skf_c (s : Row) (sk : Int) (k : Nat) : (sk ≤ sM s k 0 ∧ skf s sk k = 1) ∨ (¬ sk ≤ sM s k 0 ∧ skf s sk k = 0) := by
  by_cases h : sk ≤ sM s k 0
  · exact Or.inl ⟨h, if_pos h⟩
  · exact Or.inr ⟨h, if_neg h⟩
def swp (x y g : Nat) : Nat := del x y ||| 2 ^ g
theorem swp_b1 {x y g : Nat} (hy : y < 32) {j : Nat} (hj : j < 32) : swp x y g / 2 ^ j % 2 = 1 ↔ (x / 2 ^ j % 2 = 1 ∧ y ≠ j) ∨ g = j := by
  unfold swp; rw [or_b1, del_b1 x hy hj]
theorem swp_sm (f : Nat → Int) {x y g : Nat} {n : Nat} (hn : n ≤ 32) (hy : y < n) (hg : g < n) (hb : x / 2 ^ y % 2 = 1) (hb2 : ¬ x / 2 ^ g % 2 = 1) : smUp f (swp x y g) n = smUp f x n - f y + f g := by
  unfold swp
  rw [sm_or f (fun q => hb2 ((del_b1 x (by omega) (j := g) (by omega)).mp q).1), sm_del f (by omega) hb n hn, if_pos hy, if_pos hg]
theorem vc_lt {M : Int} {s : Row} (hI : RI M s) {b : Int} {x : Nat} (h : VC s b x) {j : Nat} (hj : x / 2 ^ j % 2 = 1) : j < cM s := ((ableS_b1 s j).mp (h.1 j hj)).1
/-- the number of the skilled among the first choices -/
theorem crw_sk {M : Int} {s : Row} (h : RI M s) {b : Int} (hk : crOk s b) : ∀ n : Nat, (n : Int) ≤ sB s b 1 - 1 → ∀ m : Int, m ≤ n → m ≤ mustO s b → m + 1 ≤ smUp (skf s 1) (crwUp s b n).1 (cM s) := by
  have gc := h.c
  intro n
  induction n with
  | zero =>
    intro _ m hm hm2
    obtain ⟨l1, l2, l3⟩ := lst_bit hk.1
    have e : (crwUp s b 0).1 = 0 ||| 2 ^ (lst s (ableS s) 2).toNat := by rw [Nat.zero_or]; rfl
    rw [e, sm_or _ (by simp), if_pos l1]
    have z : smUp (skf s 1) 0 (cM s) = 0 := by
      have : ∀ n, smUp (skf s 1) 0 n = 0 := by
        intro n; induction n with
        | zero => rfl
        | succ n ih => unfold smUp; rw [ih]; simp
      exact this _
    rw [z]
    have c := skf_c s 1 (lst s (ableS s) 2).toNat
    rw [show (((lst s (ableS s) 2).toNat : Nat) : Int) = lst s (ableS s) 2 by have := hk.1; omega] at c
    omega
  | succ n ih =>
    intro hn m hm hm2
    obtain ⟨i1, i2, i3⟩ := crw_sets h hk n (by omega)
    have hl := hk.2 n (by omega)
    obtain ⟨l1, l2, l3⟩ := lst_bit hl
    have e1 : (crwUp s b (n + 1)).1 = (crwUp s b n).1 ||| 2 ^ (lst s (crwUp s b n).2 (if (n : Int) < mustO s b then 1 else 0)).toNat := rfl
    have gna := ((i1 _ (by omega)).2.mp l2).2
    rw [e1, sm_or _ gna, if_pos l1]
    have c := skf_c s 1 (lst s (crwUp s b n).2 (if (n : Int) < mustO s b then 1 else 0)).toNat
    rw [show (((lst s (crwUp s b n).2 (if (n : Int) < mustO s b then 1 else 0)).toNat : Nat) : Int) = lst s (crwUp s b n).2 (if (n : Int) < mustO s b then 1 else 0) by omega] at c
    by_cases q : (n : Int) < mustO s b
    · rw [if_pos q] at c l3 ⊢
      have := ih (by omega) (m - 1) (by omega) (by omega)
      omega
    · have := ih (by omega) m (by omega) hm2
      omega
theorem swp_vc {M : Int} {s : Row} (hI : RI M s) {b : Int} {x y g : Nat} (h : VC s b x) (hy : x / 2 ^ y % 2 = 1) (hgx : ¬ x / 2 ^ g % 2 = 1) (hg : ableS s / 2 ^ g % 2 = 1) (hc : ∃ j : Nat, swp x y g / 2 ^ j % 2 = 1 ∧ 2 ≤ sM s j 0) (hs : mustO s b < smUp (skf s 1) (swp x y g) (cM s)) (hw : sM s g 2 ≤ sM s y 2) :
    VC s b (swp x y g) ∧ wsUp s (swp x y g) (cM s) ≤ wsUp s x (cM s) := by
  have gc := hI.c
  have y1 := vc_lt hI h hy
  have g1 := ((ableS_b1 s g).mp hg).1
  refine ⟨⟨fun j hj => ?_, ?_, hc, hs⟩, ?_⟩
  · have hj32 : j < 32 := by
      refine Decidable.byContradiction fun q => ?_
      have hx : swp x y g < 2 ^ 32 := by
        unfold swp
        refine Nat.or_lt_two_pow ?_ (Nat.pow_lt_pow_right (by decide) (by omega))
        exact Nat.lt_of_le_of_lt Nat.and_le_right (Nat.lt_of_le_of_lt (Nat.sub_le _ _) (by decide))
      rw [Nat.div_eq_of_lt (Nat.lt_of_lt_of_le hx (Nat.pow_le_pow_right (show 0 < 2 by decide) (by omega)))] at hj
      exact absurd hj (by decide)
    rcases (swp_b1 (by omega) hj32).mp hj with q | q
    · exact h.1 j q.1
    · rw [← q]; exact hg
  · rw [swp_sm _ (by omega) y1 g1 hy hgx]
    have c1 := skf_c s 0 y
    have c2 := skf_c s 0 g
    have m1 := (hI.m y (by omega)).1
    have m2 := (hI.m g (by omega)).1
    have := h.2.1
    omega
  · rw [ws_sm, ws_sm, swp_sm _ (by omega) y1 g1 hy hgx]
    show _ - sM s y 2 + sM s g 2 ≤ _
    omega
theorem greedy {M : Int} {s : Row} (hI : RI M s) {b : Int} (hk : crOk s b) : ∀ n : Nat, (n : Int) ≤ sB s b 1 - 1 → ∀ x, VC s b x → ∃ x', VC s b x' ∧ (∀ j, j < 32 → (crwUp s b n).1 / 2 ^ j % 2 = 1 → x' / 2 ^ j % 2 = 1) ∧ wsUp s x' (cM s) ≤ wsUp s x (cM s) := by
  have gc := hI.c
  intro n
  induction n with
  | zero =>
    intro hn x hx
    obtain ⟨l1, l2, l3⟩ := lst_bit hk.1
    have el : ((lst s (ableS s) 2).toNat : Int) = lst s (ableS s) 2 := by have := hk.1; omega
    generalize hgg : (lst s (ableS s) 2).toNat = g at l1 l2 el
    have e : (crwUp s b 0).1 = 2 ^ g := by rw [← hgg]; rfl
    by_cases hin : x / 2 ^ g % 2 = 1
    · refine ⟨x, hx, fun j _ hj => ?_, Int.le_refl _⟩
      rw [e, pow_b1] at hj; rw [← hj]; exact hin
    · obtain ⟨y, y1, y2⟩ := hx.2.2.1
      have yl := vc_lt hI hx y1
      have hmin := (lst_min (x := ableS s) yl (hx.1 y y1) y2).2
      rw [← el] at hmin l3
      have hgin : swp x y g / 2 ^ g % 2 = 1 := (swp_b1 (by omega) (by omega)).mpr (Or.inr rfl)
      obtain ⟨v1, v2⟩ := swp_vc hI hx y1 hin l2 ⟨g, hgin, l3⟩ (by
        rw [swp_sm _ (by omega) yl l1 y1 hin]
        have c1 := skf_c s 1 y
        have c2 := skf_c s 1 g
        have := hx.2.2.2
        omega) hmin
      exact ⟨_, v1, fun j _ hj => by rw [e, pow_b1] at hj; rw [← hj]; exact hgin, v2⟩
  | succ n ih =>
    intro hn x0 hx0
    obtain ⟨x, hx, hsub, hw0⟩ := ih (by omega) x0 hx0
    obtain ⟨i1, i2, i3⟩ := crw_sets hI hk n (by omega)
    have hlt := (crwUp_lt hI b n).1
    have hl := hk.2 n (by omega)
    obtain ⟨l1, l2, l3⟩ := lst_bit hl
    have el : ((lst s (crwUp s b n).2 (if (n : Int) < mustO s b then 1 else 0)).toNat : Int) = lst s (crwUp s b n).2 (if (n : Int) < mustO s b then 1 else 0) := by omega
    generalize hgg : (lst s (crwUp s b n).2 (if (n : Int) < mustO s b then 1 else 0)).toNat = g at l1 l2 el
    have e1 : (crwUp s b (n + 1)).1 = (crwUp s b n).1 ||| 2 ^ g := by rw [← hgg]; rfl
    obtain ⟨ga, gna⟩ := (i1 g (by omega)).2.mp l2
    have hsub2 : ∀ x', (∀ j, j < 32 → (crwUp s b n).1 / 2 ^ j % 2 = 1 → x' / 2 ^ j % 2 = 1) → x' / 2 ^ g % 2 = 1 → ∀ j, j < 32 → (crwUp s b (n + 1)).1 / 2 ^ j % 2 = 1 → x' / 2 ^ j % 2 = 1 := by
      intro x' h1 h2 j hj hb
      rw [e1, or_b1] at hb
      rcases hb with q | q
      · exact h1 j hj q
      · rw [← q]; exact h2
    by_cases hin : x / 2 ^ g % 2 = 1
    · exact ⟨x, hx, hsub2 x hsub hin, hw0⟩
    · have hG0 : smUp (skf s 0) (crwUp s b n).1 (cM s) = (n : Int) + 1 := by
        rw [← cw_sm, ← bitsN_cw hI (x := (crwUp s b n).1) ?_]
        · omega
        · refine Nat.lt_of_not_le fun q => ?_
          obtain ⟨i, hi1, hi2⟩ := Nat.exists_ge_and_testBit_of_ge_two_pow q
          have h1 := (bt1_tb (crwUp s b n).1 i).mpr hi2
          have h32 : i < 32 := Nat.lt_trans (bit_lt (n := 10) (by omega) h1) (by decide)
          have h2 := ((ableS_b1 s i).mp ((i1 i h32).1 h1)).1
          omega
      have hy : ∃ y, y < cM s ∧ x / 2 ^ y % 2 = 1 ∧ ¬ (crwUp s b n).1 / 2 ^ y % 2 = 1 ∧ (if (n : Int) < mustO s b then 1 else 0) ≤ sM s y 0 := by
        by_cases q : (n : Int) < mustO s b
        · have h1 : smUp (skf s 1) (crwUp s b n).1 (cM s) ≤ smUp (skf s 0) (crwUp s b n).1 (cM s) := by
            have : ∀ z n, smUp (skf s 1) z n ≤ smUp (skf s 0) z n := by
              intro z n
              induction n with
              | zero => exact Int.le_refl _
              | succ n ih =>
                unfold smUp
                have c1 := skf_c s 1 n
                have c2 := skf_c s 0 n
                split <;> omega
            exact this _ _
          have h2 := hx.2.2.2
          obtain ⟨y, y1, y2, y3, y4⟩ := sm_ex (skf s 1) (skf_nn s 1) (x := x) (z := (crwUp s b n).1) (cM s) (by omega)
          have c1 := skf_c s 1 y
          exact ⟨y, y1, y2, y3, by rw [if_pos q]; omega⟩
        · have h2 := hx.2.1
          obtain ⟨y, y1, y2, y3, y4⟩ := sm_ex (skf s 0) (skf_nn s 0) (x := x) (z := (crwUp s b n).1) (cM s) (by omega)
          have c1 := skf_c s 0 y
          exact ⟨y, y1, y2, y3, by rw [if_neg q]; omega⟩
      obtain ⟨y, y1, y2, y3, y4⟩ := hy
      have hmin := (lst_min (x := (crwUp s b n).2) y1 ((i1 y (by omega)).2.mpr ⟨hx.1 y y2, y3⟩) y4).2
      rw [← el] at hmin l3
      have hgin : swp x y g / 2 ^ g % 2 = 1 := (swp_b1 (by omega) (by omega)).mpr (Or.inr rfl)
      have hsub3 : ∀ j, j < 32 → (crwUp s b n).1 / 2 ^ j % 2 = 1 → swp x y g / 2 ^ j % 2 = 1 := fun j hj hb => (swp_b1 (by omega) hj).mpr (Or.inl ⟨hsub j hj hb, fun q => y3 (by rw [q]; exact hb)⟩)
      obtain ⟨c1, c2, c3⟩ := lst_bit hk.1
      obtain ⟨v1, v2⟩ := swp_vc hI hx y2 hin ga ⟨(lst s (ableS s) 2).toNat, hsub3 _ (by omega) i3, by rw [show (((lst s (ableS s) 2).toNat : Nat) : Int) = lst s (ableS s) 2 by have := hk.1; omega]; exact c3⟩ (by
        by_cases q : (n : Int) < mustO s b
        · rw [swp_sm _ (by omega) y1 l1 y2 hin]
          rw [if_pos q] at y4 l3
          have d1 := skf_c s 1 y
          have d2 := skf_c s 1 g
          have := hx.2.2.2
          omega
        · have h1 := crw_sk hI hk n (by omega) (mustO s b) (by omega) (Int.le_refl _)
          have h2 := sm_sub (skf s 1) (skf_nn s 1) (x := swp x y g) (z := (crwUp s b n).1) (cM s) (fun k hk => hsub3 k (by omega))
          omega) hmin
      exact ⟨_, v1, hsub2 _ hsub3 hgin, by omega⟩
theorem greedy_le {M : Int} {s : Row} (hI : RI M s) {b : Int} (hs : 2 ≤ sB s b 1) (hk : crOk s b) {x : Nat} (hx : VC s b x) : wsUp s (crw s b) (cM s) ≤ wsUp s x (cM s) := by
  have gc := hI.c
  obtain ⟨x', v1, v2, v3⟩ := greedy hI hk (sB s b 1 - 1).toNat (by omega) x hx
  have hlt := crw_lt hI b
  have hb := crw_bits hI hs hk
  have hc : crw s b < 2 ^ cM s := by
    refine Nat.lt_of_not_le fun q => ?_
    obtain ⟨i, hi1, hi2⟩ := Nat.exists_ge_and_testBit_of_ge_two_pow q
    have := (crw_in hI hs hk ((bt1_tb _ i).mpr hi2)).1
    omega
  rw [bitsN_cw hI hc, cw_sm] at hb
  have := sm_eq (fun k => sM s k 2) (fun _ => 1) (fun _ => Int.le_refl 1) (x := x') (z := crw s b) (cM s) (fun k hk2 => v2 k (by omega)) (by
    have e : ∀ z, smUp (fun _ => 1) z (cM s) = smUp (skf s 0) z (cM s) := by
      intro z
      have : ∀ n, n ≤ cM s → smUp (fun _ => 1) z n = smUp (skf s 0) z n := by
        intro n
        induction n with
        | zero => intro _; rfl
        | succ n ih =>
          intro hn
          have m1 := (hI.m n (by omega)).1
          unfold smUp
          rw [ih (by omega)]
          have c1 := skf_c s 0 n
          split <;> omega
      exact this _ (Nat.le_refl _)
    rw [e, e, hb, v1.2.1]; exact Int.le_refl _)
  rw [ws_sm s (crw s b), ← this, ← ws_sm]; exact v3
theorem vc_of {M : Int} {s : Row} (hI : RI M s) {b : Int} {x : Nat} (hx : x ≤ ableS s) (h : okC s b x) : VC s b x := by
  have gc := hI.c
  have ha := ableUp_lt s (cM s)
  have hx2 : x < 2 ^ cM s := Nat.lt_of_le_of_lt hx ha
  have h10 : ableS s < 1024 := ableS_lt hI
  obtain ⟨⟨h1, h2⟩, h3, h4⟩ := h
  refine ⟨fun j hj => ?_, ?_, ?_, ?_⟩
  · have hj10 : j < 10 := bit_lt (n := 10) (by omega) hj
    refine Decidable.byContradiction fun q => ?_
    have : (x &&& (4294967295 - ableS s)) / 2 ^ j % 2 = 1 := by rw [and_b1, not_b1 _ (by omega) j (by omega)]; exact ⟨hj, q⟩
    rw [h1] at this; simp at this
  · rw [← cw_sm, ← bitsN_cw hI hx2]; exact h2
  · obtain ⟨k, hk⟩ := bit_of_ne0 h3
    rw [and_b1, skS_b1] at hk
    exact ⟨k, hk.1, hk.2.2⟩
  · rw [← cw_sm, ← skl_cw]
    have := skl_bits hI hx2
    unfold skl at this
    omega
theorem crw_ok {M : Int} {s : Row} (hI : RI M s) {b : Int} (hs : 2 ≤ sB s b 1) (hk : crOk s b) : okC s b (crw s b) ∧ 1 ≤ crw s b ∧ crw s b ≤ ableS s := by
  have gc := hI.c
  have hlt := crw_lt hI b
  have ha := ableS_lt hI
  have hsets := crw_sets hI hk (sB s b 1 - 1).toNat (by omega)
  have hin : ∀ j, crw s b / 2 ^ j % 2 = 1 → ableS s / 2 ^ j % 2 = 1 := fun j hj => (hsets.1 j (Nat.lt_trans (bit_lt (n := 10) (by omega) hj) (by decide))).1 hj
  have hc : crw s b < 2 ^ cM s := by
    refine Nat.lt_of_not_le fun q => ?_
    obtain ⟨i, hi1, hi2⟩ := Nat.exists_ge_and_testBit_of_ge_two_pow q
    have := (crw_in hI hs hk ((bt1_tb _ i).mpr hi2)).1
    omega
  obtain ⟨l1, l2, l3⟩ := lst_bit hk.1
  have el : (((lst s (ableS s) 2).toNat : Nat) : Int) = lst s (ableS s) 2 := by have := hk.1; omega
  have hcox := crw_cox hI hs hk
  refine ⟨⟨⟨?_, crw_bits hI hs hk⟩, ?_, ?_⟩, ?_, ?_⟩
  · refine Decidable.byContradiction fun q => ?_
    obtain ⟨k, hk2⟩ := bit_of_ne0 q
    rw [and_b1] at hk2
    have hk10 : k < 10 := bit_lt (n := 10) (by omega) hk2.1
    exact ((not_b1 _ (by omega) k (by omega)).mp hk2.2) (hin k hk2.1)
  · intro z
    have : (crw s b &&& skS s 2) / 2 ^ (lst s (ableS s) 2).toNat % 2 = 1 := by
      rw [and_b1, skS_b1]; exact ⟨hcox, l1, by rw [el]; exact l3⟩
    rw [z] at this; simp at this
  · have h1 := crw_sk hI hk (sB s b 1 - 1).toNat (by omega) (mustO s b) (by unfold mustO; omega) (Int.le_refl _)
    have h2 := skl_bits hI hc
    unfold skl at h2
    rw [skl_cw, cw_sm] at h2
    have h3 : smUp (skf s 1) (crwUp s b (sB s b 1 - 1).toNat).1 (cM s) = smUp (skf s 1) (crw s b) (cM s) := rfl
    omega
  · refine Nat.pos_of_ne_zero fun z => ?_
    rw [z] at hcox; simp at hcox
  · have : crw s b &&& ableS s = crw s b := by
      refine Nat.eq_of_testBit_eq fun j => ?_
      rw [Nat.testBit_and]
      cases h9 : (crw s b).testBit j with
      | false => rfl
      | true => rw [(bt1_tb _ _).mp (hin j ((bt1_tb _ _).mpr h9))]; rfl
    rw [← this]; exact Nat.and_le_right
theorem lwUp_le {s : Row} {b : Int} {x : Nat} (h : okC s b x) (h1 : 1 ≤ x) : ∀ n, x ≤ n → lwUp s b n ≤ wsUp s x (cM s) := by
  intro n
  induction n with
  | zero => intro hx; omega
  | succ n ih =>
    intro hx
    unfold lwUp
    by_cases e : x = n + 1
    · subst e; rw [if_pos h]; omega
    · have := ih (by omega)
      split <;> omega
theorem wsUp_mono {M : Int} {s : Row} (hI : RI M s) {x y : Nat} (h : ∀ j, x / 2 ^ j % 2 = 1 → y / 2 ^ j % 2 = 1) : ∀ n, n ≤ 10 → wsUp s x n ≤ wsUp s y n := by
  intro n
  induction n with
  | zero => intro _; exact Int.le_refl _
  | succ n ih =>
    intro hn
    have i := ih (by omega)
    have g := hI.m n (by omega)
    have hb := h n
    unfold wsUp
    by_cases q : x / 2 ^ n % 2 = 1
    · rw [if_pos q, if_pos (hb q)]; omega
    · rw [if_neg q]; split <;> omega
theorem lwUp_ge {s : Row} {b W : Int} (hW : W ≤ wsUp s (ableS s) (cM s)) : ∀ n, (∀ x, x ≤ n → okC s b x → W ≤ wsUp s x (cM s)) → W ≤ lwUp s b n := by
  intro n
  induction n with
  | zero => intro _; exact hW
  | succ n ih =>
    intro h
    have i := ih (fun x hx => h x (by omega))
    unfold lwUp
    split
    · rename_i q
      have := h (n + 1) (Nat.le_refl _) q
      omega
    · exact i
theorem lw_crw {M : Int} {s : Row} (hI : RI M s) {b : Int} (hs : 2 ≤ sB s b 1) (hk : crOk s b) : lwUp s b (ableS s) = wsUp s (crw s b) (cM s) := by
  have gc := hI.c
  obtain ⟨k1, k2, k3⟩ := crw_ok hI hs hk
  have h1 := lwUp_le k1 k2 (ableS s) k3
  have hlt := crw_lt hI b
  have ha := ableS_lt hI
  have hsets := crw_sets hI hk (sB s b 1 - 1).toNat (by omega)
  have hin : ∀ j, crw s b / 2 ^ j % 2 = 1 → ableS s / 2 ^ j % 2 = 1 := fun j hj => (hsets.1 j (Nat.lt_trans (bit_lt (n := 10) (by omega) hj) (by decide))).1 hj
  have h2 := lwUp_ge (s := s) (b := b) (W := wsUp s (crw s b) (cM s)) (wsUp_mono hI hin (cM s) hI.c.1.2) (ableS s) (fun x hx hok => greedy_le hI hs hk (vc_of hI hx hok))
  omega
