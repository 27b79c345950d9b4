/-! how an hour changes a row: ranges and what stays -/
theorem memGo_at {s : Row} {k y : Nat} (h2 : y ≠ 8 + 7 * k + 2) (h4 : y ≠ 8 + 7 * k + 4) : memGo s k y = s y := by
  unfold memGo
  split
  · rw [up_ne _ _ h4, up_ne _ _ h2]
  · split
    · rw [up_ne _ _ h2]
    · rfl
theorem memGo_RI {M : Int} {s : Row} (h : RI M s) {k : Nat} (hk : k < 10) (hM : M + 2 ≤ 100000000) : RI (M + 2) (memGo s k) := by
  have hm := h.m k (by omega)
  have h' := h.le (N := M + 2) (by omega) hM
  unfold memGo
  split
  · rw [← tM2, ← tM4]
    refine RI.sm4 (RI.sm2 h' (by omega) ?_) (by omega) (by omega)
    split <;> omega
  · split
    · rw [← tM2]; exact RI.sm2 h' (by omega) (by omega)
    · exact h'
theorem memsUp_at {s : Row} : ∀ (n y : Nat), (∀ k, k < n → y ≠ 8 + 7 * k + 2 ∧ y ≠ 8 + 7 * k + 4) → memsUp s n y = s y := by
  intro n
  induction n with
  | zero => intro y _; rfl
  | succ n ih =>
    intro y h
    show memGo (memsUp s n) n y = _
    rw [memGo_at (h n (by omega)).1 (h n (by omega)).2]
    exact ih y (fun k hk => h k (by omega))
theorem memsUp_RI {M : Int} {s : Row} (h : RI M s) : ∀ (n : Nat), n ≤ 10 → M + 2 * n ≤ 100000000 → RI (M + 2 * n) (memsUp s n) := by
  intro n
  induction n with
  | zero => intro _ _; simpa [memsUp] using h
  | succ n ih =>
    intro hn hM
    have := memGo_RI (ih (by omega) (by omega)) (k := n) (by omega) (by omega)
    show RI _ (memGo (memsUp s n) n)
    have e : M + 2 * ((n + 1 : Nat) : Int) = M + 2 * n + 2 := by omega
    rw [e]; exact this
theorem memsUp_IS (s : Row) (n k : Nat) : sM (memsUp s n) k 1 = sM s k 1 ∧ sM (memsUp s n) k 3 = sM s k 3 := by
  rw [eM1, eM1, eM3, eM3]
  exact ⟨memsUp_at n _ (fun j _ => by omega), memsUp_at n _ (fun j _ => by omega)⟩
theorem memsUp_c (s : Row) (n y : Nat) (hy : y < 10 ∨ (13 ≤ y ∧ 78 ≤ y ∨ y = 8 ∨ y = 9)) (hn : n ≤ 10) : memsUp s n y = s y := memsUp_at n y (fun j _ => by omega)
theorem inUp_at {s : Row} {b : Int} : ∀ (n y : Nat), (∀ k, k < n → y ≠ 8 + 7 * k + 1 ∧ y ≠ 8 + 7 * k + 3) → inUp s b n y = s y := by
  intro n
  induction n with
  | zero => intro y _; rfl
  | succ n ih =>
    intro y h
    unfold inUp
    split
    · rw [up_ne _ _ (h n (by omega)).2, up_ne _ _ (h n (by omega)).1]; exact ih y (fun k hk => h k (by omega))
    · exact ih y (fun k hk => h k (by omega))
theorem inUp_RI {M : Int} {s : Row} (h : RI M s) {b : Int} : ∀ (n : Nat), n ≤ 10 → RI M (inUp s b n) := by
  intro n
  induction n with
  | zero => intro _; exact h
  | succ n ih =>
    intro hn
    have h1 := ih (by omega)
    unfold inUp
    split
    · rw [← tM1, ← tM3]; exact RI.sm3 (RI.sm1 h1 (by omega) (by omega)) (by omega) (by omega)
    · exact h1
theorem comeIn_RI {M : Int} {s : Row} (h : RI M s) {b : Nat} (hb : b < 3) (hM : M + 1 ≤ 100000000) : RI (M + 1) (comeIn s b) := by
  have h0 := inUp_RI h (b := b) (cM s) h.c.1.2
  have h1 := h0.le (N := M + 1) (by omega) hM
  have h5 := h0.s
  unfold comeIn
  simp only []
  rw [← tB2, ← tB5]
  exact RI.ss5 (RI.sb5 (RI.sb2 h1 (by omega) (by omega)) (by omega) (by omega)) (by omega)
theorem boatGo_RI {M : Int} {s : Row} (h : RI M s) {b : Nat} (hb : b < 3) (hM : M + 1 ≤ 100000000) : RI (M + 1) (boatGo s b) := by
  have hB := h.b b (by omega)
  have h1 : RI M (up s (78 + 7 * b + 3) (max 0 (sB s b 3 - 1))) := by rw [← tB3]; exact RI.sb3 h (by omega) (by omega)
  have hB1 := h1.b b (by omega)
  unfold boatGo
  simp only []
  split
  · exact h.le (by omega) hM
  · split
    · exact h1.le (by omega) hM
    · split
      · rw [← tB4]; exact RI.sb4 (h1.le (by omega) hM) (by omega) (by omega)
      · exact comeIn_RI h1 hb hM
theorem boatsUp_RI {M : Int} {s : Row} (h : RI M s) : ∀ (n : Nat), n ≤ 3 → M + n ≤ 100000000 → RI (M + n) (boatsUp s n) := by
  intro n
  induction n with
  | zero => intro _ _; simpa [boatsUp] using h
  | succ n ih =>
    intro hn hM
    have := boatGo_RI (ih (by omega) (by omega)) (b := n) (by omega) (by omega)
    show RI _ (boatGo (boatsUp s n) n)
    have e : M + ((n + 1 : Nat) : Int) = M + n + 1 := by omega
    rw [e]; exact this
/-- what a boat's hour leaves as it is -/
theorem comeIn_at {s : Row} {b y : Nat} (hc : cM s ≤ 10) (h : y < 5 ∨ y = 6 ∨ y = 7 ∨ 99 ≤ y) (hb : b < 3) : comeIn s b y = s y := by
  unfold comeIn
  show up (up (up (inUp s b (cM s)) _ _) _ _) _ _ y = _
  rw [up_ne _ _ (by omega), up_ne _ _ (by omega), up_ne _ _ (by omega)]
  exact inUp_at _ _ (fun k hk => by omega)
theorem boatGo_at {s : Row} {b y : Nat} (hc : cM s ≤ 10) (h : y < 5 ∨ y = 6 ∨ y = 7 ∨ 99 ≤ y) (hb : b < 3) : boatGo s b y = s y := by
  unfold boatGo
  simp only []
  have e : ∀ v, up s (78 + 7 * b + 3) v y = s y := fun v => up_ne _ _ (by omega)
  have ec : ∀ v, cM (up s (78 + 7 * b + 3) v) = cM s := fun v => by unfold cM; rw [up_ne _ _ (by omega)]
  split
  · rfl
  · split
    · exact e _
    · split
      · rw [up_ne _ _ (by omega)]; exact e _
      · rw [comeIn_at (by rw [ec]; exact hc) h hb]; exact e _
theorem boatsUp_at {s : Row} (hc : cM s ≤ 10) : ∀ (n y : Nat), n ≤ 3 → (y < 5 ∨ y = 6 ∨ y = 7 ∨ 99 ≤ y) → boatsUp s n y = s y := by
  intro n
  induction n with
  | zero => intro y _ _; rfl
  | succ n ih =>
    intro y hn h
    show boatGo (boatsUp s n) n y = _
    have : cM (boatsUp s n) = cM s := by unfold cM; rw [ih 1 (by omega) (by omega)]
    rw [boatGo_at (by rw [this]; exact hc) h (by omega)]
    exact ih y (by omega) h
theorem lnGo_RI {M : Int} : ∀ (n : Nat) {s : Row} (k : Nat), RI M s → k ≤ 4 → M + n ≤ 100000000 → RI (M + n) (lnGo n s k) := by
  intro n
  induction n generalizing M with
  | zero => intro s k h _ _; simpa [lnGo] using h
  | succ n ih =>
    intro s k h hk hM
    have g := h.s
    have e : M + ((n + 1 : Nat) : Int) = (M + 1) + n := by omega
    rw [e]
    unfold lnGo
    split
    · rename_i hlt
      have gl := h.l k (by omega)
      have h1 : RI M (up s (99 + 3 * k + 1) (max 0 (sL s k 1 - 1))) := by rw [← tL1]; exact RI.sl1 h (by omega) (by omega)
      have g1 := h1.s
      have gl1 := h1.l k (by omega)
      have ec : (up s (99 + 3 * k + 1) (max 0 (sL s k 1 - 1))) 3 = s 3 := up_ne _ _ (by omega)
      simp only []
      split
      · refine ih k (RI.le (takeL_RI h1 ?_) (by omega) (by omega)) (by omega) (by omega)
        unfold cL; rw [ec]; omega
      · have h2 := h1.le (N := M + 1) (by omega) (by omega)
        refine ih (k + 1) (RI.ss6 ?_ ?_) (by omega) (by omega)
        · rw [← tL2]; refine RI.sl2 h2 (by omega) ?_
          split <;> omega
        · split <;> omega
    · exact h.le (by omega) (by omega)
/-- a member that is out is out with a boat -/
def W1 (s : Row) : Prop := ∀ k : Nat, k < 10 → sM s k 1 = 1 → 0 ≤ sM s k 3
theorem W1_mems {s : Row} (h : W1 s) (n : Nat) : W1 (memsUp s n) := fun k hk => by rw [(memsUp_IS s n k).1, (memsUp_IS s n k).2]; exact h k hk
theorem W1.of {s t : Row} (h : W1 s) (e : ∀ k : Nat, k < 10 → sM t k 1 = sM s k 1 ∧ sM t k 3 = sM s k 3 ∨ sM t k 1 = 0) : W1 t := by
  intro k hk hq
  rcases e k hk with ⟨e1, e2⟩ | e1
  · rw [e2]; exact h k hk (by rw [← e1]; exact hq)
  · rw [e1] at hq; exact absurd hq (by decide)
theorem inUp_IS (s : Row) (b : Int) : ∀ (n k : Nat), sM (inUp s b n) k 1 = sM s k 1 ∧ sM (inUp s b n) k 3 = sM s k 3 ∨ sM (inUp s b n) k 1 = 0 := by
  intro n
  induction n with
  | zero => intro k; exact Or.inl ⟨rfl, rfl⟩
  | succ n ih =>
    intro k
    unfold inUp
    split
    · by_cases hk : k = n
      · subst hk; right; rw [eM1, up_ne _ _ (by omega), up_same]
      · rw [eM1, eM3, up_ne _ _ (by omega), up_ne _ _ (by omega), up_ne _ _ (by omega), up_ne _ _ (by omega), ← eM1 (inUp s b n), ← eM3 (inUp s b n)]
        exact ih k
    · exact ih k
theorem comeIn_IS (s : Row) (b k : Nat) (hk : k < 10) : sM (comeIn s b) k 1 = sM s k 1 ∧ sM (comeIn s b) k 3 = sM s k 3 ∨ sM (comeIn s b) k 1 = 0 := by
  have h := inUp_IS s b (cM s) k
  unfold comeIn
  simp only []
  rw [eM1, eM3, up_ne _ _ (by omega), up_ne _ _ (by omega), up_ne _ _ (by omega), up_ne _ _ (by omega), up_ne _ _ (by omega), up_ne _ _ (by omega), ← eM1 (inUp s b (cM s)), ← eM3 (inUp s b (cM s))]
  exact h
theorem boatGo_IS (s : Row) (b k : Nat) (hk : k < 10) : sM (boatGo s b) k 1 = sM s k 1 ∧ sM (boatGo s b) k 3 = sM s k 3 ∨ sM (boatGo s b) k 1 = 0 := by
  have e : ∀ v, sM (up s (78 + 7 * b + 3) v) k 1 = sM s k 1 ∧ sM (up s (78 + 7 * b + 3) v) k 3 = sM s k 3 := fun v => by
    rw [eM1, eM3, up_ne _ _ (by omega), up_ne _ _ (by omega), ← eM1 s, ← eM3 s]; exact ⟨rfl, rfl⟩
  unfold boatGo
  simp only []
  split
  · exact Or.inl ⟨rfl, rfl⟩
  · split
    · exact Or.inl (e _)
    · split
      · left
        have e' := e (max 0 (sB s b 3 - 1))
        exact ⟨by rw [eM1, up_ne _ _ (by omega), ← eM1 (up s (78 + 7 * b + 3) (max 0 (sB s b 3 - 1)))]; exact e'.1, by rw [eM3, up_ne _ _ (by omega), ← eM3 (up s (78 + 7 * b + 3) (max 0 (sB s b 3 - 1)))]; exact e'.2⟩
      · rcases comeIn_IS (up s (78 + 7 * b + 3) (max 0 (sB s b 3 - 1))) b k hk with h | h
        · left; rw [h.1, h.2]; exact e _
        · exact Or.inr h
theorem W1_boats {s : Row} (h : W1 s) : ∀ n, W1 (boatsUp s n) := by
  intro n
  induction n with
  | zero => exact h
  | succ n ih => exact W1.of ih (fun k hk => boatGo_IS _ n k hk)
theorem lnGo_at : ∀ (n : Nat) (s : Row) (k y : Nat), (y < 99 ∧ y ≠ 3 ∧ y ≠ 6) → lnGo n s k y = s y := by
  intro n
  induction n with
  | zero => intro s k y _; rfl
  | succ n ih =>
    intro s k y h
    unfold lnGo
    split
    · simp only []
      split
      · rw [ih _ _ _ h]; unfold takeL; rw [if_neg (by omega), if_neg (by omega), if_neg (by omega)]; exact up_ne _ _ (by omega)
      · rw [ih _ _ _ h, up_ne _ _ (by omega), up_ne _ _ (by omega), up_ne _ _ (by omega)]
    · rfl
theorem W1_hour {s : Row} (h : W1 s) : W1 (hourR s) := by
  have h1 : W1 (up s 0 (s 0 + 1)) := W1.of h (fun k hk => by left; rw [eM1, eM3, up_ne _ _ (by omega), up_ne _ _ (by omega), ← eM1 s, ← eM3 s]; exact ⟨rfl, rfl⟩)
  have h2 := W1_mems h1 (cM (up s 0 (s 0 + 1)))
  have h3 := W1_boats h2
  intro k hk
  have e1 := fun n t => lnGo_at n t 0 (8 + 7 * k + 1) (by omega)
  have e3 := fun n t => lnGo_at n t 0 (8 + 7 * k + 3) (by omega)
  have := h3 (cB (memsUp (up s 0 (s 0 + 1)) (cM (up s 0 (s 0 + 1))))) k hk
  rw [eM1, eM3] at this ⊢
  show lnGo _ _ 0 _ = 1 → 0 ≤ lnGo _ _ 0 _
  rw [e1, e3]
  exact this
theorem hourR_RI {M : Int} {s : Row} (h : RI M s) (hM : M + 30 ≤ 100000000) : RI (M + 30) (hourR s) := by
  have h1 : RI (M + 1) (up s 0 (s 0 + 1)) := RI.ss0 (h.le (by omega) (by omega)) (by have := h.s; omega)
  have h2 := memsUp_RI h1 (cM (up s 0 (s 0 + 1))) h1.c.1.2 (by have := h1.c; omega)
  have h3 := boatsUp_RI h2 _ h2.c.2.1.2 (by have := h2.c; have := h1.c; omega)
  have h4 := lnGo_RI (cL (boatsUp (memsUp (up s 0 (s 0 + 1)) (cM (up s 0 (s 0 + 1)))) (cB (memsUp (up s 0 (s 0 + 1)) (cM (up s 0 (s 0 + 1))))))) 0 h3 (by omega) (by have := h2.c; have := h1.c; have := h3.c; omega)
  refine RI.le h4 ?_ hM
  have := h2.c; have := h1.c; have := h3.c
  omega
theorem hoursUp_RI {M : Int} {s : Row} (h : RI M s) : ∀ n : Nat, M + 30 * n ≤ 100000000 → RI (M + 30 * n) (hoursUp s n) := by
  intro n
  induction n with
  | zero => intro _; simpa [hoursUp] using h
  | succ n ih =>
    intro hM
    have := hourR_RI (ih (by omega)) (by omega)
    have e : M + 30 * ((n + 1 : Nat) : Int) = M + 30 * n + 30 := by omega
    rw [e]; exact this
theorem W1_hours {s : Row} (h : W1 s) : ∀ n, W1 (hoursUp s n) := by
  intro n
  induction n with
  | zero => exact h
  | succ n ih => exact W1_hour ih
theorem cL_take {t : Row} {k : Nat} (hk : k < cL t) : cL (takeL t k) = cL t - 1 := by
  unfold cL takeL; rw [if_pos rfl]; unfold cL at hk; omega
/-- a loan's hour -/
def due1 (t : Row) (k : Nat) : Row := up t (99 + 3 * k + 1) (max 0 (t (99 + 3 * k + 1) - 1))
def late1 (t : Row) (k : Nat) (z : Int) : Row := up (up t (99 + 3 * k + 2) (t (99 + 3 * k + 2) + z)) 6 (t 6 + z)
theorem due1_at (t : Row) (k : Nat) : due1 t k (99 + 3 * k + 1) = max 0 (t (99 + 3 * k + 1) - 1) := up_same _ _ _
theorem due1_c (t : Row) (k : Nat) : cL (due1 t k) = cL t := by unfold cL due1; rw [up_ne _ _ (by omega)]
theorem late1_c (t : Row) (k : Nat) (z : Int) : cL (late1 t k z) = cL t := by unfold cL late1; rw [up_ne _ _ (by omega), up_ne _ _ (by omega)]
theorem due1_RI {M : Int} {t : Row} (h : RI M t) {k : Nat} (hk : k < 4) : RI M (due1 t k) := by
  have := h.l k (by omega)
  unfold due1; rw [← eL1 t, ← tL1]; exact RI.sl1 h (by omega) (by omega)
theorem late1_RI {M : Int} {t : Row} (h : RI M t) {k : Nat} (hk : k < 4) {z : Int} (hz : 0 ≤ z ∧ z ≤ 1) (hM : M + 1 ≤ 100000000) : RI (M + 1) (late1 t k z) := by
  have := h.l k (by omega)
  have g := h.s
  unfold late1; rw [← eL2 t, ← tL2]; exact RI.ss6 (RI.sl2 (h.le (by omega) hM) (by omega) (by omega)) (by omega)
theorem ln_1 {t : Row} {k : Nat} (hk : (k : Int) < t 3) (hc : k < cL t) (h1 : due1 t k (99 + 3 * k + 1) = 0) (h2 : due1 t k (99 + 3 * k) ≤ freeO (due1 t k)) : lnGo (cL t - k) t k = lnGo (cL (takeL (due1 t k) k) - k) (takeL (due1 t k) k) k := by
  obtain ⟨n, hn⟩ : ∃ n, cL t - k = n + 1 := ⟨cL t - k - 1, by omega⟩
  have e2 : cL (takeL (due1 t k) k) - k = n := by rw [cL_take (by rw [due1_c]; exact hc), due1_c]; omega
  rw [e2, hn]
  conv => lhs; unfold lnGo
  simp only [eL0, eL1, eL2, Nat.add_zero]
  rw [if_pos hk]
  have h3 : up t (99 + 3 * k + 1) (max 0 (t (99 + 3 * k + 1) - 1)) = due1 t k := rfl
  rw [h3, if_pos ⟨h1, h2⟩]
theorem ln_2 {t : Row} {k : Nat} (hk : (k : Int) < t 3) (hc : k < cL t) (h : ¬ (due1 t k (99 + 3 * k + 1) = 0 ∧ due1 t k (99 + 3 * k) ≤ freeO (due1 t k))) {z : Int} (hz : z = if due1 t k (99 + 3 * k + 1) = 0 then 1 else 0) : lnGo (cL t - k) t k = lnGo (cL (late1 (due1 t k) k z) - (k + 1)) (late1 (due1 t k) k z) (k + 1) := by
  obtain ⟨n, hn⟩ : ∃ n, cL t - k = n + 1 := ⟨cL t - k - 1, by omega⟩
  have e2 : cL (late1 (due1 t k) k z) - (k + 1) = n := by rw [late1_c, due1_c]; omega
  rw [e2, hn]
  subst hz
  conv => lhs; unfold lnGo
  simp only [eL0, eL1, eL2, Nat.add_zero]
  rw [if_pos hk]
  have h3 : up t (99 + 3 * k + 1) (max 0 (t (99 + 3 * k + 1) - 1)) = due1 t k := rfl
  rw [h3, if_neg h]
  rfl
theorem j_tswIn {κ : Nat → Nat} {Γ : Ga} {p : Program} {l : Launch} {e : Env} {R : Room} {s : State} {m : MethodId} {args : Array Value} {below : List Frame} {meth : Method} {c : Code} {Q : State → Prop} {n ce sl : Nat} {cc : ByteArray} {own : String} {nL pc pc' : Nat} {L : List (Option Value)} {S : List Value} {ω : Wo}
    (C : Cx Γ p l s m args meth c cc own nL) {x lo hi dflt off : Int} {offs : Array Int} {len tgt : Nat} (hx : Rg x) (h1 : lo ≤ x ∧ x ≤ hi) (ho : offs[(x - lo).toNat]? = some off) (ht : (pc : Int) + off = (tgt : Int)) (d : Dx cc pc (.tableswitch dflt lo hi offs) len pc') (kx : J Γ p l e R s m args below meth c Q n ce sl tgt L S ω κ) : J Γ p l e R s m args below meth c Q n ce sl pc L (.int (iI x) :: S) ω κ := by
  intro H locs ls hP hS hl
  have e := iI_toInt hx
  exact lv_tableIn C.1 C.2.1 d.1 (by rw [e]; omega) (by rw [e]; omega) (by rw [e]; exact ho) ht (kx H locs ls hP hS hl)
theorem j_tswOut {κ : Nat → Nat} {Γ : Ga} {p : Program} {l : Launch} {e : Env} {R : Room} {s : State} {m : MethodId} {args : Array Value} {below : List Frame} {meth : Method} {c : Code} {Q : State → Prop} {n ce sl : Nat} {cc : ByteArray} {own : String} {nL pc pc' : Nat} {L : List (Option Value)} {S : List Value} {ω : Wo}
    (C : Cx Γ p l s m args meth c cc own nL) {x lo hi dflt : Int} {offs : Array Int} {len tgt : Nat} (hx : Rg x) (h1 : x < lo ∨ hi < x) (ht : (pc : Int) + dflt = (tgt : Int)) (d : Dx cc pc (.tableswitch dflt lo hi offs) len pc') (kx : J Γ p l e R s m args below meth c Q n ce sl tgt L S ω κ) : J Γ p l e R s m args below meth c Q n ce sl pc L (.int (iI x) :: S) ω κ := by
  intro H locs ls hP hS hl
  have e := iI_toInt hx
  exact lv_tableOut C.1 C.2.1 d.1 (by rw [e]; exact h1) ht (kx H locs ls hP hS hl)
theorem j_lsw {κ : Nat → Nat} {Γ : Ga} {p : Program} {l : Launch} {e : Env} {R : Room} {s : State} {m : MethodId} {args : Array Value} {below : List Frame} {meth : Method} {c : Code} {Q : State → Prop} {n ce sl : Nat} {cc : ByteArray} {own : String} {nL pc pc' : Nat} {L : List (Option Value)} {S : List Value} {ω : Wo}
    (C : Cx Γ p l s m args meth c cc own nL) {x dflt off : Int} {ps : Array (Int × Int)} {len tgt : Nat} (hx : Rg x) (hp : (ps.toList.zip (ps.toList.drop 1)).all (fun (a, next) => a.1 < next.1) = true) (ho : Op.lookupswitch.offset ps.toList dflt x = off) (ht : (pc : Int) + off = (tgt : Int)) (d : Dx cc pc (.lookupswitch dflt ps) len pc') (kx : J Γ p l e R s m args below meth c Q n ce sl tgt L S ω κ) : J Γ p l e R s m args below meth c Q n ce sl pc L (.int (iI x) :: S) ω κ := by
  intro H locs ls hP hS hl
  have e := iI_toInt hx
  exact lv_lookup C.1 C.2.1 d.1 hp (by rw [e]; exact ho) ht (kx H locs ls hP hS hl)
