/-! texts of commands: what is read of them, in the words of both sides -/
def sgn (t : Row) (n h : Nat) : Int := if h < n then t h else -1
theorem sgn_in {t : Row} {n h : Nat} (hh : h < n) : sgn t n h = t h := if_pos hh
theorem sgn_out {t : Row} {n h : Nat} (hh : ¬ h < n) : sgn t n h = -1 := if_neg hh
def num (t : Row) (n : Nat) : Nat → Nat → Int → Nat → Nat × Int × Nat
  | 0, h, v, c => (h, v, c)
  | f + 1, h, v, c => if 48 ≤ sgn t n h ∧ sgn t n h ≤ 57 then num t n f (h + 1) (10 * v + sgn t n h - 48) (c + 1) else (h, v, c)
theorem num_s {t : Row} {n f h c : Nat} {v : Int} (hd : 48 ≤ sgn t n h ∧ sgn t n h ≤ 57) : num t n (f + 1) h v c = num t n f (h + 1) (10 * v + sgn t n h - 48) (c + 1) := by show (if _ then _ else _) = _; rw [if_pos hd]
theorem num_e {t : Row} {n f h c : Nat} {v : Int} (hd : ¬ (48 ≤ sgn t n h ∧ sgn t n h ≤ 57)) : num t n f h v c = (h, v, c) := by
  cases f with
  | zero => rfl
  | succ f => show (if _ then _ else _) = _; rw [if_neg hd]
/-- where a number ends, how large it is, how many digits it has -/
theorem num_rg {t : Row} {n : Nat} : ∀ (f h c : Nat) (v : Int), h ≤ n → (num t n f h v c).1 ≤ n ∧ h ≤ (num t n f h v c).1 ∧ (num t n f h v c).1 - h = (num t n f h v c).2.2 - c ∧ c ≤ (num t n f h v c).2.2 ∧ (num t n f h v c).2.2 ≤ c + f := by
  intro f
  induction f with
  | zero => intro h c v hh; simp [num]; exact hh
  | succ f ih =>
    intro h c v hh
    by_cases hd : 48 ≤ sgn t n h ∧ sgn t n h ≤ 57
    · rw [num_s hd]
      have hn : h < n := by
        refine Decidable.byContradiction fun q => ?_
        rw [sgn_out q] at hd; omega
      have := ih (h + 1) (c + 1) (10 * v + sgn t n h - 48) hn
      omega
    · rw [num_e hd]; simp; exact hh
theorem num_v {t : Row} {n : Nat} : ∀ (f h c : Nat) (v : Int), 0 ≤ v → v ≤ 9 → f ≤ 1 ∨ (f = 2 ∧ v = 0) → 0 ≤ (num t n f h v c).2.1 ∧ (num t n f h v c).2.1 ≤ 99 := by
  intro f
  induction f with
  | zero => intro h c v h0 h9 _; simp [num]; omega
  | succ f ih =>
    intro h c v h0 h9 hf
    by_cases hd : 48 ≤ sgn t n h ∧ sgn t n h ≤ 57
    · rw [num_s hd]
      cases f with
      | zero => simp [num]; omega
      | succ f => exact ih _ _ _ (by omega) (by omega) (by omega)
    · rw [num_e hd]; simp; omega
abbrev isW (c : Int) : Prop := c = 109 ∨ c = 120 ∨ c = 117 ∨ c = 98 ∨ c = 99 ∨ c = 111 ∨ c = 103 ∨ c = 108 ∨ c = 116
def dOf (c : Int) : Nat := if c = 109 then 0 else if c = 120 then 1 else if c = 117 then 2 else if c = 98 then 3 else if c = 99 then 4 else if c = 111 then 5 else if c = 103 then 6 else if c = 108 then 7 else if c = 116 then 8 else 9
theorem dOf_w (c : Int) : dOf c ≠ 9 ↔ isW c := by
  unfold dOf isW
  repeat' split
  all_goals omega
theorem dOf_le (c : Int) : dOf c ≤ 9 := by
  unfold dOf
  repeat' split
  all_goals omega
def dg1 (d : Nat) : Nat := if d = 7 ∨ d = 8 then 2 else 1
def dg2 (d : Nat) : Nat := if d = 3 ∨ d = 4 then 1 else if d = 5 then 2 else 0
def cN1 (t : Row) (n h : Nat) : Nat × Int × Nat := num t n (dg1 (dOf (sgn t n h))) (h + 1) 0 0
def cN2 (t : Row) (n h : Nat) : Nat × Int × Nat := num t n (dg2 (dOf (sgn t n h))) (cN1 t n h).1 0 0
def cOk (t : Row) (n h : Nat) : Prop := dOf (sgn t n h) ≠ 9 ∧ (0 < (cN1 t n h).2.2 ∧ (dg2 (dOf (sgn t n h)) = 0 ∨ 0 < (cN2 t n h).2.2))
def cEnd (t : Row) (n h : Nat) : Nat := if dOf (sgn t n h) = 9 then h else if (cN1 t n h).2.2 = 0 then (cN1 t n h).1 else (cN2 t n h).1
noncomputable def cDec (t : Row) (n h : Nat) : Decidable (cOk t n h) := by unfold cOk; exact inferInstance
/-- what has been read of the k-th command -/
def cRd (t : Row) (n h : Nat) (o : Row) (k : Nat) : Prop := o (3 * k) = sgn t n h ∧ o (3 * k + 1) = (cN1 t n h).2.1 ∧ (dg2 (dOf (sgn t n h)) ≠ 0 → o (3 * k + 2) = (cN2 t n h).2.1)
theorem dw_lt {t : Row} {n h : Nat} (hd : dOf (sgn t n h) ≠ 9) : h < n := by
  refine Decidable.byContradiction fun q => ?_
  rw [sgn_out q] at hd; exact hd (by decide)
theorem cEnd_rg {t : Row} {n h : Nat} (hh : h ≤ n) : cEnd t n h ≤ n ∧ h ≤ cEnd t n h := by
  unfold cEnd
  split
  · omega
  · rename_i hd
    have hl := dw_lt hd
    have h1 := num_rg (t := t) (n := n) (dg1 (dOf (sgn t n h))) (h + 1) 0 0 hl
    split
    · unfold cN1; omega
    · have h2 := num_rg (t := t) (n := n) (dg2 (dOf (sgn t n h))) (cN1 t n h).1 0 0 (by unfold cN1; omega)
      unfold cN2 cN1 at *; omega
theorem cOk_rg {t : Row} {n h : Nat} (hk : cOk t n h) : h + 2 ≤ cEnd t n h ∧ cEnd t n h ≤ n := by
  obtain ⟨hd, hc, -⟩ := hk
  have hl := dw_lt hd
  have h1 := num_rg (t := t) (n := n) (dg1 (dOf (sgn t n h))) (h + 1) 0 0 hl
  have h2 := num_rg (t := t) (n := n) (dg2 (dOf (sgn t n h))) (cN1 t n h).1 0 0 (by unfold cN1; omega)
  unfold cEnd
  rw [if_neg hd, if_neg (by omega)]
  unfold cN2 cN1 at *; omega
/-- where the k-th command begins -/
def psn (t : Row) (n : Nat) : Nat → Nat
  | 0 => 0
  | k + 1 => cEnd t n (psn t n k) + 1
/-- the fault's place (-1: none), and how many commands there are, from the k-th command on -/
noncomputable def prs (t : Row) (n : Nat) : Nat → Nat → Int × Nat
  | 0, k => (0, k)
  | f + 1, k => if (cDec t n (psn t n k)).decide = false then ((cEnd t n (psn t n k) : Int), k + 1) else if sgn t n (cEnd t n (psn t n k)) = 59 then prs t n f (k + 1) else if cEnd t n (psn t n k) = n then (-1, k + 1) else ((cEnd t n (psn t n k) : Int), k + 1)
theorem cDec_t {t : Row} {n h : Nat} (hk : cOk t n h) : (cDec t n h).decide ≠ false := by
  cases e : cDec t n h with
  | isTrue _ => exact fun h => by cases h
  | isFalse q => exact absurd hk q
theorem cDec_f {t : Row} {n h : Nat} (hk : ¬ cOk t n h) : (cDec t n h).decide = false := by
  cases e : cDec t n h with
  | isTrue q => exact absurd q hk
  | isFalse q => rfl
theorem prs_no {t : Row} {n f k : Nat} (h : ¬ cOk t n (psn t n k)) : prs t n (f + 1) k = ((cEnd t n (psn t n k) : Int), k + 1) := by
  show (if _ then _ else _) = _; rw [if_pos (cDec_f h)]
theorem prs_go {t : Row} {n f k : Nat} (h : cOk t n (psn t n k)) (hs : sgn t n (cEnd t n (psn t n k)) = 59) : prs t n (f + 1) k = prs t n f (k + 1) := by
  show (if _ then _ else _) = _; rw [if_neg (cDec_t h), if_pos hs]
theorem prs_end {t : Row} {n f k : Nat} (h : cOk t n (psn t n k)) (hs : sgn t n (cEnd t n (psn t n k)) ≠ 59) (he : cEnd t n (psn t n k) = n) : prs t n (f + 1) k = (-1, k + 1) := by
  show (if _ then _ else _) = _; rw [if_neg (cDec_t h), if_neg hs, if_pos he]
theorem prs_flt {t : Row} {n f k : Nat} (h : cOk t n (psn t n k)) (hs : sgn t n (cEnd t n (psn t n k)) ≠ 59) (he : cEnd t n (psn t n k) ≠ n) : prs t n (f + 1) k = ((cEnd t n (psn t n k) : Int), k + 1) := by
  show (if _ then _ else _) = _; rw [if_neg (cDec_t h), if_neg hs, if_neg he]
/-- the deeds of a text, and its numbers -/
def tD (t : Row) (n k : Nat) : Nat := dOf (sgn t n (psn t n k))
def tA (t : Row) (n k : Nat) : Int := (cN1 t n (psn t n k)).2.1
def tB (t : Row) (n k : Nat) : Int := (cN2 t n (psn t n k)).2.1
theorem tB_0 {t : Row} {n k : Nat} (h : dg2 (tD t n k) = 0) : tB t n k = 0 := by
  unfold tB cN2; unfold tD at h; rw [h]; rfl
/-- the row behind k commands -/
def exc (s : Row) (D : Nat → Nat) (A B : Nat → Int) : Nat → Row
  | 0 => s
  | k + 1 => (ad (D k) (exc s D A B k) (A k) (B k)).2
/-- the first command that is refused, from the k-th on, or how many there are -/
def excN (s : Row) (D : Nat → Nat) (A B : Nat → Int) : Nat → Nat → Nat
  | 0, k => k
  | f + 1, k => if (jd (D k) (exc s D A B k) (A k) (B k)).1 ≠ 0 then k else excN s D A B f (k + 1)
theorem excN_s {s : Row} {D : Nat → Nat} {A B : Nat → Int} {f k : Nat} (h : (jd (D k) (exc s D A B k) (A k) (B k)).1 = 0) : excN s D A B (f + 1) k = excN s D A B f (k + 1) := by
  show (if _ then _ else _) = _; rw [if_neg (fun q => q h)]
theorem excN_e {s : Row} {D : Nat → Nat} {A B : Nat → Int} {f k : Nat} (h : (jd (D k) (exc s D A B k) (A k) (B k)).1 ≠ 0) : excN s D A B (f + 1) k = k := by
  show (if _ then _ else _) = _; rw [if_pos h]
/-- a list lies at the beginning of a row -/
def hol (o : Row) (l : List Int) : Prop := ∀ (i : Nat) (v : Int), l[i]? = some v → o i = v
theorem hol_nil (o : Row) : hol o [] := fun i v h => by simp at h
theorem hol.snoc {o : Row} {l : List Int} (h : hol o l) (v : Int) : hol (up o l.length v) (l ++ [v]) := by
  intro i w hi
  rw [List.getElem?_append] at hi
  split at hi
  · rename_i hlt
    rw [up_ne _ _ (by omega)]; exact h i w hi
  · rename_i hge
    by_cases e : i = l.length
    · subst e; simp at hi; rw [up_same]; exact hi
    · rw [List.getElem?_eq_none (by simp; omega)] at hi; cases hi
def crewL (s : Row) (b : Int) : Nat → List Int
  | 0 => []
  | n + 1 => crewL s b n ++ (if crewO s b / 2 ^ n % 2 = 1 then [48 + (n : Int)] ++ (if sB s b 5 = n then [42] else []) else [])
def lineL (s : Row) (b : Int) : List Int := [48 + b, 100, 48 + sB s b 0, 115, 48 + sB s b 1] ++ (if sB s b 2 = 1 then [58] ++ crewL s b (cM s) ++ [43, 48 + sB s b 3] else [])
theorem crewL_len (s : Row) (b : Int) : ∀ n, (crewL s b n).length ≤ 2 * n := by
  intro n
  induction n with
  | zero => simp [crewL]
  | succ n ih =>
    unfold crewL
    rw [List.length_append]
    split
    · split <;> simp <;> omega
    · simp; omega
theorem up_id (f : Row) (k : Nat) : up f k (f k) = f := by
  funext y; unfold up; split
  · rename_i h; rw [h]
  · rfl
theorem up_id' {f : Row} {k : Nat} {v : Int} (h : f k = v) : up f k v = f := by rw [← h, up_id]
/-- the reference's world: its own cell and its orders written -/
def NW (ω : Wo) (a b : Row) : Wo := wf (wf ω 243 a) 250 b
theorem NW_3 (ω : Wo) (a b c : Row) : wf (NW ω a b) 243 c = NW ω c b := by
  unfold NW
  rw [wf_comm _ _ _ (show (250 : Nat) ≠ 243 by decide), wf_wf]
theorem NW_5 (ω : Wo) (a b c : Row) : wf (NW ω a b) 250 c = NW ω a c := by unfold NW; rw [wf_wf]
theorem NW_r3 (ω : Wo) (a b : Row) : (NW ω a b).1 243 = a := rfl
theorem NW_r5 (ω : Wo) (a b : Row) : (NW ω a b).1 250 = b := rfl
theorem NW_r4 (ω : Wo) (a b : Row) : (NW ω a b).1 244 = ω.1 244 := rfl
theorem NW_r9 (ω : Wo) (a b : Row) : (NW ω a b).1 249 = ω.1 249 := rfl
theorem NW_id (ω : Wo) : NW ω (ω.1 243) (ω.1 250) = ω := by
  unfold NW; rw [wf_id]; exact wf_id ω 250
theorem NW_NW (ω : Wo) (a b c d : Row) : NW (NW ω a b) c d = NW ω c d := by
  show wf (wf (NW ω a b) 243 c) 250 d = _
  rw [NW_3, NW_5]
theorem dig_lt {t : Row} {n h : Nat} (hd : 48 ≤ sgn t n h ∧ sgn t n h ≤ 57) : h < n := by
  refine Decidable.byContradiction fun q => ?_
  rw [sgn_out q] at hd; omega
theorem wd_lt {t : Row} {n h : Nat} (hd : isW (sgn t n h)) : h < n := by
  refine Decidable.byContradiction fun q => ?_
  rw [sgn_out q] at hd; unfold isW at hd; omega
theorem cEnd_9 {t : Row} {n h : Nat} (hd : ¬ isW (sgn t n h)) : cEnd t n h = h := if_pos (Decidable.byContradiction fun q => hd ((dOf_w _).mp q))
theorem cEnd_1 {t : Row} {n h : Nat} (hd : isW (sgn t n h)) (h0 : ¬ 0 < (cN1 t n h).2.2) : cEnd t n h = (cN1 t n h).1 := by
  unfold cEnd; rw [if_neg ((dOf_w _).mpr hd), if_pos (by omega)]
theorem cEnd_2 {t : Row} {n h : Nat} (hd : isW (sgn t n h)) (h0 : 0 < (cN1 t n h).2.2) : cEnd t n h = (cN2 t n h).1 := by
  unfold cEnd; rw [if_neg ((dOf_w _).mpr hd), if_neg (by omega)]
theorem cN2_0 {t : Row} {n h : Nat} (hd : dg2 (dOf (sgn t n h)) = 0) : cN2 t n h = ((cN1 t n h).1, 0, 0) := by unfold cN2; rw [hd]; rfl
/-- what the reading of a command leaves -/
def RcP (ω : Wo) (t : Row) (n h m : Nat) (z : Int) (ω' : Wo) : Prop :=
  ∃ o : Row, ω' = NW ω (up (up (ω.1 243) 17 ((m + 1 : Nat) : Int)) 16 (cEnd t n h : Int)) o ∧ (∀ y, y < 3 * m → o y = ω.1 250 y) ∧ ((z = 1 ∧ cOk t n h ∧ cRd t n h o m) ∨ (z = 0 ∧ ¬ cOk t n h))
theorem RcP.no {ω : Wo} {t : Row} {n h m E : Nat} {o : Row} (hk : ¬ cOk t n h) (he : cEnd t n h = E) (hf : ∀ y, y < 3 * m → o y = ω.1 250 y) : RcP ω t n h m 0 (NW ω (up (up (ω.1 243) 17 ((m + 1 : Nat) : Int)) 16 (E : Int)) o) :=
  ⟨o, by rw [he], hf, Or.inr ⟨rfl, hk⟩⟩
theorem RcP.ok {ω : Wo} {t : Row} {n h m E : Nat} {o : Row} (hk : cOk t n h) (he : cEnd t n h = E) (hf : ∀ y, y < 3 * m → o y = ω.1 250 y) (hr : cRd t n h o m) : RcP ω t n h m 1 (NW ω (up (up (ω.1 243) 17 ((m + 1 : Nat) : Int)) 16 (E : Int)) o) :=
  ⟨o, by rw [he], hf, Or.inl ⟨rfl, hk, hr⟩⟩
