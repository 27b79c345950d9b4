/-! what a station's row says: in the words of both sides -/
def hgt (h : Int) : Int := if h % 12 ≤ 6 then h % 12 else 12 - h % 12
def cM (s : Row) : Nat := (s 1).toNat
def cB (s : Row) : Nat := (s 2).toNat
def cL (s : Row) : Nat := (s 3).toNat
def oarsUp (s : Row) : Nat → Int
  | 0 => 6
  | n + 1 => oarsUp s n + sL s n 0
def allO (s : Row) : Int := oarsUp s (cL s)
def outUp (s : Row) : Nat → Int
  | 0 => 0
  | n + 1 => outUp s n + (if sB s n 2 = 1 then sB s n 1 - 1 else 0)
def outO (s : Row) : Int := outUp s (cB s)
def freeO (s : Row) : Int := allO s - outO s
def stayUp (s : Row) : Nat → Int
  | 0 => 0
  | n + 1 => stayUp s n + (if sM s n 1 = 2 then 0 else 1)
def stayN (s : Row) : Int := stayUp s (cM s)
def ableP (s : Row) (k : Int) : Prop := sM s k 1 = 0 ∧ sM s k 2 < s 7
def ableUp (s : Row) : Nat → Nat
  | 0 => 0
  | n + 1 => ableUp s n ||| (if sM s n 1 = 0 ∧ sM s n 2 < s 7 then 2 ^ n else 0)
def ableS (s : Row) : Nat := ableUp s (cM s)
def bitsUp (x : Nat) : Nat → Nat
  | 0 => 0
  | n + 1 => bitsUp x n + x / 2 ^ n % 2
def bitsN (x : Nat) : Nat := bitsUp x 10
def lstUp (s : Row) (x : Nat) (sk : Int) : Nat → Int
  | 0 => -1
  | n + 1 => if (x / 2 ^ n % 2 = 1 ∧ sk ≤ sM s n 0) ∧ (lstUp s x sk n < 0 ∨ sM s n 2 < sM s (lstUp s x sk n) 2) then n else lstUp s x sk n
def lst (s : Row) (x : Nat) (sk : Int) : Int := lstUp s x sk (cM s)
def sklUp (s : Row) (x : Nat) : Nat → Int
  | 0 => 0
  | n + 1 => sklUp s x n + (if x / 2 ^ n % 2 = 1 ∧ 0 < sM s n 0 then 1 else 0)
def skl (s : Row) (x : Nat) : Int := sklUp s x (cM s)
def mustO (s : Row) (b : Int) : Int := (sB s b 1 - 1) / 2
/-- a set without a member -/
def del (x : Nat) (k : Nat) : Nat := x &&& (4294967295 - 2 ^ k)
def whyC (s : Row) (b : Int) : Int :=
  if lst s (ableS s) 2 < 0 then 8 else if (bitsN (ableS s) : Int) < sB s b 1 then 9
  else if skl s (del (ableS s) (lst s (ableS s) 2).toNat) < mustO s b then 10 else 0
/-- crew and who is left, behind n choices -/
def crwUp (s : Row) (b : Int) : Nat → Nat × Nat
  | 0 => (2 ^ (lst s (ableS s) 2).toNat, del (ableS s) (lst s (ableS s) 2).toNat)
  | n + 1 => ((crwUp s b n).1 ||| 2 ^ (lst s (crwUp s b n).2 (if (n : Int) < mustO s b then 1 else 0)).toNat, del (crwUp s b n).2 (lst s (crwUp s b n).2 (if (n : Int) < mustO s b then 1 else 0)).toNat)
def crw (s : Row) (b : Int) : Nat := (crwUp s b (sB s b 1 - 1).toNat).1
def lowP (s : Row) (b : Int) : Prop := hgt (s 0) < sB s b 0
def whyN (s : Row) (b : Int) : Int :=
  if sB s b 2 = 1 then 5 else if hgt (s 0) < sB s b 0 then 7 else if 0 < whyC s b then whyC s b else if freeO s < sB s b 1 - 1 then 11 else 0
def lack (s : Row) (b why : Int) : Int :=
  if why = 5 then b else if why = 7 then sB s b 0 - hgt (s 0) else if why = 9 then sB s b 1 - bitsN (ableS s)
  else if why = 10 then mustO s b - skl s (del (ableS s) (lst s (ableS s) 2).toNat) else if why = 11 then sB s b 1 - 1 - freeO s else 0
/-! deeds: why one is refused, what it answers and makes of the row -/
def jA (s : Row) (m : Int) : Int × Int := if ¬ (0 ≤ m ∧ m ≤ s 1 - 1) then (3, m) else if sM s m 1 = 2 then (4, 0) else if sM s m 1 = 1 then (5, sM s m 3) else (0, 0)
def jd (d : Nat) (s : Row) (a b : Int) : Int × Int := match d with
  | 0 => if ¬ (0 ≤ a ∧ a ≤ 2) then (1, 0) else if s 1 = 10 then (2, 10) else (0, 0)
  | 1 => jA s a
  | 2 => if (jA s a).1 ≠ 0 then jA s a else if sM s a 0 = 2 then (6, 0) else (0, 0)
  | 3 => if ¬ ((0 ≤ a ∧ a ≤ 6) ∧ 2 ≤ b ∧ b ≤ 6) then (1, 0) else if s 2 = 3 then (2, 3) else (0, 0)
  | 4 => if ¬ (0 ≤ a ∧ a ≤ s 2 - 1) then (3, a) else if ¬ (1 ≤ b ∧ b ≤ 9) then (1, 0) else if 0 < whyN s a then (whyN s a, lack s a (whyN s a)) else (0, 0)
  | 5 => if ¬ (1 ≤ a ∧ a ≤ 9) then (1, 0) else if ¬ (1 ≤ b ∧ b ≤ 48) then (1, 0) else if s 3 = 4 then (2, 4) else (0, 0)
  | 6 => if ¬ (0 ≤ a ∧ a ≤ s 3 - 1) then (3, a) else if 0 < sL s a 0 - freeO s then (11, sL s a 0 - freeO s) else (0, 0)
  | 7 => if ¬ (1 ≤ a ∧ a ≤ 20) then (1, 0) else if s 7 = a then (6, 0) else (0, 0)
  | _ => if ¬ (1 ≤ a ∧ a ≤ 99) then (1, 0) else (0, 0)
def newM (s : Row) (a : Int) : Row := fun y => if y = 1 then s 1 + 1 else if 8 + 7 * cM s ≤ y ∧ y < 8 + 7 * cM s + 7 then (if y = 8 + 7 * cM s then a else if y = 8 + 7 * cM s + 3 then -1 else 0) else s y
def newB (s : Row) (a b : Int) : Row := fun y => if y = 2 then s 2 + 1 else if 78 + 7 * cB s ≤ y ∧ y < 78 + 7 * cB s + 7 then (if y = 78 + 7 * cB s then a else if y = 78 + 7 * cB s + 1 then b else if y = 78 + 7 * cB s + 5 then -1 else 0) else s y
def newL (s : Row) (a b : Int) : Row := fun y => if y = 3 then s 3 + 1 else if y = 99 + 3 * cL s then a else if y = 99 + 3 * cL s + 1 then b else if y = 99 + 3 * cL s + 2 then 0 else s y
def takeL (s : Row) (q : Nat) : Row := fun y => if y = 3 then s 3 - 1 else if 99 + 3 * q ≤ y ∧ y < 99 + 3 * (cL s - 1) then s (y + 3) else if 99 + 3 * (cL s - 1) ≤ y ∧ y < 99 + 3 * (cL s - 1) + 3 then 0 else s y
/-- a crew's members go out with a boat -/
def sendUp (s : Row) (x : Nat) (b cox : Int) : Nat → Row
  | 0 => s
  | n + 1 => if x / 2 ^ n % 2 = 1 then
      up (up (up (up (sendUp s x b cox n) (8 + 7 * n + 1) 1) (8 + 7 * n + 3) b) (8 + 7 * n + 5) (sM (sendUp s x b cox n) n 5 + 1)) (8 + 7 * n + 6) (sM (sendUp s x b cox n) n 6 + (if (n : Int) = cox then 1 else 0))
    else sendUp s x b cox n
def sendR (s : Row) (b hours : Int) : Row :=
  let s1 := sendUp s (crw s b) b (lst s (ableS s) 2) (cM s)
  let b0 := (78 + 7 * b).toNat
  up (up (up (up (up s1 (b0 + 2) 1) (b0 + 3) hours) (b0 + 5) (lst s (ableS s) 2)) (b0 + 6) (sB s1 b 6 + 1)) 4 (s1 4 + 1)
def memGo (s : Row) (k : Nat) : Row :=
  if sM s k 1 = 1 then up (up s (8 + 7 * k + 2) (sM s k 2 + (if sB s (sM s k 3) 5 = k then 2 else 1))) (8 + 7 * k + 4) (sM s k 4 + 1)
  else if sM s k 1 = 0 then up s (8 + 7 * k + 2) (max 0 (sM s k 2 - 1)) else s
def memsUp (s : Row) : Nat → Row
  | 0 => s
  | n + 1 => memGo (memsUp s n) n
def inUp (s : Row) (b : Int) : Nat → Row
  | 0 => s
  | n + 1 => if sM (inUp s b n) n 1 = 1 ∧ sM (inUp s b n) n 3 = b then up (up (inUp s b n) (8 + 7 * n + 1) 0) (8 + 7 * n + 3) (-1) else inUp s b n
def comeIn (s : Row) (b : Nat) : Row :=
  let s1 := inUp s b (cM s)
  up (up (up s1 (78 + 7 * b + 2) 0) (78 + 7 * b + 5) (-1)) 5 (s1 5 + 1)
def boatGo (s : Row) (b : Nat) : Row :=
  if sB s b 2 = 0 then s else
  let s1 := up s (78 + 7 * b + 3) (max 0 (sB s b 3 - 1))
  if 0 < sB s1 b 3 then s1 else if hgt (s1 0) < sB s1 b 0 then up s1 (78 + 7 * b + 4) (sB s1 b 4 + 1) else comeIn s1 b
def boatsUp (s : Row) : Nat → Row
  | 0 => s
  | n + 1 => boatGo (boatsUp s n) n
def lnGo : Nat → Row → Nat → Row
  | 0, s, _ => s
  | n + 1, s, k =>
    if (k : Int) < s 3 then
      let s1 := up s (99 + 3 * k + 1) (max 0 (sL s k 1 - 1))
      if sL s1 k 1 = 0 ∧ sL s1 k 0 ≤ freeO s1 then lnGo n (takeL s1 k) k
      else lnGo n (up (up s1 (99 + 3 * k + 2) (sL s1 k 2 + (if sL s1 k 1 = 0 then 1 else 0))) 6 (s1 6 + (if sL s1 k 1 = 0 then 1 else 0))) (k + 1)
    else s
def hourR (s : Row) : Row :=
  let s1 := up s 0 (s 0 + 1)
  let s2 := memsUp s1 (cM s1)
  let s3 := boatsUp s2 (cB s2)
  lnGo (cL s3) s3 0
def hoursUp (s : Row) : Nat → Row
  | 0 => s
  | n + 1 => hourR (hoursUp s n)
def ad (d : Nat) (s : Row) (a b : Int) : Int × Row := match d with
  | 0 => (s 1, newM s a)
  | 1 => (stayN (up s (8 + 7 * a + 1).toNat 2), up s (8 + 7 * a + 1).toNat 2)
  | 2 => (sM s a 0 + 1, up s (8 + 7 * a).toNat (sM s a 0 + 1))
  | 3 => (s 2, newB s a b)
  | 4 => (lst s (ableS s) 2, sendR s a b)
  | 5 => (s 3, newL s a b)
  | 6 => (freeO (takeL s a.toNat), takeL s a.toNat)
  | 7 => (s 7, up s 7 a)
  | _ => (hoursUp s a.toNat 5 - s 5, hoursUp s a.toNat)
/-! the ranges of a row's numbers -/
def lo (y : Nat) : Int := if y = 7 then 1 else if 8 ≤ y ∧ y < 78 ∧ (y - 8) % 7 = 3 then -1 else if 78 ≤ y ∧ y < 99 ∧ (y - 78) % 7 = 5 then -1 else 0
def hiC (y : Nat) : Option Int := if y = 1 then some 10 else if y = 2 then some 3 else if y = 3 then some 4 else if y = 7 then some 20 else if y < 8 then none
  else if y < 78 then (if (y - 8) % 7 ≤ 1 then some 2 else if (y - 8) % 7 = 3 then some 2 else none)
  else if y < 99 then (if (y - 78) % 7 ≤ 1 then some 6 else if (y - 78) % 7 = 2 then some 1 else if (y - 78) % 7 = 3 then some 9 else if (y - 78) % 7 = 5 then some 9 else none)
  else if y < 111 then (if (y - 99) % 3 = 0 then some 9 else if (y - 99) % 3 = 1 then some 48 else none) else some 0
def RI (M : Int) (s : Row) : Prop := 100 ≤ M ∧ M ≤ 100000000 ∧ ∀ y, lo y ≤ s y ∧ s y ≤ (hiC y).getD M
theorem RI.set {M : Int} {s : Row} (h : RI M s) {a : Nat} {v : Int} (hv : lo a ≤ v ∧ v ≤ (hiC a).getD M) : RI M (up s a v) := by
  refine ⟨h.1, h.2.1, fun y => ?_⟩
  unfold up
  split
  · rename_i e; subst e; exact hv
  · exact h.2.2 y
theorem RI.le {M N : Int} {s : Row} (h : RI M s) (hMN : M ≤ N) (hN : N ≤ 100000000) : RI N s := by
  refine ⟨by have := h.1; omega, hN, fun y => ?_⟩
  have := h.2.2 y
  cases e : hiC y with
  | none => rw [e] at this; simp at this ⊢; omega
  | some v => rw [e] at this; exact this
theorem lo_m : ∀ k, k < 10 → lo (8 + 7 * k + 0) = 0 ∧ lo (8 + 7 * k + 1) = 0 ∧ lo (8 + 7 * k + 2) = 0 ∧ lo (8 + 7 * k + 3) = -1 ∧ lo (8 + 7 * k + 4) = 0 ∧ lo (8 + 7 * k + 5) = 0 ∧ lo (8 + 7 * k + 6) = 0 := by decide
theorem hi_m : ∀ k, k < 10 → hiC (8 + 7 * k + 0) = some 2 ∧ hiC (8 + 7 * k + 1) = some 2 ∧ hiC (8 + 7 * k + 2) = none ∧ hiC (8 + 7 * k + 3) = some 2 ∧ hiC (8 + 7 * k + 4) = none ∧ hiC (8 + 7 * k + 5) = none ∧ hiC (8 + 7 * k + 6) = none := by decide
theorem lo_b : ∀ k, k < 3 → lo (78 + 7 * k + 0) = 0 ∧ lo (78 + 7 * k + 1) = 0 ∧ lo (78 + 7 * k + 2) = 0 ∧ lo (78 + 7 * k + 3) = 0 ∧ lo (78 + 7 * k + 4) = 0 ∧ lo (78 + 7 * k + 5) = -1 ∧ lo (78 + 7 * k + 6) = 0 := by decide
theorem hi_b : ∀ k, k < 3 → hiC (78 + 7 * k + 0) = some 6 ∧ hiC (78 + 7 * k + 1) = some 6 ∧ hiC (78 + 7 * k + 2) = some 1 ∧ hiC (78 + 7 * k + 3) = some 9 ∧ hiC (78 + 7 * k + 4) = none ∧ hiC (78 + 7 * k + 5) = some 9 ∧ hiC (78 + 7 * k + 6) = none := by decide
theorem lo_l : ∀ k, k < 4 → lo (99 + 3 * k + 0) = 0 ∧ lo (99 + 3 * k + 1) = 0 ∧ lo (99 + 3 * k + 2) = 0 := by decide
theorem hi_l : ∀ k, k < 4 → hiC (99 + 3 * k + 0) = some 9 ∧ hiC (99 + 3 * k + 1) = some 48 ∧ hiC (99 + 3 * k + 2) = none := by decide
theorem sM_n (s : Row) (k w : Nat) : sM s k w = s (8 + 7 * k + w) := by unfold sM; congr 1
theorem sB_n (s : Row) (k w : Nat) : sB s k w = s (78 + 7 * k + w) := by unfold sB; congr 1
theorem sL_n (s : Row) (k w : Nat) : sL s k w = s (99 + 3 * k + w) := by unfold sL; congr 1
theorem RI.m {M : Int} {s : Row} (h : RI M s) (k : Int) (hk : 0 ≤ k ∧ k < 10) : (0 ≤ sM s k 0 ∧ sM s k 0 ≤ 2) ∧ (0 ≤ sM s k 1 ∧ sM s k 1 ≤ 2) ∧ (0 ≤ sM s k 2 ∧ sM s k 2 ≤ M) ∧ (-1 ≤ sM s k 3 ∧ sM s k 3 ≤ 2) ∧ (0 ≤ sM s k 4 ∧ sM s k 4 ≤ M) ∧ (0 ≤ sM s k 5 ∧ sM s k 5 ≤ M) ∧ (0 ≤ sM s k 6 ∧ sM s k 6 ≤ M) := by
  obtain ⟨n, rfl⟩ := Int.eq_ofNat_of_zero_le hk.1
  have hn : n < 10 := by omega
  have e : ∀ w : Nat, sM s n (w : Int) = s (8 + 7 * n + w) := sM_n s n
  have a := lo_m n hn
  have b := hi_m n hn
  have g := fun w : Nat => h.2.2 (8 + 7 * n + w)
  have g0 := g 0; have g1 := g 1; have g2 := g 2; have g3 := g 3; have g4 := g 4; have g5 := g 5; have g6 := g 6
  rw [a.1, b.1, ← e 0] at g0; rw [a.2.1, b.2.1, ← e 1] at g1; rw [a.2.2.1, b.2.2.1, ← e 2] at g2; rw [a.2.2.2.1, b.2.2.2.1, ← e 3] at g3
  rw [a.2.2.2.2.1, b.2.2.2.2.1, ← e 4] at g4; rw [a.2.2.2.2.2.1, b.2.2.2.2.2.1, ← e 5] at g5; rw [a.2.2.2.2.2.2, b.2.2.2.2.2.2, ← e 6] at g6
  exact ⟨g0, g1, g2, g3, g4, g5, g6⟩
theorem RI.b {M : Int} {s : Row} (h : RI M s) (k : Int) (hk : 0 ≤ k ∧ k < 3) : (0 ≤ sB s k 0 ∧ sB s k 0 ≤ 6) ∧ (0 ≤ sB s k 1 ∧ sB s k 1 ≤ 6) ∧ (0 ≤ sB s k 2 ∧ sB s k 2 ≤ 1) ∧ (0 ≤ sB s k 3 ∧ sB s k 3 ≤ 9) ∧ (0 ≤ sB s k 4 ∧ sB s k 4 ≤ M) ∧ (-1 ≤ sB s k 5 ∧ sB s k 5 ≤ 9) ∧ (0 ≤ sB s k 6 ∧ sB s k 6 ≤ M) := by
  obtain ⟨n, rfl⟩ := Int.eq_ofNat_of_zero_le hk.1
  have hn : n < 3 := by omega
  have e : ∀ w : Nat, sB s n (w : Int) = s (78 + 7 * n + w) := sB_n s n
  have a := lo_b n hn
  have b := hi_b n hn
  have g := fun w : Nat => h.2.2 (78 + 7 * n + w)
  have g0 := g 0; have g1 := g 1; have g2 := g 2; have g3 := g 3; have g4 := g 4; have g5 := g 5; have g6 := g 6
  rw [a.1, b.1, ← e 0] at g0; rw [a.2.1, b.2.1, ← e 1] at g1; rw [a.2.2.1, b.2.2.1, ← e 2] at g2; rw [a.2.2.2.1, b.2.2.2.1, ← e 3] at g3
  rw [a.2.2.2.2.1, b.2.2.2.2.1, ← e 4] at g4; rw [a.2.2.2.2.2.1, b.2.2.2.2.2.1, ← e 5] at g5; rw [a.2.2.2.2.2.2, b.2.2.2.2.2.2, ← e 6] at g6
  exact ⟨g0, g1, g2, g3, g4, g5, g6⟩
theorem RI.l {M : Int} {s : Row} (h : RI M s) (k : Int) (hk : 0 ≤ k ∧ k < 4) : (0 ≤ sL s k 0 ∧ sL s k 0 ≤ 9) ∧ (0 ≤ sL s k 1 ∧ sL s k 1 ≤ 48) ∧ (0 ≤ sL s k 2 ∧ sL s k 2 ≤ M) := by
  obtain ⟨n, rfl⟩ := Int.eq_ofNat_of_zero_le hk.1
  have hn : n < 4 := by omega
  have e : ∀ w : Nat, sL s n (w : Int) = s (99 + 3 * n + w) := sL_n s n
  have a := lo_l n hn
  have b := hi_l n hn
  have g := fun w : Nat => h.2.2 (99 + 3 * n + w)
  have g0 := g 0; have g1 := g 1; have g2 := g 2
  rw [a.1, b.1, ← e 0] at g0; rw [a.2.1, b.2.1, ← e 1] at g1; rw [a.2.2, b.2.2, ← e 2] at g2
  exact ⟨g0, g1, g2⟩
theorem RI.s {M : Int} {s : Row} (h : RI M s) : (0 ≤ s 0 ∧ s 0 ≤ M) ∧ (0 ≤ s 1 ∧ s 1 ≤ 10) ∧ (0 ≤ s 2 ∧ s 2 ≤ 3) ∧ (0 ≤ s 3 ∧ s 3 ≤ 4) ∧ (0 ≤ s 4 ∧ s 4 ≤ M) ∧ (0 ≤ s 5 ∧ s 5 ≤ M) ∧ (0 ≤ s 6 ∧ s 6 ≤ M) ∧ (1 ≤ s 7 ∧ s 7 ≤ 20) :=
  ⟨h.2.2 0, h.2.2 1, h.2.2 2, h.2.2 3, h.2.2 4, h.2.2 5, h.2.2 6, h.2.2 7⟩
/-- the counts as naturals -/
theorem RI.c {M : Int} {s : Row} (h : RI M s) : ((cM s : Int) = s 1 ∧ cM s ≤ 10) ∧ ((cB s : Int) = s 2 ∧ cB s ≤ 3) ∧ ((cL s : Int) = s 3 ∧ cL s ≤ 4) := by
  obtain ⟨-, h1, h2, h3, -⟩ := h.s
  unfold cM cB cL
  omega
theorem ableUp_lt (s : Row) : ∀ n, ableUp s n < 2 ^ n := by
  intro n
  induction n with
  | zero => simp [ableUp]
  | succ n ih =>
    unfold ableUp
    refine Nat.or_lt_two_pow (Nat.lt_of_lt_of_le ih (Nat.pow_le_pow_right (by decide) (Nat.le_succ n))) ?_
    split
    · exact Nat.pow_lt_pow_right (by decide) (Nat.lt_succ_self n)
    · exact Nat.two_pow_pos _
theorem ableS_lt {M : Int} {s : Row} (h : RI M s) : ableS s < 1024 := by
  have h1 := ableUp_lt s (cM s)
  have h2 : 2 ^ (cM s) ≤ 2 ^ 10 := Nat.pow_le_pow_right (by decide) h.c.1.2
  unfold ableS; omega
theorem lstUp_rg (s : Row) (x : Nat) (sk : Int) : ∀ n, -1 ≤ lstUp s x sk n ∧ lstUp s x sk n < n := by
  intro n
  induction n with
  | zero => simp [lstUp]
  | succ n ih => unfold lstUp; split <;> omega
theorem sklUp_rg (s : Row) (x : Nat) : ∀ n, 0 ≤ sklUp s x n ∧ sklUp s x n ≤ n := by
  intro n
  induction n with
  | zero => simp [sklUp]
  | succ n ih => unfold sklUp; split <;> omega
theorem bitsUp_rg (x : Nat) : ∀ n, bitsUp x n ≤ n := by
  intro n
  induction n with
  | zero => simp [bitsUp]
  | succ n ih => unfold bitsUp; have := Nat.mod_lt (x / 2 ^ n) (show 0 < 2 by decide); omega
theorem stayUp_rg (s : Row) : ∀ n, 0 ≤ stayUp s n ∧ stayUp s n ≤ n := by
  intro n
  induction n with
  | zero => simp [stayUp]
  | succ n ih => unfold stayUp; split <;> omega
theorem oarsUp_rg {M : Int} {s : Row} (h : RI M s) : ∀ n, n ≤ 4 → 6 ≤ oarsUp s n ∧ oarsUp s n ≤ 6 + 9 * n := by
  intro n
  induction n with
  | zero => intro _; simp [oarsUp]
  | succ n ih => intro hn; have := ih (by omega); have g := (h.l n (by omega)).1; unfold oarsUp; omega
theorem outUp_rg {M : Int} {s : Row} (h : RI M s) : ∀ n, n ≤ 3 → -n ≤ outUp s n ∧ outUp s n ≤ 5 * n := by
  intro n
  induction n with
  | zero => intro _; simp [outUp]
  | succ n ih => intro hn; have := ih (by omega); have g := (h.b n (by omega)).2.1; unfold outUp; split <;> omega
theorem and1 (x : Nat) : x &&& 1 = x % 2 := Nat.and_one_is_mod x
theorem mul1p (k : Nat) : 1 * 2 ^ k = 2 ^ k := Nat.one_mul _
theorem hgt_rg (h : Int) : 0 ≤ hgt h ∧ hgt h ≤ 6 := by unfold hgt; split <;> omega
theorem j_iand1 {κ : Nat → Nat} {Γ : Ga} {p : Program} {l : Launch} {e : Env} {R : Room} {s : State} {m : MethodId} {args : Array Value} {below : List Frame} {meth : Method} {c : Code} {Q : State → Prop} {n ce sl : Nat} {cc : ByteArray} {own : String} {nL pc pc' : Nat} {L : List (Option Value)} {S : List Value} {ω : Wo}
    (C : Cx Γ p l s m args meth c cc own nL) {a : Nat} (d : Dx cc pc (.iand) 1 pc') (kx : J Γ p l e R s m args below meth c Q n ce sl pc' L (.int (iI ((a % 2 : Nat) : Int)) :: S) ω κ) : J Γ p l e R s m args below meth c Q n ce sl pc L (.int (iI ((1 : Nat) : Int)) :: .int (iI (a : Int)) :: S) ω κ := by
  refine j_iand C d ?_
  rw [and1]; exact kx
/-- the row, zero at n places from a on -/
def zro (s : Row) (a n : Nat) : Row := fun y => if a ≤ y ∧ y < a + n then 0 else s y
theorem zro_0 (s : Row) (a : Nat) : zro s a 0 = s := by funext y; unfold zro; rw [if_neg (by omega)]
theorem zro_s (s : Row) (a n : Nat) : up (zro s a n) (a + n) 0 = zro s a (n + 1) := by
  funext y; unfold up zro
  by_cases h : y = a + n
  · subst h; rw [if_pos rfl, if_pos (by omega)]
  · rw [if_neg h]
    by_cases h2 : a ≤ y ∧ y < a + n
    · rw [if_pos h2, if_pos (by omega)]
    · rw [if_neg h2, if_neg (by omega)]
theorem del_le (x k : Nat) : del x k ≤ x := Nat.and_le_left
theorem two_lt {k : Nat} (h : k < 10) : 2 ^ k < 1024 := by
  have : 2 ^ k < 2 ^ 10 := Nat.pow_lt_pow_right (by decide) h
  omega
def fgt : List (Option Value) → List (Option Value) → Prop
  | [], [] => True
  | a :: L, b :: L' => (b = none ∨ a = b) ∧ fgt L L'
  | _, _ => False
theorem fgt_lk : ∀ (L L' : List (Option Value)), fgt L L' → L.length = L'.length ∧ ∀ (i : Nat) (v : Value), L'[i]? = some (some v) → L[i]? = some (some v) := by
  intro L
  induction L with
  | nil => intro L' h; cases L' with
    | nil => exact ⟨rfl, fun i v h => by simp at h⟩
    | cons b t => cases h
  | cons a t ih => intro L' h; cases L' with
    | nil => cases h
    | cons b t' =>
      obtain ⟨h1, h2⟩ := h
      obtain ⟨e1, e2⟩ := ih t' h2
      refine ⟨by simp [e1], fun i v hi => ?_⟩
      cases i with
      | zero =>
        simp at hi ⊢
        rcases h1 with h1 | h1
        · rw [h1] at hi; cases hi
        · rw [h1]; exact hi
      | succ i => simp at hi ⊢; exact e2 i v hi
theorem j_fg {κ : Nat → Nat} {Γ : Ga} {p : Program} {l : Launch} {e : Env} {R : Room} {s : State} {m : MethodId} {args : Array Value} {below : List Frame} {meth : Method} {c : Code} {Q : State → Prop} {n ce sl : Nat} {pc : Nat} {L L' : List (Option Value)} {S : List Value} {ω ω' : Wo}
    (kk : J Γ p l e R s m args below meth c Q n ce sl pc L' S ω' κ) (h : fgt L L') (hω : ω = ω') : J Γ p l e R s m args below meth c Q n ce sl pc L S ω κ := by
  subst hω
  intro H locs ls hP hS hl
  obtain ⟨h1, h2⟩ := fgt_lk _ _ h
  exact kk H locs ls hP hS ⟨by rw [hl.1, h1], hl.2.1, fun i v hi => hl.2.2 i v (h2 i v hi)⟩
theorem sI {a b : Int} (h : a = b) : some (Value.int (iI a)) = some (.int (iI b)) := by rw [h]
theorem sN {a b : Nat} (h : a = b) : some (Value.int (iI (a : Int))) = some (.int (iI (b : Int))) := by rw [h]
theorem RI.sm0 {M : Int} {s : Row} (h : RI M s) {m : Int} (hm : 0 ≤ m ∧ m < 10) {v : Int} (hv : 0 ≤ v ∧ v ≤ 2) : RI M (up s (8 + 7 * m + 0).toNat v) := by
  obtain ⟨n, rfl⟩ := Int.eq_ofNat_of_zero_le hm.1
  have hn : n < 10 := by omega
  have e : (8 + 7 * (n : Int) + 0).toNat = 8 + 7 * n + 0 := by omega
  rw [e]
  refine h.set ?_
  rw [(lo_m n hn).1, (hi_m n hn).1]
  exact hv
theorem RI.sm1 {M : Int} {s : Row} (h : RI M s) {m : Int} (hm : 0 ≤ m ∧ m < 10) {v : Int} (hv : 0 ≤ v ∧ v ≤ 2) : RI M (up s (8 + 7 * m + 1).toNat v) := by
  obtain ⟨n, rfl⟩ := Int.eq_ofNat_of_zero_le hm.1
  have hn : n < 10 := by omega
  have e : (8 + 7 * (n : Int) + 1).toNat = 8 + 7 * n + 1 := by omega
  rw [e]
  refine h.set ?_
  rw [(lo_m n hn).2.1, (hi_m n hn).2.1]
  exact hv
theorem RI.sm2 {M : Int} {s : Row} (h : RI M s) {m : Int} (hm : 0 ≤ m ∧ m < 10) {v : Int} (hv : 0 ≤ v ∧ v ≤ M) : RI M (up s (8 + 7 * m + 2).toNat v) := by
  obtain ⟨n, rfl⟩ := Int.eq_ofNat_of_zero_le hm.1
  have hn : n < 10 := by omega
  have e : (8 + 7 * (n : Int) + 2).toNat = 8 + 7 * n + 2 := by omega
  rw [e]
  refine h.set ?_
  rw [(lo_m n hn).2.2.1, (hi_m n hn).2.2.1]
  exact hv
theorem RI.sm3 {M : Int} {s : Row} (h : RI M s) {m : Int} (hm : 0 ≤ m ∧ m < 10) {v : Int} (hv : -1 ≤ v ∧ v ≤ 2) : RI M (up s (8 + 7 * m + 3).toNat v) := by
  obtain ⟨n, rfl⟩ := Int.eq_ofNat_of_zero_le hm.1
  have hn : n < 10 := by omega
  have e : (8 + 7 * (n : Int) + 3).toNat = 8 + 7 * n + 3 := by omega
  rw [e]
  refine h.set ?_
  rw [(lo_m n hn).2.2.2.1, (hi_m n hn).2.2.2.1]
  exact hv
theorem RI.sm4 {M : Int} {s : Row} (h : RI M s) {m : Int} (hm : 0 ≤ m ∧ m < 10) {v : Int} (hv : 0 ≤ v ∧ v ≤ M) : RI M (up s (8 + 7 * m + 4).toNat v) := by
  obtain ⟨n, rfl⟩ := Int.eq_ofNat_of_zero_le hm.1
  have hn : n < 10 := by omega
  have e : (8 + 7 * (n : Int) + 4).toNat = 8 + 7 * n + 4 := by omega
  rw [e]
  refine h.set ?_
  rw [(lo_m n hn).2.2.2.2.1, (hi_m n hn).2.2.2.2.1]
  exact hv
theorem RI.sm5 {M : Int} {s : Row} (h : RI M s) {m : Int} (hm : 0 ≤ m ∧ m < 10) {v : Int} (hv : 0 ≤ v ∧ v ≤ M) : RI M (up s (8 + 7 * m + 5).toNat v) := by
  obtain ⟨n, rfl⟩ := Int.eq_ofNat_of_zero_le hm.1
  have hn : n < 10 := by omega
  have e : (8 + 7 * (n : Int) + 5).toNat = 8 + 7 * n + 5 := by omega
  rw [e]
  refine h.set ?_
  rw [(lo_m n hn).2.2.2.2.2.1, (hi_m n hn).2.2.2.2.2.1]
  exact hv
theorem RI.sm6 {M : Int} {s : Row} (h : RI M s) {m : Int} (hm : 0 ≤ m ∧ m < 10) {v : Int} (hv : 0 ≤ v ∧ v ≤ M) : RI M (up s (8 + 7 * m + 6).toNat v) := by
  obtain ⟨n, rfl⟩ := Int.eq_ofNat_of_zero_le hm.1
  have hn : n < 10 := by omega
  have e : (8 + 7 * (n : Int) + 6).toNat = 8 + 7 * n + 6 := by omega
  rw [e]
  refine h.set ?_
  rw [(lo_m n hn).2.2.2.2.2.2, (hi_m n hn).2.2.2.2.2.2]
  exact hv
theorem RI.sb0 {M : Int} {s : Row} (h : RI M s) {m : Int} (hm : 0 ≤ m ∧ m < 3) {v : Int} (hv : 0 ≤ v ∧ v ≤ 6) : RI M (up s (78 + 7 * m + 0).toNat v) := by
  obtain ⟨n, rfl⟩ := Int.eq_ofNat_of_zero_le hm.1
  have hn : n < 3 := by omega
  have e : (78 + 7 * (n : Int) + 0).toNat = 78 + 7 * n + 0 := by omega
  rw [e]
  refine h.set ?_
  rw [(lo_b n hn).1, (hi_b n hn).1]
  exact hv
theorem RI.sb1 {M : Int} {s : Row} (h : RI M s) {m : Int} (hm : 0 ≤ m ∧ m < 3) {v : Int} (hv : 0 ≤ v ∧ v ≤ 6) : RI M (up s (78 + 7 * m + 1).toNat v) := by
  obtain ⟨n, rfl⟩ := Int.eq_ofNat_of_zero_le hm.1
  have hn : n < 3 := by omega
  have e : (78 + 7 * (n : Int) + 1).toNat = 78 + 7 * n + 1 := by omega
  rw [e]
  refine h.set ?_
  rw [(lo_b n hn).2.1, (hi_b n hn).2.1]
  exact hv
theorem RI.sb2 {M : Int} {s : Row} (h : RI M s) {m : Int} (hm : 0 ≤ m ∧ m < 3) {v : Int} (hv : 0 ≤ v ∧ v ≤ 1) : RI M (up s (78 + 7 * m + 2).toNat v) := by
  obtain ⟨n, rfl⟩ := Int.eq_ofNat_of_zero_le hm.1
  have hn : n < 3 := by omega
  have e : (78 + 7 * (n : Int) + 2).toNat = 78 + 7 * n + 2 := by omega
  rw [e]
  refine h.set ?_
  rw [(lo_b n hn).2.2.1, (hi_b n hn).2.2.1]
  exact hv
theorem RI.sb3 {M : Int} {s : Row} (h : RI M s) {m : Int} (hm : 0 ≤ m ∧ m < 3) {v : Int} (hv : 0 ≤ v ∧ v ≤ 9) : RI M (up s (78 + 7 * m + 3).toNat v) := by
  obtain ⟨n, rfl⟩ := Int.eq_ofNat_of_zero_le hm.1
  have hn : n < 3 := by omega
  have e : (78 + 7 * (n : Int) + 3).toNat = 78 + 7 * n + 3 := by omega
  rw [e]
  refine h.set ?_
  rw [(lo_b n hn).2.2.2.1, (hi_b n hn).2.2.2.1]
  exact hv
theorem RI.sb4 {M : Int} {s : Row} (h : RI M s) {m : Int} (hm : 0 ≤ m ∧ m < 3) {v : Int} (hv : 0 ≤ v ∧ v ≤ M) : RI M (up s (78 + 7 * m + 4).toNat v) := by
  obtain ⟨n, rfl⟩ := Int.eq_ofNat_of_zero_le hm.1
  have hn : n < 3 := by omega
  have e : (78 + 7 * (n : Int) + 4).toNat = 78 + 7 * n + 4 := by omega
  rw [e]
  refine h.set ?_
  rw [(lo_b n hn).2.2.2.2.1, (hi_b n hn).2.2.2.2.1]
  exact hv
theorem RI.sb5 {M : Int} {s : Row} (h : RI M s) {m : Int} (hm : 0 ≤ m ∧ m < 3) {v : Int} (hv : -1 ≤ v ∧ v ≤ 9) : RI M (up s (78 + 7 * m + 5).toNat v) := by
  obtain ⟨n, rfl⟩ := Int.eq_ofNat_of_zero_le hm.1
  have hn : n < 3 := by omega
  have e : (78 + 7 * (n : Int) + 5).toNat = 78 + 7 * n + 5 := by omega
  rw [e]
  refine h.set ?_
  rw [(lo_b n hn).2.2.2.2.2.1, (hi_b n hn).2.2.2.2.2.1]
  exact hv
theorem RI.sb6 {M : Int} {s : Row} (h : RI M s) {m : Int} (hm : 0 ≤ m ∧ m < 3) {v : Int} (hv : 0 ≤ v ∧ v ≤ M) : RI M (up s (78 + 7 * m + 6).toNat v) := by
  obtain ⟨n, rfl⟩ := Int.eq_ofNat_of_zero_le hm.1
  have hn : n < 3 := by omega
  have e : (78 + 7 * (n : Int) + 6).toNat = 78 + 7 * n + 6 := by omega
  rw [e]
  refine h.set ?_
  rw [(lo_b n hn).2.2.2.2.2.2, (hi_b n hn).2.2.2.2.2.2]
  exact hv
theorem RI.sl0 {M : Int} {s : Row} (h : RI M s) {m : Int} (hm : 0 ≤ m ∧ m < 4) {v : Int} (hv : 0 ≤ v ∧ v ≤ 9) : RI M (up s (99 + 3 * m + 0).toNat v) := by
  obtain ⟨n, rfl⟩ := Int.eq_ofNat_of_zero_le hm.1
  have hn : n < 4 := by omega
  have e : (99 + 3 * (n : Int) + 0).toNat = 99 + 3 * n + 0 := by omega
  rw [e]
  refine h.set ?_
  rw [(lo_l n hn).1, (hi_l n hn).1]
  exact hv
theorem RI.sl1 {M : Int} {s : Row} (h : RI M s) {m : Int} (hm : 0 ≤ m ∧ m < 4) {v : Int} (hv : 0 ≤ v ∧ v ≤ 48) : RI M (up s (99 + 3 * m + 1).toNat v) := by
  obtain ⟨n, rfl⟩ := Int.eq_ofNat_of_zero_le hm.1
  have hn : n < 4 := by omega
  have e : (99 + 3 * (n : Int) + 1).toNat = 99 + 3 * n + 1 := by omega
  rw [e]
  refine h.set ?_
  rw [(lo_l n hn).2.1, (hi_l n hn).2.1]
  exact hv
theorem RI.sl2 {M : Int} {s : Row} (h : RI M s) {m : Int} (hm : 0 ≤ m ∧ m < 4) {v : Int} (hv : 0 ≤ v ∧ v ≤ M) : RI M (up s (99 + 3 * m + 2).toNat v) := by
  obtain ⟨n, rfl⟩ := Int.eq_ofNat_of_zero_le hm.1
  have hn : n < 4 := by omega
  have e : (99 + 3 * (n : Int) + 2).toNat = 99 + 3 * n + 2 := by omega
  rw [e]
  refine h.set ?_
  rw [(lo_l n hn).2.2, (hi_l n hn).2.2]
  exact hv
theorem RI.ss0 {M : Int} {s : Row} (h : RI M s) {v : Int} (hv : 0 ≤ v ∧ v ≤ M) : RI M (up s 0 v) := h.set hv
theorem RI.ss1 {M : Int} {s : Row} (h : RI M s) {v : Int} (hv : 0 ≤ v ∧ v ≤ 10) : RI M (up s 1 v) := h.set hv
theorem RI.ss2 {M : Int} {s : Row} (h : RI M s) {v : Int} (hv : 0 ≤ v ∧ v ≤ 3) : RI M (up s 2 v) := h.set hv
theorem RI.ss3 {M : Int} {s : Row} (h : RI M s) {v : Int} (hv : 0 ≤ v ∧ v ≤ 4) : RI M (up s 3 v) := h.set hv
theorem RI.ss4 {M : Int} {s : Row} (h : RI M s) {v : Int} (hv : 0 ≤ v ∧ v ≤ M) : RI M (up s 4 v) := h.set hv
theorem RI.ss5 {M : Int} {s : Row} (h : RI M s) {v : Int} (hv : 0 ≤ v ∧ v ≤ M) : RI M (up s 5 v) := h.set hv
theorem RI.ss6 {M : Int} {s : Row} (h : RI M s) {v : Int} (hv : 0 ≤ v ∧ v ≤ M) : RI M (up s 6 v) := h.set hv
theorem RI.ss7 {M : Int} {s : Row} (h : RI M s) {v : Int} (hv : 1 ≤ v ∧ v ≤ 20) : RI M (up s 7 v) := h.set hv
theorem tM0 (k : Nat) : (8 + 7 * (k : Int) + 0).toNat = 8 + 7 * k + 0 := by omega
theorem tM1 (k : Nat) : (8 + 7 * (k : Int) + 1).toNat = 8 + 7 * k + 1 := by omega
theorem tM2 (k : Nat) : (8 + 7 * (k : Int) + 2).toNat = 8 + 7 * k + 2 := by omega
theorem tM3 (k : Nat) : (8 + 7 * (k : Int) + 3).toNat = 8 + 7 * k + 3 := by omega
theorem tM4 (k : Nat) : (8 + 7 * (k : Int) + 4).toNat = 8 + 7 * k + 4 := by omega
theorem tM5 (k : Nat) : (8 + 7 * (k : Int) + 5).toNat = 8 + 7 * k + 5 := by omega
theorem tM6 (k : Nat) : (8 + 7 * (k : Int) + 6).toNat = 8 + 7 * k + 6 := by omega
theorem tB0 (k : Nat) : (78 + 7 * (k : Int) + 0).toNat = 78 + 7 * k + 0 := by omega
theorem tB1 (k : Nat) : (78 + 7 * (k : Int) + 1).toNat = 78 + 7 * k + 1 := by omega
theorem tB2 (k : Nat) : (78 + 7 * (k : Int) + 2).toNat = 78 + 7 * k + 2 := by omega
theorem tB3 (k : Nat) : (78 + 7 * (k : Int) + 3).toNat = 78 + 7 * k + 3 := by omega
theorem tB4 (k : Nat) : (78 + 7 * (k : Int) + 4).toNat = 78 + 7 * k + 4 := by omega
theorem tB5 (k : Nat) : (78 + 7 * (k : Int) + 5).toNat = 78 + 7 * k + 5 := by omega
theorem tB6 (k : Nat) : (78 + 7 * (k : Int) + 6).toNat = 78 + 7 * k + 6 := by omega
theorem tL0 (k : Nat) : (99 + 3 * (k : Int) + 0).toNat = 99 + 3 * k + 0 := by omega
theorem tL1 (k : Nat) : (99 + 3 * (k : Int) + 1).toNat = 99 + 3 * k + 1 := by omega
theorem tL2 (k : Nat) : (99 + 3 * (k : Int) + 2).toNat = 99 + 3 * k + 2 := by omega
theorem eM0 (s : Row) (k : Nat) : sM s k 0 = s (8 + 7 * k + 0) := by unfold sM; rw [tM0]
theorem eM1 (s : Row) (k : Nat) : sM s k 1 = s (8 + 7 * k + 1) := by unfold sM; rw [tM1]
theorem eM2 (s : Row) (k : Nat) : sM s k 2 = s (8 + 7 * k + 2) := by unfold sM; rw [tM2]
theorem eM3 (s : Row) (k : Nat) : sM s k 3 = s (8 + 7 * k + 3) := by unfold sM; rw [tM3]
theorem eM4 (s : Row) (k : Nat) : sM s k 4 = s (8 + 7 * k + 4) := by unfold sM; rw [tM4]
theorem eM5 (s : Row) (k : Nat) : sM s k 5 = s (8 + 7 * k + 5) := by unfold sM; rw [tM5]
theorem eM6 (s : Row) (k : Nat) : sM s k 6 = s (8 + 7 * k + 6) := by unfold sM; rw [tM6]
theorem eB0 (s : Row) (k : Nat) : sB s k 0 = s (78 + 7 * k + 0) := by unfold sB; rw [tB0]
theorem eB1 (s : Row) (k : Nat) : sB s k 1 = s (78 + 7 * k + 1) := by unfold sB; rw [tB1]
theorem eB2 (s : Row) (k : Nat) : sB s k 2 = s (78 + 7 * k + 2) := by unfold sB; rw [tB2]
theorem eB3 (s : Row) (k : Nat) : sB s k 3 = s (78 + 7 * k + 3) := by unfold sB; rw [tB3]
theorem eB4 (s : Row) (k : Nat) : sB s k 4 = s (78 + 7 * k + 4) := by unfold sB; rw [tB4]
theorem eB5 (s : Row) (k : Nat) : sB s k 5 = s (78 + 7 * k + 5) := by unfold sB; rw [tB5]
theorem eB6 (s : Row) (k : Nat) : sB s k 6 = s (78 + 7 * k + 6) := by unfold sB; rw [tB6]
theorem eL0 (s : Row) (k : Nat) : sL s k 0 = s (99 + 3 * k + 0) := by unfold sL; rw [tL0]
theorem eL1 (s : Row) (k : Nat) : sL s k 1 = s (99 + 3 * k + 1) := by unfold sL; rw [tL1]
theorem eL2 (s : Row) (k : Nat) : sL s k 2 = s (99 + 3 * k + 2) := by unfold sL; rw [tL2]
def tk1 (s : Row) (q n : Nat) : Row := fun y => if y = 3 then s 3 - 1 else if 99 + 3 * q ≤ y ∧ y < 99 + 3 * q + n then s (y + 3) else s y
theorem tk1_0 (s : Row) (q : Nat) : up s 3 (s 3 - 1) = tk1 s q 0 := by
  funext y; simp only [tk1, up]; repeat' split
  all_goals (first | rfl | omega | (congr 1; omega))
theorem tk1_s (s : Row) (q n : Nat) : up (tk1 s q n) (99 + 3 * q + n) (s (99 + 3 * q + n + 3)) = tk1 s q (n + 1) := by
  funext y; simp only [tk1, up]; repeat' split
  all_goals (first | rfl | omega | (congr 1; omega))
theorem tk1_r (s : Row) (q n : Nat) : tk1 s q n (99 + 3 * q + n + 3) = s (99 + 3 * q + n + 3) := by
  unfold tk1; rw [if_neg (by omega), if_neg (by omega)]
theorem tk1_e (s : Row) (q : Nat) (hq : q < cL s) : zro (tk1 s q (3 * (cL s - 1 - q))) (99 + 3 * (cL s - 1)) 3 = takeL s q := by
  funext y; simp only [takeL, zro, tk1]; repeat' split
  all_goals (first | rfl | omega | (congr 1; omega))
theorem takeL_RI {M : Int} {s : Row} (h : RI M s) {q : Nat} (hq : q < cL s) : RI M (takeL s q) := by
  have gc := h.c
  have g3 := h.s.2.2.2.1
  refine ⟨h.1, h.2.1, fun y => ?_⟩
  unfold takeL
  by_cases h3 : y = 3
  · subst h3; rw [if_pos rfl]; have := h.2.2 3; show (0 : Int) ≤ _ ∧ _ ≤ (4 : Int); omega
  · rw [if_neg h3]
    by_cases h2 : 99 + 3 * q ≤ y ∧ y < 99 + 3 * (cL s - 1)
    · rw [if_pos h2]
      have := h.2.2 (y + 3)
      have e1 : lo (y + 3) = lo y := by
        unfold lo; rw [if_neg (by omega), if_neg (by omega), if_neg (by omega), if_neg (by omega), if_neg (by omega), if_neg (by omega)]
      have e2 : hiC (y + 3) = hiC y := by
        unfold hiC
        have : (y + 3 - 99) % 3 = (y - 99) % 3 := by omega
        rw [this]
        rw [if_neg (show ¬ y + 3 = 1 by omega), if_neg (show ¬ y + 3 = 2 by omega), if_neg (show ¬ y + 3 = 3 by omega), if_neg (show ¬ y + 3 = 7 by omega), if_neg (show ¬ y + 3 < 8 by omega), if_neg (show ¬ y + 3 < 78 by omega), if_neg (show ¬ y + 3 < 99 by omega), if_pos (show y + 3 < 111 by omega)]
        rw [if_neg (show ¬ y = 1 by omega), if_neg (show ¬ y = 2 by omega), if_neg (show ¬ y = 3 by omega), if_neg (show ¬ y = 7 by omega), if_neg (show ¬ y < 8 by omega), if_neg (show ¬ y < 78 by omega), if_neg (show ¬ y < 99 by omega), if_pos (show y < 111 by omega)]
      rw [e1, e2] at this; exact this
    · rw [if_neg h2]
      by_cases h4 : 99 + 3 * (cL s - 1) ≤ y ∧ y < 99 + 3 * (cL s - 1) + 3
      · rw [if_pos h4]
        have e1 : lo y = 0 := by unfold lo; rw [if_neg (by omega), if_neg (by omega), if_neg (by omega)]
        rw [e1]
        refine ⟨Int.le_refl 0, ?_⟩
        have h5 : ∀ y, 99 ≤ y → y < 111 → ∀ v, hiC y = some v → (0 : Int) ≤ v := by
          intro y a b v
          have : ∀ z, z < 12 → ((hiC (99 + z)).getD 0) ≥ 0 := by decide
          intro hv
          have := this (y - 99) (by omega)
          rw [show 99 + (y - 99) = y by omega, hv] at this
          exact this
        cases e : hiC y with
        | none => have := h.1; show (0 : Int) ≤ M; omega
        | some v => exact h5 y (by omega) (by omega) v e
      · rw [if_neg h4]; exact h.2.2 y
theorem sM_up42 (s : Row) (k : Nat) (v : Int) : sM (up s (8 + 7 * k + 2) v) k 4 = sM s k 4 := by rw [eM4, eM4]; exact up_ne _ _ (by omega)
