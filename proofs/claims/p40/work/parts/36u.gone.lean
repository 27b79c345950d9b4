theorem bits_gone {M : Int} {s : Row} (hI : RI M s) (h : WI s) : (bitsN (atUp s (-2) (cM s)) : Int) = s 1 - stayN s := by
  have gc := hI.c
  have gs := hI.s
  have hs := atUp_lt s (-2) (cM s)
  have e : ∀ n : Nat, n ≤ cM s → (bitsUp (atUp s (-2) (cM s)) n : Int) = n - stayUp s n := by
    intro n
    induction n with
    | zero => intro _; rfl
    | succ n ih =>
      intro hn
      have i := ih (by omega)
      have b := atUp_b1 s (-2) (cM s) n
      have pw := plc_w hI h (k := n) (by omega)
      have m := Nat.mod_lt (atUp s (-2) (cM s) / 2 ^ n) (show 0 < 2 by decide)
      unfold bitsUp stayUp
      by_cases q : sM s n 1 = 2
      · rw [if_pos q]
        have := b.mpr ⟨by omega, by omega⟩
        omega
      · rw [if_neg q]
        have : ¬ atUp s (-2) (cM s) / 2 ^ n % 2 = 1 := fun r => by have := (b.mp r).2; omega
        omega
  unfold bitsN stayN
  rw [bits_stop hs 10 gc.1.2, e _ (Nat.le_refl _)]
  omega
