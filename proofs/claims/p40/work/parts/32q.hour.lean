/-! an hour's three steps -/
theorem hour_parts {M : Int} {s : Row} (hI : RI M s) (h : WI s) (hM : M + 200 ≤ 100000000) :
    RI (M + 1) (up s 0 (s 0 + 1)) ∧ WI (up s 0 (s 0 + 1)) ∧ RI (M + 21) (memsUp (up s 0 (s 0 + 1)) (cM (up s 0 (s 0 + 1)))) ∧ WI (memsUp (up s 0 (s 0 + 1)) (cM (up s 0 (s 0 + 1)))) ∧
    RI (M + 24) (boatsUp (memsUp (up s 0 (s 0 + 1)) (cM (up s 0 (s 0 + 1)))) (cB (memsUp (up s 0 (s 0 + 1)) (cM (up s 0 (s 0 + 1)))))) ∧ WI (boatsUp (memsUp (up s 0 (s 0 + 1)) (cM (up s 0 (s 0 + 1)))) (cB (memsUp (up s 0 (s 0 + 1)) (cM (up s 0 (s 0 + 1)))))) := by
  have gc := hI.c
  have gs := hI.s
  have hI1 : RI (M + 1) (up s 0 (s 0 + 1)) := RI.ss0 (hI.le (by omega) (by omega)) (by omega)
  have h1 : WI (up s 0 (s 0 + 1)) := WI_up hI h (by omega)
  have c1 := hI1.c
  have hI2 := memsUp_RI hI1 (cM (up s 0 (s 0 + 1))) c1.1.2 (by omega)
  have h2 : WI (memsUp (up s 0 (s 0 + 1)) (cM (up s 0 (s 0 + 1)))) := WI_same hI1 h1 (memsUp_at _ _ (fun k hk => by omega)) (memsUp_at _ _ (fun k hk => by omega))
    (fun i a b => ⟨memsUp_at _ _ (fun k hk => by omega), memsUp_at _ _ (fun k hk => by omega), memsUp_at _ _ (fun k hk => by omega)⟩) (fun k hk => memsUp_IS _ _ k)
  have c2 := hI2.c
  have hI3 := boatsUp_RI hI2 _ c2.2.1.2 (by omega)
  have h3 := WI_boats hI2 h2 _ (Nat.le_refl _) (by omega)
  have c3 := hI3.c
  exact ⟨hI1, h1, hI2.le (by omega) (by omega), h2, hI3.le (by omega) (by omega), h3⟩
theorem hour_e (s : Row) : hourR s = lnGo (cL (boatsUp (memsUp (up s 0 (s 0 + 1)) (cM (up s 0 (s 0 + 1)))) (cB (memsUp (up s 0 (s 0 + 1)) (cM (up s 0 (s 0 + 1))))))) (boatsUp (memsUp (up s 0 (s 0 + 1)) (cM (up s 0 (s 0 + 1)))) (cB (memsUp (up s 0 (s 0 + 1)) (cM (up s 0 (s 0 + 1)))))) 0 := rfl
/-- a member of the crew goes out -/
theorem send_1 {s : Row} {x n : Nat} {b cox : Int} (h : x / 2 ^ n % 2 = 1) (hc : (n : Int) = cox) : sendUp s x b cox (n + 1) = up (up (up (up (sendUp s x b cox n) (8 + 7 * n + 1) 1) (8 + 7 * n + 3) b) (8 + 7 * n + 5) (sM (sendUp s x b cox n) n 5 + 1)) (8 + 7 * n + 6) (sM (sendUp s x b cox n) n 6 + 1) := by
  show (if _ then _ else _) = _
  rw [if_pos h, if_pos hc]
theorem send_2 {s : Row} {x n : Nat} {b cox : Int} (h : x / 2 ^ n % 2 = 1) (hc : (n : Int) ≠ cox) : sendUp s x b cox (n + 1) = up (up (up (sendUp s x b cox n) (8 + 7 * n + 1) 1) (8 + 7 * n + 3) b) (8 + 7 * n + 5) (sM (sendUp s x b cox n) n 5 + 1) := by
  show (if _ then _ else _) = _
  rw [if_pos h, if_neg hc]
  apply up_id'
  rw [Int.add_zero, eM6, up_ne _ _ (by omega), up_ne _ _ (by omega), up_ne _ _ (by omega)]
theorem send_3 {s : Row} {x n : Nat} {b cox : Int} (h : ¬ x / 2 ^ n % 2 = 1) : sendUp s x b cox (n + 1) = sendUp s x b cox n := if_neg h
