/-! boats that sail, crews that go out: rows -/
theorem comeIn_irr {s : Row} {b y : Nat} (hb : b < 3) (hy : y < 78 ∨ 99 ≤ y ∨ (y - 78) % 7 ≠ 2) : comeIn s b y = up (up (inUp s b (cM s)) (78 + 7 * b + 5) (-1)) 5 (up (inUp s b (cM s)) (78 + 7 * b + 5) (-1) 5 + 1) y := by
  unfold comeIn
  try simp only []
  simp only [up]
  repeat' split
  all_goals (first | rfl | omega)
theorem boatGo_out {s : Row} {b : Nat} (h : sB s b 2 ≠ 0) : boatGo s b = (if 0 < sB (up s (78 + 7 * b + 3) (max 0 (sB s b 3 - 1))) b 3 then up s (78 + 7 * b + 3) (max 0 (sB s b 3 - 1)) else if hgt (up s (78 + 7 * b + 3) (max 0 (sB s b 3 - 1)) 0) < sB (up s (78 + 7 * b + 3) (max 0 (sB s b 3 - 1))) b 0 then up (up s (78 + 7 * b + 3) (max 0 (sB s b 3 - 1))) (78 + 7 * b + 4) (sB (up s (78 + 7 * b + 3) (max 0 (sB s b 3 - 1))) b 4 + 1) else comeIn (up s (78 + 7 * b + 3) (max 0 (sB s b 3 - 1))) b) := by
  show (if _ then _ else _) = _
  rw [if_neg h]
theorem boatGo_t {s t : Row} {b : Nat} (h : sB s b 2 ≠ 0) (ht : t = up s (78 + 7 * b + 3) (max 0 (sB s b 3 - 1))) : boatGo s b = (if 0 < sB t b 3 then t else if hgt (t 0) < sB t b 0 then up t (78 + 7 * b + 4) (sB t b 4 + 1) else comeIn t b) := by
  rw [boatGo_out h, ← ht]
theorem boatGo_in {s : Row} {b : Nat} (h : sB s b 2 = 0) : boatGo s b = s := if_pos h
