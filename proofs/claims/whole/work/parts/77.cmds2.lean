/-! the text of commands: class and reference agree -/
theorem km_x {x : Nat} (hx : (43 ≤ x ∧ x < 65) ∨ x = 69 ∨ x = 73 ∨ x = 74 ∨ (243 ≤ x ∧ x ≠ 252)) : x ≠ 252 ∧ ((43 ≤ x ∧ x < 65) ∨ x = 69 ∨ x = 73 ∨ x = 74 ∨ 243 ≤ x) := by omega
theorem s_commands {Γ : Ga} {l : Launch} {ω : Wo} {M : Int} (hsl : l.stackTraces = false) (h : INV M ω) (hM : M + 70000 ≤ 100000000) : CW Γ l yL_commands cL_commands 3 [(0, 8, 11, 43), (0, 8, 14, 13)] 21 1 [.ref (rl Γ 0), .ref (rl Γ 252)] ω (fun z W => CI Γ l yX9_commands cX9_commands 4 .int 7 [.ref (rl Γ 243)] W (fun z2 W2 => Ag (M + 70000) z z2 W2)) := by
  obtain ⟨n0, hh, p1, p2, p3⟩ := h.pa
  obtain ⟨n, t1, t2, t3, t5⟩ := h.tp
  refine (w_commands (by decide) (c_X8_commands9 hsl h.cr h.st h.ri h.wi t2 t1 (by omega) h.q22 p1) (fun E ω1 hE => ?_)).mono (fun z W hz => ?_)
  · exact hE.elim (fun q => Or.inl q.1) (fun q => Or.inr q.1)
  have hk : ∃ v ω1, KM ω ω1 ∧ (W = wi ω1 252 0 v ∨ W = ω1) ∧ St W 1 (W.1 244) = St W 1 (W.1 244) := by
    rcases hz with ⟨-, v, ω1, -, ⟨-, -, -, -, -, -, -, a8, -⟩, e⟩ | ⟨-, a1⟩ | ⟨-, a1⟩
    · exact ⟨v, ω1, a8, Or.inl e, rfl⟩
    · rcases a1 with ⟨-, -, -, -, -, -, a8, -⟩ | ⟨-, -, -, -, -, -, -, a8, -⟩
      · exact ⟨0, W, a8, Or.inr rfl, rfl⟩
      · exact ⟨0, W, a8, Or.inr rfl, rfl⟩
    · rcases a1 with ⟨-, -, -, -, -, -, a8, -⟩ | ⟨-, -, -, -, -, -, -, a8, -⟩
      · exact ⟨0, W, a8, Or.inr rfl, rfl⟩
      · exact ⟨0, W, a8, Or.inr rfl, rfl⟩
  obtain ⟨v9, ω9, k1, k2, -⟩ := hk
  have e1 : ∀ x, (43 ≤ x ∧ x < 65) ∨ x = 69 ∨ x = 73 ∨ x = 74 ∨ (243 ≤ x ∧ x ≠ 252) → W.1 x = ω.1 x := fun x hx => by
    rcases k2 with rfl | rfl
    · exact (wi_ne (km_x hx).1).trans (k1.1 x (km_x hx).2)
    · exact k1.1 x (km_x hx).2
  have e0 : ∀ y, y ≠ 5 → y ≠ 10 → W.1 0 y = ω.1 0 y := fun y a1 a2 => by
    rcases k2 with rfl | rfl
    · exact (congrFun (wi_ne (by decide)) y).trans (k1.2.1 y a1 a2)
    · exact k1.2.1 y a1 a2
  have e2 : ∀ x, x ≠ 4 → x ≠ 25 → x ≠ 64 → x ≠ 70 → (x < 75 ∨ 243 ≤ x) → W.2.1 x = ω.2.1 x := fun x a1 a2 a3 a4 a5 => by
    rcases k2 with rfl | rfl
    · exact k1.2.2.1 x a1 a2 a3 a4 a5
    · exact k1.2.2.1 x a1 a2 a3 a4 a5
  clear k2 k1
  have e43 := e1 243 (by omega)
  have e44 := e1 244 (by omega)
  have e45 := e1 245 (by omega)
  have e48 := e1 248 (by omega)
  have e49 : W.1 249 = ω.1 69 := (e1 249 (by omega)).trans t5.symm
  have hwm : WM W.2.1 := by
    have := h.wm; unfold WM at this ⊢; rw [e2 243 (by decide) (by decide) (by decide) (by decide) (by omega)]; exact this
  refine (c_X9_commands hwm (M := M) (by rw [e44]; exact h.ri) (n := n) (by rw [e43]; exact t3) t1 (by rw [e44]; exact h.wi) (by omega) (by rw [e45]; exact h.z.1) (c5 := n0) (by rw [e43]; exact p2) p1.2.1).mono (fun z2 W2 hz2 => ?_)
  obtain ⟨o, K, E, hK, hz2⟩ := hz2
  rw [e49, e44, e43] at hz2
  rw [e49] at hK
  have hT : W2.1 243 15 = 0 → W2.1 249 = W.1 249 → W2.1 68 = W.1 68 → W2.1 69 = W.1 69 → W.1 68 1 = 0 → TPr W2 := fun a1 a2 a3 a4 a5 => ⟨0, by omega, by rw [a3]; exact a5, by rw [a1]; rfl, by rw [a4, a2, e49]; exact e1 69 (by omega)⟩
  -- what the reference leaves alone, whichever way it went
  have hinv : ∀ (τ : Row), (∀ x, x ≠ 243 → x ≠ 244 → x ≠ 245 → x ≠ 248 → x ≠ 250 → W2.1 x = W.1 x) → W2.2 = W.2 → W2.1 249 = W.1 249 → W2.1 244 = τ → z11 (W2.1 245) → W2.1 243 12 = ω.1 243 12 → W2.1 243 19 = ω.1 243 19 → W2.1 243 15 = 0 → W.1 68 1 = 0 →
      W2.1 243 11 = W.1 0 10 → St W 1 τ → RI (M + 70000) τ → WI τ → PAr (M + 70000) W2 → QR W 22 → RFr W2 → INV (M + 70000) W2 := fun τ a1 a2 a3 a4 a5 a6 a7 a8 a9 b1 b2 b3 b4 b5 b6 b7 => by
    refine h.st2 ⟨by omega, hM⟩ (fun x hx => (a1 x (by omega) (by omega) (by omega) (by omega) (by omega)).trans (e1 x (by omega))) ?_ (fun x c1 c2 c3 c4 c5 => by rw [a2]; exact e2 x c1 c2 c3 c4 c5) ⟨a6, a7⟩ ?_ ?_ ?_ b5 ?_ b7 ?_ ?_ a5
    · rw [a1 0 (by decide) (by decide) (by decide) (by decide) (by decide)]; exact e0 3 (by decide) (by decide)
    · rw [a4]; exact b2.fr b3.cc (fun x _ _ => a1 x (by omega) (by omega) (by omega) (by omega) (by omega)) (fun x _ _ => by rw [a2])
    · rw [a4]; exact b3
    · rw [a4]; exact b4
    · exact qr_of (fun x _ _ => by rw [a2]) b6
    · rw [a1 0 (by decide) (by decide) (by decide) (by decide) (by decide)]; exact b1.symm
    · exact hT a8 a3 (a1 68 (by decide) (by decide) (by decide) (by decide) (by decide)) (a1 69 (by decide) (by decide) (by decide) (by decide) (by decide)) a9
  have hpas : PA M W n0 hh → W2.1 0 = W.1 0 → (∀ x, 75 ≤ x → x < 243 → W2.1 x = W.1 x) → W2.2 = W.2 → W2.1 243 5 = ω.1 243 5 → W2.1 248 = W.1 248 → PAr (M + 70000) W2 := fun a1 a2 a3 a4 a5 a6 =>
    ⟨n0, hh, a1.of ⟨by omega, hM⟩ (by rw [a2]) a3 (fun x _ => by rw [a4]), a5.trans p2, fun j hj y hy => by rw [a6, e48]; exact p3 j hj y hy⟩
  rcases hz with ⟨rfl, v, ω1, hv, ⟨a1, a2, a3, a4, a5, a6, a7, a8, a9, b1, b2, b3⟩, e⟩ | ⟨rfl, hz⟩ | ⟨rfl, hz⟩
  · -- all was carried out
    rw [← hK] at a2 a3 a4
    rcases hz2 with ⟨q1, -⟩ | ⟨-, -, -, q1, -⟩ | ⟨q0, qK, q1, q2, q3, q4⟩
    · exact absurd a1 q1
    · rw [a3] at q1; exact absurd q1 (Nat.lt_irrefl _)
    have hex := exc_keep h.ri h.wi (D := tD (ω.1 69) n) (A := tA (ω.1 69) n) (B := tB (ω.1 69) n) K (by omega) (fun j hj => ⟨q1 j hj, q2 j hj⟩)
    have w1 : ∀ x, x ≠ 252 → W.1 x = ω1.1 x := fun x hx => by rw [e]; exact wi_ne hx
    have w2 : W.2 = ω1.2 := by rw [e]; rfl
    have c1 : ∀ x, x ≠ 243 → x ≠ 244 → x ≠ 245 → x ≠ 248 → x ≠ 250 → W2.1 x = W.1 x := fun x c1 c2 c3 c4 c5 => by
      rw [q4, chg_x c1 c4]; exact ((wf_ne _ _ c2).trans (wf_ne _ _ c3)).trans ((wf_ne _ _ c5).trans (wf_ne _ _ c1))
    have c2 : W2.2 = W.2 := by rw [q4, chg_2]; rfl
    have c43 : ∀ y, y ≠ 5 → W2.1 243 y = (up (up (up (up (up (ω.1 243) 17 (K : Int)) 16 (E : Int)) 15 0) 11 (-1)) 6 0) y := fun y hy => by
      rw [q4, chg_y hy]; rfl
    have hi := hinv (exc (ω.1 244) (tD (ω.1 69) n) (tA (ω.1 69) n) (tB (ω.1 69) n) K) c1 c2 (c1 249 (by decide) (by decide) (by decide) (by decide) (by decide)) (by rw [q4, chg_x (by decide) (by decide), EW_4, e44]) (by rw [q4, chg_x (by decide) (by decide), EW_5, e44]; exact h.ri.z11) (c43 12 (by decide)) (c43 19 (by decide)) (c43 15 (by decide)) (by rw [w1 68 (by decide)]; exact b1)
      (by rw [c43 11 (by decide), w1 0 (by decide), a9, a1]; rfl) (a4.fr hex.1.cc (fun x _ _ => w1 x (by omega)) (fun x _ _ => by rw [w2])) (hex.1.le (by omega) hM) hex.2 ?_ (qr_of (fun x _ _ => by rw [w2]) a7) ?_
    · refine ⟨hi.wm, c43 6 (by decide), fun _ => ?_, hi⟩
      rw [c1 252 (by decide) (by decide) (by decide) (by decide) (by decide), e, wi0, a2, q3]
    · refine PAr.chgd (W := ω1) (M := M) a5 ⟨by omega, hM⟩ p1.2.1 ?_ ?_ ?_ q4 ?_ ?_ ?_
      · rw [EW_3]; exact p2
      · rw [EW_5, e44]
      · intro j hj y hy; rw [show (EW W (up (up (up (up (up (ω.1 243) 17 (K : Int)) 16 (E : Int)) 15 0) 11 (-1)) 6 0) o (tD (ω.1 69) n) (tA (ω.1 69) n) (tB (ω.1 69) n) K).1 248 = W.1 248 from rfl, e48]; exact p3 j hj y hy
      · show W.1 0 5 = ω1.1 0 5; rw [w1 0 (by decide)]
      · intro x c3 c4
        refine Eq.trans ?_ (w1 x (by omega))
        exact ((wf_ne _ _ (by omega)).trans (wf_ne _ _ (by omega))).trans ((wf_ne _ _ (by omega)).trans (wf_ne _ _ (by omega)))
      · exact w2
    · obtain ⟨r1, r2, r3, r4⟩ := h.rf
      unfold RFr
      rw [c1 65 (by decide) (by decide) (by decide) (by decide) (by decide), c1 66 (by decide) (by decide) (by decide) (by decide) (by decide), w1 65 (by decide), w1 66 (by decide), b2, b3, c43 7 (by decide), c43 8 (by decide), c43 9 (by decide), c43 10 (by decide)]
      exact ⟨r1, r2, r3, r4⟩
  · -- no text of commands
    rcases hz with ⟨-, a1, a4, a5, a6, a7, a8, a9, b1, b2, b3⟩ | ⟨q, -⟩
    · rcases hz2 with ⟨q0, q1, q2⟩ | ⟨q0, -⟩ | ⟨q0, -⟩
      · have c1 : ∀ x, x ≠ 243 → x ≠ 250 → W2.1 x = W.1 x := fun x c1 c5 => by rw [q2]; exact (wf_ne _ _ c5).trans (wf_ne _ _ c1)
        have c43 : W2.1 243 = up (up (up (up (up (ω.1 243) 17 (K : Int)) 16 (E : Int)) 15 0) 11 (prs (ω.1 69) n 21 0).1) 6 1 := by rw [q2]; rfl
        have c2 : W2.2 = W.2 := by rw [q2]; rfl
        have hi := hinv (ω.1 244) (fun x c3 _ _ _ c5 => c1 x c3 c5) c2 (c1 249 (by decide) (by decide)) ((c1 244 (by decide) (by decide)).trans e44) (by rw [c1 245 (by decide) (by decide), e45]; exact h.z.1) (by rw [c43]; rfl) (by rw [c43]; rfl) (by rw [c43]; rfl) b1
          (by rw [c43, a9]; rfl) a4 (h.ri.le (by omega) hM) h.wi (hpas a5 (c1 0 (by decide) (by decide)) (fun x _ _ => c1 x (by omega) (by omega)) c2 (by rw [c43]; rfl) (c1 248 (by decide) (by decide))) a7 ?_
        · exact ⟨hi.wm, by rw [c43]; rfl, fun q => absurd q (by decide), hi⟩
        · obtain ⟨r1, r2, r3, r4⟩ := h.rf
          unfold RFr
          rw [c1 65 (by decide) (by decide), c1 66 (by decide) (by decide), b2, b3, c43]
          exact ⟨r1, r2, r3, r4⟩
      · exact absurd q0 a1
      · exact absurd q0 a1
    · exact absurd q ne_au
  · -- a command is refused
    rcases hz with ⟨q, -⟩ | ⟨-, a1, a2, a4, a5, a6, a7, a8, a9, b1, b2, b3, b4, b5⟩
    · exact absurd q ne_au.symm
    · rw [← hK] at a2 b3 b4 b5
      rcases hz2 with ⟨q0, -⟩ | ⟨q0, qK, q1, q2, q3, q4⟩ | ⟨q0, qK, q1, q2, -⟩
      · exact absurd a1 q0
      · have c1 : ∀ x, x ≠ 243 → x ≠ 245 → x ≠ 250 → W2.1 x = W.1 x := fun x c1 c3 c5 => by rw [q4]; exact (wf_ne _ _ c3).trans ((wf_ne _ _ c5).trans (wf_ne _ _ c1))
        have c2 : W2.2 = W.2 := by rw [q4]; rfl
        have c45 : W2.1 245 = ω.1 244 := by rw [q4, wf_same]
        have c43 := congrFun (congrArg Prod.fst q4) 243
        rw [wf_ne _ _ (by decide), NW_r3] at c43
        have hi := hinv (ω.1 244) (fun x c3 _ c4 _ c5 => c1 x c3 c4 c5) c2 (c1 249 (by decide) (by decide) (by decide)) ((c1 244 (by decide) (by decide) (by decide)).trans e44) (by rw [c45]; exact h.ri.z11) (by rw [c43]; rfl) (by rw [c43]; rfl) (by rw [c43]; rfl) b1
          (by rw [c43, a9, a1]; rfl) a4 (h.ri.le (by omega) hM) h.wi (hpas a5 (c1 0 (by decide) (by decide) (by decide)) (fun x _ _ => c1 x (by omega) (by omega) (by omega)) c2 (by rw [c43]; rfl) (c1 248 (by decide) (by decide) (by decide))) a7 ?_
        · exact ⟨hi.wm, by rw [c43]; rfl, fun q => absurd q (by decide), hi⟩
        · unfold RFr
          rw [c1 65 (by decide) (by decide) (by decide), c1 66 (by decide) (by decide) (by decide), b2, b3, b4, b5, c43]
          exact ⟨rfl, rfl, rfl, fun _ => rfl⟩
      · rw [excN_all q2] at a2; exact absurd a2 (Nat.lt_irrefl _)
