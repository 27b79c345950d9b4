/-! deeds, undo, save, restore, commands: class and reference agree -/
theorem INV.st2 {M M' : Int} {ω W2 : Wo} (h : INV M ω) (hM : M ≤ M' ∧ M' ≤ 100000000)
    (q1 : ∀ x, (43 ≤ x ∧ x < 65) ∨ x = 73 ∨ x = 74 ∨ x = 246 ∨ x = 247 ∨ x = 251 → W2.1 x = ω.1 x) (q0 : W2.1 0 3 = ω.1 0 3)
    (q2 : ∀ x, x ≠ 4 → x ≠ 25 → x ≠ 64 → x ≠ 70 → (x < 75 ∨ 243 ≤ x) → W2.2.1 x = ω.2.1 x) (q3 : W2.1 243 12 = ω.1 243 12 ∧ W2.1 243 19 = ω.1 243 19)
    (hS : St W2 1 (W2.1 244)) (hI : RI M' (W2.1 244)) (hW : WI (W2.1 244)) (hP : PAr M' W2) (hQ : QR W2 22) (hR : RFr W2) (hF : W2.1 0 10 = W2.1 243 11) (hT : TPr W2) (hz : z11 (W2.1 245)) : INV M' W2 := by
  refine ⟨⟨?_, ?_⟩, ⟨hS, hI, hW⟩, hP, ?_, hQ, hR, hF, hT, ?_, ?_⟩
  · have := h.wm; unfold WM at this ⊢; rw [q2 243 (by decide) (by decide) (by decide) (by decide) (by omega)]; exact this
  · have := h.cr; unfold CR at this ⊢; rw [q2 0 (by decide) (by decide) (by decide) (by decide) (by omega), q2 68 (by decide) (by decide) (by decide) (by decide) (by omega), q2 73 (by decide) (by decide) (by decide) (by decide) (by omega)]; exact this
  · obtain ⟨s1, s2, s3, s4⟩ := h.sv
    refine ⟨by rw [q0, q3.1]; exact s1, fun hn => ?_, qr_of (fun x _ _ => q2 x (by omega) (by omega) (by omega) (by omega) (by omega)) s3, by rw [q3.1]; exact s4⟩
    rw [q3.1] at hn
    obtain ⟨t1, t2, t3⟩ := s2 hn
    rw [q1 247 (by omega)]
    exact ⟨t1.fr t2.cc (fun x _ _ => q1 x (by omega)) (fun x _ _ => q2 x (by omega) (by omega) (by omega) (by omega) (by omega)), t2.le hM.1 hM.2, t3⟩
  · exact h.ln.of (q1 73 (by omega)) (q1 74 (by omega)) (q1 251 (by omega)) q3.2
  · exact ⟨hz, by rw [q1 246 (by omega)]; exact h.z.2.1, by rw [q1 247 (by omega)]; exact h.z.2.2⟩
theorem rmN_8 {n : Nat} (h : n ≤ 8) : rmN n ≤ 8 := by unfold rmN; split <;> omega
theorem PAr.chgd {M M' : Int} {W V W2 : Wo} {n : Nat} {hh : Nat → Row} {σ : Row} (hP : PA M W (rmN n) (rmH n hh σ)) (hM : M ≤ M' ∧ M' ≤ 100000000) (hn : n ≤ 8) (h5 : V.1 243 5 = (n : Int)) (h45 : V.1 245 = σ) (h48 : ∀ j, j < n → ∀ y, y < 111 → hh j y = V.1 248 (111 * j + y)) (hc : W2 = chg V)
    (e0 : V.1 0 5 = W.1 0 5) (e1 : ∀ x, 75 ≤ x → x < 243 → V.1 x = W.1 x) (e2 : V.2 = W.2) : PAr M' W2 := by
  have c1 : ∀ x, x ≠ 243 → x ≠ 248 → W2.1 x = V.1 x := fun x a1 a2 => by
    rw [hc]; unfold chg; split
    · exact (wf_ne _ _ a1).trans (wf_ne _ _ a2)
    · exact (wf_ne _ _ a1).trans (wf_ne _ _ a2)
  have c2 : W2.2 = V.2 := by rw [hc]; unfold chg; split <;> rfl
  refine ⟨rmN n, rmH n hh σ, hP.of hM ((congrFun (c1 0 (by decide) (by decide)) 5).trans e0) (fun x a1 a2 => (c1 x (by omega) (by omega)).trans (e1 x a1 a2)) (fun x _ => by rw [c2, e2]), ?_, fun j hj y hy => ?_⟩
  · rw [hc]; unfold chg rmN
    by_cases e : n = 8
    · subst e; rw [if_pos (by omega), if_pos rfl, wf_same, up_same]; rfl
    · rw [if_neg (by omega), if_neg e, wf_same, up_same, h5]; omega
  · rw [hc]; unfold chg rmH
    unfold rmN at hj
    by_cases e : n = 8
    · subst e
      rw [if_pos rfl] at hj
      rw [if_pos rfl, if_pos (show V.1 243 5 = 8 by omega), wf_ne _ _ (by decide), wf_same, h45]
      unfold cpy shf
      by_cases e7 : j = 7
      · subst e7; rw [if_pos rfl, if_pos (by omega), show 0 + (111 * 7 + y - 777) = y by omega]
      · rw [if_neg e7, if_neg (by omega), if_pos (by omega), h48 (j + 1) (by omega) y hy, show 111 * (j + 1) + y = 111 * j + y + 111 by omega]
    · rw [if_neg e] at hj
      rw [if_neg e, if_neg (show ¬ V.1 243 5 = 8 by omega), wf_ne _ _ (by decide), wf_same, h45, h5]
      unfold cpy
      by_cases e7 : j = n
      · subst e7; rw [if_pos rfl, if_pos (by omega)]; congr 1; omega
      · rw [if_neg e7, if_neg (by omega)]; exact h48 j (by omega) y hy
theorem chg_x {V : Wo} {x : Nat} (h1 : x ≠ 243) (h2 : x ≠ 248) : (chg V).1 x = V.1 x := by
  unfold chg; split
  · exact (wf_ne _ _ h1).trans (wf_ne _ _ h2)
  · exact (wf_ne _ _ h1).trans (wf_ne _ _ h2)
theorem chg_2 {V : Wo} : (chg V).2 = V.2 := by unfold chg; split <;> rfl
theorem chg_y {V : Wo} {y : Nat} (h : y ≠ 5) : (chg V).1 243 y = V.1 243 y := by
  unfold chg; split
  · rw [wf_same]; exact up_ne _ _ h
  · rw [wf_same]; exact up_ne _ _ h
theorem RF9_x {ω : Wo} {a x : Nat} {v w : Int} (h : x ≠ a) : (RF ω a v w).1 x = ω.1 x := wf_ne _ _ h
theorem RF9_0 {ω : Wo} {a : Nat} {v w : Int} : (RF ω a v w).1 a 0 = v := by
  unfold RF; rw [wf_same, up_ne _ _ (by decide), up_same]
theorem RF9_1 {ω : Wo} {a : Nat} {v w : Int} : (RF ω a v w).1 a 1 = w := by
  unfold RF; rw [wf_same, up_same]
/-- a deed that is done -/
theorem deed_ok {M : Int} {ω ω1 W2 : Wo} {d n : Nat} {a b v : Int} {hh : Nat → Row} (h : INV M ω) (hM : M + 70000 ≤ 100000000) (hd : d ≤ 8) (hj : (jd d (ω.1 244) a b).1 = 0) (hn : n ≤ 8) (h5 : ω.1 243 5 = (n : Int)) (h48 : ∀ j, j < n → ∀ y, y < 111 → hh j y = ω.1 248 (111 * j + y))
    (hS : St ω1 1 (ad d (ω.1 244) a b).2) (hP : PA M ω1 (rmN n) (rmH n hh (ω.1 244))) (hK : KQ ω ω1) (h2 : W2 = chg (wf (kp (wi ω1 252 0 v)) 244 (ad d (ω.1 244) a b).2)) : INV (M + 70000) W2 := by
  have hk := ad_keep h.ri h.wi (by omega) hd hj
  have k1 : ∀ x, x ≠ 252 → x ≠ 243 → x ≠ 245 → x ≠ 244 → x ≠ 248 → W2.1 x = ω1.1 x := fun x a1 a2 a3 a4 a5 => by
    rw [h2, chg_x a2 a5, wf_ne _ _ a4]; exact ((wf_ne _ _ a2).trans (wf_ne _ _ a3)).trans (wi_ne a1)
  have k2 : W2.2 = ω1.2 := by rw [h2, chg_2]; rfl
  have e43 : (wi ω1 252 0 v).1 243 = ω.1 243 := (wi_ne (by decide)).trans (hK.1 243 (by decide) (by decide) (by omega))
  have e44 : (wi ω1 252 0 v).1 244 = ω.1 244 := (wi_ne (by decide)).trans (hK.1 244 (by decide) (by decide) (by omega))
  have e48 : (wi ω1 252 0 v).1 248 = ω.1 248 := (wi_ne (by decide)).trans (hK.1 248 (by decide) (by decide) (by omega))
  have v43 : (wf (kp (wi ω1 252 0 v)) 244 (ad d (ω.1 244) a b).2).1 243 = up (ω.1 243) 6 0 := by
    rw [wf_ne _ _ (by decide)]; unfold kp; rw [wf_same, e43]
  have v45 : (wf (kp (wi ω1 252 0 v)) 244 (ad d (ω.1 244) a b).2).1 245 = ω.1 244 := by
    rw [wf_ne _ _ (by decide)]; unfold kp; rw [wf_ne _ _ (by decide), wf_same, e44]
  have v48 : (wf (kp (wi ω1 252 0 v)) 244 (ad d (ω.1 244) a b).2).1 248 = ω.1 248 := by
    rw [wf_ne _ _ (by decide)]; unfold kp; rw [wf_ne _ _ (by decide), wf_ne _ _ (by decide), e48]
  have w44 : W2.1 244 = (ad d (ω.1 244) a b).2 := by rw [h2, chg_x (by decide) (by decide), wf_same]
  have w45 : W2.1 245 = ω.1 244 := by rw [h2, chg_x (by decide) (by decide), v45]
  have w43 : ∀ y, y ≠ 5 → y ≠ 6 → W2.1 243 y = ω.1 243 y := fun y y5 y6 => by rw [h2, chg_y y5, v43, up_ne _ _ y6]
  have kx : ∀ x, x ≠ 252 → x ≠ 243 → x ≠ 245 → x ≠ 244 → x ≠ 248 → 22 ≤ x → x ≠ 67 → (x < 75 ∨ 243 ≤ x) → W2.1 x = ω.1 x := fun x a1 a2 a3 a4 a5 a6 a7 a8 => (k1 x a1 a2 a3 a4 a5).trans (hK.1 x a6 a7 a8)
  have k0 : ∀ y, y ≠ 5 → W2.1 0 y = ω.1 0 y := fun y hy => (congrFun (k1 0 (by decide) (by decide) (by decide) (by decide) (by decide)) y).trans (hK.2.1 y hy)
  have kr : ∀ x, x ≠ 64 → x ≠ 4 → (x < 75 ∨ 243 ≤ x) → W2.2.1 x = ω.2.1 x := fun x a1 a2 a3 => by rw [k2]; exact hK.2.2.1 x a1 a2 a3
  refine h.st2 ⟨by omega, hM⟩ (fun x hx => kx x (by omega) (by omega) (by omega) (by omega) (by omega) (by omega) (by omega) (by omega)) (k0 3 (by decide)) (fun x a1 a2 a3 a4 a5 => kr x a3 a1 a5) ⟨w43 12 (by decide) (by decide), w43 19 (by decide) (by decide)⟩ ?_ ?_ ?_ ?_ ?_ ?_ ?_ ?_ ?_
  · rw [w44]; exact hS.fr hk.1.cc (fun x _ _ => k1 x (by omega) (by omega) (by omega) (by omega) (by omega)) (fun x _ _ => by rw [k2])
  · rw [w44]; exact hk.1.le (by omega) hM
  · rw [w44]; exact hk.2
  · exact PAr.chgd hP ⟨by omega, hM⟩ hn (by rw [v43, up_ne _ _ (by decide)]; exact h5) v45 (fun j hj y hy => by rw [v48]; exact h48 j hj y hy) h2 rfl (fun x a1 a2 => by rw [wf_ne _ _ (by omega)]; exact ((wf_ne _ _ (by omega)).trans (wf_ne _ _ (by omega))).trans (wi_ne (by omega))) rfl
  · exact qr_of (fun x _ _ => kr x (by omega) (by omega) (by omega)) h.q22
  · obtain ⟨r1, r2, r3, r4⟩ := h.rf
    unfold RFr
    rw [kx 65 (by decide) (by decide) (by decide) (by decide) (by decide) (by decide) (by decide) (by omega), kx 66 (by decide) (by decide) (by decide) (by decide) (by decide) (by decide) (by decide) (by omega), w43 7 (by decide) (by decide), w43 8 (by decide) (by decide), w43 9 (by decide) (by decide), w43 10 (by decide) (by decide)]
    exact ⟨r1, r2, r3, r4⟩
  · rw [k0 10 (by decide), w43 11 (by decide) (by decide)]; exact h.ft
  · exact h.tp.of (kx 68 (by decide) (by decide) (by decide) (by decide) (by decide) (by decide) (by decide) (by omega)) (kx 69 (by decide) (by decide) (by decide) (by decide) (by decide) (by decide) (by decide) (by omega)) (kx 249 (by decide) (by decide) (by decide) (by decide) (by decide) (by decide) (by decide) (by omega)) (w43 15 (by decide) (by decide))
  · rw [w45]; exact h.ri.z11
/-- a deed that is refused -/
theorem deed_no {M : Int} {ω W W2 : Wo} {c e9 : Int} (h : INV M ω) (hM : M + 70000 ≤ 100000000) (hW : W = RF (RF (RF ω 67 c e9) 65 c e9) 66 0 0) (h2 : W2 = wf (wf W 245 (W.1 244)) 243 (up (up (up (up (W.1 243) 7 c) 8 e9) 9 0) 6 1)) : INV (M + 70000) W2 := by
  have k1 : ∀ x, x ≠ 65 → x ≠ 66 → x ≠ 67 → x ≠ 243 → x ≠ 245 → W2.1 x = ω.1 x := fun x a1 a2 a3 a4 a5 => by
    rw [h2, hW]; exact ((wf_ne _ _ a4).trans (wf_ne _ _ a5)).trans (((wf_ne _ _ a2).trans (wf_ne _ _ a1)).trans (wf_ne _ _ a3))
  have k2 : W2.2 = ω.2 := by rw [h2, hW]; rfl
  have e43 : W.1 243 = ω.1 243 := by rw [hW]; exact ((wf_ne _ _ (by decide)).trans (wf_ne _ _ (by decide))).trans (wf_ne _ _ (by decide))
  have e44 : W.1 244 = ω.1 244 := by rw [hW]; exact ((wf_ne _ _ (by decide)).trans (wf_ne _ _ (by decide))).trans (wf_ne _ _ (by decide))
  have w45 : W2.1 245 = ω.1 244 := by rw [h2, wf_ne _ _ (by decide), wf_same, e44]
  have w43 : W2.1 243 = up (up (up (up (ω.1 243) 7 c) 8 e9) 9 0) 6 1 := by rw [h2, wf_same, e43]
  have w65 : W2.1 65 = W.1 65 := by rw [h2]; exact (wf_ne _ _ (by decide)).trans (wf_ne _ _ (by decide))
  have w66 : W2.1 66 = W.1 66 := by rw [h2]; exact (wf_ne _ _ (by decide)).trans (wf_ne _ _ (by decide))
  have wy : ∀ y, y ≠ 6 → y ≠ 7 → y ≠ 8 → y ≠ 9 → W2.1 243 y = ω.1 243 y := fun y y6 y7 y8 y9 => by rw [w43, up_ne _ _ y6, up_ne _ _ y9, up_ne _ _ y8, up_ne _ _ y7]
  have w44 : W2.1 244 = ω.1 244 := k1 244 (by decide) (by decide) (by decide) (by decide) (by decide)
  refine h.st2 ⟨by omega, hM⟩ (fun x hx => k1 x (by omega) (by omega) (by omega) (by omega) (by omega)) (by rw [k1 0 (by decide) (by decide) (by decide) (by decide) (by decide)]) (fun x a1 a2 a3 a4 a5 => by rw [k2]) ⟨wy 12 (by decide) (by decide) (by decide) (by decide), wy 19 (by decide) (by decide) (by decide) (by decide)⟩ ?_ ?_ ?_ ?_ ?_ ?_ ?_ ?_ ?_
  · rw [w44]; exact h.st.fr h.ri.cc (fun x _ _ => k1 x (by omega) (by omega) (by omega) (by omega) (by omega)) (fun x _ _ => by rw [k2])
  · rw [w44]; exact h.ri.le (by omega) hM
  · rw [w44]; exact h.wi
  · obtain ⟨n, hh, p1, p2, p3⟩ := h.pa
    exact ⟨n, hh, p1.of ⟨by omega, hM⟩ (by rw [k1 0 (by decide) (by decide) (by decide) (by decide) (by decide)]) (fun x _ _ => k1 x (by omega) (by omega) (by omega) (by omega) (by omega)) (fun x _ => by rw [k2]), by rw [wy 5 (by decide) (by decide) (by decide) (by decide)]; exact p2, fun j hj y hy => by rw [k1 248 (by decide) (by decide) (by decide) (by decide) (by decide)]; exact p3 j hj y hy⟩
  · exact qr_of (fun x _ _ => by rw [k2]) h.q22
  · unfold RFr
    rw [w65, w66, w43, hW, RF9_x (by decide), RF9_0, RF9_1, RF9_0, RF9_1]
    refine ⟨?_, ?_, ?_, fun q => absurd rfl q⟩
    · rw [up_ne _ _ (by decide), up_ne _ _ (by decide), up_ne _ _ (by decide), up_same]
    · rw [up_ne _ _ (by decide), up_ne _ _ (by decide), up_same]
    · rw [up_ne _ _ (by decide), up_same]
  · rw [k1 0 (by decide) (by decide) (by decide) (by decide) (by decide), wy 11 (by decide) (by decide) (by decide) (by decide)]; exact h.ft
  · exact h.tp.of (k1 68 (by decide) (by decide) (by decide) (by decide) (by decide)) (k1 69 (by decide) (by decide) (by decide) (by decide) (by decide)) (k1 249 (by decide) (by decide) (by decide) (by decide) (by decide)) (wy 15 (by decide) (by decide) (by decide) (by decide))
  · rw [w45]; exact h.ri.z11
/-- what holds after a deed, whatever came of it -/
theorem deedA {M : Int} {ω W W2 : Wo} {d n : Nat} {a b z z2 : Int} {hh : Nat → Row} (h : INV M ω) (hM : M + 70000 ≤ 100000000) (hd : d ≤ 8) (hn : n ≤ 8) (h5 : ω.1 243 5 = (n : Int)) (h48 : ∀ j, j < n → ∀ y, y < 111 → hh j y = ω.1 248 (111 * j + y))
    (hz : (z = 0 ∧ ∃ v ω1, Rg v ∧ ((jd d (ω.1 244) a b).1 = 0 ∧ v = (ad d (ω.1 244) a b).1 ∧ St ω1 1 (ad d (ω.1 244) a b).2 ∧ PA M ω1 (rmN n) (rmH n hh (ω.1 244)) ∧ CR ω1 ∧ KQ ω ω1) ∧ W = wi ω1 252 0 v) ∨ (z = 1 ∧ (jd d (ω.1 244) a b).1 ≠ 0 ∧ W = RF (RF (RF ω 67 (jd d (ω.1 244) a b).1 (jd d (ω.1 244) a b).2) 65 (jd d (ω.1 244) a b).1 (jd d (ω.1 244) a b).2) 66 0 0))
    (hm : PubM d 1 W a b z2 W2) : Ag (M + 70000) z z2 W2 := by
  have h44 : W.1 244 = ω.1 244 := by
    rcases hz with ⟨-, v, ω1, -, ⟨-, -, -, -, -, p6⟩, rfl⟩ | ⟨-, -, rfl⟩
    · exact (wi_ne (by decide)).trans (p6.1 244 (by decide) (by decide) (by omega))
    · exact ((wf_ne _ _ (by decide)).trans (wf_ne _ _ (by decide))).trans (wf_ne _ _ (by decide))
  unfold PubM at hm
  rw [h44] at hm
  rcases hz with ⟨rfl, v, ω1, hv, ⟨p1, p2, p3, p4, p5, p6⟩, rfl⟩ | ⟨rfl, p1, p2⟩
  · rcases hm with ⟨q1, q2, q3⟩ | ⟨q1, -⟩
    · have hi := deed_ok h hM hd p1 hn h5 h48 p3 p4 p6 q3
      refine ⟨hi.wm, ?_, fun _ => ?_, hi⟩
      · rw [q3, chg_y (by decide), wf_ne _ _ (by decide)]; unfold kp; rw [wf_same, up_same]
      · rw [q3, chg_x (by decide) (by decide), wf_ne _ _ (by decide)]; unfold kp; rw [wf_ne _ _ (by decide), wf_ne _ _ (by decide), wi0, p2, q2]
    · exact absurd p1 q1
  · rcases hm with ⟨q1, -⟩ | ⟨q1, q2, q3⟩
    · exact absurd q1 p1
    · have hi := deed_no (W2 := W2) h hM p2 (by rw [h44]; exact q3)
      exact ⟨hi.wm, by rw [q3, wf_same, up_same], fun q => absurd q (by decide), hi⟩
theorem s_member {Γ : Ga} {l : Launch} {ω : Wo} {M : Int} (hsl : l.stackTraces = false) (h : INV M ω) (hM : M + 70000 ≤ 100000000) {a : Int} (ha : Rg a) : CW Γ l yL_member cL_member 4 [(0, 9, 12, 13)] 21 1 [.ref (rl Γ 0), .int (iI a), .ref (rl Γ 252)] ω (fun z W => CI Γ l yX9_member cX9_member 2 .int 3 [.ref (rl Γ 243), .int (iI a)] W (fun z2 W2 => Ag (M + 70000) z z2 W2)) := by
  obtain ⟨n, hh, p1, p2, p3⟩ := h.pa
  refine (w_member (by decide) (c_X8_member hsl h.cr h.st h.ri h.wi ha (by omega) p1) (fun E ω1 hE => hE.1)).mono (fun z W hz => ?_)
  have hf : WM W.2.1 ∧ W.1 243 5 = (n : Int) ∧ W.1 244 = ω.1 244 ∧ W.1 245 = ω.1 245 := by
    rcases hz with ⟨-, v, ω1, -, ⟨-, -, -, -, -, p6⟩, rfl⟩ | ⟨-, -, -, rfl⟩
    · have e : ∀ x, x ≠ 252 → 243 ≤ x → (wi ω1 252 0 v).1 x = ω.1 x := fun x a1 a2 => (wi_ne a1).trans (p6.1 x (by omega) (by omega) (by omega))
      refine ⟨?_, by rw [e 243 (by decide) (by decide)]; exact p2, e 244 (by decide) (by decide), e 245 (by decide) (by decide)⟩
      have := h.wm; unfold WM at this ⊢
      rw [show (wi ω1 252 0 v).2.1 243 = ω.2.1 243 from p6.2.2.1 243 (by decide) (by decide) (by omega)]; exact this
    · have e : ∀ x, 243 ≤ x → (RF (RF (RF ω 67 (jd 0 (ω.1 244) a 0).1 (jd 0 (ω.1 244) a 0).2) 65 (jd 0 (ω.1 244) a 0).1 (jd 0 (ω.1 244) a 0).2) 66 0 0).1 x = ω.1 x := fun x a1 => ((wf_ne _ _ (by omega)).trans (wf_ne _ _ (by omega))).trans (wf_ne _ _ (by omega))
      exact ⟨h.wm, by rw [e 243 (by decide)]; exact p2, e 244 (by decide), e 245 (by decide)⟩
  obtain ⟨f1, f2, f3, f4⟩ := hf
  have hri : RI M (W.1 244) := by rw [f3]; exact h.ri
  have hw1 : W1 (W.1 244) := by rw [f3]; exact h.wi.1
  have hw2 : W2 (W.1 244) := by rw [f3]; exact h.wi.2.1
  refine (c_X9_member f1 hri ha (by rw [f4]; exact h.z.1) f2 p1.2.1).mono (fun z2 W2 hz2 => ?_)
  exact deedA (d := 0) (a := a) (b := 0) h hM (by decide) p1.2.1 p2 p3 (hz.elim Or.inl (fun q => Or.inr ⟨q.1, q.2.2⟩)) hz2
theorem s_leave {Γ : Ga} {l : Launch} {ω : Wo} {M : Int} (hsl : l.stackTraces = false) (h : INV M ω) (hM : M + 70000 ≤ 100000000) {a : Int} (ha : Rg a) : CW Γ l yL_leave cL_leave 4 [(0, 9, 12, 13)] 21 1 [.ref (rl Γ 0), .int (iI a), .ref (rl Γ 252)] ω (fun z W => CI Γ l yX9_leave cX9_leave 2 .int 4 [.ref (rl Γ 243), .int (iI a)] W (fun z2 W2 => Ag (M + 70000) z z2 W2)) := by
  obtain ⟨n, hh, p1, p2, p3⟩ := h.pa
  refine (w_leave (by decide) (c_X8_leave hsl h.cr h.st h.ri h.wi ha (by omega) p1) (fun E ω1 hE => hE.1)).mono (fun z W hz => ?_)
  have hf : WM W.2.1 ∧ W.1 243 5 = (n : Int) ∧ W.1 244 = ω.1 244 ∧ W.1 245 = ω.1 245 := by
    rcases hz with ⟨-, v, ω1, -, ⟨-, -, -, -, -, p6⟩, rfl⟩ | ⟨-, -, -, rfl⟩
    · have e : ∀ x, x ≠ 252 → 243 ≤ x → (wi ω1 252 0 v).1 x = ω.1 x := fun x a1 a2 => (wi_ne a1).trans (p6.1 x (by omega) (by omega) (by omega))
      refine ⟨?_, by rw [e 243 (by decide) (by decide)]; exact p2, e 244 (by decide) (by decide), e 245 (by decide) (by decide)⟩
      have := h.wm; unfold WM at this ⊢
      rw [show (wi ω1 252 0 v).2.1 243 = ω.2.1 243 from p6.2.2.1 243 (by decide) (by decide) (by omega)]; exact this
    · have e : ∀ x, 243 ≤ x → (RF (RF (RF ω 67 (jd 1 (ω.1 244) a 0).1 (jd 1 (ω.1 244) a 0).2) 65 (jd 1 (ω.1 244) a 0).1 (jd 1 (ω.1 244) a 0).2) 66 0 0).1 x = ω.1 x := fun x a1 => ((wf_ne _ _ (by omega)).trans (wf_ne _ _ (by omega))).trans (wf_ne _ _ (by omega))
      exact ⟨h.wm, by rw [e 243 (by decide)]; exact p2, e 244 (by decide), e 245 (by decide)⟩
  obtain ⟨f1, f2, f3, f4⟩ := hf
  have hri : RI M (W.1 244) := by rw [f3]; exact h.ri
  have hw1 : W1 (W.1 244) := by rw [f3]; exact h.wi.1
  have hw2 : W2 (W.1 244) := by rw [f3]; exact h.wi.2.1
  refine (c_X9_leave f1 hri ha (by rw [f4]; exact h.z.1) f2 p1.2.1).mono (fun z2 W2 hz2 => ?_)
  exact deedA (d := 1) (a := a) (b := 0) h hM (by decide) p1.2.1 p2 p3 (hz.elim Or.inl (fun q => Or.inr ⟨q.1, q.2.2⟩)) hz2
theorem s_train {Γ : Ga} {l : Launch} {ω : Wo} {M : Int} (hsl : l.stackTraces = false) (h : INV M ω) (hM : M + 70000 ≤ 100000000) {a : Int} (ha : Rg a) : CW Γ l yL_train cL_train 4 [(0, 9, 12, 13)] 21 1 [.ref (rl Γ 0), .int (iI a), .ref (rl Γ 252)] ω (fun z W => CI Γ l yX9_train cX9_train 2 .int 4 [.ref (rl Γ 243), .int (iI a)] W (fun z2 W2 => Ag (M + 70000) z z2 W2)) := by
  obtain ⟨n, hh, p1, p2, p3⟩ := h.pa
  refine (w_train (by decide) (c_X8_train hsl h.cr h.st h.ri h.wi ha (by omega) p1) (fun E ω1 hE => hE.1)).mono (fun z W hz => ?_)
  have hf : WM W.2.1 ∧ W.1 243 5 = (n : Int) ∧ W.1 244 = ω.1 244 ∧ W.1 245 = ω.1 245 := by
    rcases hz with ⟨-, v, ω1, -, ⟨-, -, -, -, -, p6⟩, rfl⟩ | ⟨-, -, -, rfl⟩
    · have e : ∀ x, x ≠ 252 → 243 ≤ x → (wi ω1 252 0 v).1 x = ω.1 x := fun x a1 a2 => (wi_ne a1).trans (p6.1 x (by omega) (by omega) (by omega))
      refine ⟨?_, by rw [e 243 (by decide) (by decide)]; exact p2, e 244 (by decide) (by decide), e 245 (by decide) (by decide)⟩
      have := h.wm; unfold WM at this ⊢
      rw [show (wi ω1 252 0 v).2.1 243 = ω.2.1 243 from p6.2.2.1 243 (by decide) (by decide) (by omega)]; exact this
    · have e : ∀ x, 243 ≤ x → (RF (RF (RF ω 67 (jd 2 (ω.1 244) a 0).1 (jd 2 (ω.1 244) a 0).2) 65 (jd 2 (ω.1 244) a 0).1 (jd 2 (ω.1 244) a 0).2) 66 0 0).1 x = ω.1 x := fun x a1 => ((wf_ne _ _ (by omega)).trans (wf_ne _ _ (by omega))).trans (wf_ne _ _ (by omega))
      exact ⟨h.wm, by rw [e 243 (by decide)]; exact p2, e 244 (by decide), e 245 (by decide)⟩
  obtain ⟨f1, f2, f3, f4⟩ := hf
  have hri : RI M (W.1 244) := by rw [f3]; exact h.ri
  have hw1 : W1 (W.1 244) := by rw [f3]; exact h.wi.1
  have hw2 : W2 (W.1 244) := by rw [f3]; exact h.wi.2.1
  refine (c_X9_train f1 hri ha (by rw [f4]; exact h.z.1) f2 p1.2.1).mono (fun z2 W2 hz2 => ?_)
  exact deedA (d := 2) (a := a) (b := 0) h hM (by decide) p1.2.1 p2 p3 (hz.elim Or.inl (fun q => Or.inr ⟨q.1, q.2.2⟩)) hz2
theorem s_boat {Γ : Ga} {l : Launch} {ω : Wo} {M : Int} (hsl : l.stackTraces = false) (h : INV M ω) (hM : M + 70000 ≤ 100000000) {a : Int} (ha : Rg a) {b : Int} (hb : Rg b) : CW Γ l yL_boat cL_boat 5 [(0, 10, 13, 13)] 21 1 [.ref (rl Γ 0), .int (iI a), .int (iI b), .ref (rl Γ 252)] ω (fun z W => CI Γ l yX9_boat cX9_boat 3 .int 3 [.ref (rl Γ 243), .int (iI a), .int (iI b)] W (fun z2 W2 => Ag (M + 70000) z z2 W2)) := by
  obtain ⟨n, hh, p1, p2, p3⟩ := h.pa
  refine (w_boat (by decide) (c_X8_boat hsl h.cr h.st h.ri h.wi ha hb (by omega) p1) (fun E ω1 hE => hE.1)).mono (fun z W hz => ?_)
  have hf : WM W.2.1 ∧ W.1 243 5 = (n : Int) ∧ W.1 244 = ω.1 244 ∧ W.1 245 = ω.1 245 := by
    rcases hz with ⟨-, v, ω1, -, ⟨-, -, -, -, -, p6⟩, rfl⟩ | ⟨-, -, -, rfl⟩
    · have e : ∀ x, x ≠ 252 → 243 ≤ x → (wi ω1 252 0 v).1 x = ω.1 x := fun x a1 a2 => (wi_ne a1).trans (p6.1 x (by omega) (by omega) (by omega))
      refine ⟨?_, by rw [e 243 (by decide) (by decide)]; exact p2, e 244 (by decide) (by decide), e 245 (by decide) (by decide)⟩
      have := h.wm; unfold WM at this ⊢
      rw [show (wi ω1 252 0 v).2.1 243 = ω.2.1 243 from p6.2.2.1 243 (by decide) (by decide) (by omega)]; exact this
    · have e : ∀ x, 243 ≤ x → (RF (RF (RF ω 67 (jd 3 (ω.1 244) a b).1 (jd 3 (ω.1 244) a b).2) 65 (jd 3 (ω.1 244) a b).1 (jd 3 (ω.1 244) a b).2) 66 0 0).1 x = ω.1 x := fun x a1 => ((wf_ne _ _ (by omega)).trans (wf_ne _ _ (by omega))).trans (wf_ne _ _ (by omega))
      exact ⟨h.wm, by rw [e 243 (by decide)]; exact p2, e 244 (by decide), e 245 (by decide)⟩
  obtain ⟨f1, f2, f3, f4⟩ := hf
  have hri : RI M (W.1 244) := by rw [f3]; exact h.ri
  have hw1 : W1 (W.1 244) := by rw [f3]; exact h.wi.1
  have hw2 : W2 (W.1 244) := by rw [f3]; exact h.wi.2.1
  refine (c_X9_boat f1 hri ha hb (by rw [f4]; exact h.z.1) f2 p1.2.1).mono (fun z2 W2 hz2 => ?_)
  exact deedA (d := 3) (a := a) (b := b) h hM (by decide) p1.2.1 p2 p3 (hz.elim Or.inl (fun q => Or.inr ⟨q.1, q.2.2⟩)) hz2
theorem s_call {Γ : Ga} {l : Launch} {ω : Wo} {M : Int} (hsl : l.stackTraces = false) (h : INV M ω) (hM : M + 70000 ≤ 100000000) {a : Int} (ha : Rg a) {b : Int} (hb : Rg b) : CW Γ l yL_call cL_call 5 [(0, 10, 13, 13)] 21 1 [.ref (rl Γ 0), .int (iI a), .int (iI b), .ref (rl Γ 252)] ω (fun z W => CI Γ l yX9_call cX9_call 3 .int 6 [.ref (rl Γ 243), .int (iI a), .int (iI b)] W (fun z2 W2 => Ag (M + 70000) z z2 W2)) := by
  obtain ⟨n, hh, p1, p2, p3⟩ := h.pa
  refine (w_call (by decide) (c_X8_call hsl h.cr h.st h.ri h.wi ha hb (by omega) p1) (fun E ω1 hE => hE.1)).mono (fun z W hz => ?_)
  have hf : WM W.2.1 ∧ W.1 243 5 = (n : Int) ∧ W.1 244 = ω.1 244 ∧ W.1 245 = ω.1 245 := by
    rcases hz with ⟨-, v, ω1, -, ⟨-, -, -, -, -, p6⟩, rfl⟩ | ⟨-, -, -, rfl⟩
    · have e : ∀ x, x ≠ 252 → 243 ≤ x → (wi ω1 252 0 v).1 x = ω.1 x := fun x a1 a2 => (wi_ne a1).trans (p6.1 x (by omega) (by omega) (by omega))
      refine ⟨?_, by rw [e 243 (by decide) (by decide)]; exact p2, e 244 (by decide) (by decide), e 245 (by decide) (by decide)⟩
      have := h.wm; unfold WM at this ⊢
      rw [show (wi ω1 252 0 v).2.1 243 = ω.2.1 243 from p6.2.2.1 243 (by decide) (by decide) (by omega)]; exact this
    · have e : ∀ x, 243 ≤ x → (RF (RF (RF ω 67 (jd 4 (ω.1 244) a b).1 (jd 4 (ω.1 244) a b).2) 65 (jd 4 (ω.1 244) a b).1 (jd 4 (ω.1 244) a b).2) 66 0 0).1 x = ω.1 x := fun x a1 => ((wf_ne _ _ (by omega)).trans (wf_ne _ _ (by omega))).trans (wf_ne _ _ (by omega))
      exact ⟨h.wm, by rw [e 243 (by decide)]; exact p2, e 244 (by decide), e 245 (by decide)⟩
  obtain ⟨f1, f2, f3, f4⟩ := hf
  have hri : RI M (W.1 244) := by rw [f3]; exact h.ri
  have hw1 : W1 (W.1 244) := by rw [f3]; exact h.wi.1
  have hw2 : W2 (W.1 244) := by rw [f3]; exact h.wi.2.1
  refine (c_X9_call f1 hri ha hb hw2 (by omega) (by rw [f4]; exact h.z.1) f2 p1.2.1).mono (fun z2 W2 hz2 => ?_)
  exact deedA (d := 4) (a := a) (b := b) h hM (by decide) p1.2.1 p2 p3 (hz.elim Or.inl (fun q => Or.inr ⟨q.1, q.2.2⟩)) hz2
theorem s_borrow {Γ : Ga} {l : Launch} {ω : Wo} {M : Int} (hsl : l.stackTraces = false) (h : INV M ω) (hM : M + 70000 ≤ 100000000) {a : Int} (ha : Rg a) {b : Int} (hb : Rg b) : CW Γ l yL_borrow cL_borrow 5 [(0, 10, 13, 13)] 21 1 [.ref (rl Γ 0), .int (iI a), .int (iI b), .ref (rl Γ 252)] ω (fun z W => CI Γ l yX9_borrow cX9_borrow 3 .int 3 [.ref (rl Γ 243), .int (iI a), .int (iI b)] W (fun z2 W2 => Ag (M + 70000) z z2 W2)) := by
  obtain ⟨n, hh, p1, p2, p3⟩ := h.pa
  refine (w_borrow (by decide) (c_X8_borrow hsl h.cr h.st h.ri h.wi ha hb (by omega) p1) (fun E ω1 hE => hE.1)).mono (fun z W hz => ?_)
  have hf : WM W.2.1 ∧ W.1 243 5 = (n : Int) ∧ W.1 244 = ω.1 244 ∧ W.1 245 = ω.1 245 := by
    rcases hz with ⟨-, v, ω1, -, ⟨-, -, -, -, -, p6⟩, rfl⟩ | ⟨-, -, -, rfl⟩
    · have e : ∀ x, x ≠ 252 → 243 ≤ x → (wi ω1 252 0 v).1 x = ω.1 x := fun x a1 a2 => (wi_ne a1).trans (p6.1 x (by omega) (by omega) (by omega))
      refine ⟨?_, by rw [e 243 (by decide) (by decide)]; exact p2, e 244 (by decide) (by decide), e 245 (by decide) (by decide)⟩
      have := h.wm; unfold WM at this ⊢
      rw [show (wi ω1 252 0 v).2.1 243 = ω.2.1 243 from p6.2.2.1 243 (by decide) (by decide) (by omega)]; exact this
    · have e : ∀ x, 243 ≤ x → (RF (RF (RF ω 67 (jd 5 (ω.1 244) a b).1 (jd 5 (ω.1 244) a b).2) 65 (jd 5 (ω.1 244) a b).1 (jd 5 (ω.1 244) a b).2) 66 0 0).1 x = ω.1 x := fun x a1 => ((wf_ne _ _ (by omega)).trans (wf_ne _ _ (by omega))).trans (wf_ne _ _ (by omega))
      exact ⟨h.wm, by rw [e 243 (by decide)]; exact p2, e 244 (by decide), e 245 (by decide)⟩
  obtain ⟨f1, f2, f3, f4⟩ := hf
  have hri : RI M (W.1 244) := by rw [f3]; exact h.ri
  have hw1 : W1 (W.1 244) := by rw [f3]; exact h.wi.1
  have hw2 : W2 (W.1 244) := by rw [f3]; exact h.wi.2.1
  refine (c_X9_borrow f1 hri ha hb (by rw [f4]; exact h.z.1) f2 p1.2.1).mono (fun z2 W2 hz2 => ?_)
  exact deedA (d := 5) (a := a) (b := b) h hM (by decide) p1.2.1 p2 p3 (hz.elim Or.inl (fun q => Or.inr ⟨q.1, q.2.2⟩)) hz2
theorem s_giveBack {Γ : Ga} {l : Launch} {ω : Wo} {M : Int} (hsl : l.stackTraces = false) (h : INV M ω) (hM : M + 70000 ≤ 100000000) {a : Int} (ha : Rg a) : CW Γ l yL_giveBack cL_giveBack 4 [(0, 9, 12, 13)] 21 1 [.ref (rl Γ 0), .int (iI a), .ref (rl Γ 252)] ω (fun z W => CI Γ l yX9_giveBack cX9_giveBack 2 .int 4 [.ref (rl Γ 243), .int (iI a)] W (fun z2 W2 => Ag (M + 70000) z z2 W2)) := by
  obtain ⟨n, hh, p1, p2, p3⟩ := h.pa
  refine (w_giveBack (by decide) (c_X8_giveBack hsl h.cr h.st h.ri h.wi ha (by omega) p1) (fun E ω1 hE => hE.1)).mono (fun z W hz => ?_)
  have hf : WM W.2.1 ∧ W.1 243 5 = (n : Int) ∧ W.1 244 = ω.1 244 ∧ W.1 245 = ω.1 245 := by
    rcases hz with ⟨-, v, ω1, -, ⟨-, -, -, -, -, p6⟩, rfl⟩ | ⟨-, -, -, rfl⟩
    · have e : ∀ x, x ≠ 252 → 243 ≤ x → (wi ω1 252 0 v).1 x = ω.1 x := fun x a1 a2 => (wi_ne a1).trans (p6.1 x (by omega) (by omega) (by omega))
      refine ⟨?_, by rw [e 243 (by decide) (by decide)]; exact p2, e 244 (by decide) (by decide), e 245 (by decide) (by decide)⟩
      have := h.wm; unfold WM at this ⊢
      rw [show (wi ω1 252 0 v).2.1 243 = ω.2.1 243 from p6.2.2.1 243 (by decide) (by decide) (by omega)]; exact this
    · have e : ∀ x, 243 ≤ x → (RF (RF (RF ω 67 (jd 6 (ω.1 244) a 0).1 (jd 6 (ω.1 244) a 0).2) 65 (jd 6 (ω.1 244) a 0).1 (jd 6 (ω.1 244) a 0).2) 66 0 0).1 x = ω.1 x := fun x a1 => ((wf_ne _ _ (by omega)).trans (wf_ne _ _ (by omega))).trans (wf_ne _ _ (by omega))
      exact ⟨h.wm, by rw [e 243 (by decide)]; exact p2, e 244 (by decide), e 245 (by decide)⟩
  obtain ⟨f1, f2, f3, f4⟩ := hf
  have hri : RI M (W.1 244) := by rw [f3]; exact h.ri
  have hw1 : W1 (W.1 244) := by rw [f3]; exact h.wi.1
  have hw2 : W2 (W.1 244) := by rw [f3]; exact h.wi.2.1
  refine (c_X9_giveBack f1 hri ha (by rw [f4]; exact h.z.1) f2 p1.2.1).mono (fun z2 W2 hz2 => ?_)
  exact deedA (d := 6) (a := a) (b := 0) h hM (by decide) p1.2.1 p2 p3 (hz.elim Or.inl (fun q => Or.inr ⟨q.1, q.2.2⟩)) hz2
theorem s_limit {Γ : Ga} {l : Launch} {ω : Wo} {M : Int} (hsl : l.stackTraces = false) (h : INV M ω) (hM : M + 70000 ≤ 100000000) {a : Int} (ha : Rg a) : CW Γ l yL_limit cL_limit 4 [(0, 9, 12, 13)] 21 1 [.ref (rl Γ 0), .int (iI a), .ref (rl Γ 252)] ω (fun z W => CI Γ l yX9_limit cX9_limit 2 .int 3 [.ref (rl Γ 243), .int (iI a)] W (fun z2 W2 => Ag (M + 70000) z z2 W2)) := by
  obtain ⟨n, hh, p1, p2, p3⟩ := h.pa
  refine (w_limit (by decide) (c_X8_limit hsl h.cr h.st h.ri h.wi ha (by omega) p1) (fun E ω1 hE => hE.1)).mono (fun z W hz => ?_)
  have hf : WM W.2.1 ∧ W.1 243 5 = (n : Int) ∧ W.1 244 = ω.1 244 ∧ W.1 245 = ω.1 245 := by
    rcases hz with ⟨-, v, ω1, -, ⟨-, -, -, -, -, p6⟩, rfl⟩ | ⟨-, -, -, rfl⟩
    · have e : ∀ x, x ≠ 252 → 243 ≤ x → (wi ω1 252 0 v).1 x = ω.1 x := fun x a1 a2 => (wi_ne a1).trans (p6.1 x (by omega) (by omega) (by omega))
      refine ⟨?_, by rw [e 243 (by decide) (by decide)]; exact p2, e 244 (by decide) (by decide), e 245 (by decide) (by decide)⟩
      have := h.wm; unfold WM at this ⊢
      rw [show (wi ω1 252 0 v).2.1 243 = ω.2.1 243 from p6.2.2.1 243 (by decide) (by decide) (by omega)]; exact this
    · have e : ∀ x, 243 ≤ x → (RF (RF (RF ω 67 (jd 7 (ω.1 244) a 0).1 (jd 7 (ω.1 244) a 0).2) 65 (jd 7 (ω.1 244) a 0).1 (jd 7 (ω.1 244) a 0).2) 66 0 0).1 x = ω.1 x := fun x a1 => ((wf_ne _ _ (by omega)).trans (wf_ne _ _ (by omega))).trans (wf_ne _ _ (by omega))
      exact ⟨h.wm, by rw [e 243 (by decide)]; exact p2, e 244 (by decide), e 245 (by decide)⟩
  obtain ⟨f1, f2, f3, f4⟩ := hf
  have hri : RI M (W.1 244) := by rw [f3]; exact h.ri
  have hw1 : W1 (W.1 244) := by rw [f3]; exact h.wi.1
  have hw2 : W2 (W.1 244) := by rw [f3]; exact h.wi.2.1
  refine (c_X9_limit f1 hri ha (by rw [f4]; exact h.z.1) f2 p1.2.1).mono (fun z2 W2 hz2 => ?_)
  exact deedA (d := 7) (a := a) (b := 0) h hM (by decide) p1.2.1 p2 p3 (hz.elim Or.inl (fun q => Or.inr ⟨q.1, q.2.2⟩)) hz2
theorem s_pass {Γ : Ga} {l : Launch} {ω : Wo} {M : Int} (hsl : l.stackTraces = false) (h : INV M ω) (hM : M + 70000 ≤ 100000000) {a : Int} (ha : Rg a) : CW Γ l yL_pass cL_pass 4 [(0, 9, 12, 13)] 21 1 [.ref (rl Γ 0), .int (iI a), .ref (rl Γ 252)] ω (fun z W => CI Γ l yX9_pass cX9_pass 2 .int 6 [.ref (rl Γ 243), .int (iI a)] W (fun z2 W2 => Ag (M + 70000) z z2 W2)) := by
  obtain ⟨n, hh, p1, p2, p3⟩ := h.pa
  refine (w_pass (by decide) (c_X8_pass hsl h.cr h.st h.ri h.wi ha (by omega) p1) (fun E ω1 hE => hE.1)).mono (fun z W hz => ?_)
  have hf : WM W.2.1 ∧ W.1 243 5 = (n : Int) ∧ W.1 244 = ω.1 244 ∧ W.1 245 = ω.1 245 := by
    rcases hz with ⟨-, v, ω1, -, ⟨-, -, -, -, -, p6⟩, rfl⟩ | ⟨-, -, -, rfl⟩
    · have e : ∀ x, x ≠ 252 → 243 ≤ x → (wi ω1 252 0 v).1 x = ω.1 x := fun x a1 a2 => (wi_ne a1).trans (p6.1 x (by omega) (by omega) (by omega))
      refine ⟨?_, by rw [e 243 (by decide) (by decide)]; exact p2, e 244 (by decide) (by decide), e 245 (by decide) (by decide)⟩
      have := h.wm; unfold WM at this ⊢
      rw [show (wi ω1 252 0 v).2.1 243 = ω.2.1 243 from p6.2.2.1 243 (by decide) (by decide) (by omega)]; exact this
    · have e : ∀ x, 243 ≤ x → (RF (RF (RF ω 67 (jd 8 (ω.1 244) a 0).1 (jd 8 (ω.1 244) a 0).2) 65 (jd 8 (ω.1 244) a 0).1 (jd 8 (ω.1 244) a 0).2) 66 0 0).1 x = ω.1 x := fun x a1 => ((wf_ne _ _ (by omega)).trans (wf_ne _ _ (by omega))).trans (wf_ne _ _ (by omega))
      exact ⟨h.wm, by rw [e 243 (by decide)]; exact p2, e 244 (by decide), e 245 (by decide)⟩
  obtain ⟨f1, f2, f3, f4⟩ := hf
  have hri : RI M (W.1 244) := by rw [f3]; exact h.ri
  have hw1 : W1 (W.1 244) := by rw [f3]; exact h.wi.1
  have hw2 : W2 (W.1 244) := by rw [f3]; exact h.wi.2.1
  refine (c_X9_pass f1 hri ha hw1 (by omega) (by rw [f4]; exact h.z.1) f2 p1.2.1).mono (fun z2 W2 hz2 => ?_)
  exact deedA (d := 8) (a := a) (b := 0) h hM (by decide) p1.2.1 p2 p3 (hz.elim Or.inl (fun q => Or.inr ⟨q.1, q.2.2⟩)) hz2
