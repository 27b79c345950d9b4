/-! undo, save, restore, commands: class and reference agree -/
theorem INV.st3 {M M' : Int} {ω W2 : Wo} (h : INV M ω) (q1 : ∀ x, x = 73 ∨ x = 74 ∨ x = 246 ∨ x = 251 → W2.1 x = ω.1 x)
    (q2 : W2.2.1 0 = ω.2.1 0 ∧ W2.2.1 68 = ω.2.1 68 ∧ W2.2.1 73 = ω.2.1 73 ∧ W2.2.1 243 = ω.2.1 243) (q3 : W2.1 243 19 = ω.1 243 19)
    (hS : St W2 1 (W2.1 244)) (hI : RI M' (W2.1 244)) (hW : WI (W2.1 244)) (hP : PAr M' W2) (hV : SVr M' W2) (hQ : QR W2 22) (hR : RFr W2) (hF : W2.1 0 10 = W2.1 243 11) (hT : TPr W2) (hz : z11 (W2.1 245)) (hz7 : z11 (W2.1 247)) : INV M' W2 := by
  obtain ⟨a0, a68, a73, a243⟩ := q2
  refine ⟨⟨?_, ?_⟩, ⟨hS, hI, hW⟩, hP, hV, hQ, hR, hF, hT, ?_, ?_⟩
  · have := h.wm; unfold WM at this ⊢; rw [a243]; exact this
  · have := h.cr; unfold CR at this ⊢; rw [a0, a68, a73]; exact this
  · exact h.ln.of (q1 73 (by omega)) (q1 74 (by omega)) (q1 251 (by omega)) q3
  · exact ⟨hz, by rw [q1 246 (by omega)]; exact h.z.2.1, hz7⟩
theorem PA.cut {M : Int} {ω W : Wo} {n n' : Nat} {h : Nat → Row} (hP : PA M ω n h) (hn : n' ≤ n) (h0 : W.1 0 5 = (n' : Int)) (h1 : ∀ x, 75 ≤ x → x < 243 → W.1 x = ω.1 x) (h2 : ∀ x, (x = 64 ∨ (75 ≤ x ∧ x < 243)) → W.2.1 x = ω.2.1 x) : PA M W n' h := by
  obtain ⟨q5, q8, π, r1, r2, r3⟩ := hP
  refine ⟨h0, by omega, π, fun j hj => ⟨(r1 j hj).1, ?_, ?_⟩, r2, fun j hj => ?_⟩
  · rw [h2 64 (Or.inl rfl)]; exact (r1 j hj).2.1
  · have hm := (r1 j hj).1
    exact qr_of (fun x _ _ => h2 x (by omega)) (r1 j hj).2.2
  · have hm := (r1 j (by omega)).1
    have hr := r3 j (by omega)
    exact ⟨hr.1.fr hr.2.1.cc (fun x _ _ => h1 x (by omega) (by omega)) (fun x _ _ => h2 x (by omega)), hr.2⟩
theorem excN_all {s : Row} {D : Nat → Nat} {A B : Nat → Int} {K : Nat} (h : ∀ j, j < K → (jd (D j) (exc s D A B j) (A j) (B j)).1 = 0) : excN s D A B K 0 = K := by
  have g : ∀ f k, f + k = K → excN s D A B f k = K := by
    intro f
    induction f with
    | zero => intro k hk; show k = K; omega
    | succ f ih => intro k hk; rw [excN_s (h k (by omega))]; exact ih (k + 1) (by omega)
  exact g K 0 rfl
theorem s_undo {Γ : Ga} {l : Launch} {ω : Wo} {M : Int} (hsl : l.stackTraces = false) (h : INV M ω) (hM : M + 70000 ≤ 100000000) : CW Γ l yL_undo cL_undo 3 [(0, 8, 11, 92)] 21 1 [.ref (rl Γ 0), .ref (rl Γ 252)] ω (fun z W => CI Γ l yX9_undo cX9_undo 1 .int 1 [.ref (rl Γ 243)] W (fun z2 W2 => Ag (M + 70000) z z2 W2)) := by
  obtain ⟨n, hh, p1, p2, p3⟩ := h.pa
  have p1' := p1
  obtain ⟨q5, q8, π, r1, r2, r3⟩ := p1
  refine (w_undo (by decide) (c_X8_undo hsl h.cr h.st h.ri h.wi (D := 75 + 21 * π (n - 1)) (τ := hh (n - 1)) (Mt := M) q8 q5 (fun hn => ?_)) (fun E ω1 hE => hE.2.1)).mono (fun z W hz => ?_)
  · have a := r1 (n - 1) (by omega)
    have b := r3 (n - 1) (by omega)
    exact ⟨a.2.1, bsP a.1, by omega, b.1, b.2.1⟩
  rcases hz with ⟨rfl, v, ω1, hv, ⟨a1, a2, a3, a4⟩, rfl⟩ | ⟨rfl, a1, a2, a3⟩
  · have b3 := r3 (n - 1) (by omega)
    have e1 : ∀ x, x ≠ 0 → 22 ≤ x → x ≠ 252 → (wi ω1 252 0 v).1 x = ω.1 x := fun x b1 b2 b4 => (wi_ne b4).trans ((a3.1 x (by omega)).trans (wi_ne b1))
    have e0 : ∀ y, y ≠ 5 → (wi ω1 252 0 v).1 0 y = ω.1 0 y := fun y hy => (congrFun ((wi_ne (by decide)).trans (a3.1 0 (by omega))) y).trans (by simp [wi, hy])
    have e05 : (wi ω1 252 0 v).1 0 5 = (n : Int) - 1 := (congrFun ((wi_ne (by decide)).trans (a3.1 0 (by omega))) 5).trans (by simp [wi])
    have e2 : ∀ x, x ≠ 4 → (wi ω1 252 0 v).2.1 x = ω.2.1 x := fun x hx => a3.2.1 x hx
    have e52 : (wi ω1 252 0 v).1 252 0 = v := wi0
    have eS : St (wi ω1 252 0 v) 1 (hh (n - 1)) := a4.fr b3.2.1.cc (fun x _ _ => wi_ne (by omega)) (fun _ _ _ => rfl)
    generalize wi ω1 252 0 v = W at e1 e0 e05 e2 e52 eS ⊢
    have hwm : WM W.2.1 := by
      have := h.wm; unfold WM at this ⊢; rw [e2 243 (by decide)]; exact this
    have e43 := e1 243 (by decide) (by decide) (by decide)
    have e44 := e1 244 (by decide) (by decide) (by decide)
    have e48 := e1 248 (by decide) (by decide) (by decide)
    refine (c_X9_undo hwm (M := M) (by rw [e44]; exact h.ri) (c5 := n) (by rw [e43]; exact p2) q8).mono (fun z2 W2 hz2 => ?_)
    obtain ⟨f1, f2⟩ := hz2
    rw [if_neg (by omega)] at f1 f2
    rw [e43, e44, e48] at f2
    have hx : ∀ x, x ≠ 0 → 22 ≤ x → x ≠ 252 → x ≠ 243 → x ≠ 244 → W2.1 x = ω.1 x := fun x b1 b2 b4 b5 b6 => by
      rw [f2]; exact (wf_ne _ _ b6).trans ((wf_ne _ _ b5).trans (e1 x b1 b2 b4))
    have h0 : W2.1 0 = W.1 0 := by rw [f2]; exact (wf_ne _ _ (by decide)).trans (wf_ne _ _ (by decide))
    have h43 : W2.1 243 = up (up (ω.1 243) 6 0) 5 ((n : Int) - 1) := by rw [f2]; exact (wf_ne _ _ (by decide)).trans (wf_same _ _ _)
    have h52 : W2.1 252 = W.1 252 := by rw [f2]; exact (wf_ne _ _ (by decide)).trans (wf_ne _ _ (by decide))
    have hr2 : ∀ x, x ≠ 4 → W2.2.1 x = ω.2.1 x := fun x hx => by rw [f2]; exact e2 x hx
    have h44 : W2.1 244 = hh (n - 1) := by
      rw [f2, wf_same]
      funext y
      unfold cpy
      by_cases hy : y < 111
      · rw [if_pos (by omega), p3 (n - 1) (by omega) y hy]; congr 1
      · rw [if_neg (by omega), h.ri.z11 y (by omega), b3.2.1.z11 y (by omega)]
    have hinv : INV (M + 70000) W2 := by
      refine h.st2 ⟨by omega, hM⟩ (fun x hx9 => hx x (by omega) (by omega) (by omega) (by omega) (by omega)) (by rw [h0]; exact e0 3 (by decide)) (fun x b1 _ _ _ _ => hr2 x b1) ⟨by rw [h43, up_ne _ _ (by decide), up_ne _ _ (by decide)], by rw [h43, up_ne _ _ (by decide), up_ne _ _ (by decide)]⟩ ?_ ?_ ?_ ?_ ?_ ?_ ?_ ?_ ?_
      · rw [h44]; exact eS.fr b3.2.1.cc (fun x _ _ => by rw [f2]; exact (wf_ne _ _ (by omega)).trans (wf_ne _ _ (by omega))) (fun x _ _ => by rw [f2]; rfl)
      · rw [h44]; exact b3.2.1.le (by omega) hM
      · rw [h44]; exact b3.2.2
      · refine ⟨n - 1, hh, (p1'.of (M' := M + 70000) ⟨by omega, hM⟩ rfl (fun _ _ _ => rfl) (fun _ _ => rfl)).cut (by omega) (by rw [h0, e05]; omega) (fun x _ _ => hx x (by omega) (by omega) (by omega) (by omega) (by omega)) (fun x _ => hr2 x (by omega)), by rw [h43, up_same]; omega, fun j hj y hy => ?_⟩
        rw [hx 248 (by decide) (by decide) (by decide) (by decide) (by decide)]; exact p3 j (by omega) y hy
      · exact qr_of (fun x _ _ => hr2 x (by omega)) h.q22
      · obtain ⟨g1, g2, g3, g4⟩ := h.rf
        unfold RFr
        rw [hx 65 (by decide) (by decide) (by decide) (by decide) (by decide), hx 66 (by decide) (by decide) (by decide) (by decide) (by decide), h43]
        exact ⟨g1, g2, g3, g4⟩
      · rw [h0, e0 10 (by decide), h43]; exact h.ft
      · exact h.tp.of (hx 68 (by decide) (by decide) (by decide) (by decide) (by decide)) (hx 69 (by decide) (by decide) (by decide) (by decide) (by decide)) (hx 249 (by decide) (by decide) (by decide) (by decide) (by decide)) (by rw [h43]; rfl)
      · rw [hx 245 (by decide) (by decide) (by decide) (by decide) (by decide)]; exact h.z.1
    exact ⟨hinv.wm, by rw [h43]; rfl, fun _ => by rw [h52, e52, a1, f1], hinv⟩
  · have hq : Qs ω W := Qs.of a1
    subst a1
    refine (c_X9_undo h.wm h.ri p2 q8).mono (fun z2 W2 hz2 => ?_)
    obtain ⟨f1, f2⟩ := hz2
    rw [if_pos a3] at f1 f2
    subst f2
    exact ask6 (q := (1, 0)) h ⟨by omega, hM⟩ rfl (fun q => absurd q (by decide)) hq f1
theorem s_restore {Γ : Ga} {l : Launch} {ω : Wo} {M : Int} (hsl : l.stackTraces = false) (h : INV M ω) (hM : M + 70000 ≤ 100000000) : CW Γ l yL_restore cL_restore 3 [(0, 8, 11, 92)] 21 1 [.ref (rl Γ 0), .ref (rl Γ 252)] ω (fun z W => CI Γ l yX9_restore cX9_restore 1 .int 1 [.ref (rl Γ 243)] W (fun z2 W2 => Ag (M + 70000) z z2 W2)) := by
  obtain ⟨n, hh, p1, p2, p3⟩ := h.pa
  obtain ⟨s1, s2, s3, s4⟩ := h.sv
  refine (w_restore (by decide) (c_X8_restore hsl h.cr h.st h.ri h.wi (v := ω.1 243 12) (τ := ω.1 247) (Mt := M) s1 (fun hn => ⟨(s2 hn).1, (s2 hn).2.1⟩)) (fun E ω1 hE => hE.2.1)).mono (fun z W hz => ?_)
  rcases hz with ⟨rfl, v, ω1, hv, ⟨a1, a2, W0, a3, a4, rfl⟩, rfl⟩ | ⟨rfl, a1, a2, a3⟩
  · obtain ⟨t1, t2, t3⟩ := s2 a2
    have e1 : ∀ x, x ≠ 0 → 22 ≤ x → x ≠ 252 → (wi (wi W0 0 5 0) 252 0 v).1 x = ω.1 x := fun x b1 b2 b4 => (wi_ne b4).trans ((wi_ne b1).trans (a3.1 x (by omega)))
    have e0 : ∀ y, y ≠ 5 → (wi (wi W0 0 5 0) 252 0 v).1 0 y = ω.1 0 y := fun y hy => (congrFun (wi_ne (by decide)) y).trans ((show (wi W0 0 5 0).1 0 y = W0.1 0 y by simp [wi, hy]).trans (congrFun (a3.1 0 (by omega)) y))
    have e05 : (wi (wi W0 0 5 0) 252 0 v).1 0 5 = 0 := (congrFun (wi_ne (by decide)) 5).trans (by simp [wi])
    have e2 : ∀ x, x ≠ 4 → (wi (wi W0 0 5 0) 252 0 v).2.1 x = ω.2.1 x := fun x hx => a3.2.1 x hx
    have e52 : (wi (wi W0 0 5 0) 252 0 v).1 252 0 = v := wi0
    have eS : St (wi (wi W0 0 5 0) 252 0 v) 1 (ω.1 247) := a4.fr t2.cc (fun x _ _ => (wi_ne (by omega)).trans (wi_ne (by omega))) (fun _ _ _ => rfl)
    generalize wi (wi W0 0 5 0) 252 0 v = W at e1 e0 e05 e2 e52 eS ⊢
    have hwm : WM W.2.1 := by
      have := h.wm; unfold WM at this ⊢; rw [e2 243 (by decide)]; exact this
    have e43 := e1 243 (by decide) (by decide) (by decide)
    have e44 := e1 244 (by decide) (by decide) (by decide)
    have e47 := e1 247 (by decide) (by decide) (by decide)
    refine (c_X9_restore hwm (M := M) (by rw [e44]; exact h.ri) (by rw [e47]; exact h.z.2.2)).mono (fun z2 W2 hz2 => ?_)
    obtain ⟨f1, f2⟩ := hz2
    rw [e43] at f1 f2
    rw [if_neg a2] at f1 f2
    rw [e47] at f1 f2
    have hx : ∀ x, x ≠ 0 → 22 ≤ x → x ≠ 252 → x ≠ 243 → x ≠ 244 → W2.1 x = ω.1 x := fun x b1 b2 b4 b5 b6 => by
      rw [f2]; exact (wf_ne _ _ b5).trans ((wf_ne _ _ b6).trans (e1 x b1 b2 b4))
    have h0 : W2.1 0 = W.1 0 := by rw [f2]; exact (wf_ne _ _ (by decide)).trans (wf_ne _ _ (by decide))
    have h43 : W2.1 243 = up (up (ω.1 243) 6 0) 5 0 := by rw [f2]; exact wf_same _ _ _
    have h52 : W2.1 252 = W.1 252 := by rw [f2]; exact (wf_ne _ _ (by decide)).trans (wf_ne _ _ (by decide))
    have hr2 : ∀ x, x ≠ 4 → W2.2.1 x = ω.2.1 x := fun x hx => by rw [f2]; exact e2 x hx
    have h44 : W2.1 244 = ω.1 247 := by rw [f2]; exact (wf_ne _ _ (by decide)).trans (wf_same _ _ _)
    have hinv : INV (M + 70000) W2 := by
      refine h.st2 ⟨by omega, hM⟩ (fun x hx9 => hx x (by omega) (by omega) (by omega) (by omega) (by omega)) (by rw [h0]; exact e0 3 (by decide)) (fun x b1 _ _ _ _ => hr2 x b1) ⟨by rw [h43, up_ne _ _ (by decide), up_ne _ _ (by decide)], by rw [h43, up_ne _ _ (by decide), up_ne _ _ (by decide)]⟩ ?_ ?_ ?_ ?_ ?_ ?_ ?_ ?_ ?_
      · rw [h44]; exact eS.fr t2.cc (fun x _ _ => by rw [f2]; exact (wf_ne _ _ (by omega)).trans (wf_ne _ _ (by omega))) (fun x _ _ => by rw [f2]; rfl)
      · rw [h44]; exact t2.le (by omega) hM
      · rw [h44]; exact t3
      · exact ⟨0, hh, (p1.of (M' := M + 70000) ⟨by omega, hM⟩ rfl (fun _ _ _ => rfl) (fun _ _ => rfl)).cut (by omega) (by rw [h0, e05]; rfl) (fun x _ _ => hx x (by omega) (by omega) (by omega) (by omega) (by omega)) (fun x _ => hr2 x (by omega)), by rw [h43, up_same]; rfl, fun j hj => absurd hj (by omega)⟩
      · exact qr_of (fun x _ _ => hr2 x (by omega)) h.q22
      · obtain ⟨g1, g2, g3, g4⟩ := h.rf
        unfold RFr
        rw [hx 65 (by decide) (by decide) (by decide) (by decide) (by decide), hx 66 (by decide) (by decide) (by decide) (by decide) (by decide), h43]
        exact ⟨g1, g2, g3, g4⟩
      · rw [h0, e0 10 (by decide), h43]; exact h.ft
      · exact h.tp.of (hx 68 (by decide) (by decide) (by decide) (by decide) (by decide)) (hx 69 (by decide) (by decide) (by decide) (by decide) (by decide)) (hx 249 (by decide) (by decide) (by decide) (by decide) (by decide)) (by rw [h43]; rfl)
      · rw [hx 245 (by decide) (by decide) (by decide) (by decide) (by decide)]; exact h.z.1
    exact ⟨hinv.wm, by rw [h43]; rfl, fun _ => by rw [h52, e52, a1, f1], hinv⟩
  · have hq : Qs ω W := Qs.of a1
    subst a1
    refine (c_X9_restore h.wm h.ri h.z.2.2).mono (fun z2 W2 hz2 => ?_)
    obtain ⟨f1, f2⟩ := hz2
    rw [if_pos a3] at f1 f2
    subst f2
    exact ask6 (q := (1, 0)) h ⟨by omega, hM⟩ rfl (fun q => absurd q (by decide)) hq f1
theorem s_able {Γ : Ga} {l : Launch} {ω : Wo} {M : Int} (hsl : l.stackTraces = false) (h : INV M ω) (hM : M + 70000 ≤ 100000000) : CI Γ l yX8_able cX8_able 1 .int 2 [.ref (rl Γ 0)] ω (fun z W => CI Γ l yX9_able cX9_able 1 .int 3 [.ref (rl Γ 243)] W (fun z2 W2 => z = z2 ∧ INV (M + 70000) W2)) := by
  refine (c_X8_able hsl h.cr h.st h.ri h.wi).mono (fun z W hz => ?_)
  obtain ⟨e1, e2⟩ := hz
  subst e2
  refine (c_X9_able h.wm h.ri).mono (fun z2 W2 hz2 => ?_)
  obtain ⟨f1, f2⟩ := hz2
  subst f2
  exact ⟨by rw [e1, f1], h.qs (Qs.m6 _) ⟨by omega, hM⟩⟩
theorem s_free {Γ : Ga} {l : Launch} {ω : Wo} {M : Int} (hsl : l.stackTraces = false) (h : INV M ω) (hM : M + 70000 ≤ 100000000) : CI Γ l yX8_free cX8_free 1 .int 3 [.ref (rl Γ 0)] ω (fun z W => CI Γ l yX9_free cX9_free 1 .int 3 [.ref (rl Γ 243)] W (fun z2 W2 => z = z2 ∧ INV (M + 70000) W2)) := by
  refine (c_X8_free hsl h.cr h.st h.ri h.wi).mono (fun z W hz => ?_)
  obtain ⟨e1, e2⟩ := hz
  subst e2
  refine (c_X9_free h.wm h.ri).mono (fun z2 W2 hz2 => ?_)
  obtain ⟨f1, f2⟩ := hz2
  subst f2
  exact ⟨by rw [e1, f1], h.qs (Qs.m6 _) ⟨by omega, hM⟩⟩
theorem s_faultPosition {Γ : Ga} {l : Launch} {ω : Wo} {M : Int} (hsl : l.stackTraces = false) (h : INV M ω) (hM : M + 70000 ≤ 100000000) : CI Γ l yX8_faultPosition cX8_faultPosition 1 .int 0 [.ref (rl Γ 0)] ω (fun z W => CI Γ l yX9_faultPosition cX9_faultPosition 1 .int 0 [.ref (rl Γ 243)] W (fun z2 W2 => z = z2 ∧ INV (M + 70000) W2)) := by
  refine (c_X8_faultPosition hsl h.cr h.st h.ri h.wi).mono (fun z W hz => ?_)
  obtain ⟨e1, e2⟩ := hz
  subst e2
  refine (c_X9_faultPosition h.wm).mono (fun z2 W2 hz2 => ?_)
  obtain ⟨f1, f2⟩ := hz2
  subst f2
  exact ⟨by rw [e1, f1]; exact h.ft, h.qs (Qs.m6 _) ⟨by omega, hM⟩⟩
theorem s_outShare {Γ : Ga} {l : Launch} {ω : Wo} {M : Int} (hsl : l.stackTraces = false) (h : INV M ω) (hM : M + 70000 ≤ 100000000) : CF Γ l yX8_outShare cX8_outShare 1 .float 2 [.ref (rl Γ 0)] ω (fun z W => FP.Core.dIsNaN (FP.f2d z) = false ∧ CF Γ l yX9_outShare cX9_outShare 1 .float 2 [.ref (rl Γ 243)] W (fun z2 W2 => z = z2 ∧ INV (M + 70000) W2)) := by
  have gao := oarsUp_rg h.ri (cL (ω.1 244)) h.ri.c.2.2.2
  have gc := h.ri.c
  refine (c_X8_outShare hsl h.cr h.st h.ri h.wi).mono (fun z W hz => ?_)
  obtain ⟨e1, e2⟩ := hz
  subst e2
  refine ⟨?_, (c_X9_outShare h.wm h.ri).mono (fun z2 W2 hz2 => ?_)⟩
  · rw [e1]
    exact share_d (iI_nz (by unfold allO; omega))
  · obtain ⟨f2, f1⟩ := hz2
    subst f2
    exact ⟨by rw [e1, f1], h.qs (Qs.m6 _) ⟨by omega, hM⟩⟩
theorem s_save {Γ : Ga} {l : Launch} {ω : Wo} {M : Int} (hsl : l.stackTraces = false) (h : INV M ω) (hM : M + 70000 ≤ 100000000) : CI Γ l yX8_save cX8_save 1 .int 2 [.ref (rl Γ 0)] ω (fun z W => CI Γ l yX9_save cX9_save 1 .int 1 [.ref (rl Γ 243)] W (fun z2 W2 => z = z2 ∧ INV (M + 70000) W2)) := by
  obtain ⟨s1, s2, s3, s4⟩ := h.sv
  refine (c_X8_save hsl h.cr h.st h.ri h.wi s3).mono (fun z W hz => ?_)
  obtain ⟨a1, W0, a2, a3, rfl⟩ := hz
  have e1 : ∀ x, x ≠ 0 → (x < 43 ∨ 64 ≤ x) → (wi W0 0 3 1).1 x = ω.1 x := fun x b1 b2 => (wi_ne b1).trans (a2.1 x (by omega))
  have e0 : ∀ y, y ≠ 3 → (wi W0 0 3 1).1 0 y = ω.1 0 y := fun y hy => (show (wi W0 0 3 1).1 0 y = W0.1 0 y by simp [wi, hy]).trans (congrFun (a2.1 0 (by omega)) y)
  have e03 : (wi W0 0 3 1).1 0 3 = 1 := by simp [wi]
  have e2 : ∀ x, x ≠ 46 → (wi W0 0 3 1).2.1 x = ω.2.1 x := fun x hx => a2.2.1 x hx
  have eS : St (wi W0 0 3 1) 43 (ω.1 244) := a3.fr h.ri.cc (fun x _ _ => wi_ne (by omega)) (fun _ _ _ => rfl)
  generalize wi W0 0 3 1 = W at e1 e0 e03 e2 eS ⊢
  have hwm : WM W.2.1 := by
    have := h.wm; unfold WM at this ⊢; rw [e2 243 (by decide)]; exact this
  have e43 := e1 243 (by decide) (by omega)
  have e44 := e1 244 (by decide) (by omega)
  have e47 := e1 247 (by decide) (by omega)
  refine (c_X9_save hwm (M := M) (by rw [e44]; exact h.ri) (by rw [e47]; exact h.z.2.2)).mono (fun z2 W2 hz2 => ?_)
  obtain ⟨f1, f2⟩ := hz2
  rw [e43, e44] at f2
  rw [e44] at f1
  have hx : ∀ x, x ≠ 0 → (x < 43 ∨ 64 ≤ x) → x ≠ 243 → x ≠ 247 → W2.1 x = ω.1 x := fun x b1 b2 b4 b5 => by
    rw [f2]; exact (wf_ne _ _ b4).trans ((wf_ne _ _ b5).trans (e1 x b1 b2))
  have h0 : W2.1 0 = W.1 0 := by rw [f2]; exact (wf_ne _ _ (by decide)).trans (wf_ne _ _ (by decide))
  have h43 : W2.1 243 = up (up (ω.1 243) 6 0) 12 1 := by rw [f2]; exact wf_same _ _ _
  have h47 : W2.1 247 = ω.1 244 := by rw [f2]; exact (wf_ne _ _ (by decide)).trans (wf_same _ _ _)
  have hr2 : ∀ x, x ≠ 46 → W2.2.1 x = ω.2.1 x := fun x hx => by rw [f2]; exact e2 x hx
  have h44 : W2.1 244 = ω.1 244 := hx 244 (by decide) (by omega) (by decide) (by decide)
  have hS9 : St W2 43 (ω.1 244) := eS.fr h.ri.cc (fun x _ _ => by rw [f2]; exact (wf_ne _ _ (by omega)).trans (wf_ne _ _ (by omega))) (fun x _ _ => by rw [f2]; rfl)
  have hinv : INV (M + 70000) W2 := by
    refine h.st3 (fun x hx9 => hx x (by omega) (by omega) (by omega) (by omega)) ⟨hr2 0 (by decide), hr2 68 (by decide), hr2 73 (by decide), hr2 243 (by decide)⟩ (by rw [h43, up_ne _ _ (by decide), up_ne _ _ (by decide)]) ?_ ?_ ?_ ?_ ?_ ?_ ?_ ?_ ?_ ?_ ?_
    · rw [h44]; exact h.st.fr h.ri.cc (fun x _ _ => hx x (by omega) (by omega) (by omega) (by omega)) (fun x _ _ => hr2 x (by omega))
    · rw [h44]; exact h.ri.le (by omega) hM
    · rw [h44]; exact h.wi
    · obtain ⟨n, hh, p1, p2, p3⟩ := h.pa
      exact ⟨n, hh, p1.of ⟨by omega, hM⟩ (by rw [h0]; exact e0 5 (by decide)) (fun x _ _ => hx x (by omega) (by omega) (by omega) (by omega)) (fun x _ => hr2 x (by omega)), by rw [h43]; exact p2, fun j hj y hy => by rw [hx 248 (by decide) (by omega) (by decide) (by decide)]; exact p3 j hj y hy⟩
    · refine ⟨by rw [h0, e03, h43, up_same], fun _ => ?_, hS9.q, Or.inr (by rw [h43, up_same])⟩
      rw [h47]; exact ⟨hS9, h.ri.le (by omega) hM, h.wi⟩
    · exact qr_of (fun x _ _ => hr2 x (by omega)) h.q22
    · obtain ⟨g1, g2, g3, g4⟩ := h.rf
      unfold RFr
      rw [hx 65 (by decide) (by omega) (by decide) (by decide), hx 66 (by decide) (by omega) (by decide) (by decide), h43]
      exact ⟨g1, g2, g3, g4⟩
    · rw [h0, e0 10 (by decide), h43]; exact h.ft
    · exact h.tp.of (hx 68 (by decide) (by omega) (by decide) (by decide)) (hx 69 (by decide) (by omega) (by decide) (by decide)) (hx 249 (by decide) (by omega) (by decide) (by decide)) (by rw [h43]; rfl)
    · rw [hx 245 (by decide) (by omega) (by decide) (by decide)]; exact h.z.1
    · rw [h47]; exact h.ri.z11
  exact ⟨by rw [a1, f1], hinv⟩
