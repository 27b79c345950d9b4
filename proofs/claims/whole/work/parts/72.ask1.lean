/-! the questions: class and reference agree -/
theorem CW.mono {Γ : Ga} {l : Launch} {y : MethodName} {bytes : ByteArray} {maxL d k : Nat} {hh : List (Nat × Nat × Nat × Nat)} {as : List Value} {ω : Wo} {Po Po' : Int → Wo → Prop} (h : CW Γ l y bytes maxL hh d k as ω Po) (hp : ∀ z w, Po z w → Po' z w) : CW Γ l y bytes maxL hh d k as ω Po' := by
  unfold CW Met at h ⊢
  refine MetFree.mono h (fun _ _ h => h) (fun _ _ _ _ _ h => h) (fun _ _ _ _ _ hq => ⟨?_, hq.2⟩)
  obtain ⟨⟨⟨r, u, e1, ⟨z, e2, e3, e4⟩, e5⟩, e6⟩, -⟩ := hq
  exact ⟨⟨r, u, e1, ⟨z, e2, e3, hp z u e4⟩, e5⟩, e6⟩
theorem wi0 {ω : Wo} {v : Int} : (wi ω 252 0 v).1 252 0 = v := by simp [wi]
theorem ne_ia : eIdx ≠ eArg := by decide +kernel
theorem ne_in : eIdx ≠ eNo := by decide +kernel
theorem ne_au : eArg ≠ eUn := by decide +kernel
theorem Qs.of {ω W : Wo} (h : ω = W) : Qs ω W := h ▸ Qs.rf ω
theorem Qs.ofF {ω W : Wo} (h : ∃ v w, W = RF ω 67 v w) : Qs ω W := by obtain ⟨v, w, rfl⟩ := h; exact Qs.rF v w
theorem Qs.ofE {ω W : Wo} (h : W = ω ∨ ∃ v w, W = RF ω 67 v w) : Qs ω W := h.elim (fun e => Qs.of e.symm) Qs.ofF
theorem Qs.ofK {ω W : Wo} (h : KC ω W ∧ QR W 22) : Qs ω W := Qs.kc h.1 h.2
theorem s_height {Γ : Ga} {l : Launch} {ω : Wo} {M : Int} (hsl : l.stackTraces = false) (h : INV M ω) (hM : M + 70000 ≤ 100000000) {a : Int} (ha : Rg a) : CW Γ l yL_height cL_height 4 [(0, 9, 12, 43)] 21 1 [.ref (rl Γ 0), .int (iI a), .ref (rl Γ 252)] ω (fun z W => CI Γ l yX9_height cX9_height 2 .int 1 [.ref (rl Γ 243), .int (iI a)] W (fun z2 W2 => Ag (M + 70000) z z2 W2)) := by
  refine (w_height (by decide) (c_X8_height hsl h.cr h.st h.ri h.wi ha) (fun E ω1 hE => ?_)).mono (fun z W hz => ?_)
  · exact hE.2.1
  have hq : Qs ω W ∧ z = (qHeight (ω.1 244) a).1 ∧ (z = 0 → W.1 252 0 = (qHeight (ω.1 244) a).2) := by
    rcases hz with ⟨rfl, v, ω1, hv, ⟨p1, p2, p3⟩, rfl⟩ | ⟨rfl, p1, p2, p3⟩
    · exact ⟨(Qs.of p3).w252 v, p2.symm, fun _ => wi0.trans p1⟩
    · exact ⟨Qs.of p1, p3.symm, fun q => absurd q (by decide)⟩
  obtain ⟨hq, e1, e2⟩ := hq
  have hi := h.qs hq ⟨(by omega : M ≤ M + 70000), hM⟩
  refine (c_X9_height hi.wm hi.ri ha).mono (fun z2 W2 hz2 => ?_)
  obtain ⟨f1, rfl⟩ := hz2
  rw [hq.e44] at f1 ⊢
  exact ask6 h ⟨by omega, hM⟩ e1 e2 hq f1
theorem s_memberOf {Γ : Ga} {l : Launch} {ω : Wo} {M : Int} (hsl : l.stackTraces = false) (h : INV M ω) (hM : M + 70000 ≤ 100000000) {a : Int} (ha : Rg a) {b : Int} (hb : Rg b) : CW Γ l yL_memberOf cL_memberOf 5 [(0, 10, 13, 48), (0, 10, 17, 43)] 21 1 [.ref (rl Γ 0), .int (iI a), .int (iI b), .ref (rl Γ 252)] ω (fun z W => CI Γ l yX9_memberOf cX9_memberOf 3 .int 2 [.ref (rl Γ 243), .int (iI a), .int (iI b)] W (fun z2 W2 => Ag (M + 70000) z z2 W2)) := by
  refine (w_memberOf (by decide) (c_X8_memberOf hsl h.cr h.st h.ri h.wi ha hb) (fun E ω1 hE => ?_)).mono (fun z W hz => ?_)
  · exact hE.2.elim (fun q => Or.inl q.1) (fun q => Or.inr q.1)
  have hq : Qs ω W ∧ z = (qMember (ω.1 244) a b).1 ∧ (z = 0 → W.1 252 0 = (qMember (ω.1 244) a b).2) := by
    rcases hz with ⟨rfl, v, ω1, hv, ⟨p1, p2, p3⟩, rfl⟩ | ⟨rfl, p1, p2⟩ | ⟨rfl, p1, p2⟩
    · exact ⟨(Qs.of p3).w252 v, p2.symm, fun _ => wi0.trans p1⟩
    · exact ⟨Qs.of p1, (p2.elim (fun q => q.2) (fun q => absurd q.1 ne_ia)).symm, fun q => absurd q (by decide)⟩
    · exact ⟨Qs.of p1, (p2.elim (fun q => absurd q.1 ne_ia.symm) (fun q => q.2)).symm, fun q => absurd q (by decide)⟩
  obtain ⟨hq, e1, e2⟩ := hq
  have hi := h.qs hq ⟨(by omega : M ≤ M + 70000), hM⟩
  refine (c_X9_memberOf hi.wm hi.ri ha hb).mono (fun z2 W2 hz2 => ?_)
  obtain ⟨f1, rfl⟩ := hz2
  rw [hq.e44] at f1 ⊢
  exact ask6 h ⟨by omega, hM⟩ e1 e2 hq f1
theorem s_boatOf {Γ : Ga} {l : Launch} {ω : Wo} {M : Int} (hsl : l.stackTraces = false) (h : INV M ω) (hM : M + 70000 ≤ 100000000) {a : Int} (ha : Rg a) {b : Int} (hb : Rg b) : CW Γ l yL_boatOf cL_boatOf 5 [(0, 10, 13, 48), (0, 10, 17, 43)] 21 2 [.ref (rl Γ 0), .int (iI a), .int (iI b), .ref (rl Γ 252)] ω (fun z W => CI Γ l yX9_boatOf cX9_boatOf 3 .int 2 [.ref (rl Γ 243), .int (iI a), .int (iI b)] W (fun z2 W2 => Ag (M + 70000) z z2 W2)) := by
  refine (w_boatOf (by decide) (c_X8_boatOf hsl h.cr h.st h.ri h.wi ha hb) (fun E ω1 hE => ?_)).mono (fun z W hz => ?_)
  · exact hE.2.elim (fun q => Or.inl q.1) (fun q => Or.inr q.1)
  have hq : Qs ω W ∧ z = (qBoat (ω.1 244) a b).1 ∧ (z = 0 → W.1 252 0 = (qBoat (ω.1 244) a b).2) := by
    rcases hz with ⟨rfl, v, ω1, hv, ⟨p1, p2, p3⟩, rfl⟩ | ⟨rfl, p1, p2⟩ | ⟨rfl, p1, p2⟩
    · exact ⟨(Qs.of p3).w252 v, p2.symm, fun _ => wi0.trans p1⟩
    · exact ⟨Qs.of p1, (p2.elim (fun q => q.2) (fun q => absurd q.1 ne_ia)).symm, fun q => absurd q (by decide)⟩
    · exact ⟨Qs.of p1, (p2.elim (fun q => absurd q.1 ne_ia.symm) (fun q => q.2)).symm, fun q => absurd q (by decide)⟩
  obtain ⟨hq, e1, e2⟩ := hq
  have hi := h.qs hq ⟨(by omega : M ≤ M + 70000), hM⟩
  refine (c_X9_boatOf hi.wm hi.ri ha hb).mono (fun z2 W2 hz2 => ?_)
  obtain ⟨f1, rfl⟩ := hz2
  rw [hq.e44] at f1 ⊢
  exact ask6 h ⟨by omega, hM⟩ e1 e2 hq f1
theorem s_crew {Γ : Ga} {l : Launch} {ω : Wo} {M : Int} (hsl : l.stackTraces = false) (h : INV M ω) (hM : M + 70000 ≤ 100000000) {a : Int} (ha : Rg a) : CW Γ l yL_crew cL_crew 4 [(0, 9, 12, 48)] 21 1 [.ref (rl Γ 0), .int (iI a), .ref (rl Γ 252)] ω (fun z W => CI Γ l yX9_crew cX9_crew 2 .int 2 [.ref (rl Γ 243), .int (iI a)] W (fun z2 W2 => Ag (M + 70000) z z2 W2)) := by
  refine (w_crew (by decide) (c_X8_crew hsl h.cr h.st h.ri h.wi ha) (fun E ω1 hE => ?_)).mono (fun z W hz => ?_)
  · exact hE.2.1
  have hq : Qs ω W ∧ z = (qCrew (ω.1 244) a).1 ∧ (z = 0 → W.1 252 0 = (qCrew (ω.1 244) a).2) := by
    rcases hz with ⟨rfl, v, ω1, hv, ⟨p1, p2, p3⟩, rfl⟩ | ⟨rfl, p1, p2, p3⟩
    · exact ⟨(Qs.of p3).w252 v, p2.symm, fun _ => wi0.trans p1⟩
    · exact ⟨Qs.of p1, p3.symm, fun q => absurd q (by decide)⟩
  obtain ⟨hq, e1, e2⟩ := hq
  have hi := h.qs hq ⟨(by omega : M ≤ M + 70000), hM⟩
  refine (c_X9_crew hi.wm hi.ri ha).mono (fun z2 W2 hz2 => ?_)
  obtain ⟨f1, rfl⟩ := hz2
  rw [hq.e44] at f1 ⊢
  exact ask6 h ⟨by omega, hM⟩ e1 e2 hq f1
theorem s_loanOf {Γ : Ga} {l : Launch} {ω : Wo} {M : Int} (hsl : l.stackTraces = false) (h : INV M ω) (hM : M + 70000 ≤ 100000000) {a : Int} (ha : Rg a) {b : Int} (hb : Rg b) : CW Γ l yL_loanOf cL_loanOf 5 [(0, 10, 13, 48), (0, 10, 17, 43)] 21 1 [.ref (rl Γ 0), .int (iI a), .int (iI b), .ref (rl Γ 252)] ω (fun z W => CI Γ l yX9_loanOf cX9_loanOf 3 .int 2 [.ref (rl Γ 243), .int (iI a), .int (iI b)] W (fun z2 W2 => Ag (M + 70000) z z2 W2)) := by
  refine (w_loanOf (by decide) (c_X8_loanOf hsl h.cr h.st h.ri h.wi ha hb) (fun E ω1 hE => ?_)).mono (fun z W hz => ?_)
  · exact hE.2.elim (fun q => Or.inl q.1) (fun q => Or.inr q.1)
  have hq : Qs ω W ∧ z = (qLoan (ω.1 244) a b).1 ∧ (z = 0 → W.1 252 0 = (qLoan (ω.1 244) a b).2) := by
    rcases hz with ⟨rfl, v, ω1, hv, ⟨p1, p2, p3⟩, rfl⟩ | ⟨rfl, p1, p2⟩ | ⟨rfl, p1, p2⟩
    · exact ⟨(Qs.of p3).w252 v, p2.symm, fun _ => wi0.trans p1⟩
    · exact ⟨Qs.of p1, (p2.elim (fun q => q.2) (fun q => absurd q.1 ne_ia)).symm, fun q => absurd q (by decide)⟩
    · exact ⟨Qs.of p1, (p2.elim (fun q => absurd q.1 ne_ia.symm) (fun q => q.2)).symm, fun q => absurd q (by decide)⟩
  obtain ⟨hq, e1, e2⟩ := hq
  have hi := h.qs hq ⟨(by omega : M ≤ M + 70000), hM⟩
  refine (c_X9_loanOf hi.wm hi.ri ha hb).mono (fun z2 W2 hz2 => ?_)
  obtain ⟨f1, rfl⟩ := hz2
  rw [hq.e44] at f1 ⊢
  exact ask6 h ⟨by omega, hM⟩ e1 e2 hq f1
theorem s_account {Γ : Ga} {l : Launch} {ω : Wo} {M : Int} (hsl : l.stackTraces = false) (h : INV M ω) (hM : M + 70000 ≤ 100000000) {a : Int} (ha : Rg a) : CW Γ l yL_account cL_account 4 [(0, 9, 12, 43)] 21 1 [.ref (rl Γ 0), .int (iI a), .ref (rl Γ 252)] ω (fun z W => CI Γ l yX9_account cX9_account 2 .int 2 [.ref (rl Γ 243), .int (iI a)] W (fun z2 W2 => Ag (M + 70000) z z2 W2)) := by
  refine (w_account (by decide) (c_X8_account hsl h.cr h.st h.ri h.wi ha) (fun E ω1 hE => ?_)).mono (fun z W hz => ?_)
  · exact hE.2.1
  have hq : Qs ω W ∧ z = (qAcc (ω.1 244) (ω.1 0 5) (ω.1 68 1) a).1 ∧ (z = 0 → W.1 252 0 = (qAcc (ω.1 244) (ω.1 0 5) (ω.1 68 1) a).2) := by
    rcases hz with ⟨rfl, v, ω1, hv, ⟨p1, p2, p3⟩, rfl⟩ | ⟨rfl, p1, p2, p3⟩
    · exact ⟨(Qs.of p3).w252 v, p2.symm, fun _ => wi0.trans p1⟩
    · exact ⟨Qs.of p1, p3.symm, fun q => absurd q (by decide)⟩
  obtain ⟨hq, e1, e2⟩ := hq
  have hi := h.qs hq ⟨(by omega : M ≤ M + 70000), hM⟩
  refine (c_X9_account hi.wm hi.ri ha).mono (fun z2 W2 hz2 => ?_)
  obtain ⟨f1, rfl⟩ := hz2
  have g5 : W.1 243 5 = ω.1 0 5 := by
    obtain ⟨n, hh, p1, p2, p3⟩ := h.pa
    rw [hq.2.1 5 (by decide), p2]; exact p1.1.symm
  have g15 : W.1 243 15 = ω.1 68 1 := by
    obtain ⟨n, t1, t2, t3, t5⟩ := h.tp
    rw [hq.2.1 15 (by decide), t3, t2]
  rw [hq.e44, g5, g15] at f1 ⊢
  exact ask6 h ⟨by omega, hM⟩ e1 e2 hq f1
theorem s_wouldGo {Γ : Ga} {l : Launch} {ω : Wo} {M : Int} (hsl : l.stackTraces = false) (h : INV M ω) (hM : M + 70000 ≤ 100000000) {a : Int} (ha : Rg a) : CW Γ l yL_wouldGo cL_wouldGo 4 [(0, 9, 12, 48), (0, 9, 15, 59)] 21 2 [.ref (rl Γ 0), .int (iI a), .ref (rl Γ 252)] ω (fun z W => CI Γ l yX9_wouldGo cX9_wouldGo 2 .int 4 [.ref (rl Γ 243), .int (iI a)] W (fun z2 W2 => Ag (M + 70000) z z2 W2)) := by
  refine (w_wouldGo (by decide) (c_X8_wouldGo hsl h.cr h.st h.ri h.wi ha) (fun E ω1 hE => ?_)).mono (fun z W hz => ?_)
  · exact hE.2.elim (fun q => Or.inl q.1) (fun q => Or.inr q.1)
  have hq : Qs ω W ∧ z = (qGo (ω.1 244) a).1 ∧ (z = 0 → W.1 252 0 = (qGo (ω.1 244) a).2) := by
    rcases hz with ⟨rfl, v, ω1, hv, ⟨p1, p2, p3⟩, rfl⟩ | ⟨rfl, p1, p2⟩ | ⟨rfl, p1, p2⟩
    · exact ⟨(Qs.ofF p3).w252 v, p2.symm, fun _ => wi0.trans p1⟩
    · exact ⟨Qs.ofE p1, (p2.elim (fun q => q.2) (fun q => absurd q.1 ne_in)).symm, fun q => absurd q (by decide)⟩
    · exact ⟨Qs.ofE p1, (p2.elim (fun q => absurd q.1 ne_in.symm) (fun q => q.2)).symm, fun q => absurd q (by decide)⟩
  obtain ⟨hq, e1, e2⟩ := hq
  have hi := h.qs hq ⟨(by omega : M ≤ M + 70000), hM⟩
  refine (c_X9_wouldGo hi.wm hi.ri ha hi.wi.2.1).mono (fun z2 W2 hz2 => ?_)
  obtain ⟨f1, rfl⟩ := hz2
  rw [hq.e44] at f1 ⊢
  exact ask6 h ⟨by omega, hM⟩ e1 e2 hq f1
theorem s_weariness {Γ : Ga} {l : Launch} {ω : Wo} {M : Int} (hsl : l.stackTraces = false) (h : INV M ω) (hM : M + 70000 ≤ 100000000) {a : Int} (ha : Rg a) : CW Γ l yL_weariness cL_weariness 4 [(0, 9, 12, 48), (0, 9, 15, 59)] 21 2 [.ref (rl Γ 0), .int (iI a), .ref (rl Γ 252)] ω (fun z W => CI Γ l yX9_weariness cX9_weariness 5 .int 4 [.ref (rl Γ 243), .int (iI a)] W (fun z2 W2 => Ag (M + 70000) z z2 W2)) := by
  refine (w_weariness (by decide) (c_X8_weariness hsl h.cr h.st h.ri h.wi ha) (fun E ω1 hE => ?_)).mono (fun z W hz => ?_)
  · exact hE.2.elim (fun q => Or.inl q.1) (fun q => Or.inr q.1)
  have hq : Qs ω W ∧ z = (qWear (ω.1 244) a).1 ∧ (z = 0 → W.1 252 0 = (qWear (ω.1 244) a).2) := by
    rcases hz with ⟨rfl, v, ω1, hv, ⟨p1, p2, p3⟩, rfl⟩ | ⟨rfl, p1, p2⟩ | ⟨rfl, p1, p2⟩
    · exact ⟨(Qs.ofF p3).w252 v, p2.symm, fun _ => wi0.trans p1⟩
    · exact ⟨Qs.ofE p1, (p2.elim (fun q => q.2) (fun q => absurd q.1 ne_in)).symm, fun q => absurd q (by decide)⟩
    · exact ⟨Qs.ofE p1, (p2.elim (fun q => absurd q.1 ne_in.symm) (fun q => q.2)).symm, fun q => absurd q (by decide)⟩
  obtain ⟨hq, e1, e2⟩ := hq
  have hi := h.qs hq ⟨(by omega : M ≤ M + 70000), hM⟩
  refine (c_X9_weariness hi.wm hi.ri ha hi.wi.2.1).mono (fun z2 W2 hz2 => ?_)
  obtain ⟨f1, rfl⟩ := hz2
  rw [hq.e44] at f1 ⊢
  exact ask6 h ⟨by omega, hM⟩ e1 e2 hq f1
theorem s_wearinessAgain {Γ : Ga} {l : Launch} {ω : Wo} {M : Int} (hsl : l.stackTraces = false) (h : INV M ω) (hM : M + 70000 ≤ 100000000) {a : Int} (ha : Rg a) : CW Γ l yL_wearinessAgain cL_wearinessAgain 4 [(0, 9, 12, 48), (0, 9, 15, 59)] 21 2 [.ref (rl Γ 0), .int (iI a), .ref (rl Γ 252)] ω (fun z W => CI Γ l yX9_wearinessAgain cX9_wearinessAgain 2 .int 5 [.ref (rl Γ 243), .int (iI a)] W (fun z2 W2 => Ag (M + 70000) z z2 W2)) := by
  refine (w_wearinessAgain (by decide) (c_X8_wearinessAgain hsl h.cr h.st h.ri h.wi ha) (fun E ω1 hE => ?_)).mono (fun z W hz => ?_)
  · exact hE.2.elim (fun q => Or.inl q.1) (fun q => Or.inr q.1)
  have hq : Qs ω W ∧ z = (qWear (ω.1 244) a).1 ∧ (z = 0 → W.1 252 0 = (qWear (ω.1 244) a).2) := by
    rcases hz with ⟨rfl, v, ω1, hv, ⟨p1, p2, p3⟩, rfl⟩ | ⟨rfl, p1, p2⟩ | ⟨rfl, p1, p2⟩
    · exact ⟨(Qs.ofF p3).w252 v, p2.symm, fun _ => wi0.trans p1⟩
    · exact ⟨Qs.ofE p1, (p2.elim (fun q => q.2) (fun q => absurd q.1 ne_in)).symm, fun q => absurd q (by decide)⟩
    · exact ⟨Qs.ofE p1, (p2.elim (fun q => absurd q.1 ne_in.symm) (fun q => q.2)).symm, fun q => absurd q (by decide)⟩
  obtain ⟨hq, e1, e2⟩ := hq
  have hi := h.qs hq ⟨(by omega : M ≤ M + 70000), hM⟩
  refine (c_X9_wearinessAgain hi.wm hi.ri ha hi.wi.2.1).mono (fun z2 W2 hz2 => ?_)
  obtain ⟨f1, rfl⟩ := hz2
  rw [hq.e44] at f1 ⊢
  exact ask6 h ⟨by omega, hM⟩ e1 e2 hq f1
theorem s_wouldRefuse {Γ : Ga} {l : Launch} {ω : Wo} {M : Int} (hsl : l.stackTraces = false) (h : INV M ω) (hM : M + 70000 ≤ 100000000) {a : Int} (ha : Rg a) : CW Γ l yL_wouldRefuse cL_wouldRefuse 4 [(0, 9, 12, 48)] 21 1 [.ref (rl Γ 0), .int (iI a), .ref (rl Γ 252)] ω (fun z W => CI Γ l yX9_wouldRefuse cX9_wouldRefuse 2 .int 5 [.ref (rl Γ 243), .int (iI a)] W (fun z2 W2 => Ag (M + 70000) z z2 W2)) := by
  refine (w_wouldRefuse (by decide) (c_X8_wouldRefuse hsl h.cr h.st h.ri h.wi ha) (fun E ω1 hE => ?_)).mono (fun z W hz => ?_)
  · exact hE.2.1
  have hq : Qs ω W ∧ z = (qRefuse (ω.1 244) a).1 ∧ (z = 0 → W.1 252 0 = (qRefuse (ω.1 244) a).2) := by
    rcases hz with ⟨rfl, v, ω1, hv, ⟨p1, p2, p3⟩, rfl⟩ | ⟨rfl, p1, p2, p3⟩
    · exact ⟨(Qs.ofF p3).w252 v, p2.symm, fun _ => wi0.trans p1⟩
    · exact ⟨Qs.of p1, p3.symm, fun q => absurd q (by decide)⟩
  obtain ⟨hq, e1, e2⟩ := hq
  have hi := h.qs hq ⟨(by omega : M ≤ M + 70000), hM⟩
  refine (c_X9_wouldRefuse hi.wm hi.ri ha hi.wi.2.1).mono (fun z2 W2 hz2 => ?_)
  obtain ⟨f1, rfl⟩ := hz2
  rw [hq.e44] at f1 ⊢
  exact ask6 h ⟨by omega, hM⟩ e1 e2 hq f1
theorem s_least {Γ : Ga} {l : Launch} {ω : Wo} {M : Int} (hsl : l.stackTraces = false) (h : INV M ω) (hM : M + 70000 ≤ 100000000) {a : Int} (ha : Rg a) : CW Γ l yL_least cL_least 4 [(0, 9, 12, 59)] 21 1 [.ref (rl Γ 0), .int (iI a), .ref (rl Γ 252)] ω (fun z W => CI Γ l yX9_least cX9_least 5 .int 2 [.ref (rl Γ 243), .int (iI a)] W (fun z2 W2 => Ag (M + 70000) z z2 W2)) := by
  refine (w_least (by decide) (c_X8_least hsl h.cr h.st h.ri h.wi ha) (fun E ω1 hE => ?_)).mono (fun z W hz => ?_)
  · exact hE.2.1
  have hq : Qs ω W ∧ z = (qLeast (ω.1 244) a).1 ∧ (z = 0 → W.1 252 0 = (qLeast (ω.1 244) a).2) := by
    rcases hz with ⟨rfl, v, ω1, hv, ⟨p1, p2, p3⟩, rfl⟩ | ⟨rfl, p1, p2, p3⟩
    · exact ⟨(Qs.of p3).w252 v, p2.symm, fun _ => wi0.trans p1⟩
    · exact ⟨Qs.of p1, p3.symm, fun q => absurd q (by decide)⟩
  obtain ⟨hq, e1, e2⟩ := hq
  have hi := h.qs hq ⟨(by omega : M ≤ M + 70000), hM⟩
  refine (c_X9_least hi.wm hi.ri ha).mono (fun z2 W2 hz2 => ?_)
  obtain ⟨f1, rfl⟩ := hz2
  rw [hq.e44] at f1 ⊢
  exact ask6 h ⟨by omega, hM⟩ e1 e2 hq f1
theorem s_busiest {Γ : Ga} {l : Launch} {ω : Wo} {M : Int} (hsl : l.stackTraces = false) (h : INV M ω) (hM : M + 70000 ≤ 100000000) {a : Int} (ha : Rg a) : CW Γ l yL_busiest cL_busiest 4 [(0, 9, 12, 59)] 21 1 [.ref (rl Γ 0), .int (iI a), .ref (rl Γ 252)] ω (fun z W => CI Γ l yX9_busiest cX9_busiest 5 .int 2 [.ref (rl Γ 243), .int (iI a)] W (fun z2 W2 => Ag (M + 70000) z z2 W2)) := by
  refine (w_busiest (by decide) (c_X8_busiest hsl h.cr h.st h.ri h.wi ha) (fun E ω1 hE => ?_)).mono (fun z W hz => ?_)
  · exact hE.2.1
  have hq : Qs ω W ∧ z = (qBusy (ω.1 244) a).1 ∧ (z = 0 → W.1 252 0 = (qBusy (ω.1 244) a).2) := by
    rcases hz with ⟨rfl, v, ω1, hv, ⟨p1, p2, p3⟩, rfl⟩ | ⟨rfl, p1, p2, p3⟩
    · exact ⟨(Qs.of p3).w252 v, p2.symm, fun _ => wi0.trans p1⟩
    · exact ⟨Qs.of p1, p3.symm, fun q => absurd q (by decide)⟩
  obtain ⟨hq, e1, e2⟩ := hq
  have hi := h.qs hq ⟨(by omega : M ≤ M + 70000), hM⟩
  refine (c_X9_busiest hi.wm hi.ri ha).mono (fun z2 W2 hz2 => ?_)
  obtain ⟨f1, rfl⟩ := hz2
  rw [hq.e44] at f1 ⊢
  exact ask6 h ⟨by omega, hM⟩ e1 e2 hq f1
