/-! more questions -/
theorem CD.mono {Γ : Ga} {l : Launch} {y : MethodName} {bytes : ByteArray} {maxL : Nat} {rt : FieldType} {d : Nat} {as : List Value} {ω : Wo} {Po Po' : UInt64 → Wo → Prop} (h : CD Γ l y bytes maxL rt d as ω Po) (hp : ∀ z w, Po z w → Po' z w) : CD Γ l y bytes maxL rt d as ω Po' := by
  unfold CD Met at h ⊢
  refine MetFree.mono h (fun _ _ h => h) (fun _ _ _ _ _ h => h) (fun _ _ _ _ _ hq => ⟨?_, hq.2⟩)
  obtain ⟨⟨⟨r, u, e1, e4, e5⟩, e6⟩, -⟩ := hq
  exact ⟨⟨r, u, e1, hp r u e4, e5⟩, e6⟩
theorem CF.mono {Γ : Ga} {l : Launch} {y : MethodName} {bytes : ByteArray} {maxL : Nat} {rt : FieldType} {d : Nat} {as : List Value} {ω : Wo} {Po Po' : UInt32 → Wo → Prop} (h : CF Γ l y bytes maxL rt d as ω Po) (hp : ∀ z w, Po z w → Po' z w) : CF Γ l y bytes maxL rt d as ω Po' := by
  unfold CF Met at h ⊢
  refine MetFree.mono h (fun _ _ h => h) (fun _ _ _ _ _ h => h) (fun _ _ _ _ _ hq => ⟨?_, hq.2⟩)
  obtain ⟨⟨⟨r, u, e1, e4, e5⟩, e6⟩, -⟩ := hq
  exact ⟨⟨r, u, e1, hp r u e4, e5⟩, e6⟩
theorem INV.fr {M M' : Int} {ω W : Wo} (h : INV M ω) (hM : M ≤ M' ∧ M' ≤ 100000000)
    (q1 : ∀ x, x ≠ 67 ∧ x ≠ 68 ∧ x ≠ 69 ∧ x ≠ 73 ∧ x ≠ 74 ∧ x ≠ 243 ∧ x ≠ 246 ∧ x ≠ 249 ∧ x ≠ 251 ∧ x ≠ 252 ∧ (x < 22 ∨ 43 ≤ x) → W.1 x = ω.1 x) (q2 : ∀ y, y ≠ 6 → y ≠ 15 → y ≠ 19 → W.1 243 y = ω.1 243 y) (q3 : ∀ x, x ≠ 25 → W.2.1 x = ω.2.1 x) (q4 : QR W 22) (q5 : z11 (W.1 246)) (t : TPr W) (n : LNr W) : INV M' W := by
  have e44 := q1 244 (by omega)
  have hcc := h.ri.cc
  refine ⟨⟨?_, ?_⟩, ⟨?_, ?_, ?_⟩, ?_, ?_, q4, ?_, ?_, t, n, ?_⟩
  · have := h.wm; unfold WM at this ⊢; rw [q3 243 (by decide)]; exact this
  · have := h.cr; unfold CR at this ⊢; rw [q3 0 (by decide), q3 68 (by decide), q3 73 (by decide)]; exact this
  · rw [e44]; exact h.st.fr hcc (fun x _ _ => q1 x (by omega)) (fun x _ _ => q3 x (by omega))
  · rw [e44]; exact h.ri.le hM.1 hM.2
  · rw [e44]; exact h.wi
  · obtain ⟨n, hh, p1, p2, p3⟩ := h.pa
    exact ⟨n, hh, p1.of hM (congrFun (q1 0 (by omega)) 5) (fun x _ _ => q1 x (by omega)) (fun x _ => q3 x (by omega)), (q2 5 (by decide) (by decide) (by decide)).trans p2, fun j hj y hy => by rw [q1 248 (by omega)]; exact p3 j hj y hy⟩
  · obtain ⟨s1, s2, s3, s4⟩ := h.sv
    have e12 := q2 12 (by decide) (by decide) (by decide)
    refine ⟨by rw [q1 0 (by omega), e12]; exact s1, fun hn => ?_, qr_of (fun x _ _ => q3 x (by omega)) s3, by rw [e12]; exact s4⟩
    rw [e12] at hn
    obtain ⟨t1, t2, t3⟩ := s2 hn
    rw [q1 247 (by omega)]
    exact ⟨t1.fr t2.cc (fun x _ _ => q1 x (by omega)) (fun x _ _ => q3 x (by omega)), t2.le hM.1 hM.2, t3⟩
  · obtain ⟨r1, r2, r3, r4⟩ := h.rf
    unfold RFr
    rw [q1 65 (by omega), q1 66 (by omega), q2 7 (by decide) (by decide) (by decide), q2 8 (by decide) (by decide) (by decide), q2 9 (by decide) (by decide) (by decide), q2 10 (by decide) (by decide) (by decide)]
    exact ⟨r1, r2, r3, r4⟩
  · rw [q1 0 (by omega), q2 11 (by decide) (by decide) (by decide)]; exact h.ft
  · obtain ⟨z1, z2, z3⟩ := h.z
    exact ⟨by rw [q1 245 (by omega)]; exact z1, q5, by rw [q1 247 (by omega)]; exact z3⟩
theorem TPr.of {ω W : Wo} (h : TPr ω) (h1 : W.1 68 = ω.1 68) (h2 : W.1 69 = ω.1 69) (h3 : W.1 249 = ω.1 249) (h4 : W.1 243 15 = ω.1 243 15) : TPr W := by
  unfold TPr at h ⊢; rw [h1, h2, h3, h4]; exact h
theorem LNr.of {ω W : Wo} (h : LNr ω) (h1 : W.1 73 = ω.1 73) (h2 : W.1 74 = ω.1 74) (h3 : W.1 251 = ω.1 251) (h4 : W.1 243 19 = ω.1 243 19) : LNr W := by
  obtain ⟨l, l1, l2, l3, l4⟩ := h
  exact ⟨l, l1, l2.of h1 h2, by rw [h4]; exact l3, by rw [h3]; exact l4⟩
theorem d_self {x : UInt64} (h : FP.Core.dIsNaN x = false) : FP.dcmp x x = some .eq := by
  have h1 := (FP.Core.notNaN_iff x).mp h
  show FP.Core.order (FP.Core.decode FP.Core.b64 x.toNat) (FP.Core.decode FP.Core.b64 x.toNat) = some .eq
  have h2 : FP.Core.decode FP.Core.b64 x.toNat ≠ .nan := h1
  cases e : FP.Core.decode FP.Core.b64 x.toNat with
  | nan => exact absurd e h2
  | inf s => simp [FP.Core.order]
  | fin s c q => simp [FP.Core.order]
theorem mean_self {a b : Int} (hb : iI b ≠ 0) : FP.dcmp (meanV a b) (meanV a b) = some .eq := d_self (mean_out _ _ hb)
theorem share_d {a b : Int} (hb : iI b ≠ 0) : FP.Core.dIsNaN (FP.f2d (shareV a b)) = false := by
  have h1 : FP.Core.fIsNaN (shareV a b) = false := share_out _ _ hb
  unfold FP.f2d
  rw [h1]
  exact FP.Core.f2d_out h1
theorem Qs.wd {ω W : Wo} (h : Qs ω W) (v : UInt64) : Qs ω (wd W v) := h.tr ⟨fun _ _ _ _ _ _ => rfl, fun _ _ => rfl, fun _ _ => rfl, fun q => q, fun q _ => q⟩
theorem s_callableIn {Γ : Ga} {l : Launch} {ω : Wo} {M : Int} (hsl : l.stackTraces = false) (h : INV M ω) (hM : M + 70000 ≤ 100000000) {a : Int} (ha : Rg a) : CW Γ l yL_callableIn cL_callableIn 4 [(0, 9, 12, 48), (0, 9, 15, 59)] 21 2 [.ref (rl Γ 0), .int (iI a), .ref (rl Γ 252)] ω (fun z W => CI Γ l yX9_callableIn cX9_callableIn 4 .int 5 [.ref (rl Γ 243), .int (iI a)] W (fun z2 W2 => Ag (M + 70000) z z2 W2)) := by
  refine (w_callableIn (by decide) (c_X8_callableIn hsl h.cr h.st h.ri h.wi ha (by omega) h.q22) (fun E ω1 hE => ?_)).mono (fun z W hz => ?_)
  · exact hE.2.2.elim (fun q => Or.inl q.1) (fun q => Or.inr q.1)
  have hq : Qs ω W ∧ z = (qCallable (ω.1 244) a).1 ∧ (z = 0 → W.1 252 0 = (qCallable (ω.1 244) a).2) := by
    rcases hz with ⟨rfl, v, ω1, hv, ⟨p1, p2, p3⟩, rfl⟩ | ⟨rfl, p1, p3, p2⟩ | ⟨rfl, p1, p3, p2⟩
    · exact ⟨(Qs.ofK p3).w252 v, p2.symm, fun _ => wi0.trans p1⟩
    · exact ⟨Qs.kc p1 p3, (p2.elim (fun q => q.2) (fun q => absurd q.1 ne_in)).symm, fun q => absurd q (by decide)⟩
    · exact ⟨Qs.kc p1 p3, (p2.elim (fun q => absurd q.1 ne_in.symm) (fun q => q.2)).symm, fun q => absurd q (by decide)⟩
  obtain ⟨hq, e1, e2⟩ := hq
  have hi := h.qs hq ⟨Int.le_refl M, (by omega : M ≤ 100000000)⟩
  have e44 := hq.e44
  refine (c_X9_callableIn hi.wm hi.ri ha hi.wi.1 hi.wi.2.1 (by omega) hi.z.2.1).mono (fun z2 W2 hz2 => ?_)
  obtain ⟨f1, f2⟩ := hz2
  rw [e44] at f1
  rw [← e44] at e1 e2 f1
  by_cases hr : 0 ≤ a ∧ a ≤ (W.1 244) 2 - 1
  · rw [if_neg (not_not_intro hr)] at f2; subst f2
    exact ask h ⟨by omega, hM⟩ e1 e2 hq f1 (Qs.m46 _) (by rw [wf_same, up_same]) ((wf_ne _ _ (by decide)).trans (wf_ne _ _ (by decide)))
  · rw [if_pos hr] at f2; subst f2
    have e9 : (qCallable (W.1 244) a).1 = 1 := by unfold qCallable; rw [if_pos hr]
    exact ask h ⟨by omega, hM⟩ e1 e2 hq f1 (Qs.m6 _) (by rw [wf_same, up_same, e9]) (wf_ne _ _ (by decide))
theorem s_homeIn {Γ : Ga} {l : Launch} {ω : Wo} {M : Int} (hsl : l.stackTraces = false) (h : INV M ω) (hM : M + 70000 ≤ 100000000) {a : Int} (ha : Rg a) : CW Γ l yL_homeIn cL_homeIn 4 [(0, 9, 12, 48), (0, 9, 15, 59)] 21 2 [.ref (rl Γ 0), .int (iI a), .ref (rl Γ 252)] ω (fun z W => CI Γ l yX9_homeIn cX9_homeIn 3 .int 5 [.ref (rl Γ 243), .int (iI a)] W (fun z2 W2 => Ag (M + 70000) z z2 W2)) := by
  refine (w_homeIn (by decide) (c_X8_homeIn hsl h.cr h.st h.ri h.wi ha (by omega) h.q22) (fun E ω1 hE => ?_)).mono (fun z W hz => ?_)
  · exact hE.2.2.elim (fun q => Or.inl q.1) (fun q => Or.inr q.1)
  have hq : Qs ω W ∧ z = (qHome (ω.1 244) a).1 ∧ (z = 0 → W.1 252 0 = (qHome (ω.1 244) a).2) := by
    rcases hz with ⟨rfl, v, ω1, hv, ⟨p1, p2, p3⟩, rfl⟩ | ⟨rfl, p1, p3, p2⟩ | ⟨rfl, p1, p3, p2⟩
    · exact ⟨(Qs.ofK p3).w252 v, p2.symm, fun _ => wi0.trans p1⟩
    · exact ⟨Qs.kc p1 p3, (p2.elim (fun q => q.2) (fun q => absurd q.1 ne_in)).symm, fun q => absurd q (by decide)⟩
    · exact ⟨Qs.kc p1 p3, (p2.elim (fun q => absurd q.1 ne_in.symm) (fun q => q.2)).symm, fun q => absurd q (by decide)⟩
  obtain ⟨hq, e1, e2⟩ := hq
  have hi := h.qs hq ⟨Int.le_refl M, (by omega : M ≤ 100000000)⟩
  have e44 := hq.e44
  refine (c_X9_homeIn hi.wm hi.ri ha hi.wi.1 (by omega) (fun g => home_hh hi.ri (by omega) g) hi.z.2.1).mono (fun z2 W2 hz2 => ?_)
  obtain ⟨f1, f2⟩ := hz2
  rw [e44] at f1
  rw [← e44] at e1 e2 f1
  by_cases hr : 0 ≤ a ∧ a ≤ (W.1 244) 2 - 1
  · rw [if_neg (not_not_intro hr)] at f2
    by_cases h0 : sB (W.1 244) a 2 = 0
    · rw [if_pos h0] at f2; subst f2
      have e9 : (qHome (W.1 244) a).1 = 2 := by unfold qHome; rw [if_neg (not_not_intro hr), if_pos h0]
      exact ask h ⟨by omega, hM⟩ e1 e2 hq f1 (Qs.m6 _) (by rw [wf_same, up_same, e9]) (wf_ne _ _ (by decide))
    · rw [if_neg h0] at f2; subst f2
      have e9 : (qHome (W.1 244) a).1 = 0 := by unfold qHome; rw [if_neg (not_not_intro hr), if_neg h0]
      exact ask h ⟨by omega, hM⟩ e1 e2 hq f1 (Qs.m46 _) (by rw [wf_same, up_same, e9]) ((wf_ne _ _ (by decide)).trans (wf_ne _ _ (by decide)))
  · rw [if_pos hr] at f2; subst f2
    have e9 : (qHome (W.1 244) a).1 = 1 := by unfold qHome; rw [if_pos hr]
    exact ask h ⟨by omega, hM⟩ e1 e2 hq f1 (Qs.m6 _) (by rw [wf_same, up_same, e9]) (wf_ne _ _ (by decide))
theorem s_homeInAgain {Γ : Ga} {l : Launch} {ω : Wo} {M : Int} (hsl : l.stackTraces = false) (h : INV M ω) (hM : M + 70000 ≤ 100000000) {a : Int} (ha : Rg a) : CW Γ l yL_homeInAgain cL_homeInAgain 4 [(0, 9, 12, 48), (0, 9, 15, 59)] 21 2 [.ref (rl Γ 0), .int (iI a), .ref (rl Γ 252)] ω (fun z W => CI Γ l yX9_homeInAgain cX9_homeInAgain 2 .int 6 [.ref (rl Γ 243), .int (iI a)] W (fun z2 W2 => Ag (M + 70000) z z2 W2)) := by
  refine (w_homeInAgain (by decide) (c_X8_homeInAgain hsl h.cr h.st h.ri h.wi ha (by omega)) (fun E ω1 hE => ?_)).mono (fun z W hz => ?_)
  · exact hE.2.elim (fun q => Or.inl q.1) (fun q => Or.inr q.1)
  have hq : Qs ω W ∧ z = (qHome (ω.1 244) a).1 ∧ (z = 0 → W.1 252 0 = (qHome (ω.1 244) a).2) := by
    rcases hz with ⟨rfl, v, ω1, hv, ⟨p1, p2, p3⟩, rfl⟩ | ⟨rfl, p1, p2⟩ | ⟨rfl, p1, p2⟩
    · exact ⟨(Qs.of p3).w252 v, p2.symm, fun _ => wi0.trans p1⟩
    · exact ⟨Qs.of p1, (p2.elim (fun q => q.2) (fun q => absurd q.1 ne_in)).symm, fun q => absurd q (by decide)⟩
    · exact ⟨Qs.of p1, (p2.elim (fun q => absurd q.1 ne_in.symm) (fun q => q.2)).symm, fun q => absurd q (by decide)⟩
  obtain ⟨hq, e1, e2⟩ := hq
  have hi := h.qs hq ⟨Int.le_refl M, (by omega : M ≤ 100000000)⟩
  have e44 := hq.e44
  refine (c_X9_homeInAgain hi.wm hi.ri ha hi.wi.1 (by omega) (fun g => home_hh hi.ri (by omega) g) hi.z.2.1).mono (fun z2 W2 hz2 => ?_)
  obtain ⟨f1, f2⟩ := hz2
  rw [e44] at f1
  rw [← e44] at e1 e2 f1
  by_cases hr : 0 ≤ a ∧ a ≤ (W.1 244) 2 - 1
  · rw [if_neg (not_not_intro hr)] at f2
    by_cases h0 : sB (W.1 244) a 2 = 0
    · rw [if_pos h0] at f2; subst f2
      have e9 : (qHome (W.1 244) a).1 = 2 := by unfold qHome; rw [if_neg (not_not_intro hr), if_pos h0]
      exact ask h ⟨by omega, hM⟩ e1 e2 hq f1 (Qs.m6 _) (by rw [wf_same, up_same, e9]) (wf_ne _ _ (by decide))
    · rw [if_neg h0] at f2; subst f2
      have e9 : (qHome (W.1 244) a).1 = 0 := by unfold qHome; rw [if_neg (not_not_intro hr), if_neg h0]
      exact ask h ⟨by omega, hM⟩ e1 e2 hq f1 (Qs.m46 _) (by rw [wf_same, up_same, e9]) ((wf_ne _ _ (by decide)).trans (wf_ne _ _ (by decide)))
  · rw [if_pos hr] at f2; subst f2
    have e9 : (qHome (W.1 244) a).1 = 1 := by unfold qHome; rw [if_pos hr]
    exact ask h ⟨by omega, hM⟩ e1 e2 hq f1 (Qs.m6 _) (by rw [wf_same, up_same, e9]) (wf_ne _ _ (by decide))
theorem s_reason {Γ : Ga} {l : Launch} {ω : Wo} {M : Int} (hsl : l.stackTraces = false) (h : INV M ω) (hM : M + 70000 ≤ 100000000) {p0 q0 : Prop} [Decidable p0] [Decidable q0] : CW Γ l yL_reason cL_reason 5 [(0, 10, 13, 59)] 21 1 [.ref (rl Γ 0), .int (iI (bI p0)), .int (iI (bI q0)), .ref (rl Γ 252)] ω (fun z W => CI Γ l yX9_reason cX9_reason 3 .int 1 [.ref (rl Γ 243), .int (iI (bI p0)), .int (iI (bI q0))] W (fun z2 W2 => Ag (M + 70000) z z2 W2)) := by
  refine (w_reason (by decide) (c_X8_reason hsl h.cr h.st h.ri h.wi) (fun E ω1 hE => hE.2.1)).mono (fun z W hz => ?_)
  obtain ⟨r1, r2, r3, r4⟩ := h.rf
  have hq : Qs ω W ∧ z = (qReason (ω.1 243) p0 q0).1 ∧ (z = 0 → W.1 252 0 = (qReason (ω.1 243) p0 q0).2) := by
    rcases hz with ⟨rfl, v, ω1, hv, ⟨p1, p2, p3⟩, rfl⟩ | ⟨rfl, p1, p2, p3, p4⟩
    · have e9 : qReason (ω.1 243) p0 q0 = (0, v) := by
        unfold qReason
        by_cases hp : p0
        · obtain ⟨a1, a2⟩ := p1 hp
          rw [if_pos hp, ← r3, if_neg a1, ← r4 a1, a2]
        · obtain ⟨a1, a2⟩ := p2 hp
          rw [if_neg hp, ← r1, if_neg a1, ← r2, a2]
      rw [e9]
      exact ⟨(Qs.of p3).w252 v, rfl, fun _ => wi0⟩
    · have e9 : qReason (ω.1 243) p0 q0 = (1, 0) := by
        unfold qReason
        by_cases hp : p0
        · rw [if_pos hp, ← r3, if_pos (p3 hp)]
        · rw [if_neg hp, ← r1, if_pos (p4 hp)]
      rw [e9]
      exact ⟨Qs.of p1, rfl, fun q => absurd q (by decide)⟩
  obtain ⟨hq, e1, e2⟩ := hq
  have hi := h.qs hq ⟨(by omega : M ≤ M + 70000), hM⟩
  refine (c_X9_reason hi.wm).mono (fun z2 W2 hz2 => ?_)
  obtain ⟨f1, rfl⟩ := hz2
  have g : qReason (W.1 243) p0 q0 = qReason (ω.1 243) p0 q0 := by
    unfold qReason
    rw [hq.2.1 7 (by decide), hq.2.1 8 (by decide), hq.2.1 9 (by decide), hq.2.1 10 (by decide)]
  rw [g] at f1 ⊢
  exact ask6 h ⟨by omega, hM⟩ e1 e2 hq f1
theorem s_character {Γ : Ga} {l : Launch} {ω : Wo} {M : Int} (hsl : l.stackTraces = false) (h : INV M ω) (hM : M + 70000 ≤ 100000000) {a : Int} (ha : Rg a) : CW Γ l yL_character cL_character 4 [(0, 9, 12, 48)] 21 1 [.ref (rl Γ 0), .int (iI a), .ref (rl Γ 252)] ω (fun z W => CI Γ l yX9_character cX9_character 2 .char 1 [.ref (rl Γ 243), .int (iI a)] W (fun z2 W2 => Ag (M + 70000) z z2 W2)) := by
  obtain ⟨l, l1, l2, l3, l4⟩ := h.ln
  refine (w_character (by decide) (c_X8_character hsl h.cr h.st h.ri h.wi ha l2 l1) (fun E ω1 hE => hE.2.1)).mono (fun z W hz => ?_)
  have e51 : ∀ k : Nat, k < l.length → ω.1 251 k = ω.1 74 k ∧ 0 ≤ ω.1 251 k ∧ ω.1 251 k < 128 := by
    intro k hk
    have e := List.getElem?_eq_getElem hk
    have e1 := l4 k _ e
    have e2 := l2.2.2.1 k _ e
    have e3 := l2.2.2.2 l[k] (List.getElem_mem hk)
    omega
  have hq : Qs ω W ∧ z = (if 0 ≤ a ∧ a ≤ (l.length : Int) - 1 then 0 else 1) ∧ (z = 0 → W.1 252 0 = (if 0 ≤ a ∧ a ≤ (l.length : Int) - 1 then ω.1 251 a.toNat else 0)) := by
    rcases hz with ⟨rfl, v, ω1, hv, ⟨p1, p2, p3⟩, rfl⟩ | ⟨rfl, p1, p2, p3⟩
    · rw [if_pos (by omega), if_pos (by omega), (e51 a.toNat (by omega)).1, ← p2]
      exact ⟨(Qs.of p3).w252 v, rfl, fun _ => wi0⟩
    · rw [if_neg (by omega)]
      exact ⟨Qs.of p1, rfl, fun q => absurd q (by decide)⟩
  obtain ⟨hq, e1, e2⟩ := hq
  have hi := h.qs hq ⟨(by omega : M ≤ M + 70000), hM⟩
  have e251 : W.1 251 = ω.1 251 := hq.1 251 (by decide) (by decide) (by decide) (by decide) (by omega)
  have h19 : W.1 243 19 = (l.length : Int) := (hq.2.1 19 (by decide)).trans l3
  refine (c_X9_character hi.wm ha h19 (by omega) (fun y hy => by rw [e251]; have := e51 y hy; omega)).mono (fun z2 W2 hz2 => ?_)
  obtain ⟨f1, rfl⟩ := hz2
  rw [e251] at f1
  exact ask6 (q := (if 0 ≤ a ∧ a ≤ (l.length : Int) - 1 then 0 else 1, if 0 ≤ a ∧ a ≤ (l.length : Int) - 1 then ω.1 251 a.toNat else 0)) h ⟨by omega, hM⟩ e1 e2 hq f1
theorem lineL_16 {s : Row} {b : Nat} (h : WI s) (hb : b < cB s) : (lineL s b).length ≤ 16 := by
  have := crewL_8 h hb
  unfold lineL
  split <;> simp <;> omega
theorem s_line {Γ : Ga} {l : Launch} {ω : Wo} {M : Int} (hsl : l.stackTraces = false) (h : INV M ω) (hM : M + 70000 ≤ 100000000) {a : Int} (ha : Rg a) : CW Γ l yL_line cL_line 4 [(0, 9, 12, 48)] 21 1 [.ref (rl Γ 0), .int (iI a), .ref (rl Γ 252)] ω (fun z W => CI Γ l yX9_line cX9_line 3 .int 2 [.ref (rl Γ 243), .int (iI a)] W (fun z2 W2 => Ag (M + 70000) z z2 W2)) := by
  obtain ⟨l0, l1, l2, l3, l4⟩ := h.ln
  have gc := h.ri.c
  refine (w_line (by decide) (c_X8_line hsl h.cr h.st h.ri h.wi ha l2) (fun E ω1 hE => hE.2.1)).mono (fun z W hz => ?_)
  rcases hz with ⟨rfl, v, ω1, hv, ⟨p1, p2, p3, p4⟩, rfl⟩ | ⟨rfl, p1, p2, p3⟩
  · have e1 : ∀ x, x ≠ 73 → x ≠ 74 → x ≠ 252 → (wi ω1 252 0 v).1 x = ω.1 x := fun x a1 a2 a3 => (wi_ne a3).trans (p4.1 x a1 a2)
    have e2 : (wi ω1 252 0 v).2 = ω.2 := p4.2
    have e44 := e1 244 (by decide) (by decide) (by decide)
    have hwm : WM (wi ω1 252 0 v).2.1 := by rw [e2]; exact h.wm
    refine (c_X9_line hwm (M := M) (by rw [e44]; exact h.ri) ha).mono (fun z2 W2 hz2 => ?_)
    rcases hz2 with ⟨q1, -, -⟩ | ⟨q1, o, q2, q3, q4⟩
    · rw [e44] at q1; exact absurd p1 q1
    rw [e44] at q2 q3 q4
    have e43 : (wi ω1 252 0 v).1 243 = ω.1 243 := e1 243 (by decide) (by decide) (by decide)
    rw [e43] at q4
    have hx : ∀ x, x ≠ 73 → x ≠ 74 → x ≠ 252 → x ≠ 243 → x ≠ 251 → W2.1 x = ω.1 x := fun x a1 a2 a3 a4 a5 => by
      rw [q4]; exact (wf_ne _ _ a5).trans ((wf_ne _ _ a4).trans (e1 x a1 a2 a3))
    have h52 : W2.1 252 = (wi ω1 252 0 v).1 252 := by rw [q4]; exact (wf_ne _ _ (by decide)).trans (wf_ne _ _ (by decide))
    have hr2 : W2.2 = ω.2 := by rw [q4]; exact e2
    have h43 : W2.1 243 = up (up (ω.1 243) 6 0) 19 ((lineL (ω.1 244) a).length : Int) := by rw [q4]; exact (wf_ne _ _ (by decide)).trans (wf_same _ _ _)
    have h51 : W2.1 251 = o := by rw [q4]; exact wf_same _ _ _
    have h73 : W2.1 73 = ω1.1 73 := by rw [q4]; exact ((wf_ne _ _ (by decide)).trans (wf_ne _ _ (by decide))).trans (wi_ne (by decide))
    have h74 : W2.1 74 = ω1.1 74 := by rw [q4]; exact ((wf_ne _ _ (by decide)).trans (wf_ne _ _ (by decide))).trans (wi_ne (by decide))
    obtain ⟨b, rfl⟩ := Int.eq_ofNat_of_zero_le p1.1
    have hinv : INV (M + 70000) W2 := by
      refine h.fr ⟨by omega, hM⟩ (fun x hx9 => hx x (by omega) (by omega) (by omega) (by omega) (by omega)) (fun y y1 y2 y3 => by rw [h43, up_ne _ _ y3, up_ne _ _ y1]) (fun x _ => by rw [hr2]) ?_ ?_ ?_ ?_
      · have := h.q22; unfold QR at this ⊢; rw [hr2]; exact this
      · rw [hx 246 (by decide) (by decide) (by decide) (by decide) (by decide)]; exact h.z.2.1
      · exact h.tp.of (hx 68 (by decide) (by decide) (by decide) (by decide) (by decide)) (hx 69 (by decide) (by decide) (by decide) (by decide) (by decide)) (hx 249 (by decide) (by decide) (by decide) (by decide) (by decide)) (by rw [h43, up_ne _ _ (by decide), up_ne _ _ (by decide)])
      · exact ⟨_, lineL_16 h.wi (by omega), p3.of h73 h74, by rw [h43, up_same], by rw [h51]; exact q2⟩
    exact ⟨hinv.wm, by rw [h43, up_ne _ _ (by decide), up_same], fun _ => by rw [h52, wi0, p2, q3], hinv⟩
  · have hq : Qs ω W := Qs.of p1
    subst p1
    refine (c_X9_line h.wm h.ri ha).mono (fun z2 W2 hz2 => ?_)
    rcases hz2 with ⟨q1, q2, q3⟩ | ⟨q1, -⟩
    · subst q3
      exact ask6 (q := (1, 0)) h ⟨by omega, hM⟩ rfl (fun q => absurd q (by decide)) hq q2
    · exact absurd q1 p3
theorem s_meanWeariness {Γ : Ga} {l : Launch} {ω : Wo} {M : Int} (hsl : l.stackTraces = false) (h : INV M ω) (hM : M + 70000 ≤ 100000000) : CW Γ l yL_meanWeariness cL_meanWeariness 3 [(0, 7, 10, 113)] 21 1 [.ref (rl Γ 0), .ref (rl Γ 253)] ω (fun z W => CD Γ l yX9_meanWeariness cX9_meanWeariness 3 .double 2 [.ref (rl Γ 243)] W (fun z2 W2 => WM W2.2.1 ∧ W2.1 243 6 = z ∧ (z = 0 → W2.2.2 = z2 ∧ FP.dcmp z2 z2 = some .eq) ∧ INV (M + 70000) W2)) := by
  have gs := stayUp_rg (ω.1 244) (cM (ω.1 244))
  have gc := h.ri.c
  refine (w_meanWeariness (by decide) (c_X8_meanWeariness hsl h.cr h.st h.ri h.wi) (fun E ω1 hE => hE.1)).mono (fun z W hz => ?_)
  rcases hz with ⟨rfl, v, ω1, ⟨p1, p2, p3⟩, rfl⟩ | ⟨rfl, p1, p2, p3⟩
  · subst p3
    have hq : Qs ω (wd ω v) := (Qs.rf ω).wd v
    have hi := h.qs hq ⟨(by omega : M ≤ M + 70000), hM⟩
    refine (c_X9_meanWeariness hi.wm hi.ri).mono (fun z2 W2 hz2 => ?_)
    obtain ⟨rfl, f2⟩ := hz2
    have hi2 := h.qs (hq.tr (Qs.m6 (if stayN (ω.1 244) = 0 then 1 else 0))) ⟨(by omega : M ≤ M + 70000), hM⟩
    have e9 : z2 = v := (f2 p1).trans p2.symm
    refine ⟨hi2.wm, by rw [wf_same, up_same]; exact if_neg p1, fun _ => ⟨e9.symm, ?_⟩, hi2⟩
    rw [e9, p2]
    exact mean_self (iI_nz (by have : stayN (ω.1 244) = stayUp (ω.1 244) (cM (ω.1 244)) := rfl; omega))
  · subst p3
    refine (c_X9_meanWeariness h.wm h.ri).mono (fun z2 W2 hz2 => ?_)
    obtain ⟨rfl, f2⟩ := hz2
    have hi2 := h.qs (Qs.m6 (if stayN (ω.1 244) = 0 then 1 else 0)) ⟨(by omega : M ≤ M + 70000), hM⟩
    exact ⟨hi2.wm, by rw [wf_same, up_same]; exact if_pos p2, fun q => absurd q (by decide), hi2⟩
theorem s_append {Γ : Ga} {l : Launch} {ω : Wo} {M : Int} (hsl : l.stackTraces = false) (h : INV M ω) (hM : M + 70000 ≤ 100000000) {a : Int} (ha : 0 ≤ a ∧ a < 65536) : CW Γ l yL_append cL_append 4 [(0, 9, 12, 92)] 21 1 [.ref (rl Γ 0), .int (iI a), .ref (rl Γ 252)] ω (fun z W => CI Γ l yX9_append cX9_append 2 .int 1 [.ref (rl Γ 243), .int (iI a)] W (fun z2 W2 => Ag (M + 70000) z z2 W2)) := by
  obtain ⟨n, t1, t2, t3, t5⟩ := h.tp
  refine (w_append (by decide) (c_X8_append hsl h.cr h.st h.ri h.wi t2 t1 ha) (fun E ω1 hE => hE.2.1)).mono (fun z W hz => ?_)
  rcases hz with ⟨rfl, v, ω1, hv, ⟨p1, p2, p3⟩, rfl⟩ | ⟨rfl, p1, p2, p3⟩
  · subst p3
    have e1 : ∀ x, x ≠ 68 → x ≠ 69 → x ≠ 252 → (wi (wi (wi ω 69 n a) 68 1 ((n : Int) + 1)) 252 0 v).1 x = ω.1 x := fun x a1 a2 a3 => (wi_ne a3).trans ((wi_ne a1).trans (wi_ne a2))
    have e68 : (wi (wi (wi ω 69 n a) 68 1 ((n : Int) + 1)) 252 0 v).1 68 = up (ω.1 68) 1 ((n : Int) + 1) := by
      rw [wi_ne (by decide), wi_wf, wf_same, wi_ne (by decide)]
    have e69 : (wi (wi (wi ω 69 n a) 68 1 ((n : Int) + 1)) 252 0 v).1 69 = up (ω.1 69) n a := by
      rw [wi_ne (by decide), wi_ne (by decide), wi_wf, wf_same]
    have e52 : (wi (wi (wi ω 69 n a) 68 1 ((n : Int) + 1)) 252 0 v).1 252 0 = v := wi0
    have e2 : (wi (wi (wi ω 69 n a) 68 1 ((n : Int) + 1)) 252 0 v).2 = ω.2 := rfl
    generalize wi (wi (wi ω 69 n a) 68 1 ((n : Int) + 1)) 252 0 v = W at e1 e68 e69 e52 e2 ⊢
    have hwm : WM W.2.1 := by rw [e2]; exact h.wm
    have e43 := e1 243 (by decide) (by decide) (by decide)
    refine (c_X9_append hwm ha (by rw [e43]; exact t3) t1).mono (fun z2 W2 hz2 => ?_)
    obtain ⟨f1, f2⟩ := hz2
    rw [if_neg (by omega)] at f1 f2
    rw [e43, e1 249 (by decide) (by decide) (by decide)] at f2
    have hx : ∀ x, x ≠ 68 → x ≠ 69 → x ≠ 252 → x ≠ 243 → x ≠ 249 → W2.1 x = ω.1 x := fun x a1 a2 a3 a4 a5 => by
      rw [f2]; exact (wf_ne _ _ a4).trans ((wf_ne _ _ a5).trans (e1 x a1 a2 a3))
    have h43 : W2.1 243 = up (up (ω.1 243) 6 0) 15 ((n : Int) + 1) := by rw [f2]; exact wf_same _ _ _
    have h49 : W2.1 249 = up (ω.1 249) n a := by rw [f2]; exact (wf_ne _ _ (by decide)).trans (wf_same _ _ _)
    have h52 : W2.1 252 = W.1 252 := by rw [f2]; exact (wf_ne _ _ (by decide)).trans (wf_ne _ _ (by decide))
    have h68 : W2.1 68 = W.1 68 := by rw [f2]; exact (wf_ne _ _ (by decide)).trans (wf_ne _ _ (by decide))
    have h69 : W2.1 69 = W.1 69 := by rw [f2]; exact (wf_ne _ _ (by decide)).trans (wf_ne _ _ (by decide))
    have hr2 : W2.2 = ω.2 := by rw [f2]; exact e2
    have hinv : INV (M + 70000) W2 := by
      refine h.fr ⟨by omega, hM⟩ (fun x hx9 => hx x (by omega) (by omega) (by omega) (by omega) (by omega)) (fun y y1 y2 y3 => by rw [h43, up_ne _ _ y2, up_ne _ _ y1]) (fun x _ => by rw [hr2]) ?_ ?_ ?_ ?_
      · have := h.q22; unfold QR at this ⊢; rw [hr2]; exact this
      · rw [hx 246 (by decide) (by decide) (by decide) (by decide) (by decide)]; exact h.z.2.1
      · refine ⟨n + 1, by omega, by rw [h68, e68, up_same]; omega, by rw [h43, up_same]; omega, ?_⟩
        rw [h69, e69, h49, t5]
      · exact h.ln.of (hx 73 (by decide) (by decide) (by decide) (by decide) (by decide)) (hx 74 (by decide) (by decide) (by decide) (by decide) (by decide)) (hx 251 (by decide) (by decide) (by decide) (by decide) (by decide)) (by rw [h43, up_ne _ _ (by decide), up_ne _ _ (by decide)])
    exact ⟨hinv.wm, by rw [h43, up_ne _ _ (by decide), up_same], fun _ => by rw [h52, e52, p2, f1], hinv⟩
  · have hq : Qs ω W := Qs.of p1
    subst p1
    refine (c_X9_append h.wm ha t3 t1).mono (fun z2 W2 hz2 => ?_)
    obtain ⟨f1, f2⟩ := hz2
    rw [if_pos p3] at f1 f2
    subst f2
    exact ask6 (q := (1, 0)) h ⟨by omega, hM⟩ rfl (fun q => absurd q (by decide)) hq f1
