/-! a member, a boat, a borrow come to a station -/
theorem newM_St {M : Int} {ω : Wo} {B : Nat} {s : Row} (h : St ω B s) (hI : RI M s) (c0 : s 1 < 10) {v : Int} {f : Row} (hf : f 0 = v ∧ f 1 = -1 ∧ f 2 = 0 ∧ f 3 = 0 ∧ f 4 = 0 ∧ f 5 = 0) : St (wi (wf ω (B + 4 + cM s) f) B 3 (s 1 + 1)) B (newM s v) ∧ Fr B ω (wi (wf ω (B + 4 + cM s) f) B 3 (s 1 + 1)) := by
  have gs := hI.s
  have gc := hI.c
  obtain ⟨hr, h1, h2, h3, h4⟩ := h
  obtain ⟨v1, v2, vk, w0, w1, w2, w3, w4, w5, w6, vB, vl⟩ := newM_v hI (v := v) c0
  have ecM : cM (newM s v) = cM s + 1 := by unfold cM; rw [v1]; omega
  have ecB : cB (newM s v) = cB s := cB_e v2
  have ecL : cL (newM s v) = cL s := cL_e (vl 3 (by decide) (by decide))
  rw [wi_wf]
  refine ⟨⟨hr, ?_, fun j hj => ?_, fun j hj => ?_, fun j hj a ha => ?_⟩, fun x hx => by rw [wf_ne _ _ (by omega), wf_ne _ _ (by omega)], fun _ _ => rfl, rfl⟩
  · unfold SCc at h1 ⊢
    rw [wf_same, wf_ne _ _ (by omega), v1, v2, vl 0 (by decide) (by decide), vl 3 (by decide) (by decide), vl 4 (by decide) (by decide), vl 5 (by decide) (by decide), vl 6 (by decide) (by decide), vl 7 (by decide) (by decide), up_same, up_ne _ _ (by decide), up_ne _ _ (by decide), up_ne _ _ (by decide), up_ne _ _ (by decide), up_ne _ _ (by decide), up_ne _ _ (by decide), up_ne _ _ (by decide)]
    exact ⟨rfl, h1.2⟩
  · rw [wf_ne _ _ (by omega)]
    by_cases e : j = cM s
    · subst e
      rw [wf_same]
      refine ⟨hf.1.trans w0.symm, hf.2.1.trans ?_, hf.2.2.1.trans w2.symm, hf.2.2.2.1.trans w4.symm, hf.2.2.2.2.1.trans w5.symm, hf.2.2.2.2.2.trans w6.symm⟩
      unfold plc; rw [w1]; rfl
    · rw [wf_ne _ _ (by omega)]
      have q := h2 j (by omega)
      have k1 := vk j e
      exact ⟨q.1.trans (k1 0 (by decide)).symm, q.2.1.trans (plc_e (k1 1 (by decide)) (k1 3 (by decide))).symm, q.2.2.1.trans (k1 2 (by decide)).symm, q.2.2.2.1.trans (k1 4 (by decide)).symm, q.2.2.2.2.1.trans (k1 5 (by decide)).symm, q.2.2.2.2.2.trans (k1 6 (by decide)).symm⟩
  · rw [wf_ne _ _ (by omega), wf_ne _ _ (by omega)]; exact bEq_e (h3 j (by omega)) (fun y _ _ _ => vB y (by omega))
  · obtain ⟨a', q1, q2, q3⟩ := hr.l j (by omega)
    cases Option.some.inj (q1.symm.trans ha)
    rw [wf_ne _ _ (by omega), wf_ne _ _ (by omega)]; exact lEq_e (h4 j (by omega) a ha) (fun y _ _ => vB y (by omega))
theorem newB_St {M : Int} {ω : Wo} {B : Nat} {s : Row} (h : St ω B s) (hI : RI M s) (c0 : s 2 < 3) {v u : Int} {f : Row} (hf : f 0 = v ∧ f 1 = u ∧ f 2 = -1 ∧ f 3 = 0 ∧ f 4 = 0 ∧ f 5 = 0) : St (wi (wf ω (B + 14 + cB s) f) B 4 (s 2 + 1)) B (newB s v u) ∧ Fr B ω (wi (wf ω (B + 14 + cB s) f) B 4 (s 2 + 1)) := by
  have gs := hI.s
  have gc := hI.c
  obtain ⟨hr, h1, h2, h3, h4⟩ := h
  obtain ⟨v2, vk, w0, w1, w2, w3, w4, w5, w6, vl, vL⟩ := newB_v hI (v := v) (u := u) c0
  have ecM : cM (newB s v u) = cM s := cM_e (vl 1 (by decide) (by decide))
  have ecB : cB (newB s v u) = cB s + 1 := by unfold cB; rw [v2]; omega
  have ecL : cL (newB s v u) = cL s := cL_e (vl 3 (by decide) (by decide))
  rw [wi_wf]
  refine ⟨⟨hr, ?_, fun j hj => ?_, fun j hj => ?_, fun j hj a ha => ?_⟩, fun x hx => by rw [wf_ne _ _ (by omega), wf_ne _ _ (by omega)], fun _ _ => rfl, rfl⟩
  · unfold SCc at h1 ⊢
    rw [wf_same, wf_ne _ _ (by omega), v2, vl 1 (by decide) (by decide), vl 0 (by decide) (by decide), vl 3 (by decide) (by decide), vl 4 (by decide) (by decide), vl 5 (by decide) (by decide), vl 6 (by decide) (by decide), vl 7 (by decide) (by decide), up_same, up_ne _ _ (by decide), up_ne _ _ (by decide), up_ne _ _ (by decide), up_ne _ _ (by decide), up_ne _ _ (by decide), up_ne _ _ (by decide), up_ne _ _ (by decide)]
    exact ⟨h1.1, rfl, h1.2.2⟩
  · rw [wf_ne _ _ (by omega), wf_ne _ _ (by omega)]; exact mEq_e (h2 j (by omega)) (fun y _ _ => vl y (by omega) (by omega))
  · rw [wf_ne _ _ (by omega)]
    by_cases e : j = cB s
    · subst e
      rw [wf_same]
      exact ⟨hf.1.trans w0.symm, hf.2.1.trans w1.symm, hf.2.2.1.trans w5.symm, hf.2.2.2.1.trans w3.symm, hf.2.2.2.2.1.trans w4.symm, hf.2.2.2.2.2.trans w6.symm⟩
    · rw [wf_ne _ _ (by omega)]
      have q := h3 j (by omega)
      have k1 := vk j e
      exact ⟨q.1.trans (k1 0 (by decide)).symm, q.2.1.trans (k1 1 (by decide)).symm, q.2.2.1.trans (k1 5 (by decide)).symm, q.2.2.2.1.trans (k1 3 (by decide)).symm, q.2.2.2.2.1.trans (k1 4 (by decide)).symm, q.2.2.2.2.2.trans (k1 6 (by decide)).symm⟩
  · obtain ⟨a', q1, q2, q3⟩ := hr.l j (by omega)
    cases Option.some.inj (q1.symm.trans ha)
    rw [wf_ne _ _ (by omega), wf_ne _ _ (by omega)]; exact lEq_e (h4 j (by omega) a ha) (fun y _ _ => vL y (by omega))
theorem newL_v {M : Int} {s : Row} (hI : RI M s) {v u : Int} (h1 : s 3 < 4) : newL s v u 3 = s 3 + 1 ∧ (∀ k : Nat, k ≠ cL s → ∀ w : Nat, w < 3 → sL (newL s v u) k w = sL s k w) ∧
    sL (newL s v u) (cL s) 0 = v ∧ sL (newL s v u) (cL s) 1 = u ∧ sL (newL s v u) (cL s) 2 = 0 ∧ (∀ y, y < 99 → y ≠ 3 → newL s v u y = s y) := by
  have gc := hI.c
  have gs := hI.s
  unfold newL
  refine ⟨if_pos rfl, fun k hk w hw => ?_, ?_, ?_, ?_, fun y h1 h2 => ?_⟩
  all_goals (try simp only [sL])
  · rw [if_neg (by omega), if_neg (by omega), if_neg (by omega), if_neg (by omega)]
  · rw [if_neg (by omega), if_pos (by omega)]
  · rw [if_neg (by omega), if_neg (by omega), if_pos (by omega)]
  · rw [if_neg (by omega), if_neg (by omega), if_neg (by omega), if_pos (by omega)]
  · rw [if_neg (by omega), if_neg (by omega), if_neg (by omega), if_neg (by omega)]
theorem newL_St {M : Int} {ω : Wo} {B a : Nat} {s : Row} (h : St ω B s) (hI : RI M s) (c0 : s 3 < 4) (ha : ω.2.1 (B + 3) (cL s) = some a) {v u : Int} {f : Row} (hf : f 0 = v ∧ f 1 = u ∧ f 2 = 0) : St (wi (wf ω a f) B 5 (s 3 + 1)) B (newL s v u) ∧ Fr B ω (wi (wf ω a f) B 5 (s 3 + 1)) := by
  have gs := hI.s
  have gc := hI.c
  obtain ⟨hr, h1, h2, h3, h4⟩ := h
  obtain ⟨v3, vk, w0, w1, w2, vl⟩ := newL_v hI (v := v) (u := u) c0
  have ecM : cM (newL s v u) = cM s := cM_e (vl 1 (by decide) (by decide))
  have ecB : cB (newL s v u) = cB s := cB_e (vl 2 (by decide) (by decide))
  have ecL : cL (newL s v u) = cL s + 1 := by unfold cL; rw [v3]; omega
  obtain ⟨a0, p1, p2, p3⟩ := hr.l (cL s) (by omega)
  cases Option.some.inj (p1.symm.trans ha)
  rw [wi_wf]
  refine ⟨⟨hr, ?_, fun j hj => ?_, fun j hj => ?_, fun j hj b hb => ?_⟩, fun x hx => by rw [wf_ne _ _ (by omega), wf_ne _ _ (by omega)], fun _ _ => rfl, rfl⟩
  · unfold SCc at h1 ⊢
    rw [wf_same, wf_ne _ _ (by omega), v3, vl 1 (by decide) (by decide), vl 2 (by decide) (by decide), vl 0 (by decide) (by decide), vl 4 (by decide) (by decide), vl 5 (by decide) (by decide), vl 6 (by decide) (by decide), vl 7 (by decide) (by decide), up_same, up_ne _ _ (by decide), up_ne _ _ (by decide), up_ne _ _ (by decide), up_ne _ _ (by decide), up_ne _ _ (by decide), up_ne _ _ (by decide), up_ne _ _ (by decide)]
    exact ⟨h1.1, h1.2.1, rfl, h1.2.2.2⟩
  · rw [wf_ne _ _ (by omega), wf_ne _ _ (by omega)]; exact mEq_e (h2 j (by omega)) (fun y _ _ => vl y (by omega) (by omega))
  · rw [wf_ne _ _ (by omega), wf_ne _ _ (by omega)]; exact bEq_e (h3 j (by omega)) (fun y _ _ _ => vl y (by omega) (by omega))
  · obtain ⟨a', q1, q2, q3⟩ := hr.l j (by omega)
    cases Option.some.inj (q1.symm.trans hb)
    rw [wf_ne _ _ (by omega)]
    by_cases e : j = cL s
    · subst e
      cases Option.some.inj (hb.symm.trans ha)
      rw [wf_same]
      exact ⟨hf.1.trans w0.symm, hf.2.1.trans w1.symm, hf.2.2.trans w2.symm⟩
    · have hab : b ≠ a := fun q => e (hr.inj (by omega) (by omega) hb (q ▸ ha))
      rw [wf_ne _ _ hab]
      have q := h4 j (by omega) b hb
      have k1 := vk j e
      exact ⟨q.1.trans (k1 0 (by decide)).symm, q.2.1.trans (k1 1 (by decide)).symm, q.2.2.trans (k1 2 (by decide)).symm⟩
