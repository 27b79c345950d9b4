/-! what holds between two calls: the class's cells and the reference's say the same -/
def z11 (f : Row) : Prop := ∀ y, 111 ≤ y → f y = 0
def PAr (M : Int) (ω : Wo) : Prop := ∃ (n : Nat) (hh : Nat → Row), PA M ω n hh ∧ ω.1 243 5 = (n : Int) ∧ ∀ j, j < n → ∀ y, y < 111 → hh j y = ω.1 248 (111 * j + y)
def SVr (M : Int) (ω : Wo) : Prop := ω.1 0 3 = ω.1 243 12 ∧ (ω.1 243 12 ≠ 0 → St ω 43 (ω.1 247) ∧ RI M (ω.1 247) ∧ WI (ω.1 247)) ∧ QR ω 43 ∧ (ω.1 243 12 = 0 ∨ ω.1 243 12 = 1)
def RFr (ω : Wo) : Prop := ω.1 65 0 = ω.1 243 7 ∧ ω.1 65 1 = ω.1 243 8 ∧ ω.1 66 0 = ω.1 243 9 ∧ (ω.1 66 0 ≠ 0 → ω.1 66 1 = ω.1 243 10)
def TPr (ω : Wo) : Prop := ∃ n : Nat, n ≤ 60 ∧ ω.1 68 1 = (n : Int) ∧ ω.1 243 15 = (n : Int) ∧ ω.1 69 = ω.1 249
def LNr (ω : Wo) : Prop := ∃ l : List Int, l.length ≤ 16 ∧ SBH ω l ∧ ω.1 243 19 = (l.length : Int) ∧ hol (ω.1 251) l
def Zr (ω : Wo) : Prop := z11 (ω.1 245) ∧ z11 (ω.1 246) ∧ z11 (ω.1 247)
def INV (M : Int) (ω : Wo) : Prop := (WM ω.2.1 ∧ CR ω) ∧ (St ω 1 (ω.1 244) ∧ RI M (ω.1 244) ∧ WI (ω.1 244)) ∧ PAr M ω ∧ SVr M ω ∧ QR ω 22 ∧ RFr ω ∧ ω.1 0 10 = ω.1 243 11 ∧ TPr ω ∧ LNr ω ∧ Zr ω
theorem INV.wm {M : Int} {ω : Wo} (h : INV M ω) : WM ω.2.1 := h.1.1
theorem INV.cr {M : Int} {ω : Wo} (h : INV M ω) : CR ω := h.1.2
theorem INV.st {M : Int} {ω : Wo} (h : INV M ω) : St ω 1 (ω.1 244) := h.2.1.1
theorem INV.ri {M : Int} {ω : Wo} (h : INV M ω) : RI M (ω.1 244) := h.2.1.2.1
theorem INV.wi {M : Int} {ω : Wo} (h : INV M ω) : WI (ω.1 244) := h.2.1.2.2
theorem INV.pa {M : Int} {ω : Wo} (h : INV M ω) : PAr M ω := h.2.2.1
theorem INV.sv {M : Int} {ω : Wo} (h : INV M ω) : SVr M ω := h.2.2.2.1
theorem INV.q22 {M : Int} {ω : Wo} (h : INV M ω) : QR ω 22 := h.2.2.2.2.1
theorem INV.rf {M : Int} {ω : Wo} (h : INV M ω) : RFr ω := h.2.2.2.2.2.1
theorem INV.ft {M : Int} {ω : Wo} (h : INV M ω) : ω.1 0 10 = ω.1 243 11 := h.2.2.2.2.2.2.1
theorem INV.tp {M : Int} {ω : Wo} (h : INV M ω) : TPr ω := h.2.2.2.2.2.2.2.1
theorem INV.ln {M : Int} {ω : Wo} (h : INV M ω) : LNr ω := h.2.2.2.2.2.2.2.2.1
theorem INV.z {M : Int} {ω : Wo} (h : INV M ω) : Zr ω := h.2.2.2.2.2.2.2.2.2
/-- what a question may change -/
def Qs (ω W : Wo) : Prop := (∀ x, x ≠ 67 → x ≠ 243 → x ≠ 246 → x ≠ 252 → (x < 22 ∨ 43 ≤ x) → W.1 x = ω.1 x) ∧ (∀ y, y ≠ 6 → W.1 243 y = ω.1 243 y) ∧ (∀ x, x ≠ 25 → W.2.1 x = ω.2.1 x) ∧ (QR ω 22 → QR W 22) ∧ (z11 (ω.1 246) → z11 (ω.1 244) → z11 (W.1 246))
theorem Qs.rf (ω : Wo) : Qs ω ω := ⟨fun _ _ _ _ _ _ => rfl, fun _ _ => rfl, fun _ _ => rfl, fun h => h, fun h _ => h⟩
theorem Qs.tr {a b c : Wo} (h : Qs a b) (h2 : Qs b c) : Qs a c := ⟨fun x q1 q2 q3 q4 q5 => (h2.1 x q1 q2 q3 q4 q5).trans (h.1 x q1 q2 q3 q4 q5), fun y q => (h2.2.1 y q).trans (h.2.1 y q), fun x q => (h2.2.2.1 x q).trans (h.2.2.1 x q), fun q => h2.2.2.2.1 (h.2.2.2.1 q),
  fun q r => h2.2.2.2.2 (h.2.2.2.2 q r) (by rw [h.1 244 (by decide) (by decide) (by decide) (by decide) (by decide)]; exact r)⟩
theorem Qs.w252 {ω W : Wo} (h : Qs ω W) (v : Int) : Qs ω (wi W 252 0 v) := h.tr ⟨fun x q1 q2 q3 q4 q5 => wi_ne q4, fun y q => congrFun (wi_ne (by decide)) y, fun _ _ => rfl, fun q => q, fun q _ => by
  have : (wi W 252 0 v).1 246 = W.1 246 := wi_ne (by decide)
  rw [this]; exact q⟩
theorem Qs.rF {ω : Wo} (v w : Int) : Qs ω (RF ω 67 v w) := by
  have e : ∀ x, x ≠ 67 → (RF ω 67 v w).1 x = ω.1 x := fun x h => wf_ne _ _ h
  exact ⟨fun x q1 q2 q3 q4 q5 => e x q1, fun y q => congrFun (e 243 (by decide)) y, fun _ _ => rfl, fun q => q, fun q _ => by rw [e 246 (by decide)]; exact q⟩
theorem Qs.kc {ω W : Wo} (h : KC ω W) (hq : QR W 22) : Qs ω W := ⟨fun x q1 q2 q3 q4 q5 => h.1 x (by omega) q1, fun y q => congrFun (h.1 243 (by omega) (by decide)) y, fun x q => h.2.1 x q, fun _ => hq, fun q _ => by rw [h.1 246 (by omega) (by decide)]; exact q⟩
theorem Qs.m6 {ω : Wo} (c : Int) : Qs ω (wf ω 243 (up (ω.1 243) 6 c)) := ⟨fun x q1 q2 q3 q4 q5 => wf_ne _ _ q2, fun y q => by rw [wf_same, up_ne _ _ q], fun _ _ => rfl, fun q => q, fun q _ => by rw [wf_ne _ _ (by decide)]; exact q⟩
theorem Qs.m46 {ω : Wo} (c : Int) : Qs ω (wf (wf ω 246 (ω.1 244)) 243 (up (ω.1 243) 6 c)) := ⟨fun x q1 q2 q3 q4 q5 => (wf_ne _ _ q2).trans (wf_ne _ _ q3), fun y q => by rw [wf_same, up_ne _ _ q], fun _ _ => rfl, fun q => q, fun _ r => by rw [wf_ne _ _ (by decide), wf_same]; exact r⟩
theorem RI.z11 {M : Int} {s : Row} (h : RI M s) : z11 s := by
  intro y hy
  have h1 := h.2.2 y
  have e1 : lo y = 0 := by
    unfold lo; rw [if_neg (by omega), if_neg (by omega), if_neg (by omega)]
  have e2 : ∀ v, hiC y = some v → y < 111 ∨ v = 0 := by
    intro v hv
    by_cases q : y < 111
    · exact Or.inl q
    · unfold hiC at hv
      rw [if_neg (by omega), if_neg (by omega), if_neg (by omega), if_neg (by omega), if_neg (by omega), if_neg (by omega), if_neg (by omega), if_neg q] at hv
      exact Or.inr (Option.some.inj hv).symm
  have e3 : hiC y = some 0 := by
    unfold hiC
    rw [if_neg (by omega), if_neg (by omega), if_neg (by omega), if_neg (by omega), if_neg (by omega), if_neg (by omega), if_neg (by omega), if_neg (by omega)]
  rw [e1, e3] at h1
  have : (0 : Int) ≤ s y ∧ s y ≤ 0 := h1
  omega
theorem SBH.of {ω W : Wo} {l : List Int} (h : SBH ω l) (h1 : W.1 73 = ω.1 73) (h2 : W.1 74 = ω.1 74) : SBH W l := by
  unfold SBH; rw [h1, h2]; exact h
theorem INV.qs {M M' : Int} {ω W : Wo} (h : INV M ω) (hq : Qs ω W) (hM : M ≤ M' ∧ M' ≤ 100000000) : INV M' W := by
  obtain ⟨q1, q2, q3, q4, q5⟩ := hq
  have e : ∀ x, x ≠ 67 ∧ x ≠ 243 ∧ x ≠ 246 ∧ x ≠ 252 ∧ (x < 22 ∨ 43 ≤ x) → W.1 x = ω.1 x := fun x hx => q1 x hx.1 hx.2.1 hx.2.2.1 hx.2.2.2.1 hx.2.2.2.2
  have e44 := e 244 (by omega)
  have hcc := h.ri.cc
  refine ⟨⟨?_, ?_⟩, ⟨?_, ?_, ?_⟩, ?_, ?_, q4 h.q22, ?_, ?_, ?_, ?_, ?_⟩
  · have := h.wm; unfold WM at this ⊢; rw [q3 243 (by decide)]; exact this
  · have := h.cr; unfold CR at this ⊢; rw [q3 0 (by decide), q3 68 (by decide), q3 73 (by decide)]; exact this
  · rw [e44]; exact h.st.fr hcc (fun x _ _ => e x (by omega)) (fun x _ _ => q3 x (by omega))
  · rw [e44]; exact h.ri.le hM.1 hM.2
  · rw [e44]; exact h.wi
  · obtain ⟨n, hh, p1, p2, p3⟩ := h.pa
    exact ⟨n, hh, p1.of hM (congrFun (e 0 (by omega)) 5) (fun x _ _ => e x (by omega)) (fun x _ => q3 x (by omega)), (q2 5 (by decide)).trans p2, fun j hj y hy => by rw [e 248 (by omega)]; exact p3 j hj y hy⟩
  · obtain ⟨s1, s2, s3, s4⟩ := h.sv
    refine ⟨by rw [e 0 (by omega), q2 12 (by decide)]; exact s1, fun hn => ?_, qr_of (fun x _ _ => q3 x (by omega)) s3, by rw [q2 12 (by decide)]; exact s4⟩
    rw [q2 12 (by decide)] at hn
    obtain ⟨t1, t2, t3⟩ := s2 hn
    rw [e 247 (by omega)]
    exact ⟨t1.fr t2.cc (fun x _ _ => e x (by omega)) (fun x _ _ => q3 x (by omega)), t2.le hM.1 hM.2, t3⟩
  · obtain ⟨r1, r2, r3, r4⟩ := h.rf
    unfold RFr
    rw [e 65 (by omega), e 66 (by omega), q2 7 (by decide), q2 8 (by decide), q2 9 (by decide), q2 10 (by decide)]
    exact ⟨r1, r2, r3, r4⟩
  · rw [e 0 (by omega), q2 11 (by decide)]; exact h.ft
  · obtain ⟨n, t1, t2, t3, t5⟩ := h.tp
    refine ⟨n, t1, ?_, ?_, ?_⟩
    · rw [e 68 (by omega)]; exact t2
    · rw [q2 15 (by decide)]; exact t3
    · rw [e 69 (by omega), e 249 (by omega)]; exact t5
  · obtain ⟨l, l1, l2, l3, l4⟩ := h.ln
    exact ⟨l, l1, l2.of (e 73 (by omega)) (e 74 (by omega)), by rw [q2 19 (by decide)]; exact l3, by rw [e 251 (by omega)]; exact l4⟩
  · obtain ⟨z1, z2, z3⟩ := h.z
    exact ⟨by rw [e 245 (by omega)]; exact z1, q5 z2 h.ri.z11, by rw [e 247 (by omega)]; exact z3⟩
/-- class and reference agree on a call -/
def Ag (M : Int) (z z2 : Int) (W : Wo) : Prop := WM W.2.1 ∧ W.1 243 6 = z ∧ (z = 0 → W.1 252 0 = z2) ∧ INV M W
theorem ask {M M' : Int} {ω W W2 : Wo} {q : Int × Int} {z z2 : Int} (h : INV M ω) (hM : M ≤ M' ∧ M' ≤ 100000000) (h1 : z = q.1) (h2 : z = 0 → W.1 252 0 = q.2) (h3 : Qs ω W) (h4 : z2 = q.2) (h5 : Qs W W2) (h6 : W2.1 243 6 = q.1) (h7 : W2.1 252 = W.1 252) : Ag M' z z2 W2 := by
  have hi := h.qs (h3.tr h5) hM
  exact ⟨hi.wm, h6.trans h1.symm, fun hz => by rw [h7, h2 hz, h4], hi⟩
theorem ask6 {M M' : Int} {ω W : Wo} {q : Int × Int} {z z2 : Int} (h : INV M ω) (hM : M ≤ M' ∧ M' ≤ 100000000) (h1 : z = q.1) (h2 : z = 0 → W.1 252 0 = q.2) (h3 : Qs ω W) (h4 : z2 = q.2) : Ag M' z z2 (wf W 243 (up (W.1 243) 6 q.1)) :=
  ask h hM h1 h2 h3 h4 (Qs.m6 _) (by rw [wf_same, up_same]) (wf_ne _ _ (by decide))
theorem Qs.e44 {ω W : Wo} (h : Qs ω W) : W.1 244 = ω.1 244 := h.1 244 (by decide) (by decide) (by decide) (by decide) (by omega)
