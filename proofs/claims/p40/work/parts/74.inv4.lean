/-! what holds between two calls of the law -/
def INV (M : Int) (ω : Wo) (σ : Row) (n : Nat) (hh : Nat → Row) : Prop := CR ω ∧ (St ω 1 σ ∧ RI M σ ∧ WI σ ∧ WJ σ) ∧ (PA M ω n hh ∧ ∀ j, j < n → WJ (hh j)) ∧ (QR ω 22 ∧ QR ω 43) ∧ ω.1 68 1 = 0
section INV4
variable {M M' : Int} {ω W : Wo} {σ : Row} {n : Nat} {hh : Nat → Row}
theorem INV.cr (h : INV M ω σ n hh) : CR ω := h.1
theorem INV.st (h : INV M ω σ n hh) : St ω 1 σ := h.2.1.1
theorem INV.ri (h : INV M ω σ n hh) : RI M σ := h.2.1.2.1
theorem INV.wi (h : INV M ω σ n hh) : WI σ := h.2.1.2.2.1
theorem INV.wj (h : INV M ω σ n hh) : WJ σ := h.2.1.2.2.2
theorem INV.pa (h : INV M ω σ n hh) : PA M ω n hh := h.2.2.1.1
theorem INV.hj (h : INV M ω σ n hh) : ∀ j, j < n → WJ (hh j) := h.2.2.1.2
theorem INV.q22 (h : INV M ω σ n hh) : QR ω 22 := h.2.2.2.1.1
theorem INV.q43 (h : INV M ω σ n hh) : QR ω 43 := h.2.2.2.1.2
theorem INV.tx (h : INV M ω σ n hh) : ω.1 68 1 = 0 := h.2.2.2.2
theorem INV.keep (h : INV M ω σ n hh) (hM : M ≤ M' ∧ M' ≤ 100000000) (e1 : ∀ x, x < 22 ∨ (75 ≤ x ∧ x < 243) ∨ x = 68 → W.1 x = ω.1 x) (e2 : ∀ x, x < 243 → x ≠ 25 → W.2.1 x = ω.2.1 x) (q : QR W 22) : INV M' W σ n hh := by
  refine ⟨?_, ⟨?_, h.ri.le hM.1 hM.2, h.wi, h.wj⟩, ⟨?_, h.hj⟩, ⟨q, ?_⟩, ?_⟩
  · have := h.cr; unfold CR at this ⊢; rw [e2 0 (by decide) (by decide), e2 68 (by decide) (by decide), e2 73 (by decide) (by decide)]; exact this
  · exact h.st.fr h.ri.cc (fun x _ _ => e1 x (by omega)) (fun x _ _ => e2 x (by omega) (by omega))
  · exact h.pa.of hM (congrFun (e1 0 (by omega)) 5) (fun x _ _ => e1 x (by omega)) (fun x _ => e2 x (by omega) (by omega))
  · exact qr_of (fun x _ _ => e2 x (by omega) (by omega)) h.q43
  · rw [e1 68 (by omega)]; exact h.tx
theorem INV.le (h : INV M ω σ n hh) (hM : M ≤ M' ∧ M' ≤ 100000000) : INV M' ω σ n hh := h.keep hM (fun _ _ => rfl) (fun _ _ _ => rfl) h.q22
theorem INV.mx {ω' : Wo} (h : INV M ω' σ n hh) : INV M (mxw ω' ω) σ n hh :=
  h.keep ⟨Int.le_refl _, h.ri.2.1⟩ (fun x hx => (mx_lt (by omega)).1) (fun x hx _ => (mx_lt hx).2) (qr_of (fun x _ _ => (mx_lt (by omega)).2) h.q22)
theorem INV.rF {a : Nat} {v w : Int} (h : INV M ω σ n hh) (ha : a = 65 ∨ a = 66 ∨ a = 67) : INV M (RF ω a v w) σ n hh :=
  h.keep ⟨Int.le_refl _, h.ri.2.1⟩ (fun x hx => wf_ne _ _ (by omega)) (fun x hx _ => rfl) h.q22
theorem INV.kc (h : INV M ω σ n hh) (hk : KC ω W) (q : QR W 22) : INV M W σ n hh :=
  h.keep ⟨Int.le_refl _, h.ri.2.1⟩ (fun x hx => hk.1 x (by omega) (by omega)) (fun x _ hx => hk.2.1 x hx) q
theorem rmN_j {j n : Nat} (hn : n ≤ 8) (hj : j < rmN n) : (n = 8 ∧ ((j = 7 ∧ rmH n hh σ j = σ) ∨ (j < 7 ∧ rmH n hh σ j = hh (j + 1)))) ∨ (n < 8 ∧ ((j = n ∧ rmH n hh σ j = σ) ∨ (j < n ∧ rmH n hh σ j = hh j))) := by
  unfold rmN at hj
  unfold rmH
  by_cases e : n = 8
  · left
    rw [if_pos e] at hj ⊢
    refine ⟨e, ?_⟩
    by_cases e7 : j = 7
    · left; exact ⟨e7, by show (if _ then _ else _) = _; rw [if_pos e7]⟩
    · right; exact ⟨by omega, by show (if _ then _ else _) = _; rw [if_neg e7]⟩
  · right
    rw [if_neg e] at hj ⊢
    refine ⟨by omega, ?_⟩
    by_cases e7 : j = n
    · left; exact ⟨e7, by show (if _ then _ else _) = _; rw [if_pos e7]⟩
    · right; exact ⟨by omega, by show (if _ then _ else _) = _; rw [if_neg e7]⟩
theorem rm_wj (hn : n ≤ 8) (h : ∀ j, j < n → WJ (hh j)) (hs : WJ σ) : ∀ j, j < rmN n → WJ (rmH n hh σ j) := by
  intro j hj
  rcases rmN_j (σ := σ) (hh := hh) hn hj with ⟨e, ⟨-, q⟩ | ⟨a, q⟩⟩ | ⟨e, ⟨-, q⟩ | ⟨a, q⟩⟩
  · rw [q]; exact hs
  · rw [q]; exact h _ (by omega)
  · rw [q]; exact hs
  · rw [q]; exact h _ a
theorem rm_last (hn : n ≤ 8) : 0 < rmN n ∧ rmH n hh σ (rmN n - 1) = σ := by
  unfold rmN rmH
  by_cases e : n = 8
  · rw [if_pos e, if_pos e]; exact ⟨by decide, rfl⟩
  · rw [if_neg e, if_neg e]
    refine ⟨by omega, ?_⟩
    show (if n + 1 - 1 = n then _ else _) = _
    rw [if_pos (by omega)]
/-- a deed is done -/
theorem INV.deed (h : INV M ω σ n hh) (hM : M + 3200 ≤ 100000000) {d : Nat} (hd : d ≤ 8) {a b : Int} (hj : (jd d σ a b).1 = 0) (h1 : St W 1 (ad d σ a b).2) (h2 : PA M W (rmN n) (rmH n hh σ)) (h3 : CR W) (h4 : KQ ω W) : INV (M + 3200) W (ad d σ a b).2 (rmN n) (rmH n hh σ) := by
  have k := ad_keep h.ri h.wi (by omega) hd hj
  refine ⟨h3, ⟨h1, k.1.le (by omega) hM, k.2, ad_wj h.ri h.wi h.wj (by omega) hd hj⟩, ⟨h2.of ⟨by omega, hM⟩ rfl (fun _ _ _ => rfl) (fun _ _ => rfl), rm_wj h.pa.2.1 h.hj h.wj⟩, ⟨?_, ?_⟩, ?_⟩
  · exact qr_of (fun x _ _ => h4.2.2.1 x (by omega) (by omega) (by omega)) h.q22
  · exact qr_of (fun x _ _ => h4.2.2.1 x (by omega) (by omega) (by omega)) h.q43
  · rw [h4.1 68 (by decide) (by decide) (by decide)]; exact h.tx
theorem jd_8 {d : Nat} (h : 8 ≤ d) (s : Row) (a b : Int) : jd d s a b = jd 8 s a b ∧ ad d s a b = ad 8 s a b := by
  obtain ⟨k, rfl⟩ : ∃ k, d = k + 8 := ⟨d - 8, by omega⟩
  cases k with
  | zero => exact ⟨rfl, rfl⟩
  | succ k => exact ⟨rfl, rfl⟩
theorem ad_all {s : Row} (hI : RI M s) (hW : WI s) (h : WJ s) (hM : M + 3000 ≤ 100000000) (d : Nat) {a b : Int} (hj : (jd d s a b).1 = 0) : RI (M + 3000) (ad d s a b).2 ∧ WI (ad d s a b).2 ∧ WJ (ad d s a b).2 := by
  by_cases hd : d ≤ 8
  · have k := ad_keep hI hW hM hd hj
    exact ⟨k.1, k.2, ad_wj hI hW h hM hd hj⟩
  · obtain ⟨e1, e2⟩ := jd_8 (show 8 ≤ d by omega) s a b
    rw [e1] at hj
    rw [e2]
    have k := ad_keep hI hW hM (Nat.le_refl 8) hj
    exact ⟨k.1, k.2, ad_wj hI hW h hM (Nat.le_refl 8) hj⟩
theorem exc_all {s : Row} (hI : RI M s) (hW : WI s) (h : WJ s) {D : Nat → Nat} {A B : Nat → Int} : ∀ k : Nat, M + 3000 * k ≤ 100000000 → (∀ j : Nat, j < k → (jd (D j) (exc s D A B j) (A j) (B j)).1 = 0) → RI (M + 3000 * k) (exc s D A B k) ∧ WI (exc s D A B k) ∧ WJ (exc s D A B k) := by
  intro k
  induction k with
  | zero => intro _ _; refine ⟨?_, hW, h⟩; have e : M + 3000 * ((0 : Nat) : Int) = M := by omega
            rw [e]; exact hI
  | succ k ih =>
    intro hM hj
    obtain ⟨i1, i2, i3⟩ := ih (by omega) (fun j q => hj j (by omega))
    have := ad_all i1 i2 i3 (by omega) _ (hj k (by omega))
    have e : M + 3000 * ((k + 1 : Nat) : Int) = M + 3000 * k + 3000 := by omega
    rw [e]; exact this
theorem excN_le {s : Row} {D : Nat → Nat} {A B : Nat → Int} : ∀ f k, k ≤ excN s D A B f k := by
  intro f
  induction f with
  | zero => intro k; exact Nat.le_refl _
  | succ f ih =>
    intro k
    by_cases q : (jd (D k) (exc s D A B k) (A k) (B k)).1 = 0
    · rw [excN_s q]; have := ih (k + 1); omega
    · rw [excN_e q]; exact Nat.le_refl _
theorem excN_ok {s : Row} {D : Nat → Nat} {A B : Nat → Int} : ∀ f k, excN s D A B f k = f + k → ∀ j, k ≤ j → j < f + k → (jd (D j) (exc s D A B j) (A j) (B j)).1 = 0 := by
  intro f
  induction f with
  | zero => intro k _ j h1 h2; omega
  | succ f ih =>
    intro k he j h1 h2
    by_cases q : (jd (D k) (exc s D A B k) (A k) (B k)).1 = 0
    · rw [excN_s q] at he
      by_cases e : j = k
      · rw [e]; exact q
      · exact ih (k + 1) (by omega) j (by omega) (by omega)
    · rw [excN_e q] at he; omega
theorem PA.cut {n' : Nat} {h : Nat → Row} (hP : PA M ω n h) (hn : n' ≤ n) (h0 : W.1 0 5 = (n' : Int)) (h1 : ∀ x, 75 ≤ x → x < 243 → W.1 x = ω.1 x) (h2 : ∀ x, (x = 64 ∨ (75 ≤ x ∧ x < 243)) → W.2.1 x = ω.2.1 x) : PA M W n' h := by
  obtain ⟨q5, q8, π, r1, r2, r3⟩ := hP
  refine ⟨h0, by omega, π, fun j hj => ⟨(r1 j hj).1, ?_, ?_⟩, r2, fun j hj => ?_⟩
  · rw [h2 64 (Or.inl rfl)]; exact (r1 j hj).2.1
  · have hm := (r1 j hj).1
    exact qr_of (fun x _ _ => h2 x (by omega)) (r1 j hj).2.2
  · have hm := (r1 j (by omega)).1
    have hr := r3 j (by omega)
    exact ⟨hr.1.fr hr.2.1.cc (fun x _ _ => h1 x (by omega) (by omega)) (fun x _ _ => h2 x (by omega)), hr.2⟩
/-- undone -/
theorem INV_undo (h : INV M ω σ n hh) (hn : 0 < n) (hF : Fr 1 (wi ω 0 5 ((n : Int) - 1)) W) (hS : St W 1 (hh (n - 1))) : INV M W (hh (n - 1)) (n - 1) hh := by
  have hp := h.pa
  obtain ⟨q5, q8, π, r1, r2, r3⟩ := h.pa
  have b3 := r3 (n - 1) (by omega)
  have e1 : ∀ x, x ≠ 0 → 22 ≤ x → W.1 x = ω.1 x := fun x b1 b2 => (hF.1 x (by omega)).trans (wi_ne b1)
  have e05 : W.1 0 5 = (n : Int) - 1 := (congrFun (hF.1 0 (by omega)) 5).trans (by simp [wi])
  have e2 : ∀ x, x ≠ 4 → W.2.1 x = ω.2.1 x := fun x hx => hF.2.1 x hx
  refine ⟨?_, ⟨hS, b3.2.1, b3.2.2, h.hj _ (by omega)⟩, ⟨hp.cut (by omega) (by rw [e05]; omega) (fun x _ _ => e1 x (by omega) (by omega)) (fun x _ => e2 x (by omega)), fun j hj => h.hj j (by omega)⟩, ⟨?_, ?_⟩, ?_⟩
  · have := h.cr; unfold CR at this ⊢; rw [e2 0 (by decide), e2 68 (by decide), e2 73 (by decide)]; exact this
  · exact qr_of (fun x _ _ => e2 x (by omega)) h.q22
  · exact qr_of (fun x _ _ => e2 x (by omega)) h.q43
  · rw [e1 68 (by decide) (by decide)]; exact h.tx
/-- the text's commands are done -/
theorem INV.cmd (h : INV M ω σ n hh) (hM : M + 70000 ≤ 100000000) {D : Nat → Nat} {A B : Nat → Int} {K : Nat} (hK : K ≤ 20) (hN : excN σ D A B K 0 = K) (h1 : St W 1 (exc σ D A B K)) (h2 : PA M W (rmN n) (rmH n hh σ)) (h3 : CR W) (h22 : QR W 22) (h4 : KM ω W) (h5 : W.1 68 1 = 0) : INV (M + 70000) W (exc σ D A B K) (rmN n) (rmH n hh σ) := by
  have k := exc_all h.ri h.wi h.wj (D := D) (A := A) (B := B) K (by omega) (fun j hj => excN_ok K 0 hN j (by omega) (by omega))
  refine ⟨h3, ⟨h1, k.1.le (by omega) hM, k.2.1, k.2.2⟩, ⟨h2.of ⟨by omega, hM⟩ rfl (fun _ _ _ => rfl) (fun _ _ => rfl), rm_wj h.pa.2.1 h.hj h.wj⟩, ⟨h22, ?_⟩, h5⟩
  exact qr_of (fun x _ _ => h4.2.2.1 x (by omega) (by omega) (by omega) (by omega) (by omega)) h.q43
/-- the text's commands are refused -/
theorem INV.cmdx (h : INV M ω σ n hh) (h1 : St W 1 σ) (h2 : PA M W n hh) (h3 : CR W) (h22 : QR W 22) (h4 : KM ω W) (h5 : W.1 68 1 = 0) : INV M W σ n hh :=
  ⟨h3, ⟨h1, h.ri, h.wi, h.wj⟩, ⟨h2, h.hj⟩, ⟨h22, qr_of (fun x _ _ => h4.2.2.1 x (by omega) (by omega) (by omega) (by omega) (by omega)) h.q43⟩, h5⟩
end INV4
