/-! the law's own cells are left alone by the class; where the law's cells lie may be told anew -/
def re (Γ : Ga) (nn : Nat → Nat) (h : Nat) : Ga := (Γ.1, Γ.2.1, Γ.2.2.1, Γ.2.2.2.1, gB Γ, nn, h)
theorem Kb.narrow {Γ Γ' : Ga} {U : State} {H : Heap} (hg : gad Γ' = gad Γ) (h : Kb Γ U H) (hAB : ∀ q, gA Γ' q → gA Γ q) : Kb Γ' U H := by
  unfold Kb at h ⊢
  rw [hg]
  exact ⟨va_Z.narrow h.1 hAB, va_Z.narrow h.2.1 hAB, va_T.narrow h.2.2.1 hAB, (let ⟨v, hv, hz⟩ := h.2.2.2.1; ⟨v, hv, va_Z.narrow hz hAB⟩), va_Z.narrow h.2.2.2.2.1 hAB, va_T.narrow h.2.2.2.2.2.1 hAB, vk_S.narrow h.2.2.2.2.2.2 hAB⟩
theorem Ks.narrow {Γ Γ' : Ga} {U : State} {H : Heap} (hg : gad Γ' = gad Γ) (h : Ks Γ U H) (hAB : ∀ q, gA Γ' q → gA Γ q) : Ks Γ' U H := by
  have h8 := Kb.narrow hg h.2.2.2.2.2.2.2 hAB
  unfold Ks at h ⊢
  rw [hg]
  exact ⟨va_En.narrow h.1 hAB, va_Z.narrow h.2.1 hAB, va_T.narrow h.2.2.1 hAB, va_Z.narrow h.2.2.2.1 hAB, va_T.narrow h.2.2.2.2.1 hAB, vx_Zq.narrow h.2.2.2.2.2.1 hAB, vx_Zq.narrow h.2.2.2.2.2.2.1 hAB, h8⟩
theorem Kx.ren {Γ : Ga} {U : State} {nn : Nat → Nat} {h9 : Nat} (h : Kx Γ U) (hAB : ∀ q, gA (re Γ nn h9) q → gA Γ q) : Kx (re Γ nn h9) U := ⟨h.1, Ks.narrow (Γ := Γ) (Γ' := re Γ nn h9) rfl h.2.1 hAB, h.2.2⟩
theorem gA_re {Γ : Ga} {nn : Nat → Nat} {h9 : Nat} (h : gH Γ ≤ h9) : ∀ q, gA (re Γ nn h9) q → gA Γ q := by
  intro q hq
  have hq : (gB Γ ≤ q ∧ q < gB Γ + 243) ∨ h9 ≤ q := hq
  show (gB Γ ≤ q ∧ q < gB Γ + 243) ∨ gH Γ ≤ q
  omega
/-- kinds: the run's own below, the law's behind -/
def Kl (κ : Nat → Nat) (n : Nat) : Prop := (∀ a, a < 243 → κ a = kd a) ∧ ∀ a, 243 ≤ a → a < n → κ a ≠ 24
theorem Kl.k0 : Kl kd 243 := ⟨fun _ _ => rfl, fun a h1 h2 => by omega⟩
def mxw (ω' ω : Wo) : Wo := (fun x => if x < 243 then ω'.1 x else ω.1 x, fun x => if x < 243 then ω'.2.1 x else ω.2.1 x, ω'.2.2)
theorem mx_lt {ω' ω : Wo} {x : Nat} (h : x < 243) : (mxw ω' ω).1 x = ω'.1 x ∧ (mxw ω' ω).2.1 x = ω'.2.1 x := ⟨if_pos h, if_pos h⟩
theorem mx_ge {ω' ω : Wo} {x : Nat} (h : 243 ≤ x) : (mxw ω' ω).1 x = ω.1 x ∧ (mxw ω' ω).2.1 x = ω.2.1 x := ⟨if_neg (by omega), if_neg (by omega)⟩
theorem mx_self (ω : Wo) : mxw ω ω = ω := by
  refine wo_ext (fun x => ?_) ?_
  · show (if x < 243 then ω.1 x else ω.1 x) = _
    split <;> rfl
  · show ((fun x => if x < 243 then ω.2.1 x else ω.2.1 x), ω.2.2) = ω.2
    have : (fun x => if x < 243 then ω.2.1 x else ω.2.1 x) = ω.2.1 := by funext x; split <;> rfl
    rw [this]
theorem fv_re {Γ Γ' : Ga} {ω ω' : Wo} {k a i : Nat} (hr : ∀ i, ω'.2.1 a i = ω.2.1 a i) (h1 : ω'.1 a = ω.1 a) (hrl : ∀ i b, ω.2.1 a i = some b → rl Γ' b = rl Γ b) : fv Γ' ω' k a i = fv Γ ω k a i := by
  unfold fv
  rw [h1, hr i]
  split
  · cases e : ω.2.1 a i with
    | none => rfl
    | some b => show va_rf (some (rl Γ' b)) = va_rf (some (rl Γ b)); rw [hrl i b e]
  · rfl
theorem WE_re {Γ Γ' : Ga} {ω ω' : Wo} {a : Nat} {κ κ' : Nat → Nat} (hκ : κ' a = κ a) (hC : gC Γ' = gC Γ) (hr : ω'.2.1 a = ω.2.1 a) (h1 : ω'.1 a = ω.1 a) (h3 : κ a ≠ 24 ∨ ω'.2.2 = ω.2.2) (hrl : ∀ i b, ω.2.1 a i = some b → rl Γ' b = rl Γ b) : WE Γ' ω' a κ' = WE Γ ω a κ := by
  unfold WE EK EO EI ER
  have e1 : fv Γ' ω' (κ' a) a = fv Γ ω (κ a) a := by rw [hκ]; funext i; exact fv_re (fun i => congrFun hr i) h1 hrl
  have e2 : (fun j => (ω'.2.1 a j).map (rl Γ')) = fun j => (ω.2.1 a j).map (rl Γ) := by
    funext j
    rw [hr]
    cases e : ω.2.1 a j with
    | none => rfl
    | some b => show some (rl Γ' b) = some (rl Γ b); rw [hrl j b e]
  rw [e1, e2, h1, hC, hκ]
  split
  · rfl
  · split
    · rfl
    · split
      · rfl
      · split
        · rename_i h; rcases h3 with h3 | h3
          · exact absurd h h3
          · rw [h3]
        · rfl
theorem rl_re {Γ : Ga} {nn : Nat → Nat} {h9 b : Nat} (h : b < 243 ∨ 1000 ≤ b) : rl (re Γ nn h9) b = rl Γ b := by
  rcases h with h | h
  · rw [rl_lt h, rl_lt h]; rfl
  · unfold rl; rw [if_neg (by omega), if_neg (by omega), if_neg (by omega), if_neg (by omega)]; rfl
theorem RN.reb {Γ : Ga} {ω : Wo} {nn : Nat → Nat} {h9 a : Nat} (h : RN ω) (ha : a < 243) : ∀ i b, ω.2.1 a i = some b → rl (re Γ nn h9) b = rl Γ b := fun i b e => rl_re (h a ha i b e)
/-- the run's own cells alone -/
theorem Rp.sub {Γ : Ga} {n : Nat} {ω : Wo} {H : Heap} {κ : Nat → Nat} (h : Rp Γ n ω H κ) (hn : 243 ≤ n) (hκ : Kl κ n) (nn : Nat → Nat) (h9 : Nat) : Rp (re Γ nn h9) 243 ω H := by
  refine ⟨fun k x hx => ?_, h.2.1, Nn.le (Nat.le_refl _), h.2.2.2⟩
  by_cases hk : k < 243
  · rw [WL_get hk] at hx
    have e := Option.some.inj hx
    have e1 : rl (re Γ nn h9) k = rl Γ k := rl_re (Or.inl hk)
    have e2 : WE (re Γ nn h9) ω k = WE Γ ω k κ := WE_re (hκ.1 k hk).symm rfl rfl rfl (Or.inr rfl) (h.2.2.2.reb hk)
    rw [← e, e1, e2]
    exact h.1 k _ (WL_get (by omega))
  · rw [List.getElem?_eq_none (by rw [WL_len]; omega)] at hx; cases hx
/-- the law's cells beside the run's, behind a call -/
theorem Rp.join {Γ : Ga} {n : Nat} {ω ω' : Wo} {H H1 : Heap} {κ : Nat → Nat} {nn : Nat → Nat} {h9 : Nat} (h : Rp Γ n ω H κ) (hκ : Kl κ n) (h1 : Rp (re Γ nn h9) 243 ω' H1) (hk : ∀ q, q < H.size → ¬ gA (re Γ nn h9) q → H1[q]? = H[q]?) (hlt : ∀ i, 243 + i < n → gN Γ i < h9) : Rp Γ n (mxw ω' ω) H1 κ := by
  have hn9 := h.2.2.1
  refine ⟨fun k x hx => ?_, fun a i => ?_, hn9, fun a ha i b e => ?_⟩
  · by_cases hk9 : k < n
    · rw [WL_get hk9] at hx
      rw [← Option.some.inj hx]
      by_cases hk2 : k < 243
      · have e1 : rl (re Γ nn h9) k = rl Γ k := rl_re (Or.inl hk2)
        have e2 : WE Γ (mxw ω' ω) k κ = WE (re Γ nn h9) ω' k := WE_re (hκ.1 k hk2) rfl (mx_lt hk2).2 (mx_lt hk2).1 (Or.inr rfl) (fun i b e => (h1.2.2.2.reb (Γ := Γ) (nn := nn) (h9 := h9) hk2 i b e ▸ rfl))
        have := h1.1 k _ (WL_get hk2)
        rw [e1, ← e2] at this
        exact this
      · obtain ⟨i, rfl⟩ : ∃ i, k = 243 + i := ⟨k - 243, by omega⟩
        have e2 : WE Γ (mxw ω' ω) (243 + i) κ = WE Γ ω (243 + i) κ := WE_re rfl rfl (mx_ge (by omega)).2 (mx_ge (by omega)).1 (Or.inl (hκ.2 _ (by omega) (by omega))) (fun _ _ _ => rfl)
        have h2 := h.1 (243 + i) _ (WL_get hk9)
        have h3 := h.lt hk9
        have h4 := hn9.2 i hk9
        have h5 := hlt i hk9
        have h6 : rl Γ (243 + i) = gN Γ i := rl_nw (by have := hn9.1; omega)
        rw [e2]
        have h7 : H1[rl Γ (243 + i)]? = H[rl Γ (243 + i)]? := by
          refine hk _ h3 (fun q => ?_)
          have q : (gB Γ ≤ rl Γ (243 + i) ∧ rl Γ (243 + i) < gB Γ + 243) ∨ h9 ≤ rl Γ (243 + i) := q
          omega
        exact h2.kept h7
    · rw [List.getElem?_eq_none (by rw [WL_len]; omega)] at hx; cases hx
  · show Rg ((if a < 243 then ω'.1 a else ω.1 a) i)
    split
    · exact h1.2.1 a i
    · exact h.2.1 a i
  · rw [(mx_lt ha).2] at e
    exact h1.2.2.2 a ha i b e
/-- fewer of the law's cells, told anew -/
theorem Rp.to {Γ : Ga} {n : Nat} {ω : Wo} {H : Heap} {κ : Nat → Nat} (h : Rp Γ n ω H κ) (hn : 243 ≤ n) (hκ : Kl κ n) {κ' : Nat → Nat} {n' : Nat} (hκ' : Kl κ' n') (nn : Nat → Nat) (h9 : Nat) : Rp (re Γ nn h9) 243 ω H κ' := by
  have h1 := h.sub hn hκ nn h9
  refine ⟨fun k x hx => ?_, h1.2⟩
  by_cases hk : k < 243
  · rw [WL_get hk] at hx
    have e2 : WE (re Γ nn h9) ω k κ' = WE (re Γ nn h9) ω k := by unfold WE; rw [hκ'.1 k hk]
    rw [← Option.some.inj hx, e2]
    exact h1.1 k _ (WL_get hk)
  · rw [List.getElem?_eq_none (by rw [WL_len]; omega)] at hx; cases hx
