/-! the law's rows: arrays of what was seen, acts, undoing, the snapshot -/
theorem Cx.ren {Γ : Ga} {p : Program} {l : Launch} {s : State} {m : MethodId} {args : Array Value} {meth : Method} {c : Code} {cc : ByteArray} {own : String} {nL : Nat} (C : Cx Γ p l s m args meth c cc own nL) (nn : Nat → Nat) : Cx (re Γ nn (gH Γ)) p l s m args meth c cc own nL :=
  ⟨C.1, C.2.1, C.2.2.1, C.2.2.2.1, C.2.2.2.2.1, C.2.2.2.2.2.1.ren (gA_re (Nat.le_refl _)), C.2.2.2.2.2.2⟩
def zw (ω : Wo) : Wo := mxw ω ((fun _ _ => 0, fun _ _ => none, ω.2.2) : Wo)
theorem zw_Z (ω : Wo) : ZN (zw ω) 243 := fun x hx => ⟨(mx_ge hx).1, (mx_ge hx).2⟩
/-- the law's own cells: arrays of what was seen -/
def Ki (κ : Nat → Nat) (n : Nat) : Prop := (∀ a, a < 243 → κ a = kd a) ∧ ∀ a, 243 ≤ a → a < n → κ a = 26
theorem Ki.l {κ : Nat → Nat} {n : Nat} (h : Ki κ n) : Kl κ n := ⟨h.1, fun a h1 h2 => by rw [h.2 a h1 h2]; decide⟩
theorem Ki.k0 : Ki kd 243 := ⟨fun _ _ => rfl, fun a h1 h2 => by omega⟩
def kS (κ : Nat → Nat) (n : Nat) : Nat → Nat := fun x => if x = n then 26 else κ x
theorem Ki.s {κ : Nat → Nat} {n : Nat} (h : Ki κ n) (hn : 243 ≤ n) : Ki (kS κ n) (n + 1) := ⟨fun a ha => (if_neg (by omega)).trans (h.1 a ha), fun a h1 h2 => by
  by_cases e : a = n
  · exact if_pos e
  · exact (if_neg e).trans (h.2 a h1 (by omega))⟩
def k26 : Nat → Nat := fun x => if x < 243 then kd x else 26
theorem k26_i : Ki k26 244 := ⟨fun a ha => if_pos ha, fun a h1 _ => if_neg (by omega)⟩
theorem Rp.zw0 {Γ : Ga} {ω : Wo} {H : Heap} {κ : Nat → Nat} (h : Rp Γ 243 ω H κ) : Rp Γ 243 (zw ω) H κ := by
  refine ⟨fun k x hx => ?_, fun a i => ?_, h.2.2.1, fun a ha i b e => ?_⟩
  · by_cases hk : k < 243
    · rw [WL_get hk] at hx
      have e2 : WE Γ (zw ω) k κ = WE Γ ω k κ := WE_re rfl rfl (mx_lt hk).2 (mx_lt hk).1 (Or.inr rfl) (fun _ _ _ => rfl)
      rw [← Option.some.inj hx, e2]
      exact h.1 k _ (WL_get hk)
    · rw [List.getElem?_eq_none (by rw [WL_len]; omega)] at hx; cases hx
  · show Rg ((if a < 243 then ω.1 a else fun _ => 0) i)
    split
    · exact h.2.1 a i
    · exact (show Rg 0 from ⟨by decide, by decide⟩)
  · have e0 : (zw ω).2.1 a = ω.2.1 a := (mx_lt ha).2
    rw [e0] at e
    exact h.2.2.2 a ha i b e
theorem gB_re (Γ : Ga) (f : Nat → Nat) (h9 : Nat) : gB (re Γ f h9) = gB Γ := rfl
section LAW5
variable {κ : Nat → Nat} {Γ : Ga} {nn : Nat → Nat} {p : Program} {l : Launch} {e : Env} {R : Room} {s : State} {m : MethodId} {args : Array Value} {below : List Frame} {meth : Method} {c : Code} {Q : State → Prop} {n ce sl : Nat} {cc : ByteArray} {own : String} {nL pc pc' idx a kk k : Nat} {L : List (Option Value)} {S : List Value} {ω : Wo} {D mx sx : Nat} {M : Int} {σ : Row} {n0 : Nat} {hh : Nat → Row}
theorem j_swap {nn' : Nat → Nat} {κ' : Nat → Nat} {n' : Nat} (hn : 243 ≤ n) (hκ : Kl κ n) (hκ' : Kl κ' n') (kx : J (re Γ nn' (gH Γ)) p l e R s m args below meth c Q 243 ce sl pc L S ω κ') : J (re Γ nn (gH Γ)) p l e R s m args below meth c Q n ce sl pc L S ω κ := by
  intro H locs ls hP hS hl
  have h1 : Rp (re Γ nn' (gH Γ)) 243 ω H κ' := Rp.to (Γ := re Γ nn (gH Γ)) hP hn hκ hκ' nn' (gH Γ)
  exact kx H locs ls h1 hS hl
set_option maxHeartbeats 4000000 in
theorem j_seen (C : Cx (re Γ nn (gH Γ)) p l s m args meth c cc RL nL) (hK3 : Kt3 s) (hn9 : 243 ≤ n) (hn8 : n < 1000) (hκ : Ki κ n) (hsl : l.stackTraces = false) (hg : gH Γ ≤ s.heap.size) (hV : INV M ω σ n0 hh) (K : Lk RL idx yL_seen) (hD : 10 ≤ D) (hL : L.length = nL) (hcat : (S.map fun v => v.category).sum ≤ 8) (hce : ce + 200 ≤ mx ∧ sl + 1400 ≤ sx) (dd : Dx cc pc (.invokestatic idx) 3 pc')
    (kx : ∀ (nn' : Nat → Nat) (q : Nat), (∀ i, i + 243 < n → nn' i = nn i) → nn' (n - 243) = q → J (re Γ nn' (gH Γ)) p l e (rmk D mx sx) s m args below meth c Q (n + 1) (ce + 200) (sl + 1400) pc' L (.ref q :: S) (wf ω n (SEEN σ)) (kS κ n)) :
    J (re Γ nn (gH Γ)) p l e (rmk D mx sx) s m args below meth c Q n ce sl pc L (.ref (rl Γ 0) :: S) ω κ := by
  intro H locs ls hP hS hl
  obtain ⟨hd, rfl⟩ := dd
  have hsz0 : gB (re Γ nn (gH Γ)) + 243 ≤ H.size := (hP.kinds hn9 hκ.l Kl.k0).size (by decide) (Nat.le_refl _)
  have hsz : gB Γ + 243 ≤ H.size := hsz0
  have hHg : gH Γ ≤ H.size := Nat.le_trans hg hS.1
  have hAB : ∀ q, gA (re Γ (fun i => H.size + i) H.size) q → gA (re Γ nn (gH Γ)) q := fun q hq => gA_re (Γ := re Γ nn (gH Γ)) (nn := fun i => H.size + i) (h9 := H.size) hHg q hq
  have hP9 : Rp (re Γ (fun i => H.size + i) H.size) 243 (zw ω) H k26 := Rp.zw0 (Rp.to (Γ := re Γ nn (gH Γ)) hP hn9 hκ.l k26_i.l (fun i => H.size + i) H.size)
  have hV9 : INV M (zw ω) σ n0 hh := hV.mx
  have hr := runL (Γ' := re Γ (fun i => H.size + i) H.size) (S := S) (as := [.ref (rl Γ 0)]) (ce := ce) (sl := sl) (mx := mx) (sx := sx) (e := e) (below := below) (D := D) C hK3 (c_seen (Γ := re Γ (fun i => H.size + i) H.size) (κ := k26) hsl hV9 k26_i.l rfl (zw_Z ω 243 (Nat.le_refl _)).1) Ew.ex oL_seen K ⟨hD, by decide⟩ rfl hd hL hcat hce (fun U hU hW => ⟨(C.2.2.2.2.2.1.next hW hU hS).ren hAB, ⟨by show U.heap.size + 243 = H.size + 0 + 243; rw [hU], Nat.le_refl _, rfl, hsz, fun i => by show H.size + i = H.size + 0 + i; omega⟩⟩) hP9 hl (locs := locs)
  refine va_callq hr hS (fun q _ h => hAB q h) (fun q h => hAB q h) (fun r ω' t H1 locs1 ht hvm hpo hB _ hk hS1 => ?_)
  obtain ⟨b9, rfl, rfl, rfl⟩ := hpo
  have hB : Rp (re Γ (fun i => H.size + i) H.size) 244 (wf (zw ω) 243 (SEEN σ)) t.heap k26 := hB
  rw [ht] at hB
  have eq0 : rl (re Γ (fun i => H.size + i) H.size) 243 = H.size := (rl_nw (Γ := re Γ (fun i => H.size + i) H.size) (i := 0) (by decide)).trans (Nat.add_zero _)
  have hlt9 : ∀ i, 243 + i < n → nn i < H.size := fun i hi => by
    have h1 := hP.lt hi
    rw [rl_nw (by omega)] at h1
    exact h1
  refine kx (fun i => if i + 243 = n then H.size else nn i) _ (fun i hi => if_neg (by omega)) ((if_pos (by omega)).trans eq0.symm) H1 locs1 ls ?_ hS1 hl
  refine ⟨fun k x hx => ?_, fun a i => ?_, ⟨by omega, fun i hi => ?_⟩, fun a ha i b e => ?_⟩
  · by_cases hk9 : k < n + 1
    · rw [WL_get hk9] at hx
      rw [← Option.some.inj hx]
      by_cases hk2 : k < 243
      · have h1 := hB.1 k _ (WL_get (by omega))
        have e1 : rl (re Γ (fun i => if i + 243 = n then H.size else nn i) (gH Γ)) k = rl (re Γ (fun i => H.size + i) H.size) k := by rw [rl_lt hk2, rl_lt hk2, gB_re, gB_re]
        have e2 : WE (re Γ (fun i => if i + 243 = n then H.size else nn i) (gH Γ)) (wf ω n (SEEN σ)) k (kS κ n) = WE (re Γ (fun i => H.size + i) H.size) (wf (zw ω) 243 (SEEN σ)) k k26 := by
          refine WE_re ((((hκ.s hn9).1 k hk2)).trans (k26_i.1 k hk2).symm) rfl ?_ ?_ (Or.inr rfl) (fun i b e => ?_)
          · exact ((mx_lt hk2).2 : (zw ω).2.1 k = ω.2.1 k).symm
          · exact (wf_ne _ _ (by omega)).trans (((mx_lt hk2).1 : (zw ω).1 k = ω.1 k).symm.trans (wf_ne _ _ (by omega)).symm)
          · have e3 : ω.2.1 k i = some b := (congrFun ((mx_lt hk2).2 : (zw ω).2.1 k = ω.2.1 k) i).symm.trans e
            rcases hP.2.2.2 k hk2 i b e3 with h3 | h3
            · rw [rl_lt h3, rl_lt h3, gB_re, gB_re]
            · unfold rl; rw [if_neg (by omega), if_neg (by omega), if_neg (by omega), if_neg (by omega)]; rfl
        rw [e1, e2]; exact h1
      · obtain ⟨j, rfl⟩ : ∃ j, k = 243 + j := ⟨k - 243, by omega⟩
        have er : rl (re Γ (fun i => if i + 243 = n then H.size else nn i) (gH Γ)) (243 + j) = if j + 243 = n then H.size else nn j := rl_nw (by omega)
        by_cases hk3 : 243 + j = n
        · have h1 := hB.1 243 _ (WL_get (by decide))
          rw [WE_int (k26_i.2 243 (by decide) (by decide)) (by decide), eq0, wf_same] at h1
          rw [WE_int ((hκ.s hn9).2 (243 + j) (by omega) (by omega)) (by decide), er, if_pos (by omega), hk3, wf_same]
          exact h1
        · have h1 := hP.1 (243 + j) _ (WL_get (by omega))
          have e8 : rl (re Γ nn (gH Γ)) (243 + j) = nn j := rl_nw (by omega)
          rw [WE_int (hκ.2 (243 + j) (by omega) (by omega)) (by decide), e8] at h1
          rw [WE_int ((hκ.s hn9).2 (243 + j) (by omega) (by omega)) (by decide), er, if_neg (by omega), wf_ne _ _ (by omega)]
          have h5 := hlt9 j (by omega)
          have h6 := hP.2.2.1.2 j (by omega)
          refine va_at.kept h1 (hk (nn j) h5 (fun q => ?_))
          have q : (gB Γ ≤ nn j ∧ nn j < gB Γ + 243) ∨ H.size ≤ nn j := q
          have h6 : gH Γ ≤ nn j ∧ (nn j < gB Γ ∨ gB Γ + 243 ≤ nn j) ∧ _ := h6
          omega
    · rw [List.getElem?_eq_none (by rw [WL_len]; omega)] at hx; cases hx
  · by_cases ha : a = n
    · subst ha
      have h1 := hB.2.1 243 i
      rw [wf_same] at h1 ⊢
      exact h1
    · rw [wf_ne _ _ ha]; exact hP.2.1 a i
  · show gH Γ ≤ (if i + 243 = n then H.size else nn i) ∧ ((if i + 243 = n then H.size else nn i) < gB Γ ∨ gB Γ + 243 ≤ (if i + 243 = n then H.size else nn i)) ∧ ∀ j, j < i → (if j + 243 = n then H.size else nn j) ≠ (if i + 243 = n then H.size else nn i)
    by_cases e1 : i + 243 = n
    · rw [if_pos e1]
      refine ⟨hHg, Or.inr hsz, fun j hj => ?_⟩
      rw [if_neg (by omega)]
      have := hlt9 j (by omega)
      omega
    · rw [if_neg e1]
      have h6 : gH Γ ≤ nn i ∧ (nn i < gB Γ ∨ gB Γ + 243 ≤ nn i) ∧ ∀ j, j < i → nn j ≠ nn i := hP.2.2.1.2 i (by omega)
      refine ⟨h6.1, h6.2.1, fun j hj => ?_⟩
      rw [if_neg (by omega)]; exact h6.2.2 j hj
  · exact hP.2.2.2 a ha i b e
theorem j_acts {b Ls : Nat} {xs : Nat → Int32} {i9 : Int} (C : Cx (re Γ nn (gH Γ)) p l s m args meth c cc RL nL) (hK3 : Kt3 s) (hn9 : 243 ≤ n) (hκ : Kl κ n) (hsl : l.stackTraces = false) (hg : gH Γ ≤ s.heap.size) (hV : INV M ω σ n0 hh) (hM : M + 70000 ≤ 100000000) (hX : Sc Γ b Ls xs s) (hLs : Ls < 2000) (hi : 0 ≤ i9 ∧ i9 ≤ 1000) (K : Lk RL idx yL_acts) (hD : 24 ≤ D) (hL : L.length = nL) (hcat : (S.map fun v => v.category).sum ≤ 8) (hce : ce + 40 ≤ mx ∧ sl + 300 ≤ sx) (dd : Dx cc pc (.invokestatic idx) 3 pc')
    (kx : ∀ (z : Int) (W : Wo), Rg z → AP M σ n0 hh z W → (∀ x, 243 ≤ x → W.1 x = ω.1 x) → J (re Γ nn (gH Γ)) p l e (rmk D mx sx) s m args below meth c Q n (ce + 40) (sl + 300) pc' L (.int (iI z) :: S) W κ) :
    J (re Γ nn (gH Γ)) p l e (rmk D mx sx) s m args below meth c Q n ce sl pc L (.int (iI i9) :: .ref b :: .ref (rl Γ 0) :: S) ω κ := by
  intro H locs ls hP hS hl
  obtain ⟨hd, rfl⟩ := dd
  have hsz : gB Γ + 243 ≤ H.size := (hP.kinds hn9 hκ Kl.k0).size (by decide) (Nat.le_refl _)
  have hHg : gH Γ ≤ H.size := Nat.le_trans hg hS.1
  have hAB : ∀ q, gA (re Γ (fun i => H.size + i) H.size) q → gA (re Γ nn (gH Γ)) q := fun q hq => gA_re (Γ := re Γ nn (gH Γ)) (nn := fun i => H.size + i) (h9 := H.size) hHg q hq
  have hP9 : Rp (re Γ (fun i => H.size + i) H.size) 243 (zw ω) H := Rp.zw0 (Rp.to (Γ := re Γ nn (gH Γ)) hP hn9 hκ Kl.k0 (fun i => H.size + i) H.size)
  have hV9 : INV M (zw ω) σ n0 hh := hV.mx
  have hX9 : Sc (re Γ nn (gH Γ)) b Ls xs s := hX.ren (gA_re (Nat.le_refl _))
  have hr := runL (Γ' := re Γ (fun i => H.size + i) H.size) (S := S) (as := [.ref (rl Γ 0), .ref b, .int (iI i9)]) (ce := ce) (sl := sl) (mx := mx) (sx := sx) (e := e) (below := below) (D := D) C hK3 (c_acts (Γ := re Γ (fun i => H.size + i) H.size) (xs := xs) (b := b) hsl hV9 hM (zw_Z ω) hLs hi) (fun U g mk a h => ⟨h.1, Sc.ex U g mk a h.2⟩) oL_acts K ⟨hD, by decide⟩ rfl hd hL hcat hce (fun U hU hW => ⟨(C.2.2.2.2.2.1.next hW hU hS).ren hAB, ⟨by show U.heap.size + 243 = H.size + 0 + 243; rw [hU], Nat.le_refl _, rfl, hsz, fun i => by show H.size + i = H.size + 0 + i; omega⟩, (hX9.next hW hU hS).ren hAB⟩) hP9 hl (locs := locs)
  refine va_calli hr hS (fun q _ h => hAB q h) (fun q h => hAB q h) (fun r ω' t H1 locs1 ht hvm hpo hB _ hk hS1 => ?_)
  obtain ⟨z, rfl, hz0, hz⟩ := hpo
  have hB : Rp (re Γ (fun i => H.size + i) H.size) 243 ω' t.heap := hB
  rw [ht] at hB
  have hlt9 : ∀ i, 243 + i < n → gN (re Γ nn (gH Γ)) i < H.size := fun i hi => by
    have h1 := hP.lt hi
    have h2 := hP.2.2.1.1
    rw [rl_nw (by omega)] at h1
    exact h1
  have hJ : Rp (re Γ nn (gH Γ)) n (mxw ω' ω) H1 κ := Rp.join (Γ := re Γ nn (gH Γ)) (nn := fun i => H.size + i) (h9 := H.size) hP hκ hB hk hlt9
  refine kx z (mxw ω' ω) hz0 ⟨hz.1, hz.2.imp (fun q => ⟨q.1, q.2.mx⟩) (fun q => ⟨q.1, let ⟨σ', h1, h2⟩ := q.2; ⟨σ', h1.mx, h2⟩⟩)⟩ (fun x hx => (mx_ge hx).1) H1 locs1 ls hJ hS1 hl
theorem j_alike {q1 q2 a1 a2 : Nat} (C : Cx Γ p l s m args meth c cc RL nL) (hK3 : Kt3 s) (h1 : At n a1 26 κ) (h2 : At n a2 26 κ) (e1 : rl Γ a1 = q1) (e2 : rl Γ a2 = q2) (hs : ω.1 a1 = ω.1 a2) (K : Lk RL idx yL_areAlike) (hD : 1 ≤ D) (hL : L.length = nL) (hcat : (S.map fun v => v.category).sum ≤ 8) (hce : ce ≤ mx ∧ sl ≤ sx) (dd : Dx cc pc (.invokestatic idx) 3 pc')
    (kx : J Γ p l e (rmk D mx sx) s m args below meth c Q n ce sl pc' L (.int (iI 1) :: S) ω κ) : J Γ p l e (rmk D mx sx) s m args below meth c Q n ce sl pc L (.ref q2 :: .ref q1 :: S) ω κ := by
  subst e1; subst e2
  refine j_cL (as := [.ref (rl Γ a1), .ref (rl Γ a2)]) (mc := 0) (ms := 0) C hK3 (c_areAlike h1 h2) Ex0.ex (fun _ _ _ _ _ _ _ => trivial) oL_areAlike K ⟨hD, by decide⟩ rfl hL hcat hce dd ?_
  intro z W _ hp
  obtain ⟨hz, -, e9⟩ := hp
  have hz1 : z = 1 := hz.mpr (fun j _ => by rw [hs])
  rw [e9, hz1]
  exact kx
theorem j_isw (C : Cx Γ p l s m args meth c cc RL nL) (hK3 : Kt3 s) (hn9 : 243 ≤ n) (hκ : Kl κ n) (hsl : l.stackTraces = false) (hV : INV M ω σ n0 hh) (hM : M + 6000 ≤ 100000000) (K : Lk RL idx yL_isWell) (hD : 23 ≤ D) (hL : L.length = nL) (hcat : (S.map fun v => v.category).sum ≤ 8) (hce : ce + 300 ≤ mx ∧ sl + 1800 ≤ sx) (dd : Dx cc pc (.invokestatic idx) 3 pc')
    (kx : ∀ W : Wo, INV M W σ n0 hh → (∀ x, 243 ≤ x → W.1 x = ω.1 x) → J Γ p l e (rmk D mx sx) s m args below meth c Q n (ce + 300) (sl + 1800) pc' L (.int (iI 1) :: S) W κ) : J Γ p l e (rmk D mx sx) s m args below meth c Q n ce sl pc L (.ref (rl Γ 0) :: S) ω κ := by
  refine j_cM (as := [.ref (rl Γ 0)]) C hK3 hn9 hκ (fun h => c_isWell (Γ := re Γ (gN Γ) h) hsl hV hM) oL_isWell K ⟨hD, by decide⟩ rfl hL hcat hce dd (fun z W hz hp => ?_)
  obtain ⟨rfl, hp⟩ := hp
  exact kx _ hp.mx (fun x hx => (mx_ge hx).1)
theorem j_inr {b Ls : Nat} {xs : Nat → Int32} {i m9 : Int} (C : Cx Γ p l s m args meth c cc RL nL) (hK3 : Kt3 s) (hX : Sc Γ b Ls xs s) (hLs : Ls < 2000) (hi : 0 ≤ i ∧ i < 2000) (hm : 0 < m9 ∧ m9 < 2000) (K : Lk RL idx yL_in) (hD : 2 ≤ D) (hL : L.length = nL) (hcat : (S.map fun v => v.category).sum ≤ 8) (hce : ce ≤ mx ∧ sl ≤ sx) (dd : Dx cc pc (.invokestatic idx) 3 pc')
    (kx : ∀ z : Int, (0 ≤ z ∧ z < m9) → J Γ p l e (rmk D mx sx) s m args below meth c Q n ce sl pc' L (.int (iI z) :: S) ω κ) : J Γ p l e (rmk D mx sx) s m args below meth c Q n ce sl pc L (.int (iI m9) :: .int (iI i) :: .ref b :: S) ω κ := by
  refine j_cL (as := [.ref b, .int (iI i), .int (iI m9)]) (mc := 0) (ms := 0) C hK3 (c_in hLs hi hm) Sc.ex (fun H locs U hP hS hU hW => hX.next hW hU hS) oL_in K ⟨hD, by decide⟩ rfl hL hcat hce dd ?_
  intro z W _ hp
  obtain ⟨hz, e9⟩ := hp
  rw [e9]
  exact kx z hz
theorem j_undo (C : Cx Γ p l s m args meth c cc RL nL) (hK3 : Kt3 s) (hn9 : 243 ≤ n) (hκ : Kl κ n) (hsl : l.stackTraces = false) (hV : INV M ω σ n0 hh) (h0 : 0 < n0) (K : Lk RL idx yL_undo) (hD : 22 ≤ D) (hL : L.length = nL) (hcat : (S.map fun v => v.category).sum ≤ 8) (hce : ce + 1 ≤ mx ∧ sl + 6 ≤ sx) (dd : Dx cc pc (.invokestatic idx) 3 pc')
    (kx : ∀ (z : Int) (W : Wo), Rg z → 0 ≤ z → INV M W (hh (n0 - 1)) (n0 - 1) hh → (∀ x, 243 ≤ x → W.1 x = ω.1 x) → J Γ p l e (rmk D mx sx) s m args below meth c Q n (ce + 1) (sl + 6) pc' L (.int (iI z) :: S) W κ) : J Γ p l e (rmk D mx sx) s m args below meth c Q n ce sl pc L (.ref (rl Γ 0) :: S) ω κ := by
  obtain ⟨q5, q8, π, r1, r2, r3⟩ := hV.pa
  have a9 := r1 (n0 - 1) (by omega)
  have b9 := r3 (n0 - 1) (by omega)
  refine j_cMW (as := [.ref (rl Γ 0)]) (k := 1) C hK3 hn9 hκ (fun h => w_undo (Γ := re Γ (gN Γ) h) (by decide) (c_X8_undo (Γ := re Γ (gN Γ) h) hsl hV.cr hV.st hV.ri hV.wi (D := 75 + 21 * π (n0 - 1)) (τ := hh (n0 - 1)) (Mt := M) q8 q5 (fun hn => ⟨a9.2.1, bsP a9.1, by omega, b9.1, b9.2.1⟩)) (fun E ω1 hE => hE.2.1)) o_w_undo K ⟨hD, by decide⟩ rfl hL hcat hce dd (fun z W hz hp => ?_)
  rcases hp with ⟨rfl, h1, h2, h3⟩ | ⟨rfl, -, -, h1⟩
  · exact kx _ _ hz (by omega) (INV_undo hV h0 h2 h3).mx (fun x hx => (mx_ge hx).1)
  · omega
theorem INV_save (hV : INV M ω σ n0 hh) {W : Wo} (hF : Fr 43 ω W) (hS : St W 43 σ) : INV M (wi W 0 3 1) σ n0 hh := by
  have e1 : ∀ x, x ≠ 0 → (x < 43 ∨ 64 ≤ x) → (wi W 0 3 1).1 x = ω.1 x := fun x h0 hx => (wi_ne h0).trans (hF.1 x hx)
  have e2 : ∀ x, x ≠ 46 → (wi W 0 3 1).2.1 x = ω.2.1 x := fun x hx => hF.2.1 x hx
  refine ⟨?_, ⟨hV.st.fr hV.ri.cc (fun x _ _ => e1 x (by omega) (by omega)) (fun x _ _ => e2 x (by omega)), hV.ri, hV.wi, hV.wj⟩, ⟨hV.pa.of ⟨Int.le_refl _, hV.ri.2.1⟩ ?_ (fun x _ _ => e1 x (by omega) (by omega)) (fun x _ => e2 x (by omega)), hV.hj⟩, ⟨qr_of (fun x _ _ => e2 x (by omega)) hV.q22, ?_⟩, ?_⟩
  · have := hV.cr; unfold CR at this ⊢; rw [e2 0 (by decide), e2 68 (by decide), e2 73 (by decide)]; exact this
  · have : (wi W 0 3 1).1 0 5 = W.1 0 5 := by simp [wi]
    rw [this]; exact congrFun (hF.1 0 (by omega)) 5
  · exact qr_of (fun x _ _ => rfl) hS.q
  · rw [e1 68 (by decide) (by decide)]; exact hV.tx
theorem j_save (C : Cx Γ p l s m args meth c cc RL nL) (hn9 : 243 ≤ n) (hκ : Kl κ n) (hsl : l.stackTraces = false) (hV : INV M ω σ n0 hh) (K : Lk RL idx yX8_save) (hD : 3 ≤ D) (hL : L.length = nL) (hcat : (S.map fun v => v.category).sum ≤ 8) (hce : ce ≤ mx ∧ sl ≤ sx) (dd : Dx cc pc (.invokevirtual idx) 3 pc')
    (kx : ∀ W : Wo, Rg (σ 0) → INV M W σ n0 hh → W.1 0 3 = 1 → St W 43 σ → (∀ x, 243 ≤ x → W.1 x = ω.1 x) → J Γ p l e (rmk D mx sx) s m args below meth c Q n ce sl pc' L (.int (iI (σ 0)) :: S) W κ) : J Γ p l e (rmk D mx sx) s m args below meth c Q n ce sl pc L (.ref (rl Γ 0) :: S) ω κ := by
  refine j_cMC (as := []) C hn9 hκ (fun h => c_X8_save (Γ := re Γ (gN Γ) h) hsl hV.cr hV.st hV.ri hV.wi hV.q43) oX8_save K ⟨_, rfl, rfl⟩ ⟨hD, by decide⟩ rfl hL hcat hce dd (fun z W9 hz hp => ?_)
  obtain ⟨rfl, W, hF, hS, rfl⟩ := hp
  refine kx _ hz (INV_save hV hF hS).mx ?_ ?_ (fun x hx => (mx_ge hx).1)
  · rw [(mx_lt (by decide)).1]; simp [wi]
  · refine hS.fr hV.ri.cc (fun x h1 h2 => ?_) (fun x h1 h2 => ?_)
    · rw [(mx_lt (by omega)).1]; exact wi_ne (by omega)
    · rw [(mx_lt (by omega)).2]; rfl
theorem INV_restore (hV : INV M ω σ n0 hh) {τ : Row} (hI : RI M τ) (hW : WI τ) (hJ : WJ τ) {W : Wo} (hF : Fr 1 ω W) (hS : St W 1 τ) : INV M (wi W 0 5 0) τ 0 hh := by
  have e1 : ∀ x, x ≠ 0 → 22 ≤ x → (wi W 0 5 0).1 x = ω.1 x := fun x h0 hx => (wi_ne h0).trans (hF.1 x (by omega))
  have e2 : ∀ x, x ≠ 4 → (wi W 0 5 0).2.1 x = ω.2.1 x := fun x hx => hF.2.1 x hx
  refine ⟨?_, ⟨hS.fr hI.cc (fun x _ _ => wi_ne (by omega)) (fun x _ _ => rfl), hI, hW, hJ⟩, ⟨hV.pa.cut (Nat.zero_le _) (by simp [wi]) (fun x _ _ => e1 x (by omega) (by omega)) (fun x _ => e2 x (by omega)), fun j hj => absurd hj (by omega)⟩, ⟨qr_of (fun x _ _ => e2 x (by omega)) hV.q22, qr_of (fun x _ _ => e2 x (by omega)) hV.q43⟩, ?_⟩
  · have := hV.cr; unfold CR at this ⊢; rw [e2 0 (by decide), e2 68 (by decide), e2 73 (by decide)]; exact this
  · rw [e1 68 (by decide) (by decide)]; exact hV.tx
theorem j_restore {τ : Row} (C : Cx Γ p l s m args meth c cc RL nL) (hK3 : Kt3 s) (hn9 : 243 ≤ n) (hκ : Kl κ n) (hsl : l.stackTraces = false) (hV : INV M ω σ n0 hh) (h3 : ω.1 0 3 = 1) (hT : St ω 43 τ) (hI : RI M τ) (hW : WI τ) (hJ : WJ τ) (K : Lk RL idx yL_restore) (hD : 22 ≤ D) (hL : L.length = nL) (hcat : (S.map fun v => v.category).sum ≤ 8) (hce : ce + 1 ≤ mx ∧ sl + 6 ≤ sx) (dd : Dx cc pc (.invokestatic idx) 3 pc')
    (kx : ∀ W : Wo, Rg (τ 0) → INV M W τ 0 hh → W.1 0 5 = 0 → (∀ x, 243 ≤ x → W.1 x = ω.1 x) → J Γ p l e (rmk D mx sx) s m args below meth c Q n (ce + 1) (sl + 6) pc' L (.int (iI (τ 0)) :: S) W κ) : J Γ p l e (rmk D mx sx) s m args below meth c Q n ce sl pc L (.ref (rl Γ 0) :: S) ω κ := by
  refine j_cMW (as := [.ref (rl Γ 0)]) (k := 1) C hK3 hn9 hκ (fun h => w_restore (Γ := re Γ (gN Γ) h) (by decide) (c_X8_restore (Γ := re Γ (gN Γ) h) hsl hV.cr hV.st hV.ri hV.wi (v := 1) (τ := τ) (Mt := M) h3 (fun _ => ⟨hT, hI⟩)) (fun E ω1 hE => hE.2.1)) o_w_restore K ⟨hD, by decide⟩ rfl hL hcat hce dd (fun z W9 hz hp => ?_)
  rcases hp with ⟨rfl, -, W, hF, hS, rfl⟩ | ⟨rfl, -, -, h1⟩
  · refine kx _ hz (INV_restore hV hI hW hJ hF hS).mx ?_ (fun x hx => (mx_ge hx).1)
    rw [(mx_lt (by decide)).1]; simp [wi]
  · exact absurd h1 (by decide)
theorem j_refuse {a : Int} (C : Cx Γ p l s m args meth c cc RL nL) (hK3 : Kt3 s) (hn9 : 243 ≤ n) (hκ : Kl κ n) (hsl : l.stackTraces = false) (hV : INV M ω σ n0 hh) (ha : 0 ≤ a ∧ a ≤ σ 2 - 1) (K : Lk RL idx yX8_wouldRefuse) (hD : 8 ≤ D) (hL : L.length = nL) (hcat : (S.map fun v => v.category).sum ≤ 8) (hce : ce + 1 ≤ mx ∧ sl + 6 ≤ sx) (dd : Dx cc pc (.invokevirtual idx) 3 pc')
    (kx : ∀ W : Wo, INV M W σ n0 hh → KU ω W → Rg (whyN σ a) → J Γ p l e (rmk D mx sx) s m args below meth c Q n (ce + 1) (sl + 6) pc' L (.int (iI (whyN σ a)) :: S) W κ) : J Γ p l e (rmk D mx sx) s m args below meth c Q n ce sl pc L (.int (iI a) :: .ref (rl Γ 0) :: S) ω κ := by
  have gs := hV.ri.s
  have e9 : qRefuse σ a = (0, whyN σ a) := if_neg (not_not_intro ha)
  refine j_cMX (as := [.int (iI a)]) (k := 1) C hK3 hn9 hκ (fun h => c_X8_wouldRefuse (Γ := re Γ (gN Γ) h) hsl hV.cr hV.st hV.ri hV.wi (a := a) ⟨by omega, by omega⟩) oX8_wouldRefuse K ⟨_, rfl, rfl⟩ ⟨hD, by decide⟩ rfl hL hcat hce dd (fun E ω' hE => ?_) (fun z ω' hz hp => ?_)
  · have q := hE.2.2
    have q2 : (0 : Int) = 1 := by rw [e9] at q; exact q
    exact absurd q2 (by decide)
  · obtain ⟨rfl, -, v, w, rfl⟩ := hp
    rw [e9] at hz ⊢
    exact kx _ (hV.rF (Or.inr (Or.inr rfl))).mx (KT.rF (Or.inr (Or.inr rfl))).mxk hz
end LAW5
/-- what the questions of the law's end answer -/
theorem leastUp_up (s : Row) (q : Int) : ∀ f k : Nat, leastUp s q f k ≤ f + k := by
  intro f
  induction f with
  | zero => intro k; show (-1 : Int) ≤ _; omega
  | succ f ih =>
    intro k
    have := ih (k + 1)
    by_cases h : sM s k 1 ≠ 2 ∧ aheadUp s k (cM s) = q
    · rw [leastUp_t h]; omega
    · rw [leastUp_f h]; omega
theorem busyUp_up (s : Row) (q : Int) : ∀ f k : Nat, busyUp s q f k ≤ f + k := by
  intro f
  induction f with
  | zero => intro k; show (-1 : Int) ≤ _; omega
  | succ f ih =>
    intro k
    have := ih (k + 1)
    by_cases h : aheadUpB s k (cM s) = q
    · rw [busyUp_t h]; omega
    · rw [busyUp_f h]; omega
theorem vQ_rg {q : Int × Int} (h : -1 ≤ q.2 ∧ q.2 ≤ 100) : -900002 ≤ vQ q ∧ vQ q ≤ 100 := by
  unfold vQ
  split
  · omega
  · split <;> omega
theorem callable_rg (s : Row) (a : Int) : -900002 ≤ vQ (qCallable s a) ∧ vQ (qCallable s a) ≤ 100 := by
  refine vQ_rg ?_
  have h := callUp_le s a 48 0
  unfold qCallable
  split
  · exact ⟨by decide, by decide⟩
  · split
    · exact ⟨by decide, by decide⟩
    · show -1 ≤ (callUp s a 48 0 : Int) ∧ (callUp s a 48 0 : Int) ≤ 100; omega
theorem home_rg (s : Row) (a : Int) : -900002 ≤ vQ (qHome s a) ∧ vQ (qHome s a) ≤ 100 := by
  refine vQ_rg ?_
  have h := homeUp_le s a 21 0
  unfold qHome
  split
  · exact ⟨by decide, by decide⟩
  · split
    · exact ⟨by decide, by decide⟩
    · show -1 ≤ (homeUp s a 21 0 : Int) ∧ (homeUp s a 21 0 : Int) ≤ 100; omega
theorem least_rg {M : Int} {s : Row} (hI : RI M s) (a : Int) : -900002 ≤ vQ (qLeast s a) ∧ vQ (qLeast s a) ≤ 100 := by
  refine vQ_rg ?_
  have gc := hI.c
  have h := leastUp_rg s a (cM s) 0
  have h2 := leastUp_up s a (cM s) 0
  unfold qLeast
  split
  · exact ⟨by decide, by decide⟩
  · show -1 ≤ leastUp s a (cM s) 0 ∧ leastUp s a (cM s) 0 ≤ 100; omega
theorem busy_rg {M : Int} {s : Row} (hI : RI M s) (a : Int) : -900002 ≤ vQ (qBusy s a) ∧ vQ (qBusy s a) ≤ 100 := by
  refine vQ_rg ?_
  have gc := hI.c
  have h := busyUp_rg s a (cM s) 0
  have h2 := busyUp_up s a (cM s) 0
  unfold qBusy
  split
  · exact ⟨by decide, by decide⟩
  · show -1 ≤ busyUp s a (cM s) 0 ∧ busyUp s a (cM s) 0 ≤ 100; omega
theorem why_rg (s : Row) (b : Int) : 0 ≤ whyN s b ∧ whyN s b ≤ 100 := by
  by_cases h : 0 < whyN s b
  · have := whyN_rg s b h; omega
  · unfold whyN at h ⊢
    have := whyC_rg s b
    split
    · omega
    · split
      · omega
      · split
        · omega
        · split <;> omega
