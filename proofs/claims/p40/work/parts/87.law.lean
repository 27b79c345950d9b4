/-! the law -/
abbrev R9 : Room := rmk 1475 600516 7288620
section LAW6
variable {κ : Nat → Nat} {Γ : Ga} {p : Program} {l : Launch} {e : Env} {R : Room} {s : State} {m : MethodId} {args : Array Value} {below : List Frame} {meth : Method} {c : Code} {Q : State → Prop} {n ce sl : Nat} {cc : ByteArray} {own : String} {nL pc pc' idx a kk k : Nat} {L : List (Option Value)} {S : List Value} {ω : Wo} {D mx sx : Nat}
theorem j_begun {b Ls : Nat} {xs : Nat → Int32} (C : Cx Γ p l s m args meth c cc RL nL) (hK3 : Kt3 s) (hA : Ka s) (hsl : l.stackTraces = false) (hX : Sc Γ b Ls xs s) (hLs : Ls < 2000) (hg : gB Γ = s.heap.size ∧ gH Γ = s.heap.size) (K : Lk RL idx yL_begun) (hD : 23 ≤ D) (hL : L.length = nL) (hcat : (S.map fun v => v.category).sum ≤ 8) (hce : 0 + 300 ≤ mx ∧ 0 + 1700 ≤ sx) (dd : Dx cc pc (.invokestatic idx) 3 pc')
    (kx : ∀ W : Wo, IV 15 3 W → J Γ p l e (rmk D mx sx) s m args below meth c Q 243 (0 + 300) (0 + 1700) pc' L (.ref (rl Γ 0) :: S) W) : J Γ p l e (rmk D mx sx) s m args below meth c Q 0 0 0 pc L (.ref b :: S) om0 := by
  intro H locs ls hP hS hl
  obtain ⟨hd, rfl⟩ := dd
  intro T hT X
  have hz : Hz Γ s 0 0 := ⟨by omega, Nat.le_refl _, by omega⟩
  have h1 := hz.up X hT
  have h2 := hS.1
  have hr := runL (Γ' := Γ) (S := S) (as := [.ref b]) (ce := 0) (sl := 0) (mx := mx) (sx := sx) (e := e) (below := below) (D := D) C hK3 (c_begun (Γ := Γ) hsl (xs := xs) hLs) Eb.ex oL_begun K ⟨hD, by decide⟩ rfl hd hL hcat hce (fun U hU hW => ⟨C.2.2.2.2.2.1.next hW hU hS, ⟨⟨by rw [hU]; omega, by omega⟩, hA.moved hW.alike, hX.next hW hU hS⟩⟩) hP hl (locs := locs)
  refine (show W p l e (rmk D mx sx) s m args below meth c H locs 0 0 Q (F0 m pc ls (.ref b :: S)) from ?_) T hT X
  refine va_callq hr hS (fun q _ h => h) (fun q h => h) (fun r ω' t H1 locs1 ht hvm hpo hB _ _ hS1 => ?_)
  obtain ⟨b9, rfl, rfl, hI⟩ := hpo
  have hB : Rp Γ 243 ω' t.heap := hB
  rw [ht] at hB
  exact kx ω' hI H1 locs1 ls hB hS1 hl
theorem j_ifnullR (C : Cx Γ p l s m args meth c cc own nL) {tgt : Nat} {x : Nat} (d : Dc cc pc (fun o => .ifnull o) tgt pc') (kx : J Γ p l e R s m args below meth c Q n ce sl pc' L S ω κ) : J Γ p l e R s m args below meth c Q n ce sl pc L (.ref x :: S) ω κ := by
  intro H locs ls hP hS hl
  obtain ⟨off, hd, ht, rfl⟩ := d
  exact lv_ifnull C.1 C.2.1 hd (kx H locs ls hP hS hl)
end LAW6
set_option maxRecDepth 100000 in
set_option maxHeartbeats 16000000 in
theorem law_start {Γ : Ga} {p : Program} {l : Launch} {e : Env} {s : State} {m : MethodId} {below : List Frame} {meth : Method} {c : Code} {b Ls : Nat} {xs : Nat → Int32} (C : Cx Γ p l s m #[Value.ref b] meth c cL_law RL 5) (hK3 : Kt3 s) (hA : Ka s) (hsl : l.stackTraces = false) (hX : Sc Γ b Ls xs s) (hLs : Ls < 2000) (hr : meth.sig.returnType = ret) (hg : gB Γ = s.heap.size ∧ gH Γ = s.heap.size) :
    J Γ p l e R9 s m #[Value.ref b] below meth c (lw_Z below #[Value.ref b] s) 0 0 0 0 [some (.ref b), none, none, none, none] [] om0 := by
  have hgs : gH Γ ≤ s.heap.size := by omega
  have tl : ∀ (nn : Nat → Nat) (W : Wo) (ce sl : Nat) (u2 u3 u4 : Option Value) (σ : Row) (n0 : Nat) (hh : Nat → Row), okp u2 = true → okp u3 = true → INV 1200000 W σ n0 hh → σ 2 = 3 → ce ≤ 20000 → sl ≤ 200000 → J (re Γ nn (gH Γ)) p l e R9 s m #[Value.ref b] below meth c (lw_Z below #[Value.ref b] s) 243 ce sl 125 [some (.ref b), some (.ref (rl Γ 0)), u2, u3, u4] [] W kd := by
    intro nn W ce sl u2 u3 u4 σ n0 hh ho2 ho3 hV hB hce hsl9
    refine j_aload1 (C.ren _) dL_law_125 ?_
    refine j_seen (C.ren _) hK3 (by decide) (by decide) Ki.k0 hsl hgs hV kL_208 (by decide) rfl (Nat.le_of_ble_eq_true rfl) ⟨by omega, by omega⟩ dL_law_126 (fun nn1 q1 hn1 hq1 => ?_)
    have hV1 := hV.w243 (a := 243) (f := SEEN σ) (by decide)
    have hs1 : (wf W (243) (SEEN σ)).1 (243) = SEEN σ := wf_same _ _ _
    have hk1 := Ki.k0.s (n := 243) (by decide)
    have hz1 : (wf W (243) (SEEN σ)).1 0 = W.1 0 := wf_ne _ _ (by decide)
    generalize wf W (243) (SEEN σ) = W1 at hV1 hs1 hz1  ⊢
    refine j_astore2 (C.ren _) rfl dL_law_129 ?_
    refine j_aload1 (C.ren _) dL_law_130 ?_
    refine j_save (C.ren _) (by decide) hk1.l hsl hV1 kL_223 (by decide) rfl (Nat.le_of_ble_eq_true rfl) ⟨by omega, by omega⟩ dL_law_131 (fun W2 hr2 hV2 h03 hS43 hx2 => ?_)
    have hs2 := (hx2 243 (by decide)).trans hs1
    refine j_istore3 (C.ren _) rfl dL_law_134 ?_
    refine j_aload1 (C.ren _) dL_law_135 ?_
    refine j_iconst (C.ren _) dL_law_136 ?_
    refine j_callable (C.ren _) hK3 (by decide) hk1.l hsl hV2 (by decide) ⟨by decide, by decide⟩ kL_226 (by decide) rfl (Nat.le_of_ble_eq_true rfl) ⟨by omega, by omega⟩ dL_law_137 (fun W3 hV3 hU3 hr3 => ?_)
    refine j_aload1 (C.ren _) dL_law_140 ?_
    refine j_iconst (C.ren _) dL_law_141 ?_
    refine j_home (C.ren _) hK3 (by decide) hk1.l hsl hV3 (by decide) ⟨by decide, by decide⟩ kL_190 (by decide) rfl (Nat.le_of_ble_eq_true rfl) ⟨by omega, by omega⟩ dL_law_142 (fun W4 hV4 hU4 hr4 => ?_)
    refine j_iadd (C.ren _) dL_law_145 ?_
    refine j_aload1 (C.ren _) dL_law_146 ?_
    refine j_iconst (C.ren _) dL_law_147 ?_
    refine j_least (C.ren _) hK3 (by decide) hk1.l hsl hV4 ⟨by decide, by decide⟩ kL_228 (by decide) rfl (Nat.le_of_ble_eq_true rfl) ⟨by omega, by omega⟩ dL_law_148 (fun W5 hV5 hU5 hr5 => ?_)
    refine j_iadd (C.ren _) dL_law_151 ?_
    refine j_aload1 (C.ren _) dL_law_152 ?_
    refine j_iconst (C.ren _) dL_law_153 ?_
    refine j_busiest (C.ren _) hK3 (by decide) hk1.l hsl hV5 ⟨by decide, by decide⟩ kL_230 (by decide) rfl (Nat.le_of_ble_eq_true rfl) ⟨by omega, by omega⟩ dL_law_154 (fun W6 hV6 hU6 hr6 => ?_)
    refine j_iadd (C.ren _) dL_law_157 ?_
    refine j_aload1 (C.ren _) dL_law_158 ?_
    refine j_iconst (C.ren _) dL_law_159 ?_
    refine j_refuse (C.ren _) hK3 (by decide) hk1.l hsl hV6 ⟨by decide, by omega⟩ kL_232 (by decide) rfl (Nat.le_of_ble_eq_true rfl) ⟨by omega, by omega⟩ dL_law_160 (fun W7 hV7 hU7 hr7 => ?_)
    have hT7 := (((hU3.tr hU4).tr hU5).tr hU6).tr hU7
    have hs7 := (hT7.2 243 (by decide)).trans hs2
    refine j_iadd (C.ren _) dL_law_163 ?_
    refine j_istore4 (C.ren _) rfl dL_law_164 ?_
    refine j_aload2 (C.ren _) dL_law_166 ?_
    refine j_aload1 (C.ren _) dL_law_167 ?_
    refine j_seen (C.ren _) hK3 (by decide) (by decide) hk1 hsl hgs hV7 kL_208 (by decide) rfl (Nat.le_of_ble_eq_true rfl) ⟨by omega, by omega⟩ dL_law_168 (fun nn8 q8 hn8 hq8 => ?_)
    have hV8 := hV7.w243 (a := 243 + 1) (f := SEEN σ) (by decide)
    have hs8 : (wf W7 (243 + 1) (SEEN σ)).1 (243 + 1) = SEEN σ := wf_same _ _ _
    have hk8 := hk1.s (n := 243 + 1) (by decide)
    have hs8a : (wf W7 (243 + 1) (SEEN σ)).1 243 = SEEN σ := (wf_ne _ _ (by decide)).trans hs7
    have hz8 : (wf W7 (243 + 1) (SEEN σ)).1 0 = W7.1 0 := wf_ne _ _ (by decide)
    have hc8 : ∀ x, 43 ≤ x → x < 64 → (wf W7 (243 + 1) (SEEN σ)).1 x = W7.1 x := fun x _ _ => wf_ne _ _ (by omega)
    have hd8 : ∀ x, (wf W7 (243 + 1) (SEEN σ)).2.1 x = W7.2.1 x := fun _ => rfl
    generalize wf W7 (243 + 1) (SEEN σ) = W8 at hc8 hd8 hV8 hs8 hz8 hs8a ⊢
    refine j_alike (a1 := 243) (a2 := 244) (C.ren _) hK3 ⟨by decide, by decide, hk8.2 243 (by decide) (by decide)⟩ ⟨by decide, by decide, hk8.2 244 (by decide) (by decide)⟩ ((rl_nw (i := 0) (by decide)).trans ((hn8 0 (by decide)).trans hq1)) ((rl_nw (i := 1) (by decide)).trans hq8) (hs8a.trans hs8.symm) kL_217 (by decide) rfl (Nat.le_of_ble_eq_true rfl) ⟨by omega, by omega⟩ dL_law_171 ?_
    refine j_if_ne (C.ren _) (by decide) dL_law_174 (fun _ => ?_) (fun hc => absurd hc (by decide))
    refine j_iload4 (C.ren _) dL_law_179 ?_
    refine j_aload1 (C.ren _) dL_law_181 ?_
    refine j_bipush (C.ren _) (by decide) dL_law_182 ?_
    refine j_d_pass (C.ren _) hK3 (by decide) hk8.l hsl hV8 (by decide) ⟨by decide, by decide⟩ kL_130 (by decide) rfl (Nat.le_of_ble_eq_true rfl) ⟨by omega, by omega⟩ dL_law_184 (fun z9 W9 hz9 hd9 hU9 => ?_)
    obtain ⟨hr9, σ9, n9, g9, hV9, -⟩ := hd9.any (by decide)
    refine j_aload1 (C.ren _) dL_law_187 ?_
    refine j_iconst (C.ren _) dL_law_188 ?_
    refine j_iconst (C.ren _) dL_law_189 ?_
    refine j_d_call (C.ren _) hK3 (by decide) hk8.l hsl hV9 (by decide) ⟨by decide, by decide⟩ ⟨by decide, by decide⟩ kL_132 (by decide) rfl (Nat.le_of_ble_eq_true rfl) ⟨by omega, by omega⟩ dL_law_190 (fun z10 W10 hz10 hd10 hU10 => ?_)
    obtain ⟨hr10, σ10, n10, g10, hV10, -⟩ := hd10.any (by decide)
    refine j_iadd (C.ren _) dL_law_193 ?_
    refine j_aload1 (C.ren _) dL_law_194 ?_
    refine j_iconst (C.ren _) dL_law_195 ?_
    refine j_d_limit (C.ren _) hK3 (by decide) hk8.l hsl hV10 (by decide) ⟨by decide, by decide⟩ kL_128 (by decide) rfl (Nat.le_of_ble_eq_true rfl) ⟨by omega, by omega⟩ dL_law_196 (fun z11 W11 hz11 hd11 hU11 => ?_)
    obtain ⟨hr11, σ11, n11, g11, hV11, -⟩ := hd11.any (by decide)
    refine j_iadd (C.ren _) dL_law_199 ?_
    refine j_iadd (C.ren _) dL_law_200 ?_
    refine j_istore4 (C.ren _) rfl dL_law_201 ?_
    refine j_aload1 (C.ren _) dL_law_203 ?_
    have hTa : KU W8 W11 := (hU9.tr hU10).tr hU11
    have hTb : ∀ x, 43 ≤ x → x < 64 → W8.1 x = W7.1 x := hc8
    have h03b : W11.1 0 3 = 1 := hTa.1.2.1.trans ((congrFun hz8 3).trans (hT7.1.2.1.trans h03))
    have hS43b : St W11 43 σ := hS43.fr hV.ri.cc (fun x p9 q9 => (hTa.1.1 x (by omega) (by omega)).trans ((hTb x (by omega) (by omega)).trans (hT7.1.1 x (by omega) (by omega)))) (fun x p9 q9 => (hTa.1.2.2 x (by omega) (by omega)).trans ((hd8 x).trans (hT7.1.2.2 x (by omega) (by omega))))
    have hs11 := (hTa.2 243 (by decide)).trans hs8a
    refine j_restore (τ := σ) (C.ren _) hK3 (by decide) hk8.l hsl hV11 h03b hS43b (hV.ri.le (by decide) (by decide)) hV.wi hV.wj kL_235 (by decide) rfl (Nat.le_of_ble_eq_true rfl) ⟨by omega, by omega⟩ dL_law_204 (fun W12 hr12 hV12 h05 hx12 => ?_)
    have hs12 := (hx12 243 (by decide)).trans hs11
    refine j_iload3 (C.ren _) dL_law_207 ?_
    refine j_icmp_ne (C.ren _) hr2 hr12 dL_law_208 (fun hc => absurd rfl hc) (fun _ => ?_)
    refine j_aload2 (C.ren _) dL_law_211 ?_
    refine j_aload1 (C.ren _) dL_law_212 ?_
    refine j_seen (C.ren _) hK3 (by decide) (by decide) hk8 hsl hgs hV12 kL_208 (by decide) rfl (Nat.le_of_ble_eq_true rfl) ⟨by omega, by omega⟩ dL_law_213 (fun nn13 q13 hn13 hq13 => ?_)
    have hV13 := hV12.w243 (a := 243 + 1 + 1) (f := SEEN σ) (by decide)
    have hs13 : (wf W12 (243 + 1 + 1) (SEEN σ)).1 (243 + 1 + 1) = SEEN σ := wf_same _ _ _
    have hk13 := hk8.s (n := 243 + 1 + 1) (by decide)
    have hs13a : (wf W12 (243 + 1 + 1) (SEEN σ)).1 243 = SEEN σ := (wf_ne _ _ (by decide)).trans hs12
    have hz13 : (wf W12 (243 + 1 + 1) (SEEN σ)).1 0 = W12.1 0 := wf_ne _ _ (by decide)
    generalize wf W12 (243 + 1 + 1) (SEEN σ) = W13 at hV13 hs13 hz13 hs13a ⊢
    refine j_alike (a1 := 243) (a2 := 245) (C.ren _) hK3 ⟨by decide, by decide, hk13.2 243 (by decide) (by decide)⟩ ⟨by decide, by decide, hk13.2 245 (by decide) (by decide)⟩ ((rl_nw (i := 0) (by decide)).trans ((hn13 0 (by decide)).trans ((hn8 0 (by decide)).trans hq1))) ((rl_nw (i := 2) (by decide)).trans hq13) (hs13a.trans hs13.symm) kL_217 (by decide) rfl (Nat.le_of_ble_eq_true rfl) ⟨by omega, by omega⟩ dL_law_216 ?_
    refine j_if_eq (C.ren _) (by decide) dL_law_219 (fun hc => absurd hc (by decide)) (fun _ => ?_)
    refine j_aload1 (C.ren _) dL_law_222 ?_
    refine j_bipush (C.ren _) (by decide) dL_law_223 ?_
    refine j_accF (C.ren _) hK3 (by decide) hk13.l hsl hV13 rfl kL_166 (by decide) rfl (Nat.le_of_ble_eq_true rfl) ⟨by omega, by omega⟩ dL_law_225 (fun hr225 => ?_)
    rw [show W13.1 0 5 = 0 from (congrFun hz13 5).trans h05]
    refine j_if_ne (C.ren _) (by decide) dL_law_228 (fun hc => absurd rfl hc) (fun _ => ?_)
    refine j_iload4 (C.ren _) dL_law_231 ?_
    refine j_ldc (z := -90000000) (C.ren _) (WS_of 924 (by decide +kernel)) dL_law_233 ?_
    have b1 := callable_rg σ 0
    have b2 := home_rg σ 1
    have b3 := least_rg hV.ri 0
    have b4 := busy_rg hV.ri 0
    have b5 := why_rg σ 2
    refine j_icmp_le (C.ren _) ⟨by omega, by omega⟩ ⟨by omega, by omega⟩ dL_law_235 (fun hc235 => absurd hc235 (by omega)) (fun hc235 => ?_)
    refine j_iconst (C.ren _) dL_law_238 ?_
    refine j_goto (C.ren _) dL_law_239 ?_
    exact j_lret (C.ren _) hr ⟨by show _ ≤ gB Γ; omega, by show _ ≤ gH Γ; omega⟩ ⟨by omega, by omega⟩ dL_law_243
  have lp : ∀ (N k ce sl : Nat) (nn : Nat → Nat) (W : Wo) (u3 u4 : Option Value) (σ : Row) (n0 : Nat) (hh : Nat → Row), 16 - k < N → k ≤ 16 → okp u3 = true → INV (49000 + 70000 * (k : Int)) W σ n0 hh → σ 2 = 3 → ce ≤ 700 + 1000 * k → sl ≤ 4000 + 8000 * k → J (re Γ nn (gH Γ)) p l e R9 s m #[Value.ref b] below meth c (lw_Z below #[Value.ref b] s) 243 ce sl 20 [some (.ref b), some (.ref (rl Γ 0)), some (.int (iI (k : Int))), u3, u4] [] W kd := by
    intro N
    induction N with
    | zero => intro k ce sl nn W u3 u4 σ n0 hh hN; exact absurd hN (Nat.not_lt_zero _)
    | succ N ih =>
      intro k ce sl nn W u3 u4 σ n0 hh hN hk0 ho3 hV hB hce hsl9
      refine j_iload2 (C.ren _) dL_law_20 ?_
      refine j_bipush (C.ren _) (by decide) dL_law_21 ?_
      refine j_icmp_ge (C.ren _) ⟨by omega, by omega⟩ ⟨by omega, by omega⟩ dL_law_23 (fun hc23 => ?_) (fun hc23 => ?_)
      · -- 23 t
        exact tl _ _ _ _ _ _ _ _ _ _ rfl ho3 (hV.le ⟨by omega, by decide⟩) hB (by omega) (by omega)
      · -- 23 f
        refine j_aload1 (C.ren _) dL_law_26 ?_
        refine j_seen (C.ren _) hK3 (by decide) (by decide) Ki.k0 hsl hgs hV kL_208 (by decide) rfl (Nat.le_of_ble_eq_true rfl) ⟨by omega, by omega⟩ dL_law_27 (fun nn1 q1 hn1 hq1 => ?_)
        have hV1 := hV.w243 (a := 243) (f := SEEN σ) (by decide)
        have hs1 : (wf W (243) (SEEN σ)).1 (243) = SEEN σ := wf_same _ _ _
        have hk1 := Ki.k0.s (n := 243) (by decide)
        have hz1 : (wf W (243) (SEEN σ)).1 0 = W.1 0 := wf_ne _ _ (by decide)
        generalize wf W (243) (SEEN σ) = W1 at hV1 hs1 hz1  ⊢
        refine j_astore3 (C.ren _) rfl dL_law_30 ?_
        refine j_aload1 (C.ren _) dL_law_31 ?_
        refine j_aload0 (C.ren _) dL_law_32 ?_
        refine j_bipush (C.ren _) (by decide) dL_law_33 ?_
        refine j_iconst (C.ren _) dL_law_35 ?_
        refine j_iload2 (C.ren _) dL_law_36 ?_
        refine j_imul (C.ren _) dL_law_37 ?_
        refine j_iadd (C.ren _) dL_law_38 ?_
        refine j_acts (C.ren _) hK3 (by decide) hk1.l hsl hgs hV1 (by omega) hX hLs ⟨by omega, by omega⟩ kL_212 (by decide) rfl (Nat.le_of_ble_eq_true rfl) ⟨by omega, by omega⟩ dL_law_39 (fun z W2 hz hap hx2 => ?_)
        obtain ⟨hzr, hap⟩ := hap
        have hs2 := (hx2 243 (by decide)).trans hs1
        rcases hap with ⟨hzb, hV2⟩ | ⟨hzb, σ2, hV2, hB2⟩
        · -- refused
          refine j_istore4 (C.ren _) rfl dL_law_42 ?_
          refine j_aload1 (C.ren _) dL_law_44 ?_
          refine j_isw (C.ren _) hK3 (by decide) hk1.l hsl hV2 (by omega) kL_204 (by decide) rfl (Nat.le_of_ble_eq_true rfl) ⟨by omega, by omega⟩ dL_law_45 (fun W3 hV3 hx3 => ?_)
          have hs3 := (hx3 243 (by decide)).trans hs2
          refine j_if_eq (C.ren _) (by decide) dL_law_48 (fun hc => absurd hc (by decide)) (fun _ => ?_)
          refine j_aload1 (C.ren _) dL_law_51 ?_
          refine j_bipush (C.ren _) (by decide) dL_law_52 ?_
          refine j_accT (C.ren _) hK3 (by decide) hk1.l hsl hV3 rfl kL_166 (by decide) rfl (Nat.le_of_ble_eq_true rfl) ⟨by omega, by omega⟩ dL_law_54 (fun hr54 => ?_)
          rw [hV3.tx]
          refine j_if_ne (C.ren _) (by decide) dL_law_57 (fun hc => absurd rfl hc) (fun _ => ?_)
          refine j_iload4 (C.ren _) dL_law_60 ?_
          refine j_ldc (z := -900000) (C.ren _) (WS_of 1340 (by decide +kernel)) dL_law_62 ?_
          refine j_icmp_gt (C.ren _) ⟨by omega, by omega⟩ (by decide) dL_law_64 (fun hc64 => absurd hc64 (by omega)) (fun hc64 => ?_)
          refine j_aload3 (C.ren _) dL_law_67 ?_
          refine j_aload1 (C.ren _) dL_law_68 ?_
          refine j_seen (C.ren _) hK3 (by decide) (by decide) hk1 hsl hgs hV3 kL_208 (by decide) rfl (Nat.le_of_ble_eq_true rfl) ⟨by omega, by omega⟩ dL_law_69 (fun nn4 q4 hn4 hq4 => ?_)
          have hV4 := hV3.w243 (a := 243 + 1) (f := SEEN σ) (by decide)
          have hs4 : (wf W3 (243 + 1) (SEEN σ)).1 (243 + 1) = SEEN σ := wf_same _ _ _
          have hk4 := hk1.s (n := 243 + 1) (by decide)
          have hs4a : (wf W3 (243 + 1) (SEEN σ)).1 243 = SEEN σ := (wf_ne _ _ (by decide)).trans hs3
          have hz4 : (wf W3 (243 + 1) (SEEN σ)).1 0 = W3.1 0 := wf_ne _ _ (by decide)
          generalize wf W3 (243 + 1) (SEEN σ) = W4 at hV4 hs4 hz4 hs4a ⊢
          refine j_alike (a1 := 243) (a2 := 244) (C.ren _) hK3 ⟨by decide, by decide, hk4.2 243 (by decide) (by decide)⟩ ⟨by decide, by decide, hk4.2 244 (by decide) (by decide)⟩ ((rl_nw (i := 0) (by decide)).trans ((hn4 0 (by decide)).trans hq1)) ((rl_nw (i := 1) (by decide)).trans hq4) (hs4a.trans hs4.symm) kL_217 (by decide) rfl (Nat.le_of_ble_eq_true rfl) ⟨by omega, by omega⟩ dL_law_72 ?_
          refine j_if_ne (C.ren _) (by decide) dL_law_75 (fun _ => ?_) (fun hc => absurd hc (by decide))
          refine j_iload4 (C.ren _) dL_law_80 ?_
          refine j_ldc (z := -900000) (C.ren _) (WS_of 1340 (by decide +kernel)) dL_law_82 ?_
          refine j_icmp_le (C.ren _) ⟨by omega, by omega⟩ (by decide) dL_law_84 (fun hc84 => ?_) (fun hc84 => absurd hc84 (by omega))
          refine j_iinc2 (C.ren _) rfl dL_law_119 ?_
          refine j_goto (C.ren _) dL_law_122 ?_
          refine j_swap (nn' := nn) (κ' := kd) (n' := 243) (by decide) hk4.l Kl.k0 ?_
          exact ih (k + 1) _ _ nn W4 _ _ _ _ _ (by omega) (by omega) rfl (hV4.le ⟨by omega, by omega⟩) hB (by omega) (by omega)
        · -- done
          refine j_istore4 (C.ren _) rfl dL_law_42 ?_
          refine j_aload1 (C.ren _) dL_law_44 ?_
          refine j_isw (C.ren _) hK3 (by decide) hk1.l hsl hV2 (by omega) kL_204 (by decide) rfl (Nat.le_of_ble_eq_true rfl) ⟨by omega, by omega⟩ dL_law_45 (fun W3 hV3 hx3 => ?_)
          have hs3 := (hx3 243 (by decide)).trans hs2
          refine j_if_eq (C.ren _) (by decide) dL_law_48 (fun hc => absurd hc (by decide)) (fun _ => ?_)
          refine j_aload1 (C.ren _) dL_law_51 ?_
          refine j_bipush (C.ren _) (by decide) dL_law_52 ?_
          refine j_accT (C.ren _) hK3 (by decide) hk1.l hsl hV3 rfl kL_166 (by decide) rfl (Nat.le_of_ble_eq_true rfl) ⟨by omega, by omega⟩ dL_law_54 (fun hr54 => ?_)
          rw [hV3.tx]
          refine j_if_ne (C.ren _) (by decide) dL_law_57 (fun hc => absurd rfl hc) (fun _ => ?_)
          refine j_iload4 (C.ren _) dL_law_60 ?_
          refine j_ldc (z := -900000) (C.ren _) (WS_of 1340 (by decide +kernel)) dL_law_62 ?_
          refine j_icmp_gt (C.ren _) ⟨by omega, by omega⟩ (by decide) dL_law_64 (fun hc64 => ?_) (fun hc64 => absurd hc64 (by omega))
          refine j_iload4 (C.ren _) dL_law_80 ?_
          refine j_ldc (z := -900000) (C.ren _) (WS_of 1340 (by decide +kernel)) dL_law_82 ?_
          refine j_icmp_le (C.ren _) ⟨by omega, by omega⟩ (by decide) dL_law_84 (fun hc84 => absurd hc84 (by omega)) (fun hc84 => ?_)
          refine j_aload0 (C.ren _) dL_law_87 ?_
          refine j_bipush (C.ren _) (by decide) dL_law_88 ?_
          refine j_iload2 (C.ren _) dL_law_90 ?_
          refine j_iadd (C.ren _) dL_law_91 ?_
          refine j_iconst (C.ren _) dL_law_92 ?_
          refine j_inr (C.ren _) hK3 (hX.ren (gA_re (Nat.le_refl _))) hLs ⟨by omega, by omega⟩ ⟨by decide, by decide⟩ kL_116 (by decide) rfl (Nat.le_of_ble_eq_true rfl) ⟨by omega, by omega⟩ dL_law_93 (fun z5 hz5 => ?_)
          refine j_if_ne (C.ren _) ⟨by omega, by omega⟩ dL_law_96 (fun hc96 => ?_) (fun hc96 => ?_)
          · -- 96 t
            refine j_iinc2 (C.ren _) rfl dL_law_119 ?_
            refine j_goto (C.ren _) dL_law_122 ?_
            refine j_swap (nn' := nn) (κ' := kd) (n' := 243) (by decide) hk1.l Kl.k0 ?_
            exact ih (k + 1) _ _ nn W3 _ _ _ _ _ (by omega) (by omega) rfl (hV3.le ⟨by omega, by omega⟩) (by have := hV3.ri.s; omega) (by omega) (by omega)
          · -- 96 f
            refine j_aload1 (C.ren _) dL_law_99 ?_
            have hl9 := rm_last (σ := σ) (hh := hh) hV.pa.2.1
            refine j_undo (C.ren _) hK3 (by decide) hk1.l hsl hV3 hl9.1 kL_221 (by decide) rfl (Nat.le_of_ble_eq_true rfl) ⟨by omega, by omega⟩ dL_law_100 (fun z6 W6 hz6 hz60 hV6 hx6 => ?_)
            rw [hl9.2] at hV6
            have hs6 := (hx6 243 (by decide)).trans hs3
            refine j_if_lt (C.ren _) hz6 dL_law_103 (fun hc103 => absurd hc103 (by omega)) (fun hc103 => ?_)
            refine j_aload3 (C.ren _) dL_law_106 ?_
            refine j_aload1 (C.ren _) dL_law_107 ?_
            refine j_seen (C.ren _) hK3 (by decide) (by decide) hk1 hsl hgs hV6 kL_208 (by decide) rfl (Nat.le_of_ble_eq_true rfl) ⟨by omega, by omega⟩ dL_law_108 (fun nn7 q7 hn7 hq7 => ?_)
            have hV7 := hV6.w243 (a := 243 + 1) (f := SEEN σ) (by decide)
            have hs7 : (wf W6 (243 + 1) (SEEN σ)).1 (243 + 1) = SEEN σ := wf_same _ _ _
            have hk7 := hk1.s (n := 243 + 1) (by decide)
            have hs7a : (wf W6 (243 + 1) (SEEN σ)).1 243 = SEEN σ := (wf_ne _ _ (by decide)).trans hs6
            have hz7 : (wf W6 (243 + 1) (SEEN σ)).1 0 = W6.1 0 := wf_ne _ _ (by decide)
            generalize wf W6 (243 + 1) (SEEN σ) = W7 at hV7 hs7 hz7 hs7a ⊢
            refine j_alike (a1 := 243) (a2 := 244) (C.ren _) hK3 ⟨by decide, by decide, hk7.2 243 (by decide) (by decide)⟩ ⟨by decide, by decide, hk7.2 244 (by decide) (by decide)⟩ ((rl_nw (i := 0) (by decide)).trans ((hn7 0 (by decide)).trans hq1)) ((rl_nw (i := 1) (by decide)).trans hq7) (hs7a.trans hs7.symm) kL_217 (by decide) rfl (Nat.le_of_ble_eq_true rfl) ⟨by omega, by omega⟩ dL_law_111 ?_
            refine j_if_ne (C.ren _) (by decide) dL_law_114 (fun _ => ?_) (fun hc => absurd hc (by decide))
            refine j_iinc2 (C.ren _) rfl dL_law_119 ?_
            refine j_goto (C.ren _) dL_law_122 ?_
            refine j_swap (nn' := nn) (κ' := kd) (n' := 243) (by decide) hk7.l Kl.k0 ?_
            exact ih (k + 1) _ _ nn W7 _ _ _ _ _ (by omega) (by omega) rfl (hV7.le ⟨by omega, by omega⟩) hB (by omega) (by omega)
  refine j_aload0 C dL_law_0 ?_
  refine j_begun C hK3 hA hsl hX hLs hg kL_200 (by decide) rfl (Nat.le_of_ble_eq_true rfl) ⟨by decide, by decide⟩ dL_law_1 (fun W hI => ?_)
  obtain ⟨σ, n0, hh, hV, hB⟩ := hI
  have hB3 : σ 2 = 3 := by have := hV.ri.s; omega
  refine (show J (re Γ (gN Γ) (gH Γ)) p l e R9 s m #[Value.ref b] below meth c (lw_Z below #[Value.ref b] s) 243 300 1700 4 [some (.ref b), none, none, none, none] [.ref (rl Γ 0)] W kd from ?_)
  refine j_astore1 (C.ren _) rfl dL_law_4 ?_
  refine j_aload1 (C.ren _) dL_law_5 ?_
  refine j_ifnullR (C.ren _) dL_law_6 ?_
  refine j_aload1 (C.ren _) dL_law_9 ?_
  refine j_isw (C.ren _) hK3 (by decide) Kl.k0 hsl hV (by decide) kL_204 (by decide) rfl (Nat.le_of_ble_eq_true rfl) ⟨by decide, by decide⟩ dL_law_10 (fun W3 hV3 hx3 => ?_)
  refine j_if_ne (C.ren _) (by decide) dL_law_13 (fun _ => ?_) (fun hc => absurd hc (by decide))
  refine j_iconst (C.ren _) dL_law_18 ?_
  refine j_istore2 (C.ren _) rfl dL_law_19 ?_
  exact lp 17 0 _ _ (gN Γ) W3 _ _ σ n0 hh (by omega) (by omega) rfl (hV3.le ⟨by decide, by decide⟩) hB3 (by decide) (by decide)
