/-! the law's look at a rota comes out true -/
set_option maxRecDepth 100000 in
set_option maxHeartbeats 16000000 in
theorem c_isWell {Γ : Ga} {l : Launch} {ω : Wo} {M : Int} {σ : Row} {n0 : Nat} {hh : Nat → Row} (hsl : l.stackTraces = false) (hV : INV M ω σ n0 hh) (hM6 : M + 6000 ≤ 100000000) : CL Γ l yL_isWell cL_isWell 15 .boolean 22 300 1800 [.ref (rl Γ 0)] ω 243 kd Ex0 (fun z W => z = 1 ∧ INV M W σ n0 hh) := by
  refine MetL.ofJ (k := 14) [some (.ref (rl Γ 0)), none, none, none, none, none, none, none, none, none, none, none, none, none, none] (by decide) rfl rfl rfl (fun p e s mm args below meth c C hK3 hX hrt => ?_)
  have gs := hV.ri.s
  have gc := hV.ri.c
  have gM := hV.ri.2.1
  have wj := hV.wj
  have wi9 := hV.wi
  have fin : ∀ (ce sl : Nat) (W : Wo) (u8 u9 u10 u11 u12 u13 u14 : Option Value), INV M W σ n0 hh → ce ≤ 260 → sl ≤ 6 * ce → J Γ p l e (rmk 22 300 1800) s mm args below meth c (MQ below (QI Γ (fun z W => z = 1 ∧ INV M W σ n0 hh)) args s 300 1800 (gA Γ)) 243 ce sl 573 [some (.ref (rl Γ 0)), some (.int (iI ((ableS σ : Nat) : Int))), some (.int (iI ((cM σ : Int) - stayUp σ (cM σ) : Int))), some (.int (iI ((oR σ (cB σ) : Nat) : Int))), some (.int (iI (allO σ : Int))), some (.int (iI (outUp σ (cB σ) : Int))), some (.int (iI (bOutUp σ (cB σ) : Int))), some (.int (iI (((cB σ) : Nat) : Int))), u8, u9, u10, u11, u12, u13, u14] [] W := by
    intro ce sl W u8 u9 u10 u11 u12 u13 u14 hVW h1 h2
    have o0 := oR_0 hV.ri wi9
    have f1 := stayUp_rg σ (cM σ)
    have f2 := wj.2.2.1
    have f3 := wj.2.2.2
    have f4 := bOutUp_rg hV.ri (cB σ) gc.2.1.2
    have f5 := outUp_rg hV.ri (cB σ) gc.2.1.2
    have f6 := oarsUp_rg hV.ri (cL σ) gc.2.2.2
    have f7 : outO σ = outUp σ (cB σ) := rfl
    have f8 : allO σ = oarsUp σ (cL σ) := rfl
    have f9 : freeO σ = allO σ - outO σ := rfl
    have f10 := ableS_lt hV.ri
    have f11 : stayN σ = stayUp σ (cM σ) := rfl
    rw [o0]
    refine j_iload1 C dL_isWell_573 ?_
    refine j_aload0 C dL_isWell_574 ?_
    refine j_cMC (as := []) C (Nat.le_refl _) Kl.k0 (fun h => c_X8_able (Γ := re Γ (gN Γ) h) hsl hVW.cr hVW.st hVW.ri hVW.wi) oX8_able kL_194 ⟨_, rfl, rfl⟩ ⟨by decide, by decide⟩ rfl rfl (Nat.le_of_ble_eq_true rfl) ⟨by omega, by omega⟩ dL_isWell_575 (fun z W9 hz hp => ?_)
    obtain ⟨rfl, rfl⟩ := hp
    rw [mx_self]
    refine j_icmp_ne C ⟨by omega, by omega⟩ ⟨by omega, by omega⟩ dL_isWell_578 (fun hc578 => absurd hc578 (by omega)) (fun hc578 => ?_)
    refine j_iload2 C dL_isWell_581 ?_
    refine j_aload0 C dL_isWell_582 ?_
    refine j_iconst C dL_isWell_583 ?_
    refine j_acc C hK3 (Nat.le_refl _) Kl.k0 hsl hVW ⟨by omega, by omega⟩ kL_166 (by decide) rfl (Nat.le_of_ble_eq_true rfl) ⟨by omega, by omega⟩ dL_isWell_584 (fun hr584 => ?_)
    rw [vAcc_2] at hr584 ⊢
    refine j_icmp_ne C ⟨by omega, by omega⟩ ⟨by omega, by omega⟩ dL_isWell_587 (fun hc587 => absurd hc587 (by omega)) (fun hc587 => ?_)
    refine j_iload3 C dL_isWell_590 ?_
    refine j_if_ne C (by decide) dL_isWell_591 (fun hc => absurd hc (by decide)) (fun _ => ?_)
    refine j_iload4 C dL_isWell_594 ?_
    refine j_aload0 C dL_isWell_596 ?_
    refine j_bipush C (by decide) dL_isWell_597 ?_
    refine j_acc C hK3 (Nat.le_refl _) Kl.k0 hsl hVW ⟨by omega, by omega⟩ kL_166 (by decide) rfl (Nat.le_of_ble_eq_true rfl) ⟨by omega, by omega⟩ dL_isWell_599 (fun hr599 => ?_)
    rw [vAcc_6] at hr599 ⊢
    refine j_icmp_ne C ⟨by omega, by omega⟩ ⟨by omega, by omega⟩ dL_isWell_602 (fun hc602 => absurd hc602 (by omega)) (fun hc602 => ?_)
    refine j_iload5 C dL_isWell_605 ?_
    refine j_iload4 C dL_isWell_607 ?_
    refine j_icmp_gt C ⟨by omega, by omega⟩ ⟨by omega, by omega⟩ dL_isWell_609 (fun hc609 => absurd hc609 (by omega)) (fun hc609 => ?_)
    refine j_aload0 C dL_isWell_612 ?_
    refine j_cMC (as := []) C (Nat.le_refl _) Kl.k0 (fun h => c_X8_free (Γ := re Γ (gN Γ) h) hsl hVW.cr hVW.st hVW.ri hVW.wi) oX8_free kL_197 ⟨_, rfl, rfl⟩ ⟨by decide, by decide⟩ rfl rfl (Nat.le_of_ble_eq_true rfl) ⟨by omega, by omega⟩ dL_isWell_613 (fun z W9 hz hp => ?_)
    obtain ⟨rfl, rfl⟩ := hp
    rw [mx_self]
    refine j_iload4 C dL_isWell_616 ?_
    refine j_iload5 C dL_isWell_618 ?_
    refine j_isub C dL_isWell_620 ?_
    refine j_icmp_ne C ⟨by omega, by omega⟩ ⟨by omega, by omega⟩ dL_isWell_621 (fun hc621 => absurd hc621 (by omega)) (fun hc621 => ?_)
    refine j_iload6 C dL_isWell_624 ?_
    refine j_aload0 C dL_isWell_626 ?_
    refine j_iconst C dL_isWell_627 ?_
    refine j_acc C hK3 (Nat.le_refl _) Kl.k0 hsl hVW ⟨by omega, by omega⟩ kL_166 (by decide) rfl (Nat.le_of_ble_eq_true rfl) ⟨by omega, by omega⟩ dL_isWell_628 (fun hr628 => ?_)
    rw [vAcc_4] at hr628 ⊢
    refine j_icmp_ne C ⟨by omega, by omega⟩ ⟨by omega, by omega⟩ dL_isWell_631 (fun hc631 => absurd hc631 (by omega)) (fun hc631 => ?_)
    refine j_aload0 C dL_isWell_634 ?_
    refine j_bipush C (by decide) dL_isWell_635 ?_
    refine j_acc C hK3 (Nat.le_refl _) Kl.k0 hsl hVW ⟨by omega, by omega⟩ kL_166 (by decide) rfl (Nat.le_of_ble_eq_true rfl) ⟨by omega, by omega⟩ dL_isWell_637 (fun hr637 => ?_)
    rw [vAcc_7] at hr637 ⊢
    refine j_aload0 C dL_isWell_640 ?_
    refine j_bipush C (by decide) dL_isWell_641 ?_
    refine j_acc C hK3 (Nat.le_refl _) Kl.k0 hsl hVW ⟨by omega, by omega⟩ kL_166 (by decide) rfl (Nat.le_of_ble_eq_true rfl) ⟨by omega, by omega⟩ dL_isWell_643 (fun hr643 => ?_)
    rw [vAcc_8] at hr643 ⊢
    refine j_iload6 C dL_isWell_646 ?_
    refine j_iadd C dL_isWell_648 ?_
    refine j_icmp_ne C ⟨by omega, by omega⟩ ⟨by omega, by omega⟩ dL_isWell_649 (fun hc649 => absurd hc649 (by omega)) (fun hc649 => ?_)
    refine j_iconst C dL_isWell_652 ?_
    refine j_goto C dL_isWell_653 ?_
    refine j_widen (ce' := 300) (sl' := 1800) (by omega) (by omega) ?_
    exact j_zret C hrt dL_isWell_657 (Or.inr rfl) ⟨rfl, hVW⟩
  have lp3 : ∀ (N b ce sl : Nat) (W : Wo) (u8 u9 u10 u11 u12 u13 u14 : Option Value), cB σ - b < N → b ≤ cB σ → INV M W σ n0 hh → ce ≤ 101 + 52 * b → sl ≤ 6 * ce → J Γ p l e (rmk 22 300 1800) s mm args below meth c (MQ below (QI Γ (fun z W => z = 1 ∧ INV M W σ n0 hh)) args s 300 1800 (gA Γ)) 243 ce sl 234 [some (.ref (rl Γ 0)), some (.int (iI ((ableS σ : Nat) : Int))), some (.int (iI ((cM σ : Int) - stayUp σ (cM σ) : Int))), some (.int (iI ((oR σ b : Nat) : Int))), some (.int (iI (allO σ : Int))), some (.int (iI (outUp σ b : Int))), some (.int (iI (bOutUp σ b : Int))), some (.int (iI ((b : Nat) : Int))), u8, u9, u10, u11, u12, u13, u14] [] W := by
    intro N
    induction N with
    | zero => intro b ce sl W u8 u9 u10 u11 u12 u13 u14 hN; exact absurd hN (Nat.not_lt_zero _)
    | succ N ih =>
      intro b ce sl W u8 u9 u10 u11 u12 u13 u14 hN hk0 hVW hce hsl9
      refine j_iload7 C dL_isWell_234 ?_
      refine j_aload0 C dL_isWell_236 ?_
      refine j_iconst C dL_isWell_237 ?_
      refine j_acc C hK3 (Nat.le_refl _) Kl.k0 hsl hVW ⟨by omega, by omega⟩ kL_166 (by decide) rfl (Nat.le_of_ble_eq_true rfl) ⟨by omega, by omega⟩ dL_isWell_238 (fun hr238 => ?_)
      rw [vAcc_3] at hr238 ⊢
      refine j_icmp_ge C ⟨by omega, by omega⟩ ⟨by omega, by omega⟩ dL_isWell_241 (fun hc241 => ?_) (fun hc241 => ?_)
      · -- 241 t
        have hk9 : b = cB σ := by omega
        subst hk9
        exact fin _ _ _ _ _ _ _ _ _ _ hVW (by omega) (by omega)
      · -- 241 f
        have hb3 : (0 : Int) ≤ (b : Int) ∧ (b : Int) ≤ σ 2 - 1 := by omega
        have hbc : b < cB σ := by omega
        have gb := hV.ri.b b (by omega)
        have hs2 := wi9.2.1 b (by omega)
        have wb := wi9.2.2.2 b hbc
        have wjb := wj.2.1 b hbc
        have hcl := crewO_lt hV.ri (b : Int)
        have hcu := crewUp_b1 σ (b : Int) (cM σ)
        have ho1 := outUp_rg hV.ri b (by omega)
        have hbo := bOutUp_rg hV.ri b (by omega)
        have inn : ∀ (x8 : Int), (∀ (ce2 sl2 : Nat), ce2 ≤ ce + 40 → sl2 ≤ 6 * ce2 → J Γ p l e (rmk 22 300 1800) s mm args below meth c (MQ below (QI Γ (fun z W => z = 1 ∧ INV M W σ n0 hh)) args s 300 1800 (gA Γ)) 243 ce2 sl2 366 [some (.ref (rl Γ 0)), some (.int (iI ((ableS σ : Nat) : Int))), some (.int (iI ((cM σ : Int) - stayUp σ (cM σ) : Int))), some (.int (iI ((oR σ b : Nat) : Int))), some (.int (iI (allO σ : Int))), some (.int (iI (outUp σ b : Int))), some (.int (iI (bOutUp σ b : Int))), some (.int (iI ((b : Nat) : Int))), some (.int (iI (x8 : Int))), some (.int (iI ((crewO σ b : Nat) : Int))), some (.int (iI (sB σ b 1 : Int))), some (.int (iI (sB σ b 5 : Int))), some (.int (iI (skcUp σ b (cM σ) : Int))), some (.int (iI (((cM σ) : Nat) : Int))), u14] [] W) → ∀ (N j ce2 sl2 : Nat), cM σ - j < N → j ≤ cM σ → ce2 ≤ ce + 8 + 3 * j → sl2 ≤ 6 * ce2 → J Γ p l e (rmk 22 300 1800) s mm args below meth c (MQ below (QI Γ (fun z W => z = 1 ∧ INV M W σ n0 hh)) args s 300 1800 (gA Γ)) 243 ce2 sl2 294 [some (.ref (rl Γ 0)), some (.int (iI ((ableS σ : Nat) : Int))), some (.int (iI ((cM σ : Int) - stayUp σ (cM σ) : Int))), some (.int (iI ((oR σ b : Nat) : Int))), some (.int (iI (allO σ : Int))), some (.int (iI (outUp σ b : Int))), some (.int (iI (bOutUp σ b : Int))), some (.int (iI ((b : Nat) : Int))), some (.int (iI (x8 : Int))), some (.int (iI ((crewO σ b : Nat) : Int))), some (.int (iI (sB σ b 1 : Int))), some (.int (iI (sB σ b 5 : Int))), some (.int (iI (skcUp σ b j : Int))), some (.int (iI ((j : Nat) : Int))), u14] [] W := by
          intro x8 hexit N
          induction N with
          | zero => intro j ce2 sl2 hN2; exact absurd hN2 (Nat.not_lt_zero _)
          | succ N ihj =>
            intro j ce2 sl2 hN2 hj0 hce2 hsl2
            refine j_iload13 C dL_isWell_294 ?_
            refine j_aload0 C dL_isWell_296 ?_
            refine j_iconst C dL_isWell_297 ?_
            refine j_acc C hK3 (Nat.le_refl _) Kl.k0 hsl hVW ⟨by omega, by omega⟩ kL_166 (by decide) rfl (Nat.le_of_ble_eq_true rfl) ⟨by omega, by omega⟩ dL_isWell_298 (fun hr298 => ?_)
            rw [vAcc_1] at hr298 ⊢
            refine j_icmp_ge C ⟨by omega, by omega⟩ ⟨by omega, by omega⟩ dL_isWell_301 (fun hc301 => ?_) (fun hc301 => ?_)
            · -- 301 t
              have hk9 : j = cM σ := by omega
              subst hk9
              exact hexit _ _ (by omega) (by omega)
            · -- 301 f
              have ha9 : (0 : Int) ≤ (j : Int) ∧ (j : Int) ≤ σ 1 - 1 := by omega
              have gm := hV.ri.m j (by omega)
              have hcj := hcu j
              have hsk : -1 < skcUp σ b j ∧ skcUp σ b j ≤ j := by
                have : ∀ n, -1 < skcUp σ b n ∧ skcUp σ b n ≤ n := by
                  intro n
                  induction n with
                  | zero => exact ⟨(by decide : (-1 : Int) < 0), Int.le_refl _⟩
                  | succ n ih9 => unfold skcUp; split <;> omega
                exact this j
              by_cases hbit : crewO σ b / 2 ^ j % 2 = 1
              · have hmem := hcj.mp hbit
                by_cases hsk0 : 0 < sM σ j 0
                · have e9 : skcUp σ b (j + 1) = skcUp σ b j + 1 := by
                    show _ + _ = _
                    rw [if_pos ⟨hmem.2, hsk0⟩]
                  refine j_iload12 C dL_isWell_304 ?_
                  refine j_iload9 C dL_isWell_306 ?_
                  refine j_iload13 C dL_isWell_308 ?_
                  refine j_ishr C (by omega) (by omega) dL_isWell_310 ?_
                  refine j_iconstN C (k := 1) rfl dL_isWell_311 ?_
                  refine j_iand1 C dL_isWell_312 ?_
                  refine j_iconst C dL_isWell_313 ?_
                  refine j_icmp_ne C ⟨by omega, by omega⟩ ⟨by omega, by omega⟩ dL_isWell_314 (fun hc314 => absurd hc314 (by omega)) (fun hc314 => ?_)
                  refine j_aload0 C dL_isWell_317 ?_
                  refine j_iload13 C dL_isWell_318 ?_
                  refine j_iconst C dL_isWell_320 ?_
                  refine j_mem C hK3 (Nat.le_refl _) Kl.k0 hsl hVW ⟨by omega, by omega⟩ ⟨by omega, by omega⟩ kL_169 (by decide) rfl (Nat.le_of_ble_eq_true rfl) ⟨by omega, by omega⟩ dL_isWell_321 (fun hr321 => ?_)
                  rw [vM0 ha9] at hr321 ⊢
                  refine j_if_le C ⟨by omega, by omega⟩ dL_isWell_324 (fun hc324 => absurd hc324 (by omega)) (fun hc324 => ?_)
                  refine j_iconst C dL_isWell_327 ?_
                  refine j_goto C dL_isWell_328 ?_
                  refine j_iadd C dL_isWell_332 ?_
                  rw [← e9]
                  refine j_istore12 C rfl dL_isWell_333 ?_
                  refine j_iload9 C dL_isWell_335 ?_
                  refine j_iload13 C dL_isWell_337 ?_
                  refine j_ishr C (by omega) (by omega) dL_isWell_339 ?_
                  refine j_iconstN C (k := 1) rfl dL_isWell_340 ?_
                  refine j_iand1 C dL_isWell_341 ?_
                  refine j_iconst C dL_isWell_342 ?_
                  refine j_icmp_ne C ⟨by omega, by omega⟩ ⟨by omega, by omega⟩ dL_isWell_343 (fun hc343 => absurd hc343 (by omega)) (fun hc343 => ?_)
                  refine j_aload0 C dL_isWell_346 ?_
                  refine j_iload13 C dL_isWell_347 ?_
                  refine j_iconst C dL_isWell_349 ?_
                  refine j_mem C hK3 (Nat.le_refl _) Kl.k0 hsl hVW ⟨by omega, by omega⟩ ⟨by omega, by omega⟩ kL_169 (by decide) rfl (Nat.le_of_ble_eq_true rfl) ⟨by omega, by omega⟩ dL_isWell_350 (fun hr350 => ?_)
                  rw [vM3 ha9] at hr350 ⊢
                  refine j_iload7 C dL_isWell_353 ?_
                  refine j_icmp_eq C ⟨by omega, by omega⟩ ⟨by omega, by omega⟩ dL_isWell_355 (fun hc355 => ?_) (fun hc355 => absurd hc355 (by omega))
                  refine j_iinc13 C rfl dL_isWell_360 ?_
                  refine j_goto C dL_isWell_363 ?_
                  exact ihj (j + 1) _ _ (by omega) (by omega) (by omega) (by omega)
                · have e9 : skcUp σ b (j + 1) = skcUp σ b j + 0 := by
                    show _ + _ = _
                    rw [if_neg (fun q => hsk0 q.2)]
                  refine j_iload12 C dL_isWell_304 ?_
                  refine j_iload9 C dL_isWell_306 ?_
                  refine j_iload13 C dL_isWell_308 ?_
                  refine j_ishr C (by omega) (by omega) dL_isWell_310 ?_
                  refine j_iconstN C (k := 1) rfl dL_isWell_311 ?_
                  refine j_iand1 C dL_isWell_312 ?_
                  refine j_iconst C dL_isWell_313 ?_
                  refine j_icmp_ne C ⟨by omega, by omega⟩ ⟨by omega, by omega⟩ dL_isWell_314 (fun hc314 => absurd hc314 (by omega)) (fun hc314 => ?_)
                  refine j_aload0 C dL_isWell_317 ?_
                  refine j_iload13 C dL_isWell_318 ?_
                  refine j_iconst C dL_isWell_320 ?_
                  refine j_mem C hK3 (Nat.le_refl _) Kl.k0 hsl hVW ⟨by omega, by omega⟩ ⟨by omega, by omega⟩ kL_169 (by decide) rfl (Nat.le_of_ble_eq_true rfl) ⟨by omega, by omega⟩ dL_isWell_321 (fun hr321 => ?_)
                  rw [vM0 ha9] at hr321 ⊢
                  refine j_if_le C ⟨by omega, by omega⟩ dL_isWell_324 (fun hc324 => ?_) (fun hc324 => absurd hc324 (by omega))
                  refine j_iconst C dL_isWell_331 ?_
                  refine j_iadd C dL_isWell_332 ?_
                  rw [← e9]
                  refine j_istore12 C rfl dL_isWell_333 ?_
                  refine j_iload9 C dL_isWell_335 ?_
                  refine j_iload13 C dL_isWell_337 ?_
                  refine j_ishr C (by omega) (by omega) dL_isWell_339 ?_
                  refine j_iconstN C (k := 1) rfl dL_isWell_340 ?_
                  refine j_iand1 C dL_isWell_341 ?_
                  refine j_iconst C dL_isWell_342 ?_
                  refine j_icmp_ne C ⟨by omega, by omega⟩ ⟨by omega, by omega⟩ dL_isWell_343 (fun hc343 => absurd hc343 (by omega)) (fun hc343 => ?_)
                  refine j_aload0 C dL_isWell_346 ?_
                  refine j_iload13 C dL_isWell_347 ?_
                  refine j_iconst C dL_isWell_349 ?_
                  refine j_mem C hK3 (Nat.le_refl _) Kl.k0 hsl hVW ⟨by omega, by omega⟩ ⟨by omega, by omega⟩ kL_169 (by decide) rfl (Nat.le_of_ble_eq_true rfl) ⟨by omega, by omega⟩ dL_isWell_350 (fun hr350 => ?_)
                  rw [vM3 ha9] at hr350 ⊢
                  refine j_iload7 C dL_isWell_353 ?_
                  refine j_icmp_eq C ⟨by omega, by omega⟩ ⟨by omega, by omega⟩ dL_isWell_355 (fun hc355 => ?_) (fun hc355 => absurd hc355 (by omega))
                  refine j_iinc13 C rfl dL_isWell_360 ?_
                  refine j_goto C dL_isWell_363 ?_
                  exact ihj (j + 1) _ _ (by omega) (by omega) (by omega) (by omega)
              · have e9 : skcUp σ b (j + 1) = skcUp σ b j + 0 := by
                  show _ + _ = _
                  rw [if_neg (fun q => hbit (hcj.mpr ⟨by omega, q.1⟩))]
                refine j_iload12 C dL_isWell_304 ?_
                refine j_iload9 C dL_isWell_306 ?_
                refine j_iload13 C dL_isWell_308 ?_
                refine j_ishr C (by omega) (by omega) dL_isWell_310 ?_
                refine j_iconstN C (k := 1) rfl dL_isWell_311 ?_
                refine j_iand1 C dL_isWell_312 ?_
                refine j_iconst C dL_isWell_313 ?_
                refine j_icmp_ne C ⟨by omega, by omega⟩ ⟨by omega, by omega⟩ dL_isWell_314 (fun hc314 => ?_) (fun hc314 => absurd hc314 (by omega))
                refine j_iconst C dL_isWell_331 ?_
                refine j_iadd C dL_isWell_332 ?_
                rw [← e9]
                refine j_istore12 C rfl dL_isWell_333 ?_
                refine j_iload9 C dL_isWell_335 ?_
                refine j_iload13 C dL_isWell_337 ?_
                refine j_ishr C (by omega) (by omega) dL_isWell_339 ?_
                refine j_iconstN C (k := 1) rfl dL_isWell_340 ?_
                refine j_iand1 C dL_isWell_341 ?_
                refine j_iconst C dL_isWell_342 ?_
                refine j_icmp_ne C ⟨by omega, by omega⟩ ⟨by omega, by omega⟩ dL_isWell_343 (fun hc343 => ?_) (fun hc343 => absurd hc343 (by omega))
                refine j_iinc13 C rfl dL_isWell_360 ?_
                refine j_goto C dL_isWell_363 ?_
                exact ihj (j + 1) _ _ (by omega) (by omega) (by omega) (by omega)
        by_cases hout : sB σ b 2 = 1
        · obtain ⟨w1, w2, w3⟩ := wjb.1 hout
          obtain ⟨c1, c2, c3, c4⟩ := wb.1 hout
          obtain ⟨cx, hcx⟩ := Int.eq_ofNat_of_zero_le c1
          rw [hcx] at w2 c2 c3 c4
          have hcb : crewO σ b / 2 ^ cx % 2 = 1 := (hcu cx).mpr ⟨by omega, c3, c4⟩
          have hbt := crew_bits hV.ri (b : Int)
          have hmu : mustO σ b = (sB σ b 1 - 1) / 2 := rfl
          have hskr : skcUp σ b (cM σ) ≤ cM σ := by
            have : ∀ n, skcUp σ b n ≤ n := by
              intro n
              induction n with
              | zero => exact Int.le_refl _
              | succ n ih9 => unfold skcUp; split <;> omega
            exact this _
          have e5 : outUp σ (b + 1) = outUp σ b + (sB σ b 1 - 1) := by
            show _ + _ = _
            rw [if_pos hout]
          have e6 : bOutUp σ (b + 1) = bOutUp σ b + 1 := by
            show _ + _ = _
            rw [hout]
          have hW := vQ_why hV.ri hb3
          refine j_aload0 C dL_isWell_244 ?_
          refine j_iload7 C dL_isWell_245 ?_
          refine j_iconst C dL_isWell_247 ?_
          refine j_boa C hK3 (Nat.le_refl _) Kl.k0 hsl hVW hb3 ⟨by omega, by omega⟩ kL_172 (by decide) rfl (Nat.le_of_ble_eq_true rfl) ⟨by omega, by omega⟩ dL_isWell_248 (fun hr248 => ?_)
          rw [(qBoa_ok hb3 (by decide)).2] at hr248 ⊢
          refine j_iconst C dL_isWell_251 ?_
          refine j_icmp_ne C ⟨by omega, by omega⟩ ⟨by omega, by omega⟩ dL_isWell_252 (fun hc252 => absurd hc252 (by omega)) (fun hc252 => ?_)
          refine j_iconst C dL_isWell_255 ?_
          refine j_goto C dL_isWell_256 ?_
          refine j_istore8 C rfl dL_isWell_260 ?_
          refine j_aload0 C dL_isWell_262 ?_
          refine j_iload7 C dL_isWell_263 ?_
          refine j_crw C hK3 (Nat.le_refl _) Kl.k0 hsl hVW hb3 kL_175 (by decide) rfl (Nat.le_of_ble_eq_true rfl) ⟨by omega, by omega⟩ dL_isWell_265 (fun hr265 => ?_)
          rw [(qCrw_ok hb3).2] at hr265 ⊢
          refine j_istore9 C rfl dL_isWell_268 ?_
          refine j_aload0 C dL_isWell_270 ?_
          refine j_iload7 C dL_isWell_271 ?_
          refine j_iconst C dL_isWell_273 ?_
          refine j_boa C hK3 (Nat.le_refl _) Kl.k0 hsl hVW hb3 ⟨by omega, by omega⟩ kL_172 (by decide) rfl (Nat.le_of_ble_eq_true rfl) ⟨by omega, by omega⟩ dL_isWell_274 (fun hr274 => ?_)
          rw [(qBoa_ok hb3 (by decide)).2] at hr274 ⊢
          refine j_istore10 C rfl dL_isWell_277 ?_
          refine j_aload0 C dL_isWell_279 ?_
          refine j_iload7 C dL_isWell_280 ?_
          refine j_iconst C dL_isWell_282 ?_
          refine j_boa C hK3 (Nat.le_refl _) Kl.k0 hsl hVW hb3 ⟨by omega, by omega⟩ kL_172 (by decide) rfl (Nat.le_of_ble_eq_true rfl) ⟨by omega, by omega⟩ dL_isWell_283 (fun hr283 => ?_)
          rw [(qBoa_ok hb3 (by decide)).2] at hr283 ⊢
          refine j_istore11 C rfl dL_isWell_286 ?_
          refine j_iconst C dL_isWell_288 ?_
          refine j_istore12 C rfl dL_isWell_289 ?_
          refine j_iconst C dL_isWell_291 ?_
          refine j_istore13 C rfl dL_isWell_292 ?_
          refine inn 1 (fun ce2 sl2 hce2 hsl2 => ?_) (cM σ + 1) 0 _ _ (by omega) (by omega) (by omega) (by omega)
          refine j_iload8 C dL_isWell_366 ?_
          refine j_if_eq C (by decide) dL_isWell_368 (fun hc => absurd hc (by decide)) (fun _ => ?_)
          refine j_iload9 C dL_isWell_371 ?_
          refine j_cL (as := [.int (iI ((crewO σ b : Nat) : Int))]) (mc := 0) (ms := 0) C hK3 (c_bits hcl) Ex0.ex (fun _ _ _ _ _ _ _ => trivial) oL_bits kL_181 ⟨by decide, by decide⟩ rfl rfl (Nat.le_of_ble_eq_true rfl) ⟨by omega, by omega⟩ dL_isWell_373 ?_
          intro z9 W9 hz9 hp9
          obtain ⟨rfl, rfl⟩ := hp9
          refine j_iload10 C dL_isWell_376 ?_
          refine j_icmp_ne C ⟨by omega, by omega⟩ ⟨by omega, by omega⟩ dL_isWell_378 (fun hc378 => absurd hc378 (by omega)) (fun hc378 => ?_)
          refine j_iload11 C dL_isWell_381 ?_
          rw [hcx]
          refine j_if_lt C ⟨by omega, by omega⟩ dL_isWell_383 (fun hc383 => absurd hc383 (by omega)) (fun hc383 => ?_)
          refine j_iload9 C dL_isWell_386 ?_
          refine j_iload11 C dL_isWell_388 ?_
          refine j_ishr C (by omega) (by omega) dL_isWell_390 ?_
          refine j_iconstN C (k := 1) rfl dL_isWell_391 ?_
          refine j_iand1 C dL_isWell_392 ?_
          refine j_if_eq C ⟨by omega, by omega⟩ dL_isWell_393 (fun hc393 => absurd hc393 (by omega)) (fun hc393 => ?_)
          refine j_aload0 C dL_isWell_396 ?_
          refine j_iload11 C dL_isWell_397 ?_
          refine j_iconst C dL_isWell_399 ?_
          refine j_mem C hK3 (Nat.le_refl _) Kl.k0 hsl hVW ⟨by omega, by omega⟩ ⟨by omega, by omega⟩ kL_169 (by decide) rfl (Nat.le_of_ble_eq_true rfl) ⟨by omega, by omega⟩ dL_isWell_400 (fun hr400 => ?_)
          rw [vM0 ⟨by omega, by omega⟩] at hr400 ⊢
          refine j_iconst C dL_isWell_403 ?_
          refine j_icmp_ne C ⟨by omega, by omega⟩ ⟨by omega, by omega⟩ dL_isWell_404 (fun hc404 => absurd hc404 (by omega)) (fun hc404 => ?_)
          refine j_iload12 C dL_isWell_407 ?_
          refine j_iconst C dL_isWell_409 ?_
          refine j_isub C dL_isWell_410 ?_
          refine j_iload10 C dL_isWell_411 ?_
          refine j_iconst C dL_isWell_413 ?_
          refine j_isub C dL_isWell_414 ?_
          refine j_iconst C dL_isWell_415 ?_
          refine j_idiv C ⟨by omega, by omega⟩ ⟨by decide, by decide⟩ dL_isWell_416 ?_
          refine j_icmp_ge C ⟨by omega, by omega⟩ ⟨by omega, by omega⟩ dL_isWell_417 (fun hc417 => ?_) (fun hc417 => absurd hc417 (by omega))
          by_cases hw : 0 < whyC σ b
          · obtain ⟨v1, v2⟩ := hW.1 hw
            refine j_iload3 C dL_isWell_446 ?_
            refine j_iload9 C dL_isWell_447 ?_
            refine j_iconst C dL_isWell_449 ?_
            refine j_ixorm C (by omega) dL_isWell_450 ?_
            refine j_iand C dL_isWell_451 ?_
            refine j_istore3 C rfl dL_isWell_452 ?_
            refine j_iload5 C dL_isWell_453 ?_
            refine j_iload8 C dL_isWell_455 ?_
            refine j_if_eq C (by decide) dL_isWell_457 (fun hc => absurd hc (by decide)) (fun _ => ?_)
            refine j_iload10 C dL_isWell_460 ?_
            refine j_iconst C dL_isWell_462 ?_
            refine j_isub C dL_isWell_463 ?_
            refine j_goto C dL_isWell_464 ?_
            refine j_iadd C dL_isWell_468 ?_
            rw [← e5]
            refine j_istore5 C rfl dL_isWell_469 ?_
            refine j_iload6 C dL_isWell_471 ?_
            refine j_iload8 C dL_isWell_473 ?_
            refine j_if_eq C (by decide) dL_isWell_475 (fun hc => absurd hc (by decide)) (fun _ => ?_)
            refine j_iconst C dL_isWell_478 ?_
            refine j_goto C dL_isWell_479 ?_
            refine j_iadd C dL_isWell_483 ?_
            rw [← e6]
            refine j_istore6 C rfl dL_isWell_484 ?_
            refine j_aload0 C dL_isWell_486 ?_
            refine j_iload7 C dL_isWell_487 ?_
            refine j_wear C hK3 (Nat.le_refl _) Kl.k0 hsl hVW ⟨by omega, by omega⟩ kL_184 (by decide) rfl (Nat.le_of_ble_eq_true rfl) ⟨by omega, by omega⟩ dL_isWell_489 (fun W1 hV1 hT1 hr489 => ?_)
            have q1 := hr489
            refine j_istore13 C rfl dL_isWell_492 ?_
            refine j_aload0 C dL_isWell_494 ?_
            refine j_iload7 C dL_isWell_495 ?_
            refine j_wgo C hK3 (Nat.le_refl _) Kl.k0 hsl hV1 ⟨by omega, by omega⟩ kL_186 (by decide) rfl (Nat.le_of_ble_eq_true rfl) ⟨by omega, by omega⟩ dL_isWell_497 (fun W2 hV2 hT2 hr497 => ?_)
            rw [v2] at hr497 ⊢
            refine j_istore14 C rfl dL_isWell_500 ?_
            refine j_iload13 C dL_isWell_502 ?_
            refine j_aload0 C dL_isWell_504 ?_
            refine j_iload7 C dL_isWell_505 ?_
            refine j_wearA C hK3 (Nat.le_refl _) Kl.k0 hsl hV2 ⟨by omega, by omega⟩ kL_188 (by decide) rfl (Nat.le_of_ble_eq_true rfl) ⟨by omega, by omega⟩ dL_isWell_507 (fun W3 hV3 hT3 hr507 => ?_)
            refine j_icmp_ne C hr489 hr507 dL_isWell_510 (fun hc510 => absurd hc510 (by omega)) (fun hc510 => ?_)
            refine j_aload0 C dL_isWell_513 ?_
            refine j_iload7 C dL_isWell_514 ?_
            refine j_home C hK3 (Nat.le_refl _) Kl.k0 hsl hV3 hM6 ⟨by omega, by omega⟩ kL_190 (by decide) rfl (Nat.le_of_ble_eq_true rfl) ⟨by omega, by omega⟩ dL_isWell_516 (fun W4 hV4 hT4 hr516 => ?_)
            refine j_aload0 C dL_isWell_519 ?_
            refine j_iload7 C dL_isWell_520 ?_
            refine j_homeA C hK3 (Nat.le_refl _) Kl.k0 hsl hV4 hM6 ⟨by omega, by omega⟩ kL_192 (by decide) rfl (Nat.le_of_ble_eq_true rfl) ⟨by omega, by omega⟩ dL_isWell_522 (fun W5 hV5 hT5 hr522 => ?_)
            refine j_icmp_ne C hr516 hr522 dL_isWell_525 (fun hc525 => absurd hc525 (by omega)) (fun hc525 => ?_)
            refine j_iload13 C dL_isWell_528 ?_
            refine j_if_ge C hr489 dL_isWell_530 (fun hc530 => absurd hc530 (by omega)) (fun hc530 => ?_)
            refine j_iconst C dL_isWell_533 ?_
            refine j_goto C dL_isWell_534 ?_
            refine j_iload14 C dL_isWell_538 ?_
            refine j_if_ge C ⟨by omega, by omega⟩ dL_isWell_540 (fun hc540 => absurd hc540 (by omega)) (fun hc540 => ?_)
            refine j_iconst C dL_isWell_543 ?_
            refine j_goto C dL_isWell_544 ?_
            refine j_icmp_ne C (by decide) (by decide) dL_isWell_548 (fun hc => absurd rfl hc) (fun _ => ?_)
            refine j_iload14 C dL_isWell_551 ?_
            refine j_if_lt C ⟨by omega, by omega⟩ dL_isWell_553 (fun hc553 => ?_) (fun hc553 => absurd hc553 (by omega))
            refine j_iinc7 C rfl dL_isWell_567 ?_
            refine j_goto C dL_isWell_570 ?_
            exact ih (b + 1) _ _ _ _ _ _ _ _ _ _ (by omega) (by omega) hV5 (by omega) (by omega)
          · obtain ⟨v1, v2⟩ := hW.2 hw
            have hca := crw_able hV.ri (b := (b : Int)) (by omega) hs2 hw
            have hA9 := ableS_lt hV.ri
            have hcl9 := crw_lt hV.ri (b : Int)
            refine j_iload3 C dL_isWell_446 ?_
            refine j_iload9 C dL_isWell_447 ?_
            refine j_iconst C dL_isWell_449 ?_
            refine j_ixorm C (by omega) dL_isWell_450 ?_
            refine j_iand C dL_isWell_451 ?_
            refine j_istore3 C rfl dL_isWell_452 ?_
            refine j_iload5 C dL_isWell_453 ?_
            refine j_iload8 C dL_isWell_455 ?_
            refine j_if_eq C (by decide) dL_isWell_457 (fun hc => absurd hc (by decide)) (fun _ => ?_)
            refine j_iload10 C dL_isWell_460 ?_
            refine j_iconst C dL_isWell_462 ?_
            refine j_isub C dL_isWell_463 ?_
            refine j_goto C dL_isWell_464 ?_
            refine j_iadd C dL_isWell_468 ?_
            rw [← e5]
            refine j_istore5 C rfl dL_isWell_469 ?_
            refine j_iload6 C dL_isWell_471 ?_
            refine j_iload8 C dL_isWell_473 ?_
            refine j_if_eq C (by decide) dL_isWell_475 (fun hc => absurd hc (by decide)) (fun _ => ?_)
            refine j_iconst C dL_isWell_478 ?_
            refine j_goto C dL_isWell_479 ?_
            refine j_iadd C dL_isWell_483 ?_
            rw [← e6]
            refine j_istore6 C rfl dL_isWell_484 ?_
            refine j_aload0 C dL_isWell_486 ?_
            refine j_iload7 C dL_isWell_487 ?_
            refine j_wear C hK3 (Nat.le_refl _) Kl.k0 hsl hVW ⟨by omega, by omega⟩ kL_184 (by decide) rfl (Nat.le_of_ble_eq_true rfl) ⟨by omega, by omega⟩ dL_isWell_489 (fun W1 hV1 hT1 hr489 => ?_)
            have q1 := hr489
            refine j_istore13 C rfl dL_isWell_492 ?_
            refine j_aload0 C dL_isWell_494 ?_
            refine j_iload7 C dL_isWell_495 ?_
            refine j_wgo C hK3 (Nat.le_refl _) Kl.k0 hsl hV1 ⟨by omega, by omega⟩ kL_186 (by decide) rfl (Nat.le_of_ble_eq_true rfl) ⟨by omega, by omega⟩ dL_isWell_497 (fun W2 hV2 hT2 hr497 => ?_)
            rw [v2] at hr497 ⊢
            refine j_istore14 C rfl dL_isWell_500 ?_
            refine j_iload13 C dL_isWell_502 ?_
            refine j_aload0 C dL_isWell_504 ?_
            refine j_iload7 C dL_isWell_505 ?_
            refine j_wearA C hK3 (Nat.le_refl _) Kl.k0 hsl hV2 ⟨by omega, by omega⟩ kL_188 (by decide) rfl (Nat.le_of_ble_eq_true rfl) ⟨by omega, by omega⟩ dL_isWell_507 (fun W3 hV3 hT3 hr507 => ?_)
            refine j_icmp_ne C hr489 hr507 dL_isWell_510 (fun hc510 => absurd hc510 (by omega)) (fun hc510 => ?_)
            refine j_aload0 C dL_isWell_513 ?_
            refine j_iload7 C dL_isWell_514 ?_
            refine j_home C hK3 (Nat.le_refl _) Kl.k0 hsl hV3 hM6 ⟨by omega, by omega⟩ kL_190 (by decide) rfl (Nat.le_of_ble_eq_true rfl) ⟨by omega, by omega⟩ dL_isWell_516 (fun W4 hV4 hT4 hr516 => ?_)
            refine j_aload0 C dL_isWell_519 ?_
            refine j_iload7 C dL_isWell_520 ?_
            refine j_homeA C hK3 (Nat.le_refl _) Kl.k0 hsl hV4 hM6 ⟨by omega, by omega⟩ kL_192 (by decide) rfl (Nat.le_of_ble_eq_true rfl) ⟨by omega, by omega⟩ dL_isWell_522 (fun W5 hV5 hT5 hr522 => ?_)
            refine j_icmp_ne C hr516 hr522 dL_isWell_525 (fun hc525 => absurd hc525 (by omega)) (fun hc525 => ?_)
            refine j_iload13 C dL_isWell_528 ?_
            refine j_if_ge C hr489 dL_isWell_530 (fun hc530 => ?_) (fun hc530 => absurd hc530 (by omega))
            refine j_iconst C dL_isWell_537 ?_
            refine j_iload14 C dL_isWell_538 ?_
            refine j_if_ge C ⟨by omega, by omega⟩ dL_isWell_540 (fun hc540 => ?_) (fun hc540 => absurd hc540 (by omega))
            refine j_iconst C dL_isWell_547 ?_
            refine j_icmp_ne C (by decide) (by decide) dL_isWell_548 (fun hc => absurd rfl hc) (fun _ => ?_)
            refine j_iload14 C dL_isWell_551 ?_
            refine j_if_lt C ⟨by omega, by omega⟩ dL_isWell_553 (fun hc553 => absurd hc553 (by omega)) (fun hc553 => ?_)
            refine j_iload14 C dL_isWell_556 ?_
            refine j_iload1 C dL_isWell_558 ?_
            refine j_iconst C dL_isWell_559 ?_
            refine j_ixorm C (by omega) dL_isWell_560 ?_
            refine j_iand C dL_isWell_561 ?_
            rw [hca]
            refine j_if_eq C (by decide) dL_isWell_562 (fun _ => ?_) (fun hc => absurd rfl hc)
            refine j_iinc7 C rfl dL_isWell_567 ?_
            refine j_goto C dL_isWell_570 ?_
            exact ih (b + 1) _ _ _ _ _ _ _ _ _ _ (by omega) (by omega) hV5 (by omega) (by omega)
        · have hcr0 := crew_none hV.ri wi9 hbc hout
          have hcx := wb.2.1 hout
          have h39 := wjb.2 hout
          have h20 : sB σ b 2 = 0 := by omega
          have e5 : outUp σ (b + 1) = outUp σ b + 0 := by
            show _ + _ = _
            rw [if_neg hout]
          have e6 : bOutUp σ (b + 1) = bOutUp σ b + 0 := by
            show _ + _ = _
            rw [h20]
          have hW := vQ_why hV.ri hb3
          refine j_aload0 C dL_isWell_244 ?_
          refine j_iload7 C dL_isWell_245 ?_
          refine j_iconst C dL_isWell_247 ?_
          refine j_boa C hK3 (Nat.le_refl _) Kl.k0 hsl hVW hb3 ⟨by omega, by omega⟩ kL_172 (by decide) rfl (Nat.le_of_ble_eq_true rfl) ⟨by omega, by omega⟩ dL_isWell_248 (fun hr248 => ?_)
          rw [(qBoa_ok hb3 (by decide)).2] at hr248 ⊢
          refine j_iconst C dL_isWell_251 ?_
          refine j_icmp_ne C ⟨by omega, by omega⟩ ⟨by omega, by omega⟩ dL_isWell_252 (fun hc252 => ?_) (fun hc252 => absurd hc252 (by omega))
          refine j_iconst C dL_isWell_259 ?_
          refine j_istore8 C rfl dL_isWell_260 ?_
          refine j_aload0 C dL_isWell_262 ?_
          refine j_iload7 C dL_isWell_263 ?_
          refine j_crw C hK3 (Nat.le_refl _) Kl.k0 hsl hVW hb3 kL_175 (by decide) rfl (Nat.le_of_ble_eq_true rfl) ⟨by omega, by omega⟩ dL_isWell_265 (fun hr265 => ?_)
          rw [(qCrw_ok hb3).2] at hr265 ⊢
          refine j_istore9 C rfl dL_isWell_268 ?_
          refine j_aload0 C dL_isWell_270 ?_
          refine j_iload7 C dL_isWell_271 ?_
          refine j_iconst C dL_isWell_273 ?_
          refine j_boa C hK3 (Nat.le_refl _) Kl.k0 hsl hVW hb3 ⟨by omega, by omega⟩ kL_172 (by decide) rfl (Nat.le_of_ble_eq_true rfl) ⟨by omega, by omega⟩ dL_isWell_274 (fun hr274 => ?_)
          rw [(qBoa_ok hb3 (by decide)).2] at hr274 ⊢
          refine j_istore10 C rfl dL_isWell_277 ?_
          refine j_aload0 C dL_isWell_279 ?_
          refine j_iload7 C dL_isWell_280 ?_
          refine j_iconst C dL_isWell_282 ?_
          refine j_boa C hK3 (Nat.le_refl _) Kl.k0 hsl hVW hb3 ⟨by omega, by omega⟩ kL_172 (by decide) rfl (Nat.le_of_ble_eq_true rfl) ⟨by omega, by omega⟩ dL_isWell_283 (fun hr283 => ?_)
          rw [(qBoa_ok hb3 (by decide)).2] at hr283 ⊢
          refine j_istore11 C rfl dL_isWell_286 ?_
          refine j_iconst C dL_isWell_288 ?_
          refine j_istore12 C rfl dL_isWell_289 ?_
          refine j_iconst C dL_isWell_291 ?_
          refine j_istore13 C rfl dL_isWell_292 ?_
          refine inn 0 (fun ce2 sl2 hce2 hsl2 => ?_) (cM σ + 1) 0 _ _ (by omega) (by omega) (by omega) (by omega)
          refine j_iload8 C dL_isWell_366 ?_
          refine j_if_eq C (by decide) dL_isWell_368 (fun _ => ?_) (fun hc => absurd hc (by decide))
          refine j_iload9 C dL_isWell_423 ?_
          refine j_if_ne C ⟨by omega, by omega⟩ dL_isWell_425 (fun hc425 => absurd hc425 (by omega)) (fun hc425 => ?_)
          refine j_iload11 C dL_isWell_428 ?_
          refine j_iconst C dL_isWell_430 ?_
          refine j_icmp_ne C ⟨by omega, by omega⟩ ⟨by omega, by omega⟩ dL_isWell_431 (fun hc431 => absurd hc431 (by omega)) (fun hc431 => ?_)
          refine j_aload0 C dL_isWell_434 ?_
          refine j_iload7 C dL_isWell_435 ?_
          refine j_iconst C dL_isWell_437 ?_
          refine j_boa C hK3 (Nat.le_refl _) Kl.k0 hsl hVW hb3 ⟨by omega, by omega⟩ kL_172 (by decide) rfl (Nat.le_of_ble_eq_true rfl) ⟨by omega, by omega⟩ dL_isWell_438 (fun hr438 => ?_)
          rw [(qBoa_ok hb3 (by decide)).2] at hr438 ⊢
          refine j_if_eq C ⟨by omega, by omega⟩ dL_isWell_441 (fun hc441 => ?_) (fun hc441 => absurd hc441 (by omega))
          by_cases hw : 0 < whyC σ b
          · obtain ⟨v1, v2⟩ := hW.1 hw
            refine j_iload3 C dL_isWell_446 ?_
            refine j_iload9 C dL_isWell_447 ?_
            refine j_iconst C dL_isWell_449 ?_
            refine j_ixorm C (by omega) dL_isWell_450 ?_
            refine j_iand C dL_isWell_451 ?_
            refine j_istore3 C rfl dL_isWell_452 ?_
            refine j_iload5 C dL_isWell_453 ?_
            refine j_iload8 C dL_isWell_455 ?_
            refine j_if_eq C (by decide) dL_isWell_457 (fun _ => ?_) (fun hc => absurd hc (by decide))
            refine j_iconst C dL_isWell_467 ?_
            refine j_iadd C dL_isWell_468 ?_
            rw [← e5]
            refine j_istore5 C rfl dL_isWell_469 ?_
            refine j_iload6 C dL_isWell_471 ?_
            refine j_iload8 C dL_isWell_473 ?_
            refine j_if_eq C (by decide) dL_isWell_475 (fun _ => ?_) (fun hc => absurd hc (by decide))
            refine j_iconst C dL_isWell_482 ?_
            refine j_iadd C dL_isWell_483 ?_
            rw [← e6]
            refine j_istore6 C rfl dL_isWell_484 ?_
            refine j_aload0 C dL_isWell_486 ?_
            refine j_iload7 C dL_isWell_487 ?_
            refine j_wear C hK3 (Nat.le_refl _) Kl.k0 hsl hVW ⟨by omega, by omega⟩ kL_184 (by decide) rfl (Nat.le_of_ble_eq_true rfl) ⟨by omega, by omega⟩ dL_isWell_489 (fun W1 hV1 hT1 hr489 => ?_)
            have q1 := hr489
            refine j_istore13 C rfl dL_isWell_492 ?_
            refine j_aload0 C dL_isWell_494 ?_
            refine j_iload7 C dL_isWell_495 ?_
            refine j_wgo C hK3 (Nat.le_refl _) Kl.k0 hsl hV1 ⟨by omega, by omega⟩ kL_186 (by decide) rfl (Nat.le_of_ble_eq_true rfl) ⟨by omega, by omega⟩ dL_isWell_497 (fun W2 hV2 hT2 hr497 => ?_)
            rw [v2] at hr497 ⊢
            refine j_istore14 C rfl dL_isWell_500 ?_
            refine j_iload13 C dL_isWell_502 ?_
            refine j_aload0 C dL_isWell_504 ?_
            refine j_iload7 C dL_isWell_505 ?_
            refine j_wearA C hK3 (Nat.le_refl _) Kl.k0 hsl hV2 ⟨by omega, by omega⟩ kL_188 (by decide) rfl (Nat.le_of_ble_eq_true rfl) ⟨by omega, by omega⟩ dL_isWell_507 (fun W3 hV3 hT3 hr507 => ?_)
            refine j_icmp_ne C hr489 hr507 dL_isWell_510 (fun hc510 => absurd hc510 (by omega)) (fun hc510 => ?_)
            refine j_aload0 C dL_isWell_513 ?_
            refine j_iload7 C dL_isWell_514 ?_
            refine j_home C hK3 (Nat.le_refl _) Kl.k0 hsl hV3 hM6 ⟨by omega, by omega⟩ kL_190 (by decide) rfl (Nat.le_of_ble_eq_true rfl) ⟨by omega, by omega⟩ dL_isWell_516 (fun W4 hV4 hT4 hr516 => ?_)
            refine j_aload0 C dL_isWell_519 ?_
            refine j_iload7 C dL_isWell_520 ?_
            refine j_homeA C hK3 (Nat.le_refl _) Kl.k0 hsl hV4 hM6 ⟨by omega, by omega⟩ kL_192 (by decide) rfl (Nat.le_of_ble_eq_true rfl) ⟨by omega, by omega⟩ dL_isWell_522 (fun W5 hV5 hT5 hr522 => ?_)
            refine j_icmp_ne C hr516 hr522 dL_isWell_525 (fun hc525 => absurd hc525 (by omega)) (fun hc525 => ?_)
            refine j_iload13 C dL_isWell_528 ?_
            refine j_if_ge C hr489 dL_isWell_530 (fun hc530 => absurd hc530 (by omega)) (fun hc530 => ?_)
            refine j_iconst C dL_isWell_533 ?_
            refine j_goto C dL_isWell_534 ?_
            refine j_iload14 C dL_isWell_538 ?_
            refine j_if_ge C ⟨by omega, by omega⟩ dL_isWell_540 (fun hc540 => absurd hc540 (by omega)) (fun hc540 => ?_)
            refine j_iconst C dL_isWell_543 ?_
            refine j_goto C dL_isWell_544 ?_
            refine j_icmp_ne C (by decide) (by decide) dL_isWell_548 (fun hc => absurd rfl hc) (fun _ => ?_)
            refine j_iload14 C dL_isWell_551 ?_
            refine j_if_lt C ⟨by omega, by omega⟩ dL_isWell_553 (fun hc553 => ?_) (fun hc553 => absurd hc553 (by omega))
            refine j_iinc7 C rfl dL_isWell_567 ?_
            refine j_goto C dL_isWell_570 ?_
            exact ih (b + 1) _ _ _ _ _ _ _ _ _ _ (by omega) (by omega) hV5 (by omega) (by omega)
          · obtain ⟨v1, v2⟩ := hW.2 hw
            have hca := crw_able hV.ri (b := (b : Int)) (by omega) hs2 hw
            have hA9 := ableS_lt hV.ri
            have hcl9 := crw_lt hV.ri (b : Int)
            refine j_iload3 C dL_isWell_446 ?_
            refine j_iload9 C dL_isWell_447 ?_
            refine j_iconst C dL_isWell_449 ?_
            refine j_ixorm C (by omega) dL_isWell_450 ?_
            refine j_iand C dL_isWell_451 ?_
            refine j_istore3 C rfl dL_isWell_452 ?_
            refine j_iload5 C dL_isWell_453 ?_
            refine j_iload8 C dL_isWell_455 ?_
            refine j_if_eq C (by decide) dL_isWell_457 (fun _ => ?_) (fun hc => absurd hc (by decide))
            refine j_iconst C dL_isWell_467 ?_
            refine j_iadd C dL_isWell_468 ?_
            rw [← e5]
            refine j_istore5 C rfl dL_isWell_469 ?_
            refine j_iload6 C dL_isWell_471 ?_
            refine j_iload8 C dL_isWell_473 ?_
            refine j_if_eq C (by decide) dL_isWell_475 (fun _ => ?_) (fun hc => absurd hc (by decide))
            refine j_iconst C dL_isWell_482 ?_
            refine j_iadd C dL_isWell_483 ?_
            rw [← e6]
            refine j_istore6 C rfl dL_isWell_484 ?_
            refine j_aload0 C dL_isWell_486 ?_
            refine j_iload7 C dL_isWell_487 ?_
            refine j_wear C hK3 (Nat.le_refl _) Kl.k0 hsl hVW ⟨by omega, by omega⟩ kL_184 (by decide) rfl (Nat.le_of_ble_eq_true rfl) ⟨by omega, by omega⟩ dL_isWell_489 (fun W1 hV1 hT1 hr489 => ?_)
            have q1 := hr489
            refine j_istore13 C rfl dL_isWell_492 ?_
            refine j_aload0 C dL_isWell_494 ?_
            refine j_iload7 C dL_isWell_495 ?_
            refine j_wgo C hK3 (Nat.le_refl _) Kl.k0 hsl hV1 ⟨by omega, by omega⟩ kL_186 (by decide) rfl (Nat.le_of_ble_eq_true rfl) ⟨by omega, by omega⟩ dL_isWell_497 (fun W2 hV2 hT2 hr497 => ?_)
            rw [v2] at hr497 ⊢
            refine j_istore14 C rfl dL_isWell_500 ?_
            refine j_iload13 C dL_isWell_502 ?_
            refine j_aload0 C dL_isWell_504 ?_
            refine j_iload7 C dL_isWell_505 ?_
            refine j_wearA C hK3 (Nat.le_refl _) Kl.k0 hsl hV2 ⟨by omega, by omega⟩ kL_188 (by decide) rfl (Nat.le_of_ble_eq_true rfl) ⟨by omega, by omega⟩ dL_isWell_507 (fun W3 hV3 hT3 hr507 => ?_)
            refine j_icmp_ne C hr489 hr507 dL_isWell_510 (fun hc510 => absurd hc510 (by omega)) (fun hc510 => ?_)
            refine j_aload0 C dL_isWell_513 ?_
            refine j_iload7 C dL_isWell_514 ?_
            refine j_home C hK3 (Nat.le_refl _) Kl.k0 hsl hV3 hM6 ⟨by omega, by omega⟩ kL_190 (by decide) rfl (Nat.le_of_ble_eq_true rfl) ⟨by omega, by omega⟩ dL_isWell_516 (fun W4 hV4 hT4 hr516 => ?_)
            refine j_aload0 C dL_isWell_519 ?_
            refine j_iload7 C dL_isWell_520 ?_
            refine j_homeA C hK3 (Nat.le_refl _) Kl.k0 hsl hV4 hM6 ⟨by omega, by omega⟩ kL_192 (by decide) rfl (Nat.le_of_ble_eq_true rfl) ⟨by omega, by omega⟩ dL_isWell_522 (fun W5 hV5 hT5 hr522 => ?_)
            refine j_icmp_ne C hr516 hr522 dL_isWell_525 (fun hc525 => absurd hc525 (by omega)) (fun hc525 => ?_)
            refine j_iload13 C dL_isWell_528 ?_
            refine j_if_ge C hr489 dL_isWell_530 (fun hc530 => ?_) (fun hc530 => absurd hc530 (by omega))
            refine j_iconst C dL_isWell_537 ?_
            refine j_iload14 C dL_isWell_538 ?_
            refine j_if_ge C ⟨by omega, by omega⟩ dL_isWell_540 (fun hc540 => ?_) (fun hc540 => absurd hc540 (by omega))
            refine j_iconst C dL_isWell_547 ?_
            refine j_icmp_ne C (by decide) (by decide) dL_isWell_548 (fun hc => absurd rfl hc) (fun _ => ?_)
            refine j_iload14 C dL_isWell_551 ?_
            refine j_if_lt C ⟨by omega, by omega⟩ dL_isWell_553 (fun hc553 => absurd hc553 (by omega)) (fun hc553 => ?_)
            refine j_iload14 C dL_isWell_556 ?_
            refine j_iload1 C dL_isWell_558 ?_
            refine j_iconst C dL_isWell_559 ?_
            refine j_ixorm C (by omega) dL_isWell_560 ?_
            refine j_iand C dL_isWell_561 ?_
            rw [hca]
            refine j_if_eq C (by decide) dL_isWell_562 (fun _ => ?_) (fun hc => absurd rfl hc)
            refine j_iinc7 C rfl dL_isWell_567 ?_
            refine j_goto C dL_isWell_570 ?_
            exact ih (b + 1) _ _ _ _ _ _ _ _ _ _ (by omega) (by omega) hV5 (by omega) (by omega)
  have lp2 : ∀ (N j ce sl : Nat) (u6 u7 u8 u9 u10 u11 u12 u13 u14 : Option Value), cL σ - j < N → j ≤ cL σ → ce ≤ 91 + 2 * j → sl ≤ 6 * ce → J Γ p l e (rmk 22 300 1800) s mm args below meth c (MQ below (QI Γ (fun z W => z = 1 ∧ INV M W σ n0 hh)) args s 300 1800 (gA Γ)) 243 ce sl 197 [some (.ref (rl Γ 0)), some (.int (iI ((ableS σ : Nat) : Int))), some (.int (iI ((cM σ : Int) - stayUp σ (cM σ) : Int))), some (.int (iI ((oR σ 0 : Nat) : Int))), some (.int (iI (oarsUp σ j : Int))), some (.int (iI ((j : Nat) : Int))), u6, u7, u8, u9, u10, u11, u12, u13, u14] [] ω := by
    intro N
    induction N with
    | zero => intro j ce sl u6 u7 u8 u9 u10 u11 u12 u13 u14 hN; exact absurd hN (Nat.not_lt_zero _)
    | succ N ih =>
      intro j ce sl u6 u7 u8 u9 u10 u11 u12 u13 u14 hN hk0 hce hsl9
      have ho := oarsUp_rg hV.ri j (by omega)
      refine j_iload5 C dL_isWell_197 ?_
      refine j_aload0 C dL_isWell_199 ?_
      refine j_iconst C dL_isWell_200 ?_
      refine j_acc C hK3 (Nat.le_refl _) Kl.k0 hsl hV ⟨by omega, by omega⟩ kL_166 (by decide) rfl (Nat.le_of_ble_eq_true rfl) ⟨by omega, by omega⟩ dL_isWell_201 (fun hr201 => ?_)
      rw [vAcc_5] at hr201 ⊢
      refine j_icmp_ge C ⟨by omega, by omega⟩ ⟨by omega, by omega⟩ dL_isWell_204 (fun hc204 => ?_) (fun hc204 => ?_)
      · -- 204 t
        have hk9 : j = cL σ := by omega
        subst hk9
        refine j_iconst C dL_isWell_225 ?_
        refine j_istore5 C rfl dL_isWell_226 ?_
        refine j_iconst C dL_isWell_228 ?_
        refine j_istore6 C rfl dL_isWell_229 ?_
        refine j_iconst C dL_isWell_231 ?_
        refine j_istore7 C rfl dL_isWell_232 ?_
        exact lp3 (cB σ + 1) 0 _ _ _ _ _ _ _ _ _ _ (by omega) (by omega) hV (by omega) (by omega)
      · -- 204 f
        refine j_iload4 C dL_isWell_207 ?_
        refine j_aload0 C dL_isWell_209 ?_
        refine j_iload5 C dL_isWell_210 ?_
        refine j_iconst C dL_isWell_212 ?_
        refine j_loa C hK3 (Nat.le_refl _) Kl.k0 hsl hV ⟨by omega, by omega⟩ ⟨by omega, by omega⟩ kL_178 (by decide) rfl (Nat.le_of_ble_eq_true rfl) ⟨by omega, by omega⟩ dL_isWell_213 (fun hr213 => ?_)
        rw [(qLoa_ok ⟨by omega, by omega⟩ (by decide)).2] at hr213 ⊢
        refine j_iadd C dL_isWell_216 ?_
        refine j_istore4 C rfl dL_isWell_217 ?_
        refine j_iinc5 C rfl dL_isWell_219 ?_
        refine j_goto C dL_isWell_222 ?_
        exact ih (j + 1) _ _ _ _ _ _ _ _ _ _ _ (by omega) (by omega) (by omega) (by omega)
  have lp1 : ∀ (N k ce sl : Nat) (u5 u6 u7 u8 u9 u10 u11 u12 u13 u14 : Option Value), cM σ - k < N → k ≤ cM σ → ce ≤ 9 * k → sl ≤ 6 * ce → J Γ p l e (rmk 22 300 1800) s mm args below meth c (MQ below (QI Γ (fun z W => z = 1 ∧ INV M W σ n0 hh)) args s 300 1800 (gA Γ)) 243 ce sl 9 [some (.ref (rl Γ 0)), some (.int (iI ((ableUp σ k : Nat) : Int))), some (.int (iI ((k : Int) - stayUp σ k : Int))), some (.int (iI ((outM σ k : Nat) : Int))), some (.int (iI ((k : Nat) : Int))), u5, u6, u7, u8, u9, u10, u11, u12, u13, u14] [] ω := by
    intro N
    induction N with
    | zero => intro k ce sl u5 u6 u7 u8 u9 u10 u11 u12 u13 u14 hN; exact absurd hN (Nat.not_lt_zero _)
    | succ N ih =>
      intro k ce sl u5 u6 u7 u8 u9 u10 u11 u12 u13 u14 hN hk0 hce hsl9
      refine j_iload4 C dL_isWell_9 ?_
      refine j_aload0 C dL_isWell_11 ?_
      refine j_iconst C dL_isWell_12 ?_
      refine j_acc C hK3 (Nat.le_refl _) Kl.k0 hsl hV ⟨by omega, by omega⟩ kL_166 (by decide) rfl (Nat.le_of_ble_eq_true rfl) ⟨by omega, by omega⟩ dL_isWell_13 (fun hr13 => ?_)
      rw [vAcc_1] at hr13 ⊢
      refine j_icmp_ge C ⟨by omega, by omega⟩ ⟨by omega, by omega⟩ dL_isWell_16 (fun hc16 => ?_) (fun hc16 => ?_)
      · -- 16 t
        have hk9 : k = cM σ := by omega
        subst hk9
        refine j_bipush C (by decide) dL_isWell_190 ?_
        refine j_istore4 C rfl dL_isWell_192 ?_
        refine j_iconst C dL_isWell_194 ?_
        refine j_istore5 C rfl dL_isWell_195 ?_
        exact lp2 (cL σ + 1) 0 _ _ _ _ _ _ _ _ _ _ _ (by omega) (by omega) (by omega) (by omega)
      · -- 16 f
        have ha9 : (0 : Int) ≤ (k : Int) ∧ (k : Int) ≤ σ 1 - 1 := by omega
        have gm := hV.ri.m k (by omega)
        have hwm := wi9.2.2.1 k (by omega)
        have hjm := wj.1 k (by omega)
        have hcase : (sM σ k 1 = 0 ∧ sM σ k 2 < σ 7) ∨ (sM σ k 1 = 0 ∧ ¬ sM σ k 2 < σ 7) ∨ sM σ k 1 = 1 ∨ sM σ k 1 = 2 := by omega
        rcases hcase with hc1 | hc1 | hc1 | hc1
        · have e1 : ableUp σ (k + 1) = ableUp σ k ||| 2 ^ k := by
            show _ ||| _ = _
            rw [if_pos hc1]
          have e2 : ((k + 1 : Nat) : Int) - stayUp σ (k + 1) = ((k : Int) - stayUp σ k) + 0 := by
            have : stayUp σ (k + 1) = stayUp σ k + 1 := by
              show _ + _ = _
              rw [if_neg (fun q => absurd (q.symm.trans hc1.1) (by decide))]
            omega
          have e3 : outM σ (k + 1) = outM σ k ||| 0 := by
            show _ ||| _ = _
            rw [if_neg (fun q => absurd (q.symm.trans hc1.1) (by decide))]
          have h4 : vMem σ k 4 = 1 := (vM4 ha9).trans (if_pos hc1)
          have g1 := hc1.1
          refine j_aload0 C dL_isWell_19 ?_
          refine j_iload4 C dL_isWell_20 ?_
          refine j_iconst C dL_isWell_22 ?_
          refine j_mem C hK3 (Nat.le_refl _) Kl.k0 hsl hV ⟨by omega, by omega⟩ ⟨by omega, by omega⟩ kL_169 (by decide) rfl (Nat.le_of_ble_eq_true rfl) ⟨by omega, by omega⟩ dL_isWell_23 (fun hr23 => ?_)
          rw [vM1 ha9, g1] at hr23 ⊢
          refine j_istore5 C rfl dL_isWell_26 ?_
          refine j_iload5 C dL_isWell_28 ?_
          refine j_if_ne C (by decide) dL_isWell_30 (fun hc => absurd rfl hc) (fun _ => ?_)
          refine j_aload0 C dL_isWell_33 ?_
          refine j_iload4 C dL_isWell_34 ?_
          refine j_iconst C dL_isWell_36 ?_
          refine j_mem C hK3 (Nat.le_refl _) Kl.k0 hsl hV ⟨by omega, by omega⟩ ⟨by omega, by omega⟩ kL_169 (by decide) rfl (Nat.le_of_ble_eq_true rfl) ⟨by omega, by omega⟩ dL_isWell_37 (fun hr37 => ?_)
          rw [vM2 ha9] at hr37 ⊢
          refine j_aload0 C dL_isWell_40 ?_
          refine j_bipush C (by decide) dL_isWell_41 ?_
          refine j_acc C hK3 (Nat.le_refl _) Kl.k0 hsl hV ⟨by omega, by omega⟩ kL_166 (by decide) rfl (Nat.le_of_ble_eq_true rfl) ⟨by omega, by omega⟩ dL_isWell_43 (fun hr43 => ?_)
          rw [vAcc_10] at hr43 ⊢
          refine j_icmp_ge C ⟨by omega, by omega⟩ ⟨by omega, by omega⟩ dL_isWell_46 (fun hc46 => absurd hc46 (by omega)) (fun hc46 => ?_)
          refine j_iconst C dL_isWell_49 ?_
          refine j_goto C dL_isWell_50 ?_
          refine j_istore6 C rfl dL_isWell_54 ?_
          refine j_iload1 C dL_isWell_56 ?_
          refine j_iload6 C dL_isWell_57 ?_
          refine j_if_eq C (by decide) dL_isWell_59 (fun hc => absurd hc (by decide)) (fun _ => ?_)
          refine j_iconstN C (k := 1) rfl dL_isWell_62 ?_
          refine j_iload4 C dL_isWell_63 ?_
          refine j_ishl1 C (by omega) dL_isWell_65 ?_
          refine j_goto C dL_isWell_66 ?_
          refine j_ior C dL_isWell_70 ?_
          rw [← e1]
          refine j_istore1 C rfl dL_isWell_71 ?_
          refine j_iload2 C dL_isWell_72 ?_
          refine j_iload5 C dL_isWell_73 ?_
          refine j_iconst C dL_isWell_75 ?_
          refine j_icmp_ne C (by decide) (by decide) dL_isWell_76 (fun _ => ?_) (fun hc => absurd hc (by decide))
          refine j_iconst C dL_isWell_83 ?_
          refine j_iadd C dL_isWell_84 ?_
          rw [← e2]
          refine j_istore2 C rfl dL_isWell_85 ?_
          refine j_iload3 C dL_isWell_86 ?_
          refine j_iload5 C dL_isWell_87 ?_
          refine j_iconst C dL_isWell_89 ?_
          refine j_icmp_ne C (by decide) (by decide) dL_isWell_90 (fun _ => ?_) (fun hc => absurd hc (by decide))
          refine j_iconstN C (k := 0) rfl dL_isWell_100 ?_
          refine j_ior C dL_isWell_101 ?_
          rw [← e3]
          refine j_istore3 C rfl dL_isWell_102 ?_
          refine j_iload6 C dL_isWell_103 ?_
          refine j_aload0 C dL_isWell_105 ?_
          refine j_iload4 C dL_isWell_106 ?_
          refine j_iconst C dL_isWell_108 ?_
          refine j_mem C hK3 (Nat.le_refl _) Kl.k0 hsl hV ⟨by omega, by omega⟩ ⟨by omega, by omega⟩ kL_169 (by decide) rfl (Nat.le_of_ble_eq_true rfl) ⟨by omega, by omega⟩ dL_isWell_109 (fun hr109 => ?_)
          rw [h4] at hr109 ⊢
          refine j_iconst C dL_isWell_112 ?_
          refine j_icmp_ne C (by decide) (by decide) dL_isWell_113 (fun hc => absurd rfl hc) (fun _ => ?_)
          refine j_iconst C dL_isWell_116 ?_
          refine j_goto C dL_isWell_117 ?_
          refine j_icmp_ne C (by decide) (by decide) dL_isWell_121 (fun hc => absurd rfl hc) (fun _ => ?_)
          refine j_iload5 C dL_isWell_124 ?_
          refine j_iconst C dL_isWell_126 ?_
          refine j_icmp_ne C (by decide) (by decide) dL_isWell_127 (fun _ => ?_) (fun hc => absurd hc (by decide))
          refine j_iconst C dL_isWell_134 ?_
          refine j_aload0 C dL_isWell_135 ?_
          refine j_iload4 C dL_isWell_136 ?_
          refine j_iconst C dL_isWell_138 ?_
          refine j_mem C hK3 (Nat.le_refl _) Kl.k0 hsl hV ⟨by omega, by omega⟩ ⟨by omega, by omega⟩ kL_169 (by decide) rfl (Nat.le_of_ble_eq_true rfl) ⟨by omega, by omega⟩ dL_isWell_139 (fun hr139 => ?_)
          rw [vM3 ha9] at hr139 ⊢
          refine j_if_lt C ⟨by omega, by omega⟩ dL_isWell_142 (fun hc142 => ?_) (fun hc142 => absurd hc142 (by omega))
          refine j_iconst C dL_isWell_149 ?_
          refine j_icmp_ne C (by decide) (by decide) dL_isWell_150 (fun hc => absurd rfl hc) (fun _ => ?_)
          refine j_aload0 C dL_isWell_153 ?_
          refine j_iload4 C dL_isWell_154 ?_
          refine j_bipush C (by decide) dL_isWell_156 ?_
          refine j_mem C hK3 (Nat.le_refl _) Kl.k0 hsl hV ⟨by omega, by omega⟩ ⟨by omega, by omega⟩ kL_169 (by decide) rfl (Nat.le_of_ble_eq_true rfl) ⟨by omega, by omega⟩ dL_isWell_158 (fun hr158 => ?_)
          rw [vM7 ha9] at hr158 ⊢
          refine j_aload0 C dL_isWell_161 ?_
          refine j_iload4 C dL_isWell_162 ?_
          refine j_bipush C (by decide) dL_isWell_164 ?_
          refine j_mem C hK3 (Nat.le_refl _) Kl.k0 hsl hV ⟨by omega, by omega⟩ ⟨by omega, by omega⟩ kL_169 (by decide) rfl (Nat.le_of_ble_eq_true rfl) ⟨by omega, by omega⟩ dL_isWell_166 (fun hr166 => ?_)
          rw [vM6 ha9] at hr166 ⊢
          refine j_icmp_gt C ⟨by omega, by omega⟩ ⟨by omega, by omega⟩ dL_isWell_169 (fun hc169 => absurd hc169 (by omega)) (fun hc169 => ?_)
          refine j_aload0 C dL_isWell_172 ?_
          refine j_iload4 C dL_isWell_173 ?_
          refine j_iconst C dL_isWell_175 ?_
          refine j_mem C hK3 (Nat.le_refl _) Kl.k0 hsl hV ⟨by omega, by omega⟩ ⟨by omega, by omega⟩ kL_169 (by decide) rfl (Nat.le_of_ble_eq_true rfl) ⟨by omega, by omega⟩ dL_isWell_176 (fun hr176 => ?_)
          rw [vM2 ha9] at hr176 ⊢
          refine j_if_ge C ⟨by omega, by omega⟩ dL_isWell_179 (fun hc179 => ?_) (fun hc179 => absurd hc179 (by omega))
          refine j_iinc4 C rfl dL_isWell_184 ?_
          refine j_goto C dL_isWell_187 ?_
          exact ih (k + 1) _ _ _ _ _ _ _ _ _ _ _ _ (by omega) (by omega) (by omega) (by omega)
        · have e1 : ableUp σ (k + 1) = ableUp σ k ||| 0 := by
            show _ ||| _ = _
            rw [if_neg (fun q => hc1.2 q.2)]
          have e2 : ((k + 1 : Nat) : Int) - stayUp σ (k + 1) = ((k : Int) - stayUp σ k) + 0 := by
            have : stayUp σ (k + 1) = stayUp σ k + 1 := by
              show _ + _ = _
              rw [if_neg (fun q => absurd (q.symm.trans hc1.1) (by decide))]
            omega
          have e3 : outM σ (k + 1) = outM σ k ||| 0 := by
            show _ ||| _ = _
            rw [if_neg (fun q => absurd (q.symm.trans hc1.1) (by decide))]
          have h4 : vMem σ k 4 = 0 := (vM4 ha9).trans (if_neg (fun q => hc1.2 q.2))
          have g1 := hc1.1
          refine j_aload0 C dL_isWell_19 ?_
          refine j_iload4 C dL_isWell_20 ?_
          refine j_iconst C dL_isWell_22 ?_
          refine j_mem C hK3 (Nat.le_refl _) Kl.k0 hsl hV ⟨by omega, by omega⟩ ⟨by omega, by omega⟩ kL_169 (by decide) rfl (Nat.le_of_ble_eq_true rfl) ⟨by omega, by omega⟩ dL_isWell_23 (fun hr23 => ?_)
          rw [vM1 ha9, g1] at hr23 ⊢
          refine j_istore5 C rfl dL_isWell_26 ?_
          refine j_iload5 C dL_isWell_28 ?_
          refine j_if_ne C (by decide) dL_isWell_30 (fun hc => absurd rfl hc) (fun _ => ?_)
          refine j_aload0 C dL_isWell_33 ?_
          refine j_iload4 C dL_isWell_34 ?_
          refine j_iconst C dL_isWell_36 ?_
          refine j_mem C hK3 (Nat.le_refl _) Kl.k0 hsl hV ⟨by omega, by omega⟩ ⟨by omega, by omega⟩ kL_169 (by decide) rfl (Nat.le_of_ble_eq_true rfl) ⟨by omega, by omega⟩ dL_isWell_37 (fun hr37 => ?_)
          rw [vM2 ha9] at hr37 ⊢
          refine j_aload0 C dL_isWell_40 ?_
          refine j_bipush C (by decide) dL_isWell_41 ?_
          refine j_acc C hK3 (Nat.le_refl _) Kl.k0 hsl hV ⟨by omega, by omega⟩ kL_166 (by decide) rfl (Nat.le_of_ble_eq_true rfl) ⟨by omega, by omega⟩ dL_isWell_43 (fun hr43 => ?_)
          rw [vAcc_10] at hr43 ⊢
          refine j_icmp_ge C ⟨by omega, by omega⟩ ⟨by omega, by omega⟩ dL_isWell_46 (fun hc46 => ?_) (fun hc46 => absurd hc46 (by omega))
          refine j_iconst C dL_isWell_53 ?_
          refine j_istore6 C rfl dL_isWell_54 ?_
          refine j_iload1 C dL_isWell_56 ?_
          refine j_iload6 C dL_isWell_57 ?_
          refine j_if_eq C (by decide) dL_isWell_59 (fun _ => ?_) (fun hc => absurd rfl hc)
          refine j_iconstN C (k := 0) rfl dL_isWell_69 ?_
          refine j_ior C dL_isWell_70 ?_
          rw [← e1]
          refine j_istore1 C rfl dL_isWell_71 ?_
          refine j_iload2 C dL_isWell_72 ?_
          refine j_iload5 C dL_isWell_73 ?_
          refine j_iconst C dL_isWell_75 ?_
          refine j_icmp_ne C (by decide) (by decide) dL_isWell_76 (fun _ => ?_) (fun hc => absurd hc (by decide))
          refine j_iconst C dL_isWell_83 ?_
          refine j_iadd C dL_isWell_84 ?_
          rw [← e2]
          refine j_istore2 C rfl dL_isWell_85 ?_
          refine j_iload3 C dL_isWell_86 ?_
          refine j_iload5 C dL_isWell_87 ?_
          refine j_iconst C dL_isWell_89 ?_
          refine j_icmp_ne C (by decide) (by decide) dL_isWell_90 (fun _ => ?_) (fun hc => absurd hc (by decide))
          refine j_iconstN C (k := 0) rfl dL_isWell_100 ?_
          refine j_ior C dL_isWell_101 ?_
          rw [← e3]
          refine j_istore3 C rfl dL_isWell_102 ?_
          refine j_iload6 C dL_isWell_103 ?_
          refine j_aload0 C dL_isWell_105 ?_
          refine j_iload4 C dL_isWell_106 ?_
          refine j_iconst C dL_isWell_108 ?_
          refine j_mem C hK3 (Nat.le_refl _) Kl.k0 hsl hV ⟨by omega, by omega⟩ ⟨by omega, by omega⟩ kL_169 (by decide) rfl (Nat.le_of_ble_eq_true rfl) ⟨by omega, by omega⟩ dL_isWell_109 (fun hr109 => ?_)
          rw [h4] at hr109 ⊢
          refine j_iconst C dL_isWell_112 ?_
          refine j_icmp_ne C (by decide) (by decide) dL_isWell_113 (fun _ => ?_) (fun hc => absurd hc (by decide))
          refine j_iconst C dL_isWell_120 ?_
          refine j_icmp_ne C (by decide) (by decide) dL_isWell_121 (fun hc => absurd rfl hc) (fun _ => ?_)
          refine j_iload5 C dL_isWell_124 ?_
          refine j_iconst C dL_isWell_126 ?_
          refine j_icmp_ne C (by decide) (by decide) dL_isWell_127 (fun _ => ?_) (fun hc => absurd hc (by decide))
          refine j_iconst C dL_isWell_134 ?_
          refine j_aload0 C dL_isWell_135 ?_
          refine j_iload4 C dL_isWell_136 ?_
          refine j_iconst C dL_isWell_138 ?_
          refine j_mem C hK3 (Nat.le_refl _) Kl.k0 hsl hV ⟨by omega, by omega⟩ ⟨by omega, by omega⟩ kL_169 (by decide) rfl (Nat.le_of_ble_eq_true rfl) ⟨by omega, by omega⟩ dL_isWell_139 (fun hr139 => ?_)
          rw [vM3 ha9] at hr139 ⊢
          refine j_if_lt C ⟨by omega, by omega⟩ dL_isWell_142 (fun hc142 => ?_) (fun hc142 => absurd hc142 (by omega))
          refine j_iconst C dL_isWell_149 ?_
          refine j_icmp_ne C (by decide) (by decide) dL_isWell_150 (fun hc => absurd rfl hc) (fun _ => ?_)
          refine j_aload0 C dL_isWell_153 ?_
          refine j_iload4 C dL_isWell_154 ?_
          refine j_bipush C (by decide) dL_isWell_156 ?_
          refine j_mem C hK3 (Nat.le_refl _) Kl.k0 hsl hV ⟨by omega, by omega⟩ ⟨by omega, by omega⟩ kL_169 (by decide) rfl (Nat.le_of_ble_eq_true rfl) ⟨by omega, by omega⟩ dL_isWell_158 (fun hr158 => ?_)
          rw [vM7 ha9] at hr158 ⊢
          refine j_aload0 C dL_isWell_161 ?_
          refine j_iload4 C dL_isWell_162 ?_
          refine j_bipush C (by decide) dL_isWell_164 ?_
          refine j_mem C hK3 (Nat.le_refl _) Kl.k0 hsl hV ⟨by omega, by omega⟩ ⟨by omega, by omega⟩ kL_169 (by decide) rfl (Nat.le_of_ble_eq_true rfl) ⟨by omega, by omega⟩ dL_isWell_166 (fun hr166 => ?_)
          rw [vM6 ha9] at hr166 ⊢
          refine j_icmp_gt C ⟨by omega, by omega⟩ ⟨by omega, by omega⟩ dL_isWell_169 (fun hc169 => absurd hc169 (by omega)) (fun hc169 => ?_)
          refine j_aload0 C dL_isWell_172 ?_
          refine j_iload4 C dL_isWell_173 ?_
          refine j_iconst C dL_isWell_175 ?_
          refine j_mem C hK3 (Nat.le_refl _) Kl.k0 hsl hV ⟨by omega, by omega⟩ ⟨by omega, by omega⟩ kL_169 (by decide) rfl (Nat.le_of_ble_eq_true rfl) ⟨by omega, by omega⟩ dL_isWell_176 (fun hr176 => ?_)
          rw [vM2 ha9] at hr176 ⊢
          refine j_if_ge C ⟨by omega, by omega⟩ dL_isWell_179 (fun hc179 => ?_) (fun hc179 => absurd hc179 (by omega))
          refine j_iinc4 C rfl dL_isWell_184 ?_
          refine j_goto C dL_isWell_187 ?_
          exact ih (k + 1) _ _ _ _ _ _ _ _ _ _ _ _ (by omega) (by omega) (by omega) (by omega)
        · have e1 : ableUp σ (k + 1) = ableUp σ k ||| 0 := by
            show _ ||| _ = _
            rw [if_neg (fun q => absurd (q.1.symm.trans hc1) (by decide))]
          have e2 : ((k + 1 : Nat) : Int) - stayUp σ (k + 1) = ((k : Int) - stayUp σ k) + 0 := by
            have : stayUp σ (k + 1) = stayUp σ k + 1 := by
              show _ + _ = _
              rw [if_neg (fun q => absurd (q.symm.trans hc1) (by decide))]
            omega
          have e3 : outM σ (k + 1) = outM σ k ||| 2 ^ k := by
            show _ ||| _ = _
            rw [if_pos hc1]
          have h4 : vMem σ k 4 = 0 := (vM4 ha9).trans (if_neg (fun q => absurd (q.1.symm.trans hc1) (by decide)))
          have g1 := hc1
          refine j_aload0 C dL_isWell_19 ?_
          refine j_iload4 C dL_isWell_20 ?_
          refine j_iconst C dL_isWell_22 ?_
          refine j_mem C hK3 (Nat.le_refl _) Kl.k0 hsl hV ⟨by omega, by omega⟩ ⟨by omega, by omega⟩ kL_169 (by decide) rfl (Nat.le_of_ble_eq_true rfl) ⟨by omega, by omega⟩ dL_isWell_23 (fun hr23 => ?_)
          rw [vM1 ha9, g1] at hr23 ⊢
          refine j_istore5 C rfl dL_isWell_26 ?_
          refine j_iload5 C dL_isWell_28 ?_
          refine j_if_ne C (by decide) dL_isWell_30 (fun _ => ?_) (fun hc => absurd hc (by decide))
          refine j_iconst C dL_isWell_53 ?_
          refine j_istore6 C rfl dL_isWell_54 ?_
          refine j_iload1 C dL_isWell_56 ?_
          refine j_iload6 C dL_isWell_57 ?_
          refine j_if_eq C (by decide) dL_isWell_59 (fun _ => ?_) (fun hc => absurd rfl hc)
          refine j_iconstN C (k := 0) rfl dL_isWell_69 ?_
          refine j_ior C dL_isWell_70 ?_
          rw [← e1]
          refine j_istore1 C rfl dL_isWell_71 ?_
          refine j_iload2 C dL_isWell_72 ?_
          refine j_iload5 C dL_isWell_73 ?_
          refine j_iconst C dL_isWell_75 ?_
          refine j_icmp_ne C (by decide) (by decide) dL_isWell_76 (fun _ => ?_) (fun hc => absurd hc (by decide))
          refine j_iconst C dL_isWell_83 ?_
          refine j_iadd C dL_isWell_84 ?_
          rw [← e2]
          refine j_istore2 C rfl dL_isWell_85 ?_
          refine j_iload3 C dL_isWell_86 ?_
          refine j_iload5 C dL_isWell_87 ?_
          refine j_iconst C dL_isWell_89 ?_
          refine j_icmp_ne C (by decide) (by decide) dL_isWell_90 (fun hc => absurd rfl hc) (fun _ => ?_)
          refine j_iconstN C (k := 1) rfl dL_isWell_93 ?_
          refine j_iload4 C dL_isWell_94 ?_
          refine j_ishl1 C (by omega) dL_isWell_96 ?_
          refine j_goto C dL_isWell_97 ?_
          refine j_ior C dL_isWell_101 ?_
          rw [← e3]
          refine j_istore3 C rfl dL_isWell_102 ?_
          refine j_iload6 C dL_isWell_103 ?_
          refine j_aload0 C dL_isWell_105 ?_
          refine j_iload4 C dL_isWell_106 ?_
          refine j_iconst C dL_isWell_108 ?_
          refine j_mem C hK3 (Nat.le_refl _) Kl.k0 hsl hV ⟨by omega, by omega⟩ ⟨by omega, by omega⟩ kL_169 (by decide) rfl (Nat.le_of_ble_eq_true rfl) ⟨by omega, by omega⟩ dL_isWell_109 (fun hr109 => ?_)
          rw [h4] at hr109 ⊢
          refine j_iconst C dL_isWell_112 ?_
          refine j_icmp_ne C (by decide) (by decide) dL_isWell_113 (fun _ => ?_) (fun hc => absurd hc (by decide))
          refine j_iconst C dL_isWell_120 ?_
          refine j_icmp_ne C (by decide) (by decide) dL_isWell_121 (fun hc => absurd rfl hc) (fun _ => ?_)
          refine j_iload5 C dL_isWell_124 ?_
          refine j_iconst C dL_isWell_126 ?_
          refine j_icmp_ne C (by decide) (by decide) dL_isWell_127 (fun hc => absurd rfl hc) (fun _ => ?_)
          refine j_iconst C dL_isWell_130 ?_
          refine j_goto C dL_isWell_131 ?_
          refine j_aload0 C dL_isWell_135 ?_
          refine j_iload4 C dL_isWell_136 ?_
          refine j_iconst C dL_isWell_138 ?_
          refine j_mem C hK3 (Nat.le_refl _) Kl.k0 hsl hV ⟨by omega, by omega⟩ ⟨by omega, by omega⟩ kL_169 (by decide) rfl (Nat.le_of_ble_eq_true rfl) ⟨by omega, by omega⟩ dL_isWell_139 (fun hr139 => ?_)
          rw [vM3 ha9] at hr139 ⊢
          refine j_if_lt C ⟨by omega, by omega⟩ dL_isWell_142 (fun hc142 => absurd hc142 (by omega)) (fun hc142 => ?_)
          refine j_iconst C dL_isWell_145 ?_
          refine j_goto C dL_isWell_146 ?_
          refine j_icmp_ne C (by decide) (by decide) dL_isWell_150 (fun hc => absurd rfl hc) (fun _ => ?_)
          refine j_aload0 C dL_isWell_153 ?_
          refine j_iload4 C dL_isWell_154 ?_
          refine j_bipush C (by decide) dL_isWell_156 ?_
          refine j_mem C hK3 (Nat.le_refl _) Kl.k0 hsl hV ⟨by omega, by omega⟩ ⟨by omega, by omega⟩ kL_169 (by decide) rfl (Nat.le_of_ble_eq_true rfl) ⟨by omega, by omega⟩ dL_isWell_158 (fun hr158 => ?_)
          rw [vM7 ha9] at hr158 ⊢
          refine j_aload0 C dL_isWell_161 ?_
          refine j_iload4 C dL_isWell_162 ?_
          refine j_bipush C (by decide) dL_isWell_164 ?_
          refine j_mem C hK3 (Nat.le_refl _) Kl.k0 hsl hV ⟨by omega, by omega⟩ ⟨by omega, by omega⟩ kL_169 (by decide) rfl (Nat.le_of_ble_eq_true rfl) ⟨by omega, by omega⟩ dL_isWell_166 (fun hr166 => ?_)
          rw [vM6 ha9] at hr166 ⊢
          refine j_icmp_gt C ⟨by omega, by omega⟩ ⟨by omega, by omega⟩ dL_isWell_169 (fun hc169 => absurd hc169 (by omega)) (fun hc169 => ?_)
          refine j_aload0 C dL_isWell_172 ?_
          refine j_iload4 C dL_isWell_173 ?_
          refine j_iconst C dL_isWell_175 ?_
          refine j_mem C hK3 (Nat.le_refl _) Kl.k0 hsl hV ⟨by omega, by omega⟩ ⟨by omega, by omega⟩ kL_169 (by decide) rfl (Nat.le_of_ble_eq_true rfl) ⟨by omega, by omega⟩ dL_isWell_176 (fun hr176 => ?_)
          rw [vM2 ha9] at hr176 ⊢
          refine j_if_ge C ⟨by omega, by omega⟩ dL_isWell_179 (fun hc179 => ?_) (fun hc179 => absurd hc179 (by omega))
          refine j_iinc4 C rfl dL_isWell_184 ?_
          refine j_goto C dL_isWell_187 ?_
          exact ih (k + 1) _ _ _ _ _ _ _ _ _ _ _ _ (by omega) (by omega) (by omega) (by omega)
        · have e1 : ableUp σ (k + 1) = ableUp σ k ||| 0 := by
            show _ ||| _ = _
            rw [if_neg (fun q => absurd (q.1.symm.trans hc1) (by decide))]
          have e2 : ((k + 1 : Nat) : Int) - stayUp σ (k + 1) = ((k : Int) - stayUp σ k) + 1 := by
            have : stayUp σ (k + 1) = stayUp σ k + 0 := by
              show _ + _ = _
              rw [if_pos hc1]
            omega
          have e3 : outM σ (k + 1) = outM σ k ||| 0 := by
            show _ ||| _ = _
            rw [if_neg (fun q => absurd (q.symm.trans hc1) (by decide))]
          have h4 : vMem σ k 4 = 0 := (vM4 ha9).trans (if_neg (fun q => absurd (q.1.symm.trans hc1) (by decide)))
          have g1 := hc1
          refine j_aload0 C dL_isWell_19 ?_
          refine j_iload4 C dL_isWell_20 ?_
          refine j_iconst C dL_isWell_22 ?_
          refine j_mem C hK3 (Nat.le_refl _) Kl.k0 hsl hV ⟨by omega, by omega⟩ ⟨by omega, by omega⟩ kL_169 (by decide) rfl (Nat.le_of_ble_eq_true rfl) ⟨by omega, by omega⟩ dL_isWell_23 (fun hr23 => ?_)
          rw [vM1 ha9, g1] at hr23 ⊢
          refine j_istore5 C rfl dL_isWell_26 ?_
          refine j_iload5 C dL_isWell_28 ?_
          refine j_if_ne C (by decide) dL_isWell_30 (fun _ => ?_) (fun hc => absurd hc (by decide))
          refine j_iconst C dL_isWell_53 ?_
          refine j_istore6 C rfl dL_isWell_54 ?_
          refine j_iload1 C dL_isWell_56 ?_
          refine j_iload6 C dL_isWell_57 ?_
          refine j_if_eq C (by decide) dL_isWell_59 (fun _ => ?_) (fun hc => absurd rfl hc)
          refine j_iconstN C (k := 0) rfl dL_isWell_69 ?_
          refine j_ior C dL_isWell_70 ?_
          rw [← e1]
          refine j_istore1 C rfl dL_isWell_71 ?_
          refine j_iload2 C dL_isWell_72 ?_
          refine j_iload5 C dL_isWell_73 ?_
          refine j_iconst C dL_isWell_75 ?_
          refine j_icmp_ne C (by decide) (by decide) dL_isWell_76 (fun hc => absurd rfl hc) (fun _ => ?_)
          refine j_iconst C dL_isWell_79 ?_
          refine j_goto C dL_isWell_80 ?_
          refine j_iadd C dL_isWell_84 ?_
          rw [← e2]
          refine j_istore2 C rfl dL_isWell_85 ?_
          refine j_iload3 C dL_isWell_86 ?_
          refine j_iload5 C dL_isWell_87 ?_
          refine j_iconst C dL_isWell_89 ?_
          refine j_icmp_ne C (by decide) (by decide) dL_isWell_90 (fun _ => ?_) (fun hc => absurd hc (by decide))
          refine j_iconstN C (k := 0) rfl dL_isWell_100 ?_
          refine j_ior C dL_isWell_101 ?_
          rw [← e3]
          refine j_istore3 C rfl dL_isWell_102 ?_
          refine j_iload6 C dL_isWell_103 ?_
          refine j_aload0 C dL_isWell_105 ?_
          refine j_iload4 C dL_isWell_106 ?_
          refine j_iconst C dL_isWell_108 ?_
          refine j_mem C hK3 (Nat.le_refl _) Kl.k0 hsl hV ⟨by omega, by omega⟩ ⟨by omega, by omega⟩ kL_169 (by decide) rfl (Nat.le_of_ble_eq_true rfl) ⟨by omega, by omega⟩ dL_isWell_109 (fun hr109 => ?_)
          rw [h4] at hr109 ⊢
          refine j_iconst C dL_isWell_112 ?_
          refine j_icmp_ne C (by decide) (by decide) dL_isWell_113 (fun _ => ?_) (fun hc => absurd hc (by decide))
          refine j_iconst C dL_isWell_120 ?_
          refine j_icmp_ne C (by decide) (by decide) dL_isWell_121 (fun hc => absurd rfl hc) (fun _ => ?_)
          refine j_iload5 C dL_isWell_124 ?_
          refine j_iconst C dL_isWell_126 ?_
          refine j_icmp_ne C (by decide) (by decide) dL_isWell_127 (fun _ => ?_) (fun hc => absurd hc (by decide))
          refine j_iconst C dL_isWell_134 ?_
          refine j_aload0 C dL_isWell_135 ?_
          refine j_iload4 C dL_isWell_136 ?_
          refine j_iconst C dL_isWell_138 ?_
          refine j_mem C hK3 (Nat.le_refl _) Kl.k0 hsl hV ⟨by omega, by omega⟩ ⟨by omega, by omega⟩ kL_169 (by decide) rfl (Nat.le_of_ble_eq_true rfl) ⟨by omega, by omega⟩ dL_isWell_139 (fun hr139 => ?_)
          rw [vM3 ha9] at hr139 ⊢
          refine j_if_lt C ⟨by omega, by omega⟩ dL_isWell_142 (fun hc142 => ?_) (fun hc142 => absurd hc142 (by omega))
          refine j_iconst C dL_isWell_149 ?_
          refine j_icmp_ne C (by decide) (by decide) dL_isWell_150 (fun hc => absurd rfl hc) (fun _ => ?_)
          refine j_aload0 C dL_isWell_153 ?_
          refine j_iload4 C dL_isWell_154 ?_
          refine j_bipush C (by decide) dL_isWell_156 ?_
          refine j_mem C hK3 (Nat.le_refl _) Kl.k0 hsl hV ⟨by omega, by omega⟩ ⟨by omega, by omega⟩ kL_169 (by decide) rfl (Nat.le_of_ble_eq_true rfl) ⟨by omega, by omega⟩ dL_isWell_158 (fun hr158 => ?_)
          rw [vM7 ha9] at hr158 ⊢
          refine j_aload0 C dL_isWell_161 ?_
          refine j_iload4 C dL_isWell_162 ?_
          refine j_bipush C (by decide) dL_isWell_164 ?_
          refine j_mem C hK3 (Nat.le_refl _) Kl.k0 hsl hV ⟨by omega, by omega⟩ ⟨by omega, by omega⟩ kL_169 (by decide) rfl (Nat.le_of_ble_eq_true rfl) ⟨by omega, by omega⟩ dL_isWell_166 (fun hr166 => ?_)
          rw [vM6 ha9] at hr166 ⊢
          refine j_icmp_gt C ⟨by omega, by omega⟩ ⟨by omega, by omega⟩ dL_isWell_169 (fun hc169 => absurd hc169 (by omega)) (fun hc169 => ?_)
          refine j_aload0 C dL_isWell_172 ?_
          refine j_iload4 C dL_isWell_173 ?_
          refine j_iconst C dL_isWell_175 ?_
          refine j_mem C hK3 (Nat.le_refl _) Kl.k0 hsl hV ⟨by omega, by omega⟩ ⟨by omega, by omega⟩ kL_169 (by decide) rfl (Nat.le_of_ble_eq_true rfl) ⟨by omega, by omega⟩ dL_isWell_176 (fun hr176 => ?_)
          rw [vM2 ha9] at hr176 ⊢
          refine j_if_ge C ⟨by omega, by omega⟩ dL_isWell_179 (fun hc179 => ?_) (fun hc179 => absurd hc179 (by omega))
          refine j_iinc4 C rfl dL_isWell_184 ?_
          refine j_goto C dL_isWell_187 ?_
          exact ih (k + 1) _ _ _ _ _ _ _ _ _ _ _ _ (by omega) (by omega) (by omega) (by omega)
  refine j_iconst C dL_isWell_0 ?_
  refine j_istore1 C rfl dL_isWell_1 ?_
  refine j_iconst C dL_isWell_2 ?_
  refine j_istore2 C rfl dL_isWell_3 ?_
  refine j_iconst C dL_isWell_4 ?_
  refine j_istore3 C rfl dL_isWell_5 ?_
  refine j_iconst C dL_isWell_6 ?_
  refine j_istore4 C rfl dL_isWell_7 ?_
  exact lp1 (cM σ + 1) 0 _ _ _ _ _ _ _ _ _ _ _ _ (by omega) (by omega) (by omega) (by omega)
