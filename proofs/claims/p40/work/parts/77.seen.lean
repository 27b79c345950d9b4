/-! all that the law sees of a rota, written into an array -/
def sn1 (σ : Row) : Nat → Row
  | 0 => fun _ => 0
  | k + 1 => up (sn1 σ k) k (vAcc σ k)
def snI (g : Nat → Int) (r : Row) (a : Nat) : Nat → Row
  | 0 => r
  | w + 1 => up (snI g r a w) (a + w) (g w)
def sn2 (σ : Row) : Nat → Row
  | 0 => sn1 σ 11
  | k + 1 => snI (fun w => vMem σ k w) (sn2 σ k) (12 + 8 * k) 8
def sn3 (σ : Row) : Nat → Row
  | 0 => sn2 σ (cM σ)
  | k + 1 => up (snI (fun w => vBoa σ k w) (sn3 σ k) (100 + 8 * k) 7) (107 + 8 * k) (vCrw σ k)
def sn4 (σ : Row) : Nat → Row
  | 0 => sn3 σ (cB σ)
  | k + 1 => snI (fun w => vLoa σ k w) (sn4 σ k) (130 + 3 * k) 3
def SEEN (σ : Row) : Row := sn4 σ (cL σ)
theorem INV.w243 {M : Int} {ω : Wo} {σ : Row} {n : Nat} {hh : Nat → Row} {a : Nat} {f : Row} (h : INV M ω σ n hh) (ha : 243 ≤ a) : INV M (wf ω a f) σ n hh :=
  h.keep ⟨Int.le_refl _, h.ri.2.1⟩ (fun x hx => wf_ne _ _ (by omega)) (fun x hx _ => rfl) h.q22

set_option maxRecDepth 100000 in
set_option maxHeartbeats 8000000 in
theorem c_seen {κ : Nat → Nat} {Γ : Ga} {l : Launch} {ω : Wo} {M : Int} {σ : Row} {n0 : Nat} {hh : Nat → Row} (hsl : l.stackTraces = false) (hV : INV M ω σ n0 hh) (hκ : Kl κ 244) (h26 : κ 243 = 26) (hZ : ω.1 243 = fun _ => 0) : Met l yL_seen (.code yL_seen cL_seen 4 (some (.array .int)) :: WS) (rmk 9 200 1400) (PL Γ 243 κ [.ref (rl Γ 0)] ω (Ew Γ 243)) (QRW Γ 244 κ (fun b ω' => b = 243 ∧ ω' = wf ω 243 (SEEN σ))) 200 1400 (gA Γ) := by
  refine MetL.ofJ (k := 3) [some (.ref (rl Γ 0)), none, none, none] (by decide) rfl rfl rfl (fun p e s mm args below meth c C hK3 hX hrt => ?_)
  have h43 : At 244 243 26 κ := ⟨by decide, by decide, h26⟩
  have gs := hV.ri.s
  have gc := hV.ri.c
  refine j_sipush C (by decide) dL_seen_0 ?_
  refine j_newaG (kk := 26) (N := 200) C (hX.hw.g (by decide)) (WS_of 828 (by decide +kernel)) (ty := .int) rfl h26 (by decide) rfl rfl rfl rfl (by decide) (by decide) hZ ⟨by decide, by decide⟩ dL_seen_3 ?_
  refine j_astore1 C rfl dL_seen_5 ?_
  refine j_iconst C dL_seen_6 ?_
  refine j_istore2 C rfl dL_seen_7 ?_
  have hω : ω = wf ω 243 (sn1 σ 0) := by
    show ω = wf ω 243 (fun _ => 0)
    rw [← hZ, wf_id]
  have fin : ∀ (ce sl : Nat) (u2 u3 : Option Value), ce ≤ 200 → sl ≤ 1400 → J Γ p l e (rmk 9 200 1400) s mm args below meth c (MQ below (QRW Γ 244 κ (fun b ω' => b = 243 ∧ ω' = wf ω 243 (SEEN σ))) args s 200 1400 (gA Γ)) 244 ce sl 185 [some (.ref (rl Γ 0)), some (.ref (rl Γ 243)), u2, u3] [] (wf ω 243 (SEEN σ)) κ := by
    intro ce sl u2 u3 h1 h2
    refine j_widen h1 h2 ?_
    refine j_aload1 C dL_seen_185 ?_
    exact j_art C hrt rfl dL_seen_186 rfl ⟨rfl, rfl⟩ ⟨rfl, rfl⟩
  have lp4 : ∀ (N k9 ce sl : Nat) (u3 : Option Value), cL σ - k9 < N → k9 ≤ cL σ → ce ≤ 160 + 4 * k9 → sl ≤ 6 * ce + 200 → J Γ p l e (rmk 9 200 1400) s mm args below meth c (MQ below (QRW Γ 244 κ (fun b ω' => b = 243 ∧ ω' = wf ω 243 (SEEN σ))) args s 200 1400 (gA Γ)) 244 ce sl 140 [some (.ref (rl Γ 0)), some (.ref (rl Γ 243)), some (.int (iI (k9 : Int))), u3] [] (wf ω 243 (sn4 σ k9)) κ := by
    intro N
    induction N with
    | zero => intro k9 ce sl u3 hN; exact absurd hN (Nat.not_lt_zero _)
    | succ N ih =>
      intro k9 ce sl u3 hN hk0 hce hsl9
      refine j_iload2 C dL_seen_140 ?_
      refine j_aload0 C dL_seen_141 ?_
      refine j_iconst C dL_seen_142 ?_
      refine j_acc C hK3 (by omega) hκ hsl (hV.w243 (Nat.le_refl 243)) ⟨by omega, by omega⟩ kL_166 (by omega) rfl (Nat.le_of_ble_eq_true rfl) ⟨by omega, by omega⟩ dL_seen_143 (fun hr143 => ?_)
      rw [vAcc_5] at hr143 ⊢
      refine j_icmp_ge C ⟨by omega, by omega⟩ ⟨by omega, by omega⟩ dL_seen_146 (fun hc146 => ?_) (fun hc146 => ?_)
      · -- 146 t
        have hk9 : k9 = cL σ := by omega
        subst hk9
        exact fin _ _ _ _ (by omega) (by omega)
      · -- 146 f
        refine j_iconst C dL_seen_149 ?_
        refine j_istore3 C rfl dL_seen_150 ?_
        have inn : ∀ (N w9 ce2 sl2 : Nat), 3 - w9 < N → w9 ≤ 3 → ce2 ≤ ce + 1 + 1 * w9 → sl2 ≤ 6 * ce2 + 200 → J Γ p l e (rmk 9 200 1400) s mm args below meth c (MQ below (QRW Γ 244 κ (fun b ω' => b = 243 ∧ ω' = wf ω 243 (SEEN σ))) args s 200 1400 (gA Γ)) 244 ce2 sl2 151 [some (.ref (rl Γ 0)), some (.ref (rl Γ 243)), some (.int (iI (k9 : Int))), some (.int (iI (w9 : Int)))] [] (wf ω 243 (snI (fun w => vLoa σ k9 w) (sn4 σ k9) (130 + 3 * k9) w9)) κ := by
          intro N
          induction N with
          | zero => intro w9 ce2 sl2 hN; exact absurd hN (Nat.not_lt_zero _)
          | succ N ihw =>
            intro w9 ce2 sl2 hN2 hw0 hce2 hsl2
            refine j_iload3 C dL_seen_151 ?_
            refine j_iconst C dL_seen_152 ?_
            refine j_icmp_ge C ⟨by omega, by omega⟩ ⟨by omega, by omega⟩ dL_seen_153 (fun hc153 => ?_) (fun hc153 => ?_)
            · -- 153 t
              have hw9 : w9 = 3 := by omega
              subst hw9
              refine j_iinc2 C rfl dL_seen_179 ?_
              refine j_goto C dL_seen_182 ?_
              exact ih (k9 + 1) _ _ _ (by omega) (by omega) (by omega) (by omega)
            · -- 153 f
              refine j_aload1 C dL_seen_156 ?_
              refine j_sipush C (by decide) dL_seen_157 ?_
              refine j_iconst C dL_seen_160 ?_
              refine j_iload2 C dL_seen_161 ?_
              refine j_imul C dL_seen_162 ?_
              refine j_iadd C dL_seen_163 ?_
              refine j_iload3 C dL_seen_164 ?_
              refine j_iadd C dL_seen_165 ?_
              refine j_aload0 C dL_seen_166 ?_
              refine j_iload2 C dL_seen_167 ?_
              refine j_iload3 C dL_seen_168 ?_
              refine j_loa C hK3 (by omega) hκ hsl (hV.w243 (Nat.le_refl 243)) ⟨by omega, by omega⟩ ⟨by omega, by omega⟩ kL_178 (by omega) rfl (Nat.le_of_ble_eq_true rfl) ⟨by omega, by omega⟩ dL_seen_169 (fun hr169 => ?_)
              refine j_iastK (k := 130 + 3 * k9 + w9) C h43 (by decide) (show lnk 26 = 200 from rfl) (by decide) (by omega) (by omega) hr169 dL_seen_172 ?_
              rw [wi_wf, wf_same, wf_wf]
              refine j_iinc3 C rfl dL_seen_173 ?_
              refine j_goto C dL_seen_176 ?_
              exact ihw (w9 + 1) _ _ (by omega) (by omega) (by omega) (by omega)
        exact inn 4 0 _ _ (by omega) (by omega) (by omega) (by omega)
  have lp3 : ∀ (N k9 ce sl : Nat) (u3 : Option Value), cB σ - k9 < N → k9 ≤ cB σ → ce ≤ 108 + 16 * k9 → sl ≤ 6 * ce + 200 → J Γ p l e (rmk 9 200 1400) s mm args below meth c (MQ below (QRW Γ 244 κ (fun b ω' => b = 243 ∧ ω' = wf ω 243 (SEEN σ))) args s 200 1400 (gA Γ)) 244 ce sl 78 [some (.ref (rl Γ 0)), some (.ref (rl Γ 243)), some (.int (iI (k9 : Int))), u3] [] (wf ω 243 (sn3 σ k9)) κ := by
    intro N
    induction N with
    | zero => intro k9 ce sl u3 hN; exact absurd hN (Nat.not_lt_zero _)
    | succ N ih =>
      intro k9 ce sl u3 hN hk0 hce hsl9
      refine j_iload2 C dL_seen_78 ?_
      refine j_aload0 C dL_seen_79 ?_
      refine j_iconst C dL_seen_80 ?_
      refine j_acc C hK3 (by omega) hκ hsl (hV.w243 (Nat.le_refl 243)) ⟨by omega, by omega⟩ kL_166 (by omega) rfl (Nat.le_of_ble_eq_true rfl) ⟨by omega, by omega⟩ dL_seen_81 (fun hr81 => ?_)
      rw [vAcc_3] at hr81 ⊢
      refine j_icmp_ge C ⟨by omega, by omega⟩ ⟨by omega, by omega⟩ dL_seen_84 (fun hc84 => ?_) (fun hc84 => ?_)
      · -- 84 t
        have hk9 : k9 = cB σ := by omega
        subst hk9
        refine j_iconst C dL_seen_138 ?_
        refine j_istore2 C rfl dL_seen_139 ?_
        exact lp4 (cL σ + 1) 0 _ _ _ (by omega) (by omega) (by omega) (by omega)
      · -- 84 f
        refine j_iconst C dL_seen_87 ?_
        refine j_istore3 C rfl dL_seen_88 ?_
        have inn : ∀ (N w9 ce2 sl2 : Nat), 7 - w9 < N → w9 ≤ 7 → ce2 ≤ ce + 1 + 2 * w9 → sl2 ≤ 6 * ce2 + 200 → J Γ p l e (rmk 9 200 1400) s mm args below meth c (MQ below (QRW Γ 244 κ (fun b ω' => b = 243 ∧ ω' = wf ω 243 (SEEN σ))) args s 200 1400 (gA Γ)) 244 ce2 sl2 89 [some (.ref (rl Γ 0)), some (.ref (rl Γ 243)), some (.int (iI (k9 : Int))), some (.int (iI (w9 : Int)))] [] (wf ω 243 (snI (fun w => vBoa σ k9 w) (sn3 σ k9) (100 + 8 * k9) w9)) κ := by
          intro N
          induction N with
          | zero => intro w9 ce2 sl2 hN; exact absurd hN (Nat.not_lt_zero _)
          | succ N ihw =>
            intro w9 ce2 sl2 hN2 hw0 hce2 hsl2
            refine j_iload3 C dL_seen_89 ?_
            refine j_bipush C (by decide) dL_seen_90 ?_
            refine j_icmp_ge C ⟨by omega, by omega⟩ ⟨by omega, by omega⟩ dL_seen_92 (fun hc92 => ?_) (fun hc92 => ?_)
            · -- 92 t
              have hw9 : w9 = 7 := by omega
              subst hw9
              refine j_aload1 C dL_seen_118 ?_
              refine j_bipush C (by decide) dL_seen_119 ?_
              refine j_bipush C (by decide) dL_seen_121 ?_
              refine j_iload2 C dL_seen_123 ?_
              refine j_imul C dL_seen_124 ?_
              refine j_iadd C dL_seen_125 ?_
              refine j_aload0 C dL_seen_126 ?_
              refine j_iload2 C dL_seen_127 ?_
              refine j_crw C hK3 (by omega) hκ hsl (hV.w243 (Nat.le_refl 243)) ⟨by omega, by omega⟩ kL_175 (by omega) rfl (Nat.le_of_ble_eq_true rfl) ⟨by omega, by omega⟩ dL_seen_128 (fun hr128 => ?_)
              refine j_iastK (k := 107 + 8 * k9) C h43 (by decide) (show lnk 26 = 200 from rfl) (by decide) (by omega) (by omega) hr128 dL_seen_131 ?_
              rw [wi_wf, wf_same, wf_wf]
              refine j_iinc2 C rfl dL_seen_132 ?_
              refine j_goto C dL_seen_135 ?_
              exact ih (k9 + 1) _ _ _ (by omega) (by omega) (by omega) (by omega)
            · -- 92 f
              refine j_aload1 C dL_seen_95 ?_
              refine j_bipush C (by decide) dL_seen_96 ?_
              refine j_bipush C (by decide) dL_seen_98 ?_
              refine j_iload2 C dL_seen_100 ?_
              refine j_imul C dL_seen_101 ?_
              refine j_iadd C dL_seen_102 ?_
              refine j_iload3 C dL_seen_103 ?_
              refine j_iadd C dL_seen_104 ?_
              refine j_aload0 C dL_seen_105 ?_
              refine j_iload2 C dL_seen_106 ?_
              refine j_iload3 C dL_seen_107 ?_
              refine j_boa C hK3 (by omega) hκ hsl (hV.w243 (Nat.le_refl 243)) ⟨by omega, by omega⟩ ⟨by omega, by omega⟩ kL_172 (by omega) rfl (Nat.le_of_ble_eq_true rfl) ⟨by omega, by omega⟩ dL_seen_108 (fun hr108 => ?_)
              refine j_iastK (k := 100 + 8 * k9 + w9) C h43 (by decide) (show lnk 26 = 200 from rfl) (by decide) (by omega) (by omega) hr108 dL_seen_111 ?_
              rw [wi_wf, wf_same, wf_wf]
              refine j_iinc3 C rfl dL_seen_112 ?_
              refine j_goto C dL_seen_115 ?_
              exact ihw (w9 + 1) _ _ (by omega) (by omega) (by omega) (by omega)
        exact inn 8 0 _ _ (by omega) (by omega) (by omega) (by omega)
  have lp2 : ∀ (N k9 ce sl : Nat) (u3 : Option Value), cM σ - k9 < N → k9 ≤ cM σ → ce ≤ 13 + 9 * k9 → sl ≤ 6 * ce + 200 → J Γ p l e (rmk 9 200 1400) s mm args below meth c (MQ below (QRW Γ 244 κ (fun b ω' => b = 243 ∧ ω' = wf ω 243 (SEEN σ))) args s 200 1400 (gA Γ)) 244 ce sl 30 [some (.ref (rl Γ 0)), some (.ref (rl Γ 243)), some (.int (iI (k9 : Int))), u3] [] (wf ω 243 (sn2 σ k9)) κ := by
    intro N
    induction N with
    | zero => intro k9 ce sl u3 hN; exact absurd hN (Nat.not_lt_zero _)
    | succ N ih =>
      intro k9 ce sl u3 hN hk0 hce hsl9
      refine j_iload2 C dL_seen_30 ?_
      refine j_aload0 C dL_seen_31 ?_
      refine j_iconst C dL_seen_32 ?_
      refine j_acc C hK3 (by omega) hκ hsl (hV.w243 (Nat.le_refl 243)) ⟨by omega, by omega⟩ kL_166 (by omega) rfl (Nat.le_of_ble_eq_true rfl) ⟨by omega, by omega⟩ dL_seen_33 (fun hr33 => ?_)
      rw [vAcc_1] at hr33 ⊢
      refine j_icmp_ge C ⟨by omega, by omega⟩ ⟨by omega, by omega⟩ dL_seen_36 (fun hc36 => ?_) (fun hc36 => ?_)
      · -- 36 t
        have hk9 : k9 = cM σ := by omega
        subst hk9
        refine j_iconst C dL_seen_76 ?_
        refine j_istore2 C rfl dL_seen_77 ?_
        exact lp3 (cB σ + 1) 0 _ _ _ (by omega) (by omega) (by omega) (by omega)
      · -- 36 f
        refine j_iconst C dL_seen_39 ?_
        refine j_istore3 C rfl dL_seen_40 ?_
        have inn : ∀ (N w9 ce2 sl2 : Nat), 8 - w9 < N → w9 ≤ 8 → ce2 ≤ ce + 1 + 1 * w9 → sl2 ≤ 6 * ce2 + 200 → J Γ p l e (rmk 9 200 1400) s mm args below meth c (MQ below (QRW Γ 244 κ (fun b ω' => b = 243 ∧ ω' = wf ω 243 (SEEN σ))) args s 200 1400 (gA Γ)) 244 ce2 sl2 41 [some (.ref (rl Γ 0)), some (.ref (rl Γ 243)), some (.int (iI (k9 : Int))), some (.int (iI (w9 : Int)))] [] (wf ω 243 (snI (fun w => vMem σ k9 w) (sn2 σ k9) (12 + 8 * k9) w9)) κ := by
          intro N
          induction N with
          | zero => intro w9 ce2 sl2 hN; exact absurd hN (Nat.not_lt_zero _)
          | succ N ihw =>
            intro w9 ce2 sl2 hN2 hw0 hce2 hsl2
            refine j_iload3 C dL_seen_41 ?_
            refine j_bipush C (by decide) dL_seen_42 ?_
            refine j_icmp_ge C ⟨by omega, by omega⟩ ⟨by omega, by omega⟩ dL_seen_44 (fun hc44 => ?_) (fun hc44 => ?_)
            · -- 44 t
              have hw9 : w9 = 8 := by omega
              subst hw9
              refine j_iinc2 C rfl dL_seen_70 ?_
              refine j_goto C dL_seen_73 ?_
              exact ih (k9 + 1) _ _ _ (by omega) (by omega) (by omega) (by omega)
            · -- 44 f
              refine j_aload1 C dL_seen_47 ?_
              refine j_bipush C (by decide) dL_seen_48 ?_
              refine j_bipush C (by decide) dL_seen_50 ?_
              refine j_iload2 C dL_seen_52 ?_
              refine j_imul C dL_seen_53 ?_
              refine j_iadd C dL_seen_54 ?_
              refine j_iload3 C dL_seen_55 ?_
              refine j_iadd C dL_seen_56 ?_
              refine j_aload0 C dL_seen_57 ?_
              refine j_iload2 C dL_seen_58 ?_
              refine j_iload3 C dL_seen_59 ?_
              refine j_mem C hK3 (by omega) hκ hsl (hV.w243 (Nat.le_refl 243)) ⟨by omega, by omega⟩ ⟨by omega, by omega⟩ kL_169 (by omega) rfl (Nat.le_of_ble_eq_true rfl) ⟨by omega, by omega⟩ dL_seen_60 (fun hr60 => ?_)
              refine j_iastK (k := 12 + 8 * k9 + w9) C h43 (by decide) (show lnk 26 = 200 from rfl) (by decide) (by omega) (by omega) hr60 dL_seen_63 ?_
              rw [wi_wf, wf_same, wf_wf]
              refine j_iinc3 C rfl dL_seen_64 ?_
              refine j_goto C dL_seen_67 ?_
              exact ihw (w9 + 1) _ _ (by omega) (by omega) (by omega) (by omega)
        exact inn 9 0 _ _ (by omega) (by omega) (by omega) (by omega)
  have lp1 : ∀ (N k9 ce sl : Nat) (u3 : Option Value), 11 - k9 < N → k9 ≤ 11 → ce ≤ 1 + 1 * k9 → sl ≤ 6 * ce + 200 → J Γ p l e (rmk 9 200 1400) s mm args below meth c (MQ below (QRW Γ 244 κ (fun b ω' => b = 243 ∧ ω' = wf ω 243 (SEEN σ))) args s 200 1400 (gA Γ)) 244 ce sl 8 [some (.ref (rl Γ 0)), some (.ref (rl Γ 243)), some (.int (iI (k9 : Int))), u3] [] (wf ω 243 (sn1 σ k9)) κ := by
    intro N
    induction N with
    | zero => intro k9 ce sl u3 hN; exact absurd hN (Nat.not_lt_zero _)
    | succ N ih =>
      intro k9 ce sl u3 hN hk0 hce hsl9
      refine j_iload2 C dL_seen_8 ?_
      refine j_bipush C (by decide) dL_seen_9 ?_
      refine j_icmp_ge C ⟨by omega, by omega⟩ ⟨by omega, by omega⟩ dL_seen_11 (fun hc11 => ?_) (fun hc11 => ?_)
      · -- 11 t
        have hk9 : k9 = 11 := by omega
        subst hk9
        refine j_iconst C dL_seen_28 ?_
        refine j_istore2 C rfl dL_seen_29 ?_
        exact lp2 (cM σ + 1) 0 _ _ _ (by omega) (by omega) (by omega) (by omega)
      · -- 11 f
        refine j_aload1 C dL_seen_14 ?_
        refine j_iload2 C dL_seen_15 ?_
        refine j_aload0 C dL_seen_16 ?_
        refine j_iload2 C dL_seen_17 ?_
        refine j_acc C hK3 (by omega) hκ hsl (hV.w243 (Nat.le_refl 243)) ⟨by omega, by omega⟩ kL_166 (by omega) rfl (Nat.le_of_ble_eq_true rfl) ⟨by omega, by omega⟩ dL_seen_18 (fun hr18 => ?_)
        refine j_iastK (k := k9) C h43 (by decide) (show lnk 26 = 200 from rfl) (by decide) (by omega) (by omega) hr18 dL_seen_21 ?_
        rw [wi_wf, wf_same, wf_wf]
        refine j_iinc2 C rfl dL_seen_22 ?_
        refine j_goto C dL_seen_25 ?_
        exact ih (k9 + 1) _ _ _ (by omega) (by omega) (by omega) (by omega)
  exact j_conv rfl rfl hω (lp1 12 0 1 200 _ (by omega) (by omega) (by omega) (by omega))
