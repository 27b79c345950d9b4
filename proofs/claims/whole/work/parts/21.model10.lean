set_option maxRecDepth 100000 in
set_option maxHeartbeats 4000000 in
theorem c_X9_isText {Γ : Ga} {l : Launch} {ω : Wo} (hw : WM ω.2.1)  {n : Nat} (h15 : ω.1 243 15 = (n : Int)) (hn : n ≤ 60) : CI Γ l yX9_isText cX9_isText 2 .boolean 3 [.ref (rl Γ 243)] ω (fun z ω' => TxtP ω (ω.1 249) n z ω') := by
  refine Met.ofJ (k := 1) [some (.ref (rl Γ 243)), none] (by decide) rfl rfl rfl (fun p e s mm args below meth c C hrt => ?_)
  refine j_conv rfl rfl (NW_id ω).symm ?_
  refine j_aload0 C dX9_isText_0 ?_
  refine j_iconst C dX9_isText_1 ?_
  refine j_putI C fX9_230 at_243 rfl ty_7_16 ⟨by omega, by omega⟩ dX9_isText_2 ?_
  try simp only [wi_wf, wf_same, wf_wf, tM0, tM1, tM2, tM3, tM4, tM5, tM6, tB0, tB1, tB2, tB3, tB4, tB5, tB6, tL0, tL1, tL2, up_up, wn_243_244, wn_243_245, wn_243_246, wn_243_247, wn_243_248, wn_243_249, wn_243_250, wn_243_251, wn_244_243, wn_244_245, wn_244_246, wn_244_247, wn_244_248, wn_244_249, wn_244_250, wn_244_251, wn_245_243, wn_245_244, wn_245_246, wn_245_247, wn_245_248, wn_245_249, wn_245_250, wn_245_251, wn_246_243, wn_246_244, wn_246_245, wn_246_247, wn_246_248, wn_246_249, wn_246_250, wn_246_251, wn_247_243, wn_247_244, wn_247_245, wn_247_246, wn_247_248, wn_247_249, wn_247_250, wn_247_251, wn_248_243, wn_248_244, wn_248_245, wn_248_246, wn_248_247, wn_248_249, wn_248_250, wn_248_251, wn_249_243, wn_249_244, wn_249_245, wn_249_246, wn_249_247, wn_249_248, wn_249_250, wn_249_251, wn_250_243, wn_250_244, wn_250_245, wn_250_246, wn_250_247, wn_250_248, wn_250_249, wn_250_251, wn_251_243, wn_251_244, wn_251_245, wn_251_246, wn_251_247, wn_251_248, wn_251_249, wn_251_250, NW_3, NW_5, NW_r3, NW_r5, NW_r4, NW_r9, NW_NW, up_same, Int.toNat_natCast, row_17a, row_17b, row_17c]
  refine j_aload0 C dX9_isText_5 ?_
  refine j_iconst C dX9_isText_6 ?_
  refine j_putI C fX9_236 at_243 rfl ty_7_17 ⟨by omega, by omega⟩ dX9_isText_7 ?_
  try simp only [wi_wf, wf_same, wf_wf, tM0, tM1, tM2, tM3, tM4, tM5, tM6, tB0, tB1, tB2, tB3, tB4, tB5, tB6, tL0, tL1, tL2, up_up, wn_243_244, wn_243_245, wn_243_246, wn_243_247, wn_243_248, wn_243_249, wn_243_250, wn_243_251, wn_244_243, wn_244_245, wn_244_246, wn_244_247, wn_244_248, wn_244_249, wn_244_250, wn_244_251, wn_245_243, wn_245_244, wn_245_246, wn_245_247, wn_245_248, wn_245_249, wn_245_250, wn_245_251, wn_246_243, wn_246_244, wn_246_245, wn_246_247, wn_246_248, wn_246_249, wn_246_250, wn_246_251, wn_247_243, wn_247_244, wn_247_245, wn_247_246, wn_247_248, wn_247_249, wn_247_250, wn_247_251, wn_248_243, wn_248_244, wn_248_245, wn_248_246, wn_248_247, wn_248_249, wn_248_250, wn_248_251, wn_249_243, wn_249_244, wn_249_245, wn_249_246, wn_249_247, wn_249_248, wn_249_250, wn_249_251, wn_250_243, wn_250_244, wn_250_245, wn_250_246, wn_250_247, wn_250_248, wn_250_249, wn_250_251, wn_251_243, wn_251_244, wn_251_245, wn_251_246, wn_251_247, wn_251_248, wn_251_249, wn_251_250, NW_3, NW_5, NW_r3, NW_r5, NW_r4, NW_r9, NW_NW, up_same, Int.toNat_natCast, row_17a, row_17b, row_17c]
  refine j_aload0 C dX9_isText_10 ?_
  refine j_cVI0 C (c_X9_readsCommand (m := 0) (n := n) (h := 0) (by exact hw) rfl (by decide) (by exact h15) rfl hn (Nat.zero_le _)) oX9_readsCommand kX9_245 ⟨_, rfl, rfl⟩ at_243 ⟨by decide, by decide⟩ rfl (Nat.le_of_ble_eq_true rfl) ⟨by decide, by decide⟩ dX9_isText_11 ?_
  intro z0 w0 hz0 hp0
  obtain ⟨o0, rfl, hf0, hp0⟩ := hp0
  simp only [wi_wf, wf_same, wf_wf, tM0, tM1, tM2, tM3, tM4, tM5, tM6, tB0, tB1, tB2, tB3, tB4, tB5, tB6, tL0, tL1, tL2, up_up, wn_243_244, wn_243_245, wn_243_246, wn_243_247, wn_243_248, wn_243_249, wn_243_250, wn_243_251, wn_244_243, wn_244_245, wn_244_246, wn_244_247, wn_244_248, wn_244_249, wn_244_250, wn_244_251, wn_245_243, wn_245_244, wn_245_246, wn_245_247, wn_245_248, wn_245_249, wn_245_250, wn_245_251, wn_246_243, wn_246_244, wn_246_245, wn_246_247, wn_246_248, wn_246_249, wn_246_250, wn_246_251, wn_247_243, wn_247_244, wn_247_245, wn_247_246, wn_247_248, wn_247_249, wn_247_250, wn_247_251, wn_248_243, wn_248_244, wn_248_245, wn_248_246, wn_248_247, wn_248_249, wn_248_250, wn_248_251, wn_249_243, wn_249_244, wn_249_245, wn_249_246, wn_249_247, wn_249_248, wn_249_250, wn_249_251, wn_250_243, wn_250_244, wn_250_245, wn_250_246, wn_250_247, wn_250_248, wn_250_249, wn_250_251, wn_251_243, wn_251_244, wn_251_245, wn_251_246, wn_251_247, wn_251_248, wn_251_249, wn_251_250, NW_3, NW_5, NW_r3, NW_r5, NW_r4, NW_r9, NW_NW, up_same, Int.toNat_natCast, row_17a, row_17b, row_17c] at hp0 ⊢
  refine j_istore1 C rfl dX9_isText_14 ?_
  have loop15 : ∀ (N : Nat) (k : Nat) (o : Row) (z : Int), (21 - k) < N → (TxL ω n k o z) → (Rg z) → J Γ p l e (rmk 3 0 0) s mm args below meth c (MQ below (QI Γ (fun z ω' => TxtP ω (ω.1 249) n z ω')) args s 0 0 (gA Γ)) 254 0 0 15 [some (.ref (rl Γ 243)), some (.int (iI z))] [] (NW ω (up (up (ω.1 243) 17 ((k + 1 : Nat) : Int)) 16 ((cEnd (ω.1 249) n (psn (ω.1 249) n k)) : Int)) o) := by
    intro N
    induction N with
    | zero => intro k o z hN; exact absurd hN (Nat.not_lt_zero _)
    | succ N ih15 =>
      intro k o z hN hT hzr
      have hTr := hT.rg hn
      refine j_iload1 C dX9_isText_15 ?_
      refine j_if_eq C ⟨by omega, by omega⟩ dX9_isText_16 (fun hc16 => ?_) (fun hc16 => ?_)
      · -- 16 T
        refine j_iload1 C dX9_isText_36 ?_
        refine j_if_eq C ⟨by omega, by omega⟩ dX9_isText_37 (fun hc37 => ?_) (fun hc37 => absurd hc37 (by omega))
        refine j_iconst C dX9_isText_55 ?_
        refine j_zret C hrt dX9_isText_56 (by first | exact Or.inl rfl | exact Or.inr rfl | exact bI_01 _) ?_
        first | exact hT.no (by omega) | exact hT.ok hn hc16 hc25 (by omega) | exact hT.flt hc16 hc25 (by omega)
      · -- 16 F
        refine j_aload0 C dX9_isText_19 ?_
        refine j_bipush C (by decide) dX9_isText_20 ?_
        refine j_cVI1 C (c_X9_isSign (n := n) (h := (cEnd (ω.1 249) n (psn (ω.1 249) n k))) (by exact hw) (by decide) (by exact h15) rfl hn hTr.2.1) oX9_isSign kX9_249 ⟨_, rfl, rfl⟩ at_243 ⟨by decide, by decide⟩ rfl (Nat.le_of_ble_eq_true rfl) ⟨by decide, by decide⟩ dX9_isText_22 ?_
        rintro _ _ hz22 ⟨rfl, rfl⟩
        try simp only [wi_wf, wf_same, wf_wf, tM0, tM1, tM2, tM3, tM4, tM5, tM6, tB0, tB1, tB2, tB3, tB4, tB5, tB6, tL0, tL1, tL2, up_up, wn_243_244, wn_243_245, wn_243_246, wn_243_247, wn_243_248, wn_243_249, wn_243_250, wn_243_251, wn_244_243, wn_244_245, wn_244_246, wn_244_247, wn_244_248, wn_244_249, wn_244_250, wn_244_251, wn_245_243, wn_245_244, wn_245_246, wn_245_247, wn_245_248, wn_245_249, wn_245_250, wn_245_251, wn_246_243, wn_246_244, wn_246_245, wn_246_247, wn_246_248, wn_246_249, wn_246_250, wn_246_251, wn_247_243, wn_247_244, wn_247_245, wn_247_246, wn_247_248, wn_247_249, wn_247_250, wn_247_251, wn_248_243, wn_248_244, wn_248_245, wn_248_246, wn_248_247, wn_248_249, wn_248_250, wn_248_251, wn_249_243, wn_249_244, wn_249_245, wn_249_246, wn_249_247, wn_249_248, wn_249_250, wn_249_251, wn_250_243, wn_250_244, wn_250_245, wn_250_246, wn_250_247, wn_250_248, wn_250_249, wn_250_251, wn_251_243, wn_251_244, wn_251_245, wn_251_246, wn_251_247, wn_251_248, wn_251_249, wn_251_250, NW_3, NW_5, NW_r3, NW_r5, NW_r4, NW_r9, NW_NW, up_same, Int.toNat_natCast, row_17a, row_17b, row_17c] at hz22 ⊢
        refine j_ifeqb C dX9_isText_25 (fun hc25 => ?_) (fun hc25 => ?_)
        · -- 25 T
          refine j_conv rfl rfl (congrArg (fun q : Nat => NW ω (up (up (ω.1 243) 17 ((k + 1 : Nat) : Int)) 16 (q : Int)) o) (if_pos hc25)) ?_
          have hTr3 := hTr.2.2 hc16 hc25
          refine j_aload0 C dX9_isText_28 ?_
          refine j_cVI0 C (c_X9_readsCommand (m := k + 1) (n := n) (h := (cEnd (ω.1 249) n (psn (ω.1 249) n k)) + 1) (by exact hw) rfl (by omega) (by exact h15) rfl hn (by omega)) oX9_readsCommand kX9_245 ⟨_, rfl, rfl⟩ at_243 ⟨by decide, by decide⟩ rfl (Nat.le_of_ble_eq_true rfl) ⟨by decide, by decide⟩ dX9_isText_29 ?_
          intro z1 w1 hz1 hp1
          obtain ⟨o1, rfl, hf1, hp1⟩ := hp1
          simp only [wi_wf, wf_same, wf_wf, tM0, tM1, tM2, tM3, tM4, tM5, tM6, tB0, tB1, tB2, tB3, tB4, tB5, tB6, tL0, tL1, tL2, up_up, wn_243_244, wn_243_245, wn_243_246, wn_243_247, wn_243_248, wn_243_249, wn_243_250, wn_243_251, wn_244_243, wn_244_245, wn_244_246, wn_244_247, wn_244_248, wn_244_249, wn_244_250, wn_244_251, wn_245_243, wn_245_244, wn_245_246, wn_245_247, wn_245_248, wn_245_249, wn_245_250, wn_245_251, wn_246_243, wn_246_244, wn_246_245, wn_246_247, wn_246_248, wn_246_249, wn_246_250, wn_246_251, wn_247_243, wn_247_244, wn_247_245, wn_247_246, wn_247_248, wn_247_249, wn_247_250, wn_247_251, wn_248_243, wn_248_244, wn_248_245, wn_248_246, wn_248_247, wn_248_249, wn_248_250, wn_248_251, wn_249_243, wn_249_244, wn_249_245, wn_249_246, wn_249_247, wn_249_248, wn_249_250, wn_249_251, wn_250_243, wn_250_244, wn_250_245, wn_250_246, wn_250_247, wn_250_248, wn_250_249, wn_250_251, wn_251_243, wn_251_244, wn_251_245, wn_251_246, wn_251_247, wn_251_248, wn_251_249, wn_251_250, NW_3, NW_5, NW_r3, NW_r5, NW_r4, NW_r9, NW_NW, up_same, Int.toNat_natCast, row_17a, row_17b, row_17c] at hp1 hf1 ⊢
          refine j_istore1 C rfl dX9_isText_32 ?_
          refine j_goto C dX9_isText_33 ?_
          have hTr2 := hTr.2.2 hc16 hc25
          exact j_fg (ih15 (k + 1) o1 z1 (by omega) (hT.next hc16 hn hc25 hf1 hp1) hz1) ⟨Or.inr rfl, Or.inr rfl, trivial⟩ rfl
        · -- 25 F
          refine j_conv rfl rfl (congrArg (fun q : Nat => NW ω (up (up (ω.1 243) 17 ((k + 1 : Nat) : Int)) 16 (q : Int)) o) (if_neg hc25)) ?_
          refine j_iload1 C dX9_isText_36 ?_
          refine j_if_eq C ⟨by omega, by omega⟩ dX9_isText_37 (fun hc37 => absurd hc37 (by omega)) (fun hc37 => ?_)
          refine j_aload0 C dX9_isText_40 ?_
          refine j_geti C fX9_230 at_243 rfl rfl dX9_isText_41 (fun hr41 => ?_)
          try simp only [wf_same, wn_243_244, wn_243_245, wn_243_246, wn_243_247, wn_243_248, wn_243_249, wn_243_250, wn_243_251, wn_244_243, wn_244_245, wn_244_246, wn_244_247, wn_244_248, wn_244_249, wn_244_250, wn_244_251, wn_245_243, wn_245_244, wn_245_246, wn_245_247, wn_245_248, wn_245_249, wn_245_250, wn_245_251, wn_246_243, wn_246_244, wn_246_245, wn_246_247, wn_246_248, wn_246_249, wn_246_250, wn_246_251, wn_247_243, wn_247_244, wn_247_245, wn_247_246, wn_247_248, wn_247_249, wn_247_250, wn_247_251, wn_248_243, wn_248_244, wn_248_245, wn_248_246, wn_248_247, wn_248_249, wn_248_250, wn_248_251, wn_249_243, wn_249_244, wn_249_245, wn_249_246, wn_249_247, wn_249_248, wn_249_250, wn_249_251, wn_250_243, wn_250_244, wn_250_245, wn_250_246, wn_250_247, wn_250_248, wn_250_249, wn_250_251, wn_251_243, wn_251_244, wn_251_245, wn_251_246, wn_251_247, wn_251_248, wn_251_249, wn_251_250, NW_r3, NW_r5, NW_r4, NW_r9, up_same, Int.toNat_natCast] at hr41 ⊢
          refine j_aload0 C dX9_isText_44 ?_
          refine j_geti C fX9_227 at_243 rfl (by exact h15) dX9_isText_45 (fun hr45 => ?_)
          try simp only [wf_same, wn_243_244, wn_243_245, wn_243_246, wn_243_247, wn_243_248, wn_243_249, wn_243_250, wn_243_251, wn_244_243, wn_244_245, wn_244_246, wn_244_247, wn_244_248, wn_244_249, wn_244_250, wn_244_251, wn_245_243, wn_245_244, wn_245_246, wn_245_247, wn_245_248, wn_245_249, wn_245_250, wn_245_251, wn_246_243, wn_246_244, wn_246_245, wn_246_247, wn_246_248, wn_246_249, wn_246_250, wn_246_251, wn_247_243, wn_247_244, wn_247_245, wn_247_246, wn_247_248, wn_247_249, wn_247_250, wn_247_251, wn_248_243, wn_248_244, wn_248_245, wn_248_246, wn_248_247, wn_248_249, wn_248_250, wn_248_251, wn_249_243, wn_249_244, wn_249_245, wn_249_246, wn_249_247, wn_249_248, wn_249_250, wn_249_251, wn_250_243, wn_250_244, wn_250_245, wn_250_246, wn_250_247, wn_250_248, wn_250_249, wn_250_251, wn_251_243, wn_251_244, wn_251_245, wn_251_246, wn_251_247, wn_251_248, wn_251_249, wn_251_250, NW_r3, NW_r5, NW_r4, NW_r9, up_same, Int.toNat_natCast] at hr45 ⊢
          refine j_icmp_ne C ⟨by omega, by omega⟩ ⟨by omega, by omega⟩ dX9_isText_48 (fun hc48 => ?_) (fun hc48 => ?_)
          · -- 48 T
            refine j_iconst C dX9_isText_55 ?_
            refine j_zret C hrt dX9_isText_56 (by first | exact Or.inl rfl | exact Or.inr rfl | exact bI_01 _) ?_
            first | exact hT.no (by omega) | exact hT.ok hn hc16 hc25 (by omega) | exact hT.flt hc16 hc25 (by omega)
          · -- 48 F
            refine j_iconst C dX9_isText_51 ?_
            refine j_goto C dX9_isText_52 ?_
            refine j_zret C hrt dX9_isText_56 (by first | exact Or.inl rfl | exact Or.inr rfl | exact bI_01 _) ?_
            first | exact hT.no (by omega) | exact hT.ok hn hc16 hc25 (by omega) | exact hT.flt hc16 hc25 (by omega)
  exact j_fg (loop15 _ 0 o0 z0 (Nat.lt_succ_self _) (TxL.zero hp0) hz0) ⟨Or.inr rfl, Or.inr rfl, trivial⟩ rfl
