set_option maxRecDepth 100000 in
set_option maxHeartbeats 4000000 in
theorem c_X9_copies {Γ : Ga} {l : Launch} {ω : Wo}  {a1 a2 k1 k2 n1 n2 f g : Nat} (h1 : At 254 a1 k1) (q1 : arrI k1 = true ∧ tyk k1 = 0) (e1 : lnk k1 = n1) (h2 : At 254 a2 k2) (q2 : arrI k2 = true ∧ tyk k2 = 0) (e2 : lnk k2 = n2) (hf : f + 111 ≤ n1) (hg : g + 111 ≤ n2) (hn : n1 ≤ 888 ∧ n2 ≤ 888) (hd : a1 ≠ a2 ∨ g + 111 ≤ f) : CV Γ l yX9_copies cX9_copies 5 0 [.ref (rl Γ a1), .int (iI ((f : Int))), .ref (rl Γ a2), .int (iI ((g : Int)))] ω (fun ω' => ω' = wf ω a2 (cpy (ω.1 a1) f (ω.1 a2) g 111)) := by
  refine Met.ofJ (k := 1) [some (.ref (rl Γ a1)), some (.int (iI ((f : Int)))), some (.ref (rl Γ a2)), some (.int (iI ((g : Int)))), none] (by decide) rfl rfl rfl (fun p e s mm args below meth c C hrt => ?_)
  refine j_iconst C dX9_copies_0 ?_
  refine j_istore4 C rfl dX9_copies_1 ?_
  have loop3 : ∀ (N : Nat) (k : Nat), (111 - k) < N → (k ≤ 111) → J Γ p l e (rmk 0 0 0) s mm args below meth c (MQ below (QV Γ (fun ω' => ω' = wf ω a2 (cpy (ω.1 a1) f (ω.1 a2) g 111))) args s 0 0 (gA Γ)) 254 0 0 3 [some (.ref (rl Γ a1)), some (.int (iI ((f : Nat) : Int))), some (.ref (rl Γ a2)), some (.int (iI ((g : Nat) : Int))), some (.int (iI ((k : Nat) : Int)))] [] (wf ω a2 (cpy (ω.1 a1) f (ω.1 a2) g k)) := by
    intro N
    induction N with
    | zero => intro k hN; exact absurd hN (Nat.not_lt_zero _)
    | succ N ih3 =>
      intro k hN hi0
      refine j_iload4 C dX9_copies_3 ?_
      refine j_bipush C (by decide) dX9_copies_5 ?_
      refine j_icmp_ge C ⟨by omega, by omega⟩ ⟨by omega, by omega⟩ dX9_copies_7 (fun hc7 => ?_) (fun hc7 => ?_)
      · -- 7 T
        refine j_vret C hrt dX9_copies_28 ?_
        have hk9 : k = 111 := by omega
        subst hk9
        rfl
      · -- 7 F
        refine j_aload2 C dX9_copies_10 ?_
        refine j_iload3 C dX9_copies_11 ?_
        refine j_iload4 C dX9_copies_12 ?_
        refine j_iadd C dX9_copies_14 ?_
        refine j_aload0 C dX9_copies_15 ?_
        refine j_iload1 C dX9_copies_16 ?_
        refine j_iload4 C dX9_copies_17 ?_
        refine j_iadd C dX9_copies_19 ?_
        refine j_iald C h1 q1 (N := n1) e1 (by omega) ⟨by omega, by omega⟩ (show _ = ω.1 a1 (f + k) by rw [show ((f : Int) + (k : Int)).toNat = f + k by omega]; exact cpy_rd hd (by omega)) dX9_copies_20 (fun hr20 => ?_)
        refine j_iast C h2 q2 (N := n2) e2 (by omega) ⟨by omega, by omega⟩ ⟨by omega, by omega⟩ dX9_copies_21 ?_
        refine j_iinc4n C rfl dX9_copies_22 ?_
        refine j_goto C dX9_copies_25 ?_
        exact j_fg (ih3 (k + 1) (by omega) (by omega)) ⟨Or.inr rfl, Or.inr rfl, Or.inr rfl, Or.inr rfl, Or.inr rfl, trivial⟩ (by rw [wi_wf, wf_same, wf_wf, show ((g : Int) + (k : Int)).toNat = g + k by omega, cpy_s])
  exact j_fg (loop3 _ 0 (Nat.lt_succ_self _) (Nat.zero_le _)) ⟨Or.inr rfl, Or.inr rfl, Or.inr rfl, Or.inr rfl, Or.inr rfl, trivial⟩ (by rw [cpy_0, wf_id])
set_option maxRecDepth 100000 in
set_option maxHeartbeats 4000000 in
theorem c_X9_keeps {Γ : Ga} {l : Launch} {ω : Wo} (hw : WM ω.2.1) {M : Int} (hI : RI M (ω.1 244))  (hz : ∀ y, 111 ≤ y → ω.1 245 y = 0) : CV Γ l yX9_keeps cX9_keeps 1 1 [.ref (rl Γ 243)] ω (fun ω' => ω' = kp ω) := by
  refine Met.ofJ (k := 0) [some (.ref (rl Γ 243))] (by decide) rfl rfl rfl (fun p e s mm args below meth c C hrt => ?_)
  refine j_aload0 C dX9_keeps_0 ?_
  refine j_getr C fX9_9 at_243 rfl hw.r0 dX9_keeps_1 ?_
  refine j_iconst C dX9_keeps_4 ?_
  refine j_aload0 C dX9_keeps_5 ?_
  refine j_getr C fX9_13 at_243 rfl hw.r1 dX9_keeps_6 ?_
  refine j_iconst C dX9_keeps_9 ?_
  refine j_cSV4 C (c_X9_copies (f := 0) (g := 0) at_244 ⟨rfl, rfl⟩ rfl at_245 ⟨rfl, rfl⟩ rfl (by decide) (by decide) (by decide) (Or.inl (by decide))) oX9_copies kX9_41 ⟨by decide, by decide⟩ rfl (Nat.le_of_ble_eq_true rfl) ⟨by decide, by decide⟩ dX9_keeps_10 ?_
  rintro _ rfl
  rw [cpy_full hI.z hz]
  refine j_aload0 C dX9_keeps_13 ?_
  refine j_iconst C dX9_keeps_14 ?_
  refine j_putI C fX9_38 at_243 rfl ty_7_6 ⟨by omega, by omega⟩ dX9_keeps_15 ?_
  refine j_vret C hrt dX9_keeps_18 ?_
  exact wi_wf _ _ _ _
set_option maxRecDepth 100000 in
set_option maxHeartbeats 4000000 in
theorem c_X9_changed {Γ : Ga} {l : Launch} {ω : Wo} (hw : WM ω.2.1)  {c5 : Nat} (hc5 : ω.1 243 5 = (c5 : Int)) (hc8 : c5 ≤ 8) : CV Γ l yX9_changed cX9_changed 2 1 [.ref (rl Γ 243)] ω (fun ω' => ω' = chg ω) := by
  refine Met.ofJ (k := 1) [some (.ref (rl Γ 243)), none] (by decide) rfl rfl rfl (fun p e s mm args below meth c C hrt => ?_)
  refine j_aload0 C dX9_changed_0 ?_
  refine j_geti C fX9_45 at_243 rfl hc5 dX9_changed_1 (fun hr1 => ?_)
  refine j_bipush C (by decide) dX9_changed_4 ?_
  refine j_icmp_ne C ⟨by omega, by omega⟩ ⟨by omega, by omega⟩ dX9_changed_6 (fun hc6 => ?_) (fun hc6 => ?_)
  · -- 6 T
    refine j_aload0 C dX9_changed_54 ?_
    refine j_getr C fX9_13 at_243 rfl hw.r1 dX9_changed_55 ?_
    refine j_iconst C dX9_changed_58 ?_
    refine j_aload0 C dX9_changed_59 ?_
    refine j_getr C fX9_22 at_243 rfl hw.r4 dX9_changed_60 ?_
    refine j_bipush C (by decide) dX9_changed_63 ?_
    refine j_aload0 C dX9_changed_65 ?_
    refine j_geti C fX9_45 at_243 rfl (by first | exact hc5 | exact (rfl : _ = (7 : Int))) dX9_changed_66 (fun hr66 => ?_)
    refine j_imul C dX9_changed_69 ?_
    first
      | refine j_conv (S' := [.int (iI ((111 * c5 : Nat) : Int)), .ref (rl Γ 248), .int (iI ((0 : Nat) : Int)), .ref (rl Γ 245)]) rfl (cons_i3 (by omega) rfl _) rfl ?_
      | refine j_conv (S' := [.int (iI ((777 : Nat) : Int)), .ref (rl Γ 248), .int (iI ((0 : Nat) : Int)), .ref (rl Γ 245)]) rfl (cons_i3 (by decide) rfl _) rfl ?_
    refine j_cSV4 C (c_X9_copies (f := 0) (n1 := 111) (n2 := 888) at_245 ⟨rfl, rfl⟩ rfl at_248 ⟨rfl, rfl⟩ rfl (by omega) (by omega) (by decide) (Or.inl (by decide))) oX9_copies kX9_41 ⟨by decide, by decide⟩ rfl (Nat.le_of_ble_eq_true rfl) ⟨by decide, by decide⟩ dX9_changed_70 ?_
    rintro _ rfl
    try simp only [wi_wf, wf_same, wf_wf, tM0, tM1, tM2, tM3, tM4, tM5, tM6, tB0, tB1, tB2, tB3, tB4, tB5, tB6, tL0, tL1, tL2]
    refine j_aload0 C dX9_changed_73 ?_
    refine j_dup C rfl dX9_changed_74 ?_
    refine j_geti C fX9_45 at_243 rfl (by first | exact hc5 | exact (rfl : _ = (7 : Int))) dX9_changed_75 (fun hr75 => ?_)
    refine j_iconst C dX9_changed_78 ?_
    refine j_iadd C dX9_changed_79 ?_
    refine j_putI C fX9_45 at_243 rfl ty_7_5 ⟨by omega, by omega⟩ dX9_changed_80 ?_
    try simp only [wi_wf, wf_same, wf_wf, tM0, tM1, tM2, tM3, tM4, tM5, tM6, tB0, tB1, tB2, tB3, tB4, tB5, tB6, tL0, tL1, tL2]
    refine j_vret C hrt dX9_changed_83 ?_
    first | exact chg_a (ω := ω) hc5 (by omega) | (have hn7 : n = 7 := (by omega); subst hn7; exact chg_b (ω := ω) (by omega))
  · -- 6 F
    refine j_iconst C dX9_changed_9 ?_
    refine j_istore1 C rfl dX9_changed_10 ?_
    have loop11 : ∀ (N : Nat) (n : Nat), (7 - n) < N → (n ≤ 7) → J Γ p l e (rmk 1 0 0) s mm args below meth c (MQ below (QV Γ (fun ω' => ω' = chg ω)) args s 0 0 (gA Γ)) 254 0 0 11 [some (.ref (rl Γ 243)), some (.int (iI ((n + 1 : Nat) : Int)))] [] (wf ω 248 (shf (ω.1 248) n)) := by
      intro N
      induction N with
      | zero => intro n hN; exact absurd hN (Nat.not_lt_zero _)
      | succ N ih11 =>
        intro n hN hi0
        refine j_iload1 C dX9_changed_11 ?_
        refine j_bipush C (by decide) dX9_changed_12 ?_
        refine j_icmp_ge C ⟨by omega, by omega⟩ ⟨by omega, by omega⟩ dX9_changed_14 (fun hc14 => ?_) (fun hc14 => ?_)
        · -- 14 T
          refine j_aload0 C dX9_changed_44 ?_
          refine j_dup C rfl dX9_changed_45 ?_
          refine j_geti C fX9_45 at_243 rfl hc5 dX9_changed_46 (fun hr46 => ?_)
          refine j_iconst C dX9_changed_49 ?_
          refine j_isub C dX9_changed_50 ?_
          refine j_putI C fX9_45 at_243 rfl ty_7_5 ⟨by omega, by omega⟩ dX9_changed_51 ?_
          try simp only [wi_wf, wf_same, wf_wf, tM0, tM1, tM2, tM3, tM4, tM5, tM6, tB0, tB1, tB2, tB3, tB4, tB5, tB6, tL0, tL1, tL2]
          rw [show ((c5 : Int) - 1) = 7 by omega]
          refine j_aload0 C dX9_changed_54 ?_
          refine j_getr C fX9_13 at_243 rfl hw.r1 dX9_changed_55 ?_
          refine j_iconst C dX9_changed_58 ?_
          refine j_aload0 C dX9_changed_59 ?_
          refine j_getr C fX9_22 at_243 rfl hw.r4 dX9_changed_60 ?_
          refine j_bipush C (by decide) dX9_changed_63 ?_
          refine j_aload0 C dX9_changed_65 ?_
          refine j_geti C fX9_45 at_243 rfl (by first | exact hc5 | exact (rfl : _ = (7 : Int))) dX9_changed_66 (fun hr66 => ?_)
          refine j_imul C dX9_changed_69 ?_
          first
            | refine j_conv (S' := [.int (iI ((111 * c5 : Nat) : Int)), .ref (rl Γ 248), .int (iI ((0 : Nat) : Int)), .ref (rl Γ 245)]) rfl (cons_i3 (by omega) rfl _) rfl ?_
            | refine j_conv (S' := [.int (iI ((777 : Nat) : Int)), .ref (rl Γ 248), .int (iI ((0 : Nat) : Int)), .ref (rl Γ 245)]) rfl (cons_i3 (by decide) rfl _) rfl ?_
          refine j_cSV4 C (c_X9_copies (f := 0) (n1 := 111) (n2 := 888) at_245 ⟨rfl, rfl⟩ rfl at_248 ⟨rfl, rfl⟩ rfl (by omega) (by omega) (by decide) (Or.inl (by decide))) oX9_copies kX9_41 ⟨by decide, by decide⟩ rfl (Nat.le_of_ble_eq_true rfl) ⟨by decide, by decide⟩ dX9_changed_70 ?_
          rintro _ rfl
          try simp only [wi_wf, wf_same, wf_wf, tM0, tM1, tM2, tM3, tM4, tM5, tM6, tB0, tB1, tB2, tB3, tB4, tB5, tB6, tL0, tL1, tL2]
          refine j_aload0 C dX9_changed_73 ?_
          refine j_dup C rfl dX9_changed_74 ?_
          refine j_geti C fX9_45 at_243 rfl (by first | exact hc5 | exact (rfl : _ = (7 : Int))) dX9_changed_75 (fun hr75 => ?_)
          refine j_iconst C dX9_changed_78 ?_
          refine j_iadd C dX9_changed_79 ?_
          refine j_putI C fX9_45 at_243 rfl ty_7_5 ⟨by omega, by omega⟩ dX9_changed_80 ?_
          try simp only [wi_wf, wf_same, wf_wf, tM0, tM1, tM2, tM3, tM4, tM5, tM6, tB0, tB1, tB2, tB3, tB4, tB5, tB6, tL0, tL1, tL2]
          refine j_vret C hrt dX9_changed_83 ?_
          first | exact chg_a (ω := ω) hc5 (by omega) | (have hn7 : n = 7 := (by omega); subst hn7; exact chg_b (ω := ω) (by omega))
        · -- 14 F
          refine j_aload0 C dX9_changed_17 ?_
          refine j_getr C fX9_22 at_243 rfl hw.r4 dX9_changed_18 ?_
          refine j_bipush C (by decide) dX9_changed_21 ?_
          refine j_iload1 C dX9_changed_23 ?_
          refine j_imul C dX9_changed_24 ?_
          refine j_aload0 C dX9_changed_25 ?_
          refine j_getr C fX9_22 at_243 rfl hw.r4 dX9_changed_26 ?_
          refine j_bipush C (by decide) dX9_changed_29 ?_
          refine j_iload1 C dX9_changed_31 ?_
          refine j_iconst C dX9_changed_32 ?_
          refine j_isub C dX9_changed_33 ?_
          refine j_imul C dX9_changed_34 ?_
          refine j_conv (S' := [.int (iI ((111 * n : Nat) : Int)), .ref (rl Γ 248), .int (iI ((111 * (n + 1) : Nat) : Int)), .ref (rl Γ 248)]) rfl (cons_i3 (by omega) (by omega) _) rfl ?_
          refine j_cSV4 C (c_X9_copies (f := 111 * (n + 1)) (g := 111 * n) (n1 := 888) (n2 := 888) at_248 ⟨rfl, rfl⟩ rfl at_248 ⟨rfl, rfl⟩ rfl (by omega) (by omega) (by decide) (Or.inr (by omega))) oX9_copies kX9_41 ⟨by decide, by decide⟩ rfl (Nat.le_of_ble_eq_true rfl) ⟨by decide, by decide⟩ dX9_changed_35 ?_
          rintro _ rfl
          try simp only [wi_wf, wf_same, wf_wf, tM0, tM1, tM2, tM3, tM4, tM5, tM6, tB0, tB1, tB2, tB3, tB4, tB5, tB6, tL0, tL1, tL2]
          refine j_iinc1n C rfl dX9_changed_38 ?_
          refine j_goto C dX9_changed_41 ?_
          exact j_fg (ih11 (n + 1) (by omega) (by omega)) ⟨Or.inr rfl, Or.inr rfl, trivial⟩ (by rw [shf_s])
    exact j_fg (loop11 _ 0 (Nat.lt_succ_self _) (Nat.zero_le _)) ⟨Or.inr rfl, Or.inr rfl, trivial⟩ (by rw [shf_0, wf_id])
set_option maxRecDepth 100000 in
set_option maxHeartbeats 4000000 in
theorem c_X9_ends_ok {Γ : Ga} {l : Launch} {ω : Wo} (hw : WM ω.2.1)  {v k : Int} (hv : Rg v) (hk : Rg k) (h6 : ω.1 243 6 = 0) {c5 : Nat} (hc5 : ω.1 243 5 = (c5 : Int)) (hc8 : c5 ≤ 8) : CI Γ l yX9_ends cX9_ends 3 .int 2 [.ref (rl Γ 243), .int (iI v), .int (iI k)] ω (fun z ω' => z = v ∧ ω' = chg ω) := by
  refine Met.ofJ (k := 0) [some (.ref (rl Γ 243)), some (.int (iI v)), some (.int (iI k))] (by decide) rfl rfl rfl (fun p e s mm args below meth c C hrt => ?_)
  refine j_aload0 C dX9_ends_0 ?_
  refine j_geti C fX9_38 at_243 rfl h6 dX9_ends_1 (fun hr1 => ?_)
  refine j_if_eq C ⟨by omega, by omega⟩ dX9_ends_4 (fun hc4 => ?_) (fun hc4 => ?_)
  · -- 4 T
    refine j_aload0 C dX9_ends_30 ?_
    refine j_cVV0 C (c_X9_changed (by exact hw) hc5 hc8) oX9_changed kX9_48 ⟨_, rfl, rfl⟩ at_243 ⟨by decide, by decide⟩ rfl (Nat.le_of_ble_eq_true rfl) ⟨by decide, by decide⟩ dX9_ends_31 ?_
    rintro _ rfl
    try simp only [wi_wf, wf_same, wf_wf, tM0, tM1, tM2, tM3, tM4, tM5, tM6, tB0, tB1, tB2, tB3, tB4, tB5, tB6, tL0, tL1, tL2]
    refine j_iload1 C dX9_ends_34 ?_
    refine j_iret C hrt dX9_ends_35 ⟨by omega, by omega⟩ ?_
    exact ⟨rfl, rfl⟩
  · -- 4 F
    exact absurd rfl hc4
set_option maxRecDepth 100000 in
set_option maxHeartbeats 4000000 in
theorem c_X9_ends_no {Γ : Ga} {l : Launch} {ω : Wo} (hw : WM ω.2.1)  {v k : Int} (hv : Rg v) (hk : Rg k) (h6 : ω.1 243 6 = 9) : CI Γ l yX9_ends cX9_ends 3 .int 2 [.ref (rl Γ 243), .int (iI v), .int (iI k)] ω (fun z ω' => z = 0 ∧ ω' = wf ω 243 (up (ω.1 243) 6 k)) := by
  refine Met.ofJ (k := 0) [some (.ref (rl Γ 243)), some (.int (iI v)), some (.int (iI k))] (by decide) rfl rfl rfl (fun p e s mm args below meth c C hrt => ?_)
  refine j_aload0 C dX9_ends_0 ?_
  refine j_geti C fX9_38 at_243 rfl h6 dX9_ends_1 (fun hr1 => ?_)
  refine j_if_eq C ⟨by omega, by omega⟩ dX9_ends_4 (fun hc4 => ?_) (fun hc4 => ?_)
  · -- 4 T
    exact absurd hc4 (by decide)
  · -- 4 F
    refine j_aload0 C dX9_ends_7 ?_
    refine j_aload0 C dX9_ends_8 ?_
    refine j_geti C fX9_38 at_243 rfl h6 dX9_ends_9 (fun hr9 => ?_)
    refine j_bipush C (by decide) dX9_ends_12 ?_
    refine j_icmp_ne C ⟨by omega, by omega⟩ ⟨by omega, by omega⟩ dX9_ends_14 (fun hc14 => ?_) (fun hc14 => ?_)
    · -- 14 T
      exact absurd rfl hc14
    · -- 14 F
      refine j_iload2 C dX9_ends_17 ?_
      refine j_goto C dX9_ends_18 ?_
      refine j_putI C fX9_38 at_243 rfl ty_7_6 ⟨by omega, by omega⟩ dX9_ends_25 ?_
      refine j_iconst C dX9_ends_28 ?_
      refine j_iret C hrt dX9_ends_29 ⟨by omega, by omega⟩ ?_
      exact ⟨rfl, wi_wf _ _ _ _⟩
theorem c_X9_ends_D {Γ : Ga} {l : Launch} {ω ω0 : Wo} {d : Nat} {a b v k : Int} (hw : WM ω0.2.1) (hd : DoM d (kp ω0) a b v ω) (hv : Rg v) (hk : Rg k) {c5 : Nat} (hc5 : ω0.1 243 5 = (c5 : Int)) (hc8 : c5 ≤ 8) : CI Γ l yX9_ends cX9_ends 3 .int 2 [.ref (rl Γ 243), .int (iI v), .int (iI k)] ω (fun z ω' => PubM d k ω0 a b z ω') := by
  rcases hd with ⟨h0, h1, rfl⟩ | ⟨h0, rfl, rfl⟩
  · exact (c_X9_ends_ok (ω := wf (kp ω0) 244 (ad d ((kp ω0).1 244) a b).2) hw hv hk rfl hc5 hc8).mono (fun z w h => Or.inl ⟨h0, h.1.trans h1, h.2⟩)
  · exact (c_X9_ends_no (ω := refM (kp ω0) (jd d ((kp ω0).1 244) a b).1 (jd d ((kp ω0).1 244) a b).2) hw hv hk rfl).mono (fun z w h => Or.inr ⟨h0, h.1, h.2.trans refM_as⟩)
set_option maxRecDepth 100000 in
set_option maxHeartbeats 4000000 in
theorem c_X9_member {Γ : Ga} {l : Launch} {ω : Wo} (hw : WM ω.2.1) {M : Int} (hI : RI M (ω.1 244))  {a : Int} (ha : Rg a) (hz : ∀ y, 111 ≤ y → ω.1 245 y = 0) {c5 : Nat} (hc5 : ω.1 243 5 = (c5 : Int)) (hc8 : c5 ≤ 8) : CI Γ l yX9_member cX9_member 2 .int 3 [.ref (rl Γ 243), .int (iI a)] ω (fun z ω' => PubM 0 1 ω a 0 z ω') := by
  refine Met.ofJ (k := 0) [some (.ref (rl Γ 243)), some (.int (iI a))] (by decide) rfl rfl rfl (fun p e s mm args below meth c C hrt => ?_)
  refine j_aload0 C dX9_member_0 ?_
  refine j_cVV0 C (c_X9_keeps (by exact hw) (by exact hI) (by exact hz)) oX9_keeps kX9_94 ⟨_, rfl, rfl⟩ at_243 ⟨by decide, by decide⟩ rfl (Nat.le_of_ble_eq_true rfl) ⟨by decide, by decide⟩ dX9_member_1 ?_
  rintro _ rfl
  try simp only [wi_wf, wf_same, wf_wf, tM0, tM1, tM2, tM3, tM4, tM5, tM6, tB0, tB1, tB2, tB3, tB4, tB5, tB6, tL0, tL1, tL2]
  refine j_aload0 C dX9_member_4 ?_
  refine j_aload0 C dX9_member_5 ?_
  refine j_iload1 C dX9_member_6 ?_
  refine j_cVI1 C (c_X9_comes (by exact hw) ha (by exact hI)) oX9_comes kX9_97 ⟨_, rfl, rfl⟩ at_243 ⟨by decide, by decide⟩ rfl (Nat.le_of_ble_eq_true rfl) ⟨by decide, by decide⟩ dX9_member_7 ?_
  intro z1 w1 hz1 hd1
  refine j_iconst C dX9_member_10 ?_
  refine j_cVI2 C (c_X9_ends_D (by exact hw) hd1 hz1 ⟨by omega, by omega⟩ hc5 hc8) oX9_ends kX9_100 ⟨_, rfl, rfl⟩ at_243 ⟨by decide, by decide⟩ rfl (Nat.le_of_ble_eq_true rfl) ⟨by decide, by decide⟩ dX9_member_11 ?_
  intro z2 w2 hz2 hp2
  refine j_iret C hrt dX9_member_14 hz2 ?_
  exact hp2
set_option maxRecDepth 100000 in
set_option maxHeartbeats 4000000 in
theorem c_X9_leave {Γ : Ga} {l : Launch} {ω : Wo} (hw : WM ω.2.1) {M : Int} (hI : RI M (ω.1 244))  {a : Int} (ha : Rg a) (hz : ∀ y, 111 ≤ y → ω.1 245 y = 0) {c5 : Nat} (hc5 : ω.1 243 5 = (c5 : Int)) (hc8 : c5 ≤ 8) : CI Γ l yX9_leave cX9_leave 2 .int 4 [.ref (rl Γ 243), .int (iI a)] ω (fun z ω' => PubM 1 1 ω a 0 z ω') := by
  refine Met.ofJ (k := 0) [some (.ref (rl Γ 243)), some (.int (iI a))] (by decide) rfl rfl rfl (fun p e s mm args below meth c C hrt => ?_)
  refine j_aload0 C dX9_leave_0 ?_
  refine j_cVV0 C (c_X9_keeps (by exact hw) (by exact hI) (by exact hz)) oX9_keeps kX9_94 ⟨_, rfl, rfl⟩ at_243 ⟨by decide, by decide⟩ rfl (Nat.le_of_ble_eq_true rfl) ⟨by decide, by decide⟩ dX9_leave_1 ?_
  rintro _ rfl
  try simp only [wi_wf, wf_same, wf_wf, tM0, tM1, tM2, tM3, tM4, tM5, tM6, tB0, tB1, tB2, tB3, tB4, tB5, tB6, tL0, tL1, tL2]
  refine j_aload0 C dX9_leave_4 ?_
  refine j_aload0 C dX9_leave_5 ?_
  refine j_iload1 C dX9_leave_6 ?_
  refine j_cVI1 C (c_X9_leaves (by exact hw) ha (by exact hI)) oX9_leaves kX9_116 ⟨_, rfl, rfl⟩ at_243 ⟨by decide, by decide⟩ rfl (Nat.le_of_ble_eq_true rfl) ⟨by decide, by decide⟩ dX9_leave_7 ?_
  intro z1 w1 hz1 hd1
  refine j_iconst C dX9_leave_10 ?_
  refine j_cVI2 C (c_X9_ends_D (by exact hw) hd1 hz1 ⟨by omega, by omega⟩ hc5 hc8) oX9_ends kX9_100 ⟨_, rfl, rfl⟩ at_243 ⟨by decide, by decide⟩ rfl (Nat.le_of_ble_eq_true rfl) ⟨by decide, by decide⟩ dX9_leave_11 ?_
  intro z2 w2 hz2 hp2
  refine j_iret C hrt dX9_leave_14 hz2 ?_
  exact hp2
set_option maxRecDepth 100000 in
set_option maxHeartbeats 4000000 in
theorem c_X9_train {Γ : Ga} {l : Launch} {ω : Wo} (hw : WM ω.2.1) {M : Int} (hI : RI M (ω.1 244))  {a : Int} (ha : Rg a) (hz : ∀ y, 111 ≤ y → ω.1 245 y = 0) {c5 : Nat} (hc5 : ω.1 243 5 = (c5 : Int)) (hc8 : c5 ≤ 8) : CI Γ l yX9_train cX9_train 2 .int 4 [.ref (rl Γ 243), .int (iI a)] ω (fun z ω' => PubM 2 1 ω a 0 z ω') := by
  refine Met.ofJ (k := 0) [some (.ref (rl Γ 243)), some (.int (iI a))] (by decide) rfl rfl rfl (fun p e s mm args below meth c C hrt => ?_)
  refine j_aload0 C dX9_train_0 ?_
  refine j_cVV0 C (c_X9_keeps (by exact hw) (by exact hI) (by exact hz)) oX9_keeps kX9_94 ⟨_, rfl, rfl⟩ at_243 ⟨by decide, by decide⟩ rfl (Nat.le_of_ble_eq_true rfl) ⟨by decide, by decide⟩ dX9_train_1 ?_
  rintro _ rfl
  try simp only [wi_wf, wf_same, wf_wf, tM0, tM1, tM2, tM3, tM4, tM5, tM6, tB0, tB1, tB2, tB3, tB4, tB5, tB6, tL0, tL1, tL2]
  refine j_aload0 C dX9_train_4 ?_
  refine j_aload0 C dX9_train_5 ?_
  refine j_iload1 C dX9_train_6 ?_
  refine j_cVI1 C (c_X9_trains (by exact hw) ha (by exact hI)) oX9_trains kX9_119 ⟨_, rfl, rfl⟩ at_243 ⟨by decide, by decide⟩ rfl (Nat.le_of_ble_eq_true rfl) ⟨by decide, by decide⟩ dX9_train_7 ?_
  intro z1 w1 hz1 hd1
  refine j_iconst C dX9_train_10 ?_
  refine j_cVI2 C (c_X9_ends_D (by exact hw) hd1 hz1 ⟨by omega, by omega⟩ hc5 hc8) oX9_ends kX9_100 ⟨_, rfl, rfl⟩ at_243 ⟨by decide, by decide⟩ rfl (Nat.le_of_ble_eq_true rfl) ⟨by decide, by decide⟩ dX9_train_11 ?_
  intro z2 w2 hz2 hp2
  refine j_iret C hrt dX9_train_14 hz2 ?_
  exact hp2
set_option maxRecDepth 100000 in
set_option maxHeartbeats 4000000 in
theorem c_X9_boat {Γ : Ga} {l : Launch} {ω : Wo} (hw : WM ω.2.1) {M : Int} (hI : RI M (ω.1 244))  {a b : Int} (ha : Rg a) (hb : Rg b) (hz : ∀ y, 111 ≤ y → ω.1 245 y = 0) {c5 : Nat} (hc5 : ω.1 243 5 = (c5 : Int)) (hc8 : c5 ≤ 8) : CI Γ l yX9_boat cX9_boat 3 .int 3 [.ref (rl Γ 243), .int (iI a), .int (iI b)] ω (fun z ω' => PubM 3 1 ω a b z ω') := by
  refine Met.ofJ (k := 0) [some (.ref (rl Γ 243)), some (.int (iI a)), some (.int (iI b))] (by decide) rfl rfl rfl (fun p e s mm args below meth c C hrt => ?_)
  refine j_aload0 C dX9_boat_0 ?_
  refine j_cVV0 C (c_X9_keeps (by exact hw) (by exact hI) (by exact hz)) oX9_keeps kX9_94 ⟨_, rfl, rfl⟩ at_243 ⟨by decide, by decide⟩ rfl (Nat.le_of_ble_eq_true rfl) ⟨by decide, by decide⟩ dX9_boat_1 ?_
  rintro _ rfl
  try simp only [wi_wf, wf_same, wf_wf, tM0, tM1, tM2, tM3, tM4, tM5, tM6, tB0, tB1, tB2, tB3, tB4, tB5, tB6, tL0, tL1, tL2]
  refine j_aload0 C dX9_boat_4 ?_
  refine j_aload0 C dX9_boat_5 ?_
  refine j_iload1 C dX9_boat_6 ?_
  refine j_iload2 C dX9_boat_7 ?_
  refine j_cVI2 C (c_X9_builds (by exact hw) ha hb (by exact hI)) oX9_builds kX9_128 ⟨_, rfl, rfl⟩ at_243 ⟨by decide, by decide⟩ rfl (Nat.le_of_ble_eq_true rfl) ⟨by decide, by decide⟩ dX9_boat_8 ?_
  intro z1 w1 hz1 hd1
  refine j_iconst C dX9_boat_11 ?_
  refine j_cVI2 C (c_X9_ends_D (by exact hw) hd1 hz1 ⟨by omega, by omega⟩ hc5 hc8) oX9_ends kX9_100 ⟨_, rfl, rfl⟩ at_243 ⟨by decide, by decide⟩ rfl (Nat.le_of_ble_eq_true rfl) ⟨by decide, by decide⟩ dX9_boat_12 ?_
  intro z2 w2 hz2 hp2
  refine j_iret C hrt dX9_boat_15 hz2 ?_
  exact hp2
set_option maxRecDepth 100000 in
set_option maxHeartbeats 4000000 in
theorem c_X9_call {Γ : Ga} {l : Launch} {ω : Wo} (hw : WM ω.2.1) {M : Int} (hI : RI M (ω.1 244))  {a b : Int} (ha : Rg a) (hb : Rg b) (hW2 : W2 (ω.1 244)) (hM : M + 1 ≤ 100000000) (hz : ∀ y, 111 ≤ y → ω.1 245 y = 0) {c5 : Nat} (hc5 : ω.1 243 5 = (c5 : Int)) (hc8 : c5 ≤ 8) : CI Γ l yX9_call cX9_call 3 .int 6 [.ref (rl Γ 243), .int (iI a), .int (iI b)] ω (fun z ω' => PubM 4 1 ω a b z ω') := by
  refine Met.ofJ (k := 0) [some (.ref (rl Γ 243)), some (.int (iI a)), some (.int (iI b))] (by decide) rfl rfl rfl (fun p e s mm args below meth c C hrt => ?_)
  refine j_aload0 C dX9_call_0 ?_
  refine j_cVV0 C (c_X9_keeps (by exact hw) (by exact hI) (by exact hz)) oX9_keeps kX9_94 ⟨_, rfl, rfl⟩ at_243 ⟨by decide, by decide⟩ rfl (Nat.le_of_ble_eq_true rfl) ⟨by decide, by decide⟩ dX9_call_1 ?_
  rintro _ rfl
  try simp only [wi_wf, wf_same, wf_wf, tM0, tM1, tM2, tM3, tM4, tM5, tM6, tB0, tB1, tB2, tB3, tB4, tB5, tB6, tL0, tL1, tL2]
  refine j_aload0 C dX9_call_4 ?_
  refine j_aload0 C dX9_call_5 ?_
  refine j_iload1 C dX9_call_6 ?_
  refine j_iload2 C dX9_call_7 ?_
  refine j_cVI2 C (c_X9_calls (by exact hw) (by exact hI) ha hb (by exact hW2) hM) oX9_calls kX9_167 ⟨_, rfl, rfl⟩ at_243 ⟨by decide, by decide⟩ rfl (Nat.le_of_ble_eq_true rfl) ⟨by decide, by decide⟩ dX9_call_8 ?_
  intro z1 w1 hz1 hd1
  refine j_iconst C dX9_call_11 ?_
  refine j_cVI2 C (c_X9_ends_D (by exact hw) hd1 hz1 ⟨by omega, by omega⟩ hc5 hc8) oX9_ends kX9_100 ⟨_, rfl, rfl⟩ at_243 ⟨by decide, by decide⟩ rfl (Nat.le_of_ble_eq_true rfl) ⟨by decide, by decide⟩ dX9_call_12 ?_
  intro z2 w2 hz2 hp2
  refine j_iret C hrt dX9_call_15 hz2 ?_
  exact hp2
set_option maxRecDepth 100000 in
set_option maxHeartbeats 4000000 in
theorem c_X9_borrow {Γ : Ga} {l : Launch} {ω : Wo} (hw : WM ω.2.1) {M : Int} (hI : RI M (ω.1 244))  {a b : Int} (ha : Rg a) (hb : Rg b) (hz : ∀ y, 111 ≤ y → ω.1 245 y = 0) {c5 : Nat} (hc5 : ω.1 243 5 = (c5 : Int)) (hc8 : c5 ≤ 8) : CI Γ l yX9_borrow cX9_borrow 3 .int 3 [.ref (rl Γ 243), .int (iI a), .int (iI b)] ω (fun z ω' => PubM 5 1 ω a b z ω') := by
  refine Met.ofJ (k := 0) [some (.ref (rl Γ 243)), some (.int (iI a)), some (.int (iI b))] (by decide) rfl rfl rfl (fun p e s mm args below meth c C hrt => ?_)
  refine j_aload0 C dX9_borrow_0 ?_
  refine j_cVV0 C (c_X9_keeps (by exact hw) (by exact hI) (by exact hz)) oX9_keeps kX9_94 ⟨_, rfl, rfl⟩ at_243 ⟨by decide, by decide⟩ rfl (Nat.le_of_ble_eq_true rfl) ⟨by decide, by decide⟩ dX9_borrow_1 ?_
  rintro _ rfl
  try simp only [wi_wf, wf_same, wf_wf, tM0, tM1, tM2, tM3, tM4, tM5, tM6, tB0, tB1, tB2, tB3, tB4, tB5, tB6, tL0, tL1, tL2]
  refine j_aload0 C dX9_borrow_4 ?_
  refine j_aload0 C dX9_borrow_5 ?_
  refine j_iload1 C dX9_borrow_6 ?_
  refine j_iload2 C dX9_borrow_7 ?_
  refine j_cVI2 C (c_X9_borrows (by exact hw) ha hb (by exact hI)) oX9_borrows kX9_170 ⟨_, rfl, rfl⟩ at_243 ⟨by decide, by decide⟩ rfl (Nat.le_of_ble_eq_true rfl) ⟨by decide, by decide⟩ dX9_borrow_8 ?_
  intro z1 w1 hz1 hd1
  refine j_iconst C dX9_borrow_11 ?_
  refine j_cVI2 C (c_X9_ends_D (by exact hw) hd1 hz1 ⟨by omega, by omega⟩ hc5 hc8) oX9_ends kX9_100 ⟨_, rfl, rfl⟩ at_243 ⟨by decide, by decide⟩ rfl (Nat.le_of_ble_eq_true rfl) ⟨by decide, by decide⟩ dX9_borrow_12 ?_
  intro z2 w2 hz2 hp2
  refine j_iret C hrt dX9_borrow_15 hz2 ?_
  exact hp2
set_option maxRecDepth 100000 in
set_option maxHeartbeats 4000000 in
theorem c_X9_giveBack {Γ : Ga} {l : Launch} {ω : Wo} (hw : WM ω.2.1) {M : Int} (hI : RI M (ω.1 244))  {a : Int} (ha : Rg a) (hz : ∀ y, 111 ≤ y → ω.1 245 y = 0) {c5 : Nat} (hc5 : ω.1 243 5 = (c5 : Int)) (hc8 : c5 ≤ 8) : CI Γ l yX9_giveBack cX9_giveBack 2 .int 4 [.ref (rl Γ 243), .int (iI a)] ω (fun z ω' => PubM 6 1 ω a 0 z ω') := by
  refine Met.ofJ (k := 0) [some (.ref (rl Γ 243)), some (.int (iI a))] (by decide) rfl rfl rfl (fun p e s mm args below meth c C hrt => ?_)
  refine j_aload0 C dX9_giveBack_0 ?_
  refine j_cVV0 C (c_X9_keeps (by exact hw) (by exact hI) (by exact hz)) oX9_keeps kX9_94 ⟨_, rfl, rfl⟩ at_243 ⟨by decide, by decide⟩ rfl (Nat.le_of_ble_eq_true rfl) ⟨by decide, by decide⟩ dX9_giveBack_1 ?_
  rintro _ rfl
  try simp only [wi_wf, wf_same, wf_wf, tM0, tM1, tM2, tM3, tM4, tM5, tM6, tB0, tB1, tB2, tB3, tB4, tB5, tB6, tL0, tL1, tL2]
  refine j_aload0 C dX9_giveBack_4 ?_
  refine j_aload0 C dX9_giveBack_5 ?_
  refine j_iload1 C dX9_giveBack_6 ?_
  refine j_cVI1 C (c_X9_givesBack (by exact hw) ha (by exact hI)) oX9_givesBack kX9_180 ⟨_, rfl, rfl⟩ at_243 ⟨by decide, by decide⟩ rfl (Nat.le_of_ble_eq_true rfl) ⟨by decide, by decide⟩ dX9_giveBack_7 ?_
  intro z1 w1 hz1 hd1
  refine j_iconst C dX9_giveBack_10 ?_
  refine j_cVI2 C (c_X9_ends_D (by exact hw) hd1 hz1 ⟨by omega, by omega⟩ hc5 hc8) oX9_ends kX9_100 ⟨_, rfl, rfl⟩ at_243 ⟨by decide, by decide⟩ rfl (Nat.le_of_ble_eq_true rfl) ⟨by decide, by decide⟩ dX9_giveBack_11 ?_
  intro z2 w2 hz2 hp2
  refine j_iret C hrt dX9_giveBack_14 hz2 ?_
  exact hp2
set_option maxRecDepth 100000 in
set_option maxHeartbeats 4000000 in
theorem c_X9_limit {Γ : Ga} {l : Launch} {ω : Wo} (hw : WM ω.2.1) {M : Int} (hI : RI M (ω.1 244))  {a : Int} (ha : Rg a) (hz : ∀ y, 111 ≤ y → ω.1 245 y = 0) {c5 : Nat} (hc5 : ω.1 243 5 = (c5 : Int)) (hc8 : c5 ≤ 8) : CI Γ l yX9_limit cX9_limit 2 .int 3 [.ref (rl Γ 243), .int (iI a)] ω (fun z ω' => PubM 7 1 ω a 0 z ω') := by
  refine Met.ofJ (k := 0) [some (.ref (rl Γ 243)), some (.int (iI a))] (by decide) rfl rfl rfl (fun p e s mm args below meth c C hrt => ?_)
  refine j_aload0 C dX9_limit_0 ?_
  refine j_cVV0 C (c_X9_keeps (by exact hw) (by exact hI) (by exact hz)) oX9_keeps kX9_94 ⟨_, rfl, rfl⟩ at_243 ⟨by decide, by decide⟩ rfl (Nat.le_of_ble_eq_true rfl) ⟨by decide, by decide⟩ dX9_limit_1 ?_
  rintro _ rfl
  try simp only [wi_wf, wf_same, wf_wf, tM0, tM1, tM2, tM3, tM4, tM5, tM6, tB0, tB1, tB2, tB3, tB4, tB5, tB6, tL0, tL1, tL2]
  refine j_aload0 C dX9_limit_4 ?_
  refine j_aload0 C dX9_limit_5 ?_
  refine j_iload1 C dX9_limit_6 ?_
  refine j_cVI1 C (c_X9_limits (by exact hw) ha (by exact hI)) oX9_limits kX9_183 ⟨_, rfl, rfl⟩ at_243 ⟨by decide, by decide⟩ rfl (Nat.le_of_ble_eq_true rfl) ⟨by decide, by decide⟩ dX9_limit_7 ?_
  intro z1 w1 hz1 hd1
  refine j_iconst C dX9_limit_10 ?_
  refine j_cVI2 C (c_X9_ends_D (by exact hw) hd1 hz1 ⟨by omega, by omega⟩ hc5 hc8) oX9_ends kX9_100 ⟨_, rfl, rfl⟩ at_243 ⟨by decide, by decide⟩ rfl (Nat.le_of_ble_eq_true rfl) ⟨by decide, by decide⟩ dX9_limit_11 ?_
  intro z2 w2 hz2 hp2
  refine j_iret C hrt dX9_limit_14 hz2 ?_
  exact hp2
set_option maxRecDepth 100000 in
set_option maxHeartbeats 4000000 in
theorem c_X9_pass {Γ : Ga} {l : Launch} {ω : Wo} (hw : WM ω.2.1) {M : Int} (hI : RI M (ω.1 244))  {a : Int} (ha : Rg a) (hW1 : W1 (ω.1 244)) (hM : M + 3000 ≤ 100000000) (hz : ∀ y, 111 ≤ y → ω.1 245 y = 0) {c5 : Nat} (hc5 : ω.1 243 5 = (c5 : Int)) (hc8 : c5 ≤ 8) : CI Γ l yX9_pass cX9_pass 2 .int 6 [.ref (rl Γ 243), .int (iI a)] ω (fun z ω' => PubM 8 1 ω a 0 z ω') := by
  refine Met.ofJ (k := 0) [some (.ref (rl Γ 243)), some (.int (iI a))] (by decide) rfl rfl rfl (fun p e s mm args below meth c C hrt => ?_)
  refine j_aload0 C dX9_pass_0 ?_
  refine j_cVV0 C (c_X9_keeps (by exact hw) (by exact hI) (by exact hz)) oX9_keeps kX9_94 ⟨_, rfl, rfl⟩ at_243 ⟨by decide, by decide⟩ rfl (Nat.le_of_ble_eq_true rfl) ⟨by decide, by decide⟩ dX9_pass_1 ?_
  rintro _ rfl
  try simp only [wi_wf, wf_same, wf_wf, tM0, tM1, tM2, tM3, tM4, tM5, tM6, tB0, tB1, tB2, tB3, tB4, tB5, tB6, tL0, tL1, tL2]
  refine j_aload0 C dX9_pass_4 ?_
  refine j_aload0 C dX9_pass_5 ?_
  refine j_iload1 C dX9_pass_6 ?_
  refine j_cVI1 C (c_X9_passes (by exact hw) (by exact hI) ha (by exact hW1) hM) oX9_passes kX9_204 ⟨_, rfl, rfl⟩ at_243 ⟨by decide, by decide⟩ rfl (Nat.le_of_ble_eq_true rfl) ⟨by decide, by decide⟩ dX9_pass_7 ?_
  intro z1 w1 hz1 hd1
  refine j_iconst C dX9_pass_10 ?_
  refine j_cVI2 C (c_X9_ends_D (by exact hw) hd1 hz1 ⟨by omega, by omega⟩ hc5 hc8) oX9_ends kX9_100 ⟨_, rfl, rfl⟩ at_243 ⟨by decide, by decide⟩ rfl (Nat.le_of_ble_eq_true rfl) ⟨by decide, by decide⟩ dX9_pass_11 ?_
  intro z2 w2 hz2 hp2
  refine j_iret C hrt dX9_pass_14 hz2 ?_
  exact hp2
