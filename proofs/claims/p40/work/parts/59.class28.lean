/-! the reading of a script -/
theorem wi_wi (ω : Wo) (a k : Nat) (v w : Int) : wi (wi ω a k v) a k w = wi ω a k w := by
  rw [wi_wf, wi_wf, wi_wf, wf_same, wf_wf, up_up]
theorem dg1_c (d : Nat) : dg1 d = 1 ∨ dg1 d = 2 := by unfold dg1; split <;> omega
theorem dg2_c (d : Nat) : dg2 d = 0 ∨ dg2 d = 1 ∨ dg2 d = 2 := by unfold dg2; (repeat' split) <;> omega
def RcW (W : Wo) (n h k : Nat) : Wo := wi (wi (wr (wi W 68 6 (cEnd (W.1 69) n h : Int)) 70 k (some (1000 + dOf (sgn (W.1 69) n h)))) 71 k (cN1 (W.1 69) n h).2.1) 72 k (cN2 (W.1 69) n h).2.1
/-- what reading leaves as it was -/
def KR (ω W : Wo) : Prop := (∀ x, x ≠ 68 → x ≠ 71 → x ≠ 72 → W.1 x = ω.1 x) ∧ (∀ i, i ≠ 5 → i ≠ 6 → W.1 68 i = ω.1 68 i) ∧ (∀ x, x ≠ 70 → W.2.1 x = ω.2.1 x) ∧ W.2.2 = ω.2.2
theorem KR.rf (ω : Wo) : KR ω ω := ⟨fun _ _ _ _ => rfl, fun _ _ _ => rfl, fun _ _ => rfl, rfl⟩
theorem KR.wi {ω W : Wo} (h : KR ω W) {i : Nat} (hi : i = 5 ∨ i = 6) (v : Int) : KR ω (wi W 68 i v) := by
  refine ⟨fun x h1 h2 h3 => ?_, fun j h5 h6 => ?_, h.2.2⟩
  · rw [wi_wf, wf_ne _ _ h1]; exact h.1 x h1 h2 h3
  · rw [wi_wf, wf_same, up_ne _ _ (by omega)]; exact h.2.1 j h5 h6
theorem KR.cr {ω W : Wo} (h : KR ω W) (hR : CR ω) : CR W := by
  unfold CR at hR ⊢
  rw [h.2.2.1 0 (by decide), h.2.2.1 68 (by decide), h.2.2.1 73 (by decide)]; exact hR
theorem KR.rc {ω W : Wo} (h : KR ω W) (n a k : Nat) : KR ω (RcW W n a k) := by
  have h1 := h.wi (i := 6) (Or.inr rfl) (cEnd (W.1 69) n a : Int)
  refine ⟨fun x q1 q2 q3 => ?_, fun j h5 h6 => ?_, fun x hx => ?_, h1.2.2.2⟩
  · unfold RcW; rw [wi_wf, wf_ne _ _ q3, wi_wf, wf_ne _ _ q2]; exact h1.1 x q1 q2 q3
  · unfold RcW; rw [wi_wf, wf_ne _ _ (by decide), wi_wf, wf_ne _ _ (by decide)]; exact h1.2.1 j h5 h6
  · exact (wr_ne hx).trans (h1.2.2.1 x hx)
/-- k commands have been read, up to the h-th sign -/
def RD (ω W : Wo) (n k h : Nat) : Prop := KR ω W ∧ W.1 68 6 = (h : Int) ∧ ∀ j, j < k → cOk (ω.1 69) n (psn (ω.1 69) n j) ∧ W.2.1 70 j = some (1000 + tD (ω.1 69) n j) ∧ W.1 71 j = tA (ω.1 69) n j ∧ W.1 72 j = tB (ω.1 69) n j
theorem RD.p5 {ω W : Wo} {n k h : Nat} (hd : RD ω W n k h) (v : Int) : RD ω (wi W 68 5 v) n k h := ⟨hd.1.wi (Or.inl rfl) v, hd.2.1, fun j hj => hd.2.2 j hj⟩
theorem RD.p6 {ω W : Wo} {n k h : Nat} (hd : RD ω W n k h) (g : Nat) : RD ω (wi W 68 6 (g : Int)) n k g := ⟨hd.1.wi (Or.inr rfl) _, by rw [wi_wf, wf_same, up_same], fun j hj => hd.2.2 j hj⟩
theorem RD.t {ω W : Wo} {n k h : Nat} (hd : RD ω W n k h) : W.1 69 = ω.1 69 := hd.1.1 69 (by decide) (by decide) (by decide)
theorem RcW_6 (W : Wo) (n a k : Nat) : (RcW W n a k).1 68 6 = (cEnd (W.1 69) n a : Int) := by
  have e1 : (RcW W n a k).1 68 = (wi W 68 6 (cEnd (W.1 69) n a : Int)).1 68 := rfl
  rw [e1]
  simp [wi]
theorem RcW_r (W : Wo) (n a k j : Nat) : (RcW W n a k).2.1 70 j = if j = k then some (1000 + dOf (sgn (W.1 69) n a)) else W.2.1 70 j := by simp [RcW, wi, wr]
theorem RD.st {ω W : Wo} {n k : Nat} (hd : RD ω W n k (psn (ω.1 69) n k)) (hk : cOk (ω.1 69) n (psn (ω.1 69) n k)) : RD ω (RcW W n (psn (ω.1 69) n k) k) n (k + 1) (cEnd (ω.1 69) n (psn (ω.1 69) n k)) := by
  have ht := hd.t
  refine ⟨hd.1.rc n _ k, ?_, fun j hj => ?_⟩
  · rw [RcW_6, ht]
  · by_cases e : j = k
    · subst e
      refine ⟨hk, ?_, ?_, ?_⟩
      · rw [RcW_r, if_pos rfl, ht]; rfl
      · unfold RcW; rw [ht, wi_wf, wf_ne _ _ (by decide), wi_wf, wf_same, up_same]; rfl
      · unfold RcW; rw [ht, wi_wf, wf_same, up_same]; rfl
    · obtain ⟨q1, q2, q3, q4⟩ := hd.2.2 j (by omega)
      refine ⟨q1, ?_, ?_, ?_⟩
      · rw [RcW_r, if_neg e]; exact q2
      · unfold RcW; rw [wi_wf, wf_ne _ _ (by decide), wi_wf, wf_same, up_ne _ _ e]; exact q3
      · unfold RcW; rw [wi_wf, wf_same, up_ne _ _ e]
        show (wi _ 71 k _).1 72 j = _
        rw [wi_wf, wf_ne _ _ (by decide)]; exact q4
theorem RD.sp {ω W : Wo} {n k h : Nat} (hd : RD ω W n k h) (h5 : W.1 68 5 = (k : Int)) (hn : n ≤ 60) (hp : ∀ j, j < k → psn (ω.1 69) n j ≤ n) : SP W k (tD (ω.1 69) n) (tA (ω.1 69) n) (tB (ω.1 69) n) := by
  refine ⟨h5, fun j hj => ?_⟩
  obtain ⟨q1, q2, q3, q4⟩ := hd.2.2 j hj
  have hl := dw_lt q1.1
  have hle := dOf_le (sgn (ω.1 69) n (psn (ω.1 69) n j))
  have g1 := num_v (t := ω.1 69) (n := n) (dg1 (dOf (sgn (ω.1 69) n (psn (ω.1 69) n j)))) (psn (ω.1 69) n j + 1) 0 0 (Int.le_refl 0) (by decide) (by have := dg1_c (dOf (sgn (ω.1 69) n (psn (ω.1 69) n j))); omega)
  have g2 := num_v (t := ω.1 69) (n := n) (dg2 (dOf (sgn (ω.1 69) n (psn (ω.1 69) n j)))) (cN1 (ω.1 69) n (psn (ω.1 69) n j)).1 0 0 (Int.le_refl 0) (by decide) (by have := dg2_c (dOf (sgn (ω.1 69) n (psn (ω.1 69) n j))); omega)
  have e1 : tA (ω.1 69) n j = (num (ω.1 69) n (dg1 (dOf (sgn (ω.1 69) n (psn (ω.1 69) n j)))) (psn (ω.1 69) n j + 1) 0 0).2.1 := rfl
  have e2 : tB (ω.1 69) n j = (num (ω.1 69) n (dg2 (dOf (sgn (ω.1 69) n (psn (ω.1 69) n j)))) (cN1 (ω.1 69) n (psn (ω.1 69) n j)).1 0 0).2.1 := rfl
  have hd9 := q1.1
  refine ⟨by show dOf _ < 9; omega, q2, q3, q4, ?_, ?_⟩
  · rw [e1]; exact ⟨by omega, by omega⟩
  · rw [e2]; exact ⟨by omega, by omega⟩
set_option maxRecDepth 100000 in
set_option maxHeartbeats 4000000 in
theorem c_X6_readCommand {Γ : Ga} {l : Launch} {ω : Wo} (hR : CR ω) {n h : Nat} (hn : ω.1 68 1 = (n : Int)) (hh : ω.1 68 6 = (h : Int)) (hn6 : n ≤ 60) (hhn : h ≤ n) {k : Nat} (hk : k < 20) : CI Γ l yX6_readCommand cX6_readCommand 5 .boolean 2 [.ref (rl Γ 68), .int (iI ((k : Int)))] ω (fun z ω' => (z = 1 ∧ cOk (ω.1 69) n h ∧ ω' = RcW ω n h k) ∨ (z = 0 ∧ ¬ cOk (ω.1 69) n h ∧ ω' = wi ω 68 6 (cEnd (ω.1 69) n h : Int))) := by
  refine Met.ofJ (k := 3) [some (.ref (rl Γ 68)), some (.int (iI ((k : Int)))), none, none, none] (by decide) rfl rfl rfl (fun p e s mm args below meth c C hrt => ?_)
  refine j_aload0 C dX6_readCommand_0 ?_
  refine j_cVE0 C (c_X6_readDeed (by exact hR) hn hh hn6) oX6_readDeed kX6_42 ⟨_, rfl, rfl⟩ at_68 ⟨by decide, by decide⟩ rfl (Nat.le_of_ble_eq_true rfl) ⟨by decide, by decide⟩ dX6_readCommand_1 ?_
  rintro b1 W1 hb1
  rcases hb1 with ⟨hd9, rfl, rfl⟩ | ⟨hd9, rfl, rfl⟩
  · -- fork
    refine j_astore2N C rfl dX6_readCommand_4 ?_
    refine j_aload2N C dX6_readCommand_5 ?_
    refine j_ifnonnullN C dX6_readCommand_6 ?_
    refine j_iconst C dX6_readCommand_9 ?_
    refine j_zret C hrt dX6_readCommand_10 (by first | exact Or.inl rfl | exact Or.inr rfl | exact bI_01 _) ?_
    refine Or.inr ⟨rfl, fun q => q.1 hd9, ?_⟩
    rw [show cEnd (ω.1 69) n h = h from if_pos hd9]
    exact (wi_at hh).symm
  · -- fork
    have hd8 := dOf_le (sgn (ω.1 69) n h)
    have hl := dw_lt hd9
    have hw9 := (dOf_w _).mp hd9
    have e9 : va_rf (Option.map (rl Γ) (some (1000 + dOf (sgn (ω.1 69) n h)))) = .ref (gad Γ (dOf (sgn (ω.1 69) n h))) := by rw [← rl_ad]; rfl
    rw [e9]
    have hq1 := dg1_c (dOf (sgn (ω.1 69) n h))
    have hq2 := dg2_c (dOf (sgn (ω.1 69) n h))
    have hn1 : (wi ω 68 6 ((h + 1 : Nat) : Int)).1 68 1 = (n : Int) := hn
    have hh1 : (wi ω 68 6 ((h + 1 : Nat) : Int)).1 68 6 = ((h + 1 : Nat) : Int) := by rw [wi_wf, wf_same, up_same]
    have hR1 : CR (wi ω 68 6 ((h + 1 : Nat) : Int)) := hR
    have h69 : (wi ω 68 6 ((h + 1 : Nat) : Int)).1 69 = ω.1 69 := rfl
    refine j_astore2 C rfl dX6_readCommand_4 ?_
    refine j_aload2 C dX6_readCommand_5 ?_
    refine j_ifnonnull C dX6_readCommand_6 ?_
    refine j_aload0 C dX6_readCommand_11 ?_
    refine j_aload2 C dX6_readCommand_12 ?_
    refine j_dg1 C (by omega) dX6_readCommand_13 ?_
    refine j_cVI1 C (c_X6_readNumber (by exact hR1) hn1 hh1 hn6 (by omega) (by omega)) oX6_readNumber kX6_49 ⟨_, rfl, rfl⟩ at_68 ⟨by decide, by decide⟩ rfl (Nat.le_of_ble_eq_true rfl) ⟨by decide, by decide⟩ dX6_readCommand_16 ?_
    rintro z1 W1 hr16 ⟨hz1, rfl⟩
    rw [wi_wi, h69, show num (ω.1 69) n (dg1 (dOf (sgn (ω.1 69) n h))) (h + 1) 0 0 = cN1 (ω.1 69) n h from rfl]
    have hz1 : z1 = nv (cN1 (ω.1 69) n h).2.2 (cN1 (ω.1 69) n h).2.1 := hz1
    have hnv1 := nv_c (cN1 (ω.1 69) n h).2.2 (cN1 (ω.1 69) n h).2.1
    have hg1 : (cN1 (ω.1 69) n h).1 ≤ n := (num_rg _ _ _ _ (by omega)).1
    have hv1 : 0 ≤ (cN1 (ω.1 69) n h).2.1 ∧ (cN1 (ω.1 69) n h).2.1 ≤ 99 := num_v _ _ _ _ (Int.le_refl 0) (by decide) (by omega)
    have hn2 : (wi ω 68 6 ((cN1 (ω.1 69) n h).1 : Int)).1 68 1 = (n : Int) := hn
    have hh2 : (wi ω 68 6 ((cN1 (ω.1 69) n h).1 : Int)).1 68 6 = ((cN1 (ω.1 69) n h).1 : Int) := by rw [wi_wf, wf_same, up_same]
    have hR2 : CR (wi ω 68 6 ((cN1 (ω.1 69) n h).1 : Int)) := hR
    have h692 : (wi ω 68 6 ((cN1 (ω.1 69) n h).1 : Int)).1 69 = ω.1 69 := rfl
    refine j_istore3 C rfl dX6_readCommand_19 ?_
    refine j_iload3 C dX6_readCommand_20 ?_
    refine j_if_ge C ⟨by omega, by omega⟩ dX6_readCommand_21 (fun hc21 => ?_) (fun hc21 => ?_)
    · -- 21 T
      refine j_aload2 C dX6_readCommand_26 ?_
      refine j_dg2 C (by omega) dX6_readCommand_27 ?_
      refine j_if_ne C ⟨by omega, by omega⟩ dX6_readCommand_30 (fun hc30 => ?_) (fun hc30 => ?_)
      · -- 30 T
        have hdn : dg2 (dOf (sgn (ω.1 69) n h)) ≠ 0 := by omega
        refine j_aload0 C dX6_readCommand_37 ?_
        refine j_aload2 C dX6_readCommand_38 ?_
        refine j_dg2 C (by omega) dX6_readCommand_39 ?_
        refine j_cVI1 C (c_X6_readNumber (by exact hR2) hn2 hh2 hn6 (by omega) hg1) oX6_readNumber kX6_49 ⟨_, rfl, rfl⟩ at_68 ⟨by decide, by decide⟩ rfl (Nat.le_of_ble_eq_true rfl) ⟨by decide, by decide⟩ dX6_readCommand_42 ?_
        rintro z2 W2 hr42 ⟨hz2, rfl⟩
        rw [wi_wi, h692, show num (ω.1 69) n (dg2 (dOf (sgn (ω.1 69) n h))) (cN1 (ω.1 69) n h).1 0 0 = cN2 (ω.1 69) n h from rfl]
        have hz2 : z2 = nv (cN2 (ω.1 69) n h).2.2 (cN2 (ω.1 69) n h).2.1 := hz2
        have hnv2 := nv_c (cN2 (ω.1 69) n h).2.2 (cN2 (ω.1 69) n h).2.1
        have hv2 : 0 ≤ (cN2 (ω.1 69) n h).2.1 ∧ (cN2 (ω.1 69) n h).2.1 ≤ 99 := num_v _ _ _ _ (Int.le_refl 0) (by decide) (by omega)
        refine j_istore4 C rfl dX6_readCommand_45 ?_
        refine j_iload4 C dX6_readCommand_47 ?_
        refine j_if_ge C ⟨by omega, by omega⟩ dX6_readCommand_49 (fun hc49 => ?_) (fun hc49 => ?_)
        · -- 49 T
          refine j_aload0 C dX6_readCommand_54 ?_
          refine j_getr C fX6_21 at_68 rfl hR.2.2.2.2.2.2.2.2.2.2.1 dX6_readCommand_55 ?_
          refine j_iload1 C dX6_readCommand_58 ?_
          refine j_aload2 C dX6_readCommand_59 ?_
          refine j_aastD C at_70 (b := (dOf (sgn (ω.1 69) n h))) (by omega) ⟨by omega, by omega⟩ dX6_readCommand_60 ?_
          refine j_aload0 C dX6_readCommand_61 ?_
          refine j_getr C fX6_25 at_68 rfl hR.2.2.2.2.2.2.2.2.2.2.2.1 dX6_readCommand_62 ?_
          refine j_iload1 C dX6_readCommand_65 ?_
          refine j_iload3 C dX6_readCommand_66 ?_
          refine j_iast C at_71 ⟨rfl, rfl⟩ (N := 20) rfl (by decide) ⟨by omega, by omega⟩ ⟨by omega, by omega⟩ dX6_readCommand_67 ?_
          refine j_aload0 C dX6_readCommand_68 ?_
          refine j_getr C fX6_29 at_68 rfl hR.2.2.2.2.2.2.2.2.2.2.2.2.1 dX6_readCommand_69 ?_
          refine j_iload1 C dX6_readCommand_72 ?_
          refine j_iload4 C dX6_readCommand_73 ?_
          refine j_iast C at_72 ⟨rfl, rfl⟩ (N := 20) rfl (by decide) ⟨by omega, by omega⟩ ⟨by omega, by omega⟩ dX6_readCommand_75 ?_
          refine j_iconst C dX6_readCommand_76 ?_
          refine j_zret C hrt dX6_readCommand_77 (by first | exact Or.inl rfl | exact Or.inr rfl | exact bI_01 _) ?_
          refine Or.inl ⟨rfl, ⟨hd9, by omega, by omega⟩, ?_⟩
          unfold RcW
          simp only [Int.toNat_natCast]
          rw [cEnd_2 hw9 (by omega)]
          first
          | (rw [hN2, show z1 = (cN1 (ω.1 69) n h).2.1 by omega])
          | (rw [show z1 = (cN1 (ω.1 69) n h).2.1 by omega, show z2 = (cN2 (ω.1 69) n h).2.1 by omega])
        · -- 49 F
          refine j_iconst C dX6_readCommand_52 ?_
          refine j_zret C hrt dX6_readCommand_53 (by first | exact Or.inl rfl | exact Or.inr rfl | exact bI_01 _) ?_
          exact Or.inr ⟨rfl, fun q => by have := q.2.2; omega, by rw [cEnd_2 hw9 (by omega)]⟩
      · -- 30 F
        have hdz : dg2 (dOf (sgn (ω.1 69) n h)) = 0 := by omega
        have hN2 := cN2_0 hdz
        refine j_iconst C dX6_readCommand_33 ?_
        refine j_goto C dX6_readCommand_34 ?_
        refine j_istore4 C rfl dX6_readCommand_45 ?_
        refine j_iload4 C dX6_readCommand_47 ?_
        refine j_if_ge C (by decide) dX6_readCommand_49 (fun _ => ?_) (fun hc => absurd hc (by decide))
        refine j_aload0 C dX6_readCommand_54 ?_
        refine j_getr C fX6_21 at_68 rfl hR.2.2.2.2.2.2.2.2.2.2.1 dX6_readCommand_55 ?_
        refine j_iload1 C dX6_readCommand_58 ?_
        refine j_aload2 C dX6_readCommand_59 ?_
        refine j_aastD C at_70 (b := (dOf (sgn (ω.1 69) n h))) (by omega) ⟨by omega, by omega⟩ dX6_readCommand_60 ?_
        refine j_aload0 C dX6_readCommand_61 ?_
        refine j_getr C fX6_25 at_68 rfl hR.2.2.2.2.2.2.2.2.2.2.2.1 dX6_readCommand_62 ?_
        refine j_iload1 C dX6_readCommand_65 ?_
        refine j_iload3 C dX6_readCommand_66 ?_
        refine j_iast C at_71 ⟨rfl, rfl⟩ (N := 20) rfl (by decide) ⟨by omega, by omega⟩ ⟨by omega, by omega⟩ dX6_readCommand_67 ?_
        refine j_aload0 C dX6_readCommand_68 ?_
        refine j_getr C fX6_29 at_68 rfl hR.2.2.2.2.2.2.2.2.2.2.2.2.1 dX6_readCommand_69 ?_
        refine j_iload1 C dX6_readCommand_72 ?_
        refine j_iload4 C dX6_readCommand_73 ?_
        refine j_iast C at_72 ⟨rfl, rfl⟩ (N := 20) rfl (by decide) ⟨by omega, by omega⟩ ⟨by omega, by omega⟩ dX6_readCommand_75 ?_
        refine j_iconst C dX6_readCommand_76 ?_
        refine j_zret C hrt dX6_readCommand_77 (by first | exact Or.inl rfl | exact Or.inr rfl | exact bI_01 _) ?_
        refine Or.inl ⟨rfl, ⟨hd9, by omega, by omega⟩, ?_⟩
        unfold RcW
        simp only [Int.toNat_natCast]
        rw [cEnd_2 hw9 (by omega)]
        first
        | (rw [hN2, show z1 = (cN1 (ω.1 69) n h).2.1 by omega])
        | (rw [show z1 = (cN1 (ω.1 69) n h).2.1 by omega, show z2 = (cN2 (ω.1 69) n h).2.1 by omega])
    · -- 21 F
      refine j_iconst C dX6_readCommand_24 ?_
      refine j_zret C hrt dX6_readCommand_25 (by first | exact Or.inl rfl | exact Or.inr rfl | exact bI_01 _) ?_
      exact Or.inr ⟨rfl, fun q => by have := q.2.1; omega, by rw [cEnd_1 hw9 (by omega)]⟩
set_option maxRecDepth 100000 in
set_option maxHeartbeats 4000000 in
theorem c_X6_read {Γ : Ga} {l : Launch} {ω : Wo} (hR : CR ω) {n h0 : Nat} (hn : ω.1 68 1 = (n : Int)) (hh : ω.1 68 6 = (h0 : Int)) (hn6 : n ≤ 60) : CI Γ l yX6_read cX6_read 3 .int 3 [.ref (rl Γ 68)] ω (fun z ω' => z = (prs (ω.1 69) n 21 0).1 ∧ KR ω ω' ∧ ((prs (ω.1 69) n 21 0).1 = -1 → (prs (ω.1 69) n 21 0).2 ≤ 20 ∧ SP ω' (prs (ω.1 69) n 21 0).2 (tD (ω.1 69) n) (tA (ω.1 69) n) (tB (ω.1 69) n))) := by
  refine Met.ofJ (k := 2) [some (.ref (rl Γ 68)), none, none] (by decide) rfl rfl rfl (fun p e s mm args below meth c C hrt => ?_)
  refine j_aload0 C dX6_read_0 ?_
  refine j_iconst C dX6_read_1 ?_
  refine j_putI C fX6_32 at_68 rfl ty_6_5 ⟨by omega, by omega⟩ dX6_read_2 ?_
  refine j_aload0 C dX6_read_5 ?_
  refine j_iconst C dX6_read_6 ?_
  refine j_putI C fX6_35 at_68 rfl ty_6_6 ⟨by omega, by omega⟩ dX6_read_7 ?_
  have hW0 : RD ω (wi (wi ω 68 5 0) 68 6 0) n 0 0 := ((show RD ω ω n 0 h0 from ⟨KR.rf ω, hh, fun j hj => absurd hj (by omega)⟩).p5 0).p6 0
  refine j_iconst C dX6_read_10 ?_
  refine j_istore1 C rfl dX6_read_11 ?_
  refine j_iconst C dX6_read_12 ?_
  refine j_istore2 C rfl dX6_read_13 ?_
  have loop14 : ∀ (N : Nat) (k h : Nat) (d : Int) (W : Wo), (20 - k) < N → (k ≤ 20) → (h ≤ n) → (RD ω W n k h) → (W.1 68 5 = (k : Int)) → (∀ j, j < k → psn (ω.1 69) n j ≤ n) → ((d = 1 ∧ h = (psn (ω.1 69) n k) ∧ prs (ω.1 69) n 21 0 = prs (ω.1 69) n (21 - k) k ∧ 3 * k ≤ (psn (ω.1 69) n k)) ∨ (d = 0 ∧ prs (ω.1 69) n 21 0 = (if h = n then -1 else (h : Int), k))) → J Γ p l e (rmk 3 0 0) s mm args below meth c (MQ below (QI Γ (fun z ω' => z = (prs (ω.1 69) n 21 0).1 ∧ KR ω ω' ∧ ((prs (ω.1 69) n 21 0).1 = -1 → (prs (ω.1 69) n 21 0).2 ≤ 20 ∧ SP ω' (prs (ω.1 69) n 21 0).2 (tD (ω.1 69) n) (tA (ω.1 69) n) (tB (ω.1 69) n)))) args s 0 0 (gA Γ)) 243 0 0 14 [some (.ref (rl Γ 68)), some (.int (iI d)), some (.int (iI ((k : Nat) : Int)))] [] W := by
    intro N
    induction N with
    | zero => intro k h d W hN; exact absurd hN (Nat.not_lt_zero _)
    | succ N ih14 =>
      intro k h d W hN hk0 hhn hRD h5W hpn hst
      have hRW := hRD.1.cr hR
      have hhW := hRD.2.1
      have hnW : W.1 68 1 = (n : Int) := (hRD.1.2.1 1 (by decide) (by decide)).trans hn
      have htW : W.1 69 = ω.1 69 := hRD.t
      refine j_iload2 C dX6_read_14 ?_
      refine j_bipush C (by decide) dX6_read_15 ?_
      refine j_icmp_ge C ⟨by omega, by omega⟩ ⟨by omega, by omega⟩ dX6_read_17 (fun hc17 => ?_) (fun hc17 => ?_)
      · -- 17 T
        refine j_iload1 C dX6_read_98 ?_
        refine j_if_ne C ⟨by omega, by omega⟩ dX6_read_99 (fun hc99 => ?_) (fun hc99 => ?_)
        · -- 99 T
          obtain ⟨hd1, hh9, hpr, h3k⟩ : d = 1 ∧ _ := hst.resolve_right (fun q => hc99 q.1)
          have hk20 : k = 20 := by omega
          subst hk20
          have hsn : sgn (ω.1 69) n (psn (ω.1 69) n 20) = -1 := sgn_out (by omega)
          have hno : ¬ cOk (ω.1 69) n (psn (ω.1 69) n 20) := fun q => q.1 (by rw [hsn]; rfl)
          have hz : prs (ω.1 69) n 21 0 = ((cEnd (ω.1 69) n (psn (ω.1 69) n 20) : Int), 20 + 1) := by rw [hpr]; exact prs_no hno
          have hce : cEnd (ω.1 69) n (psn (ω.1 69) n 20) = psn (ω.1 69) n 20 := if_pos (by rw [hsn]; rfl)
          have hfin : (h : Int) = (prs (ω.1 69) n 21 0).1 ∧ (prs (ω.1 69) n 21 0).1 ≠ -1 := by rw [hz, hce, hh9]; exact ⟨rfl, by show ¬ (psn _ _ _ : Int) = -1; omega⟩
          refine j_aload0 C dX6_read_113 ?_
          refine j_geti C fX6_35 at_68 rfl hhW dX6_read_114 (fun hr114 => ?_)
          refine j_goto C dX6_read_117 ?_
          refine j_iret C hrt dX6_read_121 ⟨by omega, by omega⟩ ?_
          first
          | exact ⟨hfin.1, hRD.1, fun q => absurd q hfin.2⟩
          | (rw [hfin]; exact ⟨rfl, hRD.1, fun _ => ⟨hk0, hRD.sp h5W hn6 hpn⟩⟩)
        · -- 99 F
          obtain ⟨hd0, hz⟩ : d = 0 ∧ _ := hst.resolve_left (fun q => by omega)
          refine j_aload0 C dX6_read_102 ?_
          refine j_geti C fX6_35 at_68 rfl hhW dX6_read_103 (fun hr103 => ?_)
          refine j_aload0 C dX6_read_106 ?_
          refine j_geti C fX6_15 at_68 rfl hnW dX6_read_107 (fun hr107 => ?_)
          refine j_icmp_ge C ⟨by omega, by omega⟩ ⟨by omega, by omega⟩ dX6_read_110 (fun hc110 => ?_) (fun hc110 => ?_)
          · -- 110 T
            have hfin : (prs (ω.1 69) n 21 0) = (-1, k) := by rw [hz, if_pos (by omega)]
            refine j_iconst C dX6_read_120 ?_
            refine j_iret C hrt dX6_read_121 ⟨by omega, by omega⟩ ?_
            first
            | exact ⟨hfin.1, hRD.1, fun q => absurd q hfin.2⟩
            | (rw [hfin]; exact ⟨rfl, hRD.1, fun _ => ⟨hk0, hRD.sp h5W hn6 hpn⟩⟩)
          · -- 110 F
            have hfin : (h : Int) = (prs (ω.1 69) n 21 0).1 ∧ (prs (ω.1 69) n 21 0).1 ≠ -1 := by rw [hz]; show (h : Int) = (if h = n then -1 else (h : Int)) ∧ (if h = n then -1 else (h : Int)) ≠ -1; rw [if_neg (by omega)]; exact ⟨rfl, by omega⟩
            refine j_aload0 C dX6_read_113 ?_
            refine j_geti C fX6_35 at_68 rfl hhW dX6_read_114 (fun hr114 => ?_)
            refine j_goto C dX6_read_117 ?_
            refine j_iret C hrt dX6_read_121 ⟨by omega, by omega⟩ ?_
            first
            | exact ⟨hfin.1, hRD.1, fun q => absurd q hfin.2⟩
            | (rw [hfin]; exact ⟨rfl, hRD.1, fun _ => ⟨hk0, hRD.sp h5W hn6 hpn⟩⟩)
      · -- 17 F
        refine j_iload1 C dX6_read_20 ?_
        refine j_if_eq C ⟨by omega, by omega⟩ dX6_read_21 (fun hc21 => ?_) (fun hc21 => ?_)
        · -- 21 T
          have hd0 : d = 0 := hc21
          refine j_iload1 C dX6_read_98 ?_
          refine j_if_ne C ⟨by omega, by omega⟩ dX6_read_99 (fun hc99 => ?_) (fun hc99 => ?_)
          · -- 99 T
            obtain ⟨hd1, hh9, hpr, h3k⟩ : d = 1 ∧ _ := hst.resolve_right (fun q => hc99 q.1)
            have hk20 : k = 20 := by omega
            subst hk20
            have hsn : sgn (ω.1 69) n (psn (ω.1 69) n 20) = -1 := sgn_out (by omega)
            have hno : ¬ cOk (ω.1 69) n (psn (ω.1 69) n 20) := fun q => q.1 (by rw [hsn]; rfl)
            have hz : prs (ω.1 69) n 21 0 = ((cEnd (ω.1 69) n (psn (ω.1 69) n 20) : Int), 20 + 1) := by rw [hpr]; exact prs_no hno
            have hce : cEnd (ω.1 69) n (psn (ω.1 69) n 20) = psn (ω.1 69) n 20 := if_pos (by rw [hsn]; rfl)
            have hfin : (h : Int) = (prs (ω.1 69) n 21 0).1 ∧ (prs (ω.1 69) n 21 0).1 ≠ -1 := by rw [hz, hce, hh9]; exact ⟨rfl, by show ¬ (psn _ _ _ : Int) = -1; omega⟩
            refine j_aload0 C dX6_read_113 ?_
            refine j_geti C fX6_35 at_68 rfl hhW dX6_read_114 (fun hr114 => ?_)
            refine j_goto C dX6_read_117 ?_
            refine j_iret C hrt dX6_read_121 ⟨by omega, by omega⟩ ?_
            first
            | exact ⟨hfin.1, hRD.1, fun q => absurd q hfin.2⟩
            | (rw [hfin]; exact ⟨rfl, hRD.1, fun _ => ⟨hk0, hRD.sp h5W hn6 hpn⟩⟩)
          · -- 99 F
            obtain ⟨hd0, hz⟩ : d = 0 ∧ _ := hst.resolve_left (fun q => by omega)
            refine j_aload0 C dX6_read_102 ?_
            refine j_geti C fX6_35 at_68 rfl hhW dX6_read_103 (fun hr103 => ?_)
            refine j_aload0 C dX6_read_106 ?_
            refine j_geti C fX6_15 at_68 rfl hnW dX6_read_107 (fun hr107 => ?_)
            refine j_icmp_ge C ⟨by omega, by omega⟩ ⟨by omega, by omega⟩ dX6_read_110 (fun hc110 => ?_) (fun hc110 => ?_)
            · -- 110 T
              have hfin : (prs (ω.1 69) n 21 0) = (-1, k) := by rw [hz, if_pos (by omega)]
              refine j_iconst C dX6_read_120 ?_
              refine j_iret C hrt dX6_read_121 ⟨by omega, by omega⟩ ?_
              first
              | exact ⟨hfin.1, hRD.1, fun q => absurd q hfin.2⟩
              | (rw [hfin]; exact ⟨rfl, hRD.1, fun _ => ⟨hk0, hRD.sp h5W hn6 hpn⟩⟩)
            · -- 110 F
              have hfin : (h : Int) = (prs (ω.1 69) n 21 0).1 ∧ (prs (ω.1 69) n 21 0).1 ≠ -1 := by rw [hz]; show (h : Int) = (if h = n then -1 else (h : Int)) ∧ (if h = n then -1 else (h : Int)) ≠ -1; rw [if_neg (by omega)]; exact ⟨rfl, by omega⟩
              refine j_aload0 C dX6_read_113 ?_
              refine j_geti C fX6_35 at_68 rfl hhW dX6_read_114 (fun hr114 => ?_)
              refine j_goto C dX6_read_117 ?_
              refine j_iret C hrt dX6_read_121 ⟨by omega, by omega⟩ ?_
              first
              | exact ⟨hfin.1, hRD.1, fun q => absurd q hfin.2⟩
              | (rw [hfin]; exact ⟨rfl, hRD.1, fun _ => ⟨hk0, hRD.sp h5W hn6 hpn⟩⟩)
        · -- 21 F
          obtain ⟨hd1, hh9, hpr, h3k⟩ : d = 1 ∧ _ := hst.resolve_right (fun q => hc21 q.1)
          subst hh9
          refine j_aload0 C dX6_read_24 ?_
          refine j_iload2 C dX6_read_25 ?_
          refine j_cVI1 C (c_X6_readCommand (by exact hRW) hnW hhW hn6 (by omega) (by omega)) oX6_readCommand kX6_38 ⟨_, rfl, rfl⟩ at_68 ⟨by decide, by decide⟩ rfl (Nat.le_of_ble_eq_true rfl) ⟨by decide, by decide⟩ dX6_read_26 ?_
          rintro z1 W1 hr26 hp26
          rw [htW] at hp26
          refine j_if_ne C ⟨by omega, by omega⟩ dX6_read_29 (fun hc29 => ?_) (fun hc29 => ?_)
          · -- 29 T
            obtain ⟨-, hok, rfl⟩ := hp26.resolve_right (fun q => hc29 q.1)
            have hW1 := hRD.st hok
            have hrg := cOk_rg hok
            have hRW1 : CR (RcW W n (psn (ω.1 69) n k) k) := hW1.1.cr hR
            have hn1 : (RcW W n (psn (ω.1 69) n k) k).1 68 1 = (n : Int) := (hW1.1.2.1 1 (by decide) (by decide)).trans hn
            have h51 : (RcW W n (psn (ω.1 69) n k) k).1 68 5 = (k : Int) := h5W
            have hW2 := hW1.p5 ((k : Int) + 1)
            have hh2 := hW2.2.1
            have hn2 : (wi (RcW W n (psn (ω.1 69) n k) k) 68 5 ((k : Int) + 1)).1 68 1 = (n : Int) := (hW2.1.2.1 1 (by decide) (by decide)).trans hn
            have hRW2 : CR (wi (RcW W n (psn (ω.1 69) n k) k) 68 5 ((k : Int) + 1)) := hW2.1.cr hR
            have h52 : (wi (RcW W n (psn (ω.1 69) n k) k) 68 5 ((k : Int) + 1)).1 68 5 = (k : Int) + 1 := by rw [wi_wf, wf_same, up_same]
            have ht2 : (wi (RcW W n (psn (ω.1 69) n k) k) 68 5 ((k : Int) + 1)).1 69 = ω.1 69 := hW2.t
            have hpe : prs (ω.1 69) n (21 - k) k = prs (ω.1 69) n ((20 - k) + 1) k := by rw [show 21 - k = (20 - k) + 1 by omega]
            refine j_aload0 C dX6_read_37 ?_
            refine j_dup C rfl dX6_read_38 ?_
            refine j_geti C fX6_32 at_68 rfl h51 dX6_read_39 (fun hr39 => ?_)
            refine j_iconst C dX6_read_42 ?_
            refine j_iadd C dX6_read_43 ?_
            refine j_putI C fX6_32 at_68 rfl ty_6_5 ⟨by omega, by omega⟩ dX6_read_44 ?_
            refine j_aload0 C dX6_read_47 ?_
            refine j_geti C fX6_35 at_68 rfl hh2 dX6_read_48 (fun hr48 => ?_)
            refine j_aload0 C dX6_read_51 ?_
            refine j_geti C fX6_15 at_68 rfl hn2 dX6_read_52 (fun hr52 => ?_)
            refine j_icmp_ge C ⟨by omega, by omega⟩ ⟨by omega, by omega⟩ dX6_read_55 (fun hc55 => ?_) (fun hc55 => ?_)
            · -- 55 T
              have hs9 : sgn (ω.1 69) n (cEnd (ω.1 69) n (psn (ω.1 69) n k)) = -1 := sgn_out (by omega)
              refine j_iconst C dX6_read_76 ?_
              refine j_istore1 C rfl dX6_read_77 ?_
              refine j_iload1 C dX6_read_78 ?_
              refine j_if_eq C (by decide) dX6_read_79 (fun _ => ?_) (fun hc => absurd hc (by decide))
              refine j_iinc2n C rfl dX6_read_92 ?_
              refine j_goto C dX6_read_95 ?_
              have hs59 : sgn (ω.1 69) n (cEnd (ω.1 69) n (psn (ω.1 69) n k)) ≠ 59 := by omega
              exact j_fg (ih14 (k + 1) (cEnd (ω.1 69) n (psn (ω.1 69) n k)) 0 (wi (RcW W n (psn (ω.1 69) n k) k) 68 5 ((k : Int) + 1)) (by omega) (by omega) (by omega) hW2 h52 (fun j hj => by
                by_cases e : j = k
                · subst e; exact hhn
                · exact hpn j (by omega)) (Or.inr ⟨rfl, by
                  rw [hpr, hpe]
                  by_cases e : (cEnd (ω.1 69) n (psn (ω.1 69) n k)) = n
                  · rw [if_pos e, prs_end hok hs59 e]
                  · rw [if_neg e, prs_flt hok hs59 e]⟩)) ⟨Or.inr rfl, Or.inr rfl, Or.inr rfl, trivial⟩ rfl
            · -- 55 F
              have hs9 : sgn (ω.1 69) n (cEnd (ω.1 69) n (psn (ω.1 69) n k)) = ω.1 69 (cEnd (ω.1 69) n (psn (ω.1 69) n k)) := sgn_in (by omega)
              refine j_aload0 C dX6_read_58 ?_
              refine j_getr C fX6_9 at_68 rfl hRW2.2.2.2.2.2.2.2.2.2.1 dX6_read_59 ?_
              refine j_aload0 C dX6_read_62 ?_
              refine j_geti C fX6_35 at_68 rfl hh2 dX6_read_63 (fun hr63 => ?_)
              refine j_cald C at_69 ⟨by omega, by omega⟩ (show _ = ω.1 69 (cEnd (ω.1 69) n (psn (ω.1 69) n k)) from congrFun ht2 _) dX6_read_66 (fun hr66 => ?_)
              refine j_bipush C (by decide) dX6_read_67 ?_
              refine j_icmp_ne C ⟨by omega, by omega⟩ ⟨by omega, by omega⟩ dX6_read_69 (fun hc69 => ?_) (fun hc69 => ?_)
              · -- 69 T
                refine j_iconst C dX6_read_76 ?_
                refine j_istore1 C rfl dX6_read_77 ?_
                refine j_iload1 C dX6_read_78 ?_
                refine j_if_eq C (by decide) dX6_read_79 (fun _ => ?_) (fun hc => absurd hc (by decide))
                refine j_iinc2n C rfl dX6_read_92 ?_
                refine j_goto C dX6_read_95 ?_
                have hs59 : sgn (ω.1 69) n (cEnd (ω.1 69) n (psn (ω.1 69) n k)) ≠ 59 := by omega
                exact j_fg (ih14 (k + 1) (cEnd (ω.1 69) n (psn (ω.1 69) n k)) 0 (wi (RcW W n (psn (ω.1 69) n k) k) 68 5 ((k : Int) + 1)) (by omega) (by omega) (by omega) hW2 h52 (fun j hj => by
                  by_cases e : j = k
                  · subst e; exact hhn
                  · exact hpn j (by omega)) (Or.inr ⟨rfl, by
                    rw [hpr, hpe]
                    by_cases e : (cEnd (ω.1 69) n (psn (ω.1 69) n k)) = n
                    · rw [if_pos e, prs_end hok hs59 e]
                    · rw [if_neg e, prs_flt hok hs59 e]⟩)) ⟨Or.inr rfl, Or.inr rfl, Or.inr rfl, trivial⟩ rfl
              · -- 69 F
                refine j_iconst C dX6_read_72 ?_
                refine j_goto C dX6_read_73 ?_
                refine j_istore1 C rfl dX6_read_77 ?_
                refine j_iload1 C dX6_read_78 ?_
                refine j_if_eq C (by decide) dX6_read_79 (fun hc => absurd hc (by decide)) (fun _ => ?_)
                refine j_aload0 C dX6_read_82 ?_
                refine j_dup C rfl dX6_read_83 ?_
                refine j_geti C fX6_35 at_68 rfl hh2 dX6_read_84 (fun hr84 => ?_)
                refine j_iconst C dX6_read_87 ?_
                refine j_iadd C dX6_read_88 ?_
                refine j_putI C fX6_35 at_68 rfl ty_6_6 ⟨by omega, by omega⟩ dX6_read_89 ?_
                refine j_iinc2n C rfl dX6_read_92 ?_
                refine j_goto C dX6_read_95 ?_
                have hs59 : sgn (ω.1 69) n (cEnd (ω.1 69) n (psn (ω.1 69) n k)) = 59 := by omega
                have hW3 := hW2.p6 ((cEnd (ω.1 69) n (psn (ω.1 69) n k)) + 1)
                exact j_fg (ih14 (k + 1) ((cEnd (ω.1 69) n (psn (ω.1 69) n k)) + 1) 1 (wi (wi (RcW W n (psn (ω.1 69) n k) k) 68 5 ((k : Int) + 1)) 68 6 (((cEnd (ω.1 69) n (psn (ω.1 69) n k)) + 1 : Nat) : Int)) (by omega) (by omega) (by omega) hW3 h52 (fun j hj => by
                  by_cases e : j = k
                  · subst e; exact hhn
                  · exact hpn j (by omega)) (Or.inl ⟨rfl, rfl, by rw [hpr, hpe, prs_go hok hs59]; rw [show 21 - (k + 1) = 20 - k by omega], by show 3 * (k + 1) ≤ (cEnd (ω.1 69) n (psn (ω.1 69) n k)) + 1; omega⟩)) ⟨Or.inr rfl, Or.inr rfl, Or.inr rfl, trivial⟩ (by first | rfl | (rw [show (((cEnd (ω.1 69) n (psn (ω.1 69) n k)) + 1 : Nat) : Int) = ((cEnd (ω.1 69) n (psn (ω.1 69) n k)) : Int) + 1 by omega]))
          · -- 29 F
            obtain ⟨-, hno, rfl⟩ := hp26.resolve_left (fun q => by omega)
            have hW1 := hRD.p6 (cEnd (ω.1 69) n (psn (ω.1 69) n k))
            have hcr := cEnd_rg (t := ω.1 69) (n := n) (h := psn (ω.1 69) n k) hhn
            have hz : prs (ω.1 69) n 21 0 = ((cEnd (ω.1 69) n (psn (ω.1 69) n k) : Int), k + 1) := by rw [hpr, show 21 - k = (20 - k) + 1 by omega]; exact prs_no hno
            refine j_aload0 C dX6_read_32 ?_
            refine j_geti C fX6_35 at_68 rfl hW1.2.1 dX6_read_33 (fun hr33 => ?_)
            refine j_iret C hrt dX6_read_36 ⟨by omega, by omega⟩ ?_
            rw [hz]
            exact ⟨rfl, hW1.1, fun q => absurd q (by show ¬ (cEnd _ _ _ : Int) = -1; omega)⟩
  exact j_fg (loop14 _ 0 0 1 (wi (wi ω 68 5 0) 68 6 0) (Nat.lt_succ_self _) (Nat.zero_le _) (Nat.zero_le _) hW0 rfl (fun j hj => absurd hj (by omega)) (Or.inl ⟨rfl, rfl, rfl, Nat.zero_le _⟩)) ⟨Or.inr rfl, Or.inr rfl, Or.inr rfl, trivial⟩ rfl
