/-! the line, by the class -/
def SBH (ω : Wo) (l : List Int) : Prop := ω.1 73 1 = 0 ∧ ω.1 73 3 = (l.length : Int) ∧ hol (ω.1 74) l ∧ ∀ v ∈ l, 0 ≤ v ∧ v < 128
def KL (ω W : Wo) : Prop := (∀ x, x ≠ 73 → x ≠ 74 → W.1 x = ω.1 x) ∧ W.2 = ω.2
theorem KL.rf (ω : Wo) : KL ω ω := ⟨fun _ _ _ => rfl, rfl⟩
theorem TW_74 {ω : Wo} {n : Nat} {v : Int} : (TW ω n v).1 74 = up (ω.1 74) n v := by
  unfold TW; rw [wi_wf, wf_ne _ _ (by decide), wi_wf, wf_same]
theorem TW_73 {ω : Wo} {n : Nat} {v : Int} : (TW ω n v).1 73 = up (ω.1 73) 3 ((n : Int) + 1) := by
  unfold TW; rw [wi_wf, wf_same, wi_wf, wf_ne _ _ (by decide)]
theorem SBH.put {ω : Wo} {l : List Int} {v : Int} (h : SBH ω l) (hv : 0 ≤ v ∧ v < 128) : SBH (TW ω l.length v) (l ++ [v]) := by
  obtain ⟨h1, h2, h3, h4⟩ := h
  refine ⟨?_, ?_, ?_, fun w hw => ?_⟩
  · rw [TW_73, up_ne _ _ (by decide)]; exact h1
  · rw [TW_73, up_same, List.length_append]; simp
  · rw [TW_74]; exact h3.snoc v
  · rcases List.mem_append.mp hw with q | q
    · exact h4 w q
    · rw [List.mem_singleton.mp q]; exact hv
theorem SBH.putn {ω : Wo} {l : List Int} {v : Nat} (h : SBH ω l) (hv : v < 10) : SBH (TW ω l.length ((48 + v : Nat) : Int)) (l ++ [48 + (v : Int)]) := by
  have := h.put (v := ((48 + v : Nat) : Int)) (by omega)
  rw [show 48 + (v : Int) = ((48 + v : Nat) : Int) by omega]; exact this
theorem KL.put {ω W : Wo} (h : KL ω W) (n : Nat) (v : Int) : KL ω (TW W n v) := by
  refine ⟨fun x q1 q2 => ?_, h.2⟩
  unfold TW; rw [wi_wf, wf_ne _ _ q1, wi_wf, wf_ne _ _ q2]; exact h.1 x q1 q2
theorem KL.tr {a b c : Wo} (h : KL a b) (h2 : KL b c) : KL a c := ⟨fun x q1 q2 => (h2.1 x q1 q2).trans (h.1 x q1 q2), h2.2.trans h.2⟩
theorem KL.cr {ω W : Wo} (h : KL ω W) (hR : CR ω) : CR W := by
  unfold CR at hR ⊢
  rw [h.2]; exact hR
theorem KL.st {ω W : Wo} {B : Nat} {s : Row} (h : KL ω W) (hS : St ω B s) (hc : cM s ≤ 10 ∧ cB s ≤ 3 ∧ cL s ≤ 4) (hB : B + 21 ≤ 73) : St W B s :=
  hS.fr hc (fun x _ _ => h.1 x (by omega) (by omega)) (fun x _ _ => by rw [h.2])
theorem SBH.set0 {ω W : Wo} {l : List Int} (h : SBH ω l) (hW : W = wi ω 73 3 0 ∨ W = wi (wi ω 73 2 1) 73 3 0) : SBH W [] ∧ KL ω W := by
  rcases hW with rfl | rfl
  · refine ⟨⟨h.1, ?_, hol_nil _, fun v hv => absurd hv List.not_mem_nil⟩, fun x q1 q2 => ?_, rfl⟩
    · rw [wi_wf, wf_same, up_same]; rfl
    · rw [wi_wf, wf_ne _ _ q1]
  · refine ⟨⟨h.1, ?_, hol_nil _, fun v hv => absurd hv List.not_mem_nil⟩, fun x q1 q2 => ?_, rfl⟩
    · rw [wi_wf, wf_same, up_same]; rfl
    · rw [wi_wf, wf_ne _ _ q1, wi_wf, wf_ne _ _ q1]
theorem crewL_mono (s : Row) (b : Int) {k : Nat} : ∀ n, k ≤ n → (crewL s b k).length ≤ (crewL s b n).length := by
  intro n
  induction n with
  | zero => intro h; have : k = 0 := by omega
            subst this; exact Nat.le_refl _
  | succ n ih =>
    intro h
    by_cases e : k = n + 1
    · rw [e]; exact Nat.le_refl _
    · have := ih (by omega)
      show _ ≤ (crewL s b n ++ _).length
      rw [List.length_append]; omega
theorem crewL_top {s : Row} {b : Int} (n : Nat) (h : cM s ≤ n) : crewL s b n = crewL s b (cM s) := by
  induction n with
  | zero => have : cM s = 0 := by omega
            rw [this]
  | succ n ih =>
    by_cases e : cM s = n + 1
    · rw [e]
    · rw [← ih (by omega)]
      have hb : ¬ crewO s b / 2 ^ n % 2 = 1 := by
        intro q
        have := bit_lt (crewUp_lt s b (cM s)) q
        omega
      exact (crewL_0 hb).symm
theorem crewUp_b1 (s : Row) (b : Int) : ∀ n k, crewUp s b n / 2 ^ k % 2 = 1 ↔ k < n ∧ sM s k 1 = 1 ∧ sM s k 3 = b := by
  intro n
  induction n with
  | zero => intro k; simp [crewUp]
  | succ n ih =>
    intro k
    unfold crewUp
    by_cases h : sM s n 1 = 1 ∧ sM s n 3 = b
    · rw [if_pos h, or_b1, ih]
      constructor
      · rintro (q | q)
        · exact ⟨by omega, q.2⟩
        · subst q; exact ⟨by omega, h⟩
      · rintro ⟨q1, q2⟩
        by_cases e : n = k
        · exact Or.inr e
        · exact Or.inl ⟨by omega, q2⟩
    · rw [if_neg h, Nat.or_zero, ih]
      constructor
      · rintro ⟨q1, q2⟩; exact ⟨by omega, q2⟩
      · rintro ⟨q1, q2⟩
        refine ⟨?_, q2⟩
        refine Decidable.byContradiction fun e => ?_
        have : k = n := by omega
        subst this; exact h q2
theorem crewL_cnt (s : Row) (b : Int) : ∀ n, n ≤ cM s → (crewL s b n).length ≤ cntUp s b n + (if 0 ≤ sB s b 5 ∧ sB s b 5 < n then 1 else 0) := by
  intro n
  induction n with
  | zero => intro _; simp [crewL]
  | succ n ih =>
    intro hn
    have i := ih (by omega)
    have c := crewUp_b1 s b (cM s) n
    show (crewL s b n ++ _).length ≤ cntUp s b n + (if sM s n 1 = 1 ∧ sM s n 3 = b then 1 else 0) + _
    rw [List.length_append]
    by_cases h : crewO s b / 2 ^ n % 2 = 1
    · rw [if_pos h, if_pos (c.mp h).2]
      by_cases e : sB s b 5 = n
      · rw [if_pos e, if_pos (by omega)]
        rw [if_neg (by omega)] at i
        show _ + 2 ≤ _
        omega
      · rw [if_neg e]
        show _ + 1 ≤ _
        split <;> split at i <;> omega
    · rw [if_neg h]
      show _ + 0 ≤ _
      split <;> split <;> split at i <;> omega
theorem crewL_8 {s : Row} {b : Nat} (h : WI s) (hb : b < cB s) : (crewL s b (cM s)).length ≤ 7 := by
  have h1 := crewL_cnt s b (cM s) (Nat.le_refl _)
  have h2 := (h.2.2.2 b hb).2.2
  split at h1 <;> omega
set_option maxRecDepth 100000 in
set_option maxHeartbeats 4000000 in
theorem c_X8_writeCrew {Γ : Ga} {l : Launch} {ω : Wo} (hR : CR ω) {l0 : List Int} (hSB : SBH ω l0) {σ : Row} {b : Int} {x : Nat} (hx0 : x = crewO σ b) (hx : x < 2147483648) {cx : Int} (hcx0 : cx = sB σ b 5) (hcr : Rg cx) (hcx : ∀ k : Nat, cx = k → x / 2 ^ k % 2 = 1) (hlen : l0.length + (crewL σ b 10).length ≤ 16) : CV Γ l yX8_writeCrew cX8_writeCrew 4 3 [.ref (rl Γ 0), .int (iI ((x : Int))), .int (iI cx)] ω (fun ω' => SBH ω' (l0 ++ crewL σ b 10) ∧ KL ω ω') := by
  refine Met.ofJ (k := 1) [some (.ref (rl Γ 0)), some (.int (iI ((x : Int)))), some (.int (iI cx)), none] (by decide) rfl rfl rfl (fun p e s mm args below meth c C hrt => ?_)
  refine j_iconst C dX8_writeCrew_0 ?_
  refine j_istore3 C rfl dX8_writeCrew_1 ?_
  have loop2 : ∀ (N : Nat) (k : Nat) (W : Wo), (10 - k) < N → (k ≤ 10) → (SBH W (l0 ++ crewL σ b k)) → (KL ω W) → J Γ p l e (rmk 3 0 0) s mm args below meth c (MQ below (QV Γ (fun ω' => SBH ω' (l0 ++ crewL σ b 10) ∧ KL ω ω')) args s 0 0 (gA Γ)) 254 0 0 2 [some (.ref (rl Γ 0)), some (.int (iI ((x : Nat) : Int))), some (.int (iI cx)), some (.int (iI ((k : Nat) : Int)))] [] W := by
    intro N
    induction N with
    | zero => intro k W hN; exact absurd hN (Nat.not_lt_zero _)
    | succ N ih2 =>
      intro k W hN hk0 hSW hKW
      have hRW := hKW.cr hR
      have hln : (l0 ++ crewL σ b k).length = l0.length + (crewL σ b k).length := List.length_append
      have hm1 := crewL_mono σ b (k := k) 10 (by omega)
      have hm2 := fun q : k + 1 ≤ 10 => crewL_mono σ b (k := k + 1) 10 q
      refine j_iload3 C dX8_writeCrew_2 ?_
      refine j_bipush C (by decide) dX8_writeCrew_3 ?_
      refine j_icmp_ge C ⟨by omega, by omega⟩ ⟨by omega, by omega⟩ dX8_writeCrew_5 (fun hc5 => ?_) (fun hc5 => ?_)
      · -- 5 T
        refine j_vret C hrt dX8_writeCrew_46 ?_
        have hk9 : k = 10 := by omega
        subst hk9
        exact ⟨hSW, hKW⟩
      · -- 5 F
        refine j_iload3 C dX8_writeCrew_8 ?_
        refine j_iload1 C dX8_writeCrew_9 ?_
        refine j_cSI2 C (c_X8_isIn (by omega) hx) oX8_isIn kX8_459 ⟨by decide, by decide⟩ rfl (Nat.le_of_ble_eq_true rfl) ⟨by decide, by decide⟩ dX8_writeCrew_10 ?_
        rintro _ _ - ⟨rfl, rfl⟩
        refine j_ifeqb C dX8_writeCrew_13 (fun hc13 => ?_) (fun hc13 => ?_)
        · -- 13 T
          have hb1 : crewO σ b / 2 ^ k % 2 = 1 := by rw [← hx0]; assumption
          have hl1 : (crewL σ b k).length + 1 ≤ (crewL σ b (k + 1)).length := by show _ ≤ (crewL σ b k ++ _).length; rw [List.length_append, if_pos hb1]; split <;> (simp)
          have hl2 := hm2 (by omega)
          refine j_aload0 C dX8_writeCrew_16 ?_
          refine j_getr C fX8_60 at_0 rfl hRW.2.2.2.2.2.2.2.2.1 dX8_writeCrew_17 ?_
          refine j_iload3 C dX8_writeCrew_20 ?_
          refine j_cVE1 C (c_J4_append_bf812 hRW hSW.1 hSW.2.1 (by omega) (v9 := k) (by omega)) oJ4_append_bf812 kX8_319 ⟨_, rfl, rfl⟩ at_73 ⟨by decide, by decide⟩ rfl (Nat.le_of_ble_eq_true rfl) ⟨by decide, by decide⟩ dX8_writeCrew_21 ?_
          rintro b9 W9 ⟨rfl, hW9⟩
          have hS9 : SBH W9 (l0 ++ crewL σ b k ++ [48 + (k : Int)]) := by rw [hW9]; exact hSW.putn (by omega)
          have hK9 : KL ω W9 := by rw [hW9]; exact hKW.put _ _
          have hR9 := hK9.cr hR
          refine j_pop C rfl dX8_writeCrew_24 ?_
          refine j_iload3 C dX8_writeCrew_25 ?_
          refine j_iload2 C dX8_writeCrew_26 ?_
          refine j_icmp_ne C ⟨by omega, by omega⟩ ⟨by omega, by omega⟩ dX8_writeCrew_27 (fun hc27 => ?_) (fun hc27 => ?_)
          · -- 27 T
            skip
            refine j_iinc3n C rfl dX8_writeCrew_40 ?_
            refine j_goto C dX8_writeCrew_43 ?_
            exact j_fg (ih2 (k + 1) W9 (by omega) (by omega) (by rw [← crewL_1 hb1 (by omega), ← List.append_assoc]; exact hS9) hK9) ⟨Or.inr rfl, Or.inr rfl, Or.inr rfl, Or.inr rfl, trivial⟩ rfl
          · -- 27 F
            have hl3 : (crewL σ b k).length + 2 ≤ (crewL σ b (k + 1)).length := by show _ ≤ (crewL σ b k ++ _).length; rw [List.length_append, if_pos hb1, if_pos (by omega)]; simp
            refine j_aload0 C dX8_writeCrew_30 ?_
            refine j_getr C fX8_60 at_0 rfl hR9.2.2.2.2.2.2.2.2.1 dX8_writeCrew_31 ?_
            refine j_bipush C (by decide) dX8_writeCrew_34 ?_
            refine j_cVE1 C (c_J4_append_cf468 hR9 hS9.1 hS9.2.1 (by rw [List.length_append]; show _ + 1 < 16; omega) (c9 := 42) (by decide)) oJ4_append_cf468 kX8_323 ⟨_, rfl, rfl⟩ at_73 ⟨by decide, by decide⟩ rfl (Nat.le_of_ble_eq_true rfl) ⟨by decide, by decide⟩ dX8_writeCrew_36 ?_
            rintro b8 W8 ⟨rfl, hW8⟩
            have hS8 : SBH W8 (l0 ++ crewL σ b k ++ [48 + (k : Int)] ++ [42]) := by rw [hW8]; exact hS9.put (by decide)
            have hK8 : KL ω W8 := by rw [hW8]; exact hK9.put _ _
            refine j_pop C rfl dX8_writeCrew_39 ?_
            refine j_iinc3n C rfl dX8_writeCrew_40 ?_
            refine j_goto C dX8_writeCrew_43 ?_
            exact j_fg (ih2 (k + 1) W8 (by omega) (by omega) (by rw [← crewL_2 hb1 (by omega), ← List.append_assoc, ← List.append_assoc]; exact hS8) hK8) ⟨Or.inr rfl, Or.inr rfl, Or.inr rfl, Or.inr rfl, trivial⟩ rfl
        · -- 13 F
          have hb0 : ¬ crewO σ b / 2 ^ k % 2 = 1 := by rw [← hx0]; assumption
          refine j_iload3 C dX8_writeCrew_25 ?_
          refine j_iload2 C dX8_writeCrew_26 ?_
          refine j_icmp_ne C ⟨by omega, by omega⟩ ⟨by omega, by omega⟩ dX8_writeCrew_27 (fun hc27 => ?_) (fun hc27 => ?_)
          · -- 27 T
            skip
            refine j_iinc3n C rfl dX8_writeCrew_40 ?_
            refine j_goto C dX8_writeCrew_43 ?_
            exact j_fg (ih2 (k + 1) W (by omega) (by omega) (by rw [← crewL_0 hb0]; exact hSW) hKW) ⟨Or.inr rfl, Or.inr rfl, Or.inr rfl, Or.inr rfl, trivial⟩ rfl
          · -- 27 F
            exact absurd (hcx k (by omega)) (by rw [hx0]; exact hb0)
  exact j_fg (loop2 _ 0 ω (Nat.lt_succ_self _) (Nat.zero_le _) (by show SBH ω (l0 ++ []); rw [List.append_nil]; exact hSB) (KL.rf ω)) ⟨Or.inr rfl, Or.inr rfl, Or.inr rfl, Or.inr rfl, trivial⟩ rfl
set_option maxRecDepth 100000 in
set_option maxHeartbeats 4000000 in
theorem c_X8_line {Γ : Ga} {l : Launch} {ω : Wo} (hsl : l.stackTraces = false) (hR : CR ω) {σ : Row} (hS : St ω 1 σ) {M : Int} (hI : RI M σ) (hWI : WI σ)  {a : Int} (ha : Rg a) {l0 : List Int} (hSB : SBH ω l0) : XI Γ l yX8_line cX8_line 3 .int 7 1 [.ref (rl Γ 0), .int (iI a)] ω (fun z ω' => (0 ≤ a ∧ a ≤ σ 2 - 1) ∧ z = ((lineL σ a).length : Int) ∧ SBH ω' (lineL σ a) ∧ KL ω ω') (fun E ω' => ω = ω' ∧ E = eIdx ∧ ¬ (0 ≤ a ∧ a ≤ σ 2 - 1)) := by
  refine MetX.ofJ (k := 1) [some (.ref (rl Γ 0)), some (.int (iI a)), none] (by decide) rfl rfl rfl (fun p e s mm args below meth c C hK2 hxt hrt => ?_)
  have hB := bs1
  have g := hI.s
  have gc := hI.c
  have gM := hI.2.1
  have hcc := hI.cc
  refine j_aload0 C dX8_line_0 ?_
  refine j_iload1 C dX8_line_1 ?_
  refine j_xVV1 C hK2 hxt (c_X8_requireBoat hsl (by exact hR) (by exact hS) (by exact hI) (by exact hWI) ⟨by omega, by omega⟩) oX8_requireBoat kX8_157 ⟨_, rfl, rfl⟩ at_0 ⟨by decide, by decide⟩ rfl (Nat.le_of_ble_eq_true rfl) ⟨by decide, by decide⟩ ⟨by decide, by decide⟩ dX8_line_2 (by rintro E ω1 ⟨rfl, rfl, hE⟩; exact ⟨rfl, rfl, hE⟩) ?_
  rintro _ ⟨hc2, rfl⟩
  obtain ⟨k, rfl⟩ := Int.eq_ofNat_of_zero_le hc2.1
  have gb := hI.b k (by omega)
  have gwb := hWI.2.2.2 k (by omega)
  have hs2 := hWI.2.1 k (by omega)
  obtain ⟨dr, hdr⟩ := Int.eq_ofNat_of_zero_le gb.1.1
  obtain ⟨se, hse⟩ := Int.eq_ofNat_of_zero_le gb.2.1.1
  obtain ⟨hl, hhl⟩ := Int.eq_ofNat_of_zero_le gb.2.2.2.1.1
  refine j_aload0 C dX8_line_5 ?_
  refine j_getr C fX8_12 at_0 rfl hR.1 dX8_line_6 ?_
  refine j_getr C fX8_161 (at_st bs1) rfl hS.r.a1 dX8_line_9 ?_
  refine j_iload1 C dX8_line_12 ?_
  refine j_aald C (at_bA hB) rfl (Cn := RX1) rfl (N := 3) rfl (by decide) ⟨by omega, by omega⟩ (hS.r.b k (by omega)) dX8_line_13 ?_
  refine j_astore2 C rfl dX8_line_14 ?_
  refine j_aload0 C dX8_line_15 ?_
  refine j_getr C fX8_60 at_0 rfl hR.2.2.2.2.2.2.2.2.1 dX8_line_16 ?_
  refine j_iconst C dX8_line_19 ?_
  refine j_cVV1 C (c_J4_setLength_d00df hR hSB.1 hSB.2.1) oJ4_setLength_d00df kX8_316 ⟨_, rfl, rfl⟩ at_73 ⟨by decide, by decide⟩ rfl (Nat.le_of_ble_eq_true rfl) ⟨by decide, by decide⟩ dX8_line_20 ?_
  rintro W0 hW0
  obtain ⟨hB0, hK0⟩ := hSB.set0 hW0
  have hR0 := hK0.cr hR
  refine j_aload0 C dX8_line_23 ?_
  refine j_getr C fX8_60 at_0 rfl hR0.2.2.2.2.2.2.2.2.1 dX8_line_24 ?_
  refine j_iload1 C dX8_line_27 ?_
  refine j_cVE1 C (c_J4_append_bf812 hR0 hB0.1 hB0.2.1 (by simp [preL]) (v9 := k) (by omega)) oJ4_append_bf812 kX8_319 ⟨_, rfl, rfl⟩ at_73 ⟨by decide, by decide⟩ rfl (Nat.le_of_ble_eq_true rfl) ⟨by decide, by decide⟩ dX8_line_28 ?_
  rintro b9 W1 ⟨rfl, hW1⟩
  have hB1 : SBH W1 [48 + (k : Int)] := by rw [hW1]; exact hB0.putn (by omega)
  have hK1 : KL ω W1 := by rw [hW1]; exact hK0.put _ _
  have hR1 := hK1.cr hR
  have hS1 := hK1.st hS hcc (by omega)
  refine j_pop C rfl dX8_line_31 ?_
  refine j_aload0 C dX8_line_32 ?_
  refine j_getr C fX8_60 at_0 rfl hR1.2.2.2.2.2.2.2.2.1 dX8_line_33 ?_
  refine j_bipush C (by decide) dX8_line_36 ?_
  refine j_cVE1 C (c_J4_append_cf468 hR1 hB1.1 hB1.2.1 (by simp [preL]) (c9 := 100) (by decide)) oJ4_append_cf468 kX8_323 ⟨_, rfl, rfl⟩ at_73 ⟨by decide, by decide⟩ rfl (Nat.le_of_ble_eq_true rfl) ⟨by decide, by decide⟩ dX8_line_38 ?_
  rintro b9 W2 ⟨rfl, hW2⟩
  have hB2 : SBH W2 [48 + (k : Int), 100] := by rw [hW2]; exact hB1.put (by decide)
  have hK2 : KL ω W2 := by rw [hW2]; exact hK1.put _ _
  have hR2 := hK2.cr hR
  have hS2 := hK2.st hS hcc (by omega)
  refine j_pop C rfl dX8_line_41 ?_
  refine j_aload0 C dX8_line_42 ?_
  refine j_getr C fX8_60 at_0 rfl hR2.2.2.2.2.2.2.2.2.1 dX8_line_43 ?_
  refine j_aload2 C dX8_line_46 ?_
  refine j_geti C fX8_165 (at_b hB (by omega)) rfl ((hS2.b0 k (by omega)).trans hdr) dX8_line_47 (fun hr47 => ?_)
  refine j_cVE1 C (c_J4_append_bf812 hR2 hB2.1 hB2.2.1 (by simp [preL]) (v9 := dr) (by omega)) oJ4_append_bf812 kX8_319 ⟨_, rfl, rfl⟩ at_73 ⟨by decide, by decide⟩ rfl (Nat.le_of_ble_eq_true rfl) ⟨by decide, by decide⟩ dX8_line_50 ?_
  rintro b9 W3 ⟨rfl, hW3⟩
  have hB3 : SBH W3 [48 + (k : Int), 100, 48 + sB σ k 0] := by rw [hW3]; rw [hdr]; exact hB2.putn (by omega)
  have hK3 : KL ω W3 := by rw [hW3]; exact hK2.put _ _
  have hR3 := hK3.cr hR
  have hS3 := hK3.st hS hcc (by omega)
  refine j_pop C rfl dX8_line_53 ?_
  refine j_aload0 C dX8_line_54 ?_
  refine j_getr C fX8_60 at_0 rfl hR3.2.2.2.2.2.2.2.2.1 dX8_line_55 ?_
  refine j_bipush C (by decide) dX8_line_58 ?_
  refine j_cVE1 C (c_J4_append_cf468 hR3 hB3.1 hB3.2.1 (by simp [preL]) (c9 := 115) (by decide)) oJ4_append_cf468 kX8_323 ⟨_, rfl, rfl⟩ at_73 ⟨by decide, by decide⟩ rfl (Nat.le_of_ble_eq_true rfl) ⟨by decide, by decide⟩ dX8_line_60 ?_
  rintro b9 W4 ⟨rfl, hW4⟩
  have hB4 : SBH W4 [48 + (k : Int), 100, 48 + sB σ k 0, 115] := by rw [hW4]; exact hB3.put (by decide)
  have hK4 : KL ω W4 := by rw [hW4]; exact hK3.put _ _
  have hR4 := hK4.cr hR
  have hS4 := hK4.st hS hcc (by omega)
  refine j_pop C rfl dX8_line_63 ?_
  refine j_aload0 C dX8_line_64 ?_
  refine j_getr C fX8_60 at_0 rfl hR4.2.2.2.2.2.2.2.2.1 dX8_line_65 ?_
  refine j_aload2 C dX8_line_68 ?_
  refine j_geti C fX8_170 (at_b hB (by omega)) rfl ((hS4.b1 k (by omega)).trans hse) dX8_line_69 (fun hr69 => ?_)
  refine j_cVE1 C (c_J4_append_bf812 hR4 hB4.1 hB4.2.1 (by simp [preL]) (v9 := se) (by omega)) oJ4_append_bf812 kX8_319 ⟨_, rfl, rfl⟩ at_73 ⟨by decide, by decide⟩ rfl (Nat.le_of_ble_eq_true rfl) ⟨by decide, by decide⟩ dX8_line_72 ?_
  rintro b9 W5 ⟨rfl, hW5⟩
  have hB5 : SBH W5 [48 + (k : Int), 100, 48 + sB σ k 0, 115, 48 + sB σ k 1] := by rw [hW5]; rw [hse]; exact hB4.putn (by omega)
  have hK5 : KL ω W5 := by rw [hW5]; exact hK4.put _ _
  have hR5 := hK5.cr hR
  have hS5 := hK5.st hS hcc (by omega)
  refine j_pop C rfl dX8_line_75 ?_
  refine j_aload2 C dX8_line_76 ?_
  refine j_cVI0 C (c_X1_isOut (at_b hB (by omega)) (hS5.b2 k (by omega))) oX1_isOut kX8_173 ⟨_, rfl, rfl⟩ (at_b hB (by omega)) ⟨by decide, by decide⟩ rfl (Nat.le_of_ble_eq_true rfl) ⟨by decide, by decide⟩ dX8_line_77 ?_
  rintro _ _ - ⟨rfl, rfl⟩
  refine j_ifeqb C dX8_line_80 (fun hc80 => ?_) (fun hc80 => ?_)
  · -- 80 T
    have ho1 : sB σ k 2 = 1 := by omega
    have hlc := crewL_8 hWI (b := k) (by omega)
    have hlt := crewL_top (s := σ) (b := (k : Int)) 10 (by omega)
    refine j_aload0 C dX8_line_83 ?_
    refine j_getr C fX8_60 at_0 rfl hR5.2.2.2.2.2.2.2.2.1 dX8_line_84 ?_
    refine j_bipush C (by decide) dX8_line_87 ?_
    refine j_cVE1 C (c_J4_append_cf468 hR5 hB5.1 hB5.2.1 (by simp [preL]) (c9 := 58) (by decide)) oJ4_append_cf468 kX8_323 ⟨_, rfl, rfl⟩ at_73 ⟨by decide, by decide⟩ rfl (Nat.le_of_ble_eq_true rfl) ⟨by decide, by decide⟩ dX8_line_89 ?_
    rintro b9 W6 ⟨rfl, hW6⟩
    have hB6 : SBH W6 (preL σ k) := by rw [hW6]; exact hB5.put (by decide)
    have hK6 : KL ω W6 := by rw [hW6]; exact hK5.put _ _
    have hR6 := hK6.cr hR
    have hS6 := hK6.st hS hcc (by omega)
    refine j_pop C rfl dX8_line_92 ?_
    refine j_aload0 C dX8_line_93 ?_
    refine j_aload0 C dX8_line_94 ?_
    refine j_getr C fX8_12 at_0 rfl hR6.1 dX8_line_95 ?_
    refine j_iload1 C dX8_line_98 ?_
    refine j_cVI1 C (c_X7_membersAt hB (by exact hS6) (by exact hI) (by exact hWI) ⟨by omega, by omega⟩) oX7_membersAt kX8_186 ⟨_, rfl, rfl⟩ (at_st bs1) ⟨by decide, by decide⟩ rfl (Nat.le_of_ble_eq_true rfl) ⟨by decide, by decide⟩ dX8_line_99 ?_
    rintro _ _ hz99 ⟨rfl, rfl⟩
    rw [atUp_crew hI hWI (by omega) (cM σ) (Nat.le_refl _)] at hz99 ⊢
    refine j_aload2 C dX8_line_102 ?_
    refine j_geti C fX8_180 (at_b hB (by omega)) rfl (hS6.b2 k (by omega)) dX8_line_103 (fun hr103 => ?_)
    refine j_cVV2 C (c_X8_writeCrew hR6 hB6 (σ := σ) (b := (k : Int)) (x := crewO σ k) rfl (by have := crewO_lt hI (k : Int); omega) rfl ⟨by omega, by omega⟩ (fun j hj => (crewUp_b1 σ k (cM σ) j).mpr (by obtain ⟨g1, g2, g3, g4⟩ := gwb.1 ho1; rw [hj] at g2 g3 g4; exact ⟨by omega, g3, g4⟩)) (by rw [hlt]; show 6 + _ ≤ 16; omega)) oX8_writeCrew kX8_326 ⟨_, rfl, rfl⟩ at_0 ⟨by decide, by decide⟩ rfl (Nat.le_of_ble_eq_true rfl) ⟨by decide, by decide⟩ dX8_line_106 ?_
    rintro W7 ⟨hB7, hKL7⟩
    rw [hlt] at hB7
    have hK7 := hK6.tr hKL7
    have hR7 := hK7.cr hR
    have hl7 : (preL σ k ++ crewL σ k (cM σ)).length < 14 := by rw [List.length_append]; show 6 + _ < 14; omega
    refine j_aload0 C dX8_line_109 ?_
    refine j_getr C fX8_60 at_0 rfl hR7.2.2.2.2.2.2.2.2.1 dX8_line_110 ?_
    refine j_bipush C (by decide) dX8_line_113 ?_
    refine j_cVE1 C (c_J4_append_cf468 hR7 hB7.1 hB7.2.1 (by omega) (c9 := 43) (by decide)) oJ4_append_cf468 kX8_323 ⟨_, rfl, rfl⟩ at_73 ⟨by decide, by decide⟩ rfl (Nat.le_of_ble_eq_true rfl) ⟨by decide, by decide⟩ dX8_line_115 ?_
    rintro b9 W8 ⟨rfl, hW8⟩
    have hB8 : SBH W8 (preL σ k ++ crewL σ k (cM σ) ++ [43]) := by rw [hW8]; exact hB7.put (by decide)
    have hK8 : KL ω W8 := by rw [hW8]; exact hK7.put _ _
    have hR8 := hK8.cr hR
    have hS8 := hK8.st hS hcc (by omega)
    refine j_pop C rfl dX8_line_118 ?_
    refine j_aload0 C dX8_line_119 ?_
    refine j_getr C fX8_60 at_0 rfl hR8.2.2.2.2.2.2.2.2.1 dX8_line_120 ?_
    refine j_aload2 C dX8_line_123 ?_
    refine j_geti C fX8_174 (at_b hB (by omega)) rfl ((hS8.b3 k (by omega)).trans hhl) dX8_line_124 (fun hr124 => ?_)
    refine j_cVE1 C (c_J4_append_bf812 hR8 hB8.1 hB8.2.1 (by rw [List.length_append]; show _ + 1 < 16; omega) (v9 := hl) (by omega)) oJ4_append_bf812 kX8_319 ⟨_, rfl, rfl⟩ at_73 ⟨by decide, by decide⟩ rfl (Nat.le_of_ble_eq_true rfl) ⟨by decide, by decide⟩ dX8_line_127 ?_
    rintro b9 W9 ⟨rfl, hW9⟩
    have hB9 : SBH W9 (lineL σ k) := by rw [hW9, ← lineL_out ho1, hhl]; exact hB8.putn (by omega)
    have hK9 : KL ω W9 := by rw [hW9]; exact hK8.put _ _
    have hR9 := hK9.cr hR
    refine j_pop C rfl dX8_line_130 ?_
    refine j_aload0 C dX8_line_131 ?_
    refine j_getr C fX8_60 at_0 rfl hR9.2.2.2.2.2.2.2.2.1 dX8_line_132 ?_
    refine j_cVI0 C (c_J4_length_8abf5 hB9.2.1) oJ4_length_8abf5 kX8_329 ⟨_, rfl, rfl⟩ at_73 ⟨by decide, by decide⟩ rfl (Nat.le_of_ble_eq_true rfl) ⟨by decide, by decide⟩ dX8_line_135 ?_
    rintro _ _ hz135 ⟨rfl, rfl⟩
    refine j_xr (by decide) ?_
    refine j_iret C hrt dX8_line_138 ⟨by omega, by omega⟩ ?_
    exact ⟨hc2, rfl, hB9, hK9⟩
  · -- 80 F
    have ho0 : sB σ k 2 ≠ 1 := by omega
    have hB9 : SBH W5 (lineL σ k) := by rw [← lineL_in ho0]; exact hB5
    have hK9 := hK5
    refine j_aload0 C dX8_line_131 ?_
    refine j_getr C fX8_60 at_0 rfl hR5.2.2.2.2.2.2.2.2.1 dX8_line_132 ?_
    refine j_cVI0 C (c_J4_length_8abf5 hB9.2.1) oJ4_length_8abf5 kX8_329 ⟨_, rfl, rfl⟩ at_73 ⟨by decide, by decide⟩ rfl (Nat.le_of_ble_eq_true rfl) ⟨by decide, by decide⟩ dX8_line_135 ?_
    rintro _ _ hz135 ⟨rfl, rfl⟩
    refine j_xr (by decide) ?_
    refine j_iret C hrt dX8_line_138 ⟨by omega, by omega⟩ ?_
    exact ⟨hc2, rfl, hB9, hK9⟩
set_option maxRecDepth 100000 in
set_option maxHeartbeats 4000000 in
theorem c_X8_character {Γ : Ga} {l : Launch} {ω : Wo} (hsl : l.stackTraces = false) (hR : CR ω) {σ : Row} (hS : St ω 1 σ) {M : Int} (hI : RI M σ) (hWI : WI σ)  {a : Int} (ha : Rg a) {l0 : List Int} (hSB : SBH ω l0) (hl16 : l0.length ≤ 16) : XI Γ l yX8_character cX8_character 2 .char 6 1 [.ref (rl Γ 0), .int (iI a)] ω (fun z ω' => (0 ≤ a ∧ a < (l0.length : Int)) ∧ z = ω.1 74 a.toNat ∧ ω = ω') (fun E ω' => ω = ω' ∧ E = eIdx ∧ ¬ (0 ≤ a ∧ a < (l0.length : Int))) := by
  refine MetX.ofJ (k := 0) [some (.ref (rl Γ 0)), some (.int (iI a))] (by decide) rfl rfl rfl (fun p e s mm args below meth c C hK2 hxt hrt => ?_)
  have hB := bs1
  have g := hI.s
  have gc := hI.c
  have gM := hI.2.1
  refine j_iload1 C dX8_character_0 ?_
  refine j_if_lt C ⟨by omega, by omega⟩ dX8_character_1 (fun hc1 => ?_) (fun hc1 => ?_)
  · -- 1 T
    refine j_throwW hsl C hK2 hxt th_116 (List.mem_of_getElem? (i := 16) rfl) rfl dX8_character_15 dX8_character_18 dX8_character_19 dX8_character_22 dX8_character_25 (by decide) (Nat.le_of_ble_eq_true rfl) ⟨by decide, by decide⟩ ⟨by decide, by decide⟩ ?_
    exact ⟨rfl, rfl, by omega⟩
  · -- 1 F
    refine j_iload1 C dX8_character_4 ?_
    refine j_aload0 C dX8_character_5 ?_
    refine j_getr C fX8_60 at_0 rfl hR.2.2.2.2.2.2.2.2.1 dX8_character_6 ?_
    refine j_cVI0 C (c_J4_length_8abf5 hSB.2.1) oJ4_length_8abf5 kX8_329 ⟨_, rfl, rfl⟩ at_73 ⟨by decide, by decide⟩ rfl (Nat.le_of_ble_eq_true rfl) ⟨by decide, by decide⟩ dX8_character_9 ?_
    rintro _ _ hz9 ⟨rfl, rfl⟩
    refine j_icmp_lt C ⟨by omega, by omega⟩ ⟨by omega, by omega⟩ dX8_character_12 (fun hc12 => ?_) (fun hc12 => ?_)
    · -- 12 T
      obtain ⟨i, rfl⟩ := Int.eq_ofNat_of_zero_le (show 0 ≤ a by omega)
      have hil : i < l0.length := by omega
      have hiv := hSB.2.2.1 i (l0[i]) (List.getElem?_eq_getElem hil)
      have hir := hSB.2.2.2 _ (List.getElem_mem hil)
      obtain ⟨c9, hc9⟩ := Int.eq_ofNat_of_zero_le hir.1
      refine j_aload0 C dX8_character_26 ?_
      refine j_getr C fX8_60 at_0 rfl hR.2.2.2.2.2.2.2.2.1 dX8_character_27 ?_
      refine j_iload1 C dX8_character_30 ?_
      refine j_cVI1 C (c_J4_charAt_5068e hR hSB.1 hSB.2.1 hl16 hil (c9 := c9) (by omega) (hiv.trans hc9)) oJ4_charAt_5068e kX8_333 ⟨_, rfl, rfl⟩ at_73 ⟨by decide, by decide⟩ rfl (Nat.le_of_ble_eq_true rfl) ⟨by decide, by decide⟩ dX8_character_31 ?_
      rintro _ _ hz31 ⟨rfl, rfl⟩
      refine j_xr (by decide) ?_
      refine j_cret C hrt dX8_character_34 ⟨by omega, by omega⟩ ?_
      exact ⟨by omega, by rw [Int.toNat_natCast]; exact (hiv.trans hc9).symm, rfl⟩
    · -- 12 F
      refine j_throwW hsl C hK2 hxt th_116 (List.mem_of_getElem? (i := 16) rfl) rfl dX8_character_15 dX8_character_18 dX8_character_19 dX8_character_22 dX8_character_25 (by decide) (Nat.le_of_ble_eq_true rfl) ⟨by decide, by decide⟩ ⟨by decide, by decide⟩ ?_
      exact ⟨rfl, rfl, by omega⟩
