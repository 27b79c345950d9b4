set_option maxRecDepth 100000 in
set_option maxHeartbeats 4000000 in
theorem c_X7_bringIn {Γ : Ga} {l : Launch} {ω : Wo} {B : Nat} (hB : Bs B) {σ : Row} (hS : St ω B σ) {M : Int} (hI : RI M σ) (hWI : WI σ) (hM : M + 10 ≤ 100000000)  {b : Nat} (hb : b < cB σ) : CV Γ l yX7_bringIn cX7_bringIn 3 0 [.ref (rl Γ B), .int (iI ((b : Int)))] ω (fun ω' => Fr B ω ω' ∧ St ω' B (comeIn σ b)) := by
  refine Met.ofJ (k := 1) [some (.ref (rl Γ B)), some (.int (iI ((b : Int)))), none] (by decide) rfl rfl rfl (fun p e s mm args below meth c C hrt => ?_)
  have g := hI.s
  have gc := hI.c
  have gM := hI.2.1
  refine j_iconst C dX7_bringIn_0 ?_
  refine j_istore2 C rfl dX7_bringIn_1 ?_
  have loop2 : ∀ (N : Nat) (k : Nat) (W : Wo), (cM σ - k) < N → (k ≤ cM σ) → (St W B (inUp σ b k)) → (Fr B ω W) → J Γ p l e (rmk 0 0 0) s mm args below meth c (MQ below (QV Γ (fun ω' => Fr B ω ω' ∧ St ω' B (comeIn σ b))) args s 0 0 (gA Γ)) 243 0 0 2 [some (.ref (rl Γ B)), some (.int (iI ((b : Nat) : Int))), some (.int (iI ((k : Nat) : Int)))] [] W := by
    intro N
    induction N with
    | zero => intro k W hN; exact absurd hN (Nat.not_lt_zero _)
    | succ N ih2 =>
      intro k W hN hk0 hSW hFW
      have hIk := inUp_RI hI (b := (b : Int)) k (by omega)
      have ekM : cM (inUp σ b k) = cM σ := cM_e (inUp_at k 1 (fun j _ => by omega))
      have ekB : cB (inUp σ b k) = cB σ := cB_e (inUp_at k 2 (fun j _ => by omega))
      have ek1 : inUp σ b k 1 = σ 1 := inUp_at k 1 (fun j _ => by omega)
      have hcc := hIk.cc
      have iv := inUp_v (s := σ) (b := (b : Int)) k k
      rw [if_neg (by omega), if_neg (by omega)] at iv
      have ep : plc (inUp σ b k) k = plc σ k := plc_e iv.1 iv.2
      have gw := fun h : k < cM σ => plc_w hI hWI (k := k) h
      have ek5 : inUp σ b k 5 = σ 5 := inUp_at k 5 (fun j _ => by omega)
      refine j_iload2 C dX7_bringIn_2 ?_
      refine j_aload0 C dX7_bringIn_3 ?_
      refine j_geti C fX7_29 (at_st hB) rfl hSW.c3 dX7_bringIn_4 (fun hr4 => ?_)
      refine j_icmp_ge C ⟨by omega, by omega⟩ ⟨by omega, by omega⟩ dX7_bringIn_7 (fun hc7 => ?_) (fun hc7 => ?_)
      · -- 7 T
        have hk9 : k = cM σ := by omega
        subst hk9
        refine j_aload0 C dX7_bringIn_39 ?_
        refine j_getr C fX7_19 (at_st hB) rfl hSW.r.a1 dX7_bringIn_40 ?_
        refine j_iload1 C dX7_bringIn_43 ?_
        refine j_aald C (at_bA hB) rfl (Cn := RX1) rfl (N := 3) rfl (by decide) ⟨by omega, by omega⟩ (hSW.r.b b (by omega)) dX7_bringIn_44 ?_
        refine j_iconst C dX7_bringIn_45 ?_
        refine j_putb2 C fX7_158 hB hSW (k := b) (by omega) (by omega) ⟨by omega, by omega⟩ dX7_bringIn_46 (fun W1 hS1 hF1 hK1 => ?_)
        refine j_aload0 C dX7_bringIn_49 ?_
        refine j_dup C rfl dX7_bringIn_50 ?_
        refine j_geti C fX7_48 (at_st hB) rfl hS1.c9 dX7_bringIn_51 (fun hr51 => ?_)
        rw [up_ne _ _ (by omega)] at hr51 ⊢
        refine j_iconst C dX7_bringIn_54 ?_
        refine j_iadd C dX7_bringIn_55 ?_
        refine j_putc9 C fX7_48 hB hS1 (by omega) ⟨by omega, by omega⟩ dX7_bringIn_56 (fun W2 hS2 hF2 hK2 => ?_)
        refine j_vret C hrt dX7_bringIn_59 ?_
        refine ⟨hFW.tr (hF1.tr hF2), hS2.irr (fun y hy => ?_) (by omega)⟩
        rw [comeIn_irr (by omega) hy, up_ne _ _ (show 5 ≠ 78 + 7 * b + 5 by omega)]
      · -- 7 F
        refine j_aload0 C dX7_bringIn_10 ?_
        refine j_getr C fX7_11 (at_st hB) rfl hSW.r.a0 dX7_bringIn_11 ?_
        refine j_iload2 C dX7_bringIn_14 ?_
        refine j_aald C (at_mA hB) rfl (Cn := RX4) rfl (N := 10) rfl (by decide) ⟨by omega, by omega⟩ (hSW.r.m k (by omega)) dX7_bringIn_15 ?_
        refine j_geti C fX7_84 (at_m hB (by omega)) rfl (hSW.m1 k (by omega)) dX7_bringIn_16 (fun hr16 => ?_)
        refine j_iload1 C dX7_bringIn_19 ?_
        refine j_icmp_ne C ⟨by omega, by omega⟩ ⟨by omega, by omega⟩ dX7_bringIn_20 (fun hc20 => ?_) (fun hc20 => ?_)
        · -- 20 T
          have gw1 := gw (by omega)
          refine j_iinc2n C rfl dX7_bringIn_33 ?_
          refine j_goto C dX7_bringIn_36 ?_
          first
          | exact j_fg (ih2 (k + 1) W (by omega) (by omega) (by have e : inUp σ b (k + 1) = inUp σ b k := if_neg (by omega); rw [e]; exact hSW) hFW) ⟨Or.inr rfl, Or.inr rfl, Or.inr rfl, trivial⟩ rfl
        · -- 20 F
          have gw1 := gw (by omega)
          refine j_aload0 C dX7_bringIn_23 ?_
          refine j_getr C fX7_11 (at_st hB) rfl hSW.r.a0 dX7_bringIn_24 ?_
          refine j_iload2 C dX7_bringIn_27 ?_
          refine j_aald C (at_mA hB) rfl (Cn := RX4) rfl (N := 10) rfl (by decide) ⟨by omega, by omega⟩ (hSW.r.m k (by omega)) dX7_bringIn_28 ?_
          refine j_iconst C dX7_bringIn_29 ?_
          have gw1 := gw (by omega)
          refine j_putm1 C fX7_84 hB hSW (k := k) (by omega) (by omega) (t' := up (up (inUp σ b k) (8 + 7 * k + 1) 0) (8 + 7 * k + 3) (-1)) (fun y h1 h3 => by rw [up_ne _ _ h3, up_ne _ _ h1]) (by unfold plc; rw [sM_up (by omega), sM_ue (by omega)]; rfl) ⟨by omega, by omega⟩ dX7_bringIn_30 (fun W3 hS3 hF3 hK3 => ?_)
          refine j_iinc2n C rfl dX7_bringIn_33 ?_
          refine j_goto C dX7_bringIn_36 ?_
          first
          | exact j_fg (ih2 (k + 1) W3 (by omega) (by omega) (by have e : inUp σ b (k + 1) = up (up (inUp σ b k) (8 + 7 * k + 1) 0) (8 + 7 * k + 3) (-1) := if_pos (by omega); rw [e]; exact hS3) (hFW.tr hF3)) ⟨Or.inr rfl, Or.inr rfl, Or.inr rfl, trivial⟩ rfl
          | exact j_fg (ih2 (k + 1) W (by omega) (by omega) (by have e : inUp σ b (k + 1) = inUp σ b k := if_neg (by omega); rw [e]; exact hSW) hFW) ⟨Or.inr rfl, Or.inr rfl, Or.inr rfl, trivial⟩ rfl
  exact j_fg (loop2 _ 0 ω (Nat.lt_succ_self _) (Nat.zero_le _) hS Fr.rf) ⟨Or.inr rfl, Or.inr rfl, Or.inr rfl, trivial⟩ rfl
set_option maxRecDepth 100000 in
set_option maxHeartbeats 4000000 in
theorem c_X7_sailBoat {Γ : Ga} {l : Launch} {ω : Wo} {B : Nat} (hB : Bs B) {σ : Row} (hS : St ω B σ) {M : Int} (hI : RI M σ) (hWI : WI σ) (hM : M + 10 ≤ 100000000)  {b : Nat} (hb : b < cB σ) (ho : sB σ b 2 ≠ 0) : CV Γ l yX7_sailBoat cX7_sailBoat 3 1 [.ref (rl Γ B), .int (iI ((b : Int)))] ω (fun ω' => Fr B ω ω' ∧ St ω' B (boatGo σ b)) := by
  refine Met.ofJ (k := 1) [some (.ref (rl Γ B)), some (.int (iI ((b : Int)))), none] (by decide) rfl rfl rfl (fun p e s mm args below meth c C hrt => ?_)
  have g := hI.s
  have gc := hI.c
  have gM := hI.2.1
  have gb := hI.b b (by omega)
  have gwb := hWI.2.2.2 b hb
  have hcc := hI.cc
  have gh := hgt_rg (σ 0)
  have hI1 : RI M (up σ (78 + 7 * b + 3) (max 0 (sB σ b 3 - 1))) := by rw [← tB3]; exact RI.sb3 hI (by omega) (by omega)
  have hW1 : WI (up σ (78 + 7 * b + 3) (max 0 (sB σ b 3 - 1))) := WI_up hI hWI (by omega)
  have hcc1 := hI1.cc
  have eB1 : cB (up σ (78 + 7 * b + 3) (max 0 (sB σ b 3 - 1))) = cB σ := cB_e (up_ne _ _ (by omega))
  have e3 : sB (up σ (78 + 7 * b + 3) (max 0 (sB σ b 3 - 1))) b 3 = max 0 (sB σ b 3 - 1) := sB_ue (by omega)
  have e0 : (up σ (78 + 7 * b + 3) (max 0 (sB σ b 3 - 1))) 0 = σ 0 := up_ne _ _ (by omega)
  have eh : hgt ((up σ (78 + 7 * b + 3) (max 0 (sB σ b 3 - 1))) 0) = hgt (σ 0) := by rw [e0]
  have ed : sB (up σ (78 + 7 * b + 3) (max 0 (sB σ b 3 - 1))) b 0 = sB σ b 0 := sB_up (by omega)
  have ew : sB (up σ (78 + 7 * b + 3) (max 0 (sB σ b 3 - 1))) b 4 = sB σ b 4 := sB_up (by omega)
  refine j_aload0 C dX7_sailBoat_0 ?_
  refine j_getr C fX7_19 (at_st hB) rfl hS.r.a1 dX7_sailBoat_1 ?_
  refine j_iload1 C dX7_sailBoat_4 ?_
  refine j_aald C (at_bA hB) rfl (Cn := RX1) rfl (N := 3) rfl (by decide) ⟨by omega, by omega⟩ (hS.r.b b (by omega)) dX7_sailBoat_5 ?_
  refine j_astore2 C rfl dX7_sailBoat_6 ?_
  refine j_aload2 C dX7_sailBoat_7 ?_
  refine j_geti C fX7_161 (at_b hB (by omega)) rfl (hS.b3 b (by omega)) dX7_sailBoat_8 (fun hr8 => ?_)
  refine j_if_le C ⟨by omega, by omega⟩ dX7_sailBoat_11 (fun hc11 => ?_) (fun hc11 => ?_)
  · -- 11 T
    obtain ⟨W0, hS0, hF0⟩ : ∃ W0, St W0 B (up σ (78 + 7 * b + 3) (max 0 (sB σ b 3 - 1))) ∧ W0 = ω := ⟨ω, (by rw [show max 0 (sB σ b 3 - 1) = sB σ b 3 by omega, show up σ (78 + 7 * b + 3) (sB σ b 3) = σ from up_id' (by rw [eB3])]; exact hS), rfl⟩
    subst hF0
    have hF0 : Fr B W0 W0 := Fr.rf
    refine j_aload2 C dX7_sailBoat_24 ?_
    refine j_geti C fX7_161 (at_b hB (by omega)) rfl (hS0.b3 b (by omega)) dX7_sailBoat_25 (fun hr25 => ?_)
    rw [e3] at hr25 ⊢
    refine j_if_le C ⟨by omega, by omega⟩ dX7_sailBoat_28 (fun hc28 => ?_) (fun hc28 => ?_)
    · -- 28 T
      refine j_aload0 C dX7_sailBoat_32 ?_
      refine j_geti C fX7_39 (at_st hB) rfl hS0.c6 dX7_sailBoat_33 (fun hr33 => ?_)
      rw [e0] at hr33 ⊢
      refine j_cNI1 (host := RX8) C (c_X8_heightAt (by omega)) oX8_heightAt (List.mem_of_getElem? (i := 5) rfl) ⟨by decide, by decide⟩ rfl (Nat.le_of_ble_eq_true rfl) ⟨by decide, by decide⟩ dX7_sailBoat_36 ?_
      rintro _ _ hz36 ⟨rfl, rfl⟩
      refine j_aload2 C dX7_sailBoat_39 ?_
      refine j_geti C fX7_120 (at_b hB (by omega)) rfl (hS0.b0 b (by omega)) dX7_sailBoat_40 (fun hr40 => ?_)
      rw [ed] at hr40 ⊢
      refine j_icmp_lt C ⟨by omega, by omega⟩ ⟨by omega, by omega⟩ dX7_sailBoat_43 (fun hc43 => ?_) (fun hc43 => ?_)
      · -- 43 T
        refine j_aload2 C dX7_sailBoat_54 ?_
        refine j_dup C rfl dX7_sailBoat_55 ?_
        refine j_geti C fX7_196 (at_b hB (by omega)) rfl (hS0.b4 b (by omega)) dX7_sailBoat_56 (fun hr56 => ?_)
        rw [ew] at hr56 ⊢
        refine j_iconst C dX7_sailBoat_59 ?_
        refine j_iadd C dX7_sailBoat_60 ?_
        refine j_putb4 C fX7_196 hB hS0 (k := b) (by omega) (by omega) ⟨by omega, by omega⟩ dX7_sailBoat_61 (fun W1 hS1 hF1 hK1 => ?_)
        refine j_vret C hrt dX7_sailBoat_64 ?_
        first | exact ⟨hF0, by rw [boatGo_t ho rfl, if_pos (by omega)]; exact hS1⟩ | exact ⟨hF0.tr hF1, by rw [boatGo_t ho rfl, if_neg (by omega), if_neg (by omega)]; exact hS1⟩ | exact ⟨hF0.tr hF1, by rw [boatGo_t ho rfl, if_neg (by omega), if_pos (by omega)]; rw [ew]; exact hS1⟩ | (exfalso; omega)
      · -- 43 F
        refine j_aload0 C dX7_sailBoat_46 ?_
        refine j_iload1 C dX7_sailBoat_47 ?_
        refine j_cVV1 C (c_X7_bringIn hB (by exact hS0) (by exact hI1) (by exact hW1) (by omega) (by omega)) oX7_bringIn kX7_193 ⟨_, rfl, rfl⟩ (at_st hB) ⟨by decide, by decide⟩ rfl (Nat.le_of_ble_eq_true rfl) ⟨by decide, by decide⟩ dX7_sailBoat_48 ?_
        rintro W9 ⟨hF9, hS9⟩
        refine j_goto C dX7_sailBoat_51 ?_
        refine j_vret C hrt dX7_sailBoat_64 ?_
        first | exact ⟨hF0, by rw [boatGo_t ho rfl, if_pos (by omega)]; exact hS9⟩ | exact ⟨hF0.tr hF9, by rw [boatGo_t ho rfl, if_neg (by omega), if_neg (by omega)]; exact hS9⟩ | exact ⟨hF0.tr hF9, by rw [boatGo_t ho rfl, if_neg (by omega), if_pos (by omega)]; rw [ew]; exact hS9⟩ | (exfalso; omega)
    · -- 28 F
      refine j_vret C hrt dX7_sailBoat_31 ?_
      first | exact ⟨hF0, by rw [boatGo_t ho rfl, if_pos (by omega)]; exact hS0⟩ | exact ⟨hF0.tr hF0, by rw [boatGo_t ho rfl, if_neg (by omega), if_neg (by omega)]; exact hS0⟩ | exact ⟨hF0.tr hF0, by rw [boatGo_t ho rfl, if_neg (by omega), if_pos (by omega)]; rw [ew]; exact hS0⟩ | (exfalso; omega)
  · -- 11 F
    refine j_aload2 C dX7_sailBoat_14 ?_
    refine j_dup C rfl dX7_sailBoat_15 ?_
    refine j_geti C fX7_161 (at_b hB (by omega)) rfl (hS.b3 b (by omega)) dX7_sailBoat_16 (fun hr16 => ?_)
    refine j_iconst C dX7_sailBoat_19 ?_
    refine j_isub C dX7_sailBoat_20 ?_
    refine j_putb3 C fX7_161 hB hS (k := b) (by omega) (by omega) ⟨by omega, by omega⟩ dX7_sailBoat_21 (fun W2 hS2 hF2 hK2 => ?_)
    rw [show sB σ b 3 - 1 = max 0 (sB σ b 3 - 1) by omega] at hS2
    have hF0 := hF2
    refine j_aload2 C dX7_sailBoat_24 ?_
    refine j_geti C fX7_161 (at_b hB (by omega)) rfl (hS2.b3 b (by omega)) dX7_sailBoat_25 (fun hr25 => ?_)
    rw [e3] at hr25 ⊢
    refine j_if_le C ⟨by omega, by omega⟩ dX7_sailBoat_28 (fun hc28 => ?_) (fun hc28 => ?_)
    · -- 28 T
      refine j_aload0 C dX7_sailBoat_32 ?_
      refine j_geti C fX7_39 (at_st hB) rfl hS2.c6 dX7_sailBoat_33 (fun hr33 => ?_)
      rw [e0] at hr33 ⊢
      refine j_cNI1 (host := RX8) C (c_X8_heightAt (by omega)) oX8_heightAt (List.mem_of_getElem? (i := 5) rfl) ⟨by decide, by decide⟩ rfl (Nat.le_of_ble_eq_true rfl) ⟨by decide, by decide⟩ dX7_sailBoat_36 ?_
      rintro _ _ hz36 ⟨rfl, rfl⟩
      refine j_aload2 C dX7_sailBoat_39 ?_
      refine j_geti C fX7_120 (at_b hB (by omega)) rfl (hS2.b0 b (by omega)) dX7_sailBoat_40 (fun hr40 => ?_)
      rw [ed] at hr40 ⊢
      refine j_icmp_lt C ⟨by omega, by omega⟩ ⟨by omega, by omega⟩ dX7_sailBoat_43 (fun hc43 => ?_) (fun hc43 => ?_)
      · -- 43 T
        refine j_aload2 C dX7_sailBoat_54 ?_
        refine j_dup C rfl dX7_sailBoat_55 ?_
        refine j_geti C fX7_196 (at_b hB (by omega)) rfl (hS2.b4 b (by omega)) dX7_sailBoat_56 (fun hr56 => ?_)
        rw [ew] at hr56 ⊢
        refine j_iconst C dX7_sailBoat_59 ?_
        refine j_iadd C dX7_sailBoat_60 ?_
        refine j_putb4 C fX7_196 hB hS2 (k := b) (by omega) (by omega) ⟨by omega, by omega⟩ dX7_sailBoat_61 (fun W3 hS3 hF3 hK3 => ?_)
        refine j_vret C hrt dX7_sailBoat_64 ?_
        first | exact ⟨hF0, by rw [boatGo_t ho rfl, if_pos (by omega)]; exact hS3⟩ | exact ⟨hF0.tr hF3, by rw [boatGo_t ho rfl, if_neg (by omega), if_neg (by omega)]; exact hS3⟩ | exact ⟨hF0.tr hF3, by rw [boatGo_t ho rfl, if_neg (by omega), if_pos (by omega)]; rw [ew]; exact hS3⟩ | (exfalso; omega)
      · -- 43 F
        refine j_aload0 C dX7_sailBoat_46 ?_
        refine j_iload1 C dX7_sailBoat_47 ?_
        refine j_cVV1 C (c_X7_bringIn hB (by exact hS2) (by exact hI1) (by exact hW1) (by omega) (by omega)) oX7_bringIn kX7_193 ⟨_, rfl, rfl⟩ (at_st hB) ⟨by decide, by decide⟩ rfl (Nat.le_of_ble_eq_true rfl) ⟨by decide, by decide⟩ dX7_sailBoat_48 ?_
        rintro W9 ⟨hF9, hS9⟩
        refine j_goto C dX7_sailBoat_51 ?_
        refine j_vret C hrt dX7_sailBoat_64 ?_
        first | exact ⟨hF0, by rw [boatGo_t ho rfl, if_pos (by omega)]; exact hS9⟩ | exact ⟨hF0.tr hF9, by rw [boatGo_t ho rfl, if_neg (by omega), if_neg (by omega)]; exact hS9⟩ | exact ⟨hF0.tr hF9, by rw [boatGo_t ho rfl, if_neg (by omega), if_pos (by omega)]; rw [ew]; exact hS9⟩ | (exfalso; omega)
    · -- 28 F
      refine j_vret C hrt dX7_sailBoat_31 ?_
      first | exact ⟨hF0, by rw [boatGo_t ho rfl, if_pos (by omega)]; exact hS2⟩ | exact ⟨hF0.tr hF2, by rw [boatGo_t ho rfl, if_neg (by omega), if_neg (by omega)]; exact hS2⟩ | exact ⟨hF0.tr hF2, by rw [boatGo_t ho rfl, if_neg (by omega), if_pos (by omega)]; rw [ew]; exact hS2⟩ | (exfalso; omega)
set_option maxRecDepth 100000 in
set_option maxHeartbeats 4000000 in
theorem c_X7_sailBoats {Γ : Ga} {l : Launch} {ω : Wo} {B : Nat} (hB : Bs B) {σ : Row} (hS : St ω B σ) {M : Int} (hI : RI M σ) (hWI : WI σ) (hM : M + 100 ≤ 100000000)   : CV Γ l yX7_sailBoats cX7_sailBoats 2 2 [.ref (rl Γ B)] ω (fun ω' => Fr B ω ω' ∧ St ω' B (boatsUp σ (cB σ))) := by
  refine Met.ofJ (k := 1) [some (.ref (rl Γ B)), none] (by decide) rfl rfl rfl (fun p e s mm args below meth c C hrt => ?_)
  have g := hI.s
  have gc := hI.c
  have gM := hI.2.1
  refine j_iconst C dX7_sailBoats_0 ?_
  refine j_istore1 C rfl dX7_sailBoats_1 ?_
  have loop2 : ∀ (N : Nat) (k : Nat) (W : Wo), (cB σ - k) < N → (k ≤ cB σ) → (St W B (boatsUp σ k)) → (Fr B ω W) → J Γ p l e (rmk 2 0 0) s mm args below meth c (MQ below (QV Γ (fun ω' => Fr B ω ω' ∧ St ω' B (boatsUp σ (cB σ)))) args s 0 0 (gA Γ)) 243 0 0 2 [some (.ref (rl Γ B)), some (.int (iI ((k : Nat) : Int)))] [] W := by
    intro N
    induction N with
    | zero => intro k W hN; exact absurd hN (Nat.not_lt_zero _)
    | succ N ih2 =>
      intro k W hN hk0 hSW hFW
      have hIk := boatsUp_RI hI k (by omega) (by omega)
      have hWk := WI_boats hI hWI k (by omega) (by omega)
      have ek2 : boatsUp σ k 2 = σ 2 := boatsUp_at gc.1.2 k 2 (by omega) (by omega)
      have ekB : cB (boatsUp σ k) = cB σ := cB_e ek2
      have hcc := hIk.cc
      have gbk := fun h : k < 3 => hIk.b k (by omega)
      have gwk := fun h : k < cB (boatsUp σ k) => hWk.2.2.2 k h
      refine j_iload1 C dX7_sailBoats_2 ?_
      refine j_aload0 C dX7_sailBoats_3 ?_
      refine j_geti C fX7_33 (at_st hB) rfl hSW.c4 dX7_sailBoats_4 (fun hr4 => ?_)
      refine j_icmp_ge C ⟨by omega, by omega⟩ ⟨by omega, by omega⟩ dX7_sailBoats_7 (fun hc7 => ?_) (fun hc7 => ?_)
      · -- 7 T
        refine j_vret C hrt dX7_sailBoats_33 ?_
        have : k = cB σ := by omega
        subst this
        exact ⟨hFW, hSW⟩
      · -- 7 F
        refine j_aload0 C dX7_sailBoats_10 ?_
        refine j_getr C fX7_19 (at_st hB) rfl hSW.r.a1 dX7_sailBoats_11 ?_
        refine j_iload1 C dX7_sailBoats_14 ?_
        refine j_aald C (at_bA hB) rfl (Cn := RX1) rfl (N := 3) rfl (by decide) ⟨by omega, by omega⟩ (hSW.r.b k (by omega)) dX7_sailBoats_15 ?_
        refine j_cVI0 C (c_X1_isOut (at_b hB (by omega)) (hSW.b2 k (by omega))) oX1_isOut kX7_116 ⟨_, rfl, rfl⟩ (at_b hB (by omega)) ⟨by decide, by decide⟩ rfl (Nat.le_of_ble_eq_true rfl) ⟨by decide, by decide⟩ dX7_sailBoats_16 ?_
        rintro _ _ hz16 ⟨rfl, rfl⟩
        refine j_ifeqb C dX7_sailBoats_19 (fun hc19 => ?_) (fun hc19 => ?_)
        · -- 19 T
          have gwk1 := gwk (by omega)
          have gbk1 := gbk (by omega)
          refine j_aload0 C dX7_sailBoats_22 ?_
          refine j_iload1 C dX7_sailBoats_23 ?_
          refine j_cVV1 C (c_X7_sailBoat hB (by exact hSW) (by exact hIk) (by exact hWk) (by omega) (by omega) (by omega)) oX7_sailBoat kX7_190 ⟨_, rfl, rfl⟩ (at_st hB) ⟨by decide, by decide⟩ rfl (Nat.le_of_ble_eq_true rfl) ⟨by decide, by decide⟩ dX7_sailBoats_24 ?_
          rintro W9 ⟨hF9, hS9⟩
          refine j_iinc1n C rfl dX7_sailBoats_27 ?_
          refine j_goto C dX7_sailBoats_30 ?_
          first
          | exact j_fg (ih2 (k + 1) W9 (by omega) (by omega) hS9 (hFW.tr hF9)) ⟨Or.inr rfl, Or.inr rfl, trivial⟩ rfl
          | exact j_fg (ih2 (k + 1) W (by omega) (by omega) (by have e : boatsUp σ (k + 1) = boatGo (boatsUp σ k) k := rfl; rw [e, boatGo_in (by omega)]; exact hSW) hFW) ⟨Or.inr rfl, Or.inr rfl, trivial⟩ rfl
        · -- 19 F
          have gwk1 := gwk (by omega)
          have gbk1 := gbk (by omega)
          refine j_iinc1n C rfl dX7_sailBoats_27 ?_
          refine j_goto C dX7_sailBoats_30 ?_
          first
          | exact j_fg (ih2 (k + 1) W (by omega) (by omega) (by have e : boatsUp σ (k + 1) = boatGo (boatsUp σ k) k := rfl; rw [e, boatGo_in (by omega)]; exact hSW) hFW) ⟨Or.inr rfl, Or.inr rfl, trivial⟩ rfl
  exact j_fg (loop2 _ 0 ω (Nat.lt_succ_self _) (Nat.zero_le _) hS Fr.rf) ⟨Or.inr rfl, Or.inr rfl, trivial⟩ rfl
