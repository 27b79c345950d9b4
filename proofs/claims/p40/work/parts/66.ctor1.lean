/-! the constructors -/
def ZN (ω : Wo) (n : Nat) : Prop := ∀ x, n ≤ x → ω.1 x = (fun _ => 0) ∧ ω.2.1 x = (fun _ => none)
theorem ZN.at {ω : Wo} {n x : Nat} (h : ZN ω n) (hx : n ≤ x) : ω.1 x = (fun _ => 0) ∧ ω.2.1 x = (fun _ => none) := h x hx
theorem ZN.mono {ω : Wo} {n n' : Nat} (h : ZN ω n) (hn : n ≤ n') : ZN ω n' := fun x hx => h x (Nat.le_trans hn hx)
theorem ZN.wr {ω : Wo} {n a i : Nat} {v : Option Nat} (h : ZN ω n) (ha : a < n) : ZN (wr ω a i v) n := fun x hx => ⟨(h x hx).1, (wr_ne (by omega)).trans (h x hx).2⟩
theorem ZN.wi {ω : Wo} {n a i : Nat} {v : Int} (h : ZN ω n) (ha : a < n) : ZN (wi ω a i v) n := fun x hx => ⟨(wi_ne (by omega)).trans (h x hx).1, (h x hx).2⟩
theorem wi_0 {ω : Wo} {a i : Nat} {v : Int} (h : ω.1 a i = v) : wi ω a i v = ω := by rw [wi_wf, up_id' h, wf_id]
def loopW (a b : Nat) : Nat → Wo → Wo
  | 0, ω => ω
  | k + 1, ω => wr (loopW a b k ω) a k (some (b + k))
theorem loopW_i (a b : Nat) (ω : Wo) : ∀ k, (loopW a b k ω).1 = ω.1 := by
  intro k; induction k with
  | zero => rfl
  | succ k ih => exact ih
theorem loopW_d (a b : Nat) (ω : Wo) : ∀ k, (loopW a b k ω).2.2 = ω.2.2 := by
  intro k; induction k with
  | zero => rfl
  | succ k ih => exact ih
theorem loopW_ne {a b x : Nat} {ω : Wo} (hx : x ≠ a) : ∀ k, (loopW a b k ω).2.1 x = ω.2.1 x := by
  intro k; induction k with
  | zero => rfl
  | succ k ih => exact (wr_ne hx).trans ih
theorem loopW_at {a b : Nat} {ω : Wo} : ∀ k j, j < k → (loopW a b k ω).2.1 a j = some (b + j) := by
  intro k; induction k with
  | zero => intro j h; omega
  | succ k ih =>
    intro j h
    by_cases e : j = k
    · subst e; show (if a = a then (if j = j then _ else _) else _) = _
      simp
    · show (if a = a then (if j = k then some (b + k) else (loopW a b k ω).2.1 a j) else _) = _
      rw [if_pos rfl, if_neg e]; exact ih j (by omega)
theorem ZN.loop {ω : Wo} {n a b : Nat} (h : ZN ω n) (ha : a < n) : ∀ k, ZN (loopW a b k ω) n := by
  intro k; induction k with
  | zero => exact h
  | succ k ih => exact ih.wr ha
theorem Hz.at {Γ : Ga} {s : State} {n n' c : Nat} (h : Hz Γ s n 0) (hn : n' = n + c) : Hz Γ s n' c := by
  obtain ⟨h1, h2, h3⟩ := h
  subst hn
  exact ⟨by omega, by omega, h3⟩
theorem j_cn {Γ : Ga} {p : Program} {l : Launch} {e : Env} {R : Room} {s : State} {m : MethodId} {args : Array Value} {below : List Frame} {meth : Method} {c : Code} {Q : State → Prop} {n ce sl n' ce' sl' pc : Nat} {L : List (Option Value)} {S : List Value} {ω : Wo} (h1 : n = n') (h2 : ce = ce') (h3 : sl = sl') (kx : J Γ p l e R s m args below meth c Q n' ce' sl' pc L S ω) : J Γ p l e R s m args below meth c Q n ce sl pc L S ω := by
  subst h1; subst h2; subst h3; exact kx
theorem iX8_init : Oi yX8_init cX8_init 2 := ⟨(WS_of 625 (by decide +kernel)), (WS_of 28 (by decide +kernel)), (WS_of 626 (by decide +kernel)), rfl, ⟨by decide +kernel, by decide +kernel, by decide +kernel⟩⟩
theorem iX7_init : Oi yX7_init cX7_init 2 := ⟨(WS_of 630 (by decide +kernel)), (WS_of 29 (by decide +kernel)), (WS_of 631 (by decide +kernel)), rfl, ⟨by decide +kernel, by decide +kernel, by decide +kernel⟩⟩
theorem iX4_init : Oi yX4_init cX4_init 1 := ⟨(WS_of 641 (by decide +kernel)), (WS_of 30 (by decide +kernel)), (WS_of 642 (by decide +kernel)), rfl, ⟨by decide +kernel, by decide +kernel, by decide +kernel⟩⟩
theorem iX1_init : Oi yX1_init cX1_init 1 := ⟨(WS_of 677 (by decide +kernel)), (WS_of 31 (by decide +kernel)), (WS_of 678 (by decide +kernel)), rfl, ⟨by decide +kernel, by decide +kernel, by decide +kernel⟩⟩
theorem iX3_init : Oi yX3_init cX3_init 1 := ⟨(WS_of 713 (by decide +kernel)), (WS_of 32 (by decide +kernel)), (WS_of 714 (by decide +kernel)), rfl, ⟨by decide +kernel, by decide +kernel, by decide +kernel⟩⟩
theorem iX5_init : Oi yX5_init cX5_init 1 := ⟨(WS_of 781 (by decide +kernel)), (WS_of 33 (by decide +kernel)), (WS_of 782 (by decide +kernel)), rfl, ⟨by decide +kernel, by decide +kernel, by decide +kernel⟩⟩
theorem iX6_init : Oi yX6_init cX6_init 1 := ⟨(WS_of 795 (by decide +kernel)), (WS_of 34 (by decide +kernel)), (WS_of 796 (by decide +kernel)), rfl, ⟨by decide +kernel, by decide +kernel, by decide +kernel⟩⟩
theorem iJ4_init_da8c8 : Oi yJ4_init_da8c8 cJ4_init_da8c8 1 := ⟨(WS_of 832 (by decide +kernel)), (WS_of 36 (by decide +kernel)), (WS_of 833 (by decide +kernel)), rfl, ⟨by decide +kernel, by decide +kernel, by decide +kernel⟩⟩
set_option maxRecDepth 100000 in
set_option maxHeartbeats 4000000 in
theorem c_X4_init {Γ : Ga} {l : Launch} {ω : Wo} {n a : Nat} : CN Γ l yX4_init cX4_init 1 1 0 0 [.ref (rl Γ a)] ω n (fun ω' => ω = ω') := by
  refine MetN.ofJ (k := 0) [some (.ref (rl Γ a))] (by decide) rfl rfl rfl rfl (fun p e s mm args below meth c C hin0 hAO hz hrt => ?_)
  refine j_aload0 C dX4_init_0 ?_
  refine j_obj C (WS_of 643 (by decide +kernel)) (by decide) rfl (Nat.le_of_ble_eq_true rfl) dX4_init_1 ?_
  exact j_nret C hrt dX4_init_4 rfl ⟨rfl, rfl⟩ rfl
set_option maxRecDepth 100000 in
set_option maxHeartbeats 4000000 in
theorem c_X1_init {Γ : Ga} {l : Launch} {ω : Wo} {n a : Nat} : CN Γ l yX1_init cX1_init 1 1 0 0 [.ref (rl Γ a)] ω n (fun ω' => ω = ω') := by
  refine MetN.ofJ (k := 0) [some (.ref (rl Γ a))] (by decide) rfl rfl rfl rfl (fun p e s mm args below meth c C hin0 hAO hz hrt => ?_)
  refine j_aload0 C dX1_init_0 ?_
  refine j_obj C (WS_of 679 (by decide +kernel)) (by decide) rfl (Nat.le_of_ble_eq_true rfl) dX1_init_1 ?_
  exact j_nret C hrt dX1_init_4 rfl ⟨rfl, rfl⟩ rfl
set_option maxRecDepth 100000 in
set_option maxHeartbeats 4000000 in
theorem c_X3_init {Γ : Ga} {l : Launch} {ω : Wo} {n a : Nat} : CN Γ l yX3_init cX3_init 1 1 0 0 [.ref (rl Γ a)] ω n (fun ω' => ω = ω') := by
  refine MetN.ofJ (k := 0) [some (.ref (rl Γ a))] (by decide) rfl rfl rfl rfl (fun p e s mm args below meth c C hin0 hAO hz hrt => ?_)
  refine j_aload0 C dX3_init_0 ?_
  refine j_obj C (WS_of 715 (by decide +kernel)) (by decide) rfl (Nat.le_of_ble_eq_true rfl) dX3_init_1 ?_
  exact j_nret C hrt dX3_init_4 rfl ⟨rfl, rfl⟩ rfl
set_option maxRecDepth 100000 in
set_option maxHeartbeats 4000000 in
theorem c_X5_init {Γ : Ga} {l : Launch} {ω : Wo} {n a : Nat} (ha : At n a 5) (h0 : ω.1 a = fun _ => 0) : CN Γ l yX5_init cX5_init 1 1 0 0 [.ref (rl Γ a)] ω n (fun ω' => ω = ω') := by
  have ha1 := ha.1
  have ha2 := ha.2.1
  refine MetN.ofJ (k := 0) [some (.ref (rl Γ a))] (by decide) rfl rfl rfl rfl (fun p e s mm args below meth c C hin0 hAO hz hrt => ?_)
  refine j_aload0 C dX5_init_0 ?_
  refine j_obj C (WS_of 783 (by decide +kernel)) (by decide) rfl (Nat.le_of_ble_eq_true rfl) dX5_init_1 ?_
  refine j_aload0 C dX5_init_4 ?_
  refine j_iconst C dX5_init_5 ?_
  refine j_putI C fX5_9 ⟨by omega, by omega, ha.2.2⟩ rfl ⟨_, rfl, by decide +kernel, rfl⟩ ⟨by decide, by decide⟩ dX5_init_6 ?_
  refine j_conv rfl rfl (wi_0 (congrFun h0 0)) ?_
  refine j_aload0 C dX5_init_9 ?_
  refine j_iconst C dX5_init_10 ?_
  refine j_putI C fX5_15 ⟨by omega, by omega, ha.2.2⟩ rfl ⟨_, rfl, by decide +kernel, rfl⟩ ⟨by decide, by decide⟩ dX5_init_11 ?_
  refine j_conv rfl rfl (wi_0 (congrFun h0 1)) ?_
  exact j_nret C hrt dX5_init_14 rfl ⟨rfl, rfl⟩ rfl
/-- the fields of a new station -/
def STB (ω : Wo) (B : Nat) : Wo := wi (wr (wr (wr ω B 0 (some (B + 1))) B 1 (some (B + 2))) B 2 (some (B + 3))) B 7 8
def STN (ω : Wo) (B : Nat) : Wo := loopW (B + 3) (B + 17) 4 (loopW (B + 2) (B + 14) 3 (loopW (B + 1) (B + 4) 10 (STB ω B)))
set_option maxRecDepth 100000 in
set_option maxHeartbeats 4000000 in
theorem c_X7_init {Γ : Ga} {l : Launch} {ω : Wo} {B : Nat} (hB : Bs B) (hZ0 : ZN ω B) : CN Γ l yX7_init cX7_init 2 2 20 107 [.ref (rl Γ B)] ω (B + 1) (fun ω' => ω' = STN ω B) := by
  refine MetN.ofJ (k := 1) [some (.ref (rl Γ B)), none] (by decide) rfl rfl rfl rfl (fun p e s mm args below meth c C hin0 hAO hz hrt => ?_)
  have q9 := Bs_e hB
  have hB1 := (hZ0.at (Nat.le_refl B)).1
  refine j_aload0 C dX7_init_0 ?_
  refine j_obj C (WS_of 632 (by decide +kernel)) (by decide) rfl (Nat.le_of_ble_eq_true rfl) dX7_init_1 ?_
  have hZ1 := hZ0.mono (n' := B + 1) (by omega)
  refine j_aload0 C dX7_init_4 ?_
  refine j_bipush C (by decide) dX7_init_5 ?_
  refine j_anew (kk := 10) (N := 10) C (hz.at (by omega)) (WS_of 633 (by decide +kernel)) hAO.X4 (by omega) (at_mA hB).2.2 rfl rfl rfl rfl (by decide) (hZ1.at (by omega)).2 ⟨by show _ ≤ 20; omega, by show _ + 10 ≤ 107; omega⟩ dX7_init_7 ?_
  refine j_cn (n' := B + 2) (ce' := 1) (sl' := 10) (by omega) (by omega) (by omega) ?_
  have hZ2 := hZ1.mono (n' := B + 2) (by omega)
  refine j_putr (b := B + 1) C hin0 fX7_11 ⟨by omega, by omega, (at_st hB).2.2⟩ rfl (ty := .array (.object "BoatRota$Member")) (fin := true) ⟨_, rfl, by decide +kernel, rfl⟩ (fun q h => by cases h; rfl) rfl rfl dX7_init_10 ?_
  have hZ3 := hZ2.wr (a := B) (i := 0) (v := some (B + 1)) (by omega)
  refine j_aload0 C dX7_init_13 ?_
  refine j_iconst C dX7_init_14 ?_
  refine j_anew (kk := 11) (N := 3) C (hz.at (by omega)) (WS_of 635 (by decide +kernel)) hAO.X1 (by omega) (at_bA hB).2.2 rfl rfl rfl rfl (by decide) (hZ3.at (by omega)).2 ⟨by show _ ≤ 20; omega, by show _ + 3 ≤ 107; omega⟩ dX7_init_15 ?_
  refine j_cn (n' := B + 3) (ce' := 2) (sl' := 13) (by omega) (by omega) (by omega) ?_
  have hZ4 := hZ3.mono (n' := B + 3) (by omega)
  refine j_putr (b := B + 2) C hin0 fX7_19 ⟨by omega, by omega, (at_st hB).2.2⟩ rfl (ty := .array (.object "BoatRota$Boat")) (fin := true) ⟨_, rfl, by decide +kernel, rfl⟩ (fun q h => by cases h; rfl) rfl rfl dX7_init_18 ?_
  have hZ5 := hZ4.wr (a := B) (i := 1) (v := some (B + 2)) (by omega)
  refine j_aload0 C dX7_init_21 ?_
  refine j_iconst C dX7_init_22 ?_
  refine j_anew (kk := 12) (N := 4) C (hz.at (by omega)) (WS_of 637 (by decide +kernel)) hAO.X3 (by omega) (at_lA hB).2.2 rfl rfl rfl rfl (by decide) (hZ5.at (by omega)).2 ⟨by show _ ≤ 20; omega, by show _ + 4 ≤ 107; omega⟩ dX7_init_23 ?_
  refine j_cn (n' := B + 4) (ce' := 3) (sl' := 17) (by omega) (by omega) (by omega) ?_
  have hZ6 := hZ5.mono (n' := B + 4) (by omega)
  refine j_putr (b := B + 3) C hin0 fX7_25 ⟨by omega, by omega, (at_st hB).2.2⟩ rfl (ty := .array (.object "BoatRota$Loan")) (fin := true) ⟨_, rfl, by decide +kernel, rfl⟩ (fun q h => by cases h; rfl) rfl rfl dX7_init_26 ?_
  have hZ7 := hZ6.wr (a := B) (i := 2) (v := some (B + 3)) (by omega)
  refine j_aload0 C dX7_init_29 ?_
  refine j_iconst C dX7_init_30 ?_
  refine j_putI C fX7_29 ⟨by omega, by omega, (at_st hB).2.2⟩ rfl ⟨_, rfl, by decide +kernel, rfl⟩ ⟨by decide, by decide⟩ dX7_init_31 ?_
  refine j_conv rfl rfl (wi_0 (congrFun hB1 3)) ?_
  refine j_aload0 C dX7_init_34 ?_
  refine j_iconst C dX7_init_35 ?_
  refine j_putI C fX7_33 ⟨by omega, by omega, (at_st hB).2.2⟩ rfl ⟨_, rfl, by decide +kernel, rfl⟩ ⟨by decide, by decide⟩ dX7_init_36 ?_
  refine j_conv rfl rfl (wi_0 (congrFun hB1 4)) ?_
  refine j_aload0 C dX7_init_39 ?_
  refine j_iconst C dX7_init_40 ?_
  refine j_putI C fX7_36 ⟨by omega, by omega, (at_st hB).2.2⟩ rfl ⟨_, rfl, by decide +kernel, rfl⟩ ⟨by decide, by decide⟩ dX7_init_41 ?_
  refine j_conv rfl rfl (wi_0 (congrFun hB1 5)) ?_
  refine j_aload0 C dX7_init_44 ?_
  refine j_iconst C dX7_init_45 ?_
  refine j_putI C fX7_39 ⟨by omega, by omega, (at_st hB).2.2⟩ rfl ⟨_, rfl, by decide +kernel, rfl⟩ ⟨by decide, by decide⟩ dX7_init_46 ?_
  refine j_conv rfl rfl (wi_0 (congrFun hB1 6)) ?_
  refine j_aload0 C dX7_init_49 ?_
  refine j_bipush C (by decide) dX7_init_50 ?_
  refine j_putI C fX7_42 ⟨by omega, by omega, (at_st hB).2.2⟩ rfl ⟨_, rfl, by decide +kernel, rfl⟩ ⟨by decide, by decide⟩ dX7_init_52 ?_
  have hZ8 := hZ7.wi (a := B) (i := 7) (v := 8) (by omega)
  refine j_aload0 C dX7_init_55 ?_
  refine j_iconst C dX7_init_56 ?_
  refine j_putI C fX7_45 ⟨by omega, by omega, (at_st hB).2.2⟩ rfl ⟨_, rfl, by decide +kernel, rfl⟩ ⟨by decide, by decide⟩ dX7_init_57 ?_
  refine j_conv rfl rfl (wi_0 (show (if B = B then (if (8 : Nat) = 7 then (8 : Int) else ω.1 B 8) else ω.1 B 8) = 0 by rw [if_pos rfl, if_neg (by decide)]; exact congrFun hB1 8)) ?_
  refine j_aload0 C dX7_init_60 ?_
  refine j_iconst C dX7_init_61 ?_
  refine j_putI C fX7_48 ⟨by omega, by omega, (at_st hB).2.2⟩ rfl ⟨_, rfl, by decide +kernel, rfl⟩ ⟨by decide, by decide⟩ dX7_init_62 ?_
  refine j_conv rfl rfl (wi_0 (show (if B = B then (if (9 : Nat) = 7 then (8 : Int) else ω.1 B 9) else ω.1 B 9) = 0 by rw [if_pos rfl, if_neg (by decide)]; exact congrFun hB1 9)) ?_
  refine j_aload0 C dX7_init_65 ?_
  refine j_iconst C dX7_init_66 ?_
  refine j_putI C fX7_51 ⟨by omega, by omega, (at_st hB).2.2⟩ rfl ⟨_, rfl, by decide +kernel, rfl⟩ ⟨by decide, by decide⟩ dX7_init_67 ?_
  refine j_conv rfl rfl (wi_0 (show (if B = B then (if (10 : Nat) = 7 then (8 : Int) else ω.1 B 10) else ω.1 B 10) = 0 by rw [if_pos rfl, if_neg (by decide)]; exact congrFun hB1 10)) ?_
  refine j_conv rfl rfl (show _ = STB ω B from rfl) ?_
  have hZb : ZN (STB ω B) (B + 4) := hZ8
  have hr0 : (STB ω B).2.1 B 0 = some (B + 1) := by simp [STB, wi, wr]
  have hr1 : (STB ω B).2.1 B 1 = some (B + 2) := by simp [STB, wi, wr]
  have hr2 : (STB ω B).2.1 B 2 = some (B + 3) := by simp [STB, wi, wr]
  refine j_iconst C dX7_init_70 ?_
  refine j_istore1 C rfl dX7_init_71 ?_
  have loop72 : ∀ (N k : Nat), 10 - k < N → k ≤ 10 → J Γ p l e (rmk 2 20 107) s mm args below meth c (MQ below (QN Γ (B + 1 + 20) (fun ω' => ω' = STN ω B)) args s 20 107 (gA Γ)) (B + 4 + k) (3 + k) (17 + 6 * k) 72 [some (.ref (rl Γ B)), some (.int (iI (k : Int)))] [] (loopW (B + 1) (B + 4) k (STB ω B)) := by
    intro N
    induction N with
    | zero => intro k hN; exact absurd hN (Nat.not_lt_zero _)
    | succ N ih =>
      intro k hN hk0
      refine j_iload1 C dX7_init_72 ?_
      refine j_bipush C (by decide) dX7_init_73 ?_
      refine j_icmp_ge C ⟨by omega, by omega⟩ ⟨by omega, by omega⟩ dX7_init_75 (fun hc => ?_) (fun hc => ?_)
      · have hk9 : k = 10 := by omega
        subst hk9
        refine j_iconst C dX7_init_97 ?_
        refine j_istore1 C rfl dX7_init_98 ?_
        have loop99 : ∀ (N k : Nat), 3 - k < N → k ≤ 3 → J Γ p l e (rmk 2 20 107) s mm args below meth c (MQ below (QN Γ (B + 1 + 20) (fun ω' => ω' = STN ω B)) args s 20 107 (gA Γ)) (B + 14 + k) (13 + k) (77 + 6 * k) 99 [some (.ref (rl Γ B)), some (.int (iI (k : Int)))] [] (loopW (B + 2) (B + 14) k (loopW (B + 1) (B + 4) 10 (STB ω B))) := by
          intro N
          induction N with
          | zero => intro k hN; exact absurd hN (Nat.not_lt_zero _)
          | succ N ih =>
            intro k hN hk0
            refine j_iload1 C dX7_init_99 ?_
            refine j_iconst C dX7_init_100 ?_
            refine j_icmp_ge C ⟨by omega, by omega⟩ ⟨by omega, by omega⟩ dX7_init_101 (fun hc => ?_) (fun hc => ?_)
            · have hk9 : k = 3 := by omega
              subst hk9
              refine j_iconst C dX7_init_123 ?_
              refine j_istore1 C rfl dX7_init_124 ?_
              have loop125 : ∀ (N k : Nat), 4 - k < N → k ≤ 4 → J Γ p l e (rmk 2 20 107) s mm args below meth c (MQ below (QN Γ (B + 1 + 20) (fun ω' => ω' = STN ω B)) args s 20 107 (gA Γ)) (B + 17 + k) (16 + k) (95 + 3 * k) 125 [some (.ref (rl Γ B)), some (.int (iI (k : Int)))] [] (loopW (B + 3) (B + 17) k (loopW (B + 2) (B + 14) 3 (loopW (B + 1) (B + 4) 10 (STB ω B)))) := by
                intro N
                induction N with
                | zero => intro k hN; exact absurd hN (Nat.not_lt_zero _)
                | succ N ih =>
                  intro k hN hk0
                  refine j_iload1 C dX7_init_125 ?_
                  refine j_iconst C dX7_init_126 ?_
                  refine j_icmp_ge C ⟨by omega, by omega⟩ ⟨by omega, by omega⟩ dX7_init_127 (fun hc => ?_) (fun hc => ?_)
                  · have hk9 : k = 4 := by omega
                    subst hk9
                    exact j_nret C hrt dX7_init_149 (by omega) ⟨by omega, by omega⟩ rfl
                  · skip
                    have hZ9 : ZN (loopW (B + 3) (B + 17) k (loopW (B + 2) (B + 14) 3 (loopW (B + 1) (B + 4) 10 (STB ω B)))) (B + 17 + k) := (((hZb.loop (a := B + 1) (b := B + 4) (by omega) 10).loop (a := B + 2) (b := B + 14) (by omega) 3).loop (a := B + 3) (b := B + 17) (by omega) k).mono (by omega)
                    refine j_aload0 C dX7_init_130 ?_
                    refine j_getr C fX7_25 ⟨by omega, by omega, (at_st hB).2.2⟩ rfl ((congrFun (loopW_ne (a := B + 3) (by omega) k) 2).trans ((congrFun (loopW_ne (a := B + 2) (by omega) 3) 2).trans ((congrFun (loopW_ne (a := B + 1) (by omega) 10) 2).trans hr2))) dX7_init_131 ?_
                    refine j_iload1 C dX7_init_134 ?_
                    refine j_new (kk := 4) C (hz.at (by omega)) rfl uwX3 tyX3_ok (WS_of 637 (by decide +kernel)) (WS_of 711 (by decide +kernel)) (WS_of 32 (by decide +kernel)) (by omega) (at_l hB (by omega)).2.2 (by decide) (hZ9.at (by omega)).1 (hZ9.at (by omega)).2 ⟨by show _ ≤ 20; omega, by show _ + 3 ≤ 107; omega⟩ dX7_init_135 ?_
                    refine j_cn (n' := B + 17 + (k + 1)) (ce' := 16 + (k + 1)) (sl' := 95 + 3 * (k + 1)) (by omega) (by omega) (by show _ + 3 = (_ : Nat); omega) ?_
                    have hZ10 := hZ9.mono (n' := B + 17 + (k + 1)) (by omega)
                    refine j_dup C rfl dX7_init_138 ?_
                    refine j_ctorN (host := RX8) C hAO (hz.at (by omega)) (by omega) (by omega) c_X3_init iX3_init (List.mem_of_getElem? (i := 2) rfl) ⟨by decide, by decide⟩ rfl (Nat.le_of_ble_eq_true rfl) ⟨by show _ ≤ 20; omega, by show _ ≤ 107; omega⟩ dX7_init_139 ?_
                    rintro _ rfl
                    refine j_aast C ⟨by omega, by omega, (at_lA hB).2.2⟩ rfl (r := (RX3, TX3, nf 4)) (kb := 4) rfl rfl ⟨by omega, by omega, (at_l hB (by omega)).2.2⟩ (N := 4) rfl (by decide) ⟨by omega, by omega⟩ dX7_init_142 ?_
                    rw [Int.toNat_natCast]
                    refine j_iinc1n C rfl dX7_init_143 ?_
                    refine j_goto C dX7_init_146 ?_
                    refine j_cn (n' := B + 17 + (k + 1)) (ce' := 16 + (k + 1)) (sl' := 95 + 3 * (k + 1)) (by omega) (by omega) (by omega) ?_
                    exact j_fg (ih (k + 1) (by omega) (by omega)) ⟨Or.inr rfl, Or.inr rfl, trivial⟩ rfl
              refine j_cn (n' := B + 17 + 0) (ce' := 16 + 0) (sl' := 95 + 3 * 0) (by omega) (by omega) (by omega) ?_
              exact j_fg (loop125 _ 0 (Nat.lt_succ_self _) (Nat.zero_le _)) ⟨Or.inr rfl, Or.inr rfl, trivial⟩ rfl
            · skip
              have hZ11 : ZN (loopW (B + 2) (B + 14) k (loopW (B + 1) (B + 4) 10 (STB ω B))) (B + 14 + k) := ((hZb.loop (a := B + 1) (b := B + 4) (by omega) 10).loop (a := B + 2) (b := B + 14) (by omega) k).mono (by omega)
              refine j_aload0 C dX7_init_104 ?_
              refine j_getr C fX7_19 ⟨by omega, by omega, (at_st hB).2.2⟩ rfl ((congrFun (loopW_ne (a := B + 2) (by omega) k) 1).trans ((congrFun (loopW_ne (a := B + 1) (by omega) 10) 1).trans hr1)) dX7_init_105 ?_
              refine j_iload1 C dX7_init_108 ?_
              refine j_new (kk := 3) C (hz.at (by omega)) rfl uwX1 tyX1_ok (WS_of 635 (by decide +kernel)) (WS_of 675 (by decide +kernel)) (WS_of 31 (by decide +kernel)) (by omega) (at_b hB (by omega)).2.2 (by decide) (hZ11.at (by omega)).1 (hZ11.at (by omega)).2 ⟨by show _ ≤ 20; omega, by show _ + 6 ≤ 107; omega⟩ dX7_init_109 ?_
              refine j_cn (n' := B + 14 + (k + 1)) (ce' := 13 + (k + 1)) (sl' := 77 + 6 * (k + 1)) (by omega) (by omega) (by show _ + 6 = (_ : Nat); omega) ?_
              have hZ12 := hZ11.mono (n' := B + 14 + (k + 1)) (by omega)
              refine j_dup C rfl dX7_init_112 ?_
              refine j_ctorN (host := RX8) C hAO (hz.at (by omega)) (by omega) (by omega) c_X1_init iX1_init (List.mem_of_getElem? (i := 1) rfl) ⟨by decide, by decide⟩ rfl (Nat.le_of_ble_eq_true rfl) ⟨by show _ ≤ 20; omega, by show _ ≤ 107; omega⟩ dX7_init_113 ?_
              rintro _ rfl
              refine j_aast C ⟨by omega, by omega, (at_bA hB).2.2⟩ rfl (r := (RX1, TX1, nf 3)) (kb := 3) rfl rfl ⟨by omega, by omega, (at_b hB (by omega)).2.2⟩ (N := 3) rfl (by decide) ⟨by omega, by omega⟩ dX7_init_116 ?_
              rw [Int.toNat_natCast]
              refine j_iinc1n C rfl dX7_init_117 ?_
              refine j_goto C dX7_init_120 ?_
              refine j_cn (n' := B + 14 + (k + 1)) (ce' := 13 + (k + 1)) (sl' := 77 + 6 * (k + 1)) (by omega) (by omega) (by omega) ?_
              exact j_fg (ih (k + 1) (by omega) (by omega)) ⟨Or.inr rfl, Or.inr rfl, trivial⟩ rfl
        refine j_cn (n' := B + 14 + 0) (ce' := 13 + 0) (sl' := 77 + 6 * 0) (by omega) (by omega) (by omega) ?_
        exact j_fg (loop99 _ 0 (Nat.lt_succ_self _) (Nat.zero_le _)) ⟨Or.inr rfl, Or.inr rfl, trivial⟩ rfl
      · skip
        have hZ13 : ZN (loopW (B + 1) (B + 4) k (STB ω B)) (B + 4 + k) := (hZb.loop (a := B + 1) (b := B + 4) (by omega) k).mono (by omega)
        refine j_aload0 C dX7_init_78 ?_
        refine j_getr C fX7_11 ⟨by omega, by omega, (at_st hB).2.2⟩ rfl ((congrFun (loopW_ne (a := B + 1) (by omega) k) 0).trans hr0) dX7_init_79 ?_
        refine j_iload1 C dX7_init_82 ?_
        refine j_new (kk := 2) C (hz.at (by omega)) rfl uwX4 tyX4_ok (WS_of 633 (by decide +kernel)) (WS_of 639 (by decide +kernel)) (WS_of 30 (by decide +kernel)) (by omega) (at_m hB (by omega)).2.2 (by decide) (hZ13.at (by omega)).1 (hZ13.at (by omega)).2 ⟨by show _ ≤ 20; omega, by show _ + 6 ≤ 107; omega⟩ dX7_init_83 ?_
        refine j_cn (n' := B + 4 + (k + 1)) (ce' := 3 + (k + 1)) (sl' := 17 + 6 * (k + 1)) (by omega) (by omega) (by show _ + 6 = (_ : Nat); omega) ?_
        have hZ14 := hZ13.mono (n' := B + 4 + (k + 1)) (by omega)
        refine j_dup C rfl dX7_init_86 ?_
        refine j_ctorN (host := RX8) C hAO (hz.at (by omega)) (by omega) (by omega) c_X4_init iX4_init (List.mem_of_getElem? (i := 0) rfl) ⟨by decide, by decide⟩ rfl (Nat.le_of_ble_eq_true rfl) ⟨by show _ ≤ 20; omega, by show _ ≤ 107; omega⟩ dX7_init_87 ?_
        rintro _ rfl
        refine j_aast C ⟨by omega, by omega, (at_mA hB).2.2⟩ rfl (r := (RX4, TX4, nf 2)) (kb := 2) rfl rfl ⟨by omega, by omega, (at_m hB (by omega)).2.2⟩ (N := 10) rfl (by decide) ⟨by omega, by omega⟩ dX7_init_90 ?_
        rw [Int.toNat_natCast]
        refine j_iinc1n C rfl dX7_init_91 ?_
        refine j_goto C dX7_init_94 ?_
        refine j_cn (n' := B + 4 + (k + 1)) (ce' := 3 + (k + 1)) (sl' := 17 + 6 * (k + 1)) (by omega) (by omega) (by omega) ?_
        exact j_fg (ih (k + 1) (by omega) (by omega)) ⟨Or.inr rfl, Or.inr rfl, trivial⟩ rfl
  refine j_cn (n' := B + 4 + 0) (ce' := 3 + 0) (sl' := 17 + 6 * 0) (by omega) (by omega) (by omega) ?_
  exact j_fg (loop72 _ 0 (Nat.lt_succ_self _) (Nat.zero_le _)) ⟨Or.inr rfl, Or.inr rfl, trivial⟩ rfl
