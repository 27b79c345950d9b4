/-! a text of commands, sign by sign, and carried out -/
/-- an act of the law: done, or refused and all as it was -/
def AP (M : Int) (σ : Row) (n : Nat) (hh : Nat → Row) (z : Int) (W : Wo) : Prop := (-900002 ≤ z ∧ z ≤ 100) ∧ ((z ≤ -900000 ∧ INV (M + 70000) W σ n hh) ∨ (-900000 < z ∧ ∃ σ' : Row, INV (M + 70000) W σ' (rmN n) (rmH n hh σ) ∧ σ 2 ≤ σ' 2))
theorem DP.ap {M : Int} {σ : Row} {n : Nat} {hh : Nat → Row} {d : Nat} {a b z : Int} {W : Wo} (h : DP M σ n hh d a b z W) (hM : M + 70000 ≤ 100000000) : AP M σ n hh z W := by
  rcases h with ⟨h1, h2, h3, h4⟩ | ⟨h1, h3, -⟩
  · exact ⟨⟨by omega, by omega⟩, Or.inr ⟨by omega, _, h3.le ⟨by omega, hM⟩, h4⟩⟩
  · exact ⟨⟨by omega, by omega⟩, Or.inl ⟨by omega, h3.le ⟨by omega, hM⟩⟩⟩
theorem exc_2 {M : Int} {s : Row} (hI : RI M s) (hW : WI s) (h : WJ s) {D : Nat → Nat} {A B : Nat → Int} : ∀ k : Nat, M + 3000 * k ≤ 100000000 → (∀ j : Nat, j < k → (jd (D j) (exc s D A B j) (A j) (B j)).1 = 0) → s 2 ≤ exc s D A B k 2 := by
  intro k
  induction k with
  | zero => intro _ _; exact Int.le_refl _
  | succ k ih =>
    intro hM hj
    have i1 := ih (by omega) (fun j q => hj j (by omega))
    have i2 := exc_all hI hW h (D := D) (A := A) (B := B) k (by omega) (fun j q => hj j (by omega))
    have q := hj k (by omega)
    show s 2 ≤ (ad (D k) (exc s D A B k) (A k) (B k)).2 2
    refine Int.le_trans i1 ?_
    by_cases hd : D k ≤ 8
    · exact ad_2 i2.1 (by omega) hd q
    · obtain ⟨e1, e2⟩ := jd_8 (show 8 ≤ D k by omega) (exc s D A B k) (A k) (B k)
      rw [e1] at q
      rw [e2]
      exact ad_2 i2.1 (by omega) (Nat.le_refl 8) q
theorem prs_le (t : Row) (n : Nat) : ∀ f k, (prs t n f k).2 ≤ f + k := by
  intro f
  induction f with
  | zero => intro k; show k ≤ 0 + k; omega
  | succ f ih =>
    intro k
    show (if _ then _ else if _ then _ else if _ then _ else _ : Int × Nat).2 ≤ _
    split
    · show k + 1 ≤ _; omega
    · split
      · have := ih (k + 1); omega
      · split
        · show k + 1 ≤ _; omega
        · show k + 1 ≤ _; omega
section DOES
variable {M : Int} {ω W : Wo} {σ : Row} {n : Nat} {hh : Nat → Row}
theorem INV.cmd9 (h : INV M ω σ n hh) (hM : M + 70000 ≤ 100000000) {D : Nat → Nat} {A B : Nat → Int} {K : Nat} (hK : K ≤ 21) (hN : excN σ D A B K 0 = K) (h1 : St W 1 (exc σ D A B K)) (h2 : PA M W (rmN n) (rmH n hh σ)) (h3 : CR W) (h22 : QR W 22) (h43 : QR W 43) (h5 : W.1 68 1 = 0) : INV (M + 70000) W (exc σ D A B K) (rmN n) (rmH n hh σ) := by
  have k := exc_all h.ri h.wi h.wj (D := D) (A := A) (B := B) K (by omega) (fun j hj => excN_ok K 0 hN j (by omega) (by omega))
  exact ⟨h3, ⟨h1, k.1.le (by omega) hM, k.2.1, k.2.2⟩, ⟨h2.of ⟨by omega, hM⟩ rfl (fun _ _ _ => rfl) (fun _ _ => rfl), rm_wj h.pa.2.1 h.hj h.wj⟩, ⟨h22, h43⟩, h5⟩
/-- while signs are appended -/
def TX (ω W : Wo) (j : Nat) : Prop := (∀ x, x ≠ 69 → x ≠ 68 → W.1 x = ω.1 x) ∧ (∀ x, W.2.1 x = ω.2.1 x) ∧ W.1 68 1 = (j : Int)
theorem TX.cr {j : Nat} (h : TX ω W j) (hV : INV M ω σ n hh) : CR W := by
  have := hV.cr; unfold CR at this ⊢; rw [h.2.1 0, h.2.1 68, h.2.1 73]; exact this
theorem TX.st {j : Nat} (h : TX ω W j) (hV : INV M ω σ n hh) : St W 1 σ := hV.st.fr hV.ri.cc (fun x _ _ => h.1 x (by omega) (by omega)) (fun x _ _ => h.2.1 x)
theorem TX.pa {j : Nat} (h : TX ω W j) (hV : INV M ω σ n hh) : PA M W n hh := hV.pa.of ⟨Int.le_refl _, hV.ri.2.1⟩ (congrFun (h.1 0 (by decide) (by decide)) 5) (fun x _ _ => h.1 x (by omega) (by omega)) (fun x _ => h.2.1 x)
theorem TX.q22 {j : Nat} (h : TX ω W j) (hV : INV M ω σ n hh) : QR W 22 := qr_of (fun x _ _ => h.2.1 x) hV.q22
theorem TX.q43 {j : Nat} (h : TX ω W j) (hV : INV M ω σ n hh) : QR W 43 := qr_of (fun x _ _ => h.2.1 x) hV.q43
theorem TX.put {j : Nat} {v : Int} (h : TX ω W j) : TX ω (mxw (wi (wi W 69 j v) 68 1 ((j : Int) + 1)) W) (j + 1) := by
  refine ⟨fun x h1 h2 => ?_, fun x => ?_, ?_⟩
  · rw [← h.1 x h1 h2]
    show (if x < 243 then (wi (wi W 69 j v) 68 1 ((j : Int) + 1)).1 x else W.1 x) = W.1 x
    split
    · rw [wi_ne h2, wi_ne h1]
    · rfl
  · rw [← h.2.1 x]
    show (if x < 243 then W.2.1 x else W.2.1 x) = W.2.1 x
    split <;> rfl
  · rw [(mx_lt (by decide)).1]
    simp [wi]
theorem KM.q43 {W' : Wo} (h : KM W W') (hq : QR W 43) : QR W' 43 := qr_of (fun x _ _ => h.2.2.1 x (by omega) (by omega) (by omega) (by omega) (by omega)) hq
end DOES
set_option maxRecDepth 100000 in
set_option maxHeartbeats 4000000 in
theorem c_does {κ : Nat → Nat} {Γ : Ga} {l : Launch} {ω : Wo} {n : Nat} {M : Int} {σ : Row} {n0 : Nat} {hh : Nat → Row} (hsl : l.stackTraces = false) (hV : INV M ω σ n0 hh) (hM : M + 70000 ≤ 100000000) (hn9 : 243 ≤ n) (hκ : Kl κ n) {a b k9 : Nat} (ha9 : 243 ≤ a ∧ 243 ≤ b) (ha : At n a 7 κ) (hb : At n b (100 + k9) κ) (h0 : ω.2.1 a 0 = some b) (h1 : ω.1 a 1 = 0) (hvb : ∀ j, 0 ≤ ω.1 b j ∧ ω.1 b j < 128) (hk : k9 ≤ 16) : CL Γ l yL_does cL_does 4 .int 22 20 120 [.ref (rl Γ 0), .ref (rl Γ a)] ω n κ Ex0 (fun z W => AP M σ n0 hh z W) := by
  refine MetL.ofJ (k := 2) [some (.ref (rl Γ 0)), some (.ref (rl Γ a)), none, none] (by decide) rfl rfl rfl (fun p e s mm args below meth c C hK3 hX hrt => ?_)
  refine j_iconst C dL_does_0 ?_
  refine j_istore2 C rfl dL_does_1 ?_
  refine j_iconst C dL_does_2 ?_
  refine j_istore3 C rfl dL_does_3 ?_
  have hT0 : TX ω ω 0 := ⟨fun _ _ _ => rfl, fun _ => rfl, hV.tx⟩
  have loop : ∀ (N j ce sl : Nat) (q9 : Int) (W : Wo), k9 - j < N → j ≤ k9 → (0 ≤ q9 ∧ q9 ≤ 61 * j) → ce ≤ j → sl ≤ 6 * ce → TX ω W j → J Γ p l e (rmk 22 20 120) s mm args below meth c (MQ below (QI Γ (fun z W => AP M σ n0 hh z W) n κ) args s 20 120 (gA Γ)) n ce sl 4 [some (.ref (rl Γ 0)), some (.ref (rl Γ a)), some (.int (iI (q9 : Int))), some (.int (iI (j : Int)))] [] W κ := by
    intro N
    induction N with
    | zero => intro j ce sl q9 W hN; exact absurd hN (Nat.not_lt_zero _)
    | succ N ih =>
      intro j ce sl q9 W hN hk0 hq hce hsl9 hT
      have h20 : W.2.1 a 0 = some b := (congrFun (hT.2.1 a) 0).trans h0
      have h21 : W.1 a 1 = 0 := (congrFun (hT.1 a (by omega) (by omega)) 1).trans h1
      have h2b : ∀ j, 0 ≤ W.1 b j ∧ W.1 b j < 128 := fun j => by rw [hT.1 b (by omega) (by omega)]; exact hvb j
      refine j_iload3 C dL_does_4 ?_
      refine j_aload1 C dL_does_5 ?_
      refine j_cVI0 (a := a) C (c_slen (Or.inr ⟨a, b, rfl, rfl, ha, hb, h20, h21, h2b⟩) (by omega)) oJ0_length_8abf5 kL_93 ⟨_, rfl, rfl⟩ ha ⟨by decide, by decide⟩ rfl (Nat.le_of_ble_eq_true rfl) ⟨by omega, by omega⟩ dL_does_6 ?_
      rintro _ _ hz6 ⟨rfl, rfl⟩
      refine j_icmp_ge C ⟨by omega, by omega⟩ ⟨by omega, by omega⟩ dL_does_9 (fun hc9 => ?_) (fun hc9 => ?_)
      · -- 9 t
        refine j_iload2 C dL_does_30 ?_
        refine j_ldc (z := -90000) C (WS_of 1206 (by decide +kernel)) dL_does_31 ?_
        refine j_icmp_ge C ⟨by omega, by omega⟩ (by decide) dL_does_33 (fun _ => ?_) (fun hc => absurd hc (by omega))
        refine j_aload0 C dL_does_40 ?_
        refine j_cMW (as := [.ref (rl Γ 0)]) (k := 1) C hK3 hn9 hκ (fun h => w_commands (Γ := re Γ (gN Γ) h) (by decide) (c_X8_commands9 (Γ := re Γ (gN Γ) h) hsl (hT.cr hV) (hT.st hV) hV.ri hV.wi hT.2.2 (by omega) hM (hT.q22 hV) (hT.pa hV)) (fun E ω1 hE => hE.elim (fun q => Or.inl q.1) (fun q => Or.inr q.1))) o_w_commands kL_107 ⟨by decide, by decide⟩ rfl rfl (Nat.le_of_ble_eq_true rfl) ⟨by omega, by omega⟩ dL_does_41 (fun z ω' hz hp => ?_)
        refine j_widen (ce' := 20) (sl' := 120) (by omega) (by omega) ?_
        have hq := hT.q43 hV
        refine j_iret C hrt dL_does_44 hz ?_
        rcases hp with ⟨a1, rfl, a3, a4, a5, a6, a7, a8, a9, b1, b2, b3⟩ | ⟨rfl, hx⟩ | ⟨rfl, hx⟩
        · have hle := prs_le (W.1 69) j 21 0
          exact ⟨⟨by omega, by omega⟩, Or.inr ⟨by omega, _, (hV.cmd9 hM hle a3 a4 a5 a6 a7 (a8.q43 hq) b1).mx, exc_2 hV.ri hV.wi hV.wj _ (by omega) (fun j hj => excN_ok _ 0 a3 j (by omega) (by omega))⟩⟩
        · rcases hx with ⟨-, -, a4, a5, a6, a7, a8, -, b1, -, -⟩ | ⟨q, -⟩
          · exact ⟨⟨by decide, by decide⟩, Or.inl ⟨by decide, (INV.le (show INV M ω' σ n0 hh from ⟨a6, ⟨a4, hV.ri, hV.wi, hV.wj⟩, ⟨a5, hV.hj⟩, ⟨a7, a8.q43 hq⟩, b1⟩) ⟨by omega, hM⟩).mx⟩⟩
          · exact absurd q (by decide)
        · rcases hx with ⟨q, -⟩ | ⟨-, -, -, a4, a5, a6, a7, a8, -, b1, -⟩
          · exact absurd q (by decide)
          · exact ⟨⟨by decide, by decide⟩, Or.inl ⟨by decide, (INV.le (show INV M ω' σ n0 hh from ⟨a6, ⟨a4, hV.ri, hV.wi, hV.wj⟩, ⟨a5, hV.hj⟩, ⟨a7, a8.q43 hq⟩, b1⟩) ⟨by omega, hM⟩).mx⟩⟩
      · -- 9 f
        refine j_iload2 C dL_does_12 ?_
        refine j_aload0 C dL_does_13 ?_
        refine j_aload1 C dL_does_14 ?_
        refine j_iload3 C dL_does_15 ?_
        refine j_cVI1 (a := a) C (c_scharAt (i9 := j) ha hb h20 h21 (by omega) (by omega) h2b) oJ0_charAt_5068e kL_98 ⟨_, rfl, rfl⟩ ha ⟨by decide, by decide⟩ rfl (Nat.le_of_ble_eq_true rfl) ⟨by omega, by omega⟩ dL_does_16 ?_
        rintro v9 _ hz16 ⟨hv1, hv2, rfl⟩
        refine j_cMX (as := [.int (iI v9)]) (k := 1) C hK3 hn9 hκ (fun h => c_X8_append (Γ := re Γ (gN Γ) h) hsl (hT.cr hV) (hT.st hV) hV.ri hV.wi (n := j) (v := v9) hT.2.2 (by omega) ⟨by omega, by omega⟩) oX8_append kL_102 ⟨_, rfl, rfl⟩ ⟨by decide, by decide⟩ rfl rfl (Nat.le_of_ble_eq_true rfl) ⟨by omega, by omega⟩ dL_does_19 (fun E ω1 hE => absurd hE.2.2 (by omega)) (fun z9 ω1 hz9 hp9 => ?_)
        obtain ⟨-, rfl, rfl⟩ := hp9
        refine j_iadd C dL_does_22 ?_
        refine j_istore2 C rfl dL_does_23 ?_
        refine j_iinc3 C rfl dL_does_24 ?_
        refine j_goto C dL_does_27 ?_
        exact ih (j + 1) _ _ (q9 + ((j : Int) + 1)) _ (by omega) (by omega) (by omega) (by omega) (by omega) hT.put
  exact loop (k9 + 1) 0 0 0 0 ω (by omega) (by omega) ⟨by omega, by omega⟩ (by omega) (by omega) hT0
