/-! an act of the law -/
/-- kinds of the cells that a text of commands takes: p and q signs in its two texts -/
def kt (p q : Nat) (x : Nat) : Nat := if x < 243 then kd x else if x = 243 ∨ x = 245 then 8 else if x = 244 ∨ x = 246 then 17 else if x = 247 ∨ x = 249 then 7 else if x = 248 then 100 + p else 100 + q
theorem kt_l {p q n : Nat} (hn : n ≤ 251) : Kl (kt p q) n := ⟨fun a ha => if_pos ha, fun a h1 h2 => by
  unfold kt
  rw [if_neg (by omega)]
  repeat' split
  all_goals omega⟩
section ACTS
variable {κ : Nat → Nat} {Γ : Ga} {p : Program} {l : Launch} {e : Env} {R : Room} {s : State} {m : MethodId} {args : Array Value} {below : List Frame} {meth : Method} {c : Code} {Q : State → Prop} {n ce sl : Nat} {cc : ByteArray} {own : String} {nL pc pc' idx a kk k : Nat} {L : List (Option Value)} {S : List Value} {ω : Wo}
theorem Rp.kinds {κ' : Nat → Nat} {n' : Nat} {H : Heap} (h : Rp Γ n ω H κ) (hn : 243 ≤ n) (hκ : Kl κ n) (hκ' : Kl κ' n') : Rp Γ 243 ω H κ' := h.to hn hκ hκ' (gN Γ) (gH Γ)
theorem j_drop {κ' : Nat → Nat} {n' : Nat} (hn : 243 ≤ n) (hκ : Kl κ n) (hκ' : Kl κ' n') (kx : J Γ p l e R s m args below meth c Q 243 ce sl pc L S ω κ') : J Γ p l e R s m args below meth c Q n ce sl pc L S ω κ :=
  fun H locs ls hP hS hl => kx H locs ls (hP.kinds hn hκ hκ') hS hl
theorem j_ldcL {q : Nat} {tx : String} (C : Cx Γ p l s m args meth c cc RL nL) (hi : (idx, tx, q) ∈ strW) (d : Dx cc pc (.ldc idx) 2 pc') (kx : J Γ p l e R s m args below meth c Q n ce sl pc' L (.ref (gad Γ q) :: S) ω κ) : J Γ p l e R s m args below meth c Q n ce sl pc L S ω κ := by
  intro H locs ls hP hS hl
  obtain ⟨hd, rfl⟩ := d
  exact va_ldcS C.1 C.2.1 C.2.2.2.1 ((C.2.2.2.2.2.1.2.2.2.2).2 (idx, tx, q) hi) hd (kx H locs ls hP hS hl)
/-- the law's builder, and all as it was -/
def OB (ω W : Wo) (n m : Nat) : Prop := (∀ x, x < 243 → W.1 x = ω.1 x ∧ W.2.1 x = ω.2.1 x) ∧ ZN W n ∧ SBg W 243 244 m
theorem OB.inv {ω W : Wo} {n m : Nat} (h : OB ω W n m) {M : Int} {σ : Row} {n0 : Nat} {hh : Nat → Row} (hV : INV M ω σ n0 hh) : INV M W σ n0 hh :=
  hV.keep ⟨Int.le_refl _, hV.ri.2.1⟩ (fun x hx => (h.1 x (by omega)).1) (fun x hx _ => (h.1 x hx).2) (qr_of (fun x _ _ => (h.1 x (by omega)).2) hV.q22)
theorem OB.new {ω : Wo} (hZ : ZN ω 243) : OB ω (wr ω 243 0 (some 244)) 245 0 := by
  refine ⟨fun x hx => ⟨rfl, wr_ne (by omega)⟩, (hZ.mono (by decide)).wr (by decide), ?_, ?_, ?_, fun j => ?_⟩
  · simp [wr]
  · exact congrFun (hZ 243 (by decide)).1 1
  · exact congrFun (hZ 243 (by decide)).1 3
  · have e : (wr ω 243 0 (some 244)).1 244 = fun _ => 0 := (hZ 244 (by decide)).1
    rw [e]; exact ⟨(by decide : (0 : Int) ≤ 0), (by decide : (0 : Int) < 128)⟩
theorem Wap.zn {W W' : Wo} {a b m n : Nat} (h : Wap W a b m W') (hZ : ZN W n) (ha : a < n ∧ b < n) : ZN W' n := fun x hx => ⟨(h.1 x (by omega) (by omega)).trans (hZ x hx).1, by rw [h.2.1]; exact (hZ x hx).2⟩
theorem OB.app {ω W W' : Wo} {n m m' : Nat} (h : OB ω W n m) (hn : 245 ≤ n) (hw : Wap W 243 244 m' W') : OB ω W' n m' :=
  ⟨fun x hx => ⟨(hw.1 x (by omega) (by omega)).trans (h.1 x hx).1, by rw [hw.2.1]; exact (h.1 x hx).2⟩, hw.zn h.2.1 ⟨by omega, by omega⟩, hw.2.2⟩
theorem SBg.of {W W' : Wo} {a b m : Nat} (h : SBg W a b m) (h1 : W'.1 a = W.1 a) (h2 : W'.1 b = W.1 b) (h3 : W'.2.1 a = W.2.1 a) : SBg W' a b m := by
  unfold SBg at h ⊢
  rw [h1, h2, h3]; exact h
theorem OB.in1 {ω W : Wo} {m : Nat} (h : OB ω W 245 m) : OB ω (wr W 245 0 (some 246)) 247 m ∧ SBg (wr W 245 0 (some 246)) 245 246 0 := by
  refine ⟨⟨fun x hx => ⟨(h.1 x hx).1, (wr_ne (by omega)).trans (h.1 x hx).2⟩, (h.2.1.mono (by decide)).wr (by decide), h.2.2.of rfl rfl (wr_ne (by decide))⟩, ?_, ?_, ?_, fun j => ?_⟩
  · simp [wr]
  · exact congrFun (h.2.1 245 (by decide)).1 1
  · exact congrFun (h.2.1 245 (by decide)).1 3
  · have e : (wr W 245 0 (some 246)).1 246 = fun _ => 0 := (h.2.1 246 (by decide)).1
    rw [e]; exact ⟨(by decide : (0 : Int) ≤ 0), (by decide : (0 : Int) < 128)⟩
theorem OB.app2 {ω W W' : Wo} {m m' : Nat} (h : OB ω W 247 m) (hw : Wap W 245 246 m' W') : OB ω W' 247 m :=
  ⟨fun x hx => ⟨(hw.1 x (by omega) (by omega)).trans (h.1 x hx).1, by rw [hw.2.1]; exact (h.1 x hx).2⟩, hw.zn h.2.1 ⟨by omega, by omega⟩, h.2.2.of (hw.1 243 (by decide) (by decide)) (hw.1 244 (by decide) (by decide)) (by rw [hw.2.1])⟩
theorem OB.str {ω W : Wo} {n m : Nat} {f : Row} (h : OB ω W n m) (hn : 245 ≤ n) : OB ω (wr (wf (wi W n 1 0) (n + 1) f) n 0 (some (n + 1))) (n + 2) m := by
  have e1 : ∀ x, x < n → (wr (wf (wi W n 1 0) (n + 1) f) n 0 (some (n + 1))).1 x = W.1 x := fun x hx => (wf_ne _ _ (by omega)).trans (wi_ne (by omega))
  have e2 : ∀ x, x ≠ n → (wr (wf (wi W n 1 0) (n + 1) f) n 0 (some (n + 1))).2.1 x = W.2.1 x := fun x hx => wr_ne hx
  refine ⟨fun x hx => ⟨(e1 x (by omega)).trans (h.1 x hx).1, (e2 x (by omega)).trans (h.1 x hx).2⟩, fun x hx => ⟨?_, (e2 x (by omega)).trans (h.2.1 x (by omega)).2⟩, h.2.2.of (e1 _ (by omega)) (e1 _ (by omega)) (e2 _ (by omega))⟩
  exact ((wf_ne _ _ (by omega)).trans (wi_ne (by omega))).trans (h.2.1 x (by omega)).1
theorem str_at {W : Wo} {n : Nat} {f : Row} : (wr (wf (wi W n 1 0) (n + 1) f) n 0 (some (n + 1))).2.1 n 0 = some (n + 1) ∧ (wr (wf (wi W n 1 0) (n + 1) f) n 0 (some (n + 1))).1 n 1 = 0 ∧ (wr (wf (wi W n 1 0) (n + 1) f) n 0 (some (n + 1))).1 (n + 1) = f := by
  refine ⟨by simp [wr], ?_, wf_same _ _ _⟩
  show (wf (wi W n 1 0) (n + 1) f).1 n 1 = 0
  rw [wf_ne _ _ (by omega)]
  simp [wi]
end ACTS
set_option maxRecDepth 100000 in
set_option maxHeartbeats 16000000 in
theorem c_acts {Γ : Ga} {l : Launch} {ω : Wo} {M : Int} {σ : Row} {n0 : Nat} {hh : Nat → Row} (hsl : l.stackTraces = false) (hV : INV M ω σ n0 hh) (hM : M + 70000 ≤ 100000000) (hZ : ZN ω 243) {b Ls : Nat} {xs : Nat → Int32} (hLs : Ls < 2000) {i9 : Int} (hi : 0 ≤ i9 ∧ i9 ≤ 1000) : CL Γ l yL_acts cL_acts 5 .int 23 40 300 [.ref (rl Γ 0), .ref b, .int (iI i9)] ω 243 kd (fun U => Ew Γ 243 U ∧ Sc Γ b Ls xs U) (fun z W => AP M σ n0 hh z W) := by
  refine MetL.ofJ (k := 2) [some (.ref (rl Γ 0)), some (.ref b), some (.int (iI i9)), none, none] (by decide) rfl rfl rfl (fun p e s mm args below meth c C hK3 hX hrt => ?_)
  have hr : ∀ i, i < 50 → rl Γ (243 + i) = gN Γ 0 + i := fun i hi => (rl_nw (by omega)).trans (hX.1.2.2.2.2 i)
  have hcon : ∀ i, i < 4 → ∀ x, gad Γ (30 + i) = rl Γ x → 243 ≤ x → x < 290 → False := by
    intro i hi x hx h1 h2
    obtain ⟨j, rfl⟩ : ∃ j, x = 243 + j := ⟨x - 243, by omega⟩
    have q1 := hr j (by omega)
    have q2 := (C.2.2.2.2.2.1.strs.1 i hi).2.2.2
    have q3 : gA Γ (gad Γ (30 + i)) := by
      rw [hx, q1]; right; have := hX.1.2.2.1; omega
    obtain ⟨cell, -, -, q4⟩ := q2
    exact q4.2.2.2.2 q3
  refine j_aload1 C dL_acts_0 ?_
  refine j_iload2 C dL_acts_1 ?_
  refine j_iconst C dL_acts_2 ?_
  refine j_iadd C dL_acts_3 ?_
  refine j_sipush C (by decide) dL_acts_4 ?_
  refine j_cL (as := [.ref b, .int (iI (i9 + 1)), .int (iI 1000)]) (mc := 0) (ms := 0) C hK3 (c_in hLs (i := (i9 + 1)) (mm9 := 1000) ⟨by omega, by omega⟩ ⟨by decide, by decide⟩) Sc.ex (fun H locs U hP hS hU hW => hX.2.next hW hU hS) oL_in kL_116 ⟨by decide, by decide⟩ rfl rfl (Nat.le_of_ble_eq_true rfl) ⟨by decide, by decide⟩ dL_acts_7 ?_
  intro a9 _ hz7 hp
  obtain ⟨ha9, e9⟩ := hp
  rw [e9]
  clear e9
  refine j_istore3 C rfl dL_acts_10 ?_
  refine j_aload1 C dL_acts_11 ?_
  refine j_iload2 C dL_acts_12 ?_
  refine j_iconst C dL_acts_13 ?_
  refine j_iadd C dL_acts_14 ?_
  refine j_sipush C (by decide) dL_acts_15 ?_
  refine j_cL (as := [.ref b, .int (iI (i9 + 2)), .int (iI 1000)]) (mc := 0) (ms := 0) C hK3 (c_in hLs (i := (i9 + 2)) (mm9 := 1000) ⟨by omega, by omega⟩ ⟨by decide, by decide⟩) Sc.ex (fun H locs U hP hS hU hW => hX.2.next hW hU hS) oL_in kL_116 ⟨by decide, by decide⟩ rfl rfl (Nat.le_of_ble_eq_true rfl) ⟨by decide, by decide⟩ dL_acts_18 ?_
  intro b9 _ hz18 hp
  obtain ⟨hb9, e9⟩ := hp
  rw [e9]
  clear e9
  refine j_istore4 C rfl dL_acts_21 ?_
  refine j_aload1 C dL_acts_23 ?_
  refine j_iload2 C dL_acts_24 ?_
  refine j_bipush C (by decide) dL_acts_25 ?_
  refine j_cL (as := [.ref b, .int (iI i9), .int (iI 16)]) (mc := 0) (ms := 0) C hK3 (c_in hLs (i := i9) (mm9 := 16) ⟨by omega, by omega⟩ ⟨by decide, by decide⟩) Sc.ex (fun H locs U hP hS hU hW => hX.2.next hW hU hS) oL_in kL_116 ⟨by decide, by decide⟩ rfl rfl (Nat.le_of_ble_eq_true rfl) ⟨by decide, by decide⟩ dL_acts_27 ?_
  intro z9 _ hz27 hp
  obtain ⟨hz9, e9⟩ := hp
  rw [e9]
  clear e9
  have hcs : (0 ≤ z9 ∧ z9 ≤ 3) ∨ z9 = 4 ∨ z9 = 5 ∨ z9 = 6 ∨ (7 ≤ z9 ∧ z9 ≤ 8) ∨ z9 = 9 ∨ z9 = 10 ∨ (11 ≤ z9 ∧ z9 ≤ 12) ∨ 13 ≤ z9 := by omega
  have ra : ∀ k : Int, 0 < k → 0 ≤ a9 % k ∧ a9 % k < k := fun k hk => ⟨Int.emod_nonneg _ (by omega), Int.emod_lt_of_pos _ hk⟩
  have rb : ∀ k : Int, 0 < k → 0 ≤ b9 % k ∧ b9 % k < k := fun k hk => ⟨Int.emod_nonneg _ (by omega), Int.emod_lt_of_pos _ hk⟩
  rcases hcs with hcs | hcs | hcs | hcs | hcs | hcs | hcs | hcs | hcs
  · -- call
    have hof : (#[66, 66, 66, 66, 81, 89, 98, 107, 107, 125, 133, 144, 144] : Array Int)[(z9 - 0).toNat]? = some 66 := by
      have hz3 : z9 = 0 ∨ z9 = 1 ∨ z9 = 2 ∨ z9 = 3 := by omega
      rcases hz3 with rfl | rfl | rfl | rfl <;> rfl
    refine j_tswIn C ⟨by omega, by omega⟩ ⟨by omega, by omega⟩ (off := 66) hof (tgt := 96) (by decide) dL_acts_30 ?_
    have q1 := ra 3 (by decide)
    have q2 := rb 9 (by decide)
    refine j_aload0 C dL_acts_96 ?_
    refine j_iload3 C dL_acts_97 ?_
    refine j_iconst C dL_acts_98 ?_
    refine j_irem C ⟨by omega, by omega⟩ ⟨by decide, by decide⟩ dL_acts_99 ?_
    refine j_iconst C dL_acts_100 ?_
    refine j_iload4 C dL_acts_101 ?_
    refine j_bipush C (by decide) dL_acts_103 ?_
    refine j_irem C ⟨by omega, by omega⟩ ⟨by decide, by decide⟩ dL_acts_105 ?_
    refine j_iadd C dL_acts_106 ?_
    refine j_d_call C hK3 (Nat.le_refl _) Kl.k0 hsl hV (by omega) ⟨by omega, by omega⟩ ⟨by omega, by omega⟩ kL_132 (by decide) rfl (Nat.le_of_ble_eq_true rfl) ⟨by decide, by decide⟩ dL_acts_107 (fun z W hz hd hk => ?_)
    refine j_widen (ce' := 40) (sl' := 300) (by decide) (by decide) ?_
    exact j_iret C hrt dL_acts_110 hz (hd.ap hM)
  · -- member
    subst hcs
    refine j_tswIn C (by decide) (by decide) (off := 81) rfl (tgt := 111) (by decide) dL_acts_30 ?_
    have q1 := ra 3 (by decide)
    refine j_aload0 C dL_acts_111 ?_
    refine j_iload3 C dL_acts_112 ?_
    refine j_iconst C dL_acts_113 ?_
    refine j_irem C ⟨by omega, by omega⟩ ⟨by decide, by decide⟩ dL_acts_114 ?_
    refine j_d_member C hK3 (Nat.le_refl _) Kl.k0 hsl hV (by omega) ⟨by omega, by omega⟩ kL_120 (by decide) rfl (Nat.le_of_ble_eq_true rfl) ⟨by decide, by decide⟩ dL_acts_115 (fun z W hz hd hk => ?_)
    refine j_widen (ce' := 40) (sl' := 300) (by decide) (by decide) ?_
    exact j_iret C hrt dL_acts_118 hz (hd.ap hM)
  · -- leave
    subst hcs
    refine j_tswIn C (by decide) (by decide) (off := 89) rfl (tgt := 119) (by decide) dL_acts_30 ?_
    have q1 := ra 11 (by decide)
    refine j_aload0 C dL_acts_119 ?_
    refine j_iload3 C dL_acts_120 ?_
    refine j_bipush C (by decide) dL_acts_121 ?_
    refine j_irem C ⟨by omega, by omega⟩ ⟨by decide, by decide⟩ dL_acts_123 ?_
    refine j_d_leave C hK3 (Nat.le_refl _) Kl.k0 hsl hV (by omega) ⟨by omega, by omega⟩ kL_135 (by decide) rfl (Nat.le_of_ble_eq_true rfl) ⟨by decide, by decide⟩ dL_acts_124 (fun z W hz hd hk => ?_)
    refine j_widen (ce' := 40) (sl' := 300) (by decide) (by decide) ?_
    exact j_iret C hrt dL_acts_127 hz (hd.ap hM)
  · -- train
    subst hcs
    refine j_tswIn C (by decide) (by decide) (off := 98) rfl (tgt := 128) (by decide) dL_acts_30 ?_
    have q1 := ra 11 (by decide)
    refine j_aload0 C dL_acts_128 ?_
    refine j_iload3 C dL_acts_129 ?_
    refine j_bipush C (by decide) dL_acts_130 ?_
    refine j_irem C ⟨by omega, by omega⟩ ⟨by decide, by decide⟩ dL_acts_132 ?_
    refine j_d_train C hK3 (Nat.le_refl _) Kl.k0 hsl hV (by omega) ⟨by omega, by omega⟩ kL_137 (by decide) rfl (Nat.le_of_ble_eq_true rfl) ⟨by decide, by decide⟩ dL_acts_133 (fun z W hz hd hk => ?_)
    refine j_widen (ce' := 40) (sl' := 300) (by decide) (by decide) ?_
    exact j_iret C hrt dL_acts_136 hz (hd.ap hM)
  · -- borrow
    have hof : (#[66, 66, 66, 66, 81, 89, 98, 107, 107, 125, 133, 144, 144] : Array Int)[(z9 - 0).toNat]? = some 107 := by
      have hz3 : z9 = 7 ∨ z9 = 8 := by omega
      rcases hz3 with rfl | rfl <;> rfl
    refine j_tswIn C ⟨by omega, by omega⟩ ⟨by omega, by omega⟩ (off := 107) hof (tgt := 137) (by decide) dL_acts_30 ?_
    have q1 := ra 9 (by decide)
    have q2 := rb 30 (by decide)
    refine j_aload0 C dL_acts_137 ?_
    refine j_iconst C dL_acts_138 ?_
    refine j_iload3 C dL_acts_139 ?_
    refine j_bipush C (by decide) dL_acts_140 ?_
    refine j_irem C ⟨by omega, by omega⟩ ⟨by decide, by decide⟩ dL_acts_142 ?_
    refine j_iadd C dL_acts_143 ?_
    refine j_iconst C dL_acts_144 ?_
    refine j_iload4 C dL_acts_145 ?_
    refine j_bipush C (by decide) dL_acts_147 ?_
    refine j_irem C ⟨by omega, by omega⟩ ⟨by decide, by decide⟩ dL_acts_149 ?_
    refine j_iadd C dL_acts_150 ?_
    refine j_d_borrow C hK3 (Nat.le_refl _) Kl.k0 hsl hV (by omega) ⟨by omega, by omega⟩ ⟨by omega, by omega⟩ kL_126 (by decide) rfl (Nat.le_of_ble_eq_true rfl) ⟨by decide, by decide⟩ dL_acts_151 (fun z W hz hd hk => ?_)
    refine j_widen (ce' := 40) (sl' := 300) (by decide) (by decide) ?_
    exact j_iret C hrt dL_acts_154 hz (hd.ap hM)
  · -- giveBack
    subst hcs
    refine j_tswIn C (by decide) (by decide) (off := 125) rfl (tgt := 155) (by decide) dL_acts_30 ?_
    have q1 := ra 5 (by decide)
    refine j_aload0 C dL_acts_155 ?_
    refine j_iload3 C dL_acts_156 ?_
    refine j_iconst C dL_acts_157 ?_
    refine j_irem C ⟨by omega, by omega⟩ ⟨by decide, by decide⟩ dL_acts_158 ?_
    refine j_d_giveBack C hK3 (Nat.le_refl _) Kl.k0 hsl hV (by omega) ⟨by omega, by omega⟩ kL_139 (by decide) rfl (Nat.le_of_ble_eq_true rfl) ⟨by decide, by decide⟩ dL_acts_159 (fun z W hz hd hk => ?_)
    refine j_widen (ce' := 40) (sl' := 300) (by decide) (by decide) ?_
    exact j_iret C hrt dL_acts_162 hz (hd.ap hM)
  · -- limit
    subst hcs
    refine j_tswIn C (by decide) (by decide) (off := 133) rfl (tgt := 163) (by decide) dL_acts_30 ?_
    have q1 := ra 20 (by decide)
    refine j_aload0 C dL_acts_163 ?_
    refine j_iconst C dL_acts_164 ?_
    refine j_iload3 C dL_acts_165 ?_
    refine j_bipush C (by decide) dL_acts_166 ?_
    refine j_irem C ⟨by omega, by omega⟩ ⟨by decide, by decide⟩ dL_acts_168 ?_
    refine j_iadd C dL_acts_169 ?_
    refine j_d_limit C hK3 (Nat.le_refl _) Kl.k0 hsl hV (by omega) ⟨by omega, by omega⟩ kL_128 (by decide) rfl (Nat.le_of_ble_eq_true rfl) ⟨by decide, by decide⟩ dL_acts_170 (fun z W hz hd hk => ?_)
    refine j_widen (ce' := 40) (sl' := 300) (by decide) (by decide) ?_
    exact j_iret C hrt dL_acts_173 hz (hd.ap hM)
  · -- TEXT
    have hof : (#[66, 66, 66, 66, 81, 89, 98, 107, 107, 125, 133, 144, 144] : Array Int)[(z9 - 0).toNat]? = some 144 := by
      have hz3 : z9 = 11 ∨ z9 = 12 := by omega
      rcases hz3 with rfl | rfl <;> rfl
    refine j_tswIn C ⟨by omega, by omega⟩ ⟨by omega, by omega⟩ (off := 144) hof (tgt := 174) (by decide) dL_acts_30 ?_
    obtain ⟨a8, rfl⟩ := Int.eq_ofNat_of_zero_le ha9.1
    obtain ⟨b8, rfl⟩ := Int.eq_ofNat_of_zero_le hb9.1
    have hDa : ∀ v : Nat, (if v < 10 then 1 else 2) ≤ 2 := fun v => by split <;> decide
    have ea : (1 : Int) + (a8 : Int) % 20 = ((1 + a8 % 20 : Nat) : Int) := by omega
    have ea2 : (1 : Int) + (a8 : Int) % 9 = ((1 + a8 % 9 : Nat) : Int) := by omega
    have eb : (b8 : Int) % 3 = ((b8 % 3 : Nat) : Int) := by omega
    have eb3 : (1 : Int) + (b8 : Int) % 30 = ((1 + b8 % 30 : Nat) : Int) := by omega
    have eb8 : (b8 : Int) % 8 = ((b8 % 8 : Nat) : Int) := by omega
    have h1 := hDa (1 + a8 % 20)
    have h2 := hDa (1 + b8 % 30)
    have p1 : b8 % 3 < 10 := by omega
    have p2 : 1 + a8 % 9 < 10 := by omega
    have p3 : b8 % 8 < 10 := by omega
    have fin : ∀ (p9 q9 : Nat), p9 ≤ 5 → q9 = 1 + (if 1 + a8 % 20 < 10 then 1 else 2) + 2 + 1 + 1 + p9 → (∀ (W : Wo), OB ω W 245 (1 + (if 1 + a8 % 20 < 10 then 1 else 2) + 2 + 1 + 1) → J Γ p l e (rmk 23 40 300) s mm args below meth c (MQ below (QI Γ (fun z W => AP M σ n0 hh z W) 243 kd) args s 40 300 (gA Γ)) 245 2 20 217 [some (.ref (rl Γ 0)), some (.ref b), some (.int (iI i9)), some (.int (iI (a8 : Int))), some (.int (iI (b8 : Int)))] [.ref (rl Γ 243), .ref (rl Γ 0)] W (kt p9 q9)) → J Γ p l e (rmk 23 40 300) s mm args below meth c (MQ below (QI Γ (fun z W => AP M σ n0 hh z W) 243 kd) args s 40 300 (gA Γ)) 243 0 0 174 [some (.ref (rl Γ 0)), some (.ref b), some (.int (iI i9)), some (.int (iI (a8 : Int))), some (.int (iI (b8 : Int)))] [] ω kd := by
      intro p9 q9 hp9 hq9 kx
      have hκ : ∀ n, n ≤ 251 → Kl (kt p9 q9) n := fun n hn => kt_l hn
      refine j_drop (κ' := kt p9 q9) (n' := 243) (Nat.le_refl _) Kl.k0 (hκ 243 (by decide)) ?_
      refine j_aload0 C dL_acts_174 ?_
      refine j_newG (kk := 8) C ((hX.1.hw.at rfl).g (by decide)) rfl uwJ4 tyJ4_ok (WS_of 955 (by decide +kernel)) (WS_of 830 (by decide +kernel)) (WS_of 36 (by decide +kernel)) rfl (by decide) (hZ.at (by decide)).1 (hZ.at (by decide)).2 ⟨by decide, by decide⟩ dL_acts_175 ?_
      refine j_dup C rfl dL_acts_178 ?_
      refine j_ctorW (a := 243) (as := []) (n := 244) C (hX.1.hw.at rfl) (by decide) (c_sb (by decide) (by decide) (show At 244 243 8 (kt p9 q9) from ⟨by decide, by decide, rfl⟩) (hZ.at (by decide)).1 rfl (hZ.mono (by decide))) i_sb kL_143 ⟨by decide, by decide⟩ rfl rfl (Nat.le_of_ble_eq_true rfl) ⟨by decide, by decide⟩ dL_acts_179 ?_
      rintro _ rfl
      have o1 := OB.new hZ
      generalize wr ω 243 0 (some 244) = W1 at o1 ⊢
      refine j_ldcL (tx := "t") (q := 20) C (by decide) dL_acts_182 ?_
      refine j_cVE1 (a := 243) C (c_app4s (b := 244) (k := 1) (show At 245 243 8 (kt p9 q9) from ⟨by decide, by decide, rfl⟩) (show At 245 244 17 (kt p9 q9) from ⟨by decide, by decide, rfl⟩) (by decide) o1.2.2 (Or.inl ⟨0, by decide, rfl, rfl, rfl⟩) (by show _ + 1 ≤ 16; omega) (fun x hx hx2 e9 => hcon 0 (by decide) x hx (by omega) (by omega))) oJ4_append_15ec4 kL_146 ⟨_, rfl, rfl⟩ (show At 245 243 8 (kt p9 q9) from ⟨by decide, by decide, rfl⟩) ⟨by decide, by decide⟩ rfl (Nat.le_of_ble_eq_true rfl) ⟨by decide, by decide⟩ dL_acts_184 ?_
      rintro _ W2 ⟨rfl, w9⟩
      have o2 := o1.app (by decide) w9
      clear w9
      refine j_iconst C dL_acts_187 ?_
      refine j_iload3 C dL_acts_188 ?_
      refine j_bipush C (by decide) dL_acts_189 ?_
      refine j_irem C ⟨by omega, by omega⟩ ⟨by decide, by decide⟩ dL_acts_191 ?_
      refine j_iadd C dL_acts_192 ?_
      rw [ea]
      refine j_cVE1 (a := 243) C (c_app4i (b := 244) (show At 245 243 8 (kt p9 q9) from ⟨by decide, by decide, rfl⟩) (show At 245 244 17 (kt p9 q9) from ⟨by decide, by decide, rfl⟩) (by decide) o2.2.2 (v := 1 + a8 % 20) (by omega) (by omega)) oJ4_append_bf812 kL_149 ⟨_, rfl, rfl⟩ (show At 245 243 8 (kt p9 q9) from ⟨by decide, by decide, rfl⟩) ⟨by decide, by decide⟩ rfl (Nat.le_of_ble_eq_true rfl) ⟨by decide, by decide⟩ dL_acts_193 ?_
      rintro _ W3 ⟨rfl, w9⟩
      have o3 := o2.app (by decide) w9
      clear w9
      refine j_ldcL (tx := ";c") (q := 21) C (by decide) dL_acts_196 ?_
      refine j_cVE1 (a := 243) C (c_app4s (b := 244) (k := 2) (show At 245 243 8 (kt p9 q9) from ⟨by decide, by decide, rfl⟩) (show At 245 244 17 (kt p9 q9) from ⟨by decide, by decide, rfl⟩) (by decide) o3.2.2 (Or.inl ⟨1, by decide, rfl, rfl, rfl⟩) (by show _ + 2 ≤ 16; omega) (fun x hx hx2 e9 => hcon 1 (by decide) x hx (by omega) (by omega))) oJ4_append_15ec4 kL_146 ⟨_, rfl, rfl⟩ (show At 245 243 8 (kt p9 q9) from ⟨by decide, by decide, rfl⟩) ⟨by decide, by decide⟩ rfl (Nat.le_of_ble_eq_true rfl) ⟨by decide, by decide⟩ dL_acts_198 ?_
      rintro _ W4 ⟨rfl, w9⟩
      have o4 := o3.app (by decide) w9
      clear w9
      refine j_iload4 C dL_acts_201 ?_
      refine j_iconst C dL_acts_203 ?_
      refine j_irem C ⟨by omega, by omega⟩ ⟨by decide, by decide⟩ dL_acts_204 ?_
      rw [eb]
      refine j_cVE1 (a := 243) C (c_app4i (b := 244) (show At 245 243 8 (kt p9 q9) from ⟨by decide, by decide, rfl⟩) (show At 245 244 17 (kt p9 q9) from ⟨by decide, by decide, rfl⟩) (by decide) o4.2.2 (v := b8 % 3) (by omega) (by rw [if_pos p1]; omega)) oJ4_append_bf812 kL_149 ⟨_, rfl, rfl⟩ (show At 245 243 8 (kt p9 q9) from ⟨by decide, by decide, rfl⟩) ⟨by decide, by decide⟩ rfl (Nat.le_of_ble_eq_true rfl) ⟨by decide, by decide⟩ dL_acts_205 ?_
      rintro _ W5 ⟨rfl, w9⟩
      have o5 := o4.app (by decide) w9
      clear w9
      rw [if_pos p1] at o5
      refine j_iconst C dL_acts_208 ?_
      refine j_iload3 C dL_acts_209 ?_
      refine j_bipush C (by decide) dL_acts_210 ?_
      refine j_irem C ⟨by omega, by omega⟩ ⟨by decide, by decide⟩ dL_acts_212 ?_
      refine j_iadd C dL_acts_213 ?_
      rw [ea2]
      refine j_cVE1 (a := 243) C (c_app4i (b := 244) (show At 245 243 8 (kt p9 q9) from ⟨by decide, by decide, rfl⟩) (show At 245 244 17 (kt p9 q9) from ⟨by decide, by decide, rfl⟩) (by decide) o5.2.2 (v := 1 + a8 % 9) (by omega) (by rw [if_pos p2]; omega)) oJ4_append_bf812 kL_149 ⟨_, rfl, rfl⟩ (show At 245 243 8 (kt p9 q9) from ⟨by decide, by decide, rfl⟩) ⟨by decide, by decide⟩ rfl (Nat.le_of_ble_eq_true rfl) ⟨by decide, by decide⟩ dL_acts_214 ?_
      rintro _ W6 ⟨rfl, w9⟩
      have o6 := o5.app (by decide) w9
      clear w9
      rw [if_pos p2] at o6
      exact kx W6 o6
    by_cases hb0 : a8 % 3 = 0
    · refine fin (3 + (if 1 + b8 % 30 < 10 then 1 else 2)) _ (by omega) rfl (fun W o1 => ?_)
      generalize hq9 : 1 + (if 1 + a8 % 20 < 10 then 1 else 2) + 2 + 1 + 1 + (3 + (if 1 + b8 % 30 < 10 then 1 else 2)) = q9
      generalize hp9 : 3 + (if 1 + b8 % 30 < 10 then 1 else 2) = p9 at hq9
      have hp5 : p9 ≤ 5 := by omega
      have hκ : ∀ n, n ≤ 251 → Kl (kt p9 q9) n := fun n hn => kt_l hn
      refine j_iload3 C dL_acts_217 ?_
      refine j_iconst C dL_acts_218 ?_
      refine j_irem C ⟨by omega, by omega⟩ ⟨by decide, by decide⟩ dL_acts_219 ?_
      refine j_if_ne C ⟨by omega, by omega⟩ dL_acts_220 (fun hc => absurd hc (by omega)) (fun _ => ?_)
      refine j_newG (kk := 8) C ((hX.1.hw.at rfl).g (by decide)) rfl uwJ4 tyJ4_ok (WS_of 955 (by decide +kernel)) (WS_of 830 (by decide +kernel)) (WS_of 36 (by decide +kernel)) rfl (by decide) (o1.2.1.at (by decide)).1 (o1.2.1.at (by decide)).2 ⟨by decide, by decide⟩ dL_acts_223 ?_
      refine j_dup C rfl dL_acts_226 ?_
      refine j_ctorW (a := 245) (as := []) (n := 246) C (hX.1.hw.at rfl) (by decide) (c_sb (by decide) (by decide) (show At 246 245 8 (kt p9 q9) from ⟨by decide, by decide, rfl⟩) (o1.2.1.at (by decide)).1 rfl (o1.2.1.mono (by decide))) i_sb kL_143 ⟨by decide, by decide⟩ rfl rfl (Nat.le_of_ble_eq_true rfl) ⟨by first | decide | (show _ ≤ 40; omega), by first | decide | (simp [nf]; omega) | simp [nf]⟩ dL_acts_227 ?_
      rintro _ rfl
      obtain ⟨o2, s2⟩ := o1.in1
      generalize wr W 245 0 (some 246) = W2 at o2 s2 ⊢
      refine j_ldcL (tx := ";o3") (q := 22) C (by decide) dL_acts_230 ?_
      refine j_cVE1 (a := 245) C (c_app4s (b := 246) (k := 3) (show At 247 245 8 (kt p9 q9) from ⟨by decide, by decide, rfl⟩) (show At 247 246 17 (kt p9 q9) from ⟨by decide, by decide, rfl⟩) (by decide) s2 (Or.inl ⟨2, by decide, rfl, rfl, rfl⟩) (by show _ + 3 ≤ 16; omega) (fun x hx hx2 e9 => hcon 2 (by decide) x hx (by omega) (by omega))) oJ4_append_15ec4 kL_146 ⟨_, rfl, rfl⟩ (show At 247 245 8 (kt p9 q9) from ⟨by decide, by decide, rfl⟩) ⟨by decide, by decide⟩ rfl (Nat.le_of_ble_eq_true rfl) ⟨by first | decide | (show _ ≤ 40; omega), by first | decide | (simp [nf]; omega) | simp [nf]⟩ dL_acts_232 ?_
      rintro _ W3 ⟨rfl, w9⟩
      have o3 := o2.app2 w9
      have s3 := w9.2.2
      clear w9
      refine j_iconst C dL_acts_235 ?_
      refine j_iload4 C dL_acts_236 ?_
      refine j_bipush C (by decide) dL_acts_238 ?_
      refine j_irem C ⟨by omega, by omega⟩ ⟨by decide, by decide⟩ dL_acts_240 ?_
      refine j_iadd C dL_acts_241 ?_
      rw [eb3]
      refine j_cVE1 (a := 245) C (c_app4i (b := 246) (show At 247 245 8 (kt p9 q9) from ⟨by decide, by decide, rfl⟩) (show At 247 246 17 (kt p9 q9) from ⟨by decide, by decide, rfl⟩) (by decide) s3 (v := 1 + b8 % 30) (by omega) (by omega)) oJ4_append_bf812 kL_149 ⟨_, rfl, rfl⟩ (show At 247 245 8 (kt p9 q9) from ⟨by decide, by decide, rfl⟩) ⟨by decide, by decide⟩ rfl (Nat.le_of_ble_eq_true rfl) ⟨by first | decide | (show _ ≤ 40; omega), by first | decide | (simp [nf]; omega) | simp [nf]⟩ dL_acts_242 ?_
      rintro _ W4 ⟨rfl, w9⟩
      have o4 := o3.app2 w9
      have s4 := w9.2.2
      clear w9
      have s5 : SBg W4 245 246 p9 := by rw [← hp9]; exact (by simpa [Nat.add_assoc] using s4)
      refine j_cVW (a := 245) (as := []) (n := 247) C (hX.1.hw.at rfl) (by decide) (c_toS (n9 := p9) (by decide) (show At 247 245 8 (kt p9 q9) from ⟨by decide, by decide, rfl⟩) (show At 247 246 17 (kt p9 q9) from ⟨by decide, by decide, rfl⟩) s5 (by omega) rfl rfl o4.2.1) oJ4_toString_0e30d kL_156 ⟨_, rfl, rfl⟩ (show At 247 245 8 (kt p9 q9) from ⟨by decide, by decide, rfl⟩) ⟨by decide, by decide⟩ rfl rfl (Nat.le_of_ble_eq_true rfl) ⟨by first | decide | (show _ ≤ 40; omega), by first | decide | (simp [nf]; omega) | simp [nf]⟩ dL_acts_245 ?_
      rintro _ _ ⟨rfl, f, hf, rfl⟩
      have o5 := o4.str (f := f) (by decide)
      obtain ⟨t1, t2, t3⟩ := str_at (W := W4) (n := 247) (f := f)
      generalize wr (wf (wi W4 247 1 0) (247 + 1) f) 247 0 (some (247 + 1)) = W5 at o5 t1 t2 t3 ⊢
      refine j_goto C dL_acts_248 ?_
      refine j_cVE1 (a := 243) C (c_app4s (b := 244) (k := p9) (show At 249 243 8 (kt p9 q9) from ⟨by decide, by decide, rfl⟩) (show At 249 244 17 (kt p9 q9) from ⟨by decide, by decide, rfl⟩) (by decide) o5.2.2 (Or.inr ⟨247, 248, rfl, rfl, (show At 249 247 7 (kt p9 q9) from ⟨by decide, by decide, rfl⟩), (show At 249 248 (100 + p9) (kt p9 q9) from ⟨by decide, by decide, rfl⟩), t1, t2, fun j => by rw [t3]; exact hf j⟩) (by omega) (fun x hx hx2 e9 => by rw [e9, hr 5 (by decide), hr 1 (by decide)] at hx; omega)) oJ4_append_15ec4 kL_146 ⟨_, rfl, rfl⟩ (show At 249 243 8 (kt p9 q9) from ⟨by decide, by decide, rfl⟩) ⟨by decide, by decide⟩ rfl (Nat.le_of_ble_eq_true rfl) ⟨by first | decide | (show _ ≤ 40; omega), by first | decide | (simp [nf]; omega) | simp [nf]⟩ dL_acts_274 ?_
      rintro _ W6 ⟨rfl, w9⟩
      have o6 := o5.app (by decide) w9
      clear w9
      have s6 : SBg W6 243 244 q9 := by rw [← hq9, ← hp9]; rw [← hp9] at o6; exact o6.2.2
      refine j_cVW (a := 243) (as := []) (n := 249) C (hX.1.hw.at rfl) (by decide) (c_toS (n9 := q9) (by decide) (show At 249 243 8 (kt p9 q9) from ⟨by decide, by decide, rfl⟩) (show At 249 244 17 (kt p9 q9) from ⟨by decide, by decide, rfl⟩) s6 (by omega) rfl rfl o6.2.1) oJ4_toString_0e30d kL_156 ⟨_, rfl, rfl⟩ (show At 249 243 8 (kt p9 q9) from ⟨by decide, by decide, rfl⟩) ⟨by decide, by decide⟩ rfl rfl (Nat.le_of_ble_eq_true rfl) ⟨by first | decide | (show _ ≤ 40; omega), by first | decide | (simp [nf]; omega) | simp [nf]⟩ dL_acts_277 ?_
      rintro _ _ ⟨rfl, g, hg, rfl⟩
      have o7 := o6.str (f := g) (by decide)
      obtain ⟨y1, y2, y3⟩ := str_at (W := W6) (n := 249) (f := g)
      generalize wr (wf (wi W6 249 1 0) (249 + 1) g) 249 0 (some (249 + 1)) = W7 at o7 y1 y2 y3 ⊢
      refine j_cL (as := [.ref (rl Γ 0), .ref (rl Γ 249)]) (mc := 20) (ms := 120) (n := 251) C hK3 (c_does (b := 250) (k9 := q9) hsl (o7.inv hV) hM (by decide) (hκ 251 (by decide)) ⟨by decide, by decide⟩ (show At 251 249 7 (kt p9 q9) from ⟨by decide, by decide, rfl⟩) (show At 251 250 (100 + q9) (kt p9 q9) from ⟨by decide, by decide, rfl⟩) y1 y2 (fun j => by rw [y3]; exact hg j) (by omega)) Ex0.ex (fun _ _ _ _ _ _ _ => trivial) oL_does kL_162 ⟨by decide, by decide⟩ rfl rfl (Nat.le_of_ble_eq_true rfl) ⟨by first | decide | (show _ ≤ 40; omega), by first | decide | (simp [nf]; omega) | simp [nf]⟩ dL_acts_280 ?_
      intro z W8 hz hp
      refine j_drop (κ' := kd) (n' := 243) (by decide) (hκ 251 (by decide)) Kl.k0 ?_
      refine j_widen (ce' := 40) (sl' := 300) (by first | decide | (show _ ≤ 40; omega)) (by first | decide | (simp [nf]; omega) | simp [nf]) ?_
      exact j_iret C hrt dL_acts_283 hz hp
    · refine fin (3) _ (by omega) rfl (fun W o1 => ?_)
      generalize hq9 : 1 + (if 1 + a8 % 20 < 10 then 1 else 2) + 2 + 1 + 1 + (3) = q9
      generalize hp9 : 3 = p9 at hq9
      have hp5 : p9 ≤ 5 := by omega
      have hκ : ∀ n, n ≤ 251 → Kl (kt p9 q9) n := fun n hn => kt_l hn
      refine j_iload3 C dL_acts_217 ?_
      refine j_iconst C dL_acts_218 ?_
      refine j_irem C ⟨by omega, by omega⟩ ⟨by decide, by decide⟩ dL_acts_219 ?_
      refine j_if_ne C ⟨by omega, by omega⟩ dL_acts_220 (fun _ => ?_) (fun hc => absurd hc (by omega))
      refine j_newG (kk := 8) C ((hX.1.hw.at rfl).g (by decide)) rfl uwJ4 tyJ4_ok (WS_of 955 (by decide +kernel)) (WS_of 830 (by decide +kernel)) (WS_of 36 (by decide +kernel)) rfl (by decide) (o1.2.1.at (by decide)).1 (o1.2.1.at (by decide)).2 ⟨by decide, by decide⟩ dL_acts_251 ?_
      refine j_dup C rfl dL_acts_254 ?_
      refine j_ctorW (a := 245) (as := []) (n := 246) C (hX.1.hw.at rfl) (by decide) (c_sb (by decide) (by decide) (show At 246 245 8 (kt p9 q9) from ⟨by decide, by decide, rfl⟩) (o1.2.1.at (by decide)).1 rfl (o1.2.1.mono (by decide))) i_sb kL_143 ⟨by decide, by decide⟩ rfl rfl (Nat.le_of_ble_eq_true rfl) ⟨by first | decide | (show _ ≤ 40; omega), by first | decide | (simp [nf]; omega) | simp [nf]⟩ dL_acts_255 ?_
      rintro _ rfl
      obtain ⟨o2, s2⟩ := o1.in1
      generalize wr W 245 0 (some 246) = W2 at o2 s2 ⊢
      refine j_ldcL (tx := ";u") (q := 23) C (by decide) dL_acts_258 ?_
      refine j_cVE1 (a := 245) C (c_app4s (b := 246) (k := 2) (show At 247 245 8 (kt p9 q9) from ⟨by decide, by decide, rfl⟩) (show At 247 246 17 (kt p9 q9) from ⟨by decide, by decide, rfl⟩) (by decide) s2 (Or.inl ⟨3, by decide, rfl, rfl, rfl⟩) (by show _ + 2 ≤ 16; omega) (fun x hx hx2 e9 => hcon 3 (by decide) x hx (by omega) (by omega))) oJ4_append_15ec4 kL_146 ⟨_, rfl, rfl⟩ (show At 247 245 8 (kt p9 q9) from ⟨by decide, by decide, rfl⟩) ⟨by decide, by decide⟩ rfl (Nat.le_of_ble_eq_true rfl) ⟨by first | decide | (show _ ≤ 40; omega), by first | decide | (simp [nf]; omega) | simp [nf]⟩ dL_acts_260 ?_
      rintro _ W3 ⟨rfl, w9⟩
      have o3 := o2.app2 w9
      have s3 := w9.2.2
      clear w9
      refine j_iload4 C dL_acts_263 ?_
      refine j_bipush C (by decide) dL_acts_265 ?_
      refine j_irem C ⟨by omega, by omega⟩ ⟨by decide, by decide⟩ dL_acts_267 ?_
      rw [eb8]
      refine j_cVE1 (a := 245) C (c_app4i (b := 246) (show At 247 245 8 (kt p9 q9) from ⟨by decide, by decide, rfl⟩) (show At 247 246 17 (kt p9 q9) from ⟨by decide, by decide, rfl⟩) (by decide) s3 (v := b8 % 8) (by omega) (by rw [if_pos p3]; omega)) oJ4_append_bf812 kL_149 ⟨_, rfl, rfl⟩ (show At 247 245 8 (kt p9 q9) from ⟨by decide, by decide, rfl⟩) ⟨by decide, by decide⟩ rfl (Nat.le_of_ble_eq_true rfl) ⟨by first | decide | (show _ ≤ 40; omega), by first | decide | (simp [nf]; omega) | simp [nf]⟩ dL_acts_268 ?_
      rintro _ W4 ⟨rfl, w9⟩
      have o4 := o3.app2 w9
      have s4 := w9.2.2
      clear w9
      rw [if_pos p3] at s4
      have s5 : SBg W4 245 246 p9 := by rw [← hp9]; exact (by simpa [Nat.add_assoc] using s4)
      refine j_cVW (a := 245) (as := []) (n := 247) C (hX.1.hw.at rfl) (by decide) (c_toS (n9 := p9) (by decide) (show At 247 245 8 (kt p9 q9) from ⟨by decide, by decide, rfl⟩) (show At 247 246 17 (kt p9 q9) from ⟨by decide, by decide, rfl⟩) s5 (by omega) rfl rfl o4.2.1) oJ4_toString_0e30d kL_156 ⟨_, rfl, rfl⟩ (show At 247 245 8 (kt p9 q9) from ⟨by decide, by decide, rfl⟩) ⟨by decide, by decide⟩ rfl rfl (Nat.le_of_ble_eq_true rfl) ⟨by first | decide | (show _ ≤ 40; omega), by first | decide | (simp [nf]; omega) | simp [nf]⟩ dL_acts_271 ?_
      rintro _ _ ⟨rfl, f, hf, rfl⟩
      have o5 := o4.str (f := f) (by decide)
      obtain ⟨t1, t2, t3⟩ := str_at (W := W4) (n := 247) (f := f)
      generalize wr (wf (wi W4 247 1 0) (247 + 1) f) 247 0 (some (247 + 1)) = W5 at o5 t1 t2 t3 ⊢
      refine j_cVE1 (a := 243) C (c_app4s (b := 244) (k := p9) (show At 249 243 8 (kt p9 q9) from ⟨by decide, by decide, rfl⟩) (show At 249 244 17 (kt p9 q9) from ⟨by decide, by decide, rfl⟩) (by decide) o5.2.2 (Or.inr ⟨247, 248, rfl, rfl, (show At 249 247 7 (kt p9 q9) from ⟨by decide, by decide, rfl⟩), (show At 249 248 (100 + p9) (kt p9 q9) from ⟨by decide, by decide, rfl⟩), t1, t2, fun j => by rw [t3]; exact hf j⟩) (by omega) (fun x hx hx2 e9 => by rw [e9, hr 5 (by decide), hr 1 (by decide)] at hx; omega)) oJ4_append_15ec4 kL_146 ⟨_, rfl, rfl⟩ (show At 249 243 8 (kt p9 q9) from ⟨by decide, by decide, rfl⟩) ⟨by decide, by decide⟩ rfl (Nat.le_of_ble_eq_true rfl) ⟨by first | decide | (show _ ≤ 40; omega), by first | decide | (simp [nf]; omega) | simp [nf]⟩ dL_acts_274 ?_
      rintro _ W6 ⟨rfl, w9⟩
      have o6 := o5.app (by decide) w9
      clear w9
      have s6 : SBg W6 243 244 q9 := by rw [← hq9, ← hp9]; rw [← hp9] at o6; exact o6.2.2
      refine j_cVW (a := 243) (as := []) (n := 249) C (hX.1.hw.at rfl) (by decide) (c_toS (n9 := q9) (by decide) (show At 249 243 8 (kt p9 q9) from ⟨by decide, by decide, rfl⟩) (show At 249 244 17 (kt p9 q9) from ⟨by decide, by decide, rfl⟩) s6 (by omega) rfl rfl o6.2.1) oJ4_toString_0e30d kL_156 ⟨_, rfl, rfl⟩ (show At 249 243 8 (kt p9 q9) from ⟨by decide, by decide, rfl⟩) ⟨by decide, by decide⟩ rfl rfl (Nat.le_of_ble_eq_true rfl) ⟨by first | decide | (show _ ≤ 40; omega), by first | decide | (simp [nf]; omega) | simp [nf]⟩ dL_acts_277 ?_
      rintro _ _ ⟨rfl, g, hg, rfl⟩
      have o7 := o6.str (f := g) (by decide)
      obtain ⟨y1, y2, y3⟩ := str_at (W := W6) (n := 249) (f := g)
      generalize wr (wf (wi W6 249 1 0) (249 + 1) g) 249 0 (some (249 + 1)) = W7 at o7 y1 y2 y3 ⊢
      refine j_cL (as := [.ref (rl Γ 0), .ref (rl Γ 249)]) (mc := 20) (ms := 120) (n := 251) C hK3 (c_does (b := 250) (k9 := q9) hsl (o7.inv hV) hM (by decide) (hκ 251 (by decide)) ⟨by decide, by decide⟩ (show At 251 249 7 (kt p9 q9) from ⟨by decide, by decide, rfl⟩) (show At 251 250 (100 + q9) (kt p9 q9) from ⟨by decide, by decide, rfl⟩) y1 y2 (fun j => by rw [y3]; exact hg j) (by omega)) Ex0.ex (fun _ _ _ _ _ _ _ => trivial) oL_does kL_162 ⟨by decide, by decide⟩ rfl rfl (Nat.le_of_ble_eq_true rfl) ⟨by first | decide | (show _ ≤ 40; omega), by first | decide | (simp [nf]; omega) | simp [nf]⟩ dL_acts_280 ?_
      intro z W8 hz hp
      refine j_drop (κ' := kd) (n' := 243) (by decide) (hκ 251 (by decide)) Kl.k0 ?_
      refine j_widen (ce' := 40) (sl' := 300) (by first | decide | (show _ ≤ 40; omega)) (by first | decide | (simp [nf]; omega) | simp [nf]) ?_
      exact j_iret C hrt dL_acts_283 hz hp
  · -- pass
    refine j_tswOut C ⟨by omega, by omega⟩ (by omega) (tgt := 284) (by decide) dL_acts_30 ?_
    have q1 := ra 9 (by decide)
    refine j_aload0 C dL_acts_284 ?_
    refine j_iconst C dL_acts_285 ?_
    refine j_iload3 C dL_acts_286 ?_
    refine j_bipush C (by decide) dL_acts_287 ?_
    refine j_irem C ⟨by omega, by omega⟩ ⟨by decide, by decide⟩ dL_acts_289 ?_
    refine j_iadd C dL_acts_290 ?_
    refine j_d_pass C hK3 (Nat.le_refl _) Kl.k0 hsl hV (by omega) ⟨by omega, by omega⟩ kL_130 (by decide) rfl (Nat.le_of_ble_eq_true rfl) ⟨by decide, by decide⟩ dL_acts_291 (fun z W hz hd hk => ?_)
    refine j_widen (ce' := 40) (sl' := 300) (by decide) (by decide) ?_
    exact j_iret C hrt dL_acts_294 hz (hd.ap hM)
