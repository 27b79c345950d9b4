/-! the law's loop -/
theorem and63 (w : Int32) : ∃ x : Nat, x < 64 ∧ w &&& iI 63 = iI (x : Int) := by
  refine ⟨(w.toBitVec &&& 63#32).toNat, ?_, ?_⟩
  · rw [BitVec.toNat_and]; exact Nat.lt_of_le_of_lt Nat.and_le_right (by decide)
  · apply Int32.toBitVec_inj.mp
    rw [Int32.toBitVec_and]
    show w.toBitVec &&& 63#32 = BitVec.ofInt 32 (((w.toBitVec &&& 63#32).toNat : Nat) : Int)
    rw [BitVec.ofInt_natCast, BitVec.ofNat_toNat]
    simp
theorem rg_val (w : Int32) : Rg w.toInt := ⟨by have := w.le_toInt; simpa using this, by have := w.toInt_lt; simpa using this⟩
theorem iI_val (w : Int32) : w = iI w.toInt := (Int32.ofInt_toInt w).symm
set_option maxRecDepth 100000 in
set_option maxHeartbeats 4000000 in
theorem law_case {Γ : Ga} {p : Program} {l : Launch} {e : Env} {s : State} {m : MethodId} {args : Array Value} {below : List Frame} {meth : Method} {c : Code} {Q : State → Prop} {b Ls : Nat} {xs : Nat → Int32} {i M : Int} {ce sl : Nat} {ω : Wo} {u6 u7 u8 u9 : Option Value} {x : Nat} (hx : x < 64) (C : Cx Γ p l s m args meth c cL_law RL 10) (hK3 : Kt3 s) (hsl : l.stackTraces = false) (hX : va_X b Ls xs s s.heap) (hb : b < s.heap.size ∧ b < gB Γ) (hi : 0 ≤ i ∧ i + 3 ≤ (Ls : Int)) (hLs : Ls < 2000) (hI : INV M ω) (hM : M + 70000 ≤ 100000000) (hce : ce + 2 ≤ 603072 ∧ sl + 12 ≤ 7223402)
    (kx : ∀ (W : Wo) (u6 u7 u8 u9 : Option Value), INV (M + 70000) W → J Γ p l e R9 s m args below meth c Q 254 (ce + 2) (sl + 12) 2186 (Lw Γ b i u6 u7 u8 u9) [] W) : J Γ p l e R9 s m args below meth c Q 254 ce sl 44 (Lw Γ b i u6 u7 u8 u9) [.int (iI (x : Int))] ω := by
  have e1 : xs (i + 1).toNat = iI (xs (i + 1).toNat).toInt := iI_val _
  have e2 : xs (i + 2).toNat = iI (xs (i + 2).toNat).toInt := iI_val _
  have r1 : Rg (xs (i + 1).toNat).toInt := rg_val _
  have r2 : Rg (xs (i + 2).toNat).toInt := rg_val _
  by_cases h37 : 37 ≤ x
  · refine j_tswOut (tgt := 2186) C ⟨by omega, by omega⟩ (Or.inr (by omega)) (by decide) dL_law_44 ?_
    refine j_widen (ce' := ce + 2) (sl' := sl + 12) (by omega) (by omega) ?_
    exact kx ω _ _ _ _ (hI.qs (Qs.rf ω) ⟨by omega, hM⟩)
  have hd : x = 0 ∨ x = 1 ∨ x = 2 ∨ x = 3 ∨ x = 4 ∨ x = 5 ∨ x = 6 ∨ x = 7 ∨ x = 8 ∨ x = 9 ∨ x = 10 ∨ x = 11 ∨ x = 12 ∨ x = 13 ∨ x = 14 ∨ x = 15 ∨ x = 16 ∨ x = 17 ∨ x = 18 ∨ x = 19 ∨ x = 20 ∨ x = 21 ∨ x = 22 ∨ x = 23 ∨ x = 24 ∨ x = 25 ∨ x = 26 ∨ x = 27 ∨ x = 28 ∨ x = 29 ∨ x = 30 ∨ x = 31 ∨ x = 32 ∨ x = 33 ∨ x = 34 ∨ x = 35 ∨ x = 36 := by omega
  rcases hd with rfl | rfl | rfl | rfl | rfl | rfl | rfl | rfl | rfl | rfl | rfl | rfl | rfl | rfl | rfl | rfl | rfl | rfl | rfl | rfl | rfl | rfl | rfl | rfl | rfl | rfl | rfl | rfl | rfl | rfl | rfl | rfl | rfl | rfl | rfl | rfl | rfl
  · exact j_tswIn (tgt := 208) C ⟨by decide, by decide⟩ ⟨by decide, by decide⟩ (off := 164) rfl (by decide) dL_law_44 (L_0 u6 u7 u8 u9 C hK3 hsl hX hb hi hLs e1 e2 r1 r2 hI hM hce kx)
  · exact j_tswIn (tgt := 264) C ⟨by decide, by decide⟩ ⟨by decide, by decide⟩ (off := 220) rfl (by decide) dL_law_44 (L_1 u6 u7 u8 u9 C hK3 hsl hX hb hi hLs e1 e2 r1 r2 hI hM hce kx)
  · exact j_tswIn (tgt := 320) C ⟨by decide, by decide⟩ ⟨by decide, by decide⟩ (off := 276) rfl (by decide) dL_law_44 (L_2 u6 u7 u8 u9 C hK3 hsl hX hb hi hLs e1 e2 r1 r2 hI hM hce kx)
  · exact j_tswIn (tgt := 376) C ⟨by decide, by decide⟩ ⟨by decide, by decide⟩ (off := 332) rfl (by decide) dL_law_44 (L_3 u6 u7 u8 u9 C hK3 hsl hX hb hi hLs e1 e2 r1 r2 hI hM hce kx)
  · exact j_tswIn (tgt := 444) C ⟨by decide, by decide⟩ ⟨by decide, by decide⟩ (off := 400) rfl (by decide) dL_law_44 (L_4 u6 u7 u8 u9 C hK3 hsl hX hb hi hLs e1 e2 r1 r2 hI hM hce kx)
  · exact j_tswIn (tgt := 512) C ⟨by decide, by decide⟩ ⟨by decide, by decide⟩ (off := 468) rfl (by decide) dL_law_44 (L_5 u6 u7 u8 u9 C hK3 hsl hX hb hi hLs e1 e2 r1 r2 hI hM hce kx)
  · exact j_tswIn (tgt := 580) C ⟨by decide, by decide⟩ ⟨by decide, by decide⟩ (off := 536) rfl (by decide) dL_law_44 (L_6 u6 u7 u8 u9 C hK3 hsl hX hb hi hLs e1 e2 r1 r2 hI hM hce kx)
  · exact j_tswIn (tgt := 636) C ⟨by decide, by decide⟩ ⟨by decide, by decide⟩ (off := 592) rfl (by decide) dL_law_44 (L_7 u6 u7 u8 u9 C hK3 hsl hX hb hi hLs e1 e2 r1 r2 hI hM hce kx)
  · exact j_tswIn (tgt := 692) C ⟨by decide, by decide⟩ ⟨by decide, by decide⟩ (off := 648) rfl (by decide) dL_law_44 (L_8 u6 u7 u8 u9 C hK3 hsl hX hb hi hLs e1 e2 r1 r2 hI hM hce kx)
  · exact j_tswIn (tgt := 748) C ⟨by decide, by decide⟩ ⟨by decide, by decide⟩ (off := 704) rfl (by decide) dL_law_44 (L_9 u6 u7 u8 u9 C hK3 hsl hX hb hi hLs e1 e2 r1 r2 hI hM hce kx)
  · exact j_tswIn (tgt := 804) C ⟨by decide, by decide⟩ ⟨by decide, by decide⟩ (off := 760) rfl (by decide) dL_law_44 (L_10 u6 u7 u8 u9 C hK3 hsl hX hb hi hLs e1 e2 r1 r2 hI hM hce kx)
  · exact j_tswIn (tgt := 872) C ⟨by decide, by decide⟩ ⟨by decide, by decide⟩ (off := 828) rfl (by decide) dL_law_44 (L_11 u6 u7 u8 u9 C hK3 hsl hX hb hi hLs e1 e2 r1 r2 hI hM hce kx)
  · exact j_tswIn (tgt := 940) C ⟨by decide, by decide⟩ ⟨by decide, by decide⟩ (off := 896) rfl (by decide) dL_law_44 (L_12 u6 u7 u8 u9 C hK3 hsl hX hb hi hLs e1 e2 r1 r2 hI hM hce kx)
  · exact j_tswIn (tgt := 996) C ⟨by decide, by decide⟩ ⟨by decide, by decide⟩ (off := 952) rfl (by decide) dL_law_44 (L_13 u6 u7 u8 u9 C hK3 hsl hX hb hi hLs e1 e2 r1 r2 hI hM hce kx)
  · exact j_tswIn (tgt := 1009) C ⟨by decide, by decide⟩ ⟨by decide, by decide⟩ (off := 965) rfl (by decide) dL_law_44 (L_14 u6 u7 u8 u9 C hK3 hsl hX hb hi hLs e1 e2 r1 r2 hI hM hce kx)
  · exact j_tswIn (tgt := 1065) C ⟨by decide, by decide⟩ ⟨by decide, by decide⟩ (off := 1021) rfl (by decide) dL_law_44 (L_15 u6 u7 u8 u9 C hK3 hsl hX hb hi hLs e1 e2 r1 r2 hI hM hce kx)
  · exact j_tswIn (tgt := 1121) C ⟨by decide, by decide⟩ ⟨by decide, by decide⟩ (off := 1077) rfl (by decide) dL_law_44 (L_16 u6 u7 u8 u9 C hK3 hsl hX hb hi hLs e1 e2 r1 r2 hI hM hce kx)
  · exact j_tswIn (tgt := 1177) C ⟨by decide, by decide⟩ ⟨by decide, by decide⟩ (off := 1133) rfl (by decide) dL_law_44 (L_17 u6 u7 u8 u9 C hK3 hsl hX hb hi hLs e1 e2 r1 r2 hI hM hce kx)
  · exact j_tswIn (tgt := 1233) C ⟨by decide, by decide⟩ ⟨by decide, by decide⟩ (off := 1189) rfl (by decide) dL_law_44 (L_18 u6 u7 u8 u9 C hK3 hsl hX hb hi hLs e1 e2 r1 r2 hI hM hce kx)
  · exact j_tswIn (tgt := 1289) C ⟨by decide, by decide⟩ ⟨by decide, by decide⟩ (off := 1245) rfl (by decide) dL_law_44 (L_19 u6 u7 u8 u9 C hK3 hsl hX hb hi hLs e1 e2 r1 r2 hI hM hce kx)
  · exact j_tswIn (tgt := 1345) C ⟨by decide, by decide⟩ ⟨by decide, by decide⟩ (off := 1301) rfl (by decide) dL_law_44 (L_20 u6 u7 u8 u9 C hK3 hsl hX hb hi hLs e1 e2 r1 r2 hI hM hce kx)
  · exact j_tswIn (tgt := 1401) C ⟨by decide, by decide⟩ ⟨by decide, by decide⟩ (off := 1357) rfl (by decide) dL_law_44 (L_21 u6 u7 u8 u9 C hK3 hsl hX hb hi hLs e1 e2 r1 r2 hI hM hce kx)
  · exact j_tswIn (tgt := 1469) C ⟨by decide, by decide⟩ ⟨by decide, by decide⟩ (off := 1425) rfl (by decide) dL_law_44 (L_22 u6 u7 u8 u9 C hK3 hsl hX hb hi hLs e1 e2 r1 r2 hI hM hce kx)
  · exact j_tswIn (tgt := 1482) C ⟨by decide, by decide⟩ ⟨by decide, by decide⟩ (off := 1438) rfl (by decide) dL_law_44 (L_23 u6 u7 u8 u9 C hK3 hsl hX hb hi hLs e1 e2 r1 r2 hI hM hce kx)
  · exact j_tswIn (tgt := 1538) C ⟨by decide, by decide⟩ ⟨by decide, by decide⟩ (off := 1494) rfl (by decide) dL_law_44 (L_24 u6 u7 u8 u9 C hK3 hsl hX hb hi hLs e1 e2 r1 r2 hI hM hce kx)
  · exact j_tswIn (tgt := 1594) C ⟨by decide, by decide⟩ ⟨by decide, by decide⟩ (off := 1550) rfl (by decide) dL_law_44 (L_25 u6 u7 u8 u9 C hK3 hsl hX hb hi hLs e1 e2 r1 r2 hI hM hce kx)
  · exact j_tswIn (tgt := 1652) C ⟨by decide, by decide⟩ ⟨by decide, by decide⟩ (off := 1608) rfl (by decide) dL_law_44 (L_26 u6 u7 u8 u9 C hK3 hsl hX hb hi hLs e1 e2 r1 r2 hI hM hce kx)
  · exact j_tswIn (tgt := 1696) C ⟨by decide, by decide⟩ ⟨by decide, by decide⟩ (off := 1652) rfl (by decide) dL_law_44 (L_27 u6 u7 u8 u9 C hK3 hsl hX hb hi hLs e1 e2 r1 r2 hI hM hce kx)
  · exact j_tswIn (tgt := 1709) C ⟨by decide, by decide⟩ ⟨by decide, by decide⟩ (off := 1665) rfl (by decide) dL_law_44 (L_28 u6 u7 u8 u9 C hK3 hsl hX hb hi hLs e1 e2 r1 r2 hI hM hce kx)
  · exact j_tswIn (tgt := 1809) C ⟨by decide, by decide⟩ ⟨by decide, by decide⟩ (off := 1765) rfl (by decide) dL_law_44 (L_29 u6 u7 u8 u9 C hK3 hsl hX hb hi hLs e1 e2 r1 r2 hI hM hce kx)
  · exact j_tswIn (tgt := 1865) C ⟨by decide, by decide⟩ ⟨by decide, by decide⟩ (off := 1821) rfl (by decide) dL_law_44 (L_30 u6 u7 u8 u9 C hK3 hsl hX hb hi hLs e1 e2 r1 r2 hI hM hce kx)
  · exact j_tswIn (tgt := 1921) C ⟨by decide, by decide⟩ ⟨by decide, by decide⟩ (off := 1877) rfl (by decide) dL_law_44 (L_31 u6 u7 u8 u9 C hK3 hsl hX hb hi hLs e1 e2 r1 r2 hI hM hce kx)
  · exact j_tswIn (tgt := 1986) C ⟨by decide, by decide⟩ ⟨by decide, by decide⟩ (off := 1942) rfl (by decide) dL_law_44 (L_32 u6 u7 u8 u9 C hK3 hsl hX hb hi hLs e1 e2 r1 r2 hI hM hce kx)
  · exact j_tswIn (tgt := 2029) C ⟨by decide, by decide⟩ ⟨by decide, by decide⟩ (off := 1985) rfl (by decide) dL_law_44 (L_33 u6 u7 u8 u9 C hK3 hsl hX hb hi hLs e1 e2 r1 r2 hI hM hce kx)
  · exact j_tswIn (tgt := 2085) C ⟨by decide, by decide⟩ ⟨by decide, by decide⟩ (off := 2041) rfl (by decide) dL_law_44 (L_34 u6 u7 u8 u9 C hK3 hsl hX hb hi hLs e1 e2 r1 r2 hI hM hce kx)
  · exact j_tswIn (tgt := 2129) C ⟨by decide, by decide⟩ ⟨by decide, by decide⟩ (off := 2085) rfl (by decide) dL_law_44 (L_35 u6 u7 u8 u9 C hK3 hsl hX hb hi hLs e1 e2 r1 r2 hI hM hce kx)
  · exact j_tswIn (tgt := 2142) C ⟨by decide, by decide⟩ ⟨by decide, by decide⟩ (off := 2098) rfl (by decide) dL_law_44 (L_36 u6 u7 u8 u9 C hK3 hsl hX hb hi hLs e1 e2 r1 r2 hI hM hce kx)
set_option maxRecDepth 100000 in
set_option maxHeartbeats 4000000 in
theorem law_loop {Γ : Ga} {p : Program} {l : Launch} {e : Env} {s : State} {m : MethodId} {below : List Frame} {meth : Method} {c : Code} {b Ls : Nat} {xs : Nat → Int32} (C : Cx Γ p l s m #[Value.ref b] meth c cL_law RL 10) (hK3 : Kt3 s) (hsl : l.stackTraces = false) (hX : va_X b Ls xs s s.heap) (hb : b < s.heap.size ∧ b < gB Γ) (hLs : Ls ≤ 1536) (hr : meth.sig.returnType = ret) (hg : s.heap.size ≤ gB Γ) :
    ∀ (N j : Nat) (ω : Wo) (u6 u7 u8 u9 : Option Value), Ls - 3 * j < N → j ≤ 512 → INV (1000 + 70000 * (j : Int)) ω → J Γ p l e R9 s m #[Value.ref b] below meth c (lw_Z below #[Value.ref b] s) 254 (254 + 2 * j) (4000 + 12 * j) 28 (Lw Γ b ((3 * j : Nat) : Int) u6 u7 u8 u9) [] ω := by
  intro N
  induction N with
  | zero => intro j ω u6 u7 u8 u9 hN; exact absurd hN (Nat.not_lt_zero _)
  | succ N ih =>
    intro j ω u6 u7 u8 u9 hN hj hI
    show J Γ p l e R9 s m #[Value.ref b] below meth c (lw_Z below #[Value.ref b] s) 254 (254 + 2 * j) (4000 + 12 * j) 28 [some (.ref b), some (.ref (rl Γ 0)), some (.ref (rl Γ 243)), some (.ref (rl Γ 252)), some (.ref (rl Γ 253)), some (.int (iI ((3 * j : Nat) : Int))), u6, u7, u8, u9] [] ω
    refine j_iload5 C dL_law_28 ?_
    refine j_aload0 C dL_law_30 ?_
    refine j_slen C hX hb dL_law_31 ?_
    refine j_iconst C dL_law_32 ?_
    refine j_isub C dL_law_33 ?_
    refine j_icmp_gt C ⟨by omega, by omega⟩ ⟨by omega, by omega⟩ dL_law_34 (fun hc => ?_) (fun hc => ?_)
    · refine j_iconst C dL_law_2192 ?_
      exact j_lret C hr hg ⟨by omega, by omega⟩ dL_law_2193
    · refine j_aload0 C dL_law_37 ?_
      refine j_iload5 C dL_law_38 ?_
      refine j_sldv C hX hb ⟨by omega, by omega⟩ (by omega) (iI_val _) dL_law_40 ?_
      refine j_bipush C (by decide) dL_law_41 ?_
      refine j_iandR C dL_law_43 ?_
      obtain ⟨x, hx, ex⟩ := and63 (iI (xs ((3 * j : Nat) : Int).toNat).toInt)
      rw [ex]
      refine law_case (M := 1000 + 70000 * (j : Int)) hx C hK3 hsl hX hb ⟨by omega, by omega⟩ (by omega) hI (by omega) ⟨by omega, by omega⟩ (fun W w6 w7 w8 w9 hW => ?_)
      show J Γ p l e R9 s m #[Value.ref b] below meth c (lw_Z below #[Value.ref b] s) 254 (254 + 2 * j + 2) (4000 + 12 * j + 12) 2186 [some (.ref b), some (.ref (rl Γ 0)), some (.ref (rl Γ 243)), some (.ref (rl Γ 252)), some (.ref (rl Γ 253)), some (.int (iI ((3 * j : Nat) : Int))), w6, w7, w8, w9] [] W
      refine j_iinc5 C rfl dL_law_2186 ?_
      refine j_goto C dL_law_2189 ?_
      have hW2 : INV (1000 + 70000 * ((j + 1 : Nat) : Int)) W := by
        rw [show (1000 : Int) + 70000 * ((j + 1 : Nat) : Int) = 1000 + 70000 * (j : Int) + 70000 by omega]; exact hW
      have k := ih (j + 1) W w6 w7 w8 w9 (by omega) (by omega) hW2
      rw [show ((3 * (j + 1) : Nat) : Int) = ((3 * j : Nat) : Int) + 3 by omega, show 254 + 2 * (j + 1) = 254 + 2 * j + 2 by omega, show 4000 + 12 * (j + 1) = 4000 + 12 * j + 12 by omega] at k
      exact k
