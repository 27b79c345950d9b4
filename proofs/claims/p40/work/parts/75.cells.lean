/-! the law's small methods -/
def xo (a b : Int) : Int := (iI a ^^^ iI b).toInt
theorem xo_rg (a b : Int) : Rg (xo a b) := iI_rg _
def us (a b : Int) : Int := (ushr (iI a) (iI b)).toInt
theorem and31 (x : Int32) : ∃ k : Nat, k < 2147483648 ∧ x &&& iI 2147483647 = iI (k : Int) := by
  refine ⟨(x.toBitVec &&& 2147483647#32).toNat, ?_, ?_⟩
  · rw [BitVec.toNat_and]
    exact Nat.lt_of_le_of_lt Nat.and_le_right (by decide)
  · rw [iI_nat]
    apply Int32.toBitVec_inj.mp
    have h1 : (iI 2147483647).toBitVec = 2147483647#32 := by decide
    rw [Int32.toBitVec_and, h1]
    simp [nI, Int32.toBitVec_ofNat]
section CELLS
variable {κ : Nat → Nat} {Γ : Ga} {p : Program} {l : Launch} {e : Env} {R : Room} {s : State} {m : MethodId} {args : Array Value} {below : List Frame} {meth : Method} {c : Code} {Q : State → Prop} {n ce sl : Nat} {cc : ByteArray} {own : String} {nL pc pc' idx a kk k : Nat} {L : List (Option Value)} {S : List Value} {ω : Wo}
theorem j_ixorG (C : Cx Γ p l s m args meth c cc own nL) {a b : Int} (d : Dx cc pc (.ixor) 1 pc') (kk : J Γ p l e R s m args below meth c Q n ce sl pc' L (.int (iI (xo a b)) :: S) ω κ) : J Γ p l e R s m args below meth c Q n ce sl pc L (.int (iI b) :: .int (iI a) :: S) ω κ := by
  intro H locs ls hP hS hl
  obtain ⟨hd, rfl⟩ := d
  refine lv_ixor C.1 C.2.1 hd ?_
  have := kk H locs ls hP hS hl
  unfold xo at this
  rw [iI_self] at this
  exact this
theorem j_iushrG (C : Cx Γ p l s m args meth c cc own nL) {a b : Int} (d : Dx cc pc (.iushr) 1 pc') (kk : J Γ p l e R s m args below meth c Q n ce sl pc' L (.int (iI (us a b)) :: S) ω κ) : J Γ p l e R s m args below meth c Q n ce sl pc L (.int (iI b) :: .int (iI a) :: S) ω κ := by
  refine j_iushrR C d ?_
  unfold us at kk
  rw [iI_self] at kk
  exact kk
theorem j_iand31 (C : Cx Γ p l s m args meth c cc own nL) {a : Int} (d : Dx cc pc (.iand) 1 pc') (kk : ∀ k : Nat, k < 2147483648 → J Γ p l e R s m args below meth c Q n ce sl pc' L (.int (iI (k : Int)) :: S) ω κ) : J Γ p l e R s m args below meth c Q n ce sl pc L (.int (iI 2147483647) :: .int (iI a) :: S) ω κ := by
  refine j_iandR C d ?_
  obtain ⟨k, h1, h2⟩ := and31 (iI a)
  rw [h2]; exact kk k h1
theorem j_sldS {b Ls : Nat} {xs : Nat → Int32} {i : Int} (C : Cx Γ p l s m args meth c cc own nL) (hX : Sc Γ b Ls xs s) (hi : 0 ≤ i ∧ i < (Ls : Int)) (hLs : Ls < 2000) (d : Dx cc pc (.iaload) 1 pc') (kx : J Γ p l e R s m args below meth c Q n ce sl pc' L (.int (iI (xs i.toNat).toInt) :: S) ω κ) : J Γ p l e R s m args below meth c Q n ce sl pc L (.int (iI i) :: .ref b :: S) ω κ := by
  intro H locs ls hP hS hl
  obtain ⟨hd, rfl⟩ := d
  refine va_sld C.1 C.2.1 hX.1 hX.2.1 hX.2.2 hS (iI_in hi (by omega)) hd ?_
  rw [iI_cl ⟨hi.1, by omega⟩]
  have := kx H locs ls hP hS hl
  rw [iI_self] at this
  exact this
theorem j_slenS {b Ls : Nat} {xs : Nat → Int32} (C : Cx Γ p l s m args meth c cc own nL) (hX : Sc Γ b Ls xs s) (d : Dx cc pc (.arraylength) 1 pc') (kx : J Γ p l e R s m args below meth c Q n ce sl pc' L (.int (iI (Ls : Int)) :: S) ω κ) : J Γ p l e R s m args below meth c Q n ce sl pc L (.ref b :: S) ω κ := by
  intro H locs ls hP hS hl
  obtain ⟨hd, rfl⟩ := d
  have := kx H locs ls hP hS hl
  rw [iI_nat] at this
  exact va_slen C.1 C.2.1 hX.1 hX.2.1 hX.2.2 hS hd this
theorem j_ilenK {N : Nat} (C : Cx Γ p l s m args meth c cc own nL) (ha : At n a kk κ) (hk : arrI kk = true ∧ tyk kk = 0) (hN : lnk kk = N) (hNs : N < 2147483648) (d : Dx cc pc .arraylength 1 pc') (kx : J Γ p l e R s m args below meth c Q n ce sl pc' L (.int (iI (N : Int)) :: S) ω κ) : J Γ p l e R s m args below meth c Q n ce sl pc L (.ref (rl Γ a) :: S) ω κ := by
  intro H locs ls hP hS hl
  have hw : (WL Γ n ω κ)[a]? = some (rl Γ a, .inl (gC Γ (tyk kk), lnk kk, .inl fun j => iI (ω.1 a j))) := by rw [WL_get ha.1, WE_int ha.2.2 hk.1]
  obtain ⟨hd, rfl⟩ := d
  exact va_alen C.1 C.2.1 C.2.2.2.2.2.1.1 hP.1 a (tyk kk) hw (by rw [hk.2]; rfl) (v := iI (N : Int)) (by rw [hN, iI_nat]; rfl) hd (kx H locs ls hP hS hl)
end CELLS
set_option maxRecDepth 100000 in
set_option maxHeartbeats 4000000 in
theorem c_cell {κ : Nat → Nat} {Γ : Ga} {l : Launch} {ω : Wo} {n : Nat} {b Ls : Nat} {xs : Nat → Int32} (hLs : Ls < 2000) {i : Int} (hi : 0 ≤ i ∧ i < 2000) : CL Γ l yL_cell cL_cell 3 .int 0 0 0 [.ref b, .int (iI i)] ω n κ (Sc Γ b Ls xs) (fun _ ω' => ω' = ω) := by
  refine MetL.ofJ (k := 1) [some (.ref b), some (.int (iI i)), none] (by decide) rfl rfl rfl (fun p e s mm args below meth c C hK3 hX hrt => ?_)
  refine j_ldc (z := 69069) C (WS_of 617 (by decide +kernel)) dL_cell_0 ?_
  refine j_iload1 C dL_cell_2 ?_
  refine j_aload0 C dL_cell_3 ?_
  refine j_slenS C hX dL_cell_4 ?_
  refine j_icmp_ge C ⟨by omega, by omega⟩ ⟨by omega, by omega⟩ dL_cell_5 (fun hc5 => ?_) (fun hc5 => ?_)
  · -- 5 t
    refine j_iconst C dL_cell_14 ?_
    refine j_sipush C (by decide) dL_cell_15 ?_
    refine j_iload1 C dL_cell_18 ?_
    refine j_imul C dL_cell_19 ?_
    refine j_iadd C dL_cell_20 ?_
    refine j_imul C dL_cell_21 ?_
    refine j_sipush C (by decide) dL_cell_22 ?_
    refine j_iadd C dL_cell_25 ?_
    refine j_istore2 C rfl dL_cell_26 ?_
    refine j_iload2 C dL_cell_27 ?_
    refine j_iload2 C dL_cell_28 ?_
    refine j_bipush C (by decide) dL_cell_29 ?_
    refine j_iushrG C dL_cell_31 ?_
    refine j_ixorG C dL_cell_32 ?_
    refine j_ldc (z := 1103515245) C (WS_of 618 (by decide +kernel)) dL_cell_33 ?_
    refine j_imul C dL_cell_35 ?_
    refine j_istore2 C rfl dL_cell_36 ?_
    refine j_iload2 C dL_cell_37 ?_
    refine j_iload2 C dL_cell_38 ?_
    refine j_bipush C (by decide) dL_cell_39 ?_
    refine j_iushrG C dL_cell_41 ?_
    refine j_ixorG C dL_cell_42 ?_
    refine j_iret C hrt dL_cell_43 (xo_rg _ _) ?_
    rfl
  · -- 5 f
    refine j_aload0 C dL_cell_8 ?_
    refine j_iload1 C dL_cell_9 ?_
    refine j_sldS C hX ⟨by omega, by omega⟩ hLs dL_cell_10 ?_
    refine j_goto C dL_cell_11 ?_
    refine j_sipush C (by decide) dL_cell_15 ?_
    refine j_iload1 C dL_cell_18 ?_
    refine j_imul C dL_cell_19 ?_
    refine j_iadd C dL_cell_20 ?_
    refine j_imul C dL_cell_21 ?_
    refine j_sipush C (by decide) dL_cell_22 ?_
    refine j_iadd C dL_cell_25 ?_
    refine j_istore2 C rfl dL_cell_26 ?_
    refine j_iload2 C dL_cell_27 ?_
    refine j_iload2 C dL_cell_28 ?_
    refine j_bipush C (by decide) dL_cell_29 ?_
    refine j_iushrG C dL_cell_31 ?_
    refine j_ixorG C dL_cell_32 ?_
    refine j_ldc (z := 1103515245) C (WS_of 618 (by decide +kernel)) dL_cell_33 ?_
    refine j_imul C dL_cell_35 ?_
    refine j_istore2 C rfl dL_cell_36 ?_
    refine j_iload2 C dL_cell_37 ?_
    refine j_iload2 C dL_cell_38 ?_
    refine j_bipush C (by decide) dL_cell_39 ?_
    refine j_iushrG C dL_cell_41 ?_
    refine j_ixorG C dL_cell_42 ?_
    refine j_iret C hrt dL_cell_43 (xo_rg _ _) ?_
    rfl
set_option maxRecDepth 100000 in
set_option maxHeartbeats 4000000 in
theorem c_in {κ : Nat → Nat} {Γ : Ga} {l : Launch} {ω : Wo} {n : Nat} {b Ls : Nat} {xs : Nat → Int32} (hLs : Ls < 2000) {i mm9 : Int} (hi : 0 ≤ i ∧ i < 2000) (hm : 0 < mm9 ∧ mm9 < 2000) : CL Γ l yL_in cL_in 3 .int 1 0 0 [.ref b, .int (iI i), .int (iI mm9)] ω n κ (Sc Γ b Ls xs) (fun z ω' => (0 ≤ z ∧ z < mm9) ∧ ω' = ω) := by
  refine MetL.ofJ (k := 0) [some (.ref b), some (.int (iI i)), some (.int (iI mm9))] (by decide) rfl rfl rfl (fun p e s mm args below meth c C hK3 hX hrt => ?_)
  refine j_aload0 C dL_in_0 ?_
  refine j_iload1 C dL_in_1 ?_
  refine j_cL (as := [.ref b, .int (iI i)]) (S := []) C hK3 (c_cell hLs hi) Sc.ex (fun H locs U hP hS hU hW => hX.next hW hU hS) oL_cell kL_86 ⟨by decide, by decide⟩ rfl rfl (Nat.le_of_ble_eq_true rfl) ⟨by decide, by decide⟩ dL_in_2 ?_
  intro z1 _ hz1 e1
  cases e1
  refine j_ldc (z := 2147483647) C (WS_of 619 (by decide +kernel)) dL_in_5 ?_
  refine j_iand31 C dL_in_7 (fun k9 hk9 => ?_)
  refine j_iload2 C dL_in_8 ?_
  have h1 := Int.emod_nonneg (k9 : Int) (show mm9 ≠ 0 by omega)
  have h2 := Int.emod_lt_of_pos (k9 : Int) (show 0 < mm9 by omega)
  refine j_irem C ⟨by omega, by omega⟩ ⟨by omega, by omega⟩ dL_in_9 ?_
  refine j_iret C hrt dL_in_10 ⟨by omega, by omega⟩ ?_
  exact ⟨⟨h1, h2⟩, rfl⟩
set_option maxRecDepth 100000 in
set_option maxHeartbeats 4000000 in
theorem c_bits {Γ : Ga} {l : Launch} {ω : Wo} {x : Nat} (hx : x < 1024) : CL Γ l yL_bits cL_bits 1 .int 1 0 0 [.int (iI (x : Int))] ω 243 kd Ex0 (fun z ω' => z = (bitsN x : Int) ∧ ω' = ω) := by
  refine MetL.ofJ (k := 0) [some (.int (iI (x : Int)))] (by decide) rfl rfl rfl (fun p e s mm args below meth c C hK3 hX hrt => ?_)
  refine j_iload0 C dL_bits_0 ?_
  refine j_cSI1 C (c_J6_bitCount hx) oJ6_bitCount_0f7a4 kL_110 ⟨by decide, by decide⟩ rfl (Nat.le_of_ble_eq_true rfl) ⟨by decide, by decide⟩ dL_bits_1 ?_
  rintro _ _ hz4 ⟨rfl, rfl⟩
  refine j_iret C hrt dL_bits_4 hz4 ?_
  exact ⟨rfl, rfl⟩
set_option maxRecDepth 100000 in
set_option maxHeartbeats 4000000 in
theorem c_areAlike {κ : Nat → Nat} {Γ : Ga} {l : Launch} {ω : Wo} {n : Nat} {a1 a2 : Nat} (h1 : At n a1 26 κ) (h2 : At n a2 26 κ) : CL Γ l yL_areAlike cL_areAlike 3 .boolean 0 0 0 [.ref (rl Γ a1), .ref (rl Γ a2)] ω n κ Ex0 (fun z ω' => (z = 1 ↔ ∀ j, j < 200 → ω.1 a1 j = ω.1 a2 j) ∧ (z = 0 ∨ z = 1) ∧ ω' = ω) := by
  refine MetL.ofJ (k := 1) [some (.ref (rl Γ a1)), some (.ref (rl Γ a2)), none] (by decide) rfl rfl rfl (fun p e s mm args below meth c C hK3 hX hrt => ?_)
  refine j_iconst C dL_areAlike_0 ?_
  refine j_istore2 C rfl dL_areAlike_1 ?_
  have loop : ∀ (N k9 : Nat), 200 - k9 < N → k9 ≤ 200 → (∀ j, j < k9 → ω.1 a1 j = ω.1 a2 j) → J Γ p l e (rmk 0 0 0) s mm args below meth c (MQ below (QI Γ (fun z ω' => (z = 1 ↔ ∀ j, j < 200 → ω.1 a1 j = ω.1 a2 j) ∧ (z = 0 ∨ z = 1) ∧ ω' = ω) n κ) args s 0 0 (gA Γ)) n 0 0 2 [some (.ref (rl Γ a1)), some (.ref (rl Γ a2)), some (.int (iI (k9 : Int)))] [] ω κ := by
    intro N
    induction N with
    | zero => intro k9 hN; exact absurd hN (Nat.not_lt_zero _)
    | succ N ih =>
      intro k9 hN hk0 hq
      refine j_iload2 C dL_areAlike_2 ?_
      refine j_aload0 C dL_areAlike_3 ?_
      refine j_ilenK C h1 (by decide) (show lnk 26 = 200 from rfl) (by decide) dL_areAlike_4 ?_
      refine j_icmp_ge C ⟨by omega, by omega⟩ ⟨by omega, by omega⟩ dL_areAlike_5 (fun hc5 => ?_) (fun hc5 => ?_)
      · -- 5 t
        have hk9 : k9 = 200 := by omega
        refine j_iconst C dL_areAlike_25 ?_
        refine j_zret C hrt dL_areAlike_26 (Or.inr rfl) ?_
        exact ⟨⟨fun _ j hj => hq j (by omega), fun _ => rfl⟩, Or.inr rfl, rfl⟩
      · -- 5 f
        refine j_aload0 C dL_areAlike_8 ?_
        refine j_iload2 C dL_areAlike_9 ?_
        refine j_ialdK C h1 (by decide) (show lnk 26 = 200 from rfl) (by decide) rfl (show k9 < 200 by omega) dL_areAlike_10 (fun hr1 => ?_)
        refine j_aload1 C dL_areAlike_11 ?_
        refine j_iload2 C dL_areAlike_12 ?_
        refine j_ialdK C h2 (by decide) (show lnk 26 = 200 from rfl) (by decide) rfl (show k9 < 200 by omega) dL_areAlike_13 (fun hr2 => ?_)
        refine j_icmp_eq C hr1 hr2 dL_areAlike_14 (fun hc14 => ?_) (fun hc14 => ?_)
        · -- 14 t
          refine j_iinc2 C rfl dL_areAlike_19 ?_
          refine j_goto C dL_areAlike_22 ?_
          exact ih (k9 + 1) (by omega) (by omega) (fun j hj => by
            by_cases e : j = k9
            · rw [e]; exact hc14
            · exact hq j (by omega))
        · -- 14 f
          refine j_iconst C dL_areAlike_17 ?_
          refine j_zret C hrt dL_areAlike_18 (Or.inl rfl) ?_
          exact ⟨⟨fun q => absurd q (by decide), fun q => absurd (q k9 (by omega)) hc14⟩, Or.inl rfl, rfl⟩
  exact loop 201 0 (by omega) (by omega) (fun j hj => absurd hj (by omega))
