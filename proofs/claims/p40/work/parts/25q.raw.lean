/-! rows over plain ints; Integer.bitCount; a member of a set -/
section RAW
variable {κ : Nat → Nat} {Γ : Ga} {p : Program} {l : Launch} {e : Env} {R : Room} {s : State} {m : MethodId} {args : Array Value} {below : List Frame} {meth : Method} {c : Code} {Q : State → Prop} {n ce sl : Nat} {cc : ByteArray} {own : String} {nL pc pc' : Nat} {L : List (Option Value)} {S : List Value} {ω : Wo}
theorem j_isubR (C : Cx Γ p l s m args meth c cc own nL) {a b : Int32} (d : Dx cc pc (.isub) 1 pc') (kk : J Γ p l e R s m args below meth c Q n ce sl pc' L (.int (a - b) :: S) ω κ) : J Γ p l e R s m args below meth c Q n ce sl pc L (.int b :: .int a :: S) ω κ := by
  intro H locs ls hP hS hl; obtain ⟨hd, rfl⟩ := d; exact lv_isub C.1 C.2.1 hd (kk H locs ls hP hS hl)
theorem j_iaddR (C : Cx Γ p l s m args meth c cc own nL) {a b : Int32} (d : Dx cc pc (.iadd) 1 pc') (kk : J Γ p l e R s m args below meth c Q n ce sl pc' L (.int (a + b) :: S) ω κ) : J Γ p l e R s m args below meth c Q n ce sl pc L (.int b :: .int a :: S) ω κ := by
  intro H locs ls hP hS hl; obtain ⟨hd, rfl⟩ := d; exact lv_iadd C.1 C.2.1 hd (kk H locs ls hP hS hl)
theorem j_iandR (C : Cx Γ p l s m args meth c cc own nL) {a b : Int32} (d : Dx cc pc (.iand) 1 pc') (kk : J Γ p l e R s m args below meth c Q n ce sl pc' L (.int (a &&& b) :: S) ω κ) : J Γ p l e R s m args below meth c Q n ce sl pc L (.int b :: .int a :: S) ω κ := by
  intro H locs ls hP hS hl; obtain ⟨hd, rfl⟩ := d; exact lv_iand C.1 C.2.1 hd (kk H locs ls hP hS hl)
def ushr (x y : Int32) : Int32 := (x.toUInt32 >>> (y.toUInt32 &&& Int32.toUInt32 31)).toInt32
theorem j_iushrR (C : Cx Γ p l s m args meth c cc own nL) {a b : Int32} (d : Dx cc pc (.iushr) 1 pc') (kk : J Γ p l e R s m args below meth c Q n ce sl pc' L (.int (ushr a b) :: S) ω κ) : J Γ p l e R s m args below meth c Q n ce sl pc L (.int b :: .int a :: S) ω κ := by
  intro H locs ls hP hS hl; obtain ⟨hd, rfl⟩ := d; exact lv_iushr C.1 C.2.1 hd rfl (kk H locs ls hP hS hl)
theorem j_ldcw (C : Cx Γ p l s m args meth c cc own nL) {idx : Nat} {v : Int32} (h : Cond.constant own idx v ∈ WS) (d : Dx cc pc (.ldc_w idx) 3 pc') (kk : J Γ p l e R s m args below meth c Q n ce sl pc' L (.int v :: S) ω κ) : J Γ p l e R s m args below meth c Q n ce sl pc L S ω κ := by
  intro H locs ls hP hS hl; obtain ⟨hd, rfl⟩ := d; exact lv_ldcw C.1 C.2.1 C.2.2.2.1 (C.2.2.2.2.1 _ h) hd (kk H locs ls hP hS hl)
end RAW
def bc1 (i : Int32) : Int32 := i - (ushr i 1 &&& 1431655765)
def bc2 (i : Int32) : Int32 := (i &&& 858993459) + (ushr i 2 &&& 858993459)
def bc3 (i : Int32) : Int32 := (i + ushr i 4) &&& 252645135
def bc4 (i : Int32) : Int32 := i + ushr i 8
def bc5 (i : Int32) : Int32 := i + ushr i 16
theorem bc_ok : ∀ n, n < 1024 → (bc5 (bc4 (bc3 (bc2 (bc1 (nI n)))))) &&& 63 = nI (bitsN n) := by decide +kernel
theorem w265 : Cond.constant RJ6 265 1431655765 ∈ WS := WS_of 176 (by decide +kernel)
theorem w266 : Cond.constant RJ6 266 858993459 ∈ WS := WS_of 177 (by decide +kernel)
theorem w267 : Cond.constant RJ6 267 252645135 ∈ WS := WS_of 178 (by decide +kernel)
set_option maxRecDepth 100000 in
set_option maxHeartbeats 4000000 in
theorem c_J6_bitCount {Γ : Ga} {l : Launch} {ω : Wo} {x : Nat} (hx : x < 1024) : CI Γ l yJ6_bitCount_0f7a4 cJ6_bitCount_0f7a4 1 .int 0 [.int (iI (x : Int))] ω (fun z ω' => z = (bitsN x : Int) ∧ ω = ω') := by
  refine Met.ofJ (k := 0) [some (.int (iI (x : Int)))] (by decide) rfl rfl rfl (fun p e s mm args below meth c C hrt => ?_)
  refine j_iload0 C dJ6_bitCount_0f7a4_0 ?_
  refine j_iload0 C dJ6_bitCount_0f7a4_1 ?_
  refine j_iconst C dJ6_bitCount_0f7a4_2 ?_
  refine j_iushrR C dJ6_bitCount_0f7a4_3 ?_
  refine j_ldcw C w265 dJ6_bitCount_0f7a4_4 ?_
  refine j_iandR C dJ6_bitCount_0f7a4_7 ?_
  refine j_isubR C dJ6_bitCount_0f7a4_8 ?_
  refine j_conv rfl (S' := [.int (bc1 (nI x))]) (by rw [iI_nat]; rfl) rfl ?_
  refine j_istore0 C dJ6_bitCount_0f7a4_9 ?_
  refine j_iload0 C dJ6_bitCount_0f7a4_10 ?_
  refine j_ldcw C w266 dJ6_bitCount_0f7a4_11 ?_
  refine j_iandR C dJ6_bitCount_0f7a4_14 ?_
  refine j_iload0 C dJ6_bitCount_0f7a4_15 ?_
  refine j_iconst C dJ6_bitCount_0f7a4_16 ?_
  refine j_iushrR C dJ6_bitCount_0f7a4_17 ?_
  refine j_ldcw C w266 dJ6_bitCount_0f7a4_18 ?_
  refine j_iandR C dJ6_bitCount_0f7a4_21 ?_
  refine j_iaddR C dJ6_bitCount_0f7a4_22 ?_
  refine j_conv rfl (S' := [.int (bc2 (bc1 (nI x)))]) rfl rfl ?_
  refine j_istore0 C dJ6_bitCount_0f7a4_23 ?_
  refine j_iload0 C dJ6_bitCount_0f7a4_24 ?_
  refine j_iload0 C dJ6_bitCount_0f7a4_25 ?_
  refine j_iconst C dJ6_bitCount_0f7a4_26 ?_
  refine j_iushrR C dJ6_bitCount_0f7a4_27 ?_
  refine j_iaddR C dJ6_bitCount_0f7a4_28 ?_
  refine j_ldcw C w267 dJ6_bitCount_0f7a4_29 ?_
  refine j_iandR C dJ6_bitCount_0f7a4_32 ?_
  refine j_conv rfl (S' := [.int (bc3 (bc2 (bc1 (nI x))))]) rfl rfl ?_
  refine j_istore0 C dJ6_bitCount_0f7a4_33 ?_
  refine j_iload0 C dJ6_bitCount_0f7a4_34 ?_
  refine j_iload0 C dJ6_bitCount_0f7a4_35 ?_
  refine j_bipush C (by decide) dJ6_bitCount_0f7a4_36 ?_
  refine j_iushrR C dJ6_bitCount_0f7a4_38 ?_
  refine j_iaddR C dJ6_bitCount_0f7a4_39 ?_
  refine j_conv rfl (S' := [.int (bc4 (bc3 (bc2 (bc1 (nI x)))))]) rfl rfl ?_
  refine j_istore0 C dJ6_bitCount_0f7a4_40 ?_
  refine j_iload0 C dJ6_bitCount_0f7a4_41 ?_
  refine j_iload0 C dJ6_bitCount_0f7a4_42 ?_
  refine j_bipush C (by decide) dJ6_bitCount_0f7a4_43 ?_
  refine j_iushrR C dJ6_bitCount_0f7a4_45 ?_
  refine j_iaddR C dJ6_bitCount_0f7a4_46 ?_
  refine j_conv rfl (S' := [.int (bc5 (bc4 (bc3 (bc2 (bc1 (nI x))))))]) rfl rfl ?_
  refine j_istore0 C dJ6_bitCount_0f7a4_47 ?_
  refine j_iload0 C dJ6_bitCount_0f7a4_48 ?_
  refine j_bipush C (by decide) dJ6_bitCount_0f7a4_49 ?_
  refine j_iandR C dJ6_bitCount_0f7a4_51 ?_
  refine j_conv rfl (S' := [.int (iI (bitsN x : Int))]) (by rw [iI_nat, ← bc_ok x hx]; rfl) rfl ?_
  have hb : bitsN x ≤ 10 := bitsUp_rg x 10
  exact j_iret C hrt dJ6_bitCount_0f7a4_52 ⟨by omega, by omega⟩ ⟨rfl, rfl⟩
theorem and_pow {x k : Nat} : (x &&& 2 ^ k ≠ 0) ↔ x / 2 ^ k % 2 = 1 := by
  rw [bt1_tb]
  constructor
  · intro h
    refine Decidable.byContradiction fun q => h ?_
    refine Nat.eq_of_testBit_eq fun i => ?_
    rw [Nat.testBit_and, Nat.testBit_two_pow, Nat.zero_testBit]
    by_cases e : k = i
    · subst e; simp at q ⊢; exact q
    · simp [e]
  · intro h q
    have : (x &&& 2 ^ k).testBit k = false := by rw [q]; exact Nat.zero_testBit k
    rw [Nat.testBit_and, Nat.testBit_two_pow, h] at this
    simp at this
theorem pow_lt {k : Nat} (h : k < 31) : 2 ^ k < 2147483648 := Nat.lt_of_lt_of_le (Nat.pow_lt_pow_right (by decide) h) (by decide)
theorem and_lt {x y z : Nat} (h : x < z) : x &&& y < z := Nat.lt_of_le_of_lt Nat.and_le_left h
