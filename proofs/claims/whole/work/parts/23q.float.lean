/-! quotients of whole numbers are no NaN; rows with a double or a float -/
theorem n64_of {r : UInt64} (h : FP.Core.dIsNaN r = false) : vf_n64 r := by
  have h1 := (FP.Core.ne_nan r).mp ((FP.Core.notNaN_iff r).mp h)
  unfold vf_n64
  rw [UInt64.le_iff_toNat_le, UInt64.toNat_and]
  show r.toNat &&& (2 ^ 63 - 1) ≤ 9218868437227405312
  rw [Nat.and_two_pow_sub_one_eq_mod]
  exact h1
theorem n32_of {r : UInt32} (h : FP.Core.fIsNaN r = false) : vf_n32 r := by
  have h1 := (FP.Core.ne_nan32 r).mp ((FP.Core.notNaN_iff32 r).mp h)
  unfold vf_n32
  rw [UInt32.le_iff_toNat_le, UInt32.toNat_and]
  show r.toNat &&& (2 ^ 31 - 1) ≤ 2139095040
  rw [Nat.and_two_pow_sub_one_eq_mod]
  exact h1
theorem mean_out (a b : Int32) (hb : b ≠ 0) : FP.Core.dIsNaN (FP.Core.ddiv (FP.Core.i2d a) (FP.Core.i2d b)) = false :=
  FP.Core.ddiv_out ((FP.Core.notNaN_iff _).mpr (by obtain ⟨x, y, z, h⟩ := FP.Core.i2d_fin a; rw [h]; exact fun q => by cases q)) (FP.Core.i2d_fin b) (fun z => FP.Core.i2d_ne_zero hb ((FP.Core.zero_bits2 _).mp z))
theorem share_out (a b : Int32) (hb : b ≠ 0) : FP.Core.fIsNaN (FP.Core.fdiv (FP.Core.i2f a) (FP.Core.i2f b)) = false :=
  FP.Core.fdiv_out ((FP.Core.notNaN_iff32 _).mpr (by obtain ⟨x, y, z, h⟩ := FP.Core.i2f_fin a; rw [h]; exact fun q => by cases q)) (FP.Core.i2f_fin b) (fun z => FP.Core.i2f_ne_zero hb ((FP.Core.zero_bits232 _).mp z))
def meanV (a b : Int) : UInt64 := FP.ddiv (FP.i2d (iI a)) (FP.i2d (iI b))
def shareV (a b : Int) : UInt32 := FP.fdiv (FP.i2f (iI a)) (FP.i2f (iI b))
theorem mean_n {a b : Int} (hb : iI b ≠ 0) : vf_n64 (FP.ddiv (FP.i2d (iI a)) (FP.i2d (iI b))) := n64_of (mean_out _ _ hb)
theorem share_n {a b : Int} (hb : iI b ≠ 0) : vf_n32 (FP.fdiv (FP.i2f (iI a)) (FP.i2f (iI b))) := n32_of (share_out _ _ hb)
def QD (Γ : Ga) (Po : UInt64 → Wo → Prop) : Array Value → State → Outcome → State → Prop := va_Qd Po (Bx Γ) (gA Γ)
def QF (Γ : Ga) (Po : UInt32 → Wo → Prop) : Array Value → State → Outcome → State → Prop := va_Qf Po (Bx Γ) (gA Γ)
def CD (Γ : Ga) (l : Launch) (y : MethodName) (bytes : ByteArray) (maxL : Nat) (rt : FieldType) (d : Nat) (as : List Value) (ω : Wo) (Po : UInt64 → Wo → Prop) : Prop :=
  Met l y (.code y bytes maxL (some rt) :: WS) (rmk d 0 0) (Pcx Γ as ω) (QD Γ Po) 0 0 (gA Γ)
def CF (Γ : Ga) (l : Launch) (y : MethodName) (bytes : ByteArray) (maxL : Nat) (rt : FieldType) (d : Nat) (as : List Value) (ω : Wo) (Po : UInt32 → Wo → Prop) : Prop :=
  Met l y (.code y bytes maxL (some rt) :: WS) (rmk d 0 0) (Pcx Γ as ω) (QF Γ Po) 0 0 (gA Γ)
section FLT
variable {Γ : Ga} {p : Program} {l : Launch} {e : Env} {R : Room} {s : State} {m : MethodId} {args : Array Value} {below : List Frame} {meth : Method} {c : Code} {Q : State → Prop} {n ce sl : Nat} {cc : ByteArray} {own : String} {nL pc pc' : Nat} {L : List (Option Value)} {S : List Value} {ω : Wo}
theorem j_i2d (C : Cx Γ p l s m args meth c cc own nL) {x : Int32} (d : Dx cc pc (.i2d) 1 pc') (kk : J Γ p l e R s m args below meth c Q n ce sl pc' L (.double (FP.i2d x) :: S) ω) : J Γ p l e R s m args below meth c Q n ce sl pc L (.int x :: S) ω := by
  intro H locs ls hP hS hl
  obtain ⟨hd, rfl⟩ := d
  exact lv_i2d C.1 C.2.1 hd (kk H locs ls hP hS hl)
theorem j_i2f (C : Cx Γ p l s m args meth c cc own nL) {x : Int32} (d : Dx cc pc (.i2f) 1 pc') (kk : J Γ p l e R s m args below meth c Q n ce sl pc' L (.float (FP.i2f x) :: S) ω) : J Γ p l e R s m args below meth c Q n ce sl pc L (.int x :: S) ω := by
  intro H locs ls hP hS hl
  obtain ⟨hd, rfl⟩ := d
  exact lv_i2f C.1 C.2.1 hd (kk H locs ls hP hS hl)
theorem j_ddiv (C : Cx Γ p l s m args meth c cc own nL) {a b : Int} (hb : iI b ≠ 0) (d : Dx cc pc (.ddiv) 1 pc') (kk : J Γ p l e R s m args below meth c Q n ce sl pc' L (.double (meanV a b) :: S) ω) : J Γ p l e R s m args below meth c Q n ce sl pc L (.double (FP.i2d (iI b)) :: .double (FP.i2d (iI a)) :: S) ω := by
  intro H locs ls hP hS hl
  obtain ⟨hd, rfl⟩ := d
  exact lv_ddiv C.1 C.2.1 hd (mean_n hb) (kk H locs ls hP hS hl)
theorem j_fdiv (C : Cx Γ p l s m args meth c cc own nL) {a b : Int} (hb : iI b ≠ 0) (d : Dx cc pc (.fdiv) 1 pc') (kk : J Γ p l e R s m args below meth c Q n ce sl pc' L (.float (shareV a b) :: S) ω) : J Γ p l e R s m args below meth c Q n ce sl pc L (.float (FP.i2f (iI b)) :: .float (FP.i2f (iI a)) :: S) ω := by
  intro H locs ls hP hS hl
  obtain ⟨hd, rfl⟩ := d
  exact lv_fdiv C.1 C.2.1 hd (share_n hb) (kk H locs ls hP hS hl)
theorem j_dconst0 (C : Cx Γ p l s m args meth c cc own nL) (d : Dx cc pc (.dconst 0) 1 pc') (kk : J Γ p l e R s m args below meth c Q n ce sl pc' L (.double 0 :: S) ω) : J Γ p l e R s m args below meth c Q n ce sl pc L S ω := by
  intro H locs ls hP hS hl
  obtain ⟨hd, rfl⟩ := d
  exact lv_dconst0 C.1 C.2.1 hd (kk H locs ls hP hS hl)
theorem j_dret {Po : UInt64 → Wo → Prop} {v : UInt64} (C : Cx Γ p l s m args meth c cc own nL) (hr : meth.sig.returnType = some .double) (d : Dx cc pc (.dreturn) 1 pc') (h : Po v ω) : J Γ p l e R s m args below meth c (MQ below (QD Γ Po) args s ce sl (gA Γ)) 254 ce sl pc L [.double v] ω := by
  intro H locs ls hP hS hl
  exact W.dret C.1 C.2.1 hr (fun t ht _ => ⟨⟨v, ω, rfl, h, by show Rp Γ 254 ω t.heap; rw [ht]; exact hP⟩, hS.F ht⟩) hS.2.2 d.1 C.2.2.2.2.2.2
theorem j_fret {Po : UInt32 → Wo → Prop} {v : UInt32} (C : Cx Γ p l s m args meth c cc own nL) (hr : meth.sig.returnType = some .float) (d : Dx cc pc (.freturn) 1 pc') (h : Po v ω) : J Γ p l e R s m args below meth c (MQ below (QF Γ Po) args s ce sl (gA Γ)) 254 ce sl pc L [.float v] ω := by
  intro H locs ls hP hS hl
  exact W.fret C.1 C.2.1 hr (fun t ht _ => ⟨⟨v, ω, rfl, h, by show Rp Γ 254 ω t.heap; rw [ht]; exact hP⟩, hS.F ht⟩) hS.2.2 d.1 C.2.2.2.2.2.2
end FLT
def wyUp (s : Row) : Nat → Int
  | 0 => 0
  | n + 1 => wyUp s n + (if sM s n 1 = 2 then 0 else sM s n 2)
theorem wyUp_rg {M : Int} {s : Row} (h : RI M s) : ∀ n, n ≤ 10 → 0 ≤ wyUp s n ∧ wyUp s n ≤ 100000000 * n := by
  intro n
  induction n with
  | zero => intro _; simp [wyUp]
  | succ n ih =>
    intro hn
    have := ih (by omega)
    have g := h.m n (by omega)
    have hM := h.2.1
    unfold wyUp
    split <;> omega
theorem iI_nz {b : Int} (h : 0 < b ∧ b < 2147483648) : iI b ≠ 0 := iI_ne0 h
