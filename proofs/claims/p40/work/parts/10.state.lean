/-! the places of the run, and words for what they hold -/
theorem j_ialdK {κ : Nat → Nat} {Γ : Ga} {p : Program} {l : Launch} {e : Env} {R : Room} {s : State} {m : MethodId} {args : Array Value} {below : List Frame} {meth : Method} {c : Code} {Q : State → Prop} {n ce sl : Nat} {cc : ByteArray} {own : String} {nL pc pc' a kk : Nat} {L : List (Option Value)} {S : List Value} {ω : Wo}
    (C : Cx Γ p l s m args meth c cc own nL) (ha : At n a kk κ) (hk : arrI kk = true ∧ tyk kk = 0) {i : Int} {N : Nat} (hN : lnk kk = N) (hNs : N < 2147483648) {k : Nat} (hik : i = (k : Int)) (hi : k < N) (d : Dx cc pc (.iaload) 1 pc')
    (kx : Rg (ω.1 a k) → J Γ p l e R s m args below meth c Q n ce sl pc' L (.int (iI (ω.1 a k)) :: S) ω κ) : J Γ p l e R s m args below meth c Q n ce sl pc L (.int (iI i) :: .ref (rl Γ a) :: S) ω κ :=
  j_iald C ha hk hN hNs ⟨by omega, by omega⟩ (by subst hik; rfl) d kx
theorem j_iastK {κ : Nat → Nat} {Γ : Ga} {p : Program} {l : Launch} {e : Env} {R : Room} {s : State} {m : MethodId} {args : Array Value} {below : List Frame} {meth : Method} {c : Code} {Q : State → Prop} {n ce sl : Nat} {cc : ByteArray} {own : String} {nL pc pc' a kk : Nat} {L : List (Option Value)} {S : List Value} {ω : Wo}
    (C : Cx Γ p l s m args meth c cc own nL) (ha : At n a kk κ) (hk : arrI kk = true ∧ tyk kk = 0) {i : Int} {N : Nat} (hN : lnk kk = N) (hNs : N < 2147483648) {k : Nat} (hik : i = (k : Int)) (hi : k < N) {v : Int} (hv : Rg v) (d : Dx cc pc (.iastore) 1 pc')
    (kx : J Γ p l e R s m args below meth c Q n ce sl pc' L S (wi ω a k v) κ) : J Γ p l e R s m args below meth c Q n ce sl pc L (.int (iI v) :: .int (iI i) :: .ref (rl Γ a) :: S) ω κ :=
  j_iast C ha hk hN hNs ⟨by omega, by omega⟩ hv d (by subst hik; exact kx)
theorem at_0 : At 243 0 0 := ⟨by decide, by decide, by decide⟩
theorem at_64 : At 243 64 13 := ⟨by decide, by decide, by decide⟩
theorem at_65 : At 243 65 5 := ⟨by decide, by decide, by decide⟩
theorem at_66 : At 243 66 5 := ⟨by decide, by decide, by decide⟩
theorem at_67 : At 243 67 5 := ⟨by decide, by decide, by decide⟩
theorem at_68 : At 243 68 6 := ⟨by decide, by decide, by decide⟩
theorem at_69 : At 243 69 14 := ⟨by decide, by decide, by decide⟩
theorem at_70 : At 243 70 15 := ⟨by decide, by decide, by decide⟩
theorem at_71 : At 243 71 16 := ⟨by decide, by decide, by decide⟩
theorem at_72 : At 243 72 16 := ⟨by decide, by decide, by decide⟩
theorem at_73 : At 243 73 8 := ⟨by decide, by decide, by decide⟩
theorem at_74 : At 243 74 17 := ⟨by decide, by decide, by decide⟩
abbrev Rf : Type := Nat → Nat → Option Nat
/-! rows of ints, changed at a place; a whole row put in place of another -/
abbrev Row : Type := Nat → Int
def up (f : Row) (k : Nat) (v : Int) : Row := fun y => if y = k then v else f y
theorem up_same (f : Row) (k : Nat) (v : Int) : up f k v k = v := if_pos rfl
theorem up_ne (f : Row) {k y : Nat} (v : Int) (h : y ≠ k) : up f k v y = f y := if_neg h
def wf (ω : Wo) (a : Nat) (f : Row) : Wo := (fun x => if x = a then f else ω.1 x, ω.2)
theorem wi_wf (ω : Wo) (a k : Nat) (v : Int) : wi ω a k v = wf ω a (up (ω.1 a) k v) := by
  unfold wi wf up
  congr 1
  funext x y
  by_cases h : x = a
  · subst h; simp
  · simp [h]
theorem wf_same (ω : Wo) (a : Nat) (f : Row) : (wf ω a f).1 a = f := if_pos rfl
theorem wf_ne (ω : Wo) {a b : Nat} (f : Row) (h : b ≠ a) : (wf ω a f).1 b = ω.1 b := if_neg h
theorem wf_wf (ω : Wo) (a : Nat) (f g : Row) : wf (wf ω a f) a g = wf ω a g := by
  unfold wf; congr 1; funext x; by_cases h : x = a <;> simp [h]
theorem wf_id (ω : Wo) (a : Nat) : wf ω a (ω.1 a) = ω := by
  unfold wf
  have : (fun x => if x = a then ω.1 a else ω.1 x) = ω.1 := by funext x; by_cases h : x = a <;> simp [h]
  rw [this]
theorem wf_comm (ω : Wo) {a b : Nat} (f g : Row) (h : a ≠ b) : wf (wf ω a f) b g = wf (wf ω b g) a f := by
  unfold wf; congr 1; funext x
  by_cases h1 : x = a
  · subst h1; simp [h]
  · simp [h1]
/-- a member's, a boat's, a loan's number in a row -/
def sM (s : Row) (m w : Int) : Int := s (8 + 7 * m + w).toNat
def sB (s : Row) (b w : Int) : Int := s (78 + 7 * b + w).toNat
def sL (s : Row) (q w : Int) : Int := s (99 + 3 * q + w).toNat
theorem bI_01 (P : Prop) [Decidable P] : bI P = 0 ∨ bI P = 1 := by unfold bI; split <;> simp
theorem j_iconstN {κ : Nat → Nat} {Γ : Ga} {p : Program} {l : Launch} {e : Env} {R : Room} {s : State} {m : MethodId} {args : Array Value} {below : List Frame} {meth : Method} {c : Code} {Q : State → Prop} {n ce sl : Nat} {cc : ByteArray} {own : String} {nL pc pc' : Nat} {L : List (Option Value)} {S : List Value} {ω : Wo}
    (C : Cx Γ p l s m args meth c cc own nL) {z : Int} {k : Nat} (hz : z = (k : Int)) (d : Dx cc pc (.iconst z) 1 pc') (kx : J Γ p l e R s m args below meth c Q n ce sl pc' L (.int (iI (k : Int)) :: S) ω κ) : J Γ p l e R s m args below meth c Q n ce sl pc L S ω κ := by
  subst hz; exact j_iconst C d kx
