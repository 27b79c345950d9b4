/-! the places of the run, and words for what they hold -/
theorem j_ialdK {Γ : Ga} {p : Program} {l : Launch} {e : Env} {R : Room} {s : State} {m : MethodId} {args : Array Value} {below : List Frame} {meth : Method} {c : Code} {Q : State → Prop} {n ce sl : Nat} {cc : ByteArray} {own : String} {nL pc pc' a kk : Nat} {L : List (Option Value)} {S : List Value} {ω : Wo}
    (C : Cx Γ p l s m args meth c cc own nL) (ha : At n a kk) (hk : arrI kk = true ∧ tyk kk = 0) {i : Int} {N : Nat} (hN : lnk kk = N) (hNs : N < 2147483648) {k : Nat} (hik : i = (k : Int)) (hi : k < N) (d : Dx cc pc (.iaload) 1 pc')
    (kx : Rg (ω.1 a k) → J Γ p l e R s m args below meth c Q n ce sl pc' L (.int (iI (ω.1 a k)) :: S) ω) : J Γ p l e R s m args below meth c Q n ce sl pc L (.int (iI i) :: .ref (rl Γ a) :: S) ω :=
  j_iald C ha hk hN hNs ⟨by omega, by omega⟩ (by subst hik; rfl) d kx
theorem j_iastK {Γ : Ga} {p : Program} {l : Launch} {e : Env} {R : Room} {s : State} {m : MethodId} {args : Array Value} {below : List Frame} {meth : Method} {c : Code} {Q : State → Prop} {n ce sl : Nat} {cc : ByteArray} {own : String} {nL pc pc' a kk : Nat} {L : List (Option Value)} {S : List Value} {ω : Wo}
    (C : Cx Γ p l s m args meth c cc own nL) (ha : At n a kk) (hk : arrI kk = true ∧ tyk kk = 0) {i : Int} {N : Nat} (hN : lnk kk = N) (hNs : N < 2147483648) {k : Nat} (hik : i = (k : Int)) (hi : k < N) {v : Int} (hv : Rg v) (d : Dx cc pc (.iastore) 1 pc')
    (kx : J Γ p l e R s m args below meth c Q n ce sl pc' L S (wi ω a k v)) : J Γ p l e R s m args below meth c Q n ce sl pc L (.int (iI v) :: .int (iI i) :: .ref (rl Γ a) :: S) ω :=
  j_iast C ha hk hN hNs ⟨by omega, by omega⟩ hv d (by subst hik; exact kx)
theorem at_0 : At 254 0 0 := ⟨by decide, by decide, by decide⟩
theorem at_64 : At 254 64 13 := ⟨by decide, by decide, by decide⟩
theorem at_65 : At 254 65 5 := ⟨by decide, by decide, by decide⟩
theorem at_66 : At 254 66 5 := ⟨by decide, by decide, by decide⟩
theorem at_67 : At 254 67 5 := ⟨by decide, by decide, by decide⟩
theorem at_68 : At 254 68 6 := ⟨by decide, by decide, by decide⟩
theorem at_69 : At 254 69 14 := ⟨by decide, by decide, by decide⟩
theorem at_70 : At 254 70 15 := ⟨by decide, by decide, by decide⟩
theorem at_71 : At 254 71 16 := ⟨by decide, by decide, by decide⟩
theorem at_72 : At 254 72 16 := ⟨by decide, by decide, by decide⟩
theorem at_73 : At 254 73 8 := ⟨by decide, by decide, by decide⟩
theorem at_74 : At 254 74 17 := ⟨by decide, by decide, by decide⟩
theorem at_243 : At 254 243 7 := ⟨by decide, by decide, by decide⟩
theorem at_244 : At 254 244 18 := ⟨by decide, by decide, by decide⟩
theorem at_245 : At 254 245 18 := ⟨by decide, by decide, by decide⟩
theorem at_246 : At 254 246 18 := ⟨by decide, by decide, by decide⟩
theorem at_247 : At 254 247 18 := ⟨by decide, by decide, by decide⟩
theorem at_248 : At 254 248 19 := ⟨by decide, by decide, by decide⟩
theorem at_249 : At 254 249 20 := ⟨by decide, by decide, by decide⟩
theorem at_250 : At 254 250 21 := ⟨by decide, by decide, by decide⟩
theorem at_251 : At 254 251 22 := ⟨by decide, by decide, by decide⟩
theorem at_252 : At 254 252 23 := ⟨by decide, by decide, by decide⟩
theorem at_253 : At 254 253 24 := ⟨by decide, by decide, by decide⟩
abbrev Rf : Type := Nat → Nat → Option Nat
def WM (r : Rf) : Prop := r 243 0 = some 244 ∧ r 243 1 = some 245 ∧ r 243 2 = some 246 ∧ r 243 3 = some 247 ∧ r 243 4 = some 248 ∧ r 243 13 = some 249 ∧ r 243 14 = some 250 ∧ r 243 18 = some 251
theorem WM.r0 {r : Rf} (h : WM r) : r 243 0 = some 244 := h.1
theorem WM.r1 {r : Rf} (h : WM r) : r 243 1 = some 245 := h.2.1
theorem WM.r2 {r : Rf} (h : WM r) : r 243 2 = some 246 := h.2.2.1
theorem WM.r3 {r : Rf} (h : WM r) : r 243 3 = some 247 := h.2.2.2.1
theorem WM.r4 {r : Rf} (h : WM r) : r 243 4 = some 248 := h.2.2.2.2.1
theorem WM.r13 {r : Rf} (h : WM r) : r 243 13 = some 249 := h.2.2.2.2.2.1
theorem WM.r14 {r : Rf} (h : WM r) : r 243 14 = some 250 := h.2.2.2.2.2.2.1
theorem WM.r18 {r : Rf} (h : WM r) : r 243 18 = some 251 := h.2.2.2.2.2.2.2
/-! rows of ints, changed at a place; a whole row put in place of another -/
abbrev Row : Type := Nat → Int
def up (f : Row) (k : Nat) (v : Int) : Row := fun y => if y = k then v else f y
theorem up_same (f : Row) (k : Nat) (v : Int) : up f k v k = v := if_pos rfl
theorem up_ne (f : Row) {k y : Nat} (v : Int) (h : y ≠ k) : up f k v y = f y := if_neg h
def wf (ω : Wo) (a : Nat) (f : Row) : Wo := (fun x => if x = a then f else ω.1 x, ω.2)
theorem wi_wf (ω : Wo) (a k : Nat) (v : Int) : wi ω a k v = wf ω a (up (ω.1 a) k v) := by
  unfold wi wf up
  congr 1
  funext x y
  by_cases h : x = a
  · subst h; simp
  · simp [h]
theorem wf_same (ω : Wo) (a : Nat) (f : Row) : (wf ω a f).1 a = f := if_pos rfl
theorem wf_ne (ω : Wo) {a b : Nat} (f : Row) (h : b ≠ a) : (wf ω a f).1 b = ω.1 b := if_neg h
theorem wf_wf (ω : Wo) (a : Nat) (f g : Row) : wf (wf ω a f) a g = wf ω a g := by
  unfold wf; congr 1; funext x; by_cases h : x = a <;> simp [h]
theorem wf_id (ω : Wo) (a : Nat) : wf ω a (ω.1 a) = ω := by
  unfold wf
  have : (fun x => if x = a then ω.1 a else ω.1 x) = ω.1 := by funext x; by_cases h : x = a <;> simp [h]
  rw [this]
theorem wf_comm (ω : Wo) {a b : Nat} (f g : Row) (h : a ≠ b) : wf (wf ω a f) b g = wf (wf ω b g) a f := by
  unfold wf; congr 1; funext x
  by_cases h1 : x = a
  · subst h1; simp [h]
  · simp [h1]
/-- a member's, a boat's, a loan's number in a row -/
def sM (s : Row) (m w : Int) : Int := s (8 + 7 * m + w).toNat
def sB (s : Row) (b w : Int) : Int := s (78 + 7 * b + w).toNat
def sL (s : Row) (q w : Int) : Int := s (99 + 3 * q + w).toNat
theorem bI_01 (P : Prop) [Decidable P] : bI P = 0 ∨ bI P = 1 := by unfold bI; split <;> simp
theorem j_iconstN {Γ : Ga} {p : Program} {l : Launch} {e : Env} {R : Room} {s : State} {m : MethodId} {args : Array Value} {below : List Frame} {meth : Method} {c : Code} {Q : State → Prop} {n ce sl : Nat} {cc : ByteArray} {own : String} {nL pc pc' : Nat} {L : List (Option Value)} {S : List Value} {ω : Wo}
    (C : Cx Γ p l s m args meth c cc own nL) {z : Int} {k : Nat} (hz : z = (k : Int)) (d : Dx cc pc (.iconst z) 1 pc') (kx : J Γ p l e R s m args below meth c Q n ce sl pc' L (.int (iI (k : Int)) :: S) ω) : J Γ p l e R s m args below meth c Q n ce sl pc L S ω := by
  subst hz; exact j_iconst C d kx
