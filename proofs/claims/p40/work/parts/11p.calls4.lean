/-! calls with more arguments -/
section CALLS4
variable {κ : Nat → Nat} {Γ : Ga} {p : Program} {l : Launch} {e : Env} {R : Room} {s : State} {m : MethodId} {args : Array Value} {below : List Frame} {meth : Method} {c : Code} {Q : State → Prop} {n ce sl : Nat} {cc : ByteArray} {own : String} {nL pc pc' idx a kk k : Nat} {L : List (Option Value)} {S : List Value} {ω : Wo}
theorem j_cSV4 {y : MethodName} {bytes : ByteArray} {maxL d D mx sx : Nat} {x1 x2 x3 x4 : Value} {Po : Wo → Prop} (C : Cx Γ p l s m args meth c cc own nL) (hM : CV Γ l y bytes maxL d [x1, x2, x3, x4] ω Po n κ) (O : Os y bytes maxL none 4) (K : Lk own idx y) (hD : d + 1 ≤ D ∧ maxL ≤ 40) (hL : L.length = nL) (hcat : (S.map fun v => v.category).sum ≤ 8) (hce : ce ≤ mx ∧ sl ≤ sx) (dd : Dx cc pc (.invokestatic idx) 3 pc') (kx : ∀ (ω' : Wo), Po ω' → J Γ p l e (rmk D mx sx) s m args below meth c Q n ce sl pc' L S ω' κ) : J Γ p l e (rmk D mx sx) s m args below meth c Q n ce sl pc L (x4 :: x3 :: x2 :: x1 :: S) ω κ := by
  intro H locs ls hP hS hl
  obtain ⟨hd, rfl⟩ := dd
  exact j_kV (j_runS (as := [x1, x2, x3, x4]) C hM O K hD rfl hd hL hcat hce hP hS hl) hS hl kx
end CALLS4
