/-! the law's own rows -/
abbrev R9 : Room := rmk 1475 603072 7223402
section LAW2
variable {Γ : Ga} {p : Program} {l : Launch} {e : Env} {R : Room} {s : State} {m : MethodId} {args : Array Value} {below : List Frame} {meth : Method} {c : Code} {Q : State → Prop} {n ce sl : Nat} {cc : ByteArray} {own : String} {nL pc pc' idx a kk k : Nat} {L : List (Option Value)} {S : List Value} {ω : Wo}
theorem j_sldv {b Ls : Nat} {xs : Nat → Int32} {i v : Int} (C : Cx Γ p l s m args meth c cc own nL) (hX : va_X b Ls xs s s.heap) (hb : b < s.heap.size ∧ b < gB Γ) (hi : 0 ≤ i ∧ i < (Ls : Int)) (hLs : Ls < 2000) (hv : xs i.toNat = iI v) (d : Dx cc pc (.iaload) 1 pc') (kx : J Γ p l e R s m args below meth c Q n ce sl pc' L (.int (iI v) :: S) ω) : J Γ p l e R s m args below meth c Q n ce sl pc L (.int (iI i) :: .ref b :: S) ω :=
  j_sld C hX hb hi hLs d (by rw [hv]; exact kx)
theorem j_boolz {v : Int} {t u p1 p2 p3 : Nat} (C : Cx Γ p l s m args meth c cc own nL) (hv : Rg v) (d1 : Dc cc pc (fun o => .ifCond .eq o) t p1) (d2 : Dx cc p1 (.iconst 1) 1 p2) (d3 : Dc cc p2 (fun o => .goto o) u p3) (d4 : Dx cc t (.iconst 0) 1 u)
    (kx : J Γ p l e R s m args below meth c Q n ce sl u L (.int (iI (bI (v ≠ 0))) :: S) ω) : J Γ p l e R s m args below meth c Q n ce sl pc L (.int (iI v) :: S) ω := by
  refine j_if_eq C hv d1 (fun h => ?_) (fun h => ?_)
  · refine j_iconst C d4 ?_
    rw [bI_f (not_not_intro h)] at kx; exact kx
  · refine j_iconst C d2 ?_
    refine j_goto C d3 ?_
    rw [bI_t h] at kx; exact kx
theorem j_cVD0 {y : MethodName} {bytes : ByteArray} {maxL d D mx sx : Nat} {rt : FieldType} {Po : UInt64 → Wo → Prop} (C : Cx Γ p l s m args meth c cc own nL) (hM : CD Γ l y bytes maxL rt d (.ref (rl Γ a) :: []) ω Po) (O : Oc y bytes maxL (some rt) 0) (K : Lk own idx y) (hrc : Rc kk y) (ha : At 254 a kk) (hD : d + 1 ≤ D ∧ maxL ≤ 40) (hL : L.length = nL) (hcat : (S.map fun v => v.category).sum ≤ 8) (hce : ce ≤ mx ∧ sl ≤ sx) (dd : Dx cc pc (.invokevirtual idx) 3 pc') (kx : ∀ (z : UInt64) (ω' : Wo), Po z ω' → J Γ p l e (rmk D mx sx) s m args below meth c Q 254 ce sl pc' L (.double z :: S) ω') : J Γ p l e (rmk D mx sx) s m args below meth c Q 254 ce sl pc L (.ref (rl Γ a) :: S) ω := by
  intro H locs ls hP hS hl
  obtain ⟨hd, rfl⟩ := dd
  refine va_calld (j_runV (as := []) C hM O K hrc ha hD rfl hd hL hcat hce hP hS hl) hS (fun q _ h => h) (fun q h => h) (fun r ω' t H1 locs1 ht hvm hpo hB _ _ hS1 => ?_)
  have hB : Rp Γ 254 ω' t.heap := hB
  rw [ht] at hB
  exact kx r ω' hpo H1 locs1 ls hB hS1 hl
theorem j_cVF0 {y : MethodName} {bytes : ByteArray} {maxL d D mx sx : Nat} {rt : FieldType} {Po : UInt32 → Wo → Prop} (C : Cx Γ p l s m args meth c cc own nL) (hM : CF Γ l y bytes maxL rt d (.ref (rl Γ a) :: []) ω Po) (O : Oc y bytes maxL (some rt) 0) (K : Lk own idx y) (hrc : Rc kk y) (ha : At 254 a kk) (hD : d + 1 ≤ D ∧ maxL ≤ 40) (hL : L.length = nL) (hcat : (S.map fun v => v.category).sum ≤ 8) (hce : ce ≤ mx ∧ sl ≤ sx) (dd : Dx cc pc (.invokevirtual idx) 3 pc') (kx : ∀ (z : UInt32) (ω' : Wo), Po z ω' → J Γ p l e (rmk D mx sx) s m args below meth c Q 254 ce sl pc' L (.float z :: S) ω') : J Γ p l e (rmk D mx sx) s m args below meth c Q 254 ce sl pc L (.ref (rl Γ a) :: S) ω := by
  intro H locs ls hP hS hl
  obtain ⟨hd, rfl⟩ := dd
  refine va_callf (j_runV (as := []) C hM O K hrc ha hD rfl hd hL hcat hce hP hS hl) hS (fun q _ h => h) (fun q h => h) (fun r ω' t H1 locs1 ht hvm hpo hB _ _ hS1 => ?_)
  have hB : Rp Γ 254 ω' t.heap := hB
  rw [ht] at hB
  exact kx r ω' hpo H1 locs1 ls hB hS1 hl
theorem j_f2d {x : UInt32} (C : Cx Γ p l s m args meth c cc own nL) (hx : FP.Core.dIsNaN (FP.f2d x) = false) (d : Dx cc pc (.f2d) 1 pc') (kx : J Γ p l e R s m args below meth c Q n ce sl pc' L (.double (FP.f2d x) :: S) ω) : J Γ p l e R s m args below meth c Q n ce sl pc L (.float x :: S) ω := by
  intro H locs ls hP hS hl
  obtain ⟨hd, rfl⟩ := d
  exact lv_f2d C.1 C.2.1 hd (n64_of hx) (kx H locs ls hP hS hl)
theorem lk.setD {ls' : Array Slot} {L : List (Option Value)} {i : Nat} {x : UInt64} (hi : i + 1 < L.length) (hp : i = 0 ∨ okp (L.getD (i - 1) none) = true)
    (h : lv_has ls' L.length ((i, Value.double x) :: (lz 0 L).filter (fun q => !(q.1 == i) && (!(q.1 == i + 1) && !(q.1 + 1 == i && q.2.category == 2))))) : lk ls' ((L.set i (some (.double x))).set (i + 1) none) := by
  refine ⟨by rw [h.1, List.length_set, List.length_set], h.2.1, fun j v hj => ?_⟩
  rw [List.getElem?_set] at hj
  by_cases e0 : i + 1 = j
  · subst e0
    rw [if_pos rfl] at hj
    split at hj <;> simp at hj
  rw [if_neg e0, List.getElem?_set] at hj
  by_cases e : i = j
  · subst e
    rw [if_pos rfl, if_pos (by omega)] at hj
    cases hj
    exact h.2.2 (i, .double x) List.mem_cons_self
  · rw [if_neg e] at hj
    refine h.2.2 (j, v) (List.mem_cons_of_mem _ (List.mem_filter.mpr ⟨(lz_mem L 0 j v).mpr ⟨Nat.zero_le _, by simpa using hj⟩, ?_⟩))
    have e1 : (j == i) = false := by simpa using fun h => e h.symm
    have e3 : (j == i + 1) = false := by simpa using fun h => e0 h.symm
    simp only [e1, e3, Bool.not_false, Bool.true_and, Bool.not_eq_true', Bool.and_eq_false_iff]
    by_cases e2 : j + 1 = i
    · right
      rcases hp with hp | hp
      · omega
      · have : L.getD (i - 1) none = some v := by rw [List.getD_eq_getElem?_getD, show i - 1 = j by omega, hj]; rfl
        rw [this] at hp
        have h1 : v.category = 1 := by simpa [okp] using hp
        simp [h1]
    · left; simpa using e2
theorem j_dst {i : Nat} {x : UInt64} {L' : List (Option Value)} (C : Cx Γ p l s m args meth c cc own nL) (hi : i + 1 < L.length) (hp : i = 0 ∨ okp (L.getD (i - 1) none) = true) (hL' : (L.set i (some (.double x))).set (i + 1) none = L') (d : Dx cc pc (.dstore i) 2 pc') (kx : J Γ p l e R s m args below meth c Q n ce sl pc' L' S ω) : J Γ p l e R s m args below meth c Q n ce sl pc L (.double x :: S) ω := by
  intro H locs ls hP hS hl
  obtain ⟨hd, rfl⟩ := d
  refine lv_dstore C.1 C.2.1 hd hl.has hi rfl (fun ls' h => ?_)
  exact kx H locs ls' hP hS (hL' ▸ lk.setD hi hp h)
theorem j_dld {i : Nat} {x : UInt64} (C : Cx Γ p l s m args meth c cc own nL) (hi : L[i]? = some (some (.double x))) (d : Dx cc pc (.dload i) 2 pc') (kx : J Γ p l e R s m args below meth c Q n ce sl pc' L (.double x :: S) ω) : J Γ p l e R s m args below meth c Q n ce sl pc L S ω := by
  intro H locs ls hP hS hl
  obtain ⟨hd, rfl⟩ := d
  exact lv_dload C.1 C.2.1 hd (hl.2.2 i _ hi) (kx H locs ls hP hS hl)
end LAW2
/-- the law's locals -/
def Lw (Γ : Ga) (b : Nat) (i : Int) (u6 u7 u8 u9 : Option Value) : List (Option Value) := [some (.ref b), some (.ref (rl Γ 0)), some (.ref (rl Γ 243)), some (.ref (rl Γ 252)), some (.ref (rl Γ 253)), some (.int (iI i)), u6, u7, u8, u9]
/-- where a case begins -/
def Cs (Γ : Ga) (p : Program) (l : Launch) (e : Env) (s : State) (m : MethodId) (args : Array Value) (below : List Frame) (meth : Method) (c : Code) (Q : State → Prop) (b Ls : Nat) (xs : Nat → Int32) (i v1 v2 M : Int) (ce sl : Nat) (pc : Nat) (ω : Wo) : Prop :=
  ∀ (u6 u7 u8 u9 : Option Value), Cx Γ p l s m args meth c cL_law RL 10 → Kt3 s → l.stackTraces = false → va_X b Ls xs s s.heap → (b < s.heap.size ∧ b < gB Γ) → (0 ≤ i ∧ i + 3 ≤ (Ls : Int)) → Ls < 2000 → xs (i + 1).toNat = iI v1 → xs (i + 2).toNat = iI v2 → Rg v1 → Rg v2 → INV M ω → M + 70000 ≤ 100000000 → (ce + 2 ≤ 603072 ∧ sl + 12 ≤ 7223402) →
    (∀ (W : Wo) (u6 u7 u8 u9 : Option Value), INV (M + 70000) W → J Γ p l e R9 s m args below meth c Q 254 (ce + 2) (sl + 12) 2186 (Lw Γ b i u6 u7 u8 u9) [] W) → J Γ p l e R9 s m args below meth c Q 254 ce sl pc (Lw Γ b i u6 u7 u8 u9) [] ω
