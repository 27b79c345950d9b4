/-! contracts over the abstract heap, entry, ends, calls -/
def rmk (d mc ms : Nat) : Room := { frames := d, cells := mc, slots := ms, locals := 64 * d }
def Pcx (Γ : Ga) (as : List Value) (ω : Wo) (n : Nat := 243) (κ : Nat → Nat := kd) : Array Value → State → Prop := fun a U => a = as.toArray ∧ Kx Γ U ∧ Rp Γ n ω U.heap κ
theorem Pcx.blind {Γ : Ga} {as : List Value} {ω : Wo} {n : Nat} {κ : Nat → Nat} : FrameBlind (Pcx Γ as ω n κ) := fun a U g mk h => ⟨h.1, h.2.1.calling g mk a, h.2.2⟩
abbrev Bx (Γ : Ga) (n : Nat := 243) (κ : Nat → Nat := kd) : Wo → State → Prop := fun ω' t => Rp Γ n ω' t.heap κ
def QI (Γ : Ga) (Po : Int → Wo → Prop) (n : Nat := 243) (κ : Nat → Nat := kd) : Array Value → State → Outcome → State → Prop := va_Qi (fun (r : Int32) (ω' : Wo) => ∃ z, r = iI z ∧ Rg z ∧ Po z ω') (Bx Γ n κ) (gA Γ)
def QV (Γ : Ga) (Po : Wo → Prop) (n : Nat := 243) (κ : Nat → Nat := kd) : Array Value → State → Outcome → State → Prop := va_Qv Po (Bx Γ n κ) (gA Γ)
def CI (Γ : Ga) (l : Launch) (y : MethodName) (bytes : ByteArray) (maxL : Nat) (rt : FieldType) (d : Nat) (as : List Value) (ω : Wo) (Po : Int → Wo → Prop) (n : Nat := 243) (κ : Nat → Nat := kd) : Prop :=
  Met l y (.code y bytes maxL (some rt) :: WS) (rmk d 0 0) (Pcx Γ as ω n κ) (QI Γ Po n κ) 0 0 (gA Γ)
def CV (Γ : Ga) (l : Launch) (y : MethodName) (bytes : ByteArray) (maxL : Nat) (d : Nat) (as : List Value) (ω : Wo) (Po : Wo → Prop) (n : Nat := 243) (κ : Nat → Nat := kd) : Prop :=
  Met l y (.code y bytes maxL none :: WS) (rmk d 0 0) (Pcx Γ as ω n κ) (QV Γ Po n κ) 0 0 (gA Γ)
theorem lk.entry {as : List Value} {maxL k : Nat} {L : List (Option Value)} (hk : maxL = as.length + k) (hL : L = as.map some ++ List.replicate k none) (hc : as.all (fun v => v.category == 1) = true) : lk ((lg_sl as ++ List.replicate (maxL - (lg_sl as).length) Slot.unset).toArray) L := by
  have h1 : ∀ as : List Value, as.all (fun v => v.category == 1) = true → (lg_sl as).length = as.length := by
    intro as
    induction as with
    | nil => intro _; rfl
    | cons a t ih =>
      intro h
      simp only [List.all_cons, Bool.and_eq_true, beq_iff_eq] at h
      have := ih h.2
      show ((if a.category = 2 then [Slot.val a, Slot.second] else [Slot.val a]) ++ lg_sl t).length = _
      rw [if_neg (by rw [h.1]; decide), List.length_append, this]
      simp; omega
  have h2 : ∀ (as : List Value) (i : Nat), as.all (fun v => v.category == 1) = true → ∀ (j : Nat) (v : Value), as[j]? = some v → (i + j, v) ∈ lv_args i as := by
    intro as
    induction as with
    | nil => intro i _ j v h; simp at h
    | cons a t ih =>
      intro i h j v hj
      simp only [List.all_cons, Bool.and_eq_true, beq_iff_eq] at h
      cases j with
      | zero => simp at hj; subst hj; simp [lv_args]
      | succ j =>
        simp at hj
        have := ih (i + 1) h.2 j v hj
        simp only [lv_args, h.1, List.mem_cons]
        right
        have e : i + (j + 1) = i + 1 + j := by omega
        rw [e]; exact this
  have hl := lv_entry as (n := maxL) (by rw [h1 as hc]; omega)
  refine ⟨by rw [hl.1, hL]; simp [hk], hl.2.1, fun i v hi => ?_⟩
  rw [hL, List.getElem?_append] at hi
  split at hi
  · rename_i hlt
    rw [List.getElem?_map] at hi
    cases hv : as[i]? with
    | none => rw [hv] at hi; cases hi
    | some w =>
      rw [hv] at hi
      cases hi
      have := h2 as 0 hc i v hv
      rw [Nat.zero_add] at this
      exact hl.2.2 (i, v) this
  · rw [List.getElem?_replicate] at hi
    split at hi <;> cases hi
section CALLS
variable {κ : Nat → Nat} {Γ : Ga} {p : Program} {l : Launch} {e : Env} {R : Room} {s : State} {m : MethodId} {args : Array Value} {below : List Frame} {meth : Method} {c : Code} {Q : State → Prop} {n ce sl : Nat} {cc : ByteArray} {own : String} {nL pc pc' idx a kk k : Nat} {L : List (Option Value)} {S : List Value} {ω : Wo}
theorem Met.ofJ {y : MethodName} {bytes : ByteArray} {maxL d mc ms k : Nat} {ret : Option FieldType} {as : List Value} {Qc : Array Value → State → Outcome → State → Prop} (L : List (Option Value)) (hy : plainName y.cls = true) (hk : maxL = as.length + k) (hL : L = as.map some ++ List.replicate k none) (hc : as.all (fun v => v.category == 1) = true)
    (body : ∀ p e s m args below meth c, Cx Γ p l s m args meth c bytes y.cls maxL → meth.sig.returnType = ret → J Γ p l e (rmk d mc ms) s m args below meth c (MQ below Qc args s mc ms (gA Γ)) n 0 0 0 L [] ω κ) :
    Met l y (.code y bytes maxL ret :: WS) (rmk d mc ms) (Pcx Γ as ω n κ) Qc mc ms (gA Γ) := by
  refine Met.ofW (cc := bytes) (maxL := maxL) (ret := ret) hy rfl ?_
  intro p e s m args below meth c s₁ B hml hv
  obtain ⟨rfl, hK, hR⟩ := hv
  have hts : ∀ w ∈ (Cond.code y bytes maxL ret :: WS), w.before as.toArray s = true := atoms_spec B.pre
  have C : Cx Γ p l s m as.toArray meth c bytes y.cls maxL := ⟨B.exec, B.bytes, hml, findClass_of_methodNamed B.named, fun w hw => hts w (List.mem_cons_of_mem _ hw), hK, B.notSynchronized⟩
  have K := body p e s m as.toArray below meth c C B.returns
  have hlk := lk.entry hk hL hc
  rw [lg_entry_eq]
  exact K s.heap [] _ hR va_S.rf hlk
/-- what a call needs of the tables -/
def Oc (y : MethodName) (bytes : ByteArray) (maxL : Nat) (ret : Option FieldType) (na : Nat) : Prop := (Cond.instanceMethod y ∈ WS ∧ Cond.selects y.cls y y ∈ WS) ∧ Cond.initialized y.cls ∈ WS ∧ Cond.code y bytes maxL ret ∈ WS ∧ (y.cls ≠ "java/lang/invoke/MethodHandle" ∧ y.cls ≠ "java/lang/invoke/VarHandle" ∧ (parseMethodDescriptor y.desc).map (fun d => d.parameters.length) = some na)
def Os (y : MethodName) (bytes : ByteArray) (maxL : Nat) (ret : Option FieldType) (na : Nat) : Prop := Cond.static y ∈ WS ∧ Cond.initialized y.cls ∈ WS ∧ Cond.code y bytes maxL ret ∈ WS ∧ (y.cls ≠ "java/lang/invoke/MethodHandle" ∧ y.cls ≠ "java/lang/invoke/VarHandle" ∧ (parseMethodDescriptor y.desc).map (fun d => d.parameters.length) = some na)
def Lk (own : String) (idx : Nat) (y : MethodName) : Prop := Cond.methodLink own idx y ∈ WS
theorem inWS {y : MethodName} {bytes : ByteArray} {maxL : Nat} {ret : Option FieldType} (h : Cond.code y bytes maxL ret ∈ WS) : GoodIn WS (Cond.code y bytes maxL ret :: WS) :=
  WS_in fun w hw => (List.mem_cons.mp hw).elim (fun q => q ▸ h) (fun q => q)
theorem Rp.recv {kk a : Nat} {q : vw_C} {H : Heap} (hK : va_K (gD Γ) clss (gT Γ) s) (hR : Rp Γ n ω H κ) (ha : At n a kk κ) (hq : clss[kk]? = some q) : ∃ cell : Cell, H[rl Γ a]? = some cell ∧ cell.vm.isStatics = false ∧ s.vm.findClass q.1 = some cell.cls := by
  have h9 : kk < 9 := (List.getElem?_eq_some_iff.mp hq).1
  exact va_recv hK hR.1 hq (by rw [WL_get ha.1, WE_obj ha.2.2 h9])
/-- the receiver's class -/
def Rc (kk : Nat) (y : MethodName) : Prop := ∃ q : vw_C, clss[kk]? = some q ∧ q.1 = y.cls
theorem j_runV {y : MethodName} {bytes : ByteArray} {maxL d D na mx sx : Nat} {ret : Option FieldType} {as : List Value} {Qc : Array Value → State → Outcome → State → Prop} {H : Heap} {locs : List Loc} {ls : Array Slot} (C : Cx Γ p l s m args meth c cc own nL)
    (hM : Met l y (.code y bytes maxL ret :: WS) (rmk d 0 0) (Pcx Γ (.ref (rl Γ a) :: as) ω n κ) Qc 0 0 (gA Γ)) (O : Oc y bytes maxL ret na) (K : Lk own idx y) (hrc : Rc kk y) (ha : At n a kk κ) (hD : d + 1 ≤ D ∧ maxL ≤ 40) (hn : as.length = na) (dd : decode cc pc = .ok (.invokevirtual idx, 3)) (hL : L.length = nL)
    (hcat : (S.map fun v => v.category).sum ≤ 8) (hce : ce ≤ mx ∧ sl ≤ sx) (hP : Rp Γ n ω H κ) (hS : va_S (gA Γ) s.heap H locs) (hl : lk ls L) :
    va_Run p l e (rmk D mx sx) s m args below meth c H locs ce sl 0 0 (F0 m pc ls (as.reverse ++ .ref (rl Γ a) :: S)) S (Qc (Value.ref (rl Γ a) :: as).toArray) (gA Γ) := by
  obtain ⟨⟨o1, o2⟩, o3, o4, o5⟩ := O
  obtain ⟨q, hq, hqc⟩ := hrc
  refine va_runV (Ts := WS) (n := na) ⟨C.1, C.2.1, C.2.2.1, C.2.2.2.1, C.2.2.2.2.1⟩ hM (C := y.cls) (cwV na C.2.2.2.2.1 ?_ rfl rfl rfl ⟨rfl, o5⟩ ⟨hD.1, ?_⟩) ⟨Pcx.blind, ?_, ?_⟩ rfl hn (hl.1.trans hL) rfl (lv_room hcat) dd ⟨?_, ?_⟩
  · refine WS_in fun w hw => ?_
    unfold wsV at hw
    rcases List.mem_append.mp hw with h | h
    · simp only [List.mem_cons, List.not_mem_nil, or_false] at h
      rcases h with rfl | rfl | rfl | rfl
      · exact K
      · exact o1
      · exact o2
      · exact o3
    · exact (List.mem_cons.mp h).elim (fun q => q ▸ o4) (fun q => q)
  · show 8 + (maxL + 11) + 64 * d ≤ 64 * D
    omega
  · rw [← hqc]; exact Rp.recv C.2.2.2.2.2.1.1 hP ha hq
  · intro U hU hW
    exact ⟨rfl, C.2.2.2.2.2.1.next hW hU hS, by rw [hU]; exact hP⟩
  · show ce + 0 ≤ mx
    omega
  · show sl + 0 ≤ sx
    omega
theorem j_runS {y : MethodName} {bytes : ByteArray} {maxL d D na mx sx : Nat} {ret : Option FieldType} {as : List Value} {Qc : Array Value → State → Outcome → State → Prop} {H : Heap} {locs : List Loc} {ls : Array Slot} (C : Cx Γ p l s m args meth c cc own nL)
    (hM : Met l y (.code y bytes maxL ret :: WS) (rmk d 0 0) (Pcx Γ as ω n κ) Qc 0 0 (gA Γ)) (O : Os y bytes maxL ret na) (K : Lk own idx y) (hD : d + 1 ≤ D ∧ maxL ≤ 40) (hn : as.length = na) (dd : decode cc pc = .ok (.invokestatic idx, 3)) (hL : L.length = nL)
    (hcat : (S.map fun v => v.category).sum ≤ 8) (hce : ce ≤ mx ∧ sl ≤ sx) (hP : Rp Γ n ω H κ) (hS : va_S (gA Γ) s.heap H locs) (hl : lk ls L) :
    va_Run p l e (rmk D mx sx) s m args below meth c H locs ce sl 0 0 (F0 m pc ls (as.reverse ++ S)) S (Qc as.toArray) (gA Γ) := by
  obtain ⟨o1, o3, o4, o5⟩ := O
  refine va_runS (Ts := WS) (n := na) ⟨C.1, C.2.1, C.2.2.1, C.2.2.2.1, C.2.2.2.2.1⟩ hM ⟨callB_of na C.2.2.2.2.1 (inWS o4) rfl rfl rfl (C.2.2.2.2.1 _ o3) (C.2.2.2.2.1 _ K) o5 ⟨hD.1, ?_⟩, C.2.2.2.2.1 _ o1⟩ ⟨Pcx.blind, ?_⟩ rfl hn (hl.1.trans hL) rfl (lv_room hcat) dd ⟨?_, ?_⟩
  · show 8 + (maxL + 11) + 64 * d ≤ 64 * D
    omega
  · intro U hU hW
    exact ⟨rfl, C.2.2.2.2.2.1.next hW hU hS, by rw [hU]; exact hP⟩
  · show ce + 0 ≤ mx
    omega
  · show sl + 0 ≤ sx
    omega
/-- a private static method of a nest mate -/
theorem j_runSN {y : MethodName} {host : String} {bytes : ByteArray} {maxL d D na mx sx : Nat} {ret : Option FieldType} {as : List Value} {Qc : Array Value → State → Outcome → State → Prop} {H : Heap} {locs : List Loc} {ls : Array Slot} (C : Cx Γ p l s m args meth c cc own nL)
    (hM : Met l y (.code y bytes maxL ret :: WS) (rmk d 0 0) (Pcx Γ as ω n κ) Qc 0 0 (gA Γ)) (O : Os y bytes maxL ret na) (K : (own, idx, y, host) ∈ nstM) (hD : d + 1 ≤ D ∧ maxL ≤ 40) (hn : as.length = na) (dd : decode cc pc = .ok (.invokestatic idx, 3)) (hL : L.length = nL)
    (hcat : (S.map fun v => v.category).sum ≤ 8) (hce : ce ≤ mx ∧ sl ≤ sx) (hP : Rp Γ n ω H κ) (hS : va_S (gA Γ) s.heap H locs) (hl : lk ls L) :
    va_Run p l e (rmk D mx sx) s m args below meth c H locs ce sl 0 0 (F0 m pc ls (as.reverse ++ S)) S (Qc as.toArray) (gA Γ) := by
  obtain ⟨o1, o3, o4, o5⟩ := O
  refine va_runSN (Ts := WS) (n := na) (host := host) ⟨C.1, C.2.1, C.2.2.1, C.2.2.2.1, C.2.2.2.2.1⟩ hM ⟨va_cnB na C.2.2.2.2.1 (inWS o4) rfl rfl rfl (C.2.2.2.2.2.1.2.2.1 _ K) (C.2.2.2.2.1 _ o3) o5 ⟨hD.1, ?_⟩, C.2.2.2.2.1 _ o1, trivial⟩ ⟨Pcx.blind, ?_⟩ rfl hn (hl.1.trans hL) rfl (lv_room hcat) dd ⟨?_, ?_⟩
  · show 8 + (maxL + 11) + 64 * d ≤ 64 * D
    omega
  · intro U hU hW
    exact ⟨rfl, C.2.2.2.2.2.1.next hW hU hS, by rw [hU]; exact hP⟩
  · show ce + 0 ≤ mx
    omega
  · show sl + 0 ≤ sx
    omega
theorem j_kI {st : List Value} {as : List Value} {Po : Int → Wo → Prop} {H : Heap} {locs : List Loc} {ls : Array Slot} (hr : va_Run p l e R s m args below meth c H locs ce sl 0 0 (F0 m pc ls st) S (QI Γ Po n κ as.toArray) (gA Γ)) (hS : va_S (gA Γ) s.heap H locs) (hl : lk ls L)
    (kx : ∀ (z : Int) (ω' : Wo), Rg z → Po z ω' → J Γ p l e R s m args below meth c Q n ce sl (pc + 3) L (.int (iI z) :: S) ω' κ) : W p l e R s m args below meth c H locs ce sl Q (F0 m pc ls st) := by
  refine va_calli hr hS (fun q _ h => h) (fun q h => h) (fun r ω' t H1 locs1 ht hvm hpo hB _ _ hS1 => ?_)
  obtain ⟨z, rfl, hz0, hz⟩ := hpo
  have hB : Rp Γ n ω' t.heap κ := hB
  rw [ht] at hB
  exact kx z ω' hz0 hz H1 locs1 ls hB hS1 hl
theorem j_kV {st : List Value} {as : List Value} {Po : Wo → Prop} {H : Heap} {locs : List Loc} {ls : Array Slot} (hr : va_Run p l e R s m args below meth c H locs ce sl 0 0 (F0 m pc ls st) S (QV Γ Po n κ as.toArray) (gA Γ)) (hS : va_S (gA Γ) s.heap H locs) (hl : lk ls L)
    (kx : ∀ (ω' : Wo), Po ω' → J Γ p l e R s m args below meth c Q n ce sl (pc + 3) L S ω' κ) : W p l e R s m args below meth c H locs ce sl Q (F0 m pc ls st) := by
  refine va_callv hr hS (fun q _ h => h) (fun q h => h) (fun ω' t H1 locs1 ht hvm hpo hB _ _ hS1 => ?_)
  have hB : Rp Γ n ω' t.heap κ := hB
  rw [ht] at hB
  exact kx ω' hpo H1 locs1 ls hB hS1 hl
theorem j_cVI0 {y : MethodName} {bytes : ByteArray} {maxL d D mx sx : Nat} {rt : FieldType} {Po : Int → Wo → Prop} (C : Cx Γ p l s m args meth c cc own nL) (hM : CI Γ l y bytes maxL rt d (.ref (rl Γ a) :: []) ω Po n κ) (O : Oc y bytes maxL (some rt) 0) (K : Lk own idx y) (hrc : Rc kk y) (ha : At n a kk κ) (hD : d + 1 ≤ D ∧ maxL ≤ 40) (hL : L.length = nL) (hcat : (S.map fun v => v.category).sum ≤ 8) (hce : ce ≤ mx ∧ sl ≤ sx) (dd : Dx cc pc (.invokevirtual idx) 3 pc') (kx : ∀ (z : Int) (ω' : Wo), Rg z → Po z ω' → J Γ p l e (rmk D mx sx) s m args below meth c Q n ce sl pc' L (.int (iI z) :: S) ω' κ) : J Γ p l e (rmk D mx sx) s m args below meth c Q n ce sl pc L (.ref (rl Γ a) :: S) ω κ := by
  intro H locs ls hP hS hl
  obtain ⟨hd, rfl⟩ := dd
  exact j_kI (j_runV (as := []) C hM O K hrc ha hD rfl hd hL hcat hce hP hS hl) hS hl kx
theorem j_cVV0 {y : MethodName} {bytes : ByteArray} {maxL d D mx sx : Nat} {Po : Wo → Prop} (C : Cx Γ p l s m args meth c cc own nL) (hM : CV Γ l y bytes maxL d (.ref (rl Γ a) :: []) ω Po n κ) (O : Oc y bytes maxL none 0) (K : Lk own idx y) (hrc : Rc kk y) (ha : At n a kk κ) (hD : d + 1 ≤ D ∧ maxL ≤ 40) (hL : L.length = nL) (hcat : (S.map fun v => v.category).sum ≤ 8) (hce : ce ≤ mx ∧ sl ≤ sx) (dd : Dx cc pc (.invokevirtual idx) 3 pc') (kx : ∀ (ω' : Wo), Po ω' → J Γ p l e (rmk D mx sx) s m args below meth c Q n ce sl pc' L S ω' κ) : J Γ p l e (rmk D mx sx) s m args below meth c Q n ce sl pc L (.ref (rl Γ a) :: S) ω κ := by
  intro H locs ls hP hS hl
  obtain ⟨hd, rfl⟩ := dd
  exact j_kV (j_runV (as := []) C hM O K hrc ha hD rfl hd hL hcat hce hP hS hl) hS hl kx
theorem j_cSI0 {y : MethodName} {bytes : ByteArray} {maxL d D mx sx : Nat} {rt : FieldType} {Po : Int → Wo → Prop} (C : Cx Γ p l s m args meth c cc own nL) (hM : CI Γ l y bytes maxL rt d [] ω Po n κ) (O : Os y bytes maxL (some rt) 0) (K : Lk own idx y) (hD : d + 1 ≤ D ∧ maxL ≤ 40) (hL : L.length = nL) (hcat : (S.map fun v => v.category).sum ≤ 8) (hce : ce ≤ mx ∧ sl ≤ sx) (dd : Dx cc pc (.invokestatic idx) 3 pc') (kx : ∀ (z : Int) (ω' : Wo), Rg z → Po z ω' → J Γ p l e (rmk D mx sx) s m args below meth c Q n ce sl pc' L (.int (iI z) :: S) ω' κ) : J Γ p l e (rmk D mx sx) s m args below meth c Q n ce sl pc L (S) ω κ := by
  intro H locs ls hP hS hl
  obtain ⟨hd, rfl⟩ := dd
  exact j_kI (j_runS (as := []) C hM O K hD rfl hd hL hcat hce hP hS hl) hS hl kx
theorem j_cSV0 {y : MethodName} {bytes : ByteArray} {maxL d D mx sx : Nat} {Po : Wo → Prop} (C : Cx Γ p l s m args meth c cc own nL) (hM : CV Γ l y bytes maxL d [] ω Po n κ) (O : Os y bytes maxL none 0) (K : Lk own idx y) (hD : d + 1 ≤ D ∧ maxL ≤ 40) (hL : L.length = nL) (hcat : (S.map fun v => v.category).sum ≤ 8) (hce : ce ≤ mx ∧ sl ≤ sx) (dd : Dx cc pc (.invokestatic idx) 3 pc') (kx : ∀ (ω' : Wo), Po ω' → J Γ p l e (rmk D mx sx) s m args below meth c Q n ce sl pc' L S ω' κ) : J Γ p l e (rmk D mx sx) s m args below meth c Q n ce sl pc L (S) ω κ := by
  intro H locs ls hP hS hl
  obtain ⟨hd, rfl⟩ := dd
  exact j_kV (j_runS (as := []) C hM O K hD rfl hd hL hcat hce hP hS hl) hS hl kx
theorem j_cNI0 {y : MethodName} {bytes : ByteArray} {maxL d D mx sx : Nat} {rt : FieldType} {host : String} {Po : Int → Wo → Prop} (C : Cx Γ p l s m args meth c cc own nL) (hM : CI Γ l y bytes maxL rt d [] ω Po n κ) (O : Os y bytes maxL (some rt) 0) (K : (own, idx, y, host) ∈ nstM) (hD : d + 1 ≤ D ∧ maxL ≤ 40) (hL : L.length = nL) (hcat : (S.map fun v => v.category).sum ≤ 8) (hce : ce ≤ mx ∧ sl ≤ sx) (dd : Dx cc pc (.invokestatic idx) 3 pc') (kx : ∀ (z : Int) (ω' : Wo), Rg z → Po z ω' → J Γ p l e (rmk D mx sx) s m args below meth c Q n ce sl pc' L (.int (iI z) :: S) ω' κ) : J Γ p l e (rmk D mx sx) s m args below meth c Q n ce sl pc L (S) ω κ := by
  intro H locs ls hP hS hl
  obtain ⟨hd, rfl⟩ := dd
  exact j_kI (j_runSN (as := []) C hM O K hD rfl hd hL hcat hce hP hS hl) hS hl kx
theorem j_cNV0 {y : MethodName} {bytes : ByteArray} {maxL d D mx sx : Nat} {host : String} {Po : Wo → Prop} (C : Cx Γ p l s m args meth c cc own nL) (hM : CV Γ l y bytes maxL d [] ω Po n κ) (O : Os y bytes maxL none 0) (K : (own, idx, y, host) ∈ nstM) (hD : d + 1 ≤ D ∧ maxL ≤ 40) (hL : L.length = nL) (hcat : (S.map fun v => v.category).sum ≤ 8) (hce : ce ≤ mx ∧ sl ≤ sx) (dd : Dx cc pc (.invokestatic idx) 3 pc') (kx : ∀ (ω' : Wo), Po ω' → J Γ p l e (rmk D mx sx) s m args below meth c Q n ce sl pc' L S ω' κ) : J Γ p l e (rmk D mx sx) s m args below meth c Q n ce sl pc L (S) ω κ := by
  intro H locs ls hP hS hl
  obtain ⟨hd, rfl⟩ := dd
  exact j_kV (j_runSN (as := []) C hM O K hD rfl hd hL hcat hce hP hS hl) hS hl kx
theorem j_cVI1 {y : MethodName} {bytes : ByteArray} {maxL d D mx sx : Nat} {rt : FieldType} {x1 : Value} {Po : Int → Wo → Prop} (C : Cx Γ p l s m args meth c cc own nL) (hM : CI Γ l y bytes maxL rt d (.ref (rl Γ a) :: [x1]) ω Po n κ) (O : Oc y bytes maxL (some rt) 1) (K : Lk own idx y) (hrc : Rc kk y) (ha : At n a kk κ) (hD : d + 1 ≤ D ∧ maxL ≤ 40) (hL : L.length = nL) (hcat : (S.map fun v => v.category).sum ≤ 8) (hce : ce ≤ mx ∧ sl ≤ sx) (dd : Dx cc pc (.invokevirtual idx) 3 pc') (kx : ∀ (z : Int) (ω' : Wo), Rg z → Po z ω' → J Γ p l e (rmk D mx sx) s m args below meth c Q n ce sl pc' L (.int (iI z) :: S) ω' κ) : J Γ p l e (rmk D mx sx) s m args below meth c Q n ce sl pc L (x1 :: .ref (rl Γ a) :: S) ω κ := by
  intro H locs ls hP hS hl
  obtain ⟨hd, rfl⟩ := dd
  exact j_kI (j_runV (as := [x1]) C hM O K hrc ha hD rfl hd hL hcat hce hP hS hl) hS hl kx
theorem j_cVV1 {y : MethodName} {bytes : ByteArray} {maxL d D mx sx : Nat} {x1 : Value} {Po : Wo → Prop} (C : Cx Γ p l s m args meth c cc own nL) (hM : CV Γ l y bytes maxL d (.ref (rl Γ a) :: [x1]) ω Po n κ) (O : Oc y bytes maxL none 1) (K : Lk own idx y) (hrc : Rc kk y) (ha : At n a kk κ) (hD : d + 1 ≤ D ∧ maxL ≤ 40) (hL : L.length = nL) (hcat : (S.map fun v => v.category).sum ≤ 8) (hce : ce ≤ mx ∧ sl ≤ sx) (dd : Dx cc pc (.invokevirtual idx) 3 pc') (kx : ∀ (ω' : Wo), Po ω' → J Γ p l e (rmk D mx sx) s m args below meth c Q n ce sl pc' L S ω' κ) : J Γ p l e (rmk D mx sx) s m args below meth c Q n ce sl pc L (x1 :: .ref (rl Γ a) :: S) ω κ := by
  intro H locs ls hP hS hl
  obtain ⟨hd, rfl⟩ := dd
  exact j_kV (j_runV (as := [x1]) C hM O K hrc ha hD rfl hd hL hcat hce hP hS hl) hS hl kx
theorem j_cSI1 {y : MethodName} {bytes : ByteArray} {maxL d D mx sx : Nat} {rt : FieldType} {x1 : Value} {Po : Int → Wo → Prop} (C : Cx Γ p l s m args meth c cc own nL) (hM : CI Γ l y bytes maxL rt d [x1] ω Po n κ) (O : Os y bytes maxL (some rt) 1) (K : Lk own idx y) (hD : d + 1 ≤ D ∧ maxL ≤ 40) (hL : L.length = nL) (hcat : (S.map fun v => v.category).sum ≤ 8) (hce : ce ≤ mx ∧ sl ≤ sx) (dd : Dx cc pc (.invokestatic idx) 3 pc') (kx : ∀ (z : Int) (ω' : Wo), Rg z → Po z ω' → J Γ p l e (rmk D mx sx) s m args below meth c Q n ce sl pc' L (.int (iI z) :: S) ω' κ) : J Γ p l e (rmk D mx sx) s m args below meth c Q n ce sl pc L (x1 :: S) ω κ := by
  intro H locs ls hP hS hl
  obtain ⟨hd, rfl⟩ := dd
  exact j_kI (j_runS (as := [x1]) C hM O K hD rfl hd hL hcat hce hP hS hl) hS hl kx
theorem j_cSV1 {y : MethodName} {bytes : ByteArray} {maxL d D mx sx : Nat} {x1 : Value} {Po : Wo → Prop} (C : Cx Γ p l s m args meth c cc own nL) (hM : CV Γ l y bytes maxL d [x1] ω Po n κ) (O : Os y bytes maxL none 1) (K : Lk own idx y) (hD : d + 1 ≤ D ∧ maxL ≤ 40) (hL : L.length = nL) (hcat : (S.map fun v => v.category).sum ≤ 8) (hce : ce ≤ mx ∧ sl ≤ sx) (dd : Dx cc pc (.invokestatic idx) 3 pc') (kx : ∀ (ω' : Wo), Po ω' → J Γ p l e (rmk D mx sx) s m args below meth c Q n ce sl pc' L S ω' κ) : J Γ p l e (rmk D mx sx) s m args below meth c Q n ce sl pc L (x1 :: S) ω κ := by
  intro H locs ls hP hS hl
  obtain ⟨hd, rfl⟩ := dd
  exact j_kV (j_runS (as := [x1]) C hM O K hD rfl hd hL hcat hce hP hS hl) hS hl kx
theorem j_cNI1 {y : MethodName} {bytes : ByteArray} {maxL d D mx sx : Nat} {rt : FieldType} {host : String} {x1 : Value} {Po : Int → Wo → Prop} (C : Cx Γ p l s m args meth c cc own nL) (hM : CI Γ l y bytes maxL rt d [x1] ω Po n κ) (O : Os y bytes maxL (some rt) 1) (K : (own, idx, y, host) ∈ nstM) (hD : d + 1 ≤ D ∧ maxL ≤ 40) (hL : L.length = nL) (hcat : (S.map fun v => v.category).sum ≤ 8) (hce : ce ≤ mx ∧ sl ≤ sx) (dd : Dx cc pc (.invokestatic idx) 3 pc') (kx : ∀ (z : Int) (ω' : Wo), Rg z → Po z ω' → J Γ p l e (rmk D mx sx) s m args below meth c Q n ce sl pc' L (.int (iI z) :: S) ω' κ) : J Γ p l e (rmk D mx sx) s m args below meth c Q n ce sl pc L (x1 :: S) ω κ := by
  intro H locs ls hP hS hl
  obtain ⟨hd, rfl⟩ := dd
  exact j_kI (j_runSN (as := [x1]) C hM O K hD rfl hd hL hcat hce hP hS hl) hS hl kx
theorem j_cNV1 {y : MethodName} {bytes : ByteArray} {maxL d D mx sx : Nat} {host : String} {x1 : Value} {Po : Wo → Prop} (C : Cx Γ p l s m args meth c cc own nL) (hM : CV Γ l y bytes maxL d [x1] ω Po n κ) (O : Os y bytes maxL none 1) (K : (own, idx, y, host) ∈ nstM) (hD : d + 1 ≤ D ∧ maxL ≤ 40) (hL : L.length = nL) (hcat : (S.map fun v => v.category).sum ≤ 8) (hce : ce ≤ mx ∧ sl ≤ sx) (dd : Dx cc pc (.invokestatic idx) 3 pc') (kx : ∀ (ω' : Wo), Po ω' → J Γ p l e (rmk D mx sx) s m args below meth c Q n ce sl pc' L S ω' κ) : J Γ p l e (rmk D mx sx) s m args below meth c Q n ce sl pc L (x1 :: S) ω κ := by
  intro H locs ls hP hS hl
  obtain ⟨hd, rfl⟩ := dd
  exact j_kV (j_runSN (as := [x1]) C hM O K hD rfl hd hL hcat hce hP hS hl) hS hl kx
theorem j_cVI2 {y : MethodName} {bytes : ByteArray} {maxL d D mx sx : Nat} {rt : FieldType} {x1 x2 : Value} {Po : Int → Wo → Prop} (C : Cx Γ p l s m args meth c cc own nL) (hM : CI Γ l y bytes maxL rt d (.ref (rl Γ a) :: [x1, x2]) ω Po n κ) (O : Oc y bytes maxL (some rt) 2) (K : Lk own idx y) (hrc : Rc kk y) (ha : At n a kk κ) (hD : d + 1 ≤ D ∧ maxL ≤ 40) (hL : L.length = nL) (hcat : (S.map fun v => v.category).sum ≤ 8) (hce : ce ≤ mx ∧ sl ≤ sx) (dd : Dx cc pc (.invokevirtual idx) 3 pc') (kx : ∀ (z : Int) (ω' : Wo), Rg z → Po z ω' → J Γ p l e (rmk D mx sx) s m args below meth c Q n ce sl pc' L (.int (iI z) :: S) ω' κ) : J Γ p l e (rmk D mx sx) s m args below meth c Q n ce sl pc L (x2 :: x1 :: .ref (rl Γ a) :: S) ω κ := by
  intro H locs ls hP hS hl
  obtain ⟨hd, rfl⟩ := dd
  exact j_kI (j_runV (as := [x1, x2]) C hM O K hrc ha hD rfl hd hL hcat hce hP hS hl) hS hl kx
theorem j_cVV2 {y : MethodName} {bytes : ByteArray} {maxL d D mx sx : Nat} {x1 x2 : Value} {Po : Wo → Prop} (C : Cx Γ p l s m args meth c cc own nL) (hM : CV Γ l y bytes maxL d (.ref (rl Γ a) :: [x1, x2]) ω Po n κ) (O : Oc y bytes maxL none 2) (K : Lk own idx y) (hrc : Rc kk y) (ha : At n a kk κ) (hD : d + 1 ≤ D ∧ maxL ≤ 40) (hL : L.length = nL) (hcat : (S.map fun v => v.category).sum ≤ 8) (hce : ce ≤ mx ∧ sl ≤ sx) (dd : Dx cc pc (.invokevirtual idx) 3 pc') (kx : ∀ (ω' : Wo), Po ω' → J Γ p l e (rmk D mx sx) s m args below meth c Q n ce sl pc' L S ω' κ) : J Γ p l e (rmk D mx sx) s m args below meth c Q n ce sl pc L (x2 :: x1 :: .ref (rl Γ a) :: S) ω κ := by
  intro H locs ls hP hS hl
  obtain ⟨hd, rfl⟩ := dd
  exact j_kV (j_runV (as := [x1, x2]) C hM O K hrc ha hD rfl hd hL hcat hce hP hS hl) hS hl kx
theorem j_cSI2 {y : MethodName} {bytes : ByteArray} {maxL d D mx sx : Nat} {rt : FieldType} {x1 x2 : Value} {Po : Int → Wo → Prop} (C : Cx Γ p l s m args meth c cc own nL) (hM : CI Γ l y bytes maxL rt d [x1, x2] ω Po n κ) (O : Os y bytes maxL (some rt) 2) (K : Lk own idx y) (hD : d + 1 ≤ D ∧ maxL ≤ 40) (hL : L.length = nL) (hcat : (S.map fun v => v.category).sum ≤ 8) (hce : ce ≤ mx ∧ sl ≤ sx) (dd : Dx cc pc (.invokestatic idx) 3 pc') (kx : ∀ (z : Int) (ω' : Wo), Rg z → Po z ω' → J Γ p l e (rmk D mx sx) s m args below meth c Q n ce sl pc' L (.int (iI z) :: S) ω' κ) : J Γ p l e (rmk D mx sx) s m args below meth c Q n ce sl pc L (x2 :: x1 :: S) ω κ := by
  intro H locs ls hP hS hl
  obtain ⟨hd, rfl⟩ := dd
  exact j_kI (j_runS (as := [x1, x2]) C hM O K hD rfl hd hL hcat hce hP hS hl) hS hl kx
theorem j_cSV2 {y : MethodName} {bytes : ByteArray} {maxL d D mx sx : Nat} {x1 x2 : Value} {Po : Wo → Prop} (C : Cx Γ p l s m args meth c cc own nL) (hM : CV Γ l y bytes maxL d [x1, x2] ω Po n κ) (O : Os y bytes maxL none 2) (K : Lk own idx y) (hD : d + 1 ≤ D ∧ maxL ≤ 40) (hL : L.length = nL) (hcat : (S.map fun v => v.category).sum ≤ 8) (hce : ce ≤ mx ∧ sl ≤ sx) (dd : Dx cc pc (.invokestatic idx) 3 pc') (kx : ∀ (ω' : Wo), Po ω' → J Γ p l e (rmk D mx sx) s m args below meth c Q n ce sl pc' L S ω' κ) : J Γ p l e (rmk D mx sx) s m args below meth c Q n ce sl pc L (x2 :: x1 :: S) ω κ := by
  intro H locs ls hP hS hl
  obtain ⟨hd, rfl⟩ := dd
  exact j_kV (j_runS (as := [x1, x2]) C hM O K hD rfl hd hL hcat hce hP hS hl) hS hl kx
theorem j_cNI2 {y : MethodName} {bytes : ByteArray} {maxL d D mx sx : Nat} {rt : FieldType} {host : String} {x1 x2 : Value} {Po : Int → Wo → Prop} (C : Cx Γ p l s m args meth c cc own nL) (hM : CI Γ l y bytes maxL rt d [x1, x2] ω Po n κ) (O : Os y bytes maxL (some rt) 2) (K : (own, idx, y, host) ∈ nstM) (hD : d + 1 ≤ D ∧ maxL ≤ 40) (hL : L.length = nL) (hcat : (S.map fun v => v.category).sum ≤ 8) (hce : ce ≤ mx ∧ sl ≤ sx) (dd : Dx cc pc (.invokestatic idx) 3 pc') (kx : ∀ (z : Int) (ω' : Wo), Rg z → Po z ω' → J Γ p l e (rmk D mx sx) s m args below meth c Q n ce sl pc' L (.int (iI z) :: S) ω' κ) : J Γ p l e (rmk D mx sx) s m args below meth c Q n ce sl pc L (x2 :: x1 :: S) ω κ := by
  intro H locs ls hP hS hl
  obtain ⟨hd, rfl⟩ := dd
  exact j_kI (j_runSN (as := [x1, x2]) C hM O K hD rfl hd hL hcat hce hP hS hl) hS hl kx
theorem j_cNV2 {y : MethodName} {bytes : ByteArray} {maxL d D mx sx : Nat} {host : String} {x1 x2 : Value} {Po : Wo → Prop} (C : Cx Γ p l s m args meth c cc own nL) (hM : CV Γ l y bytes maxL d [x1, x2] ω Po n κ) (O : Os y bytes maxL none 2) (K : (own, idx, y, host) ∈ nstM) (hD : d + 1 ≤ D ∧ maxL ≤ 40) (hL : L.length = nL) (hcat : (S.map fun v => v.category).sum ≤ 8) (hce : ce ≤ mx ∧ sl ≤ sx) (dd : Dx cc pc (.invokestatic idx) 3 pc') (kx : ∀ (ω' : Wo), Po ω' → J Γ p l e (rmk D mx sx) s m args below meth c Q n ce sl pc' L S ω' κ) : J Γ p l e (rmk D mx sx) s m args below meth c Q n ce sl pc L (x2 :: x1 :: S) ω κ := by
  intro H locs ls hP hS hl
  obtain ⟨hd, rfl⟩ := dd
  exact j_kV (j_runSN (as := [x1, x2]) C hM O K hD rfl hd hL hcat hce hP hS hl) hS hl kx
theorem j_cVI3 {y : MethodName} {bytes : ByteArray} {maxL d D mx sx : Nat} {rt : FieldType} {x1 x2 x3 : Value} {Po : Int → Wo → Prop} (C : Cx Γ p l s m args meth c cc own nL) (hM : CI Γ l y bytes maxL rt d (.ref (rl Γ a) :: [x1, x2, x3]) ω Po n κ) (O : Oc y bytes maxL (some rt) 3) (K : Lk own idx y) (hrc : Rc kk y) (ha : At n a kk κ) (hD : d + 1 ≤ D ∧ maxL ≤ 40) (hL : L.length = nL) (hcat : (S.map fun v => v.category).sum ≤ 8) (hce : ce ≤ mx ∧ sl ≤ sx) (dd : Dx cc pc (.invokevirtual idx) 3 pc') (kx : ∀ (z : Int) (ω' : Wo), Rg z → Po z ω' → J Γ p l e (rmk D mx sx) s m args below meth c Q n ce sl pc' L (.int (iI z) :: S) ω' κ) : J Γ p l e (rmk D mx sx) s m args below meth c Q n ce sl pc L (x3 :: x2 :: x1 :: .ref (rl Γ a) :: S) ω κ := by
  intro H locs ls hP hS hl
  obtain ⟨hd, rfl⟩ := dd
  exact j_kI (j_runV (as := [x1, x2, x3]) C hM O K hrc ha hD rfl hd hL hcat hce hP hS hl) hS hl kx
theorem j_cVV3 {y : MethodName} {bytes : ByteArray} {maxL d D mx sx : Nat} {x1 x2 x3 : Value} {Po : Wo → Prop} (C : Cx Γ p l s m args meth c cc own nL) (hM : CV Γ l y bytes maxL d (.ref (rl Γ a) :: [x1, x2, x3]) ω Po n κ) (O : Oc y bytes maxL none 3) (K : Lk own idx y) (hrc : Rc kk y) (ha : At n a kk κ) (hD : d + 1 ≤ D ∧ maxL ≤ 40) (hL : L.length = nL) (hcat : (S.map fun v => v.category).sum ≤ 8) (hce : ce ≤ mx ∧ sl ≤ sx) (dd : Dx cc pc (.invokevirtual idx) 3 pc') (kx : ∀ (ω' : Wo), Po ω' → J Γ p l e (rmk D mx sx) s m args below meth c Q n ce sl pc' L S ω' κ) : J Γ p l e (rmk D mx sx) s m args below meth c Q n ce sl pc L (x3 :: x2 :: x1 :: .ref (rl Γ a) :: S) ω κ := by
  intro H locs ls hP hS hl
  obtain ⟨hd, rfl⟩ := dd
  exact j_kV (j_runV (as := [x1, x2, x3]) C hM O K hrc ha hD rfl hd hL hcat hce hP hS hl) hS hl kx
theorem j_cSI3 {y : MethodName} {bytes : ByteArray} {maxL d D mx sx : Nat} {rt : FieldType} {x1 x2 x3 : Value} {Po : Int → Wo → Prop} (C : Cx Γ p l s m args meth c cc own nL) (hM : CI Γ l y bytes maxL rt d [x1, x2, x3] ω Po n κ) (O : Os y bytes maxL (some rt) 3) (K : Lk own idx y) (hD : d + 1 ≤ D ∧ maxL ≤ 40) (hL : L.length = nL) (hcat : (S.map fun v => v.category).sum ≤ 8) (hce : ce ≤ mx ∧ sl ≤ sx) (dd : Dx cc pc (.invokestatic idx) 3 pc') (kx : ∀ (z : Int) (ω' : Wo), Rg z → Po z ω' → J Γ p l e (rmk D mx sx) s m args below meth c Q n ce sl pc' L (.int (iI z) :: S) ω' κ) : J Γ p l e (rmk D mx sx) s m args below meth c Q n ce sl pc L (x3 :: x2 :: x1 :: S) ω κ := by
  intro H locs ls hP hS hl
  obtain ⟨hd, rfl⟩ := dd
  exact j_kI (j_runS (as := [x1, x2, x3]) C hM O K hD rfl hd hL hcat hce hP hS hl) hS hl kx
theorem j_cSV3 {y : MethodName} {bytes : ByteArray} {maxL d D mx sx : Nat} {x1 x2 x3 : Value} {Po : Wo → Prop} (C : Cx Γ p l s m args meth c cc own nL) (hM : CV Γ l y bytes maxL d [x1, x2, x3] ω Po n κ) (O : Os y bytes maxL none 3) (K : Lk own idx y) (hD : d + 1 ≤ D ∧ maxL ≤ 40) (hL : L.length = nL) (hcat : (S.map fun v => v.category).sum ≤ 8) (hce : ce ≤ mx ∧ sl ≤ sx) (dd : Dx cc pc (.invokestatic idx) 3 pc') (kx : ∀ (ω' : Wo), Po ω' → J Γ p l e (rmk D mx sx) s m args below meth c Q n ce sl pc' L S ω' κ) : J Γ p l e (rmk D mx sx) s m args below meth c Q n ce sl pc L (x3 :: x2 :: x1 :: S) ω κ := by
  intro H locs ls hP hS hl
  obtain ⟨hd, rfl⟩ := dd
  exact j_kV (j_runS (as := [x1, x2, x3]) C hM O K hD rfl hd hL hcat hce hP hS hl) hS hl kx
theorem j_cNI3 {y : MethodName} {bytes : ByteArray} {maxL d D mx sx : Nat} {rt : FieldType} {host : String} {x1 x2 x3 : Value} {Po : Int → Wo → Prop} (C : Cx Γ p l s m args meth c cc own nL) (hM : CI Γ l y bytes maxL rt d [x1, x2, x3] ω Po n κ) (O : Os y bytes maxL (some rt) 3) (K : (own, idx, y, host) ∈ nstM) (hD : d + 1 ≤ D ∧ maxL ≤ 40) (hL : L.length = nL) (hcat : (S.map fun v => v.category).sum ≤ 8) (hce : ce ≤ mx ∧ sl ≤ sx) (dd : Dx cc pc (.invokestatic idx) 3 pc') (kx : ∀ (z : Int) (ω' : Wo), Rg z → Po z ω' → J Γ p l e (rmk D mx sx) s m args below meth c Q n ce sl pc' L (.int (iI z) :: S) ω' κ) : J Γ p l e (rmk D mx sx) s m args below meth c Q n ce sl pc L (x3 :: x2 :: x1 :: S) ω κ := by
  intro H locs ls hP hS hl
  obtain ⟨hd, rfl⟩ := dd
  exact j_kI (j_runSN (as := [x1, x2, x3]) C hM O K hD rfl hd hL hcat hce hP hS hl) hS hl kx
theorem j_cNV3 {y : MethodName} {bytes : ByteArray} {maxL d D mx sx : Nat} {host : String} {x1 x2 x3 : Value} {Po : Wo → Prop} (C : Cx Γ p l s m args meth c cc own nL) (hM : CV Γ l y bytes maxL d [x1, x2, x3] ω Po n κ) (O : Os y bytes maxL none 3) (K : (own, idx, y, host) ∈ nstM) (hD : d + 1 ≤ D ∧ maxL ≤ 40) (hL : L.length = nL) (hcat : (S.map fun v => v.category).sum ≤ 8) (hce : ce ≤ mx ∧ sl ≤ sx) (dd : Dx cc pc (.invokestatic idx) 3 pc') (kx : ∀ (ω' : Wo), Po ω' → J Γ p l e (rmk D mx sx) s m args below meth c Q n ce sl pc' L S ω' κ) : J Γ p l e (rmk D mx sx) s m args below meth c Q n ce sl pc L (x3 :: x2 :: x1 :: S) ω κ := by
  intro H locs ls hP hS hl
  obtain ⟨hd, rfl⟩ := dd
  exact j_kV (j_runSN (as := [x1, x2, x3]) C hM O K hD rfl hd hL hcat hce hP hS hl) hS hl kx
theorem QI_end {Po : Int → Wo → Prop} {z : Int} {H : Heap} {locs : List Loc} (h0 : Rg z) (h : Po z ω) (hP : Rp Γ n ω H κ) (hS : va_S (gA Γ) s.heap H locs) (t : State) (ht : t.heap = H) : QI Γ Po n κ args s (.returned (some (.int (iI z)))) t :=
  ⟨⟨iI z, ω, rfl, ⟨z, rfl, h0, h⟩, by show Rp Γ n ω t.heap κ; rw [ht]; exact hP⟩, hS.F ht⟩
theorem j_iret {Po : Int → Wo → Prop} {z : Int} (C : Cx Γ p l s m args meth c cc own nL) (hr : meth.sig.returnType = some .int) (d : Dx cc pc (.ireturn) 1 pc') (h0 : Rg z) (h : Po z ω) : J Γ p l e R s m args below meth c (MQ below (QI Γ Po n κ) args s ce sl (gA Γ)) n ce sl pc L [.int (iI z)] ω κ := by
  intro H locs ls hP hS hl
  exact W.iret C.1 C.2.1 hr (fun t ht _ => QI_end h0 h hP hS t ht) hS.2.2 d.1 C.2.2.2.2.2.2
theorem j_zret {Po : Int → Wo → Prop} {z : Int} (C : Cx Γ p l s m args meth c cc own nL) (hr : meth.sig.returnType = some .boolean) (d : Dx cc pc (.ireturn) 1 pc') (hz : z = 0 ∨ z = 1) (h : Po z ω) : J Γ p l e R s m args below meth c (MQ below (QI Γ Po n κ) args s ce sl (gA Γ)) n ce sl pc L [.int (iI z)] ω κ := by
  intro H locs ls hP hS hl
  exact W.zret C.1 C.2.1 hr (by rcases hz with rfl | rfl <;> rfl) (fun t ht _ => QI_end (by rcases hz with rfl | rfl <;> decide) h hP hS t ht) hS.2.2 d.1 C.2.2.2.2.2.2
theorem j_cret {Po : Int → Wo → Prop} {z : Int} (C : Cx Γ p l s m args meth c cc own nL) (hr : meth.sig.returnType = some .char) (d : Dx cc pc (.ireturn) 1 pc') (hz : 0 ≤ z ∧ z < 65536) (h : Po z ω) : J Γ p l e R s m args below meth c (MQ below (QI Γ Po n κ) args s ce sl (gA Γ)) n ce sl pc L [.int (iI z)] ω κ := by
  intro H locs ls hP hS hl
  refine W.zret C.1 C.2.1 hr ?_ (fun t ht _ => QI_end ⟨by omega, by omega⟩ h hP hS t ht) hS.2.2 d.1 C.2.2.2.2.2.2
  obtain ⟨q, rfl⟩ := Int.eq_ofNat_of_zero_le hz.1
  rw [iI_nat]; exact (pk_charN (q := q) (by omega)).1
theorem j_vret {Po : Wo → Prop} (C : Cx Γ p l s m args meth c cc own nL) (hr : meth.sig.returnType = none) (d : Dx cc pc (.return_) 1 pc') (h : Po ω) : J Γ p l e R s m args below meth c (MQ below (QV Γ Po n κ) args s ce sl (gA Γ)) n ce sl pc L [] ω κ := by
  intro H locs ls hP hS hl
  exact W.vret C.1 C.2.1 hr (fun t ht _ => ⟨⟨ω, rfl, h, by show Rp Γ n ω t.heap κ; rw [ht]; exact hP⟩, hS.F ht⟩) hS.2.2 d.1 C.2.2.2.2.2.2
theorem j_conv {L' : List (Option Value)} {S' : List Value} {ω' : Wo} (hL : L = L') (hS : S = S') (hω : ω = ω') (kk : J Γ p l e R s m args below meth c Q n ce sl pc L' S' ω' κ) : J Γ p l e R s m args below meth c Q n ce sl pc L S ω κ := by subst hL; subst hS; subst hω; exact kk
end CALLS
