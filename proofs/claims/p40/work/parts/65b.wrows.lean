/-! more rows of texts; methods that make cells of the law's own -/
/-- methods that answer a reference of any type -/
def CRt (Γ : Ga) (l : Launch) (y : MethodName) (bytes : ByteArray) (maxL : Nat) (rt : FieldType) (d : Nat) (as : List Value) (ω : Wo) (Po : Nat → Wo → Prop) (n : Nat := 243) (κ : Nat → Nat := kd) : Prop :=
  Met l y (.code y bytes maxL (some rt) :: WS) (rmk d 0 0) (Pcx Γ as ω n κ) (va_Qq (fun (r : Option Nat) (ω' : Wo) => ∃ b : Nat, r = some (rl Γ b) ∧ Po b ω') (Bx Γ n κ) (gA Γ)) 0 0 (gA Γ)
/-- what holds where the law's own cells are made -/
def KW (Γ : Ga) (n : Nat) (as : List Value) (ω : Wo) (κ : Nat → Nat) : Array Value → State → Prop := fun a U => a = as.toArray ∧ Kx Γ U ∧ Rp Γ n ω U.heap κ ∧ U.heap.size + 243 = gN Γ 0 + n ∧ 243 ≤ n ∧ gH Γ = gN Γ 0 ∧ gB Γ + 243 ≤ gN Γ 0 ∧ (∀ i, gN Γ i = gN Γ 0 + i)
theorem KW.blind {Γ : Ga} {n : Nat} {as : List Value} {ω : Wo} {κ : Nat → Nat} : FrameBlind (KW Γ n as ω κ) := fun a U g mk h => ⟨h.1, h.2.1.calling g mk a, h.2.2⟩
def QNW (Γ : Ga) (n : Nat) (κ : Nat → Nat) (Po : Wo → Prop) : Array Value → State → Outcome → State → Prop := va_Qv Po (fun (ω' : Wo) (t : State) => Rp Γ n ω' t.heap κ) (gA Γ)
def QRW (Γ : Ga) (n : Nat) (κ : Nat → Nat) (Po : Nat → Wo → Prop) : Array Value → State → Outcome → State → Prop := va_Qq (fun (r : Option Nat) (ω' : Wo) => ∃ b : Nat, r = some (rl Γ b) ∧ Po b ω') (fun (ω' : Wo) (t : State) => Rp Γ n ω' t.heap κ) (gA Γ)
def CNW (Γ : Ga) (l : Launch) (y : MethodName) (bytes : ByteArray) (maxL d mc ms : Nat) (as : List Value) (ω : Wo) (n : Nat) (κ : Nat → Nat) (Po : Wo → Prop) : Prop :=
  Met l y (.code y bytes maxL none :: WS) (rmk d mc ms) (KW Γ n as ω κ) (QNW Γ (n + mc) κ Po) mc ms (gA Γ)
def CRW (Γ : Ga) (l : Launch) (y : MethodName) (bytes : ByteArray) (maxL : Nat) (rt : FieldType) (d mc ms : Nat) (as : List Value) (ω : Wo) (n : Nat) (κ : Nat → Nat) (Po : Nat → Wo → Prop) : Prop :=
  Met l y (.code y bytes maxL (some rt) :: WS) (rmk d mc ms) (KW Γ n as ω κ) (QRW Γ (n + mc) κ Po) mc ms (gA Γ)
section WROWS
variable {κ : Nat → Nat} {Γ : Ga} {p : Program} {l : Launch} {e : Env} {R : Room} {s : State} {m : MethodId} {args : Array Value} {below : List Frame} {meth : Method} {c : Code} {Q : State → Prop} {n ce sl : Nat} {cc : ByteArray} {own : String} {nL pc pc' idx a kk k : Nat} {L : List (Option Value)} {S : List Value} {ω : Wo}
theorem MetW.ofJ {y : MethodName} {bytes : ByteArray} {maxL d mc ms k n : Nat} {ret : Option FieldType} {as : List Value} {Qc : Array Value → State → Outcome → State → Prop} {ω : Wo} (L : List (Option Value)) (hy : plainName y.cls = true) (hk : maxL = as.length + k) (hL : L = as.map some ++ List.replicate k none) (hc : as.all (fun v => v.category == 1) = true)
    (body : ∀ p e s m args below meth c, Cx Γ p l s m args meth c bytes y.cls maxL → (y.name = "<init>" → meth.name = "<init>") → Hw Γ s n 0 → meth.sig.returnType = ret → J Γ p l e (rmk d mc ms) s m args below meth c (MQ below Qc args s mc ms (gA Γ)) n 0 0 0 L [] ω κ) :
    Met l y (.code y bytes maxL ret :: WS) (rmk d mc ms) (KW Γ n as ω κ) Qc mc ms (gA Γ) := by
  refine Met.ofW (cc := bytes) (maxL := maxL) (ret := ret) hy rfl ?_
  intro p e s m args below meth c s₁ B hml hv
  obtain ⟨rfl, hK, hR, hsz, hz⟩ := hv
  have hts : ∀ w ∈ (Cond.code y bytes maxL ret :: WS), w.before as.toArray s = true := atoms_spec B.pre
  have C : Cx Γ p l s m as.toArray meth c bytes y.cls maxL := ⟨B.exec, B.bytes, hml, findClass_of_methodNamed B.named, fun w hw => hts w (List.mem_cons_of_mem _ hw), hK, B.notSynchronized⟩
  have K := body p e s m as.toArray below meth c C (fun h => (name_of_methodNamed B.named B.method).1.trans h) ⟨by omega, by omega, hz.2⟩ B.returns
  have hlk := lk.entry hk hL hc
  rw [lg_entry_eq]
  exact K s.heap [] _ hR va_S.rf hlk
theorem j_art {rt : FieldType} {b : Nat} {mc ms n' : Nat} {Po : Nat → Wo → Prop} (C : Cx Γ p l s m args meth c cc own nL) (hr : meth.sig.returnType = some rt) (hrt : rt.isReference = true) (d : Dx cc pc (.areturn) 1 pc') (hn : n = n') (hc : ce = mc ∧ sl = ms) (h : Po b ω) : J Γ p l e R s m args below meth c (MQ below (QRW Γ n' κ Po) args s mc ms (gA Γ)) n ce sl pc L [.ref (rl Γ b)] ω κ := by
  obtain ⟨rfl, rfl⟩ := hc
  subst hn
  intro H locs ls hP hS hl
  exact W_aret C.1 C.2.1 rfl hr hrt (fun t ht _ => ⟨⟨some (rl Γ b), ω, rfl, ⟨b, rfl, h⟩, by show Rp Γ n ω t.heap κ; rw [ht]; exact hP⟩, hS.F ht⟩) hS.2.2 d.1 C.2.2.2.2.2.2
theorem j_art0 {rt : FieldType} {b : Nat} {Po : Nat → Wo → Prop} (C : Cx Γ p l s m args meth c cc own nL) (hr : meth.sig.returnType = some rt) (hrt : rt.isReference = true) (d : Dx cc pc (.areturn) 1 pc') (h : Po b ω) : J Γ p l e R s m args below meth c (MQ below (va_Qq (fun (r : Option Nat) (ω' : Wo) => ∃ b : Nat, r = some (rl Γ b) ∧ Po b ω') (Bx Γ n κ) (gA Γ)) args s ce sl (gA Γ)) n ce sl pc L [.ref (rl Γ b)] ω κ :=
  j_art C hr hrt d rfl ⟨rfl, rfl⟩ h
theorem j_kRW {n' mc ms : Nat} {st : List Value} {as : List Value} {Po : Nat → Wo → Prop} {H : Heap} {locs : List Loc} {ls : Array Slot} (hr : va_Run p l e R s m args below meth c H locs ce sl mc ms (F0 m pc ls st) S (QRW Γ n' κ Po as.toArray) (gA Γ)) (hS : va_S (gA Γ) s.heap H locs) (hl : lk ls L)
    (kx : ∀ (b : Nat) (ω' : Wo), Po b ω' → J Γ p l e R s m args below meth c Q n' (ce + mc) (sl + ms) (pc + 3) L (.ref (rl Γ b) :: S) ω' κ) : W p l e R s m args below meth c H locs ce sl Q (F0 m pc ls st) := by
  refine va_callq hr hS (fun q _ h => h) (fun q h => h) (fun r ω' t H1 locs1 ht hvm hpo hB _ _ hS1 => ?_)
  obtain ⟨b, rfl, hz⟩ := hpo
  have hB : Rp Γ n' ω' t.heap κ := hB
  rw [ht] at hB
  exact kx b ω' hz H1 locs1 ls hB hS1 hl
theorem j_kNW {n' mc ms : Nat} {st : List Value} {as : List Value} {Po : Wo → Prop} {H : Heap} {locs : List Loc} {ls : Array Slot} (hr : va_Run p l e R s m args below meth c H locs ce sl mc ms (F0 m pc ls st) S (QNW Γ n' κ Po as.toArray) (gA Γ)) (hS : va_S (gA Γ) s.heap H locs) (hl : lk ls L)
    (kx : ∀ (ω' : Wo), Po ω' → J Γ p l e R s m args below meth c Q n' (ce + mc) (sl + ms) (pc + 3) L S ω' κ) : W p l e R s m args below meth c H locs ce sl Q (F0 m pc ls st) := by
  refine va_callv hr hS (fun q _ h => h) (fun q h => h) (fun ω' t H1 locs1 ht hvm hpo hB _ _ hS1 => ?_)
  have hB : Rp Γ n' ω' t.heap κ := hB
  rw [ht] at hB
  exact kx ω' hpo H1 locs1 ls hB hS1 hl
/-- a static method that makes cells -/
theorem j_cSW {y : MethodName} {bytes : ByteArray} {maxL d D na mc ms mx sx : Nat} {rt : FieldType} {as : List Value} {Po : Nat → Wo → Prop} (C : Cx Γ p l s m args meth c cc own nL) (hz : Hw Γ s n ce) (hn9 : n ≤ 1000) (hM : CRW Γ l y bytes maxL rt d mc ms as ω n κ Po) (O : Os y bytes maxL (some rt) na) (K : Lk own idx y) (hD : d + 1 ≤ D ∧ maxL ≤ 40) (hn : as.length = na) (hL : L.length = nL)
    (hcat : (S.map fun v => v.category).sum ≤ 8) (hce : ce + mc ≤ mx ∧ sl + ms ≤ sx) (dd : Dx cc pc (.invokestatic idx) 3 pc') (kx : ∀ (b : Nat) (ω' : Wo), Po b ω' → J Γ p l e (rmk D mx sx) s m args below meth c Q (n + mc) (ce + mc) (sl + ms) pc' L (.ref (rl Γ b) :: S) ω' κ) :
    J Γ p l e (rmk D mx sx) s m args below meth c Q n ce sl pc L (as.reverse ++ S) ω κ := by
  intro H locs ls hP hS hl
  obtain ⟨hd, rfl⟩ := dd
  obtain ⟨o1, o3, o4, o5⟩ := O
  intro T hT X
  have hH := hz.eq hS hn9 hP X hT
  refine (show W p l e (rmk D mx sx) s m args below meth c H locs ce sl Q (F0 m pc ls (as.reverse ++ S)) from j_kRW (as := as) (va_runS (Ts := WS) (n := na) ⟨C.1, C.2.1, C.2.2.1, C.2.2.2.1, C.2.2.2.2.1⟩ hM ⟨callB_of na C.2.2.2.2.1 (inWS o4) rfl rfl rfl (C.2.2.2.2.1 _ o3) (C.2.2.2.2.1 _ K) o5 ⟨hD.1, ?_⟩, C.2.2.2.2.1 _ o1⟩ ⟨KW.blind, ?_⟩ rfl hn (hl.1.trans hL) rfl (lv_room hcat) hd ⟨hce.1, hce.2⟩) hS hl kx) T hT X
  · show 8 + (maxL + 11) + 64 * d ≤ 64 * D
    omega
  · intro U hU hW
    exact ⟨rfl, C.2.2.2.2.2.1.next hW hU hS, by rw [hU]; exact hP, by rw [hU]; exact hH, by have := hz.2.1; omega, hz.2.2⟩
/-- a constructor that makes cells -/
def Oc1 (y : MethodName) (bytes : ByteArray) (maxL na : Nat) : Prop := Cond.instanceMethod y ∈ WS ∧ Cond.initialized y.cls ∈ WS ∧ Cond.code y bytes maxL none ∈ WS ∧ y.name = "<init>" ∧ (y.cls ≠ "java/lang/invoke/MethodHandle" ∧ y.cls ≠ "java/lang/invoke/VarHandle" ∧ (parseMethodDescriptor y.desc).map (fun d => d.parameters.length) = some na)
theorem j_ctorW {y : MethodName} {bytes : ByteArray} {maxL d D na mc ms mx sx : Nat} {as : List Value} {Po : Wo → Prop} (C : Cx Γ p l s m args meth c cc own nL) (hz : Hw Γ s n ce) (hn9 : n ≤ 1000) (hM : CNW Γ l y bytes maxL d mc ms (.ref (rl Γ a) :: as) ω n κ Po) (O : Oc1 y bytes maxL na) (K : Lk own idx y) (hD : d + 1 ≤ D ∧ maxL ≤ 40) (hn : as.length = na) (hL : L.length = nL) (hcat : (S.map fun v => v.category).sum ≤ 8) (hce : ce + mc ≤ mx ∧ sl + ms ≤ sx) (dd : Dx cc pc (.invokespecial idx) 3 pc')
    (kx : ∀ ω' : Wo, Po ω' → J Γ p l e (rmk D mx sx) s m args below meth c Q (n + mc) (ce + mc) (sl + ms) pc' L S ω' κ) : J Γ p l e (rmk D mx sx) s m args below meth c Q n ce sl pc L (as.reverse ++ .ref (rl Γ a) :: S) ω κ := by
  intro H locs ls hP hS hl
  obtain ⟨hd, rfl⟩ := dd
  obtain ⟨o1, o2, o3, o4, o5⟩ := O
  intro T hT X
  have hH := hz.eq hS hn9 hP X hT
  refine (show W p l e (rmk D mx sx) s m args below meth c H locs ce sl Q (F0 m pc ls (as.reverse ++ .ref (rl Γ a) :: S)) from j_kNW (as := .ref (rl Γ a) :: as) (va_runI (As := as) (n := na) ⟨C.1, C.2.1, C.2.2.1, C.2.2.2.1, C.2.2.2.2.1⟩ hM ⟨callB_of na C.2.2.2.2.1 (inWS o3) rfl rfl rfl (C.2.2.2.2.1 _ o2) (C.2.2.2.2.1 _ K) o5 ⟨hD.1, ?_⟩, o4, C.2.2.2.2.1 _ o1⟩ ⟨KW.blind, ?_⟩ rfl hn (hl.1.trans hL) rfl (lv_room hcat) hd ⟨hce.1, hce.2⟩) hS hl kx) T hT X
  · show 8 + (maxL + 11) + 64 * d ≤ 64 * D
    omega
  · intro U hU hW
    exact ⟨rfl, C.2.2.2.2.2.1.next hW hU hS, by rw [hU]; exact hP, by rw [hU]; exact hH, by have := hz.2.1; omega, hz.2.2⟩
/-- an instance method of the builder that makes cells -/
theorem j_cVW {y : MethodName} {bytes : ByteArray} {maxL d D na mc ms mx sx : Nat} {rt : FieldType} {as : List Value} {Po : Nat → Wo → Prop} (C : Cx Γ p l s m args meth c cc own nL) (hz : Hw Γ s n ce) (hn9 : n ≤ 1000) (hM : CRW Γ l y bytes maxL rt d mc ms (.ref (rl Γ a) :: as) ω n κ Po) (O : Oc y bytes maxL (some rt) na) (K : Lk own idx y) (hrc : Rc kk y) (ha : At n a kk κ) (hD : d + 1 ≤ D ∧ maxL ≤ 40) (hn : as.length = na) (hL : L.length = nL)
    (hcat : (S.map fun v => v.category).sum ≤ 8) (hce : ce + mc ≤ mx ∧ sl + ms ≤ sx) (dd : Dx cc pc (.invokevirtual idx) 3 pc') (kx : ∀ (b : Nat) (ω' : Wo), Po b ω' → J Γ p l e (rmk D mx sx) s m args below meth c Q (n + mc) (ce + mc) (sl + ms) pc' L (.ref (rl Γ b) :: S) ω' κ) :
    J Γ p l e (rmk D mx sx) s m args below meth c Q n ce sl pc L (as.reverse ++ .ref (rl Γ a) :: S) ω κ := by
  intro H locs ls hP hS hl
  obtain ⟨hd, rfl⟩ := dd
  obtain ⟨⟨o1, o2⟩, o3, o4, o5⟩ := O
  obtain ⟨q, hq, hqc⟩ := hrc
  intro T hT X
  have hH := hz.eq hS hn9 hP X hT
  refine (show W p l e (rmk D mx sx) s m args below meth c H locs ce sl Q (F0 m pc ls (as.reverse ++ .ref (rl Γ a) :: S)) from j_kRW (as := .ref (rl Γ a) :: as) (va_runV (Ts := WS) (n := na) ⟨C.1, C.2.1, C.2.2.1, C.2.2.2.1, C.2.2.2.2.1⟩ hM (C := y.cls) (cwV na C.2.2.2.2.1 ?_ rfl rfl rfl ⟨rfl, o5⟩ ⟨hD.1, ?_⟩) ⟨KW.blind, ?_, ?_⟩ rfl hn (hl.1.trans hL) rfl (lv_room hcat) hd ⟨hce.1, hce.2⟩) hS hl kx) T hT X
  · refine WS_in fun w hw => ?_
    unfold wsV at hw
    rcases List.mem_append.mp hw with h | h
    · simp only [List.mem_cons, List.not_mem_nil, or_false] at h
      rcases h with rfl | rfl | rfl | rfl
      · exact K
      · exact o1
      · exact o2
      · exact o3
    · exact (List.mem_cons.mp h).elim (fun q => q ▸ o4) (fun q => q)
  · show 8 + (maxL + 11) + 64 * d ≤ 64 * D
    omega
  · rw [← hqc]; exact Rp.recv C.2.2.2.2.2.1.1 hP ha hq
  · intro U hU hW
    exact ⟨rfl, C.2.2.2.2.2.1.next hW hU hS, by rw [hU]; exact hP, by rw [hU]; exact hH, by have := hz.2.1; omega, hz.2.2⟩
/-- a reference answered, nothing made -/
theorem j_kRt {st : List Value} {as : List Value} {Po : Nat → Wo → Prop} {H : Heap} {locs : List Loc} {ls : Array Slot} (hr : va_Run p l e R s m args below meth c H locs ce sl 0 0 (F0 m pc ls st) S (va_Qq (fun (r : Option Nat) (ω' : Wo) => ∃ b : Nat, r = some (rl Γ b) ∧ Po b ω') (Bx Γ n κ) (gA Γ) as.toArray) (gA Γ)) (hS : va_S (gA Γ) s.heap H locs) (hl : lk ls L)
    (kx : ∀ (b : Nat) (ω' : Wo), Po b ω' → J Γ p l e R s m args below meth c Q n ce sl (pc + 3) L (.ref (rl Γ b) :: S) ω' κ) : W p l e R s m args below meth c H locs ce sl Q (F0 m pc ls st) := by
  refine va_callq hr hS (fun q _ h => h) (fun q h => h) (fun r ω' t H1 locs1 ht hvm hpo hB _ _ hS1 => ?_)
  obtain ⟨b, rfl, hz⟩ := hpo
  have hB : Rp Γ n ω' t.heap κ := hB
  rw [ht] at hB
  exact kx b ω' hz H1 locs1 ls hB hS1 hl
/-- methods of AbstractStringBuilder on a builder, called from anywhere -/
theorem j_runLo {y : MethodName} {bytes : ByteArray} {maxL d D na mx sx : Nat} {ret : Option FieldType} {as : List Value} {Qc : Array Value → State → Outcome → State → Prop} {H : Heap} {locs : List Loc} {ls : Array Slot} (C : Cx Γ p l s m args meth c cc own nL)
    (hM : Met l y (.code y bytes maxL ret :: WS) (rmk d 0 0) (Pcx Γ (.ref (rl Γ a) :: as) ω n κ) Qc 0 0 (gA Γ)) (O : Ol y bytes maxL ret na) (K : Lk own idx y) (ha : At n a 8 κ) (hD : d + 1 ≤ D ∧ maxL ≤ 40) (hn : as.length = na) (dd : decode cc pc = .ok (.invokevirtual idx, 3)) (hL : L.length = nL)
    (hcat : (S.map fun v => v.category).sum ≤ 8) (hce : ce ≤ mx ∧ sl ≤ sx) (hP : Rp Γ n ω H κ) (hS : va_S (gA Γ) s.heap H locs) (hl : lk ls L) :
    va_Run p l e (rmk D mx sx) s m args below meth c H locs ce sl 0 0 (F0 m pc ls (as.reverse ++ .ref (rl Γ a) :: S)) S (Qc (Value.ref (rl Γ a) :: as).toArray) (gA Γ) := by
  obtain ⟨o1, o2, o3, o4, o5, o6⟩ := O
  refine va_runU (C := RJ4) (owner := y.cls) (Ts := WS) (n := na) ⟨C.1, C.2.1, C.2.2.1, C.2.2.2.1, C.2.2.2.2.1⟩ hM (va_cwU na C.2.2.2.2.1 (WS_in fun w hw => ?_) rfl rfl rfl rfl o6 ⟨hD.1, ?_⟩) ⟨Pcx.blind, ?_, ?_⟩ rfl hn (hl.1.trans hL) rfl (lv_room hcat) dd ⟨?_, ?_⟩
  · unfold va_wsU at hw
    rcases List.mem_append.mp hw with h | h
    · simp only [List.mem_cons, List.not_mem_nil, or_false] at h
      rcases h with rfl | rfl | rfl | rfl | rfl
      · exact K
      · exact o1
      · exact o2
      · exact o3
      · exact o4
    · exact (List.mem_cons.mp h).elim (fun q => q ▸ o5) (fun q => q)
  · show 8 + (maxL + 11) + 64 * d ≤ 64 * D
    omega
  · exact Rp.recv C.2.2.2.2.2.1.1 hP ha (q := (RJ4, TJ4, 4)) rfl
  · intro U hU hW
    exact ⟨rfl, C.2.2.2.2.2.1.next hW hU hS, by rw [hU]; exact hP⟩
  · show ce + 0 ≤ mx
    omega
  · show sl + 0 ≤ sx
    omega
theorem j_cLoI {y : MethodName} {bytes : ByteArray} {maxL d D mx sx : Nat} {rt : FieldType} {Po : Int → Wo → Prop} (C : Cx Γ p l s m args meth c cc own nL) (hM : CI Γ l y bytes maxL rt d [.ref (rl Γ a)] ω Po n κ) (O : Ol y bytes maxL (some rt) 0) (K : Lk own idx y) (ha : At n a 8 κ) (hD : d + 1 ≤ D ∧ maxL ≤ 40) (hL : L.length = nL) (hcat : (S.map fun v => v.category).sum ≤ 8) (hce : ce ≤ mx ∧ sl ≤ sx) (dd : Dx cc pc (.invokevirtual idx) 3 pc') (kx : ∀ (z : Int) (ω' : Wo), Rg z → Po z ω' → J Γ p l e (rmk D mx sx) s m args below meth c Q n ce sl pc' L (.int (iI z) :: S) ω' κ) : J Γ p l e (rmk D mx sx) s m args below meth c Q n ce sl pc L (.ref (rl Γ a) :: S) ω κ := by
  intro H locs ls hP hS hl
  obtain ⟨hd, rfl⟩ := dd
  exact j_kI (j_runLo (as := []) C hM O K ha hD rfl hd hL hcat hce hP hS hl) hS hl kx
theorem j_cLoR {y : MethodName} {bytes : ByteArray} {maxL d D mx sx : Nat} {rt : FieldType} {Po : Nat → Wo → Prop} (C : Cx Γ p l s m args meth c cc own nL) (hM : CRt Γ l y bytes maxL rt d [.ref (rl Γ a)] ω Po n κ) (O : Ol y bytes maxL (some rt) 0) (K : Lk own idx y) (ha : At n a 8 κ) (hD : d + 1 ≤ D ∧ maxL ≤ 40) (hL : L.length = nL) (hcat : (S.map fun v => v.category).sum ≤ 8) (hce : ce ≤ mx ∧ sl ≤ sx) (dd : Dx cc pc (.invokevirtual idx) 3 pc') (kx : ∀ (b : Nat) (ω' : Wo), Po b ω' → J Γ p l e (rmk D mx sx) s m args below meth c Q n ce sl pc' L (.ref (rl Γ b) :: S) ω' κ) : J Γ p l e (rmk D mx sx) s m args below meth c Q n ce sl pc L (.ref (rl Γ a) :: S) ω κ := by
  intro H locs ls hP hS hl
  obtain ⟨hd, rfl⟩ := dd
  exact j_kRt (j_runLo (as := []) C hM O K ha hD rfl hd hL hcat hce hP hS hl) hS hl kx
/-- private methods of the builder -/
theorem j_cPV2 {y : MethodName} {bytes : ByteArray} {maxL d D mx sx : Nat} {Po : Wo → Prop} {x1 x2 : Value} (C : Cx Γ p l s m args meth c cc RJ5 nL) (hM : CV Γ l y bytes maxL d (.ref (rl Γ a) :: [x1, x2]) ω Po n κ) (O : Op2 y bytes maxL none 2) (K : Lk RJ5 idx y) (ha : At n a 8 κ) (hD : d + 1 ≤ D ∧ maxL ≤ 40) (hL : L.length = nL) (hcat : (S.map fun v => v.category).sum ≤ 8) (hce : ce ≤ mx ∧ sl ≤ sx) (dd : Dx cc pc (.invokevirtual idx) 3 pc') (kx : ∀ (ω' : Wo), Po ω' → J Γ p l e (rmk D mx sx) s m args below meth c Q n ce sl pc' L S ω' κ) : J Γ p l e (rmk D mx sx) s m args below meth c Q n ce sl pc L (x2 :: x1 :: .ref (rl Γ a) :: S) ω κ := by
  intro H locs ls hP hS hl
  obtain ⟨hd, rfl⟩ := dd
  exact j_kV (j_runP (as := [x1, x2]) C hM O K ha hD rfl hd hL hcat hce hP hS hl) hS hl kx
theorem j_compact0 (C : Cx Γ p l s m args meth c cc RJ0 nL) (d : Dx cc pc (.getstatic 38) 3 pc') (kx : J Γ p l e R s m args below meth c Q n ce sl pc' L (.int (iI 1) :: S) ω κ) : J Γ p l e R s m args below meth c Q n ce sl pc L S ω κ := by
  intro H locs ls hP hS hl
  obtain ⟨hd, rfl⟩ := d
  exact va_gets C.1 C.2.1 C.2.2.2.2.2.1.2.1.2.2.2.2.2.2.2.1 hS C.2.2.2.1 (C.2.2.2.2.1 _ (WS_of (w := Cond.fieldLink RJ0 38 "java/lang/String" "COMPACT_STRINGS" "Z") 1043 (by decide +kernel))) (fun x h => h) hd (kx H locs ls hP hS hl)
theorem j_tens (C : Cx Γ p l s m args meth c cc RJ6 nL) (d : Dx cc pc (.getstatic 87) 3 pc') (kx : J Γ p l e R s m args below meth c Q n ce sl pc' L (.ref (gad Γ 12) :: S) ω κ) : J Γ p l e R s m args below meth c Q n ce sl pc L S ω κ := by
  intro H locs ls hP hS hl
  obtain ⟨hd, rfl⟩ := d
  exact va_gets C.1 C.2.1 C.2.2.2.2.2.1.tens.1 hS C.2.2.2.1 (C.2.2.2.2.1 _ (WS_of (w := Cond.fieldLink RJ6 87 "java/lang/Integer" "DigitTens" "[B") 1093 (by decide +kernel))) (fun x h => h) hd (kx H locs ls hP hS hl)
theorem j_ten1 {i : Nat} (C : Cx Γ p l s m args meth c cc own nL) (hi : i < 100) (d : Dx cc pc .baload 1 pc') (kx : J Γ p l e R s m args below meth c Q n ce sl pc' L (.int (iI ((48 + i / 10 : Nat) : Int)) :: S) ω κ) : J Γ p l e R s m args below meth c Q n ce sl pc L (.int (iI (i : Int)) :: .ref (gad Γ 12) :: S) ω κ := by
  intro H locs ls hP hS hl
  obtain ⟨hd, rfl⟩ := d
  refine va_tb C.1 C.2.1 C.2.2.2.2.2.1.tens.2 hS (i := iI (i : Int)) (iI_in ⟨by omega, by omega⟩ (by decide)) (v := .int (iI ((48 + i / 10 : Nat) : Int))) ?_ hd (kx H locs ls hP hS hl)
  show Value.int (iI ((48 + (iI (i : Int)).toNatClampNeg / 10 : Nat) : Int)) = _
  rw [iI_cl ⟨by omega, by omega⟩, Int.toNat_natCast]
theorem j_one2 {i : Nat} (C : Cx Γ p l s m args meth c cc own nL) (hi : i < 100) (d : Dx cc pc .baload 1 pc') (kx : J Γ p l e R s m args below meth c Q n ce sl pc' L (.int (iI ((48 + i % 10 : Nat) : Int)) :: S) ω κ) : J Γ p l e R s m args below meth c Q n ce sl pc L (.int (iI (i : Int)) :: .ref (gad Γ 11) :: S) ω κ := by
  intro H locs ls hP hS hl
  obtain ⟨hd, rfl⟩ := d
  refine va_tb C.1 C.2.1 C.2.2.2.2.2.1.2.1.2.2.2.2.2.2.2.2.2.1 hS (i := iI (i : Int)) (iI_in ⟨by omega, by omega⟩ (by decide)) (v := .int (iI ((48 + i % 10 : Nat) : Int))) ?_ hd (kx H locs ls hP hS hl)
  show Value.int (iI ((48 + (iI (i : Int)).toNatClampNeg % 10 : Nat) : Int)) = _
  rw [iI_cl ⟨by omega, by omega⟩, Int.toNat_natCast]
theorem j_bret {Po : Int → Wo → Prop} (C : Cx Γ p l s m args meth c cc own nL) (hr : meth.sig.returnType = some .byte) (d : Dx cc pc (.ireturn) 1 pc') (h : Po 0 ω) : J Γ p l e R s m args below meth c (MQ below (QI Γ Po n κ) args s ce sl (gA Γ)) n ce sl pc L [.int (iI 0)] ω κ := by
  intro H locs ls hP hS hl
  exact W.zret C.1 C.2.1 hr rfl (fun t ht _ => QI_end (by decide) h hP hS t ht) hS.2.2 d.1 C.2.2.2.2.2.2
/-- a byte of any array of the law's own -/
theorem j_baldK {N : Nat} (C : Cx Γ p l s m args meth c cc own nL) (ha : At n a kk κ) (hk : arrI kk = true ∧ tyk kk = 2) (hN : lnk kk = N) (hNs : N < 2000) {i : Int} (hi : 0 ≤ i ∧ i < N) {v : Int} (he : ω.1 a i.toNat = v) (d : Dx cc pc .baload 1 pc') (kx : J Γ p l e R s m args below meth c Q n ce sl pc' L (.int (iI v) :: S) ω κ) : J Γ p l e R s m args below meth c Q n ce sl pc L (.int (iI i) :: .ref (rl Γ a) :: S) ω κ := by
  intro H locs ls hP hS hl
  have hw : (WL Γ n ω κ)[a]? = some (rl Γ a, .inl (gC Γ (tyk kk), lnk kk, .inl fun j => iI (ω.1 a j))) := by rw [WL_get ha.1, WE_int ha.2.2 hk.1]
  have hin : vp_in (iI i) (lnk kk) := by rw [hN]; exact iI_in hi (by omega)
  have hcl : (iI i).toNatClampNeg = i.toNat := iI_cl ⟨hi.1, by omega⟩
  obtain ⟨hd, rfl⟩ := d
  refine va_bald C.1 C.2.1 C.2.2.2.2.2.1.1 hP.1 a (tyk kk) hw (by rw [hk.2]; rfl) hin hd ?_
  rw [hcl, he]; exact kx H locs ls hP hS hl
/-- String's own final fields, in its constructor -/
theorem j_puts {i : Nat} {x : va_E} {ω' : Wo} {v : Value} {ty : FieldType} (C : Cx Γ p l s m args meth c cc RJ0 nL) (hin0 : meth.name = "<init>") (hi : i < 2) (hlk : Cond.fieldLink RJ0 idx RJ0 (TJ0 i).2.1 (TJ0 i).2.2.1 ∈ WS) (ha : At n a 7 κ) (hf : parseFieldDescriptor (TJ0 i).2.2.1 = some ty) (hn : narrow ty v = v) (hfit : fits ty v = true)
    (hset : ((List.range (nf 7)).map (fv Γ ω 7 a)).set i v = (List.range (nf 7)).map (fv Γ ω' 7 a)) (hrest : ∀ y, y ≠ a → WE Γ ω' y κ = WE Γ ω y κ) (hrg : (∀ x y, Rg (ω.1 x y)) → ∀ x y, Rg (ω'.1 x y)) (hrn : RN ω → RN ω') (d : Dx cc pc (.putfield idx) 3 pc') (kx : J Γ p l e R s m args below meth c Q n ce sl pc' L S ω' κ) : J Γ p l e R s m args below meth c Q n ce sl pc L (v :: .ref (rl Γ a) :: S) ω κ := by
  intro H locs ls hP hS hl
  obtain ⟨hd, rfl⟩ := d
  have he : (WL Γ n ω κ)[a]? = some (rl Γ a, .inr (7, (List.range (nf 7)).map (fv Γ ω 7 a))) := by rw [WL_get ha.1, WE_obj ha.2.2 (by decide)]
  have hown : (TJ0 i).1 = RJ0 := by
    have : ∀ i, i < 2 → (TJ0 i).1 = RJ0 := by decide +kernel
    exact this i hi
  have hfin : (TJ0 i).2.2.2 = true := by
    have : ∀ i, i < 2 → (TJ0 i).2.2.2 = true := by decide +kernel
    exact this i hi
  refine va_putF C.1 C.2.1 C.2.2.2.2.1 (C := RJ0) (T := TJ0) (N := 4) uwJ0 tyJ0 tyJ0_ok nmJ0 C.2.2.2.1 C.2.2.2.2.2.1.1 hP.1 hP.D hS a he rfl i (by omega) (C.2.2.2.2.1 _ hlk) (fun x h => by rw [← hown]; exact h) hfin hin0 hown hf hn hfit (by simp [nf]; omega) hd (fun H1 locs1 h1 _ h3 => ?_)
  have e9 : (WL Γ n ω κ).set a (rl Γ a, .inr (7, ((List.range (nf 7)).map (fv Γ ω 7 a)).set i v)) = WL Γ n ω' κ := WL_set (by rw [WE_obj ha.2.2 (by decide), hset]) hrest
  rw [e9] at h1
  exact kx H1 locs1 ls ⟨h1, hrg hP.2.1, hP.2.2.1, hrn hP.2.2.2⟩ h3 hl
theorem j_puts1 (C : Cx Γ p l s m args meth c cc RJ0 nL) (hin0 : meth.name = "<init>") (ha : At n a 7 κ) (d : Dx cc pc (.putfield 15) 3 pc') (kx : J Γ p l e R s m args below meth c Q n ce sl pc' L S (wi ω a 1 0) κ) : J Γ p l e R s m args below meth c Q n ce sl pc L (.int (iI 0) :: .ref (rl Γ a) :: S) ω κ :=
  j_puts (i := 1) (x := .inl (gC Γ 0, 0, .inl fun _ => 0)) C hin0 (by decide) (WS_of 1162 (by decide +kernel)) ha (ty := .byte) (by decide +kernel) rfl rfl (fv_set_i (kk := 7) (by decide) rfl) (fun x hx => WE_ne (wi_ne hx) rfl (Or.inr rfl)) (fun h => wi_rg h (by decide)) (fun h => h) d kx
theorem j_puts0 {b : Nat} (C : Cx Γ p l s m args meth c cc RJ0 nL) (hin0 : meth.name = "<init>") (ha : At n a 7 κ) (ha9 : 243 ≤ a) (d : Dx cc pc (.putfield 9) 3 pc') (kx : J Γ p l e R s m args below meth c Q n ce sl pc' L S (wr ω a 0 (some b)) κ) : J Γ p l e R s m args below meth c Q n ce sl pc L (.ref (rl Γ b) :: .ref (rl Γ a) :: S) ω κ :=
  j_puts (i := 0) (x := .inl (gC Γ 0, 0, .inl fun _ => 0)) C hin0 (by decide) (WS_of 1161 (by decide +kernel)) ha (ty := .array .byte) (by decide +kernel) rfl rfl (fv_set_r (kk := 7) (by decide) rfl) (fun x hx => WE_ne rfl (wr_ne hx) (Or.inr rfl)) (fun h => h) (fun h => h.put (fun q => absurd q (by omega))) d kx
end WROWS
section OVER
variable {κ : Nat → Nat} {Γ : Ga} {p : Program} {l : Launch} {e : Env} {R : Room} {s : State} {m : MethodId} {args : Array Value} {below : List Frame} {meth : Method} {c : Code} {Q : State → Prop} {n ce sl : Nat} {cc : ByteArray} {own : String} {nL pc pc' idx a kk k : Nat} {L : List (Option Value)} {S : List Value} {ω : Wo}
/-- the builder's length, named in its superclass -/
theorem j_cOI {bytes : ByteArray} {d D mx sx : Nat} {Po : Int → Wo → Prop} (C : Cx Γ p l s m args meth c cc own nL) (hM : CI Γ l yJ4_length_8abf5 bytes 1 .int d [.ref (rl Γ a)] ω Po n κ) (hc : Cond.code yJ4_length_8abf5 bytes 1 (some .int) ∈ WS) (K : Lk own idx yJ5_length_8abf5) (ha : At n a 8 κ) (hD : d + 1 ≤ D) (hL : L.length = nL) (hcat : (S.map fun v => v.category).sum ≤ 8) (hce : ce ≤ mx ∧ sl ≤ sx) (dd : Dx cc pc (.invokevirtual idx) 3 pc')
    (kx : ∀ (z : Int) (ω' : Wo), Rg z → Po z ω' → J Γ p l e (rmk D mx sx) s m args below meth c Q n ce sl pc' L (.int (iI z) :: S) ω' κ) : J Γ p l e (rmk D mx sx) s m args below meth c Q n ce sl pc L (.ref (rl Γ a) :: S) ω κ := by
  intro H locs ls hP hS hl
  obtain ⟨hd, rfl⟩ := dd
  refine j_kI (as := [.ref (rl Γ a)]) (va_runU (C := RJ4) (owner := RJ5) (x := yJ5_length_8abf5) (y := yJ4_length_8abf5) (As := []) (Ts := WS) (n := 0) ⟨C.1, C.2.1, C.2.2.1, C.2.2.2.1, C.2.2.2.2.1⟩ hM (va_cwO (b0 := cJ5_length_8abf5) (m0 := 1) (r0 := some .int) 0 C.2.2.2.2.1 (WS_in fun w hw => ?_) rfl rfl rfl (WS_of 1129 (by decide +kernel)) ⟨by decide +kernel, by decide +kernel, by decide +kernel⟩ ⟨hD, ?_⟩) ⟨Pcx.blind, ?_, ?_⟩ rfl rfl (hl.1.trans hL) rfl (lv_room hcat) hd ⟨?_, ?_⟩) hS hl kx
  · unfold va_wsO at hw
    rcases List.mem_append.mp hw with h | h
    · simp only [List.mem_cons, List.not_mem_nil, or_false] at h
      rcases h with rfl | rfl | rfl | rfl | rfl | rfl
      · exact K
      · exact WS_of 1124 (by decide +kernel)
      · exact WS_of 1123 (by decide +kernel)
      · exact WS_of 1125 (by decide +kernel)
      · exact WS_of 1126 (by decide +kernel)
      · exact WS_of 36 (by decide +kernel)
    · exact (List.mem_cons.mp h).elim (fun q => q ▸ hc) (fun q => q)
  · show 8 + (1 + 11) + 64 * d ≤ 64 * D
    omega
  · exact Rp.recv C.2.2.2.2.2.1.1 hP ha (q := (RJ4, TJ4, 4)) rfl
  · intro U hU hW
    exact ⟨rfl, C.2.2.2.2.2.1.next hW hU hS, by rw [hU]; exact hP⟩
  · show ce + 0 ≤ mx
    omega
  · show sl + 0 ≤ sx
    omega
end OVER
