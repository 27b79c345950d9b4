/-! the law's rows: what it needs of the start, its wrappers, calls that leave its own cells alone -/
def Kt3 (U : State) : Prop := Kt2 U ∧ va_Nc eArg eIdx U ∧ va_Nc eNo eIdx U ∧ va_Nc eUn eArg U
theorem Kt3.warm {s U : State} (hW : s.WarmedH U.vm) (h : Kt3 s) : Kt3 U := ⟨h.1.warm hW, va_Nc.moved hW.alike h.2.1, va_Nc.moved hW.alike h.2.2.1, va_Nc.moved hW.alike h.2.2.2⟩
theorem Kt3.same {u U : State} (hv : u.vm = U.vm) (h : Kt3 u) : Kt3 U := by
  have ha : u.vm.Alike U.vm := by rw [hv]; exact Vm.Alike.refl _
  exact ⟨h.1.same hv, va_Nc.moved ha h.2.1, va_Nc.moved ha h.2.2.1, va_Nc.moved ha h.2.2.2⟩
def Pcw (Γ : Ga) (as : List Value) (ω : Wo) : Array Value → State → Prop := fun a U => a = as.toArray ∧ (Kx Γ U ∧ Kt3 U) ∧ Rp Γ 243 ω U.heap
theorem Pcw.blind {Γ : Ga} {as : List Value} {ω : Wo} : FrameBlind (Pcw Γ as ω) := fun a U g mk h => ⟨h.1, ⟨h.2.1.1.calling g mk a, h.2.1.2.same rfl⟩, h.2.2⟩
def CW (Γ : Ga) (l : Launch) (y : MethodName) (bytes : ByteArray) (maxL : Nat) (hh : List (Nat × Nat × Nat × Nat)) (d k : Nat) (as : List Value) (ω : Wo) (Po : Int → Wo → Prop) : Prop :=
  Met l y (.codeWith y bytes maxL (some .int) hh :: WS) (rmk d k (6 * k)) (Pcw Γ as ω) (QI Γ Po) k (6 * k) (gA Γ)
theorem MetH_of {l : Launch} {y : MethodName} {ws ws' : List Cond} {rm : Room} {Pc : Array Value → State → Prop} {Qc : Array Value → State → Outcome → State → Prop} {mc ms : Nat} {free : Addr → Prop} {cc : ByteArray} {maxL : Nat} {ret : Option FieldType} {hh : List (Nat × Nat × Nat × Nat)}
    (hy : plainName y.cls = true) (hw : ws = Cond.codeWith y cc maxL ret hh :: ws')
    (body : ∀ p e s m args below meth c s₁, BodyLoose p l y (headSpec ws rm) cc maxL ret e s m args below meth c s₁ → c.maxLocals = maxL → c.exceptionTable.toList = tableOf hh → Pc args s →
      W p l e (headSpec ws rm).room s m args below meth c s.heap [] 0 0 (MQ below Qc args s mc ms free) (entryFrame m args maxL)) : Met l y ws rm Pc Qc mc ms free := by
  refine MetFree.of_bodyS (code := cc) (maxLocals := maxL) (ret := ret) hy ?_ ?_
  · intro args s m h hn
    obtain ⟨m9, meth, c, hn9, h1, h2, h3, h4, -, h5, h6, -⟩ := Cond.codeWith_spec (atoms_spec (ws := ws) h _ (by rw [hw]; exact List.mem_cons_self))
    cases hn.symm.trans hn9
    exact ⟨meth, c, h1, h2, h3, h4, h5, h6⟩
  · intro p e s m args below meth c s₁ B hml hP _
    have hh0 : s₁.heap = s.heap := by rw [B.state]; rfl
    have htb := vx_table (x := y) B (atoms_spec (ws := ws) B.pre _ (by rw [hw]; exact List.mem_cons_self))
    obtain ⟨t, a1, o, b1, b2, b3, b4⟩ := body p e s m args below meth c s₁ B hml htb hP s₁ hh0 (Stand.of_body B)
    exact ⟨t, o, a1, b1, b2, b3, b4⟩
section LAWROWS
variable {κ : Nat → Nat} {Γ : Ga} {p : Program} {l : Launch} {e : Env} {R : Room} {s : State} {m : MethodId} {args : Array Value} {below : List Frame} {meth : Method} {c : Code} {Q : State → Prop} {n ce sl : Nat} {cc : ByteArray} {own : String} {nL pc pc' idx a kk k : Nat} {L : List (Option Value)} {S : List Value} {ω : Wo}
theorem MetH.ofJ {y : MethodName} {bytes : ByteArray} {maxL d mc ms k : Nat} {hh : List (Nat × Nat × Nat × Nat)} {ret : Option FieldType} {as : List Value} {Qc : Array Value → State → Outcome → State → Prop} (L : List (Option Value)) (hy : plainName y.cls = true) (hk : maxL = as.length + k) (hL : L = as.map some ++ List.replicate k none) (hc : as.all (fun v => v.category == 1) = true)
    (body : ∀ p e s m args below meth c, Cx Γ p l s m args meth c bytes y.cls maxL → Kt3 s → c.exceptionTable.toList = tableOf hh → meth.sig.returnType = ret → J Γ p l e (rmk d mc ms) s m args below meth c (MQ below Qc args s mc ms (gA Γ)) 243 0 0 0 L [] ω) :
    Met l y (.codeWith y bytes maxL ret hh :: WS) (rmk d mc ms) (Pcw Γ as ω) Qc mc ms (gA Γ) := by
  refine MetH_of (cc := bytes) (maxL := maxL) (ret := ret) (hh := hh) hy rfl ?_
  intro p e s m args below meth c s₁ B hml hx hv
  obtain ⟨rfl, ⟨hK, hK3⟩, hR⟩ := hv
  have hts : ∀ w ∈ (Cond.codeWith y bytes maxL ret hh :: WS), w.before as.toArray s = true := atoms_spec B.pre
  have C : Cx Γ p l s m as.toArray meth c bytes y.cls maxL := ⟨B.exec, B.bytes, hml, findClass_of_methodNamed B.named, fun w hw => hts w (List.mem_cons_of_mem _ hw), hK, B.notSynchronized⟩
  have K := body p e s m as.toArray below meth c C hK3 hx B.returns
  have hlk := lk.entry hk hL hc
  rw [lg_entry_eq]
  exact K s.heap [] _ hR va_S.rf hlk
/-- a handler takes what is thrown -/
def Hd (s : State) (args : Array Value) (own : String) (c : Code) (E : String) (pc hpc : Nat) : Prop := ∃ (pre : List ExceptionTableEntry) (x : ExceptionTableEntry) (suf : List ExceptionTableEntry) (name : String), c.exceptionTable.toList = pre ++ x :: suf ∧
  (∀ z ∈ pre, covers z pc = false ∨ (z.catchType ≠ 0 ∧ ∃ nm : String, (Cond.classLink own z.catchType nm).before args s = true ∧ va_Nc E nm s)) ∧ covers x pc = true ∧ x.catchType ≠ 0 ∧ (Cond.classLink own x.catchType name).before args s = true ∧ (Cond.castable E name).before args s = true ∧ x.handlerPc = hpc
theorem Hd.one {hh : List (Nat × Nat × Nat × Nat)} {a1 a2 a3 a4 : Nat} {E : String} (ht : c.exceptionTable.toList = tableOf [(a1, a2, a3, a4)]) (hx : covers ⟨a1, a2, a3, a4⟩ pc = true) (h0 : a4 ≠ 0) (hl : (Cond.classLink own a4 E).before args s = true) (hc : va_Nw (.castable E E) s) : Hd s args own c E pc a3 :=
  ⟨[], ⟨a1, a2, a3, a4⟩, [], E, ht, fun z hz => absurd hz List.not_mem_nil, hx, h0, hl, va_Nw.use rfl hc, rfl⟩
theorem Hd.fst {q : Nat × Nat × Nat × Nat} {a1 a2 a3 a4 : Nat} {E : String} (ht : c.exceptionTable.toList = tableOf [(a1, a2, a3, a4), q]) (hx : covers ⟨a1, a2, a3, a4⟩ pc = true) (h0 : a4 ≠ 0) (hl : (Cond.classLink own a4 E).before args s = true) (hc : va_Nw (.castable E E) s) : Hd s args own c E pc a3 :=
  ⟨[], ⟨a1, a2, a3, a4⟩, [⟨q.1, q.2.1, q.2.2.1, q.2.2.2⟩], E, ht, fun z hz => absurd hz List.not_mem_nil, hx, h0, hl, va_Nw.use rfl hc, rfl⟩
theorem Hd.snd {b1 b2 b3 b4 a1 a2 a3 a4 : Nat} {E F : String} (ht : c.exceptionTable.toList = tableOf [(b1, b2, b3, b4), (a1, a2, a3, a4)]) (hn0 : b4 ≠ 0) (hl0 : (Cond.classLink own b4 F).before args s = true) (hn : va_Nc E F s) (hx : covers ⟨a1, a2, a3, a4⟩ pc = true) (h0 : a4 ≠ 0) (hl : (Cond.classLink own a4 E).before args s = true) (hc : va_Nw (.castable E E) s) : Hd s args own c E pc a3 :=
  ⟨[⟨b1, b2, b3, b4⟩], ⟨a1, a2, a3, a4⟩, [], E, ht, fun z hz => by rw [List.mem_singleton.mp hz]; exact Or.inr ⟨hn0, F, hl0, hn⟩, hx, h0, hl, va_Nw.use rfl hc, rfl⟩
theorem j_tE {E : String} {hpc : Nat} {H : Heap} {locs : List Loc} {ls : Array Slot} {rest : List Value} {q9 : Nat} {cl : Cell} (C : Cx Γ p l s m args meth c cc own nL) (hd : Hd s args own c E pc hpc) (hP : Rp Γ 243 ω H) (hS : va_S (gA Γ) s.heap H locs) (hl : lk ls L) (h1 : H[q9]? = some cl) (h2 : cl.vm = .none) (h3 : s.vm.findClass E = some cl.cls)
    (kk : J Γ p l e R s m args below meth c Q 243 ce sl hpc L [.ref q9] ω) : vx_W p l e R s m args below meth c H locs ce sl Q (F0 m pc ls rest) q9 := by
  obtain ⟨pre, x, suf, name, t1, t2, t3, t4, t5, t6, rfl⟩ := hd
  exact vx_catch C.2.2.2.1 pre x suf t1 t2 t3 t4 t5 t6 h1 h2 h3 (kk H locs ls hP hS hl)
theorem j_tkI {st : List Value} {as : List Value} {mk sk : Nat} {Po : Int → Wo → Prop} {X : String → Wo → Prop} {H : Heap} {locs : List Loc} {ls : Array Slot} (C : Cx Γ p l s m args meth c cc own nL)
    (hr : vx_Run p l e R s m args below meth c H locs ce sl mk sk (F0 m pc ls st) S (QI Γ Po 243 kd as.toArray) (XX Γ X) (gA Γ)) (hS : va_S (gA Γ) s.heap H locs) (hl : lk ls L)
    (kE : ∀ E ω', X E ω' → ∃ hpc, Hd s args own c E pc hpc ∧ ∀ q, J Γ p l e R s m args below meth c Q 243 (ce + mk) (sl + sk) hpc L [.ref q] ω')
    (kx : ∀ (z : Int) (ω' : Wo), Rg z → Po z ω' → J Γ p l e R s m args below meth c Q 243 (ce + mk) (sl + sk) (pc + 3) L (.int (iI z) :: S) ω') : W p l e R s m args below meth c H locs ce sl Q (F0 m pc ls st) := by
  refine vx_calli hr hS (fun q _ h => h) (fun q h => h) (fun q _ h => h) (fun E cl q9 ω' t H1 locs1 ht hvm _ hB _ _ hS1 h1 h2 h3 => ?_) (fun r ω' t H1 locs1 ht hvm hpo hB _ _ hS1 => ?_)
  · have hB2 : Rp Γ 243 ω' t.heap := hB.2
    rw [ht] at hB2
    obtain ⟨hpc, g1, g2⟩ := kE E ω' hB.1
    exact j_tE C g1 hB2 hS1 hl h1 h2 h3 (g2 q9)
  · obtain ⟨z, rfl, hz0, hz⟩ := hpo
    have hB : Rp Γ 243 ω' t.heap := hB
    rw [ht] at hB
    exact kx z ω' hz0 hz H1 locs1 ls hB hS1 hl
theorem j_tI0 {y : MethodName} {bytes : ByteArray} {maxL d D mx sx : Nat} {rt : FieldType}  {Po : Int → Wo → Prop} {X : String → Wo → Prop} (C : Cx Γ p l s m args meth c cc own nL) (hK2 : Kt2 s) (hM : XI Γ l y bytes maxL rt d k (.ref (rl Γ a) :: []) ω Po X) (O : Oc y bytes maxL (some rt) 0) (K : Lk own idx y) (hrc : Rc kk y) (ha : At 243 a kk) (hD : d + 1 ≤ D ∧ maxL ≤ 40) (hL : L.length = nL) (hcat : (S.map fun v => v.category).sum ≤ 8) (hce : ce + k ≤ mx ∧ sl + 6 * k ≤ sx) (dd : Dx cc pc (.invokevirtual idx) 3 pc')
    (kE : ∀ E ω', X E ω' → ∃ hpc, Hd s args own c E pc hpc ∧ ∀ q, J Γ p l e (rmk D mx sx) s m args below meth c Q 243 (ce + k) (sl + 6 * k) hpc L [.ref q] ω') (kx : ∀ (z : Int) (ω' : Wo), Rg z → Po z ω' → J Γ p l e (rmk D mx sx) s m args below meth c Q 243 (ce + k) (sl + 6 * k) pc' L (.int (iI z) :: S) ω') : J Γ p l e (rmk D mx sx) s m args below meth c Q 243 ce sl pc L (.ref (rl Γ a) :: S) ω := by
  intro H locs ls hP hS hl
  obtain ⟨hd, rfl⟩ := dd
  exact j_tkI C (j_xrunV (as := []) C hK2 hM O K hrc ha hD rfl hd hL hcat hce hP hS hl) hS hl kE kx
theorem j_tI1 {y : MethodName} {bytes : ByteArray} {maxL d D mx sx : Nat} {rt : FieldType} {x1 : Value} {Po : Int → Wo → Prop} {X : String → Wo → Prop} (C : Cx Γ p l s m args meth c cc own nL) (hK2 : Kt2 s) (hM : XI Γ l y bytes maxL rt d k (.ref (rl Γ a) :: [x1]) ω Po X) (O : Oc y bytes maxL (some rt) 1) (K : Lk own idx y) (hrc : Rc kk y) (ha : At 243 a kk) (hD : d + 1 ≤ D ∧ maxL ≤ 40) (hL : L.length = nL) (hcat : (S.map fun v => v.category).sum ≤ 8) (hce : ce + k ≤ mx ∧ sl + 6 * k ≤ sx) (dd : Dx cc pc (.invokevirtual idx) 3 pc')
    (kE : ∀ E ω', X E ω' → ∃ hpc, Hd s args own c E pc hpc ∧ ∀ q, J Γ p l e (rmk D mx sx) s m args below meth c Q 243 (ce + k) (sl + 6 * k) hpc L [.ref q] ω') (kx : ∀ (z : Int) (ω' : Wo), Rg z → Po z ω' → J Γ p l e (rmk D mx sx) s m args below meth c Q 243 (ce + k) (sl + 6 * k) pc' L (.int (iI z) :: S) ω') : J Γ p l e (rmk D mx sx) s m args below meth c Q 243 ce sl pc L (x1 :: .ref (rl Γ a) :: S) ω := by
  intro H locs ls hP hS hl
  obtain ⟨hd, rfl⟩ := dd
  exact j_tkI C (j_xrunV (as := [x1]) C hK2 hM O K hrc ha hD rfl hd hL hcat hce hP hS hl) hS hl kE kx
theorem j_tI2 {y : MethodName} {bytes : ByteArray} {maxL d D mx sx : Nat} {rt : FieldType} {x1 x2 : Value} {Po : Int → Wo → Prop} {X : String → Wo → Prop} (C : Cx Γ p l s m args meth c cc own nL) (hK2 : Kt2 s) (hM : XI Γ l y bytes maxL rt d k (.ref (rl Γ a) :: [x1, x2]) ω Po X) (O : Oc y bytes maxL (some rt) 2) (K : Lk own idx y) (hrc : Rc kk y) (ha : At 243 a kk) (hD : d + 1 ≤ D ∧ maxL ≤ 40) (hL : L.length = nL) (hcat : (S.map fun v => v.category).sum ≤ 8) (hce : ce + k ≤ mx ∧ sl + 6 * k ≤ sx) (dd : Dx cc pc (.invokevirtual idx) 3 pc')
    (kE : ∀ E ω', X E ω' → ∃ hpc, Hd s args own c E pc hpc ∧ ∀ q, J Γ p l e (rmk D mx sx) s m args below meth c Q 243 (ce + k) (sl + 6 * k) hpc L [.ref q] ω') (kx : ∀ (z : Int) (ω' : Wo), Rg z → Po z ω' → J Γ p l e (rmk D mx sx) s m args below meth c Q 243 (ce + k) (sl + 6 * k) pc' L (.int (iI z) :: S) ω') : J Γ p l e (rmk D mx sx) s m args below meth c Q 243 ce sl pc L (x2 :: x1 :: .ref (rl Γ a) :: S) ω := by
  intro H locs ls hP hS hl
  obtain ⟨hd, rfl⟩ := dd
  exact j_tkI C (j_xrunV (as := [x1, x2]) C hK2 hM O K hrc ha hD rfl hd hL hcat hce hP hS hl) hS hl kE kx
theorem j_widen {ce' sl' : Nat} (h1 : ce ≤ ce') (h2 : sl ≤ sl') (kx : J Γ p l e R s m args below meth c Q n ce' sl' pc L S ω κ) : J Γ p l e R s m args below meth c Q n ce sl pc L S ω κ :=
  fun H locs ls hP hS hl => W.widen h1 h2 (kx H locs ls hP hS hl)
theorem W_room {R' : Room} {H : Heap} {locs : List Loc} {cells slots : Nat} {g : JFrame} (h : R'.frames ≤ R.frames ∧ R'.cells ≤ R.cells ∧ R'.slots ≤ R.slots ∧ R'.locals ≤ R.locals) (kx : W p l e R' s m args below meth c H locs cells slots Q g) : W p l e R s m args below meth c H locs cells slots Q g := by
  intro T hT X
  refine kx T hT { X with room := ?_ }
  have h9 := X.room
  simp only [State.hasRoom, Bool.and_eq_true, decide_eq_true_eq] at h9 ⊢
  obtain ⟨h1, h2, h3, h4⟩ := h
  refine ⟨⟨⟨⟨?_, ?_⟩, ?_⟩, ?_⟩, h9.2⟩ <;> omega
/-- a wrapper is called -/
def Ow (y : MethodName) (bytes : ByteArray) (maxL : Nat) (hh : List (Nat × Nat × Nat × Nat)) (na : Nat) : Prop := Cond.static y ∈ WS ∧ Cond.initialized y.cls ∈ WS ∧ Cond.codeWith y bytes maxL (some .int) hh ∈ WS ∧ (y.cls ≠ "java/lang/invoke/MethodHandle" ∧ y.cls ≠ "java/lang/invoke/VarHandle" ∧ (parseMethodDescriptor y.desc).map (fun d => d.parameters.length) = some na)
theorem j_cW {y : MethodName} {bytes : ByteArray} {maxL d D na mx sx k : Nat} {hh : List (Nat × Nat × Nat × Nat)} {as : List Value} {Po : Int → Wo → Prop} (C : Cx Γ p l s m args meth c cc own nL) (hK3 : Kt3 s) (hM : CW Γ l y bytes maxL hh d k as ω Po) (O : Ow y bytes maxL hh na) (K : Lk own idx y) (hD : d + 1 ≤ D ∧ maxL ≤ 40) (hn : as.length = na) (hL : L.length = nL) (hcat : (S.map fun v => v.category).sum ≤ 8) (hce : ce + k ≤ mx ∧ sl + 6 * k ≤ sx) (dd : Dx cc pc (.invokestatic idx) 3 pc')
    (kx : ∀ (z : Int) (ω' : Wo), Rg z → Po z ω' → J Γ p l e (rmk D mx sx) s m args below meth c Q 243 (ce + k) (sl + 6 * k) pc' L (.int (iI z) :: S) ω') : J Γ p l e (rmk D mx sx) s m args below meth c Q 243 ce sl pc L (as.reverse ++ S) ω := by
  intro H locs ls hP hS hl
  obtain ⟨hd, rfl⟩ := dd
  obtain ⟨o1, o2, o3, o4⟩ := O
  have hG : GoodIn WS (.codeWith y bytes maxL (some .int) hh :: WS) := WS_in fun w hw => (List.mem_cons.mp hw).elim (fun q => q ▸ o3) (fun q => q)
  have hr : va_Run p l e (rmk D mx sx) s m args below meth c H locs ce sl k (6 * k) (F0 m pc ls (as.reverse ++ S)) S (QI Γ Po 243 kd as.toArray) (gA Γ) := by
    refine vx_runSW (Ts := WS) (n := na) (hh := hh) ⟨C.1, C.2.1, C.2.2.1, C.2.2.2.1, C.2.2.2.2.1⟩ hM (vx_cwSW na C.2.2.2.2.1 ?_ rfl rfl rfl o4 ⟨hD.1, ?_⟩) ⟨Pcw.blind, ?_⟩ rfl hn (hl.1.trans hL) rfl (lv_room hcat) hd ⟨hce.1, hce.2⟩
    · intro w hw
      unfold va_wsS at hw
      rcases List.mem_append.mp hw with h | h
      · simp only [List.mem_cons, List.not_mem_nil, or_false] at h
        rcases h with rfl | rfl | rfl
        · exact WS_in (fun w hw => hw) _ K
        · exact WS_in (fun w hw => hw) _ o1
        · exact WS_in (fun w hw => hw) _ o2
      · exact hG w h
    · show 8 + (maxL + 11) + 64 * d ≤ 64 * D
      omega
    · intro U hU hW
      exact ⟨rfl, ⟨C.2.2.2.2.2.1.next hW hU hS, hK3.warm hW⟩, by rw [hU]; exact hP⟩
  refine va_calli hr hS (fun q _ h => h) (fun q h => h) (fun r ω' t H1 locs1 ht hvm hpo hB _ _ hS1 => ?_)
  obtain ⟨z, rfl, hz0, hz⟩ := hpo
  have hB : Rp Γ 243 ω' t.heap := hB
  rw [ht] at hB
  exact kx z ω' hz0 hz H1 locs1 ls hB hS1 hl
end LAWROWS
