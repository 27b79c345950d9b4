/-! the string builder: its calls and constants -/
def Ou (y : MethodName) (bytes : ByteArray) (maxL : Nat) (ret : Option FieldType) (na : Nat) : Prop := Cond.sameMethod y.cls y.cls y.name y.desc ∈ WS ∧ Cond.superclass RJ4 y.cls ∈ WS ∧ Cond.instanceMethod y ∈ WS ∧ Cond.initialized y.cls ∈ WS ∧ Cond.code y bytes maxL ret ∈ WS ∧ y.name ≠ "<init>" ∧ (parseMethodDescriptor y.desc).map (fun d => d.parameters.length) = some na
def Ol (y : MethodName) (bytes : ByteArray) (maxL : Nat) (ret : Option FieldType) (na : Nat) : Prop := Cond.sameMethod y.cls y.cls y.name y.desc ∈ WS ∧ Cond.selects RJ4 y y ∈ WS ∧ Cond.instanceMethod y ∈ WS ∧ Cond.initialized y.cls ∈ WS ∧ Cond.code y bytes maxL ret ∈ WS ∧ (y.cls ≠ "java/lang/invoke/MethodHandle" ∧ y.cls ≠ "java/lang/invoke/VarHandle" ∧ (parseMethodDescriptor y.desc).map (fun d => d.parameters.length) = some na)
def Op2 (y : MethodName) (bytes : ByteArray) (maxL : Nat) (ret : Option FieldType) (na : Nat) : Prop := Cond.sameMethod y.cls y.cls y.name y.desc ∈ WS ∧ y ∈ prvM ∧ Cond.instanceMethod y ∈ WS ∧ Cond.initialized y.cls ∈ WS ∧ Cond.code y bytes maxL ret ∈ WS ∧ (y.cls ≠ "java/lang/invoke/MethodHandle" ∧ y.cls ≠ "java/lang/invoke/VarHandle" ∧ (parseMethodDescriptor y.desc).map (fun d => d.parameters.length) = some na)
section SB0
variable {p : Program} {l : Launch} {e : Env} {R : Room} {s : State} {m : MethodId} {args : Array Value} {below : List Frame} {meth : Method} {c : Code}
theorem vz_callVP {T : State} {locs : List Loc} {cells slots : Nat} (X : Stand p l e R s m args below meth c T locs cells slots) (hexec : p.tables.exec = Jvm.exec) {own : String} {index : Nat} {y : MethodName} {bytes : ByteArray} {maxL : Nat} {ret : Option FieldType}
    (hown : s.vm.findClass own = some m.cls) (hlink : (Cond.methodLink own index y).before args s = true) (hsame : (Cond.sameMethod y.cls y.cls y.name y.desc).before args s = true)
    (hy : y.cls ≠ "java/lang/invoke/MethodHandle" ∧ y.cls ≠ "java/lang/invoke/VarHandle")
    (hpriv : (Cond.privateMethod y).before args s = true) (hinst : (Cond.instanceMethod y).before args s = true) (hcode : (Cond.code y bytes maxL ret).before args s = true)
    {W : Nat} {Pre : Pt → Array Value → Prop} {Post : Pt → Array Value → Option Value → Pt → Prop} (hK : Back l R p e below s args y 3 W Pre Post)
    {b : Addr} {cellB : Cell} (hcell : T.heap[b]? = some cellB) (hobj : cellB.vm.isStatics = false)
    {g : JFrame} (hg : g.method = m) (hsize : g.locals.size = c.maxLocals) {argsL rest : List Value} (hlen : ∀ sig, parseMethodDescriptor y.desc = some sig → argsL.length = sig.parameters.length)
    (hstack : g.stack = argsL.reverse ++ .ref b :: rest) (hW : 2 * g.monitorRoom + (rest.map fun v => v.category).sum ≤ W) (hdg : decode c.code g.pc = .ok (.invokevirtual index, 3))
    (hpre : ∀ vm₁, s.WarmedH vm₁ → Pre ⟨T.setVm vm₁, locs, cells, slots⟩ (Value.ref b :: argsL).toArray) :
    ∃ (v : Option Value) (vm₁ : Vm) (B : Pt), s.WarmedH vm₁ ∧ Stand p l e R s m args below meth c B.U B.locs B.cells B.slots ∧ Post ⟨T.setVm vm₁, locs, cells, slots⟩ (Value.ref b :: argsL).toArray v B ∧
      ∀ target, Steps p.tables e below (B.U.setTop { g with pc := g.pc + 3, stack := v.toList ++ rest }) target → Steps p.tables e below (T.setTop g) target := by
  obtain ⟨cn, ck, r1, hcn, hck, hni, hf, hn1⟩ := Cond.sameMethod_found hsame
  obtain ⟨mk, methM, hnamed, hmethM, hstM, habM⟩ := Cond.instanceMethod_spec hinst
  obtain ⟨methM', cM, hmethM', -, -, -, -, -, -, hsigM⟩ := Cond.code_spec hnamed hcode
  cases hmethM.symm.trans hmethM'
  have hmc := findClass_of_methodNamed hnamed
  cases hcn.symm.trans hmc
  have hselP : selectMethod e.platform s.vm cellB.cls mk = .method mk := selectMethod_private hmethM (Cond.privateMethod_at hpriv mk methM hnamed hmethM)
  obtain ⟨vm₁, X₁, hstep₁⟩ := X.invokevirtual hexec hown hlink hnamed hmethM hstM hck hni hy (a := b) (cell := cellB) hcell
    (fun z h => by rw [h] at hobj; cases hobj) hselP hmethM habM hck hni (g := g) hg (argsL := argsL) (rest := rest) (hlen _ hsigM) hstack hdg
  obtain ⟨v, B, X', hpost, hsteps⟩ := hK m meth c ⟨T.setVm vm₁, locs, cells, slots⟩ { g with stack := rest } (.invokevirtual index) mk (Value.ref b :: argsL).toArray X₁ hg hsize hdg hW (X₁.named hnamed) (hpre vm₁ X₁.warmed)
  exact ⟨v, vm₁, B, X₁.warmed, X', hpost, fun target h => hstep₁ _ fun acts => by rw [doInvoke_state]; exact hsteps.trans h⟩
theorem vz_runVP {y : MethodName} {bytes cc : ByteArray} {maxL nL mc ms n index : Nat} {ret : Option FieldType} {ws ws' : List Cond} {rm : Room} {Pc : Array Value → State → Prop} {Qc : Array Value → State → Outcome → State → Prop} {free : Addr → Prop} {Ts : List Cond} {own C : String} {b : Addr} {As rest : List Value} {g : JFrame} {H : Heap} {locs : List Loc} {cells slots : Nat}
    (S : CallFix p m c cc nL s args Ts own) (hM : Met l y ws rm Pc Qc mc ms free) (hw : ws = Cond.code y bytes maxL ret :: ws') (hT : GoodIn Ts ws) (ht : ∀ w ∈ Ts, w.before args s = true)
    (k1 : Cond.methodLink own index y ∈ Ts) (k2 : Cond.sameMethod y.cls y.cls y.name y.desc ∈ Ts) (k3 : (Cond.privateMethod y).before args s = true) (k4 : Cond.instanceMethod y ∈ Ts) (k5 : Cond.initialized y.cls ∈ Ts)
    (hrc : rm.cells = mc) (hrs : rm.slots = ms) (hd : y.cls ≠ "java/lang/invoke/MethodHandle" ∧ y.cls ≠ "java/lang/invoke/VarHandle" ∧ (parseMethodDescriptor y.desc).map (fun d => d.parameters.length) = some n) (hR : rm.frames + 1 ≤ R.frames ∧ 8 + (maxL + 11) + rm.locals ≤ R.locals)
    (hp : PreV s H C b Pc As)
    (hg : g.method = m) (hn : As.length = n) (hsize : g.locals.size = nL) (hstack : g.stack = As.reverse ++ .ref b :: rest) (hW : 2 * g.monitorRoom + (rest.map fun v => v.category).sum ≤ 8) (hdg : decode cc g.pc = .ok (.invokevirtual index, 3)) (hf : cells + mc ≤ R.cells ∧ slots + ms ≤ R.slots) :
    va_Run p l e R s m args below meth c H locs cells slots mc ms g rest (Qc (Value.ref b :: As).toArray) (free) := by
  have hcw : Cond.code y bytes maxL ret ∈ ws := by rw [hw]; exact List.mem_cons_self
  have hlen : ∀ sig, parseMethodDescriptor y.desc = some sig → n = sig.parameters.length := by
    intro sig h
    have h2 := hd.2.2
    rw [h] at h2
    exact (Option.some.inj h2).symm
  have hini := ht _ k5
  have hK : Back l R p e below s args y 3 8 (PreOf R mc ms Pc) (PostOf Qc mc ms free) := back_of (bytes := bytes) (maxL := maxL) (ret := ret) hM hp.1 hrc hrs hR.1 hR.2 (pay_in ht hT) hcw (fun a' U hW => word_at hW (Or.inl (by first | rfl | simp [Cond.onTables, Cond.keeps, Cond.steady])) hini)
  obtain ⟨hx, hb, hml, ho, -⟩ := S
  obtain ⟨-, ⟨cellB, hcB, hoB, hclB⟩, hPc⟩ := hp
  intro T hT2 X
  obtain ⟨v, vm₁, ⟨U', l2, c2, s2⟩, hW₁, X', ⟨g', mk, t, L, e1, e2, hq, h1, hL, h2, h3⟩, st⟩ := vz_callVP X hx (bytes := bytes) (maxL := maxL) (ret := ret) ho (ht _ k1) (ht _ k2) ⟨hd.1, hd.2.1⟩ k3 (ht _ k4) (ht _ (hT _ hcw).1) hK (by rw [hT2]; exact hcB) hoB hg (hsize.trans hml.symm) (argsL := As) (rest := rest) (fun sig h => hn.trans (hlen sig h)) hstack hW (by rw [hb]; exact hdg)
    (fun vm₁ hW₁ => ⟨hf.1, hf.2, hPc (T.setVm vm₁) hT2 hW₁⟩)
  dsimp only [Pt.U, Pt.locs, Pt.cells, Pt.slots] at X' e1 e2 h1 h2 h3 st
  subst h1; subst h2; subst h3
  exact ⟨v, (T.setVm vm₁).calling g' mk (Value.ref b :: As).toArray, t, U', L, hT2, X', hL, e1, e2, hq, st⟩
end SB0
section SB1
variable {κ : Nat → Nat} {Γ : Ga} {p : Program} {l : Launch} {e : Env} {R : Room} {s : State} {m : MethodId} {args : Array Value} {below : List Frame} {meth : Method} {c : Code} {Q : State → Prop} {n ce sl : Nat} {cc : ByteArray} {own : String} {nL pc pc' idx a kk k : Nat} {L : List (Option Value)} {S : List Value} {ω : Wo}
theorem j_runSU {y : MethodName} {bytes : ByteArray} {maxL d D na mx sx : Nat} {ret : Option FieldType} {as : List Value} {Qc : Array Value → State → Outcome → State → Prop} {H : Heap} {locs : List Loc} {ls : Array Slot} (C : Cx Γ p l s m args meth c cc RJ4 nL)
    (hM : Met l y (.code y bytes maxL ret :: WS) (rmk d 0 0) (Pcx Γ (.ref (rl Γ a) :: as) ω n κ) Qc 0 0 (gA Γ)) (O : Ou y bytes maxL ret na) (K : Lk RJ4 idx y) (ha : At n a 8 κ) (hD : d + 1 ≤ D ∧ maxL ≤ 40) (hn : as.length = na) (dd : decode cc pc = .ok (.invokespecial idx, 3)) (hL : L.length = nL)
    (hcat : (S.map fun v => v.category).sum ≤ 8) (hce : ce ≤ mx ∧ sl ≤ sx) (hP : Rp Γ n ω H κ) (hS : va_S (gA Γ) s.heap H locs) (hl : lk ls L) :
    va_Run p l e (rmk D mx sx) s m args below meth c H locs ce sl 0 0 (F0 m pc ls (as.reverse ++ .ref (rl Γ a) :: S)) S (Qc (Value.ref (rl Γ a) :: as).toArray) (gA Γ) := by
  obtain ⟨o1, o2, o3, o4, o5, o6, o7⟩ := O
  refine va_runSU (C := RJ4) (Ts := WS) (n := na) (C.2.2.2.2.2.1.1.1 8 _ rfl).2 ⟨C.1, C.2.1, C.2.2.1, C.2.2.2.1, C.2.2.2.2.1⟩ hM (va_cwSU na C.2.2.2.2.1 (WS_in fun w hw => ?_) rfl rfl rfl ⟨o6, o7⟩ ⟨hD.1, ?_⟩) ⟨Pcx.blind, ?_, ?_⟩ rfl hn (hl.1.trans hL) rfl (lv_room hcat) dd ⟨?_, ?_⟩
  · unfold va_wsSU at hw
    rcases List.mem_append.mp hw with h | h
    · simp only [List.mem_cons, List.not_mem_nil, or_false] at h
      rcases h with rfl | rfl | rfl | rfl | rfl
      · exact K
      · exact o1
      · exact o2
      · exact o3
      · exact o4
    · exact (List.mem_cons.mp h).elim (fun q => q ▸ o5) (fun q => q)
  · show 8 + (maxL + 11) + 64 * d ≤ 64 * D
    omega
  · exact Rp.recv C.2.2.2.2.2.1.1 hP ha (q := (RJ4, TJ4, 4)) rfl
  · intro U hU hW
    exact ⟨rfl, C.2.2.2.2.2.1.next hW hU hS, by rw [hU]; exact hP⟩
  · show ce + 0 ≤ mx
    omega
  · show sl + 0 ≤ sx
    omega
theorem j_runL {y : MethodName} {bytes : ByteArray} {maxL d D na mx sx : Nat} {ret : Option FieldType} {as : List Value} {Qc : Array Value → State → Outcome → State → Prop} {H : Heap} {locs : List Loc} {ls : Array Slot} (C : Cx Γ p l s m args meth c cc RJ5 nL)
    (hM : Met l y (.code y bytes maxL ret :: WS) (rmk d 0 0) (Pcx Γ (.ref (rl Γ a) :: as) ω n κ) Qc 0 0 (gA Γ)) (O : Ol y bytes maxL ret na) (K : Lk RJ5 idx y) (ha : At n a 8 κ) (hD : d + 1 ≤ D ∧ maxL ≤ 40) (hn : as.length = na) (dd : decode cc pc = .ok (.invokevirtual idx, 3)) (hL : L.length = nL)
    (hcat : (S.map fun v => v.category).sum ≤ 8) (hce : ce ≤ mx ∧ sl ≤ sx) (hP : Rp Γ n ω H κ) (hS : va_S (gA Γ) s.heap H locs) (hl : lk ls L) :
    va_Run p l e (rmk D mx sx) s m args below meth c H locs ce sl 0 0 (F0 m pc ls (as.reverse ++ .ref (rl Γ a) :: S)) S (Qc (Value.ref (rl Γ a) :: as).toArray) (gA Γ) := by
  obtain ⟨o1, o2, o3, o4, o5, o6⟩ := O
  refine va_runU (C := RJ4) (owner := y.cls) (Ts := WS) (n := na) ⟨C.1, C.2.1, C.2.2.1, C.2.2.2.1, C.2.2.2.2.1⟩ hM (va_cwU na C.2.2.2.2.1 (WS_in fun w hw => ?_) rfl rfl rfl rfl o6 ⟨hD.1, ?_⟩) ⟨Pcx.blind, ?_, ?_⟩ rfl hn (hl.1.trans hL) rfl (lv_room hcat) dd ⟨?_, ?_⟩
  · unfold va_wsU at hw
    rcases List.mem_append.mp hw with h | h
    · simp only [List.mem_cons, List.not_mem_nil, or_false] at h
      rcases h with rfl | rfl | rfl | rfl | rfl
      · exact K
      · exact o1
      · exact o2
      · exact o3
      · exact o4
    · exact (List.mem_cons.mp h).elim (fun q => q ▸ o5) (fun q => q)
  · show 8 + (maxL + 11) + 64 * d ≤ 64 * D
    omega
  · exact Rp.recv C.2.2.2.2.2.1.1 hP ha (q := (RJ4, TJ4, 4)) rfl
  · intro U hU hW
    exact ⟨rfl, C.2.2.2.2.2.1.next hW hU hS, by rw [hU]; exact hP⟩
  · show ce + 0 ≤ mx
    omega
  · show sl + 0 ≤ sx
    omega
theorem j_runP {y : MethodName} {bytes : ByteArray} {maxL d D na mx sx : Nat} {ret : Option FieldType} {as : List Value} {Qc : Array Value → State → Outcome → State → Prop} {H : Heap} {locs : List Loc} {ls : Array Slot} (C : Cx Γ p l s m args meth c cc RJ5 nL)
    (hM : Met l y (.code y bytes maxL ret :: WS) (rmk d 0 0) (Pcx Γ (.ref (rl Γ a) :: as) ω n κ) Qc 0 0 (gA Γ)) (O : Op2 y bytes maxL ret na) (K : Lk RJ5 idx y) (ha : At n a 8 κ) (hD : d + 1 ≤ D ∧ maxL ≤ 40) (hn : as.length = na) (dd : decode cc pc = .ok (.invokevirtual idx, 3)) (hL : L.length = nL)
    (hcat : (S.map fun v => v.category).sum ≤ 8) (hce : ce ≤ mx ∧ sl ≤ sx) (hP : Rp Γ n ω H κ) (hS : va_S (gA Γ) s.heap H locs) (hl : lk ls L) :
    va_Run p l e (rmk D mx sx) s m args below meth c H locs ce sl 0 0 (F0 m pc ls (as.reverse ++ .ref (rl Γ a) :: S)) S (Qc (Value.ref (rl Γ a) :: as).toArray) (gA Γ) := by
  obtain ⟨o1, o2, o3, o4, o5, o6⟩ := O
  refine vz_runVP (C := RJ4) (Ts := WS) (n := na) ⟨C.1, C.2.1, C.2.2.1, C.2.2.2.1, C.2.2.2.2.1⟩ hM rfl (inWS o5) C.2.2.2.2.1 K o1 (va_Nw.use rfl (C.2.2.2.2.2.1.2.2.2.1.2 _ o2)) o3 o4 rfl rfl o6 ⟨hD.1, ?_⟩ ⟨Pcx.blind, ?_, ?_⟩ rfl hn (hl.1.trans hL) rfl (lv_room hcat) dd ⟨?_, ?_⟩
  · show 8 + (maxL + 11) + 64 * d ≤ 64 * D
    omega
  · exact Rp.recv C.2.2.2.2.2.1.1 hP ha (q := (RJ4, TJ4, 4)) rfl
  · intro U hU hW
    exact ⟨rfl, C.2.2.2.2.2.1.next hW hU hS, by rw [hU]; exact hP⟩
  · show ce + 0 ≤ mx
    omega
  · show sl + 0 ≤ sx
    omega
theorem j_cUI0 {y : MethodName} {bytes : ByteArray} {maxL d D mx sx : Nat} {rt : FieldType} {Po : Int → Wo → Prop}  (C : Cx Γ p l s m args meth c cc RJ4 nL) (hM : CI Γ l y bytes maxL rt d (.ref (rl Γ a) :: []) ω Po n κ) (O : Ou y bytes maxL (some rt) 0) (K : Lk RJ4 idx y) (ha : At n a 8 κ) (hD : d + 1 ≤ D ∧ maxL ≤ 40) (hL : L.length = nL) (hcat : (S.map fun v => v.category).sum ≤ 8) (hce : ce ≤ mx ∧ sl ≤ sx) (dd : Dx cc pc (.invokespecial idx) 3 pc') (kx : ∀ (z : Int) (ω' : Wo), Rg z → Po z ω' → J Γ p l e (rmk D mx sx) s m args below meth c Q n ce sl pc' L (.int (iI z) :: S) ω' κ) : J Γ p l e (rmk D mx sx) s m args below meth c Q n ce sl pc L (.ref (rl Γ a) :: S) ω κ := by
  intro H locs ls hP hS hl
  obtain ⟨hd, rfl⟩ := dd
  exact j_kI (j_runSU (as := []) C hM O K ha hD rfl hd hL hcat hce hP hS hl) hS hl kx
theorem j_cUI1 {y : MethodName} {bytes : ByteArray} {maxL d D mx sx : Nat} {rt : FieldType} {Po : Int → Wo → Prop} {x1 : Value} (C : Cx Γ p l s m args meth c cc RJ4 nL) (hM : CI Γ l y bytes maxL rt d (.ref (rl Γ a) :: [x1]) ω Po n κ) (O : Ou y bytes maxL (some rt) 1) (K : Lk RJ4 idx y) (ha : At n a 8 κ) (hD : d + 1 ≤ D ∧ maxL ≤ 40) (hL : L.length = nL) (hcat : (S.map fun v => v.category).sum ≤ 8) (hce : ce ≤ mx ∧ sl ≤ sx) (dd : Dx cc pc (.invokespecial idx) 3 pc') (kx : ∀ (z : Int) (ω' : Wo), Rg z → Po z ω' → J Γ p l e (rmk D mx sx) s m args below meth c Q n ce sl pc' L (.int (iI z) :: S) ω' κ) : J Γ p l e (rmk D mx sx) s m args below meth c Q n ce sl pc L (x1 :: .ref (rl Γ a) :: S) ω κ := by
  intro H locs ls hP hS hl
  obtain ⟨hd, rfl⟩ := dd
  exact j_kI (j_runSU (as := [x1]) C hM O K ha hD rfl hd hL hcat hce hP hS hl) hS hl kx
theorem j_cUV1 {y : MethodName} {bytes : ByteArray} {maxL d D mx sx : Nat} {Po : Wo → Prop} {x1 : Value} (C : Cx Γ p l s m args meth c cc RJ4 nL) (hM : CV Γ l y bytes maxL d (.ref (rl Γ a) :: [x1]) ω Po n κ) (O : Ou y bytes maxL none 1) (K : Lk RJ4 idx y) (ha : At n a 8 κ) (hD : d + 1 ≤ D ∧ maxL ≤ 40) (hL : L.length = nL) (hcat : (S.map fun v => v.category).sum ≤ 8) (hce : ce ≤ mx ∧ sl ≤ sx) (dd : Dx cc pc (.invokespecial idx) 3 pc') (kx : ∀ (ω' : Wo), Po ω' → J Γ p l e (rmk D mx sx) s m args below meth c Q n ce sl pc' L S ω' κ) : J Γ p l e (rmk D mx sx) s m args below meth c Q n ce sl pc L (x1 :: .ref (rl Γ a) :: S) ω κ := by
  intro H locs ls hP hS hl
  obtain ⟨hd, rfl⟩ := dd
  exact j_kV (j_runSU (as := [x1]) C hM O K ha hD rfl hd hL hcat hce hP hS hl) hS hl kx
theorem j_cUE1 {y : MethodName} {bytes : ByteArray} {maxL d D mx sx : Nat} {cn : String} {Po : Option Nat → Wo → Prop} {x1 : Value} (C : Cx Γ p l s m args meth c cc RJ4 nL) (hM : CRf Γ l y bytes maxL cn d (.ref (rl Γ a) :: [x1]) ω Po n κ) (O : Ou y bytes maxL (some (.object cn)) 1) (K : Lk RJ4 idx y) (ha : At n a 8 κ) (hD : d + 1 ≤ D ∧ maxL ≤ 40) (hL : L.length = nL) (hcat : (S.map fun v => v.category).sum ≤ 8) (hce : ce ≤ mx ∧ sl ≤ sx) (dd : Dx cc pc (.invokespecial idx) 3 pc') (kx : ∀ (b : Option Nat) (ω' : Wo), Po b ω' → J Γ p l e (rmk D mx sx) s m args below meth c Q n ce sl pc' L (va_rf (b.map (rl Γ)) :: S) ω' κ) : J Γ p l e (rmk D mx sx) s m args below meth c Q n ce sl pc L (x1 :: .ref (rl Γ a) :: S) ω κ := by
  intro H locs ls hP hS hl
  obtain ⟨hd, rfl⟩ := dd
  exact j_kE (j_runSU (as := [x1]) C hM O K ha hD rfl hd hL hcat hce hP hS hl) hS hl kx
theorem j_cLI0 {y : MethodName} {bytes : ByteArray} {maxL d D mx sx : Nat} {rt : FieldType} {Po : Int → Wo → Prop}  (C : Cx Γ p l s m args meth c cc RJ5 nL) (hM : CI Γ l y bytes maxL rt d (.ref (rl Γ a) :: []) ω Po n κ) (O : Ol y bytes maxL (some rt) 0) (K : Lk RJ5 idx y) (ha : At n a 8 κ) (hD : d + 1 ≤ D ∧ maxL ≤ 40) (hL : L.length = nL) (hcat : (S.map fun v => v.category).sum ≤ 8) (hce : ce ≤ mx ∧ sl ≤ sx) (dd : Dx cc pc (.invokevirtual idx) 3 pc') (kx : ∀ (z : Int) (ω' : Wo), Rg z → Po z ω' → J Γ p l e (rmk D mx sx) s m args below meth c Q n ce sl pc' L (.int (iI z) :: S) ω' κ) : J Γ p l e (rmk D mx sx) s m args below meth c Q n ce sl pc L (.ref (rl Γ a) :: S) ω κ := by
  intro H locs ls hP hS hl
  obtain ⟨hd, rfl⟩ := dd
  exact j_kI (j_runL (as := []) C hM O K ha hD rfl hd hL hcat hce hP hS hl) hS hl kx
theorem j_cPV1 {y : MethodName} {bytes : ByteArray} {maxL d D mx sx : Nat} {Po : Wo → Prop} {x1 : Value} (C : Cx Γ p l s m args meth c cc RJ5 nL) (hM : CV Γ l y bytes maxL d (.ref (rl Γ a) :: [x1]) ω Po n κ) (O : Op2 y bytes maxL none 1) (K : Lk RJ5 idx y) (ha : At n a 8 κ) (hD : d + 1 ≤ D ∧ maxL ≤ 40) (hL : L.length = nL) (hcat : (S.map fun v => v.category).sum ≤ 8) (hce : ce ≤ mx ∧ sl ≤ sx) (dd : Dx cc pc (.invokevirtual idx) 3 pc') (kx : ∀ (ω' : Wo), Po ω' → J Γ p l e (rmk D mx sx) s m args below meth c Q n ce sl pc' L S ω' κ) : J Γ p l e (rmk D mx sx) s m args below meth c Q n ce sl pc L (x1 :: .ref (rl Γ a) :: S) ω κ := by
  intro H locs ls hP hS hl
  obtain ⟨hd, rfl⟩ := dd
  exact j_kV (j_runP (as := [x1]) C hM O K ha hD rfl hd hL hcat hce hP hS hl) hS hl kx
theorem j_get8 (C : Cx Γ p l s m args meth c cc RJ5 nL) (hk : k < 4) (hlk : Cond.fieldLink RJ5 idx (TJ4 k).1 (TJ4 k).2.1 (TJ4 k).2.2.1 ∈ WS) (ha : At n a 8 κ) (d : Dx cc pc (.getfield idx) 3 pc') (kx : J Γ p l e R s m args below meth c Q n ce sl pc' L (fv Γ ω 8 a k :: S) ω κ) : J Γ p l e R s m args below meth c Q n ce sl pc L (.ref (rl Γ a) :: S) ω κ := by
  intro H locs ls hP hS hl
  obtain ⟨hd, rfl⟩ := d
  have he : (WL Γ n ω κ)[a]? = some (rl Γ a, .inr (8, (List.range (nf 8)).map (fv Γ ω 8 a))) := by rw [WL_get ha.1, WE_obj ha.2.2 (by decide)]
  exact va_get C.1 C.2.1 C.2.2.2.2.1 (C := RJ4) (T := TJ4) (N := 4) uwJ4 C.2.2.2.1 C.2.2.2.2.2.1.1 hP.1 a he rfl k hk (C.2.2.2.2.1 _ hlk) (fun x h => h) (fv_get (kk := 8) hk) hd (kx H locs ls hP hS hl)
theorem j_get8i (C : Cx Γ p l s m args meth c cc RJ5 nL) (hk : k < 4) (hlk : Cond.fieldLink RJ5 idx (TJ4 k).1 (TJ4 k).2.1 (TJ4 k).2.2.1 ∈ WS) (ha : At n a 8 κ) (hr : rfm 8 k = false) {v : Int} (he : ω.1 a k = v) (d : Dx cc pc (.getfield idx) 3 pc') (kx : Rg v → J Γ p l e R s m args below meth c Q n ce sl pc' L (.int (iI v) :: S) ω κ) : J Γ p l e R s m args below meth c Q n ce sl pc L (.ref (rl Γ a) :: S) ω κ := by
  intro H locs ls hP hS hl
  refine j_get8 C hk hlk ha d ?_ H locs ls hP hS hl
  have : fv Γ ω 8 a k = .int (iI v) := by unfold fv; rw [hr, he]; rfl
  rw [this]
  exact kx (he ▸ hP.2.1 a k)
theorem j_get8r (C : Cx Γ p l s m args meth c cc RJ5 nL) (hlk : Cond.fieldLink RJ5 idx (TJ4 0).1 (TJ4 0).2.1 (TJ4 0).2.2.1 ∈ WS) (ha : At n a 8 κ) {b : Nat} (he : ω.2.1 a 0 = some b) (d : Dx cc pc (.getfield idx) 3 pc') (kx : J Γ p l e R s m args below meth c Q n ce sl pc' L (.ref (rl Γ b) :: S) ω κ) : J Γ p l e R s m args below meth c Q n ce sl pc L (.ref (rl Γ a) :: S) ω κ := by
  refine j_get8 C (k := 0) (by decide) hlk ha d ?_
  have : fv Γ ω 8 a 0 = .ref (rl Γ b) := by unfold fv; rw [he]; rfl
  rw [this]
  exact kx
theorem j_put8 (C : Cx Γ p l s m args meth c cc RJ5 nL) (hk : k < 4) (hlk : Cond.fieldLink RJ5 idx (TJ4 k).1 (TJ4 k).2.1 (TJ4 k).2.2.1 ∈ WS) (ha : At n a 8 κ) (hr : rfm 8 k = false) {ty : FieldType} (hf : parseFieldDescriptor (TJ4 k).2.2.1 = some ty) (hf2 : (TJ4 k).2.2.2 = false) {v : Int} (hn : narrow ty (.int (iI v)) = .int (iI v)) (hfit : fits ty (.int (iI v)) = true) (hv : Rg v) (d : Dx cc pc (.putfield idx) 3 pc') (kx : J Γ p l e R s m args below meth c Q n ce sl pc' L S (wi ω a k v) κ) : J Γ p l e R s m args below meth c Q n ce sl pc L (.int (iI v) :: .ref (rl Γ a) :: S) ω κ := by
  intro H locs ls hP hS hl
  obtain ⟨hd, rfl⟩ := d
  have he : (WL Γ n ω κ)[a]? = some (rl Γ a, .inr (8, (List.range (nf 8)).map (fv Γ ω 8 a))) := by rw [WL_get ha.1, WE_obj ha.2.2 (by decide)]
  refine va_put C.1 C.2.1 C.2.2.2.2.1 (C := RJ4) (T := TJ4) (N := 4) uwJ4 tyJ4 tyJ4_ok nmJ4 C.2.2.2.1 C.2.2.2.2.2.1.1 hP.1 hP.D hS a he rfl k hk (C.2.2.2.2.1 _ hlk) (fun x h => h) hf2 hf hn hfit (by simp [hk, nf]) hd fun H1 locs1 h1 _ h3 => ?_
  rw [WL_set (ω' := wi ω a k v) (by rw [WE_obj ha.2.2 (by decide), fv_set_i (kk := 8) hk hr]) (fun x hx => WE_ne (wi_ne hx) rfl (Or.inr rfl))] at h1
  exact kx H1 locs1 ls ⟨h1, wi_rg hP.2.1 hv, hP.2.2⟩ h3 hl
theorem j_put8I (C : Cx Γ p l s m args meth c cc RJ5 nL) (ha : At n a 8 κ) {v : Int} (hv : Rg v) (d : Dx cc pc (.putfield 79) 3 pc') (kx : J Γ p l e R s m args below meth c Q n ce sl pc' L S (wi ω a 3 v) κ) : J Γ p l e R s m args below meth c Q n ce sl pc L (.int (iI v) :: .ref (rl Γ a) :: S) ω κ :=
  j_put8 C (k := 3) (by decide) (WS_of 850 (by decide +kernel)) ha rfl (ty := .int) (by decide +kernel) rfl rfl rfl hv d kx
theorem j_cnt (C : Cx Γ p l s m args meth c cc RJ5 nL) (ha : At n a 8 κ) {v : Int} (he : ω.1 a 3 = v) (d : Dx cc pc (.getfield 79) 3 pc') (kx : Rg v → J Γ p l e R s m args below meth c Q n ce sl pc' L (.int (iI v) :: S) ω κ) : J Γ p l e R s m args below meth c Q n ce sl pc L (.ref (rl Γ a) :: S) ω κ :=
  j_get8i C (k := 3) (by decide) (WS_of 850 (by decide +kernel)) ha rfl he d kx
theorem j_cod (C : Cx Γ p l s m args meth c cc RJ5 nL) (ha : At n a 8 κ) {v : Int} (he : ω.1 a 1 = v) (d : Dx cc pc (.getfield 22) 3 pc') (kx : Rg v → J Γ p l e R s m args below meth c Q n ce sl pc' L (.int (iI v) :: S) ω κ) : J Γ p l e R s m args below meth c Q n ce sl pc L (.ref (rl Γ a) :: S) ω κ :=
  j_get8i C (k := 1) (by decide) (WS_of 848 (by decide +kernel)) ha rfl he d kx
theorem j_val (C : Cx Γ p l s m args meth c cc RJ5 nL) (ha : At n a 8 κ) {b : Nat} (he : ω.2.1 a 0 = some b) (d : Dx cc pc (.getfield 15) 3 pc') (kx : J Γ p l e R s m args below meth c Q n ce sl pc' L (.ref (rl Γ b) :: S) ω κ) : J Γ p l e R s m args below meth c Q n ce sl pc L (.ref (rl Γ a) :: S) ω κ :=
  j_get8r C (WS_of 847 (by decide +kernel)) ha he d kx
/-- the length of an array of bytes -/
theorem j_blen (C : Cx Γ p l s m args meth c cc own nL) (ha : At n a 17 κ) (d : Dx cc pc .arraylength 1 pc') (kx : J Γ p l e R s m args below meth c Q n ce sl pc' L (.int (iI ((16 : Nat) : Int)) :: S) ω κ) : J Γ p l e R s m args below meth c Q n ce sl pc L (.ref (rl Γ a) :: S) ω κ := by
  intro H locs ls hP hS hl
  have hw : (WL Γ n ω κ)[a]? = some (rl Γ a, .inl (gC Γ (tyk 17), lnk 17, .inl fun j => iI (ω.1 a j))) := by rw [WL_get ha.1, WE_int ha.2.2 rfl]
  obtain ⟨hd, rfl⟩ := d
  exact va_alen C.1 C.2.1 C.2.2.2.2.2.1.1 hP.1 a (tyk 17) hw rfl (v := iI ((16 : Nat) : Int)) (show Int32.ofNat 16 = _ by decide) hd (kx H locs ls hP hS hl)
theorem j_bald (C : Cx Γ p l s m args meth c cc own nL) (ha : At n a 17 κ) {i : Int} (hi : 0 ≤ i ∧ i < 16) {v : Int} (he : ω.1 a i.toNat = v) (d : Dx cc pc .baload 1 pc') (kx : J Γ p l e R s m args below meth c Q n ce sl pc' L (.int (iI v) :: S) ω κ) : J Γ p l e R s m args below meth c Q n ce sl pc L (.int (iI i) :: .ref (rl Γ a) :: S) ω κ := by
  intro H locs ls hP hS hl
  have hw : (WL Γ n ω κ)[a]? = some (rl Γ a, .inl (gC Γ (tyk 17), lnk 17, .inl fun j => iI (ω.1 a j))) := by rw [WL_get ha.1, WE_int ha.2.2 rfl]
  have hin : vp_in (iI i) (lnk 17) := iI_in hi (by decide)
  have hcl : (iI i).toNatClampNeg = i.toNat := iI_cl ⟨hi.1, by omega⟩
  obtain ⟨hd, rfl⟩ := d
  refine va_bald C.1 C.2.1 C.2.2.2.2.2.1.1 hP.1 a (tyk 17) hw rfl hin hd ?_
  rw [hcl, he]; exact kx H locs ls hP hS hl
theorem nar_byte : ∀ v : Nat, v < 128 → vp_nar .byte (iI (v : Int)) = iI (v : Int) := by decide
theorem i2b_nat : ∀ v : Nat, v < 128 → (iI (v : Int)).toInt8.toInt32 = iI (v : Int) := by decide
theorem j_bast (C : Cx Γ p l s m args meth c cc own nL) (ha : At n a 17 κ) {i : Int} (hi : 0 ≤ i ∧ i < 16) {v : Nat} (hv : v < 128) (d : Dx cc pc (.bastore) 1 pc')
    (kx : J Γ p l e R s m args below meth c Q n ce sl pc' L S (wi ω a i.toNat (v : Int)) κ) : J Γ p l e R s m args below meth c Q n ce sl pc L (.int (iI (v : Int)) :: .int (iI i) :: .ref (rl Γ a) :: S) ω κ := by
  intro H locs ls hP hS hl
  have hw : (WL Γ n ω κ)[a]? = some (rl Γ a, .inl (gC Γ (tyk 17), lnk 17, .inl fun j => iI (ω.1 a j))) := by rw [WL_get ha.1, WE_int ha.2.2 rfl]
  have hin : vp_in (iI i) (lnk 17) := iI_in hi (by decide)
  have hcl : (iI i).toNatClampNeg = i.toNat := iI_cl ⟨hi.1, by omega⟩
  obtain ⟨hd, rfl⟩ := d
  refine va_bast C.1 C.2.1 C.2.2.2.2.2.1.1 hP.1 hP.D hS a (tyk 17) hw rfl hin hd fun H1 locs1 h1 _ h3 => ?_
  rw [nar_byte v hv, WL_set (ω' := wi ω a i.toNat (v : Int)) (by rw [EI_set ha.2.2 rfl, hcl]) (fun x hx => WE_ne (wi_ne hx) rfl (Or.inr rfl))] at h1
  exact kx H1 locs1 ls ⟨h1, wi_rg hP.2.1 ⟨by omega, by omega⟩, hP.2.2⟩ h3 hl
theorem j_i2b (C : Cx Γ p l s m args meth c cc own nL) {v : Nat} (hv : v < 128) (d : Dx cc pc (.i2b) 1 pc') (kx : J Γ p l e R s m args below meth c Q n ce sl pc' L (.int (iI (v : Int)) :: S) ω κ) : J Γ p l e R s m args below meth c Q n ce sl pc L (.int (iI (v : Int)) :: S) ω κ := by
  intro H locs ls hP hS hl
  obtain ⟨hd, rfl⟩ := d
  exact lv_i2b C.1 C.2.1 hd (i2b_nat v hv) (kx H locs ls hP hS hl)
theorem j_ineg (C : Cx Γ p l s m args meth c cc own nL) {z : Int} (d : Dx cc pc (.ineg) 1 pc') (kx : J Γ p l e R s m args below meth c Q n ce sl pc' L (.int (iI (-z)) :: S) ω κ) : J Γ p l e R s m args below meth c Q n ce sl pc L (.int (iI z) :: S) ω κ := by
  intro H locs ls hP hS hl
  obtain ⟨hd, rfl⟩ := d
  refine lv_ineg C.1 C.2.1 hd ?_
  have e9 : -(iI z) = iI (-z) := (Int32.ofInt_neg z).symm
  rw [e9]
  exact kx H locs ls hP hS hl
theorem j_compact (C : Cx Γ p l s m args meth c cc RJ5 nL) (d : Dx cc pc (.getstatic 18) 3 pc') (kx : J Γ p l e R s m args below meth c Q n ce sl pc' L (.int (iI 1) :: S) ω κ) : J Γ p l e R s m args below meth c Q n ce sl pc L S ω κ := by
  intro H locs ls hP hS hl
  obtain ⟨hd, rfl⟩ := d
  exact va_gets C.1 C.2.1 C.2.2.2.2.2.1.2.1.2.2.2.2.2.2.2.1 hS C.2.2.2.1 (C.2.2.2.2.1 _ (WS_of (w := Cond.fieldLink RJ5 18 "java/lang/String" "COMPACT_STRINGS" "Z") 838 (by decide +kernel))) (fun x h => h) hd (kx H locs ls hP hS hl)
theorem j_ones (C : Cx Γ p l s m args meth c cc RJ6 nL) (d : Dx cc pc (.getstatic 83) 3 pc') (kx : J Γ p l e R s m args below meth c Q n ce sl pc' L (.ref (gad Γ 11) :: S) ω κ) : J Γ p l e R s m args below meth c Q n ce sl pc L S ω κ := by
  intro H locs ls hP hS hl
  obtain ⟨hd, rfl⟩ := d
  exact va_gets C.1 C.2.1 C.2.2.2.2.2.1.2.1.2.2.2.2.2.2.2.2.1 hS C.2.2.2.1 (C.2.2.2.2.1 _ (WS_of (w := Cond.fieldLink RJ6 83 "java/lang/Integer" "DigitOnes" "[B") 1091 (by decide +kernel))) (fun x h => h) hd (kx H locs ls hP hS hl)
theorem j_one1 {i : Nat} (C : Cx Γ p l s m args meth c cc own nL) (hi : i < 10) (d : Dx cc pc .baload 1 pc') (kx : J Γ p l e R s m args below meth c Q n ce sl pc' L (.int (iI ((48 + i : Nat) : Int)) :: S) ω κ) : J Γ p l e R s m args below meth c Q n ce sl pc L (.int (iI (i : Int)) :: .ref (gad Γ 11) :: S) ω κ := by
  intro H locs ls hP hS hl
  obtain ⟨hd, rfl⟩ := d
  refine va_tb C.1 C.2.1 C.2.2.2.2.2.1.2.1.2.2.2.2.2.2.2.2.2.1 hS (i := iI (i : Int)) (iI_in ⟨by omega, by omega⟩ (by decide)) (v := .int (iI ((48 + i : Nat) : Int))) ?_ hd (kx H locs ls hP hS hl)
  show Value.int (iI ((48 + (iI (i : Int)).toNatClampNeg % 10 : Nat) : Int)) = _
  rw [iI_cl ⟨by omega, by omega⟩, Int.toNat_natCast, Nat.mod_eq_of_lt hi]
theorem j_fmt (C : Cx Γ p l s m args meth c cc "java/lang/String" nL) (d : Dx cc pc (.getstatic 1053) 3 pc') (kx : ∀ w : Value, w.category = 1 → J Γ p l e R s m args below meth c Q n ce sl pc' L (w :: S) ω κ) : J Γ p l e R s m args below meth c Q n ce sl pc L S ω κ := by
  intro H locs ls hP hS hl
  obtain ⟨hd, rfl⟩ := d
  obtain ⟨w, hw, hz⟩ := C.2.2.2.2.2.1.2.1.2.2.2.2.2.2.2.2.2.2.1
  exact va_gets C.1 C.2.1 hz hS C.2.2.2.1 (C.2.2.2.2.1 _ (WS_of (w := Cond.fieldLink "java/lang/String" 1053 "jdk/internal/util/Preconditions" "SIOOBE_FORMATTER" "Ljava/util/function/BiFunction;") 1021 (by decide +kernel))) (fun x h => h) hd (kx w hw H locs ls hP hS hl)
/-- a reference that is no cell of the run -/
theorem j_aloadG {g i : Nat} (C : Cx Γ p l s m args meth c cc own nL) (k : Fin 4) (hk : (k : Nat) = i) (hL : L[i]? = some (some (.ref (gad Γ g)))) (d : Dx cc pc (.aload_n k) 1 pc') (kx : J Γ p l e R s m args below meth c Q n ce sl pc' L (.ref (gad Γ g) :: S) ω κ) : J Γ p l e R s m args below meth c Q n ce sl pc L S ω κ := by
  intro H locs ls hP hS hl
  obtain ⟨hd, rfl⟩ := d
  exact lv_aload_n C.1 C.2.1 hd hk (hl.2.2 _ _ hL) (kx H locs ls hP hS hl)
end SB1
theorem uJ5_append_c97b9 : Ou yJ5_append_c97b9 cJ5_append_c97b9 4 (some (.object "java/lang/AbstractStringBuilder")) 1 := ⟨WS_of 1349 (by decide +kernel), WS_of 859 (by decide +kernel), WS_of 1083 (by decide +kernel), WS_of 35 (by decide +kernel), WS_of 1084 (by decide +kernel), by decide, by decide +kernel⟩
theorem uJ5_length_8abf5 : Ou yJ5_length_8abf5 cJ5_length_8abf5 1 (some .int) 0 := ⟨WS_of 1124 (by decide +kernel), WS_of 859 (by decide +kernel), WS_of 1123 (by decide +kernel), WS_of 35 (by decide +kernel), WS_of 1129 (by decide +kernel), by decide, by decide +kernel⟩
theorem uJ5_isLatin1 : Ol yJ5_isLatin1_aae02 cJ5_isLatin1_aae02 1 (some .boolean) 0 := ⟨WS_of 1006 (by decide +kernel), WS_of 1007 (by decide +kernel), WS_of 1005 (by decide +kernel), WS_of 35 (by decide +kernel), WS_of 1008 (by decide +kernel), ⟨by decide +kernel, by decide +kernel, by decide +kernel⟩⟩
theorem uJ5_ensure : Op2 yJ5_ensureCapacityInternal_d00df cJ5_ensureCapacityInternal_d00df 3 none 1 := ⟨WS_of 1344 (by decide +kernel), List.mem_of_getElem? (i := 0) rfl, WS_of 971 (by decide +kernel), WS_of 35 (by decide +kernel), WS_of 972 (by decide +kernel), ⟨by decide +kernel, by decide +kernel, by decide +kernel⟩⟩
