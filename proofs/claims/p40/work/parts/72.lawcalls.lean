/-! calls of the law's own methods, and of the class from where the law has cells of its own -/
def PL (Γ : Ga) (n : Nat) (κ : Nat → Nat) (as : List Value) (ω : Wo) (Ex : State → Prop) : Array Value → State → Prop := fun a U => a = as.toArray ∧ (Kx Γ U ∧ Kt3 U) ∧ Rp Γ n ω U.heap κ ∧ Ex U
def ExS (Ex : State → Prop) : Prop := ∀ (U : State) (g : JFrame) (mk : MethodId) (a : Array Value), Ex U → Ex (U.calling g mk a)
theorem PL.blind {Γ : Ga} {n : Nat} {κ : Nat → Nat} {as : List Value} {ω : Wo} {Ex : State → Prop} (hE : ExS Ex) : FrameBlind (PL Γ n κ as ω Ex) := fun a U g mk h => ⟨h.1, ⟨h.2.1.1.calling g mk a, h.2.1.2.same rfl⟩, h.2.2.1, hE U g mk a h.2.2.2⟩
def CL (Γ : Ga) (l : Launch) (y : MethodName) (bytes : ByteArray) (maxL : Nat) (rt : FieldType) (d mc ms : Nat) (as : List Value) (ω : Wo) (n : Nat) (κ : Nat → Nat) (Ex : State → Prop) (Po : Int → Wo → Prop) : Prop :=
  Met l y (.code y bytes maxL (some rt) :: WS) (rmk d mc ms) (PL Γ n κ as ω Ex) (QI Γ Po n κ) mc ms (gA Γ)
def Ex0 : State → Prop := fun _ => True
theorem Ex0.ex : ExS Ex0 := fun _ _ _ _ h => h
/-- the law's script, as a state has it -/
def Sc (Γ : Ga) (b Ls : Nat) (xs : Nat → Int32) (U : State) : Prop := va_X b Ls xs U U.heap ∧ b < U.heap.size ∧ ¬ gA Γ b
theorem Sc.ex {Γ : Ga} {b Ls : Nat} {xs : Nat → Int32} : ExS (Sc Γ b Ls xs) := fun U g mk a h => ⟨va_X.moved (u := U) (Vm.Alike.refl _) h.1, h.2⟩
theorem Sc.next {Γ : Ga} {b Ls : Nat} {xs : Nat → Int32} {s U : State} {H : Heap} {locs : List Loc} (h : Sc Γ b Ls xs s) (hW : s.WarmedH U.vm) (hU : U.heap = H) (hS : va_S (gA Γ) s.heap H locs) : Sc Γ b Ls xs U :=
  ⟨by rw [hU]; exact (h.1.kept (hS.2.1 b h.2.1 h.2.2)).moved hW.alike, by rw [hU]; exact Nat.lt_of_lt_of_le h.2.1 hS.1, h.2.2⟩
theorem Sc.ren {Γ : Ga} {b Ls : Nat} {xs : Nat → Int32} {U : State} {nn : Nat → Nat} {h9 : Nat} (h : Sc Γ b Ls xs U) (hAB : ∀ q, gA (re Γ nn h9) q → gA Γ q) : Sc (re Γ nn h9) b Ls xs U := ⟨h.1, h.2.1, fun q => h.2.2 (hAB _ q)⟩
/-- a place above all that there is -/
def top (Γ : Ga) (H : Heap) : Nat := max (gH Γ) H.size
theorem top_le {Γ : Ga} {H : Heap} : ∀ q, gA (re Γ (gN Γ) (top Γ H)) q → gA Γ q := gA_re (Nat.le_max_left _ _)
theorem top_lt {Γ : Ga} {n : Nat} {ω : Wo} {H : Heap} {κ : Nat → Nat} (h : Rp Γ n ω H κ) : ∀ i, 243 + i < n → gN Γ i < top Γ H := fun i hi => by
  have h1 := h.lt hi
  have h2 := h.2.2.1.1
  rw [rl_nw (by omega)] at h1
  exact Nat.lt_of_lt_of_le h1 (Nat.le_max_right _ _)
section LAWCALLS
variable {κ : Nat → Nat} {Γ : Ga} {p : Program} {l : Launch} {e : Env} {R : Room} {s : State} {m : MethodId} {args : Array Value} {below : List Frame} {meth : Method} {c : Code} {Q : State → Prop} {n ce sl : Nat} {cc : ByteArray} {own : String} {nL pc pc' idx a kk k : Nat} {L : List (Option Value)} {S : List Value} {ω : Wo}
theorem MetL.ofJ {y : MethodName} {bytes : ByteArray} {maxL d mc ms k n : Nat} {ret : Option FieldType} {as : List Value} {Qc : Array Value → State → Outcome → State → Prop} {ω : Wo} {Ex : State → Prop} (L : List (Option Value)) (hy : plainName y.cls = true) (hk : maxL = as.length + k) (hL : L = as.map some ++ List.replicate k none) (hc : as.all (fun v => v.category == 1) = true)
    (body : ∀ p e s m args below meth c, Cx Γ p l s m args meth c bytes y.cls maxL → Kt3 s → Ex s → meth.sig.returnType = ret → J Γ p l e (rmk d mc ms) s m args below meth c (MQ below Qc args s mc ms (gA Γ)) n 0 0 0 L [] ω κ) :
    Met l y (.code y bytes maxL ret :: WS) (rmk d mc ms) (PL Γ n κ as ω Ex) Qc mc ms (gA Γ) := by
  refine Met.ofW (cc := bytes) (maxL := maxL) (ret := ret) hy rfl ?_
  intro p e s m args below meth c s₁ B hml hv
  obtain ⟨rfl, ⟨hK, hK3⟩, hR, hx⟩ := hv
  have hts : ∀ w ∈ (Cond.code y bytes maxL ret :: WS), w.before as.toArray s = true := atoms_spec B.pre
  have C : Cx Γ p l s m as.toArray meth c bytes y.cls maxL := ⟨B.exec, B.bytes, hml, findClass_of_methodNamed B.named, fun w hw => hts w (List.mem_cons_of_mem _ hw), hK, B.notSynchronized⟩
  have K := body p e s m as.toArray below meth c C hK3 hx B.returns
  have hlk := lk.entry hk hL hc
  rw [lg_entry_eq]
  exact K s.heap [] _ hR va_S.rf hlk
theorem runL {Γ' : Ga} {n' : Nat} {κ' : Nat → Nat} {ω' : Wo} {y : MethodName} {bytes : ByteArray} {maxL d D na mc ms mx sx : Nat} {ret : Option FieldType} {as : List Value} {Qc : Array Value → State → Outcome → State → Prop} {Ex : State → Prop} {H : Heap} {locs : List Loc} {ls : Array Slot} (C : Cx Γ p l s m args meth c cc own nL) (hK3 : Kt3 s)
    (hM : Met l y (.code y bytes maxL ret :: WS) (rmk d mc ms) (PL Γ' n' κ' as ω' Ex) Qc mc ms (gA Γ')) (hEx : ExS Ex) (O : Os y bytes maxL ret na) (K : Lk own idx y) (hD : d + 1 ≤ D ∧ maxL ≤ 40) (hn : as.length = na) (dd : decode cc pc = .ok (.invokestatic idx, 3)) (hL : L.length = nL) (hcat : (S.map fun v => v.category).sum ≤ 8) (hce : ce + mc ≤ mx ∧ sl + ms ≤ sx)
    (hU : ∀ U : State, U.heap = H → s.WarmedH U.vm → Kx Γ' U ∧ Ex U) (hP : Rp Γ' n' ω' H κ') (hl : lk ls L) :
    va_Run p l e (rmk D mx sx) s m args below meth c H locs ce sl mc ms (F0 m pc ls (as.reverse ++ S)) S (Qc as.toArray) (gA Γ') := by
  obtain ⟨o1, o3, o4, o5⟩ := O
  refine va_runS (Ts := WS) (n := na) ⟨C.1, C.2.1, C.2.2.1, C.2.2.2.1, C.2.2.2.2.1⟩ hM ⟨callB_of na C.2.2.2.2.1 (inWS o4) rfl rfl rfl (C.2.2.2.2.1 _ o3) (C.2.2.2.2.1 _ K) o5 ⟨hD.1, ?_⟩, C.2.2.2.2.1 _ o1⟩ ⟨PL.blind hEx, ?_⟩ rfl hn (hl.1.trans hL) rfl (lv_room hcat) dd ⟨hce.1, hce.2⟩
  · show 8 + (maxL + 11) + 64 * d ≤ 64 * D
    omega
  · intro U hU2 hW
    exact ⟨rfl, ⟨(hU U hU2 hW).1, hK3.warm hW⟩, by rw [hU2]; exact hP, (hU U hU2 hW).2⟩
/-- a method of the law that leaves its own cells to the callee -/
theorem j_cL {y : MethodName} {bytes : ByteArray} {maxL d D na mc ms mx sx : Nat} {rt : FieldType} {as : List Value} {Po : Int → Wo → Prop} {Ex : State → Prop} (C : Cx Γ p l s m args meth c cc own nL) (hK3 : Kt3 s) (hM : CL Γ l y bytes maxL rt d mc ms as ω n κ Ex Po) (hEx : ExS Ex) (hE : ∀ (H : Heap) (locs : List Loc) (U : State), Rp Γ n ω H κ → va_S (gA Γ) s.heap H locs → U.heap = H → s.WarmedH U.vm → Ex U)
    (O : Os y bytes maxL (some rt) na) (K : Lk own idx y) (hD : d + 1 ≤ D ∧ maxL ≤ 40) (hn : as.length = na) (hL : L.length = nL) (hcat : (S.map fun v => v.category).sum ≤ 8) (hce : ce + mc ≤ mx ∧ sl + ms ≤ sx) (dd : Dx cc pc (.invokestatic idx) 3 pc')
    (kx : ∀ (z : Int) (ω' : Wo), Rg z → Po z ω' → J Γ p l e (rmk D mx sx) s m args below meth c Q n (ce + mc) (sl + ms) pc' L (.int (iI z) :: S) ω' κ) : J Γ p l e (rmk D mx sx) s m args below meth c Q n ce sl pc L (as.reverse ++ S) ω κ := by
  intro H locs ls hP hS hl
  obtain ⟨hd, rfl⟩ := dd
  refine va_calli (runL C hK3 hM hEx O K hD hn hd hL hcat hce (fun U hU hW => ⟨C.2.2.2.2.2.1.next hW hU hS, hE H locs U hP hS hU hW⟩) hP hl) hS (fun q _ h => h) (fun q h => h) (fun r ω' t H1 locs1 ht hvm hpo hB _ _ hS1 => ?_)
  obtain ⟨z, rfl, hz0, hz⟩ := hpo
  have hB : Rp Γ n ω' t.heap κ := hB
  rw [ht] at hB
  exact kx z ω' hz0 hz H1 locs1 ls hB hS1 hl
/-- a method of the law that sees the run's cells alone -/
theorem j_cM {y : MethodName} {bytes : ByteArray} {maxL d D na mc ms mx sx : Nat} {rt : FieldType} {as : List Value} {Po : Int → Wo → Prop} (C : Cx Γ p l s m args meth c cc own nL) (hK3 : Kt3 s) (hn9 : 243 ≤ n) (hκ : Kl κ n) (hM : ∀ h, CL (re Γ (gN Γ) h) l y bytes maxL rt d mc ms as ω 243 kd Ex0 Po)
    (O : Os y bytes maxL (some rt) na) (K : Lk own idx y) (hD : d + 1 ≤ D ∧ maxL ≤ 40) (hn : as.length = na) (hL : L.length = nL) (hcat : (S.map fun v => v.category).sum ≤ 8) (hce : ce + mc ≤ mx ∧ sl + ms ≤ sx) (dd : Dx cc pc (.invokestatic idx) 3 pc')
    (kx : ∀ (z : Int) (ω' : Wo), Rg z → Po z ω' → J Γ p l e (rmk D mx sx) s m args below meth c Q n (ce + mc) (sl + ms) pc' L (.int (iI z) :: S) (mxw ω' ω) κ) : J Γ p l e (rmk D mx sx) s m args below meth c Q n ce sl pc L (as.reverse ++ S) ω κ := by
  intro H locs ls hP hS hl
  obtain ⟨hd, rfl⟩ := dd
  have hA := top_le (Γ := Γ) (H := H)
  refine va_calli (runL C hK3 (hM (top Γ H)) Ex0.ex O K hD hn hd hL hcat hce (fun U hU hW => ⟨(C.2.2.2.2.2.1.next hW hU hS).ren hA, trivial⟩) (hP.sub hn9 hκ _ _) hl) hS (fun q _ h => hA q h) (fun q h => hA q h) (fun r ω' t H1 locs1 ht hvm hpo hB _ hk hS1 => ?_)
  obtain ⟨z, rfl, hz0, hz⟩ := hpo
  have hB : Rp (re Γ (gN Γ) (top Γ H)) 243 ω' t.heap := hB
  rw [ht] at hB
  exact kx z ω' hz0 hz H1 locs1 ls (hP.join hκ hB hk (top_lt hP)) hS1 hl
/-- a wrapper -/
theorem j_cMW {y : MethodName} {bytes : ByteArray} {maxL d D na mx sx k : Nat} {hh : List (Nat × Nat × Nat × Nat)} {as : List Value} {Po : Int → Wo → Prop} (C : Cx Γ p l s m args meth c cc own nL) (hK3 : Kt3 s) (hn9 : 243 ≤ n) (hκ : Kl κ n) (hM : ∀ h, CW (re Γ (gN Γ) h) l y bytes maxL hh d k as ω Po) (O : Ow y bytes maxL hh na) (K : Lk own idx y) (hD : d + 1 ≤ D ∧ maxL ≤ 40) (hn : as.length = na) (hL : L.length = nL) (hcat : (S.map fun v => v.category).sum ≤ 8) (hce : ce + k ≤ mx ∧ sl + 6 * k ≤ sx) (dd : Dx cc pc (.invokestatic idx) 3 pc')
    (kx : ∀ (z : Int) (ω' : Wo), Rg z → Po z ω' → J Γ p l e (rmk D mx sx) s m args below meth c Q n (ce + k) (sl + 6 * k) pc' L (.int (iI z) :: S) (mxw ω' ω) κ) : J Γ p l e (rmk D mx sx) s m args below meth c Q n ce sl pc L (as.reverse ++ S) ω κ := by
  intro H locs ls hP hS hl
  obtain ⟨hd, rfl⟩ := dd
  obtain ⟨o1, o2, o3, o4⟩ := O
  have hA := top_le (Γ := Γ) (H := H)
  have hG : GoodIn WS (.codeWith y bytes maxL (some .int) hh :: WS) := WS_in fun w hw => (List.mem_cons.mp hw).elim (fun q => q ▸ o3) (fun q => q)
  have hr : va_Run p l e (rmk D mx sx) s m args below meth c H locs ce sl k (6 * k) (F0 m pc ls (as.reverse ++ S)) S (QI (re Γ (gN Γ) (top Γ H)) Po 243 kd as.toArray) (gA (re Γ (gN Γ) (top Γ H))) := by
    refine vx_runSW (Ts := WS) (n := na) (hh := hh) ⟨C.1, C.2.1, C.2.2.1, C.2.2.2.1, C.2.2.2.2.1⟩ (hM (top Γ H)) (vx_cwSW na C.2.2.2.2.1 ?_ rfl rfl rfl o4 ⟨hD.1, ?_⟩) ⟨Pcw.blind, ?_⟩ rfl hn (hl.1.trans hL) rfl (lv_room hcat) hd ⟨hce.1, hce.2⟩
    · intro w hw
      unfold va_wsS at hw
      rcases List.mem_append.mp hw with h | h
      · simp only [List.mem_cons, List.not_mem_nil, or_false] at h
        rcases h with rfl | rfl | rfl
        · exact WS_in (fun w hw => hw) _ K
        · exact WS_in (fun w hw => hw) _ o1
        · exact WS_in (fun w hw => hw) _ o2
      · exact hG w h
    · show 8 + (maxL + 11) + 64 * d ≤ 64 * D
      omega
    · intro U hU hW
      exact ⟨rfl, ⟨(C.2.2.2.2.2.1.next hW hU hS).ren hA, hK3.warm hW⟩, by rw [hU]; exact hP.sub hn9 hκ _ _⟩
  refine va_calli hr hS (fun q _ h => hA q h) (fun q h => hA q h) (fun r ω' t H1 locs1 ht hvm hpo hB _ hk hS1 => ?_)
  obtain ⟨z, rfl, hz0, hz⟩ := hpo
  have hB : Rp (re Γ (gN Γ) (top Γ H)) 243 ω' t.heap := hB
  rw [ht] at hB
  exact kx z ω' hz0 hz H1 locs1 ls (hP.join hκ hB hk (top_lt hP)) hS1 hl
/-- a method of the class that does not throw here -/
theorem j_cMX {y : MethodName} {bytes : ByteArray} {maxL d D na mx sx k : Nat} {rt : FieldType} {as : List Value} {Po : Int → Wo → Prop} {X : String → Wo → Prop} (C : Cx Γ p l s m args meth c cc own nL) (hK3 : Kt3 s) (hn9 : 243 ≤ n) (hκ : Kl κ n) (hM : ∀ h, XI (re Γ (gN Γ) h) l y bytes maxL rt d k (.ref (rl Γ 0) :: as) ω Po X) (O : Oc y bytes maxL (some rt) na) (K : Lk own idx y) (hrc : Rc 0 y) (hD : d + 1 ≤ D ∧ maxL ≤ 40) (hn : as.length = na) (hL : L.length = nL) (hcat : (S.map fun v => v.category).sum ≤ 8) (hce : ce + k ≤ mx ∧ sl + 6 * k ≤ sx) (dd : Dx cc pc (.invokevirtual idx) 3 pc')
    (kE : ∀ E ω', X E ω' → False) (kx : ∀ (z : Int) (ω' : Wo), Rg z → Po z ω' → J Γ p l e (rmk D mx sx) s m args below meth c Q n (ce + k) (sl + 6 * k) pc' L (.int (iI z) :: S) (mxw ω' ω) κ) : J Γ p l e (rmk D mx sx) s m args below meth c Q n ce sl pc L (as.reverse ++ .ref (rl Γ 0) :: S) ω κ := by
  intro H locs ls hP hS hl
  obtain ⟨hd, rfl⟩ := dd
  obtain ⟨⟨o1, o2⟩, o3, o4, o5⟩ := O
  obtain ⟨q, hq, hqc⟩ := hrc
  have hA := top_le (Γ := Γ) (H := H)
  have hP' := hP.sub hn9 hκ (gN Γ) (top Γ H)
  have hr : vx_Run p l e (rmk D mx sx) s m args below meth c H locs ce sl k (6 * k) (F0 m pc ls (as.reverse ++ .ref (rl Γ 0) :: S)) S (QI (re Γ (gN Γ) (top Γ H)) Po 243 kd (Value.ref (rl Γ 0) :: as).toArray) (XX (re Γ (gN Γ) (top Γ H)) X) (gA (re Γ (gN Γ) (top Γ H))) := by
    refine vx_runV (Ts := WS) (n := na) ⟨C.1, C.2.1, C.2.2.1, C.2.2.2.1, C.2.2.2.2.1⟩ (hM (top Γ H)) (C := y.cls) (cwV na C.2.2.2.2.1 ?_ rfl rfl rfl ⟨rfl, o5⟩ ⟨hD.1, ?_⟩) ⟨Pcy.blind, ?_, ?_⟩ rfl hn (hl.1.trans hL) rfl (lv_room hcat) hd ⟨hce.1, hce.2⟩
    · refine WS_in fun w hw => ?_
      unfold wsV at hw
      rcases List.mem_append.mp hw with h | h
      · simp only [List.mem_cons, List.not_mem_nil, or_false] at h
        rcases h with rfl | rfl | rfl | rfl
        · exact K
        · exact o1
        · exact o2
        · exact o3
      · exact (List.mem_cons.mp h).elim (fun q => q ▸ o4) (fun q => q)
    · show 8 + (maxL + 11) + 64 * d ≤ 64 * D
      omega
    · rw [← hqc]; exact Rp.recv (Γ := re Γ (gN Γ) (top Γ H)) C.2.2.2.2.2.1.1 hP' at_0 hq
    · intro U hU hW
      exact ⟨rfl, ⟨(C.2.2.2.2.2.1.next hW hU hS).ren hA, hK3.1.warm hW⟩, by rw [hU]; exact hP'⟩
  refine vx_calli hr hS (fun q _ h => hA q h) (fun q h => hA q h) (fun q _ h => hA q h) (fun E cl q9 ω' t H1 locs1 ht hvm _ hB _ _ hS1 h1 h2 h3 => (kE E ω' hB.1).elim) (fun r ω' t H1 locs1 ht hvm hpo hB _ hk hS1 => ?_)
  obtain ⟨z, rfl, hz0, hz⟩ := hpo
  have hB : Rp (re Γ (gN Γ) (top Γ H)) 243 ω' t.heap := hB
  rw [ht] at hB
  exact kx z ω' hz0 hz H1 locs1 ls (hP.join hκ hB hk (top_lt hP)) hS1 hl
theorem j_cMC {y : MethodName} {bytes : ByteArray} {maxL d D na mx sx : Nat} {rt : FieldType} {as : List Value} {Po : Int → Wo → Prop} (C : Cx Γ p l s m args meth c cc own nL) (hn9 : 243 ≤ n) (hκ : Kl κ n) (hM : ∀ h, CI (re Γ (gN Γ) h) l y bytes maxL rt d (.ref (rl Γ 0) :: as) ω Po) (O : Oc y bytes maxL (some rt) na) (K : Lk own idx y) (hrc : Rc 0 y) (hD : d + 1 ≤ D ∧ maxL ≤ 40) (hn : as.length = na) (hL : L.length = nL) (hcat : (S.map fun v => v.category).sum ≤ 8) (hce : ce ≤ mx ∧ sl ≤ sx) (dd : Dx cc pc (.invokevirtual idx) 3 pc')
    (kx : ∀ (z : Int) (ω' : Wo), Rg z → Po z ω' → J Γ p l e (rmk D mx sx) s m args below meth c Q n ce sl pc' L (.int (iI z) :: S) (mxw ω' ω) κ) : J Γ p l e (rmk D mx sx) s m args below meth c Q n ce sl pc L (as.reverse ++ .ref (rl Γ 0) :: S) ω κ := by
  intro H locs ls hP hS hl
  obtain ⟨hd, rfl⟩ := dd
  obtain ⟨⟨o1, o2⟩, o3, o4, o5⟩ := O
  obtain ⟨q, hq, hqc⟩ := hrc
  have hA := top_le (Γ := Γ) (H := H)
  have hP' := hP.sub hn9 hκ (gN Γ) (top Γ H)
  have hr : va_Run p l e (rmk D mx sx) s m args below meth c H locs ce sl 0 0 (F0 m pc ls (as.reverse ++ .ref (rl Γ 0) :: S)) S (QI (re Γ (gN Γ) (top Γ H)) Po 243 kd (Value.ref (rl Γ 0) :: as).toArray) (gA (re Γ (gN Γ) (top Γ H))) := by
    refine va_runV (Ts := WS) (n := na) ⟨C.1, C.2.1, C.2.2.1, C.2.2.2.1, C.2.2.2.2.1⟩ (hM (top Γ H)) (C := y.cls) (cwV na C.2.2.2.2.1 ?_ rfl rfl rfl ⟨rfl, o5⟩ ⟨hD.1, ?_⟩) ⟨Pcx.blind, ?_, ?_⟩ rfl hn (hl.1.trans hL) rfl (lv_room hcat) hd ⟨?_, ?_⟩
    · refine WS_in fun w hw => ?_
      unfold wsV at hw
      rcases List.mem_append.mp hw with h | h
      · simp only [List.mem_cons, List.not_mem_nil, or_false] at h
        rcases h with rfl | rfl | rfl | rfl
        · exact K
        · exact o1
        · exact o2
        · exact o3
      · exact (List.mem_cons.mp h).elim (fun q => q ▸ o4) (fun q => q)
    · show 8 + (maxL + 11) + 64 * d ≤ 64 * D
      omega
    · rw [← hqc]; exact Rp.recv (Γ := re Γ (gN Γ) (top Γ H)) C.2.2.2.2.2.1.1 hP' at_0 hq
    · intro U hU hW
      exact ⟨rfl, (C.2.2.2.2.2.1.next hW hU hS).ren hA, by rw [hU]; exact hP'⟩
    · show ce + 0 ≤ mx
      omega
    · show sl + 0 ≤ sx
      omega
  refine va_calli hr hS (fun q _ h => hA q h) (fun q h => hA q h) (fun r ω' t H1 locs1 ht hvm hpo hB _ hk hS1 => ?_)
  obtain ⟨z, rfl, hz0, hz⟩ := hpo
  have hB : Rp (re Γ (gN Γ) (top Γ H)) 243 ω' t.heap := hB
  rw [ht] at hB
  exact kx z ω' hz0 hz H1 locs1 ls (hP.join hκ hB hk (top_lt hP)) hS1 hl
/-- what holds at the start of a method of the law that makes cells beside the run's -/
def Ew (Γ : Ga) (n : Nat) (U : State) : Prop := U.heap.size + 243 = gN Γ 0 + n ∧ 243 ≤ n ∧ gH Γ = gN Γ 0 ∧ gB Γ + 243 ≤ gN Γ 0 ∧ (∀ i, gN Γ i = gN Γ 0 + i)
theorem Ew.ex {Γ : Ga} {n : Nat} : ExS (Ew Γ n) := fun _ _ _ _ h => h
theorem Ew.hw {Γ : Ga} {n : Nat} {s : State} (h : Ew Γ n s) : Hw Γ s n 0 := ⟨by have := h.1; omega, by have := h.2.1; omega, h.2.2⟩
end LAWCALLS
