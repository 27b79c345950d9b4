/-! the throws that the class makes; calls that may throw -/
set_option maxRecDepth 100000 in
theorem th_98 : Th RX8 98 102 "java/lang/IllegalArgumentException" := ⟨by decide +kernel, by decide +kernel, by decide +kernel, by decide⟩
set_option maxRecDepth 100000 in
theorem th_116 : Th RX8 116 120 "java/lang/IndexOutOfBoundsException" := ⟨by decide +kernel, by decide +kernel, by decide +kernel, by decide⟩
set_option maxRecDepth 100000 in
theorem th_276 : Th RX8 276 280 "java/lang/IllegalStateException" := ⟨by decide +kernel, by decide +kernel, by decide +kernel, by decide⟩
set_option maxRecDepth 100000 in
theorem th_303 : Th RX8 303 307 "java/lang/UnsupportedOperationException" := ⟨by decide +kernel, by decide +kernel, by decide +kernel, by decide⟩
section XCALLS
variable {Γ : Ga} {p : Program} {l : Launch} {e : Env} {R : Room} {s : State} {m : MethodId} {args : Array Value} {below : List Frame} {meth : Method} {c : Code} {Q : State → Prop} {n ce sl : Nat} {cc : ByteArray} {own : String} {nL pc pc' idx a kk k : Nat} {L : List (Option Value)} {S : List Value} {ω : Wo}
theorem j_xrunV {y : MethodName} {bytes : ByteArray} {maxL d D na mx sx mk sk : Nat} {ret : Option FieldType} {as : List Value} {Qc : Array Value → State → Outcome → State → Prop} {XC : String → State → State → Prop} {H : Heap} {locs : List Loc} {ls : Array Slot} (C : Cx Γ p l s m args meth c cc own nL) (hK2 : Kt2 s)
    (hM : vx_Met l y (.code y bytes maxL ret :: WS) (rmk d mk sk) (Pcy Γ (.ref (rl Γ a) :: as) ω) Qc XC mk sk (gA Γ)) (O : Oc y bytes maxL ret na) (K : Lk own idx y) (hrc : Rc kk y) (ha : At 243 a kk) (hD : d + 1 ≤ D ∧ maxL ≤ 40) (hn : as.length = na) (dd : decode cc pc = .ok (.invokevirtual idx, 3)) (hL : L.length = nL)
    (hcat : (S.map fun v => v.category).sum ≤ 8) (hce : ce + mk ≤ mx ∧ sl + sk ≤ sx) (hP : Rp Γ 243 ω H) (hS : va_S (gA Γ) s.heap H locs) (hl : lk ls L) :
    vx_Run p l e (rmk D mx sx) s m args below meth c H locs ce sl mk sk (F0 m pc ls (as.reverse ++ .ref (rl Γ a) :: S)) S (Qc (Value.ref (rl Γ a) :: as).toArray) XC (gA Γ) := by
  obtain ⟨⟨o1, o2⟩, o3, o4, o5⟩ := O
  obtain ⟨q, hq, hqc⟩ := hrc
  refine vx_runV (Ts := WS) (n := na) ⟨C.1, C.2.1, C.2.2.1, C.2.2.2.1, C.2.2.2.2.1⟩ hM (C := y.cls) (cwV na C.2.2.2.2.1 ?_ rfl rfl rfl ⟨rfl, o5⟩ ⟨hD.1, ?_⟩) ⟨Pcy.blind, ?_, ?_⟩ rfl hn (hl.1.trans hL) rfl (lv_room hcat) dd ⟨?_, ?_⟩
  · refine WS_in fun w hw => ?_
    unfold wsV at hw
    rcases List.mem_append.mp hw with h | h
    · simp only [List.mem_cons, List.not_mem_nil, or_false] at h
      rcases h with rfl | rfl | rfl | rfl
      · exact K
      · exact o1
      · exact o2
      · exact o3
    · exact (List.mem_cons.mp h).elim (fun q => q ▸ o4) (fun q => q)
  · show 8 + (maxL + 11) + 64 * d ≤ 64 * D
    omega
  · rw [← hqc]; exact Rp.recv C.2.2.2.2.2.1.1 hP ha hq
  · intro U hU hW
    exact ⟨rfl, ⟨C.2.2.2.2.2.1.next hW hU hS, hK2.warm hW⟩, by rw [hU]; exact hP⟩
  · exact hce.1
  · exact hce.2
theorem j_xkI {st : List Value} {as : List Value} {mk sk mc ms : Nat} {Qc : Array Value → State → Outcome → State → Prop} {Po : Int → Wo → Prop} {X X' : String → Wo → Prop} {H : Heap} {locs : List Loc} {ls : Array Slot} (C : Cx Γ p l s m args meth c cc own nL) (hxt : ∀ x ∈ c.exceptionTable.toList, False)
    (hr : vx_Run p l e R s m args below meth c H locs ce sl mk sk (F0 m pc ls st) S (QI Γ Po 243 kd as.toArray) (XX Γ X) (gA Γ)) (hS : va_S (gA Γ) s.heap H locs) (hl : lk ls L) (hmc : ce + mk ≤ mc ∧ sl + sk ≤ ms) (hX : ∀ E ω', X E ω' → X' E ω')
    (kx : ∀ (z : Int) (ω' : Wo), Rg z → Po z ω' → J Γ p l e R s m args below meth c (vx_MQ below Qc (XX Γ X') args s mc ms (gA Γ)) 243 (ce + mk) (sl + sk) (pc + 3) L (.int (iI z) :: S) ω') : W p l e R s m args below meth c H locs ce sl (vx_MQ below Qc (XX Γ X') args s mc ms (gA Γ)) (F0 m pc ls st) := by
  refine vx_calli hr hS (fun q _ h => h) (fun q h => h) (fun q _ h => h) (fun E cl q9 ω' t H1 locs1 ht hvm _ hB _ _ hS1 h1 h2 h3 => ?_) (fun r ω' t H1 locs1 ht hvm hpo hB _ _ hS1 => ?_)
  · have hB2 : Rp Γ 243 ω' t.heap := hB.2
    rw [ht] at hB2
    exact x_out C hxt (hX E ω' hB.1) hB2 hS1 h1 h2 h3 hmc
  · obtain ⟨z, rfl, hz0, hz⟩ := hpo
    have hB : Rp Γ 243 ω' t.heap := hB
    rw [ht] at hB
    exact kx z ω' hz0 hz H1 locs1 ls hB hS1 hl
theorem j_xkV {st : List Value} {as : List Value} {mk sk mc ms : Nat} {Qc : Array Value → State → Outcome → State → Prop} {Po : Wo → Prop} {X X' : String → Wo → Prop} {H : Heap} {locs : List Loc} {ls : Array Slot} (C : Cx Γ p l s m args meth c cc own nL) (hxt : ∀ x ∈ c.exceptionTable.toList, False)
    (hr : vx_Run p l e R s m args below meth c H locs ce sl mk sk (F0 m pc ls st) S (QV Γ Po 243 kd as.toArray) (XX Γ X) (gA Γ)) (hS : va_S (gA Γ) s.heap H locs) (hl : lk ls L) (hmc : ce + mk ≤ mc ∧ sl + sk ≤ ms) (hX : ∀ E ω', X E ω' → X' E ω')
    (kx : ∀ (ω' : Wo), Po ω' → J Γ p l e R s m args below meth c (vx_MQ below Qc (XX Γ X') args s mc ms (gA Γ)) 243 (ce + mk) (sl + sk) (pc + 3) L S ω') : W p l e R s m args below meth c H locs ce sl (vx_MQ below Qc (XX Γ X') args s mc ms (gA Γ)) (F0 m pc ls st) := by
  refine vx_callv hr hS (fun q _ h => h) (fun q h => h) (fun q _ h => h) (fun E cl q9 ω' t H1 locs1 ht hvm _ hB _ _ hS1 h1 h2 h3 => ?_) (fun ω' t H1 locs1 ht hvm hpo hB _ _ hS1 => ?_)
  · have hB2 : Rp Γ 243 ω' t.heap := hB.2
    rw [ht] at hB2
    exact x_out C hxt (hX E ω' hB.1) hB2 hS1 h1 h2 h3 hmc
  · have hB : Rp Γ 243 ω' t.heap := hB
    rw [ht] at hB
    exact kx ω' hpo H1 locs1 ls hB hS1 hl
theorem j_xVI0 {y : MethodName} {bytes : ByteArray} {maxL d D mx sx mc ms : Nat} {rt : FieldType} {Po : Int → Wo → Prop} {Qc : Array Value → State → Outcome → State → Prop} {X X' : String → Wo → Prop} (C : Cx Γ p l s m args meth c cc own nL) (hK2 : Kt2 s) (hxt : ∀ x ∈ c.exceptionTable.toList, False) (hM : XI Γ l y bytes maxL rt d k (.ref (rl Γ a) :: []) ω Po X) (O : Oc y bytes maxL (some rt) 0) (K : Lk own idx y) (hrc : Rc kk y) (ha : At 243 a kk) (hD : d + 1 ≤ D ∧ maxL ≤ 40) (hL : L.length = nL) (hcat : (S.map fun v => v.category).sum ≤ 8) (hce : ce + k ≤ mx ∧ sl + 6 * k ≤ sx) (hmc : ce + k ≤ mc ∧ sl + 6 * k ≤ ms) (dd : Dx cc pc (.invokevirtual idx) 3 pc') (hX : ∀ E ω', X E ω' → X' E ω') (kx : ∀ (z : Int) (ω' : Wo), Rg z → Po z ω' → J Γ p l e (rmk D mx sx) s m args below meth c (vx_MQ below Qc (XX Γ X') args s mc ms (gA Γ)) 243 (ce + k) (sl + 6 * k) pc' L (.int (iI z) :: S) ω') : J Γ p l e (rmk D mx sx) s m args below meth c (vx_MQ below Qc (XX Γ X') args s mc ms (gA Γ)) 243 ce sl pc L (.ref (rl Γ a) :: S) ω := by
  intro H locs ls hP hS hl
  obtain ⟨hd, rfl⟩ := dd
  exact j_xkI C hxt (j_xrunV (as := []) C hK2 hM O K hrc ha hD rfl hd hL hcat hce hP hS hl) hS hl hmc hX kx
theorem j_xVV0 {y : MethodName} {bytes : ByteArray} {maxL d D mx sx mc ms : Nat} {Po : Wo → Prop} {Qc : Array Value → State → Outcome → State → Prop} {X X' : String → Wo → Prop} (C : Cx Γ p l s m args meth c cc own nL) (hK2 : Kt2 s) (hxt : ∀ x ∈ c.exceptionTable.toList, False) (hM : XV Γ l y bytes maxL d k (.ref (rl Γ a) :: []) ω Po X) (O : Oc y bytes maxL none 0) (K : Lk own idx y) (hrc : Rc kk y) (ha : At 243 a kk) (hD : d + 1 ≤ D ∧ maxL ≤ 40) (hL : L.length = nL) (hcat : (S.map fun v => v.category).sum ≤ 8) (hce : ce + k ≤ mx ∧ sl + 6 * k ≤ sx) (hmc : ce + k ≤ mc ∧ sl + 6 * k ≤ ms) (dd : Dx cc pc (.invokevirtual idx) 3 pc') (hX : ∀ E ω', X E ω' → X' E ω') (kx : ∀ (ω' : Wo), Po ω' → J Γ p l e (rmk D mx sx) s m args below meth c (vx_MQ below Qc (XX Γ X') args s mc ms (gA Γ)) 243 (ce + k) (sl + 6 * k) pc' L (S) ω') : J Γ p l e (rmk D mx sx) s m args below meth c (vx_MQ below Qc (XX Γ X') args s mc ms (gA Γ)) 243 ce sl pc L (.ref (rl Γ a) :: S) ω := by
  intro H locs ls hP hS hl
  obtain ⟨hd, rfl⟩ := dd
  exact j_xkV C hxt (j_xrunV (as := []) C hK2 hM O K hrc ha hD rfl hd hL hcat hce hP hS hl) hS hl hmc hX kx
theorem j_xVI1 {y : MethodName} {bytes : ByteArray} {maxL d D mx sx mc ms : Nat} {rt : FieldType} {x1 : Value} {Po : Int → Wo → Prop} {Qc : Array Value → State → Outcome → State → Prop} {X X' : String → Wo → Prop} (C : Cx Γ p l s m args meth c cc own nL) (hK2 : Kt2 s) (hxt : ∀ x ∈ c.exceptionTable.toList, False) (hM : XI Γ l y bytes maxL rt d k (.ref (rl Γ a) :: [x1]) ω Po X) (O : Oc y bytes maxL (some rt) 1) (K : Lk own idx y) (hrc : Rc kk y) (ha : At 243 a kk) (hD : d + 1 ≤ D ∧ maxL ≤ 40) (hL : L.length = nL) (hcat : (S.map fun v => v.category).sum ≤ 8) (hce : ce + k ≤ mx ∧ sl + 6 * k ≤ sx) (hmc : ce + k ≤ mc ∧ sl + 6 * k ≤ ms) (dd : Dx cc pc (.invokevirtual idx) 3 pc') (hX : ∀ E ω', X E ω' → X' E ω') (kx : ∀ (z : Int) (ω' : Wo), Rg z → Po z ω' → J Γ p l e (rmk D mx sx) s m args below meth c (vx_MQ below Qc (XX Γ X') args s mc ms (gA Γ)) 243 (ce + k) (sl + 6 * k) pc' L (.int (iI z) :: S) ω') : J Γ p l e (rmk D mx sx) s m args below meth c (vx_MQ below Qc (XX Γ X') args s mc ms (gA Γ)) 243 ce sl pc L (x1 :: .ref (rl Γ a) :: S) ω := by
  intro H locs ls hP hS hl
  obtain ⟨hd, rfl⟩ := dd
  exact j_xkI C hxt (j_xrunV (as := [x1]) C hK2 hM O K hrc ha hD rfl hd hL hcat hce hP hS hl) hS hl hmc hX kx
theorem j_xVV1 {y : MethodName} {bytes : ByteArray} {maxL d D mx sx mc ms : Nat} {x1 : Value} {Po : Wo → Prop} {Qc : Array Value → State → Outcome → State → Prop} {X X' : String → Wo → Prop} (C : Cx Γ p l s m args meth c cc own nL) (hK2 : Kt2 s) (hxt : ∀ x ∈ c.exceptionTable.toList, False) (hM : XV Γ l y bytes maxL d k (.ref (rl Γ a) :: [x1]) ω Po X) (O : Oc y bytes maxL none 1) (K : Lk own idx y) (hrc : Rc kk y) (ha : At 243 a kk) (hD : d + 1 ≤ D ∧ maxL ≤ 40) (hL : L.length = nL) (hcat : (S.map fun v => v.category).sum ≤ 8) (hce : ce + k ≤ mx ∧ sl + 6 * k ≤ sx) (hmc : ce + k ≤ mc ∧ sl + 6 * k ≤ ms) (dd : Dx cc pc (.invokevirtual idx) 3 pc') (hX : ∀ E ω', X E ω' → X' E ω') (kx : ∀ (ω' : Wo), Po ω' → J Γ p l e (rmk D mx sx) s m args below meth c (vx_MQ below Qc (XX Γ X') args s mc ms (gA Γ)) 243 (ce + k) (sl + 6 * k) pc' L (S) ω') : J Γ p l e (rmk D mx sx) s m args below meth c (vx_MQ below Qc (XX Γ X') args s mc ms (gA Γ)) 243 ce sl pc L (x1 :: .ref (rl Γ a) :: S) ω := by
  intro H locs ls hP hS hl
  obtain ⟨hd, rfl⟩ := dd
  exact j_xkV C hxt (j_xrunV (as := [x1]) C hK2 hM O K hrc ha hD rfl hd hL hcat hce hP hS hl) hS hl hmc hX kx
theorem j_xVI2 {y : MethodName} {bytes : ByteArray} {maxL d D mx sx mc ms : Nat} {rt : FieldType} {x1 x2 : Value} {Po : Int → Wo → Prop} {Qc : Array Value → State → Outcome → State → Prop} {X X' : String → Wo → Prop} (C : Cx Γ p l s m args meth c cc own nL) (hK2 : Kt2 s) (hxt : ∀ x ∈ c.exceptionTable.toList, False) (hM : XI Γ l y bytes maxL rt d k (.ref (rl Γ a) :: [x1, x2]) ω Po X) (O : Oc y bytes maxL (some rt) 2) (K : Lk own idx y) (hrc : Rc kk y) (ha : At 243 a kk) (hD : d + 1 ≤ D ∧ maxL ≤ 40) (hL : L.length = nL) (hcat : (S.map fun v => v.category).sum ≤ 8) (hce : ce + k ≤ mx ∧ sl + 6 * k ≤ sx) (hmc : ce + k ≤ mc ∧ sl + 6 * k ≤ ms) (dd : Dx cc pc (.invokevirtual idx) 3 pc') (hX : ∀ E ω', X E ω' → X' E ω') (kx : ∀ (z : Int) (ω' : Wo), Rg z → Po z ω' → J Γ p l e (rmk D mx sx) s m args below meth c (vx_MQ below Qc (XX Γ X') args s mc ms (gA Γ)) 243 (ce + k) (sl + 6 * k) pc' L (.int (iI z) :: S) ω') : J Γ p l e (rmk D mx sx) s m args below meth c (vx_MQ below Qc (XX Γ X') args s mc ms (gA Γ)) 243 ce sl pc L (x2 :: x1 :: .ref (rl Γ a) :: S) ω := by
  intro H locs ls hP hS hl
  obtain ⟨hd, rfl⟩ := dd
  exact j_xkI C hxt (j_xrunV (as := [x1, x2]) C hK2 hM O K hrc ha hD rfl hd hL hcat hce hP hS hl) hS hl hmc hX kx
theorem j_xVV2 {y : MethodName} {bytes : ByteArray} {maxL d D mx sx mc ms : Nat} {x1 x2 : Value} {Po : Wo → Prop} {Qc : Array Value → State → Outcome → State → Prop} {X X' : String → Wo → Prop} (C : Cx Γ p l s m args meth c cc own nL) (hK2 : Kt2 s) (hxt : ∀ x ∈ c.exceptionTable.toList, False) (hM : XV Γ l y bytes maxL d k (.ref (rl Γ a) :: [x1, x2]) ω Po X) (O : Oc y bytes maxL none 2) (K : Lk own idx y) (hrc : Rc kk y) (ha : At 243 a kk) (hD : d + 1 ≤ D ∧ maxL ≤ 40) (hL : L.length = nL) (hcat : (S.map fun v => v.category).sum ≤ 8) (hce : ce + k ≤ mx ∧ sl + 6 * k ≤ sx) (hmc : ce + k ≤ mc ∧ sl + 6 * k ≤ ms) (dd : Dx cc pc (.invokevirtual idx) 3 pc') (hX : ∀ E ω', X E ω' → X' E ω') (kx : ∀ (ω' : Wo), Po ω' → J Γ p l e (rmk D mx sx) s m args below meth c (vx_MQ below Qc (XX Γ X') args s mc ms (gA Γ)) 243 (ce + k) (sl + 6 * k) pc' L (S) ω') : J Γ p l e (rmk D mx sx) s m args below meth c (vx_MQ below Qc (XX Γ X') args s mc ms (gA Γ)) 243 ce sl pc L (x2 :: x1 :: .ref (rl Γ a) :: S) ω := by
  intro H locs ls hP hS hl
  obtain ⟨hd, rfl⟩ := dd
  exact j_xkV C hxt (j_xrunV (as := [x1, x2]) C hK2 hM O K hrc ha hD rfl hd hL hcat hce hP hS hl) hS hl hmc hX kx
theorem j_xVI3 {y : MethodName} {bytes : ByteArray} {maxL d D mx sx mc ms : Nat} {rt : FieldType} {x1 x2 x3 : Value} {Po : Int → Wo → Prop} {Qc : Array Value → State → Outcome → State → Prop} {X X' : String → Wo → Prop} (C : Cx Γ p l s m args meth c cc own nL) (hK2 : Kt2 s) (hxt : ∀ x ∈ c.exceptionTable.toList, False) (hM : XI Γ l y bytes maxL rt d k (.ref (rl Γ a) :: [x1, x2, x3]) ω Po X) (O : Oc y bytes maxL (some rt) 3) (K : Lk own idx y) (hrc : Rc kk y) (ha : At 243 a kk) (hD : d + 1 ≤ D ∧ maxL ≤ 40) (hL : L.length = nL) (hcat : (S.map fun v => v.category).sum ≤ 8) (hce : ce + k ≤ mx ∧ sl + 6 * k ≤ sx) (hmc : ce + k ≤ mc ∧ sl + 6 * k ≤ ms) (dd : Dx cc pc (.invokevirtual idx) 3 pc') (hX : ∀ E ω', X E ω' → X' E ω') (kx : ∀ (z : Int) (ω' : Wo), Rg z → Po z ω' → J Γ p l e (rmk D mx sx) s m args below meth c (vx_MQ below Qc (XX Γ X') args s mc ms (gA Γ)) 243 (ce + k) (sl + 6 * k) pc' L (.int (iI z) :: S) ω') : J Γ p l e (rmk D mx sx) s m args below meth c (vx_MQ below Qc (XX Γ X') args s mc ms (gA Γ)) 243 ce sl pc L (x3 :: x2 :: x1 :: .ref (rl Γ a) :: S) ω := by
  intro H locs ls hP hS hl
  obtain ⟨hd, rfl⟩ := dd
  exact j_xkI C hxt (j_xrunV (as := [x1, x2, x3]) C hK2 hM O K hrc ha hD rfl hd hL hcat hce hP hS hl) hS hl hmc hX kx
theorem j_xVV3 {y : MethodName} {bytes : ByteArray} {maxL d D mx sx mc ms : Nat} {x1 x2 x3 : Value} {Po : Wo → Prop} {Qc : Array Value → State → Outcome → State → Prop} {X X' : String → Wo → Prop} (C : Cx Γ p l s m args meth c cc own nL) (hK2 : Kt2 s) (hxt : ∀ x ∈ c.exceptionTable.toList, False) (hM : XV Γ l y bytes maxL d k (.ref (rl Γ a) :: [x1, x2, x3]) ω Po X) (O : Oc y bytes maxL none 3) (K : Lk own idx y) (hrc : Rc kk y) (ha : At 243 a kk) (hD : d + 1 ≤ D ∧ maxL ≤ 40) (hL : L.length = nL) (hcat : (S.map fun v => v.category).sum ≤ 8) (hce : ce + k ≤ mx ∧ sl + 6 * k ≤ sx) (hmc : ce + k ≤ mc ∧ sl + 6 * k ≤ ms) (dd : Dx cc pc (.invokevirtual idx) 3 pc') (hX : ∀ E ω', X E ω' → X' E ω') (kx : ∀ (ω' : Wo), Po ω' → J Γ p l e (rmk D mx sx) s m args below meth c (vx_MQ below Qc (XX Γ X') args s mc ms (gA Γ)) 243 (ce + k) (sl + 6 * k) pc' L (S) ω') : J Γ p l e (rmk D mx sx) s m args below meth c (vx_MQ below Qc (XX Γ X') args s mc ms (gA Γ)) 243 ce sl pc L (x3 :: x2 :: x1 :: .ref (rl Γ a) :: S) ω := by
  intro H locs ls hP hS hl
  obtain ⟨hd, rfl⟩ := dd
  exact j_xkV C hxt (j_xrunV (as := [x1, x2, x3]) C hK2 hM O K hrc ha hD rfl hd hL hcat hce hP hS hl) hS hl hmc hX kx
end XCALLS
