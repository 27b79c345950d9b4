/-! throws -/
abbrev nmsX : List String := ["java/lang/RuntimeException", "java/lang/Exception"]
def thw (own : String) (ik ic : Nat) (cls : String) : List Cond := Cond.classLink own ik cls :: Cond.initialized cls :: vx_atS own ic cls nmsX
def thb (own : String) (ik ic : Nat) (cls : String) : Bool := (thw own ik ic cls).all fun w => vx_ot w && ((goodWord w && lw_tbl.any (fun v => decide (v = w))) || (!goodWord w && ([Cond.castable cls cls, .declares ⟨"java/lang/RuntimeException", "<init>", "(Ljava/lang/String;)V"⟩, .declares ⟨"java/lang/Exception", "<init>", "(Ljava/lang/String;)V"⟩, .declares ⟨"java/lang/Throwable", "<init>", "(Ljava/lang/String;)V"⟩]).any (fun v => decide (v = w))))
/-- what a throw needs of the tables beside the words that keep -/
def Kt2 (U : State) : Prop := va_Nw (.declares ⟨"java/lang/RuntimeException", "<init>", "(Ljava/lang/String;)V"⟩) U ∧ va_Nw (.declares ⟨"java/lang/Exception", "<init>", "(Ljava/lang/String;)V"⟩) U ∧ va_Nw (.declares ⟨"java/lang/Throwable", "<init>", "(Ljava/lang/String;)V"⟩) U ∧
  (∀ q ∈ ["java/lang/IllegalArgumentException", "java/lang/IndexOutOfBoundsException", "java/util/NoSuchElementException", "java/lang/IllegalStateException", "java/lang/UnsupportedOperationException"], va_Nw (.castable q q) U) ∧ va_Nw (.declares ⟨"java/lang/Enum", "ordinal", "()I"⟩) U
theorem Kt2.warm {s U : State} (hW : s.WarmedH U.vm) (h : Kt2 s) : Kt2 U := ⟨va_Nw.warmD hW h.1, va_Nw.warmD hW h.2.1, va_Nw.warmD hW h.2.2.1, fun q hq => va_Nw.warmC hW (h.2.2.2.1 q hq), va_Nw.warmD hW h.2.2.2.2⟩
theorem Kt2.same {u U : State} (hv : u.vm = U.vm) (h : Kt2 u) : Kt2 U := ⟨va_Nw.same rfl hv h.1, va_Nw.same rfl hv h.2.1, va_Nw.same rfl hv h.2.2.1, fun q hq => va_Nw.same rfl hv (h.2.2.2.1 q hq), va_Nw.same rfl hv h.2.2.2.2⟩
def Th (own : String) (ik ic : Nat) (cls : String) : Prop := thb own ik ic cls = true ∧ Bundle.fit cls = true ∧ nmsX.all Bundle.fit = true ∧ cls ∈ ["java/lang/IllegalArgumentException", "java/lang/IndexOutOfBoundsException", "java/util/NoSuchElementException", "java/lang/IllegalStateException", "java/lang/UnsupportedOperationException"]
theorem Th.at {own : String} {ik ic : Nat} {cls : String} (h : Th own ik ic cls) {args : Array Value} {s : State} (hW : ∀ w ∈ WS, w.before args s = true) (hK : Kt2 s) : ∀ w ∈ thw own ik ic cls, w.before args s = true ∧ vx_ot w = true := by
  intro w hw
  have q := List.all_eq_true.mp h.1 w hw
  simp only [Bool.and_eq_true, Bool.or_eq_true] at q
  obtain ⟨q3, q | q⟩ := q
  · obtain ⟨v, hv, he⟩ := List.any_eq_true.mp q.2
    have e := of_decide_eq_true he
    subst e
    exact ⟨hW _ (List.mem_filter.mpr ⟨hv, q.1⟩), q3⟩
  · obtain ⟨v, hv, he⟩ := List.any_eq_true.mp q.2
    have e := of_decide_eq_true he
    subst e
    refine ⟨?_, q3⟩
    simp only [List.mem_cons, List.not_mem_nil, or_false] at hv
    rcases hv with rfl | rfl | rfl | rfl
    · exact va_Nw.use rfl (hK.2.2.2.1 cls h.2.2.2)
    · exact va_Nw.use rfl hK.1
    · exact va_Nw.use rfl hK.2.1
    · exact va_Nw.use rfl hK.2.2.1
/-- contracts of methods that return or throw -/
def XX (Γ : Ga) (X : String → Wo → Prop) : String → State → State → Prop := vx_X (S := Wo) (fun _ => True) (fun E ω' t => X E ω' ∧ Rp Γ 243 ω' t.heap) (gA Γ)
def Pcy (Γ : Ga) (as : List Value) (ω : Wo) : Array Value → State → Prop := fun a U => a = as.toArray ∧ (Kx Γ U ∧ Kt2 U) ∧ Rp Γ 243 ω U.heap
theorem Pcy.blind {Γ : Ga} {as : List Value} {ω : Wo} : FrameBlind (Pcy Γ as ω) := fun a U g mk h => ⟨h.1, ⟨h.2.1.1.calling g mk a, h.2.1.2.same rfl⟩, h.2.2⟩
def XI (Γ : Ga) (l : Launch) (y : MethodName) (bytes : ByteArray) (maxL : Nat) (rt : FieldType) (d k : Nat) (as : List Value) (ω : Wo) (Po : Int → Wo → Prop) (X : String → Wo → Prop) : Prop :=
  vx_Met l y (.code y bytes maxL (some rt) :: WS) (rmk d k (6 * k)) (Pcy Γ as ω) (QI Γ Po) (XX Γ X) k (6 * k) (gA Γ)
def XV (Γ : Ga) (l : Launch) (y : MethodName) (bytes : ByteArray) (maxL : Nat) (d k : Nat) (as : List Value) (ω : Wo) (Po : Wo → Prop) (X : String → Wo → Prop) : Prop :=
  vx_Met l y (.code y bytes maxL none :: WS) (rmk d k (6 * k)) (Pcy Γ as ω) (QV Γ Po) (XX Γ X) k (6 * k) (gA Γ)
section THROWS
variable {Γ : Ga} {p : Program} {l : Launch} {e : Env} {R : Room} {s : State} {m : MethodId} {args : Array Value} {below : List Frame} {meth : Method} {c : Code} {Q : State → Prop} {n ce sl : Nat} {cc : ByteArray} {own : String} {nL pc pc' idx a kk k : Nat} {L : List (Option Value)} {S : List Value} {ω : Wo}
theorem MetX.ofJ {y : MethodName} {bytes : ByteArray} {maxL d mc ms k : Nat} {ret : Option FieldType} {as : List Value} {Qc : Array Value → State → Outcome → State → Prop} {XC : String → State → State → Prop} (L : List (Option Value)) (hy : plainName y.cls = true) (hk : maxL = as.length + k) (hL : L = as.map some ++ List.replicate k none) (hc : as.all (fun v => v.category == 1) = true)
    (body : ∀ p e s m args below meth c, Cx Γ p l s m args meth c bytes y.cls maxL → Kt2 s → (∀ x ∈ c.exceptionTable.toList, False) → meth.sig.returnType = ret → J Γ p l e (rmk d mc ms) s m args below meth c (vx_MQ below Qc XC args s mc ms (gA Γ)) 243 0 0 0 L [] ω) :
    vx_Met l y (.code y bytes maxL ret :: WS) (rmk d mc ms) (Pcy Γ as ω) Qc XC mc ms (gA Γ) := by
  refine vx_ofW (cc := bytes) (maxL := maxL) (ret := ret) hy rfl ?_
  intro p e s m args below meth c s₁ B hml hx hv
  obtain ⟨rfl, ⟨hK, hK2⟩, hR⟩ := hv
  have hts : ∀ w ∈ (Cond.code y bytes maxL ret :: WS), w.before as.toArray s = true := atoms_spec B.pre
  have C : Cx Γ p l s m as.toArray meth c bytes y.cls maxL := ⟨B.exec, B.bytes, hml, findClass_of_methodNamed B.named, fun w hw => hts w (List.mem_cons_of_mem _ hw), hK, B.notSynchronized⟩
  have K := body p e s m as.toArray below meth c C hK2 hx B.returns
  have hlk := lk.entry hk hL hc
  rw [lg_entry_eq]
  exact K s.heap [] _ hR va_S.rf hlk
/-- the method returns -/
theorem j_xr {mc ms : Nat} {Qc : Array Value → State → Outcome → State → Prop} {XC : String → State → State → Prop} (h : ce ≤ mc ∧ sl ≤ ms) (kk : J Γ p l e R s m args below meth c (MQ below Qc args s mc ms (gA Γ)) n mc ms pc L S ω) : J Γ p l e R s m args below meth c (vx_MQ below Qc XC args s mc ms (gA Γ)) n ce sl pc L S ω := by
  intro H locs ls hP hS hl T hT X
  exact vx_ret (kk H locs ls hP hS hl) T hT (stand_widen X h.1 h.2)
/-- the method throws -/
theorem x_out {mc ms : Nat} {Qc : Array Value → State → Outcome → State → Prop} {X : String → Wo → Prop} {E : String} {cl : Cell} {q : Addr} {H : Heap} {locs : List Loc} {ls : Array Slot} {rest : List Value} (C : Cx Γ p l s m args meth c cc own nL) (hx : ∀ x ∈ c.exceptionTable.toList, False) (hX : X E ω) (hR : Rp Γ 243 ω H) (hS : va_S (gA Γ) s.heap H locs)
    (h1 : H[q]? = some cl) (h2 : cl.vm = .none) (h3 : s.vm.findClass E = some cl.cls) (h : ce ≤ mc ∧ sl ≤ ms) : vx_W p l e R s m args below meth c H locs ce sl (vx_MQ below Qc (XX Γ X) args s mc ms (gA Γ)) (F0 m pc ls rest) q :=
  vx_out (fun x hm => (hx x hm).elim) C.2.2.2.2.2.2 h1 h2 h3 (fun t ht _ => ⟨ω, trivial, ⟨hX, by rw [ht]; exact hR⟩, hS.F ht⟩) hS.2.2 h.1 h.2
theorem Rp.more {H H1 : Heap} (h : Rp Γ 243 ω H) (hq : ∀ q : Nat, q < H.size → H1[q]? = H[q]?) : Rp Γ 243 ω H1 :=
  ⟨h.1.kept fun k x hx => hq x.1 ((h.1 k x hx).lt), h.2⟩
theorem j_throwW {ik is ic mx sx mc ms D : Nat} {cls text : String} {p1 p2 p3 p4 p5 : Nat} {Qc : Array Value → State → Outcome → State → Prop} {X : String → Wo → Prop} (hsl : l.stackTraces = false) (C : Cx Γ p l s m args meth c cc RX8 nL) (hK : Kt2 s) (hx : ∀ x ∈ c.exceptionTable.toList, False) (hT : Th RX8 ik ic cls) (hs : (is, text) ∈ strL) (hL : L.length = nL)
    (d0 : Dx cc pc (.new ik) 3 p1) (d3 : Dx cc p1 .dup 1 p2) (d4 : Dx cc p2 (.ldc_w is) 3 p3) (d7 : Dx cc p3 (.invokespecial ic) 3 p4) (d10 : Dx cc p4 .athrow 1 p5) (hD : 6 ≤ D) (hcat : (S.map fun v => v.category).sum ≤ 8) (hm : ce + 1 ≤ mx ∧ sl + 6 ≤ sx) (hc : ce + 1 ≤ mc ∧ sl + 6 ≤ ms) (hX : X cls ω) :
    J Γ p l e (rmk D mx sx) s m args below meth c (vx_MQ below Qc (XX Γ X) args s mc ms (gA Γ)) 243 ce sl pc L S ω := by
  intro H locs ls hP hS hl
  obtain ⟨e0, rfl⟩ := d0
  obtain ⟨e3, rfl⟩ := d3
  obtain ⟨e4, rfl⟩ := d4
  obtain ⟨e7, rfl⟩ := d7
  obtain ⟨e10, -⟩ := d10
  obtain ⟨sa, hsa⟩ := C.2.2.2.2.2.1.2.2.2.2.1 _ hs
  have hat := hT.at C.2.2.2.2.1 hK
  have hKs := C.2.2.2.2.2.1.2.1
  refine vx_throwSW (names := nmsX) (ik := ik) (is := is) (ic := ic) (sa := sa) (cls := cls) (text := text) (A := gA Γ) C.1 C.2.1 hsl C.2.2.2.1 hT.2.1 (fun n hn => List.all_eq_true.mp hT.2.2.1 n hn) (hat _ List.mem_cons_self).1 (hat _ (List.mem_cons_of_mem _ List.mem_cons_self)).1 hsa
    (fun w hw => (hat w (List.mem_cons_of_mem _ (List.mem_cons_of_mem _ hw))).1) (fun w hw => (hat w hw).2) hKs.2.2.2.2.2.1 hKs.2.2.2.2.2.2.1 hS ?_ e0 e3 e4 e7 e10 (fun x hm => (hx x hm).elim) ?_ ?_ hm.1 hm.2 C.2.2.2.2.2.2 ?_ hS.2.2 hc.1 hc.2
  · exact (hl.1.trans hL).trans C.2.2.1.symm
  · show 2 + 3 < D
    omega
  · show _ + (13 * (2 + 1) + 43) ≤ 64 * D
    omega
  · intro t hv hz hq
    refine ⟨ω, trivial, ⟨hX, hP.more hq⟩, Nat.le_trans hS.1 hz, fun q h1 h2 => ?_⟩
    rw [hq q (Nat.lt_of_lt_of_le h1 hS.1)]; exact hS.2.1 q h1 h2
theorem j_throw {ik is ic mx sx mc ms D : Nat} {cls text : String} {p1 p2 p3 p4 p5 : Nat} {Qc : Array Value → State → Outcome → State → Prop} {X : String → Wo → Prop} (hsl : l.stackTraces = false) (C : Cx Γ p l s m args meth c cc RX8 nL) (hK : Kt2 s) (hx : ∀ x ∈ c.exceptionTable.toList, False) (hT : Th RX8 ik ic cls) (hs : (is, text) ∈ strL) (hL : L.length = nL)
    (d0 : Dx cc pc (.new ik) 3 p1) (d3 : Dx cc p1 .dup 1 p2) (d4 : Dx cc p2 (.ldc is) 2 p3) (d7 : Dx cc p3 (.invokespecial ic) 3 p4) (d10 : Dx cc p4 .athrow 1 p5) (hD : 6 ≤ D) (hcat : (S.map fun v => v.category).sum ≤ 8) (hm : ce + 1 ≤ mx ∧ sl + 6 ≤ sx) (hc : ce + 1 ≤ mc ∧ sl + 6 ≤ ms) (hX : X cls ω) :
    J Γ p l e (rmk D mx sx) s m args below meth c (vx_MQ below Qc (XX Γ X) args s mc ms (gA Γ)) 243 ce sl pc L S ω := by
  intro H locs ls hP hS hl
  obtain ⟨e0, rfl⟩ := d0
  obtain ⟨e3, rfl⟩ := d3
  obtain ⟨e4, rfl⟩ := d4
  obtain ⟨e7, rfl⟩ := d7
  obtain ⟨e10, -⟩ := d10
  obtain ⟨sa, hsa⟩ := C.2.2.2.2.2.1.2.2.2.2.1 _ hs
  have hat := hT.at C.2.2.2.2.1 hK
  have hKs := C.2.2.2.2.2.1.2.1
  refine vx_throwS (names := nmsX) (ik := ik) (is := is) (ic := ic) (sa := sa) (cls := cls) (text := text) (A := gA Γ) C.1 C.2.1 hsl C.2.2.2.1 hT.2.1 (fun n hn => List.all_eq_true.mp hT.2.2.1 n hn) (hat _ List.mem_cons_self).1 (hat _ (List.mem_cons_of_mem _ List.mem_cons_self)).1 hsa
    (fun w hw => (hat w (List.mem_cons_of_mem _ (List.mem_cons_of_mem _ hw))).1) (fun w hw => (hat w hw).2) hKs.2.2.2.2.2.1 hKs.2.2.2.2.2.2.1 hS ?_ e0 e3 e4 e7 e10 (fun x hm => (hx x hm).elim) ?_ ?_ hm.1 hm.2 C.2.2.2.2.2.2 ?_ hS.2.2 hc.1 hc.2
  · exact (hl.1.trans hL).trans C.2.2.1.symm
  · show 2 + 3 < D
    omega
  · show _ + (13 * (2 + 1) + 43) ≤ 64 * D
    omega
  · intro t hv hz hq
    refine ⟨ω, trivial, ⟨hX, hP.more hq⟩, Nat.le_trans hS.1 hz, fun q h1 h2 => ?_⟩
    rw [hq q (Nat.lt_of_lt_of_le h1 hS.1)]; exact hS.2.1 q h1 h2
end THROWS
