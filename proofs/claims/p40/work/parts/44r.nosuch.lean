/-! NoSuchElementException in the class -/
abbrev rxN : ByteArray := prog_38_method_4_code
theorem xN : decode rxN 0 = .ok (.aload_n 0, 1) ∧ decode rxN 1 = .ok (.aload_n 1, 1) ∧ decode rxN 2 = .ok (.invokespecial 13, 3) ∧ decode rxN 5 = .ok (.return_, 1) := ⟨by decide +kernel, by decide +kernel, by decide +kernel, by decide +kernel⟩
def thwN (own : String) (ik ic : Nat) (cls : String) : List Cond := Cond.classLink own ik cls :: Cond.initialized cls :: nx_at own ic cls 13 rxN nmsX
def thbN (own : String) (ik ic : Nat) (cls : String) : Bool := (thwN own ik ic cls).all fun w => vx_ot w && ((goodWord w && lw_tbl.any (fun v => decide (v = w))) || (!goodWord w && ([Cond.castable cls cls, .declares ⟨"java/lang/RuntimeException", "<init>", "(Ljava/lang/String;)V"⟩, .declares ⟨"java/lang/Exception", "<init>", "(Ljava/lang/String;)V"⟩, .declares ⟨"java/lang/Throwable", "<init>", "(Ljava/lang/String;)V"⟩]).any (fun v => decide (v = w))))
def ThN (own : String) (ik ic : Nat) (cls : String) : Prop := thbN own ik ic cls = true ∧ Bundle.fit cls = true ∧ nmsX.all Bundle.fit = true ∧ cls ∈ ["java/lang/IllegalArgumentException", "java/lang/IndexOutOfBoundsException", "java/util/NoSuchElementException", "java/lang/IllegalStateException", "java/lang/UnsupportedOperationException"]
theorem ThN.at {own : String} {ik ic : Nat} {cls : String} (h : ThN own ik ic cls) {args : Array Value} {s : State} (hW : ∀ w ∈ WS, w.before args s = true) (hK : Kt2 s) : ∀ w ∈ thwN own ik ic cls, w.before args s = true ∧ vx_ot w = true := by
  intro w hw
  have q := List.all_eq_true.mp h.1 w hw
  simp only [Bool.and_eq_true, Bool.or_eq_true] at q
  obtain ⟨q3, q | q⟩ := q
  · obtain ⟨v, hv, he⟩ := List.any_eq_true.mp q.2
    have e := of_decide_eq_true he
    subst e
    exact ⟨hW _ (List.mem_filter.mpr ⟨hv, q.1⟩), q3⟩
  · obtain ⟨v, hv, he⟩ := List.any_eq_true.mp q.2
    have e := of_decide_eq_true he
    subst e
    refine ⟨?_, q3⟩
    simp only [List.mem_cons, List.not_mem_nil, or_false] at hv
    rcases hv with rfl | rfl | rfl | rfl
    · exact va_Nw.use rfl (hK.2.2.2.1 cls h.2.2.2)
    · exact va_Nw.use rfl hK.1
    · exact va_Nw.use rfl hK.2.1
    · exact va_Nw.use rfl hK.2.2.1
set_option maxRecDepth 100000 in
theorem th_222 : ThN RX8 222 226 "java/util/NoSuchElementException" := ⟨by decide +kernel, by decide +kernel, by decide +kernel, by decide⟩
section THROWN
variable {Γ : Ga} {p : Program} {l : Launch} {e : Env} {R : Room} {s : State} {m : MethodId} {args : Array Value} {below : List Frame} {meth : Method} {c : Code} {Q : State → Prop} {n ce sl : Nat} {cc : ByteArray} {own : String} {nL pc pc' idx a kk k : Nat} {L : List (Option Value)} {S : List Value} {ω : Wo}
theorem j_throwNW {ik is ic mx sx mc ms D : Nat} {cls text : String} {p1 p2 p3 p4 p5 : Nat} {Qc : Array Value → State → Outcome → State → Prop} {X : String → Wo → Prop} (hsl : l.stackTraces = false) (C : Cx Γ p l s m args meth c cc RX8 nL) (hK : Kt2 s) (hx : ∀ x ∈ c.exceptionTable.toList, False) (hT : ThN RX8 ik ic cls) (hs : (is, text) ∈ strL) (hL : L.length = nL)
    (d0 : Dx cc pc (.new ik) 3 p1) (d3 : Dx cc p1 .dup 1 p2) (d4 : Dx cc p2 (.ldc_w is) 3 p3) (d7 : Dx cc p3 (.invokespecial ic) 3 p4) (d10 : Dx cc p4 .athrow 1 p5) (hD : 6 ≤ D) (hcat : (S.map fun v => v.category).sum ≤ 8) (hm : ce + 1 ≤ mx ∧ sl + 6 ≤ sx) (hc : ce + 1 ≤ mc ∧ sl + 6 ≤ ms) (hX : X cls ω) :
    J Γ p l e (rmk D mx sx) s m args below meth c (vx_MQ below Qc (XX Γ X) args s mc ms (gA Γ)) 243 ce sl pc L S ω := by
  intro H locs ls hP hS hl
  obtain ⟨e0, rfl⟩ := d0
  obtain ⟨e3, rfl⟩ := d3
  obtain ⟨e4, rfl⟩ := d4
  obtain ⟨e7, rfl⟩ := d7
  obtain ⟨e10, -⟩ := d10
  obtain ⟨sa, hsa⟩ := C.2.2.2.2.2.1.2.2.2.2.1 _ hs
  have hat := hT.at C.2.2.2.2.1 hK
  have hKs := C.2.2.2.2.2.1.2.1
  refine nx_throwSW (ix := 13) (rx := rxN) (names := nmsX) (ik := ik) (is := is) (ic := ic) (sa := sa) (cls := cls) (text := text) (A := gA Γ) C.1 C.2.1 hsl xN.1 xN.2.1 xN.2.2.1 xN.2.2.2 C.2.2.2.1 hT.2.1 (fun n hn => List.all_eq_true.mp hT.2.2.1 n hn) (hat _ List.mem_cons_self).1 (hat _ (List.mem_cons_of_mem _ List.mem_cons_self)).1 hsa
    (fun w hw => (hat w (List.mem_cons_of_mem _ (List.mem_cons_of_mem _ hw))).1) (fun w hw => (hat w hw).2) hKs.2.2.2.2.2.1 hKs.2.2.2.2.2.2.1 hS ?_ e0 e3 e4 e7 e10 (fun x hm => (hx x hm).elim) ?_ ?_ hm.1 hm.2 C.2.2.2.2.2.2 ?_ hS.2.2 hc.1 hc.2
  · exact (hl.1.trans hL).trans C.2.2.1.symm
  · show 2 + 3 < D
    omega
  · show _ + (13 * (2 + 1) + 43) ≤ 64 * D
    omega
  · intro t hv hz hq
    refine ⟨ω, trivial, ⟨hX, hP.more hq⟩, Nat.le_trans hS.1 hz, fun q h1 h2 => ?_⟩
    rw [hq q (Nat.lt_of_lt_of_le h1 hS.1)]; exact hS.2.1 q h1 h2
theorem j_throwN {ik is ic mx sx mc ms D : Nat} {cls text : String} {p1 p2 p3 p4 p5 : Nat} {Qc : Array Value → State → Outcome → State → Prop} {X : String → Wo → Prop} (hsl : l.stackTraces = false) (C : Cx Γ p l s m args meth c cc RX8 nL) (hK : Kt2 s) (hx : ∀ x ∈ c.exceptionTable.toList, False) (hT : ThN RX8 ik ic cls) (hs : (is, text) ∈ strL) (hL : L.length = nL)
    (d0 : Dx cc pc (.new ik) 3 p1) (d3 : Dx cc p1 .dup 1 p2) (d4 : Dx cc p2 (.ldc is) 2 p3) (d7 : Dx cc p3 (.invokespecial ic) 3 p4) (d10 : Dx cc p4 .athrow 1 p5) (hD : 6 ≤ D) (hcat : (S.map fun v => v.category).sum ≤ 8) (hm : ce + 1 ≤ mx ∧ sl + 6 ≤ sx) (hc : ce + 1 ≤ mc ∧ sl + 6 ≤ ms) (hX : X cls ω) :
    J Γ p l e (rmk D mx sx) s m args below meth c (vx_MQ below Qc (XX Γ X) args s mc ms (gA Γ)) 243 ce sl pc L S ω := by
  intro H locs ls hP hS hl
  obtain ⟨e0, rfl⟩ := d0
  obtain ⟨e3, rfl⟩ := d3
  obtain ⟨e4, rfl⟩ := d4
  obtain ⟨e7, rfl⟩ := d7
  obtain ⟨e10, -⟩ := d10
  obtain ⟨sa, hsa⟩ := C.2.2.2.2.2.1.2.2.2.2.1 _ hs
  have hat := hT.at C.2.2.2.2.1 hK
  have hKs := C.2.2.2.2.2.1.2.1
  refine nx_throwS (ix := 13) (rx := rxN) (names := nmsX) (ik := ik) (is := is) (ic := ic) (sa := sa) (cls := cls) (text := text) (A := gA Γ) C.1 C.2.1 hsl xN.1 xN.2.1 xN.2.2.1 xN.2.2.2 C.2.2.2.1 hT.2.1 (fun n hn => List.all_eq_true.mp hT.2.2.1 n hn) (hat _ List.mem_cons_self).1 (hat _ (List.mem_cons_of_mem _ List.mem_cons_self)).1 hsa
    (fun w hw => (hat w (List.mem_cons_of_mem _ (List.mem_cons_of_mem _ hw))).1) (fun w hw => (hat w hw).2) hKs.2.2.2.2.2.1 hKs.2.2.2.2.2.2.1 hS ?_ e0 e3 e4 e7 e10 (fun x hm => (hx x hm).elim) ?_ ?_ hm.1 hm.2 C.2.2.2.2.2.2 ?_ hS.2.2 hc.1 hc.2
  · exact (hl.1.trans hL).trans C.2.2.1.symm
  · show 2 + 3 < D
    omega
  · show _ + (13 * (2 + 1) + 43) ≤ 64 * D
    omega
  · intro t hv hz hq
    refine ⟨ω, trivial, ⟨hX, hP.more hq⟩, Nat.le_trans hS.1 hz, fun q h1 h2 => ?_⟩
    rw [hq q (Nat.lt_of_lt_of_le h1 hS.1)]; exact hS.2.1 q h1 h2
end THROWN
