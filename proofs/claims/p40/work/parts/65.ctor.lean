/-! constructors: the run's cells grow -/
/-- arrays of the classes can be made -/
def Ka (U : State) : Prop := va_AO RX4 U ∧ va_AO RX1 U ∧ va_AO RX3 U ∧ va_AO RX7 U ∧ va_AO RX2 U
theorem Ka.X4 {U : State} (h : Ka U) : va_AO RX4 U := h.1
theorem Ka.X1 {U : State} (h : Ka U) : va_AO RX1 U := h.2.1
theorem Ka.X3 {U : State} (h : Ka U) : va_AO RX3 U := h.2.2.1
theorem Ka.X7 {U : State} (h : Ka U) : va_AO RX7 U := h.2.2.2.1
theorem Ka.X2 {U : State} (h : Ka U) : va_AO RX2 U := h.2.2.2.2
theorem Ka.moved {u U : State} (hvm : u.vm.Alike U.vm) (h : Ka u) : Ka U := ⟨va_AO.moved hvm h.X4, va_AO.moved hvm h.X1, va_AO.moved hvm h.X3, va_AO.moved hvm h.X7, va_AO.moved hvm h.X2⟩
def KN (Γ : Ga) (n : Nat) (as : List Value) (ω : Wo) (κ : Nat → Nat := kd) : Array Value → State → Prop := fun a U => a = as.toArray ∧ (Kx Γ U ∧ Ka U) ∧ Rp Γ n ω U.heap κ ∧ U.heap.size = gB Γ + n ∧ gH Γ = gB Γ
theorem KN.blind {Γ : Ga} {n : Nat} {as : List Value} {ω : Wo} {κ : Nat → Nat} : FrameBlind (KN Γ n as ω κ) := fun a U g mk h => ⟨h.1, ⟨h.2.1.1.calling g mk a, h.2.1.2.moved (u := U) (U := U.calling g mk a) (Vm.Alike.refl U.vm)⟩, h.2.2⟩
def QN (Γ : Ga) (n : Nat) (Po : Wo → Prop) (κ : Nat → Nat := kd) : Array Value → State → Outcome → State → Prop := va_Qv Po (fun (ω' : Wo) (t : State) => Rp Γ n ω' t.heap κ) (gA Γ)
def CN (Γ : Ga) (l : Launch) (y : MethodName) (bytes : ByteArray) (maxL d mc ms : Nat) (as : List Value) (ω : Wo) (n : Nat) (Po : Wo → Prop) : Prop :=
  Met l y (.code y bytes maxL none :: WS) (rmk d mc ms) (KN Γ n as ω) (QN Γ (n + mc) Po) mc ms (gA Γ)
/-- how large the heap is -/
def Hz (Γ : Ga) (s : State) (n ce : Nat) : Prop := s.heap.size + ce = gB Γ + n ∧ ce ≤ n ∧ gH Γ = gB Γ
/-- the law's own cells lie one behind the other, behind all that was there -/
def Hw (Γ : Ga) (s : State) (n ce : Nat) : Prop := s.heap.size + ce + 243 = gN Γ 0 + n ∧ 243 + ce ≤ n ∧ gH Γ = gN Γ 0 ∧ gB Γ + 243 ≤ gN Γ 0 ∧ (∀ i, gN Γ i = gN Γ 0 + i)
/-- where the next cell comes to lie -/
def Hg (Γ : Ga) (s : State) (n ce : Nat) : Prop := s.heap.size + ce = rl Γ n ∧ (∀ q, gA Γ q → q < rl Γ n → ∃ j, j < n ∧ q = rl Γ j) ∧ (∀ q : Nat, s.heap.size ≤ q → gA Γ q) ∧ Nn Γ (n + 1)
theorem Hz.g {Γ : Ga} {s : State} {n ce : Nat} (h : Hz Γ s n ce) (hn : n < 243) : Hg Γ s n ce := by
  obtain ⟨h1, h2, h3⟩ := h
  have e := rl_lt (Γ := Γ) hn
  refine ⟨by omega, fun q hq hl => ?_, fun q hq => ?_, Nn.le (by omega)⟩
  · have hq : (gB Γ ≤ q ∧ q < gB Γ + 243) ∨ gH Γ ≤ q := hq
    exact ⟨q - gB Γ, by omega, by rw [rl_lt (by omega)]; omega⟩
  · show (gB Γ ≤ q ∧ q < gB Γ + 243) ∨ gH Γ ≤ q
    omega
theorem Hw.g {Γ : Ga} {s : State} {n ce : Nat} (h : Hw Γ s n ce) (hn : n < 1000) : Hg Γ s n ce := by
  obtain ⟨h1, h2, h3, h4, h5⟩ := h
  obtain ⟨i, rfl⟩ : ∃ i, n = 243 + i := ⟨n - 243, by omega⟩
  have e := rl_nw (Γ := Γ) (i := i) (by omega)
  have e5 := h5 i
  refine ⟨by omega, fun q hq hl => ?_, fun q hq => ?_, by omega, fun k hk => ?_⟩
  · have hq : (gB Γ ≤ q ∧ q < gB Γ + 243) ∨ gH Γ ≤ q := hq
    by_cases q1 : q < gB Γ + 243 ∧ gB Γ ≤ q
    · exact ⟨q - gB Γ, by omega, by rw [rl_lt (by omega)]; omega⟩
    · refine ⟨243 + (q - gN Γ 0), by omega, ?_⟩
      rw [rl_nw (by omega), h5]; omega
  · show (gB Γ ≤ q ∧ q < gB Γ + 243) ∨ gH Γ ≤ q
    omega
  · have := h5 k
    exact ⟨by omega, by omega, fun j hj => by have := h5 j; omega⟩
theorem Hw.at {Γ : Ga} {s : State} {n n' ce : Nat} (h : Hw Γ s n 0) (hn : n' = n + ce) : Hw Γ s n' ce := by
  obtain ⟨h1, h2, h3⟩ := h
  exact ⟨by omega, by omega, h3⟩
theorem WL_s (Γ : Ga) (n : Nat) (ω : Wo) (κ : Nat → Nat) : WL Γ (n + 1) ω κ = WL Γ n ω κ ++ [(rl Γ n, WE Γ ω n κ)] := by
  unfold WL; rw [List.range_succ, List.map_append]; rfl
theorem WL_len (Γ : Ga) (n : Nat) (ω : Wo) (κ : Nat → Nat) : (WL Γ n ω κ).length = n := by simp [WL]
section CTOR
variable {κ : Nat → Nat} {Γ : Ga} {p : Program} {l : Launch} {e : Env} {R : Room} {s : State} {m : MethodId} {args : Array Value} {below : List Frame} {meth : Method} {c : Code} {Q : State → Prop} {n ce sl : Nat} {cc : ByteArray} {own : String} {nL pc pc' idx a kk k : Nat} {L : List (Option Value)} {S : List Value} {ω : Wo}
theorem MetN.ofJ {y : MethodName} {bytes : ByteArray} {maxL d mc ms k n : Nat} {as : List Value} {Po : Wo → Prop} {ω : Wo} (L : List (Option Value)) (hy : plainName y.cls = true) (hin : y.name = "<init>") (hk : maxL = as.length + k) (hL : L = as.map some ++ List.replicate k none) (hc : as.all (fun v => v.category == 1) = true)
    (body : ∀ p e s m args below meth c, Cx Γ p l s m args meth c bytes y.cls maxL → meth.name = "<init>" → Ka s → Hz Γ s n 0 → meth.sig.returnType = none → J Γ p l e (rmk d mc ms) s m args below meth c (MQ below (QN Γ (n + mc) Po) args s mc ms (gA Γ)) n 0 0 0 L [] ω) :
    CN Γ l y bytes maxL d mc ms as ω n Po := by
  refine Met.ofW (cc := bytes) (maxL := maxL) (ret := none) hy rfl ?_
  intro p e s m args below meth c s₁ B hml hv
  obtain ⟨rfl, ⟨hK, hA⟩, hR, hsz⟩ := hv
  have hts : ∀ w ∈ (Cond.code y bytes maxL none :: WS), w.before as.toArray s = true := atoms_spec B.pre
  have C : Cx Γ p l s m as.toArray meth c bytes y.cls maxL := ⟨B.exec, B.bytes, hml, findClass_of_methodNamed B.named, fun w hw => hts w (List.mem_cons_of_mem _ hw), hK, B.notSynchronized⟩
  have K := body p e s m as.toArray below meth c C ((name_of_methodNamed B.named B.method).1.trans hin) hA ⟨by have := hsz.1; omega, Nat.zero_le _, hsz.2⟩ B.returns
  have hlk := lk.entry hk hL hc
  rw [lg_entry_eq]
  exact K s.heap [] _ hR va_S.rf hlk
theorem Hz.up {H : Heap} {T : State} {locs : List Loc} (h : Hz Γ s n ce) (X : Stand p l e R s m args below meth c T locs ce sl) (hT : T.heap = H) : H.size ≤ gB Γ + n := by
  have h1 := X.same.2.2.1
  have h2 : (T.setVm s.vm).heap = H := hT
  rw [h2] at h1
  have := h.1
  omega
theorem Hz.eq {H : Heap} {T : State} {locs : List Loc} (h : Hz Γ s n ce) (hn : 0 < n) (hn9 : n ≤ 243) (hP : Rp Γ n ω H κ) (X : Stand p l e R s m args below meth c T locs ce sl) (hT : T.heap = H) : H.size = gB Γ + n := by
  have h1 := h.up X hT
  have h2 := hP.lt (a := n - 1) (by omega)
  rw [rl_lt (by omega)] at h2
  omega
theorem Hw.eq {H : Heap} {T : State} {locs : List Loc} (h : Hw Γ s n ce) (hS : va_S (gA Γ) s.heap H locs) (hn9 : n ≤ 1000) (hP : Rp Γ n ω H κ) (X : Stand p l e R s m args below meth c T locs ce sl) (hT : T.heap = H) : H.size + 243 = gN Γ 0 + n := by
  have h1 := X.same.2.2.1
  have h2 : (T.setVm s.vm).heap = H := hT
  rw [h2] at h1
  have h0 := hS.1
  obtain ⟨q1, q2, q3, q4, q5⟩ := h
  by_cases hn : n = 243
  · omega
  · have h3 := hP.lt (a := n - 1) (by omega)
    obtain ⟨k, hk⟩ : ∃ k, n - 1 = 243 + k := ⟨n - 1 - 243, by omega⟩
    rw [hk, rl_nw (by omega)] at h3
    have := q5 k
    omega
/-- a new cell's address -/
theorem new_atG {q : Nat} {x : va_E} {H1 : Heap} {T : State} {locs : List Loc} (h : Hg Γ s n ce) (hP1 : va_P (gD Γ) clss (WL Γ n ω κ ++ [(q, x)]) H1) (hD1 : va_D (gA Γ) (WL Γ n ω κ ++ [(q, x)])) (X : Stand p l e R s m args below meth c T locs (ce + 1) sl) (hT : T.heap = H1) : q = rl Γ n := by
  have hg : (WL Γ n ω κ ++ [(q, x)])[n]? = some (q, x) := by rw [List.getElem?_append_right (by rw [WL_len]; exact Nat.le_refl _), WL_len]; simp
  have h1 : q < H1.size := (hP1 n _ hg).lt
  have h2 : gA Γ q := hD1.2 n _ hg
  have h3 := X.same.2.2.1
  have h4 : (T.setVm s.vm).heap = H1 := hT
  rw [h4] at h3
  have h5 := h.1
  refine Decidable.byContradiction fun hne => ?_
  obtain ⟨j, hj, e⟩ := h.2.1 q h2 (by omega)
  have hg2 : (WL Γ n ω κ ++ [(q, x)])[j]? = some (rl Γ j, WE Γ ω j κ) := by rw [List.getElem?_append_left (by rw [WL_len]; exact hj), WL_get hj]
  have := hD1.1 _ _ _ _ hg2 hg e.symm
  omega
theorem j_newG {Cn : String} {T : u_T} {ty : Nat → FieldType} (C : Cx Γ p l s m args meth c cc own nL) (hz : Hg Γ s n ce) (hc : clss[kk]? = some (Cn, T, nf kk)) (hin : ∀ w ∈ u_ws Cn T (nf kk), w ∈ WS) (hty : ∀ k, k < nf kk → parseFieldDescriptor (T k).2.2.1 = some (ty k)) (hcl : Cond.classLink own idx Cn ∈ WS) (hinst : Cond.instantiable Cn (nf kk) ∈ WS) (hini : Cond.initialized Cn ∈ WS) (hkd : κ n = kk) (hd0 : ∀ k, k < nf kk → defaultValue (ty k) = if rfm kk k then .null else .int 0) (hw1 : ω.1 n = fun _ => 0) (hw2 : ω.2.1 n = fun _ => none)
    (hcells : ce + 1 ≤ R.cells ∧ sl + nf kk ≤ R.slots) (d : Dx cc pc (.new idx) 3 pc') (kx : J Γ p l e R s m args below meth c Q (n + 1) (ce + 1) (sl + nf kk) pc' L (.ref (rl Γ n) :: S) ω κ) : J Γ p l e R s m args below meth c Q n ce sl pc L S ω κ := by
  intro H locs ls hP hS hl
  obtain ⟨hd, rfl⟩ := d
  have h9 : kk < 9 := (List.getElem?_eq_some_iff.mp hc).1
  have hfv : ∀ k, fv Γ ω kk n k = if rfm kk k then .null else .int 0 := by
    intro k
    unfold fv
    rw [hw1, hw2]; rfl
  refine va_new (ci := kk) (fs := (List.range (nf kk)).map (fv Γ ω kk n)) C.1 C.2.1 C.2.2.2.2.1 hin ty hty C.2.2.2.1 (C.2.2.2.2.1 _ hcl) (C.2.2.2.2.1 _ hinst) (C.2.2.2.2.1 _ hini) C.2.2.2.2.2.1.1 hP.1 hP.D hS (fun q hq => hz.2.2.1 q hq) hc (fun j hj => ?_) hcells.1 hcells.2 hd (fun q H1 hP1 hD1 hS1 => ?_)
  · rw [hd0 j hj, ← hfv j]
    show _ = ((List.range (nf kk)).map (fv Γ ω kk n)).getD j _
    rw [List.getD_eq_getElem?_getD, fv_get hj]; rfl
  · intro T1 hT X
    have hq := new_atG hz hP1 hD1 X hT
    subst hq
    have e9 : WL Γ (n + 1) ω κ = WL Γ n ω κ ++ [(rl Γ n, .inr (kk, (List.range (nf kk)).map (fv Γ ω kk n)))] := by rw [WL_s, WE_obj hkd h9]
    exact kx H1 locs ls ⟨by rw [e9]; exact hP1, hP.2.1, hz.2.2.2, hP.2.2.2⟩ hS1 hl T1 hT X
theorem cls_eq {ty : FieldType} {t0 : Nat} {cA : ClassId} (hK : va_K (gD Γ) clss (gT Γ) s) (h0 : (gT Γ)[t0]? = some (gC Γ t0, ty)) (hK1 : va_K (gD Γ) clss (gT Γ ++ [(cA, ty)]) s) : cA = gC Γ t0 := by
  have h1 := (hK.2 t0 _ h0).2
  have h2 := (hK1.2 8 (cA, ty) rfl).2
  cases ty <;> first
    | exact (Option.some.inj (Eq.trans (Eq.symm h1) h2)).symm
    | (obtain ⟨_, _, _, _, _, h1⟩ := h1
       obtain ⟨_, _, _, _, _, h2⟩ := h2
       exact (Option.some.inj (h1.symm.trans h2)).symm)
theorem j_newaG {at9 : ArrayType} {ty : FieldType} {N : Nat} {i : Int} (C : Cx Γ p l s m args meth c cc own nL) (hz : Hg Γ s n ce) (harr : Cond.arrayClass (newarray.typeOf at9) ∈ WS) (hty : newarray.typeOf at9 = ty) (hkd : κ n = kk) (hk : arrI kk = true) (hgt : (gT Γ)[tyk kk]? = some (gC Γ (tyk kk), ty)) (hd0 : defaultValue ty = .int 0) (hN : lnk kk = N) (hi : i = (N : Int)) (hN2 : N < 2000) (hb : N * componentBytes ty ≤ 536870912) (hw1 : ω.1 n = fun _ => 0)
    (hcells : ce + 1 ≤ R.cells ∧ sl + N ≤ R.slots) (d : Dx cc pc (.newarray at9) 2 pc') (kx : J Γ p l e R s m args below meth c Q (n + 1) (ce + 1) (sl + N) pc' L (.ref (rl Γ n) :: S) ω κ) : J Γ p l e R s m args below meth c Q n ce sl pc L (.int (iI i) :: S) ω κ := by
  intro H locs ls hP hS hl
  obtain ⟨hd, rfl⟩ := d
  subst hi
  subst hN
  have hK := C.2.2.2.2.2.1.1
  refine va_newa (a0 := (lnk kk, .inl fun j => iI (ω.1 n j))) (N' := lnk kk) C.1 C.2.1 (C.2.2.2.2.1 _ harr) hty hK hP.1 hP.D hS (fun q hq => hz.2.2.1 q hq) (fun cA => ?_) ?_ ?_ hb hcells.1 hcells.2 hd (fun q cA H1 hK1 hP1 hD1 hS1 => ?_)
  · rw [vp_cell_i, hw1, hd0]; rfl
  · rw [show (iI ((lnk kk : Nat) : Int) < 0) = (iI ((lnk kk : Nat) : Int) < iI 0) from rfl, iI_lt ⟨by omega, by omega⟩ ⟨by decide, by decide⟩]; omega
  · rw [iI_cl ⟨by omega, by omega⟩, Int.toNat_natCast]
  · intro T1 hT X
    have hq := new_atG hz hP1 hD1 X hT
    subst hq
    have hc := cls_eq hK hgt hK1
    subst hc
    have e9 : WL Γ (n + 1) ω κ = WL Γ n ω κ ++ [(rl Γ n, .inl (gC Γ (tyk kk), lnk kk, .inl fun j => iI (ω.1 n j)))] := by rw [WL_s, WE_int hkd hk]
    exact kx H1 locs ls ⟨by rw [e9]; exact hP1, hP.2.1, hz.2.2.2, hP.2.2.2⟩ hS1 hl T1 hT X
theorem j_anewG {Cn : String} {N : Nat} {i : Int} (C : Cx Γ p l s m args meth c cc own nL) (hz : Hg Γ s n ce) (hcl : Cond.classLink own idx Cn ∈ WS) (hov : va_AO Cn s) (hkd : κ n = kk) (hk : isRk kk = true) (hgt : (gT Γ)[tyk kk]? = some (gC Γ (tyk kk), .object Cn)) (hN : lnk kk = N) (hi : i = (N : Int)) (hN2 : N < 2000) (hw2 : ω.2.1 n = fun _ => none)
    (hcells : ce + 1 ≤ R.cells ∧ sl + N ≤ R.slots) (d : Dx cc pc (.anewarray idx) 3 pc') (kx : J Γ p l e R s m args below meth c Q (n + 1) (ce + 1) (sl + N) pc' L (.ref (rl Γ n) :: S) ω κ) : J Γ p l e R s m args below meth c Q n ce sl pc L (.int (iI i) :: S) ω κ := by
  intro H locs ls hP hS hl
  obtain ⟨hd, rfl⟩ := d
  subst hi
  subst hN
  have hK := C.2.2.2.2.2.1.1
  refine va_newq (N' := lnk kk) C.1 C.2.1 C.2.2.2.1 (C.2.2.2.2.1 _ hcl) hov hK hP.1 hP.D hS (fun q hq => hz.2.2.1 q hq) ?_ ?_ (by omega) hcells.1 hcells.2 hd (fun q cA H1 hK1 hP1 hD1 hS1 => ?_)
  · rw [show (iI ((lnk kk : Nat) : Int) < 0) = (iI ((lnk kk : Nat) : Int) < iI 0) from rfl, iI_lt ⟨by omega, by omega⟩ ⟨by decide, by decide⟩]; omega
  · rw [iI_cl ⟨by omega, by omega⟩, Int.toNat_natCast]
  · intro T1 hT X
    have hq := new_atG hz hP1 hD1 X hT
    subst hq
    have hc := cls_eq hK hgt hK1
    subst hc
    have e9 : WL Γ (n + 1) ω κ = WL Γ n ω κ ++ [(rl Γ n, .inl (gC Γ (tyk kk), lnk kk, .inr (.inr (.inr (.inr fun _ => none)))))] := by rw [WL_s, WE_ref hkd hk, hw2]; rfl
    exact kx H1 locs ls ⟨by rw [e9]; exact hP1, hP.2.1, hz.2.2.2, hP.2.2.2⟩ hS1 hl T1 hT X
theorem j_new {Cn : String} {T : u_T} {ty : Nat → FieldType} (C : Cx Γ p l s m args meth c cc own nL) (hz : Hz Γ s n ce) (hc : clss[kk]? = some (Cn, T, nf kk)) (hin : ∀ w ∈ u_ws Cn T (nf kk), w ∈ WS) (hty : ∀ k, k < nf kk → parseFieldDescriptor (T k).2.2.1 = some (ty k)) (hcl : Cond.classLink own idx Cn ∈ WS) (hinst : Cond.instantiable Cn (nf kk) ∈ WS) (hini : Cond.initialized Cn ∈ WS) (hn : n < 243) (hkd : κ n = kk) (hd0 : ∀ k, k < nf kk → defaultValue (ty k) = if rfm kk k then .null else .int 0) (hw1 : ω.1 n = fun _ => 0) (hw2 : ω.2.1 n = fun _ => none)
    (hcells : ce + 1 ≤ R.cells ∧ sl + nf kk ≤ R.slots) (d : Dx cc pc (.new idx) 3 pc') (kx : J Γ p l e R s m args below meth c Q (n + 1) (ce + 1) (sl + nf kk) pc' L (.ref (rl Γ n) :: S) ω κ) : J Γ p l e R s m args below meth c Q n ce sl pc L S ω κ := by
  exact j_newG C (hz.g hn) hc hin hty hcl hinst hini hkd hd0 hw1 hw2 hcells d kx
theorem j_newa {at9 : ArrayType} {ty : FieldType} {N : Nat} {i : Int} (C : Cx Γ p l s m args meth c cc own nL) (hz : Hz Γ s n ce) (harr : Cond.arrayClass (newarray.typeOf at9) ∈ WS) (hty : newarray.typeOf at9 = ty) (hn : n < 243) (hkd : κ n = kk) (hk : arrI kk = true) (hgt : (gT Γ)[tyk kk]? = some (gC Γ (tyk kk), ty)) (hd0 : defaultValue ty = .int 0) (hN : lnk kk = N) (hi : i = (N : Int)) (hN2 : N < 2000) (hb : N * componentBytes ty ≤ 536870912) (hw1 : ω.1 n = fun _ => 0)
    (hcells : ce + 1 ≤ R.cells ∧ sl + N ≤ R.slots) (d : Dx cc pc (.newarray at9) 2 pc') (kx : J Γ p l e R s m args below meth c Q (n + 1) (ce + 1) (sl + N) pc' L (.ref (rl Γ n) :: S) ω κ) : J Γ p l e R s m args below meth c Q n ce sl pc L (.int (iI i) :: S) ω κ := by
  exact j_newaG C (hz.g hn) harr hty hkd hk hgt hd0 hN hi hN2 hb hw1 hcells d kx
theorem j_anew {Cn : String} {N : Nat} {i : Int} (C : Cx Γ p l s m args meth c cc own nL) (hz : Hz Γ s n ce) (hcl : Cond.classLink own idx Cn ∈ WS) (hov : va_AO Cn s) (hn : n < 243) (hkd : κ n = kk) (hk : isRk kk = true) (hgt : (gT Γ)[tyk kk]? = some (gC Γ (tyk kk), .object Cn)) (hN : lnk kk = N) (hi : i = (N : Int)) (hN2 : N < 2000) (hw2 : ω.2.1 n = fun _ => none)
    (hcells : ce + 1 ≤ R.cells ∧ sl + N ≤ R.slots) (d : Dx cc pc (.anewarray idx) 3 pc') (kx : J Γ p l e R s m args below meth c Q (n + 1) (ce + 1) (sl + N) pc' L (.ref (rl Γ n) :: S) ω κ) : J Γ p l e R s m args below meth c Q n ce sl pc L (.int (iI i) :: S) ω κ := by
  exact j_anewG C (hz.g hn) hcl hov hkd hk hgt hN hi hN2 hw2 hcells d kx
/-- Object's constructor -/
theorem j_obj {D mx sx : Nat} (C : Cx Γ p l s m args meth c cc own nL) (hl0 : Cond.methodLink own idx objectInit ∈ WS) (hD : 1 ≤ D) (hL : L.length = nL) (hcat : (S.map fun v => v.category).sum ≤ 8) (d : Dx cc pc (.invokespecial idx) 3 pc') (kx : J Γ p l e (rmk D mx sx) s m args below meth c Q n ce sl pc' L S ω κ) : J Γ p l e (rmk D mx sx) s m args below meth c Q n ce sl pc L (.ref (rl Γ a) :: S) ω κ := by
  intro H locs ls hP hS hl
  obtain ⟨hd, rfl⟩ := d
  refine W.objInit C.1 C.2.1 C.2.2.2.1 (C.2.2.2.2.1 _ hl0) (C.2.2.2.2.1 _ (WS_of (w := Cond.instanceMethod objectInit) 98 (by decide +kernel))) (C.2.2.2.2.1 _ (WS_of 99 (by decide +kernel))) rfl (by rw [C.2.2.1]; exact (hl.1.trans hL)) rfl hd ?_ ?_ ?_
  · show 1 ≤ D
    exact hD
  · have h8 : 2 * (F0 m pc ls (Value.ref (rl Γ a) :: S)).monitorRoom + (S.map fun v => v.category).sum ≤ 8 := lv_room hcat
    show _ + 12 ≤ 64 * D
    omega
  · exact kx H locs ls hP hS hl
/-- a constructor is called -/
def Oi (y : MethodName) (bytes : ByteArray) (maxL : Nat) : Prop := Cond.instanceMethod y ∈ WS ∧ Cond.initialized y.cls ∈ WS ∧ Cond.code y bytes maxL none ∈ WS ∧ y.name = "<init>" ∧ (y.cls ≠ "java/lang/invoke/MethodHandle" ∧ y.cls ≠ "java/lang/invoke/VarHandle" ∧ (parseMethodDescriptor y.desc).map (fun d => d.parameters.length) = some 0)
theorem j_kN {n' mc ms : Nat} {st : List Value} {as : List Value} {Po : Wo → Prop} {H : Heap} {locs : List Loc} {ls : Array Slot} (hr : va_Run p l e R s m args below meth c H locs ce sl mc ms (F0 m pc ls st) S (QN Γ n' Po kd as.toArray) (gA Γ)) (hS : va_S (gA Γ) s.heap H locs) (hl : lk ls L)
    (kx : ∀ (ω' : Wo), Po ω' → J Γ p l e R s m args below meth c Q n' (ce + mc) (sl + ms) (pc + 3) L S ω') : W p l e R s m args below meth c H locs ce sl Q (F0 m pc ls st) := by
  refine va_callv hr hS (fun q _ h => h) (fun q h => h) (fun ω' t H1 locs1 ht hvm hpo hB _ _ hS1 => ?_)
  have hB : Rp Γ n' ω' t.heap := hB
  rw [ht] at hB
  exact kx ω' hpo H1 locs1 ls hB hS1 hl
theorem j_ctor {y : MethodName} {bytes : ByteArray} {maxL d D mc ms mx sx : Nat} {Po : Wo → Prop} (C : Cx Γ p l s m args meth c cc own nL) (hA : Ka s) (hz : Hz Γ s n ce) (hn : 0 < n) (hn9 : n ≤ 243) (hM : CN Γ l y bytes maxL d mc ms [.ref (rl Γ a)] ω n Po) (O : Oi y bytes maxL) (K : Lk own idx y) (hD : d + 1 ≤ D ∧ maxL ≤ 40) (hL : L.length = nL) (hcat : (S.map fun v => v.category).sum ≤ 8) (hce : ce + mc ≤ mx ∧ sl + ms ≤ sx) (dd : Dx cc pc (.invokespecial idx) 3 pc')
    (kx : ∀ ω' : Wo, Po ω' → J Γ p l e (rmk D mx sx) s m args below meth c Q (n + mc) (ce + mc) (sl + ms) pc' L S ω') : J Γ p l e (rmk D mx sx) s m args below meth c Q n ce sl pc L (.ref (rl Γ a) :: S) ω := by
  intro H locs ls hP hS hl
  obtain ⟨hd, rfl⟩ := dd
  obtain ⟨o1, o2, o3, o4, o5⟩ := O
  intro T hT X
  have hH := hz.eq hn hn9 hP X hT
  refine (show W p l e (rmk D mx sx) s m args below meth c H locs ce sl Q (F0 m pc ls (.ref (rl Γ a) :: S)) from j_kN (as := [.ref (rl Γ a)]) (va_runI (As := []) (n := 0) ⟨C.1, C.2.1, C.2.2.1, C.2.2.2.1, C.2.2.2.2.1⟩ hM ⟨callB_of 0 C.2.2.2.2.1 (inWS o3) rfl rfl rfl (C.2.2.2.2.1 _ o2) (C.2.2.2.2.1 _ K) o5 ⟨hD.1, ?_⟩, o4, C.2.2.2.2.1 _ o1⟩ ⟨KN.blind, ?_⟩ rfl rfl (hl.1.trans hL) rfl (lv_room hcat) hd ⟨hce.1, hce.2⟩) hS hl kx) T hT X
  · show 8 + (maxL + 11) + 64 * d ≤ 64 * D
    omega
  · intro U hU hW
    exact ⟨rfl, ⟨C.2.2.2.2.2.1.next hW hU hS, hA.moved hW.alike⟩, by rw [hU]; exact hP, by rw [hU]; exact hH, hz.2.2⟩
theorem j_ctorN {y : MethodName} {host : String} {bytes : ByteArray} {maxL d D mc ms mx sx : Nat} {Po : Wo → Prop} (C : Cx Γ p l s m args meth c cc own nL) (hA : Ka s) (hz : Hz Γ s n ce) (hn : 0 < n) (hn9 : n ≤ 243) (hM : CN Γ l y bytes maxL d mc ms [.ref (rl Γ a)] ω n Po) (O : Oi y bytes maxL) (K : (own, idx, y, host) ∈ nstM) (hD : d + 1 ≤ D ∧ maxL ≤ 40) (hL : L.length = nL) (hcat : (S.map fun v => v.category).sum ≤ 8) (hce : ce + mc ≤ mx ∧ sl + ms ≤ sx) (dd : Dx cc pc (.invokespecial idx) 3 pc')
    (kx : ∀ ω' : Wo, Po ω' → J Γ p l e (rmk D mx sx) s m args below meth c Q (n + mc) (ce + mc) (sl + ms) pc' L S ω') : J Γ p l e (rmk D mx sx) s m args below meth c Q n ce sl pc L (.ref (rl Γ a) :: S) ω := by
  intro H locs ls hP hS hl
  obtain ⟨hd, rfl⟩ := dd
  obtain ⟨o1, o2, o3, o4, o5⟩ := O
  intro T hT X
  have hH := hz.eq hn hn9 hP X hT
  refine (show W p l e (rmk D mx sx) s m args below meth c H locs ce sl Q (F0 m pc ls (.ref (rl Γ a) :: S)) from j_kN (as := [.ref (rl Γ a)]) (va_runIN (As := []) (n := 0) (host := host) ⟨C.1, C.2.1, C.2.2.1, C.2.2.2.1, C.2.2.2.2.1⟩ hM ⟨va_cnB 0 C.2.2.2.2.1 (inWS o3) rfl rfl rfl (C.2.2.2.2.2.1.2.2.1 _ K) (C.2.2.2.2.1 _ o2) o5 ⟨hD.1, ?_⟩, o4, C.2.2.2.2.1 _ o1⟩ ⟨KN.blind, ?_⟩ rfl rfl (hl.1.trans hL) rfl (lv_room hcat) hd ⟨hce.1, hce.2⟩) hS hl kx) T hT X
  · show 8 + (maxL + 11) + 64 * d ≤ 64 * D
    omega
  · intro U hU hW
    exact ⟨rfl, ⟨C.2.2.2.2.2.1.next hW hU hS, hA.moved hW.alike⟩, by rw [hU]; exact hP, by rw [hU]; exact hH, hz.2.2⟩
theorem j_nret {n' mc ms : Nat} {Po : Wo → Prop} (C : Cx Γ p l s m args meth c cc own nL) (hr : meth.sig.returnType = none) (d : Dx cc pc (.return_) 1 pc') (hn : n = n') (hc : ce = mc ∧ sl = ms) (h : Po ω) : J Γ p l e R s m args below meth c (MQ below (QN Γ n' Po) args s mc ms (gA Γ)) n ce sl pc L [] ω := by
  obtain ⟨rfl, rfl⟩ := hc
  subst hn
  intro H locs ls hP hS hl
  exact W.vret C.1 C.2.1 hr (fun t ht _ => ⟨⟨ω, rfl, h, by show Rp Γ n ω t.heap; rw [ht]; exact hP⟩, hS.F ht⟩) hS.2.2 d.1 C.2.2.2.2.2.2
/-- a reference is put into a field, final or not -/
theorem j_putr {b : Nat} (C : Cx Γ p l s m args meth c cc own nL) (hin0 : meth.name = "<init>") (F : Fk own idx kk k) (ha : At n a kk κ) (hr : rfm kk k = true) {ty : FieldType} {fin : Bool} (hf : Fty kk k ty fin) (hown : ∀ q, clss[kk]? = some q → q.1 = own) (hn9 : narrow ty (.ref (rl Γ b)) = .ref (rl Γ b)) (hfit : fits ty (.ref (rl Γ b)) = true) (d : Dx cc pc (.putfield idx) 3 pc') (kx : J Γ p l e R s m args below meth c Q n ce sl pc' L S (wr ω a k (some b)) κ) (hb9 : b < 243 := by omega) : J Γ p l e R s m args below meth c Q n ce sl pc L (.ref (rl Γ b) :: .ref (rl Γ a) :: S) ω κ := by
  intro H locs ls hP hS hl
  have hlt := F.lt
  obtain ⟨Cn, T, ty0, hc, hk, hin, hlink, hsame, hty, hnm⟩ := F
  obtain ⟨q, hq, hf1, hf2⟩ := hf
  cases Option.some.inj (hc.symm.trans hq)
  obtain ⟨hd, rfl⟩ := d
  have hcn : Cn = own := hown _ hc
  have he : (WL Γ n ω κ)[a]? = some (rl Γ a, .inr (kk, (List.range (nf kk)).map (fv Γ ω kk a))) := by rw [WL_get ha.1, WE_obj ha.2.2 hlt]
  have kk9 : ∀ (H1 : Heap) (locs1 : List Loc), va_P (gD Γ) clss ((WL Γ n ω κ).set a (rl Γ a, .inr (kk, ((List.range (nf kk)).map (fv Γ ω kk a)).set k (.ref (rl Γ b))))) H1 → va_D (gA Γ) ((WL Γ n ω κ).set a (rl Γ a, .inr (kk, ((List.range (nf kk)).map (fv Γ ω kk a)).set k (.ref (rl Γ b))))) → va_S (gA Γ) s.heap H1 locs1 → W p l e R s m args below meth c H1 locs1 ce sl Q (F0 m (pc + 3) ls S) := by
    intro H1 locs1 h1 _ h3
    have e9 : (WL Γ n ω κ).set a (rl Γ a, .inr (kk, ((List.range (nf kk)).map (fv Γ ω kk a)).set k (.ref (rl Γ b)))) = WL Γ n (wr ω a k (some b)) κ := WL_set (by rw [WE_obj ha.2.2 hlt, fv_set_r hk hr]) (fun x hx => WE_ne rfl (wr_ne hx) (Or.inr rfl))
    rw [e9] at h1
    exact kx H1 locs1 ls ⟨h1, hP.2.1, hP.2.2.1, hP.2.2.2.put (fun _ => Or.inl hb9)⟩ h3 hl
  cases fin with
  | true => exact va_putF C.1 C.2.1 C.2.2.2.2.1 hin ty0 hty hnm C.2.2.2.1 C.2.2.2.2.2.1.1 hP.1 hP.D hS a he hc k hk (C.2.2.2.2.1 _ hlink) (fun x h => by rw [← hsame]; exact h) hf2 hin0 (hsame.trans hcn) hf1 hn9 hfit (by simp [hk]) hd kk9
  | false => exact va_put C.1 C.2.1 C.2.2.2.2.1 hin ty0 hty hnm C.2.2.2.1 C.2.2.2.2.2.1.1 hP.1 hP.D hS a he hc k hk (C.2.2.2.2.1 _ hlink) (fun x h => by rw [← hsame]; exact h) hf2 hf1 hn9 hfit (by simp [hk]) hd kk9
end CTOR
