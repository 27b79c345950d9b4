/-! methods that answer a reference or null; the table of deeds -/
def QRf (Γ : Ga) (Po : Option Nat → Wo → Prop) (n : Nat := 243) (κ : Nat → Nat := kd) : Array Value → State → Outcome → State → Prop := va_Qq (fun (r : Option Nat) (ω' : Wo) => ∃ b : Option Nat, r = b.map (rl Γ) ∧ Po b ω') (Bx Γ n κ) (gA Γ)
def CRf (Γ : Ga) (l : Launch) (y : MethodName) (bytes : ByteArray) (maxL : Nat) (cn : String) (d : Nat) (as : List Value) (ω : Wo) (Po : Option Nat → Wo → Prop) (n : Nat := 243) (κ : Nat → Nat := kd) : Prop :=
  Met l y (.code y bytes maxL (some (.object cn)) :: WS) (rmk d 0 0) (Pcx Γ as ω n κ) (QRf Γ Po n κ) 0 0 (gA Γ)
section REFS
variable {κ : Nat → Nat} {Γ : Ga} {p : Program} {l : Launch} {e : Env} {R : Room} {s : State} {m : MethodId} {args : Array Value} {below : List Frame} {meth : Method} {c : Code} {Q : State → Prop} {n ce sl : Nat} {cc : ByteArray} {own : String} {nL pc pc' idx a kk k : Nat} {L : List (Option Value)} {S : List Value} {ω : Wo}
theorem W_aret {H : Heap} {locs : List Loc} {cells slots : Nat} {Qc : Array Value → State → Outcome → State → Prop} {free : Addr → Prop} {w : Value} {t0 : FieldType} (hexec : p.tables.exec = Jvm.exec) (hb : c.code = cc) (hw : w.isRef = true) (hr : meth.sig.returnType = some t0) (ht : t0.isReference = true)
    (hq : ∀ t : State, t.heap = H → s.WarmedH t.vm → Qc args s (.returned (some w)) t) (hf : ∀ q ∈ locs, free q.base)
    {pc : Nat} {ls : Array Slot} (hdg : decode cc pc = .ok (.areturn, 1)) (hlocks : meth.locks = false) : W p l e R s m args below meth c H locs cells slots (MQ below Qc args s cells slots free) (F0 m pc ls [w]) := by
  intro T hT X
  obtain ⟨fs, hret, hrun, hended, hW, hframe⟩ := X.leave (v := some w) (fun h => by rw [hr] at h; cases h)
  exact ⟨T.setFrames fs, X.areturnOut hexec hw hr ht (by rw [hb]; exact hdg) hret, .returned (some w), hrun, hended, hq _ hT hW, locs, ⟨⟨_, rfl⟩, hW, hframe⟩, hf⟩
theorem j_arf {Po : Option Nat → Wo → Prop} {cn : String} {b : Option Nat} (C : Cx Γ p l s m args meth c cc own nL) (hr : meth.sig.returnType = some (.object cn)) (d : Dx cc pc (.areturn) 1 pc') (h : Po b ω) : J Γ p l e R s m args below meth c (MQ below (QRf Γ Po n κ) args s ce sl (gA Γ)) n ce sl pc L [va_rf (b.map (rl Γ))] ω κ := by
  intro H locs ls hP hS hl
  refine W_aret C.1 C.2.1 ?_ hr rfl (fun t ht _ => ⟨⟨b.map (rl Γ), ω, rfl, ⟨b, rfl, h⟩, by show Rp Γ n ω t.heap κ; rw [ht]; exact hP⟩, hS.F ht⟩) hS.2.2 d.1 C.2.2.2.2.2.2
  cases b <;> rfl
theorem j_aret {Po : Option Nat → Wo → Prop} {cn : String} {b : Nat} (C : Cx Γ p l s m args meth c cc own nL) (hr : meth.sig.returnType = some (.object cn)) (d : Dx cc pc (.areturn) 1 pc') (h : Po (some b) ω) : J Γ p l e R s m args below meth c (MQ below (QRf Γ Po n κ) args s ce sl (gA Γ)) n ce sl pc L [.ref (rl Γ b)] ω κ := j_arf (b := some b) C hr d h
theorem j_aretD {Po : Option Nat → Wo → Prop} {cn : String} {b : Nat} (C : Cx Γ p l s m args meth c cc own nL) (hr : meth.sig.returnType = some (.object cn)) (d : Dx cc pc (.areturn) 1 pc') (h : Po (some (1000 + b)) ω) : J Γ p l e R s m args below meth c (MQ below (QRf Γ Po n κ) args s ce sl (gA Γ)) n ce sl pc L [.ref (gad Γ b)] ω κ := by
  rw [← rl_ad]; exact j_aret C hr d h
theorem j_aretN {Po : Option Nat → Wo → Prop} {cn : String} (C : Cx Γ p l s m args meth c cc own nL) (hr : meth.sig.returnType = some (.object cn)) (d : Dx cc pc (.areturn) 1 pc') (h : Po none ω) : J Γ p l e R s m args below meth c (MQ below (QRf Γ Po n κ) args s ce sl (gA Γ)) n ce sl pc L [.null] ω κ := j_arf (b := none) C hr d h
theorem j_kE {st : List Value} {as : List Value} {Po : Option Nat → Wo → Prop} {H : Heap} {locs : List Loc} {ls : Array Slot} (hr : va_Run p l e R s m args below meth c H locs ce sl 0 0 (F0 m pc ls st) S (QRf Γ Po n κ as.toArray) (gA Γ)) (hS : va_S (gA Γ) s.heap H locs) (hl : lk ls L)
    (kx : ∀ (b : Option Nat) (ω' : Wo), Po b ω' → J Γ p l e R s m args below meth c Q n ce sl (pc + 3) L (va_rf (b.map (rl Γ)) :: S) ω' κ) : W p l e R s m args below meth c H locs ce sl Q (F0 m pc ls st) := by
  refine va_callq hr hS (fun q _ h => h) (fun q h => h) (fun r ω' t H1 locs1 ht hvm hpo hB _ _ hS1 => ?_)
  obtain ⟨b, rfl, hz⟩ := hpo
  have hB : Rp Γ n ω' t.heap κ := hB
  rw [ht] at hB
  exact kx b ω' hz H1 locs1 ls hB hS1 hl
theorem j_cVE0 {y : MethodName} {bytes : ByteArray} {maxL d D mx sx : Nat} {cn : String} {Po : Option Nat → Wo → Prop} (C : Cx Γ p l s m args meth c cc own nL) (hM : CRf Γ l y bytes maxL cn d (.ref (rl Γ a) :: []) ω Po n κ) (O : Oc y bytes maxL (some (.object cn)) 0) (K : Lk own idx y) (hrc : Rc kk y) (ha : At n a kk κ) (hD : d + 1 ≤ D ∧ maxL ≤ 40) (hL : L.length = nL) (hcat : (S.map fun v => v.category).sum ≤ 8) (hce : ce ≤ mx ∧ sl ≤ sx) (dd : Dx cc pc (.invokevirtual idx) 3 pc') (kx : ∀ (b : Option Nat) (ω' : Wo), Po b ω' → J Γ p l e (rmk D mx sx) s m args below meth c Q n ce sl pc' L (va_rf (b.map (rl Γ)) :: S) ω' κ) : J Γ p l e (rmk D mx sx) s m args below meth c Q n ce sl pc L (.ref (rl Γ a) :: S) ω κ := by
  intro H locs ls hP hS hl
  obtain ⟨hd, rfl⟩ := dd
  exact j_kE (j_runV (as := []) C hM O K hrc ha hD rfl hd hL hcat hce hP hS hl) hS hl kx
theorem j_cVE1 {y : MethodName} {bytes : ByteArray} {maxL d D mx sx : Nat} {cn : String} {x1 : Value} {Po : Option Nat → Wo → Prop} (C : Cx Γ p l s m args meth c cc own nL) (hM : CRf Γ l y bytes maxL cn d (.ref (rl Γ a) :: [x1]) ω Po n κ) (O : Oc y bytes maxL (some (.object cn)) 1) (K : Lk own idx y) (hrc : Rc kk y) (ha : At n a kk κ) (hD : d + 1 ≤ D ∧ maxL ≤ 40) (hL : L.length = nL) (hcat : (S.map fun v => v.category).sum ≤ 8) (hce : ce ≤ mx ∧ sl ≤ sx) (dd : Dx cc pc (.invokevirtual idx) 3 pc') (kx : ∀ (b : Option Nat) (ω' : Wo), Po b ω' → J Γ p l e (rmk D mx sx) s m args below meth c Q n ce sl pc' L (va_rf (b.map (rl Γ)) :: S) ω' κ) : J Γ p l e (rmk D mx sx) s m args below meth c Q n ce sl pc L (x1 :: .ref (rl Γ a) :: S) ω κ := by
  intro H locs ls hP hS hl
  obtain ⟨hd, rfl⟩ := dd
  exact j_kE (j_runV (as := [x1]) C hM O K hrc ha hD rfl hd hL hcat hce hP hS hl) hS hl kx
/-- the table of deeds -/
theorem j_deeds (C : Cx Γ p l s m args meth c cc RX6 nL) (d : Dx cc pc (.getstatic 56) 3 pc') (kx : J Γ p l e R s m args below meth c Q n ce sl pc' L (.ref (gad Γ 9) :: S) ω κ) : J Γ p l e R s m args below meth c Q n ce sl pc L S ω κ := by
  intro H locs ls hP hS hl
  obtain ⟨hd, rfl⟩ := d
  exact va_getsN C.1 C.2.1 C.2.2.2.2.2.1.2.1.2.1 hS C.2.2.2.1 (va_Nw.use rfl C.2.2.2.2.2.1.2.2.2.1.1) (fun x h => h) hd (kx H locs ls hP hS hl)
theorem j_deedN (C : Cx Γ p l s m args meth c cc own nL) (d : Dx cc pc .arraylength 1 pc') (kx : J Γ p l e R s m args below meth c Q n ce sl pc' L (.int (iI 9) :: S) ω κ) : J Γ p l e R s m args below meth c Q n ce sl pc L (.ref (gad Γ 9) :: S) ω κ := by
  intro H locs ls hP hS hl
  obtain ⟨hd, rfl⟩ := d
  exact va_tlen C.1 C.2.1 C.2.2.2.2.2.1.2.1.2.2.1 hS (v := iI 9) (by decide) hd (kx H locs ls hP hS hl)
theorem j_deedA {i : Nat} (C : Cx Γ p l s m args meth c cc own nL) (hi : i < 9) (d : Dx cc pc .aaload 1 pc') (kx : J Γ p l e R s m args below meth c Q n ce sl pc' L (.ref (gad Γ i) :: S) ω κ) : J Γ p l e R s m args below meth c Q n ce sl pc L (.int (iI (i : Int)) :: .ref (gad Γ 9) :: S) ω κ := by
  intro H locs ls hP hS hl
  obtain ⟨hd, rfl⟩ := d
  refine vb_tq C.1 C.2.1 C.2.2.2.2.2.1.2.1.2.2.1 hS (i := iI (i : Int)) (iI_in ⟨by omega, by omega⟩ (by decide)) (v := .ref (gad Γ i)) ?_ hd (kx H locs ls hP hS hl)
  show Value.ref (gad Γ (iI (i : Int)).toNatClampNeg) = _
  rw [iI_cl ⟨by omega, by omega⟩, Int.toNat_natCast]
def ltr (i : Nat) : Int := ([109, 120, 117, 98, 99, 111, 103, 108, 116] : List Int).getD i 0
theorem ltr_iI : ∀ i, i < 9 → ([109, 120, 117, 98, 99, 111, 103, 108, 116] : List Int32).getD i 0 = iI (ltr i) := by decide
theorem dg1_iI : ∀ i, i < 9 → ([1, 1, 1, 1, 1, 1, 1, 2, 2] : List Int32).getD i 0 = iI (dg1 i : Int) := by decide
theorem dg2_iI : ∀ i, i < 9 → ([0, 0, 0, 1, 1, 2, 0, 0, 0] : List Int32).getD i 0 = iI (dg2 i : Int) := by decide
theorem ltr_rg : ∀ i, i < 9 → 0 ≤ ltr i ∧ ltr i < 65536 := by decide
theorem dOf_ltr : ∀ i, i < 9 → dOf (ltr i) = i := by decide
theorem dOf_no {x : Int} (h : ∀ j, j < 9 → ltr j ≠ x) : dOf x = 9 := by
  have h0 : (109 : Int) ≠ x := h 0 (by decide)
  have h1 : (120 : Int) ≠ x := h 1 (by decide)
  have h2 : (117 : Int) ≠ x := h 2 (by decide)
  have h3 : (98 : Int) ≠ x := h 3 (by decide)
  have h4 : (99 : Int) ≠ x := h 4 (by decide)
  have h5 : (111 : Int) ≠ x := h 5 (by decide)
  have h6 : (103 : Int) ≠ x := h 6 (by decide)
  have h7 : (108 : Int) ≠ x := h 7 (by decide)
  have h8 : (116 : Int) ≠ x := h 8 (by decide)
  unfold dOf
  rw [if_neg (Ne.symm h0), if_neg (Ne.symm h1), if_neg (Ne.symm h2), if_neg (Ne.symm h3), if_neg (Ne.symm h4), if_neg (Ne.symm h5), if_neg (Ne.symm h6), if_neg (Ne.symm h7), if_neg (Ne.symm h8)]
theorem j_getD {i : Nat} {q : String × String × String × List Int32} {z : Int} (C : Cx Γ p l s m args meth c cc own nL) (hi : i < 9) (hq : q ∈ dF) (hlk : Cond.fieldLink own idx RX2 q.2.1 q.2.2.1 ∈ WS) (hc : q.1 = RX2) (hz : q.2.2.2.getD i 0 = iI z) (d : Dx cc pc (.getfield idx) 3 pc')
    (kx : J Γ p l e R s m args below meth c Q n ce sl pc' L (.int (iI z) :: S) ω) : J Γ p l e R s m args below meth c Q n ce sl pc L (.ref (gad Γ i) :: S) ω := by
  intro H locs ls hP hS hl
  obtain ⟨hd, rfl⟩ := d
  refine va_getE C.1 C.2.1 C.2.2.2.2.2.1.2.1.1 (i := i) hi hS C.2.2.2.1 (q := q) hq (C.2.2.2.2.1 _ hlk) (fun x h => by rw [← hc]; exact h) hd ?_
  rw [hz]
  exact kx H locs ls hP hS hl
theorem j_ltr {i : Nat} (C : Cx Γ p l s m args meth c cc RX6 nL) (hi : i < 9) (d : Dx cc pc (.getfield 59) 3 pc') (kx : J Γ p l e R s m args below meth c Q n ce sl pc' L (.int (iI (ltr i)) :: S) ω) : J Γ p l e R s m args below meth c Q n ce sl pc L (.ref (gad Γ i) :: S) ω :=
  j_getD C hi (q := (RX2, "letter", "I", [109, 120, 117, 98, 99, 111, 103, 108, 116])) (List.mem_cons_of_mem _ List.mem_cons_self) (WS_of 1369 (by decide +kernel)) rfl (ltr_iI i hi) d kx
theorem j_dg1 {i : Nat} (C : Cx Γ p l s m args meth c cc RX6 nL) (hi : i < 9) (d : Dx cc pc (.getfield 46) 3 pc') (kx : J Γ p l e R s m args below meth c Q n ce sl pc' L (.int (iI (dg1 i : Int)) :: S) ω) : J Γ p l e R s m args below meth c Q n ce sl pc L (.ref (gad Γ i) :: S) ω :=
  j_getD C hi (q := (RX2, "digitsOfFirst", "I", [1, 1, 1, 1, 1, 1, 1, 2, 2])) (List.mem_cons_of_mem _ (List.mem_cons_of_mem _ List.mem_cons_self)) (WS_of 1370 (by decide +kernel)) rfl (dg1_iI i hi) d kx
theorem j_dg2 {i : Nat} (C : Cx Γ p l s m args meth c cc RX6 nL) (hi : i < 9) (d : Dx cc pc (.getfield 53) 3 pc') (kx : J Γ p l e R s m args below meth c Q n ce sl pc' L (.int (iI (dg2 i : Int)) :: S) ω) : J Γ p l e R s m args below meth c Q n ce sl pc L (.ref (gad Γ i) :: S) ω :=
  j_getD C hi (q := (RX2, "digitsOfSecond", "I", [0, 0, 0, 1, 1, 2, 0, 0, 0])) (List.mem_cons_of_mem _ (List.mem_cons_of_mem _ (List.mem_cons_of_mem _ List.mem_cons_self))) (WS_of 1371 (by decide +kernel)) rfl (dg2_iI i hi) d kx
theorem j_aastD (C : Cx Γ p l s m args meth c cc own nL) (ha : At n a 15) {b : Nat} (hb : b < 9) {i : Int} (hi : 0 ≤ i ∧ i < 20) (d : Dx cc pc (.aastore) 1 pc')
    (kx : J Γ p l e R s m args below meth c Q n ce sl pc' L S (wr ω a i.toNat (some (1000 + b)))) : J Γ p l e R s m args below meth c Q n ce sl pc L (.ref (gad Γ b) :: .int (iI i) :: .ref (rl Γ a) :: S) ω := by
  intro H locs ls hP hS hl
  have hw : (WL Γ n ω)[a]? = some (rl Γ a, .inl (gC Γ (tyk 15), lnk 15, .inr (.inr (.inr (.inr fun j => (ω.2.1 a j).map (rl Γ)))))) := by rw [WL_get ha.1, WE_ref ha.2.2 rfl]
  have hin : vp_in (iI i) (lnk 15) := iI_in hi (by decide)
  have hcl : (iI i).toNatClampNeg = i.toNat := iI_cl ⟨hi.1, by omega⟩
  obtain ⟨hd, rfl⟩ := d
  refine vb_astq C.1 C.2.1 C.2.2.2.2.2.1.1 hP.1 hP.D hS a (tyk 15) (E := RX2) (C := RX2) hw rfl (va_recvE C.2.2.2.2.2.1.2.1.1 (i := b) hb hS) vb_asgS hin hd fun H1 locs1 h1 _ h3 => ?_
  rw [WL_set (ω := ω) (ω' := wr ω a i.toNat (some (1000 + b))) (by
    rw [WE_ref ha.2.2 rfl, hcl]; congr 7
    funext j
    by_cases e : j = i.toNat
    · simp [wr, va_up, e, rl_ad]
    · simp [wr, va_up, e]) (fun x hx => WE_ne rfl (wr_ne hx) (Or.inr rfl))] at h1
  exact kx H1 locs1 ls ⟨h1, hP.2.1, hP.2.2.1, hP.2.2.2.put (fun _ => Or.inr (by omega))⟩ h3 hl
end REFS
