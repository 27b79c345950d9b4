/-! texts: String constants and the law's own Strings; rows over them -/
/-- q is a String of k bytes, which lie at v -/
def SV (Γ : Ga) (κ : Nat → Nat) (n : Nat) (ω : Wo) (q v k : Nat) : Prop :=
  (∃ i, i < 4 ∧ q = gad Γ (20 + i) ∧ v = gad Γ (30 + i) ∧ k = slen.getD i 0) ∨
  (∃ a b, q = rl Γ a ∧ v = rl Γ b ∧ At n a 7 κ ∧ At n b (100 + k) κ ∧ ω.2.1 a 0 = some b ∧ ω.1 a 1 = 0 ∧ ∀ j, 0 ≤ ω.1 b j ∧ ω.1 b j < 128)
theorem slen_3 : ∀ i, i < 4 → slen.getD i 0 ≤ 3 := by decide
theorem sbyt_b : ∀ i, i < 4 → ∀ j, j < 3 → fits .byte (.int ((sbyt.getD i []).getD j 0)) = true := by decide
theorem sbyt_r : ∀ i, i < 4 → ∀ j, j < 3 → (0 : Int32) ≤ (sbyt.getD i []).getD j 0 ∧ (sbyt.getD i []).getD j 0 < 128 := by decide
theorem fit_byte : ∀ v : Nat, v < 128 → fits .byte (.int (iI (v : Int))) = true := by decide
theorem fit_b {z : Int} (h : 0 ≤ z ∧ z < 128) : fits .byte (.int (iI z)) = true := by
  obtain ⟨k, rfl⟩ := Int.eq_ofNat_of_zero_le h.1
  exact fit_byte k (by omega)
/-- a builder's cells: its row's place, its sign, how many letters it has -/
def SBg (ω : Wo) (a b : Nat) (n : Nat) : Prop := ω.2.1 a 0 = some b ∧ ω.1 a 1 = 0 ∧ ω.1 a 3 = (n : Int) ∧ ∀ j, 0 ≤ ω.1 b j ∧ ω.1 b j < 128
section STR
variable {κ : Nat → Nat} {Γ : Ga} {p : Program} {l : Launch} {e : Env} {R : Room} {s : State} {m : MethodId} {args : Array Value} {below : List Frame} {meth : Method} {c : Code} {Q : State → Prop} {n ce sl : Nat} {cc : ByteArray} {own : String} {nL pc pc' idx a kk k : Nat} {L : List (Option Value)} {S : List Value} {ω : Wo}
theorem Kx.strs (h : Kx Γ s) : vk_S 4 slen sbyt (fun i => gad Γ (20 + i)) (fun i => gad Γ (30 + i)) (gA Γ) s s.heap := h.2.1.2.2.2.2.2.2.2.2.2.2.2.2.2
theorem Kx.tens (h : Kx Γ s) : va_Z "java/lang/Integer" "DigitTens" "[B" (.ref (gad Γ 12)) (gA Γ) s s.heap ∧ va_T .byte (gad Γ 12) 100 (fun i => .int (iI ((48 + i / 10 : Nat) : Int))) (gA Γ) s s.heap := ⟨h.2.1.2.2.2.2.2.2.2.2.2.2.2.1, h.2.1.2.2.2.2.2.2.2.2.2.2.2.2.1⟩
/-- getfield value -/
theorem j_sval {q v : Nat} (C : Cx Γ p l s m args meth c cc RJ0 nL) (h : SV Γ κ n ω q v k) (d : Dx cc pc (.getfield 9) 3 pc') (kx : J Γ p l e R s m args below meth c Q n ce sl pc' L (.ref v :: S) ω κ) : J Γ p l e R s m args below meth c Q n ce sl pc L (.ref q :: S) ω κ := by
  rcases h with ⟨i, hi, rfl, rfl, rfl⟩ | ⟨a, b, rfl, rfl, ha, hb, h0, h1, h2⟩
  · intro H locs ls hP hS hl
    obtain ⟨hd, rfl⟩ := d
    exact vk_getf C.1 C.2.1 ((C.2.2.2.2.2.1.strs.1 i hi).2.2.1) hS C.2.2.2.1 (C.2.2.2.2.1 _ (WS_of (w := Cond.fieldLink RJ0 9 "java/lang/String" "value" "[B") 1161 (by decide +kernel))) (fun x h => h) hd (kx H locs ls hP hS hl)
  · exact j_getr C fJ0_9 ha rfl h0 d kx
/-- getfield coder -/
theorem j_scod {q v : Nat} (C : Cx Γ p l s m args meth c cc RJ0 nL) (h : SV Γ κ n ω q v k) (d : Dx cc pc (.getfield 15) 3 pc') (kx : J Γ p l e R s m args below meth c Q n ce sl pc' L (.int (iI 0) :: S) ω κ) : J Γ p l e R s m args below meth c Q n ce sl pc L (.ref q :: S) ω κ := by
  rcases h with ⟨i, hi, rfl, rfl, rfl⟩ | ⟨a, b, rfl, rfl, ha, hb, h0, h1, h2⟩
  · intro H locs ls hP hS hl
    obtain ⟨hd, rfl⟩ := d
    exact vk_getf C.1 C.2.1 ((C.2.2.2.2.2.1.strs.1 i hi).2.1) hS C.2.2.2.1 (C.2.2.2.2.1 _ (WS_of (w := Cond.fieldLink RJ0 15 "java/lang/String" "coder" "B") 1162 (by decide +kernel))) (fun x h => h) hd (kx H locs ls hP hS hl)
  · exact j_geti C fJ0_15 ha rfl h1 d (fun _ => kx)
/-- the length of an array of bytes -/
theorem j_blenK {N : Nat} (C : Cx Γ p l s m args meth c cc own nL) (ha : At n a kk κ) (hk : arrI kk = true ∧ tyk kk = 2) (hN : lnk kk = N) (hNs : N < 2147483648) (d : Dx cc pc .arraylength 1 pc') (kx : J Γ p l e R s m args below meth c Q n ce sl pc' L (.int (iI (N : Int)) :: S) ω κ) : J Γ p l e R s m args below meth c Q n ce sl pc L (.ref (rl Γ a) :: S) ω κ := by
  intro H locs ls hP hS hl
  have hw : (WL Γ n ω κ)[a]? = some (rl Γ a, .inl (gC Γ (tyk kk), lnk kk, .inl fun j => iI (ω.1 a j))) := by rw [WL_get ha.1, WE_int ha.2.2 hk.1]
  obtain ⟨hd, rfl⟩ := d
  exact va_alen C.1 C.2.1 C.2.2.2.2.2.1.1 hP.1 a (tyk kk) hw (by rw [hk.2]; rfl) (v := iI (N : Int)) (by rw [hN, iI_nat]; rfl) hd (kx H locs ls hP hS hl)
theorem kk_b (k : Nat) : arrI (100 + k) = true ∧ tyk (100 + k) = 2 := by
  have h1 : ¬ (100 + k < 9) := by omega
  have h2 : isRk (100 + k) = false := by unfold isRk; simp; omega
  refine ⟨?_, ?_⟩
  · unfold arrI; rw [h2]; simp; omega
  · have : ∀ j, tyk (100 + j) = if 100 ≤ 100 + j then 2 else 0 := fun j => by
      show (match 100 + j with | 10 => 3 | 11 => 4 | 12 => 5 | 13 => 6 | 14 => 1 | 15 => 7 | 16 => 0 | 17 => 2 | 23 => 8 | 24 => 9 | k => if 100 ≤ k then 2 else 0) = _
      split <;> first | omega | rfl
    rw [this, if_pos (by omega)]
theorem lnk_b (k : Nat) : lnk (100 + k) = k := by
  have : ∀ j, lnk (100 + j) = if 100 ≤ 100 + j then 100 + j - 100 else 1 := fun j => by
    show (match 100 + j with | 10 => 10 | 11 => 3 | 12 => 4 | 13 => 8 | 14 => 60 | 15 => 20 | 16 => 20 | 17 => 16 | 18 => 111 | 19 => 888 | 20 => 60 | 21 => 63 | 22 => 40 | 26 => 200 | k => if 100 ≤ k then k - 100 else 1) = _
    split <;> first | omega | rfl
  rw [this, if_pos (by omega)]; omega
theorem j_salen {q v : Nat} (C : Cx Γ p l s m args meth c cc own nL) (h : SV Γ κ n ω q v k) (hk : k < 2000) (d : Dx cc pc .arraylength 1 pc') (kx : J Γ p l e R s m args below meth c Q n ce sl pc' L (.int (iI (k : Int)) :: S) ω κ) : J Γ p l e R s m args below meth c Q n ce sl pc L (.ref v :: S) ω κ := by
  rcases h with ⟨i, hi, rfl, rfl, rfl⟩ | ⟨a, b, rfl, rfl, ha, hb, h0, h1, h2⟩
  · intro H locs ls hP hS hl
    obtain ⟨hd, rfl⟩ := d
    exact va_tlen C.1 C.2.1 ((C.2.2.2.2.2.1.strs.1 i hi).2.2.2) hS (v := iI ((slen.getD i 0 : Nat) : Int)) (by rw [iI_nat]; rfl) hd (kx H locs ls hP hS hl)
  · exact j_blenK C hb (kk_b k) (lnk_b k) (by omega) d kx
/-- a String as receiver -/
theorem SV.recv {q v : Nat} {H : Heap} {locs : List Loc} (h : SV Γ κ n ω q v k) (hK : Kx Γ s) (hP : Rp Γ n ω H κ) (hS : va_S (gA Γ) s.heap H locs) : ∃ cell : Cell, H[q]? = some cell ∧ cell.vm.isStatics = false ∧ s.vm.findClass RJ0 = some cell.cls := by
  rcases h with ⟨i, hi, rfl, rfl, rfl⟩ | ⟨a, b, rfl, rfl, ha, hb, h0, h1, h2⟩
  · exact vk_recv (adK := fun i => gad Γ (20 + i)) (i := i) hK.strs hi hS
  · exact Rp.recv hK.1 hP ha (q := (RJ0, TJ0, 4)) rfl
theorem j_runQ {y : MethodName} {bytes : ByteArray} {maxL d D na mx sx q v : Nat} {ret : Option FieldType} {as : List Value} {Qc : Array Value → State → Outcome → State → Prop} {H : Heap} {locs : List Loc} {ls : Array Slot} (C : Cx Γ p l s m args meth c cc own nL) (h : SV Γ κ n ω q v k)
    (hM : Met l y (.code y bytes maxL ret :: WS) (rmk d 0 0) (Pcx Γ (.ref q :: as) ω n κ) Qc 0 0 (gA Γ)) (O : Oc y bytes maxL ret na) (K : Lk own idx y) (hy : y.cls = RJ0) (hD : d + 1 ≤ D ∧ maxL ≤ 40) (hn : as.length = na) (dd : decode cc pc = .ok (.invokevirtual idx, 3)) (hL : L.length = nL)
    (hcat : (S.map fun v => v.category).sum ≤ 8) (hce : ce ≤ mx ∧ sl ≤ sx) (hP : Rp Γ n ω H κ) (hS : va_S (gA Γ) s.heap H locs) (hl : lk ls L) :
    va_Run p l e (rmk D mx sx) s m args below meth c H locs ce sl 0 0 (F0 m pc ls (as.reverse ++ .ref q :: S)) S (Qc (Value.ref q :: as).toArray) (gA Γ) := by
  obtain ⟨⟨o1, o2⟩, o3, o4, o5⟩ := O
  refine va_runV (Ts := WS) (n := na) ⟨C.1, C.2.1, C.2.2.1, C.2.2.2.1, C.2.2.2.2.1⟩ hM (C := y.cls) (cwV na C.2.2.2.2.1 ?_ rfl rfl rfl ⟨rfl, o5⟩ ⟨hD.1, ?_⟩) ⟨Pcx.blind, ?_, ?_⟩ rfl hn (hl.1.trans hL) rfl (lv_room hcat) dd ⟨?_, ?_⟩
  · refine WS_in fun w hw => ?_
    unfold wsV at hw
    rcases List.mem_append.mp hw with h | h
    · simp only [List.mem_cons, List.not_mem_nil, or_false] at h
      rcases h with rfl | rfl | rfl | rfl
      · exact K
      · exact o1
      · exact o2
      · exact o3
    · exact (List.mem_cons.mp h).elim (fun q => q ▸ o4) (fun q => q)
  · show 8 + (maxL + 11) + 64 * d ≤ 64 * D
    omega
  · rw [hy]; exact h.recv C.2.2.2.2.2.1 hP hS
  · intro U hU hW
    exact ⟨rfl, C.2.2.2.2.2.1.next hW hU hS, by rw [hU]; exact hP⟩
  · show ce + 0 ≤ mx
    omega
  · show sl + 0 ≤ sx
    omega
theorem j_cQI0 {y : MethodName} {bytes : ByteArray} {maxL d D mx sx q v : Nat} {rt : FieldType} {Po : Int → Wo → Prop} (C : Cx Γ p l s m args meth c cc own nL) (h : SV Γ κ n ω q v k) (hM : CI Γ l y bytes maxL rt d [.ref q] ω Po n κ) (O : Oc y bytes maxL (some rt) 0) (K : Lk own idx y) (hy : y.cls = RJ0) (hD : d + 1 ≤ D ∧ maxL ≤ 40) (hL : L.length = nL) (hcat : (S.map fun v => v.category).sum ≤ 8) (hce : ce ≤ mx ∧ sl ≤ sx) (dd : Dx cc pc (.invokevirtual idx) 3 pc') (kx : ∀ (z : Int) (ω' : Wo), Rg z → Po z ω' → J Γ p l e (rmk D mx sx) s m args below meth c Q n ce sl pc' L (.int (iI z) :: S) ω' κ) : J Γ p l e (rmk D mx sx) s m args below meth c Q n ce sl pc L (.ref q :: S) ω κ := by
  intro H locs ls hP hS hl
  obtain ⟨hd, rfl⟩ := dd
  exact j_kI (j_runQ (as := []) C h hM O K hy hD rfl hd hL hcat hce hP hS hl) hS hl kx
theorem j_cQI1 {y : MethodName} {bytes : ByteArray} {maxL d D mx sx q v : Nat} {x1 : Value} {rt : FieldType} {Po : Int → Wo → Prop} (C : Cx Γ p l s m args meth c cc own nL) (h : SV Γ κ n ω q v k) (hM : CI Γ l y bytes maxL rt d [.ref q, x1] ω Po n κ) (O : Oc y bytes maxL (some rt) 1) (K : Lk own idx y) (hy : y.cls = RJ0) (hD : d + 1 ≤ D ∧ maxL ≤ 40) (hL : L.length = nL) (hcat : (S.map fun v => v.category).sum ≤ 8) (hce : ce ≤ mx ∧ sl ≤ sx) (dd : Dx cc pc (.invokevirtual idx) 3 pc') (kx : ∀ (z : Int) (ω' : Wo), Rg z → Po z ω' → J Γ p l e (rmk D mx sx) s m args below meth c Q n ce sl pc' L (.int (iI z) :: S) ω' κ) : J Γ p l e (rmk D mx sx) s m args below meth c Q n ce sl pc L (x1 :: .ref q :: S) ω κ := by
  intro H locs ls hP hS hl
  obtain ⟨hd, rfl⟩ := dd
  exact j_kI (j_runQ (as := [x1]) C h hM O K hy hD rfl hd hL hcat hce hP hS hl) hS hl kx
theorem j_cQV3 {y : MethodName} {bytes : ByteArray} {maxL d D mx sx q v : Nat} {x1 x2 x3 : Value} {Po : Wo → Prop} (C : Cx Γ p l s m args meth c cc own nL) (h : SV Γ κ n ω q v k) (hM : CV Γ l y bytes maxL d [.ref q, x1, x2, x3] ω Po n κ) (O : Oc y bytes maxL none 3) (K : Lk own idx y) (hy : y.cls = RJ0) (hD : d + 1 ≤ D ∧ maxL ≤ 40) (hL : L.length = nL) (hcat : (S.map fun v => v.category).sum ≤ 8) (hce : ce ≤ mx ∧ sl ≤ sx) (dd : Dx cc pc (.invokevirtual idx) 3 pc') (kx : ∀ (ω' : Wo), Po ω' → J Γ p l e (rmk D mx sx) s m args below meth c Q n ce sl pc' L S ω' κ) : J Γ p l e (rmk D mx sx) s m args below meth c Q n ce sl pc L (x3 :: x2 :: x1 :: .ref q :: S) ω κ := by
  intro H locs ls hP hS hl
  obtain ⟨hd, rfl⟩ := dd
  exact j_kV (j_runQ (as := [x1, x2, x3]) C h hM O K hy hD rfl hd hL hcat hce hP hS hl) hS hl kx
end STR
/-! copies of bytes -/
section COPY
variable {κ : Nat → Nat} {Γ : Ga} {p : Program} {l : Launch} {e : Env} {R : Room} {s : State} {m : MethodId} {args : Array Value} {below : List Frame} {meth : Method} {c : Code} {Q : State → Prop} {n ce sl : Nat} {cc : ByteArray} {own : String} {nL pc pc' idx a kk k : Nat} {L : List (Option Value)} {S : List Value} {ω : Wo}
theorem acn_w : Cond.native arraycopyName ∈ WS ∧ Cond.static arraycopyName ∈ WS ∧ Cond.initialized "java/lang/System" ∈ WS := ⟨WS_of 1003 (by decide +kernel), WS_of 1002 (by decide +kernel), WS_of 55 (by decide +kernel)⟩
theorem nfw : nativeFrameWords "java/lang/System" "arraycopy" 5 ≤ 40 := by decide
theorem iI_nn {m : Nat} (h : m < 2147483648) : ¬ iI (m : Int) < 0 := by
  rw [show (0 : Int32) = iI 0 from rfl, iI_lt ⟨by omega, by omega⟩ ⟨by decide, by decide⟩]; omega
theorem wf_rg {ω : Wo} {a : Nat} {f : Row} (h : ∀ x y, Rg (ω.1 x y)) (hf : ∀ y, Rg (f y)) : ∀ x y, Rg ((wf ω a f).1 x y) := by
  intro x y
  show Rg ((if x = a then f else ω.1 x) y)
  split
  · exact hf y
  · exact h x y
theorem EI_wf {Γ : Ga} {ω : Wo} {a kk : Nat} {f : Row} {κ : Nat → Nat} (h : κ a = kk) (hk : arrI kk = true) : WE Γ (wf ω a f) a κ = .inl (gC Γ (tyk kk), lnk kk, .inl fun j => iI (f j)) := by
  rw [WE_int h hk, wf_same]
/-- from one of the law's cells -/
theorem j_bcopy {b ka kb Na Nb sp dp mm D mx sx : Nat} (C : Cx Γ p l s m args meth c cc own nL) (hlk : Cond.methodLink own idx arraycopyName ∈ WS) (ha : At n a ka κ) (hka : arrI ka = true ∧ tyk ka = 2) (hNa : lnk ka = Na) (hb : At n b kb κ) (hkb : arrI kb = true ∧ tyk kb = 2) (hNb : lnk kb = Nb) (hab : a ≠ b)
    (hs : sp + mm ≤ Na ∧ dp + mm ≤ Nb ∧ Na < 2000 ∧ Nb < 2000) (hva : ∀ j, 0 ≤ ω.1 a j ∧ ω.1 a j < 128) (hvb : ∀ j, 0 ≤ ω.1 b j ∧ ω.1 b j < 128) (hD : 1 ≤ D) (hcat : (S.map fun v => v.category).sum ≤ 8) (hL : L.length = nL) (d : Dx cc pc (.invokestatic idx) 3 pc')
    (kx : ∀ f : Row, (∀ j, 0 ≤ f j ∧ f j < 128) → J Γ p l e (rmk D mx sx) s m args below meth c Q n ce sl pc' L S (wf ω b f) κ) : J Γ p l e (rmk D mx sx) s m args below meth c Q n ce sl pc L (.int (iI (mm : Int)) :: .int (iI (dp : Int)) :: .ref (rl Γ b) :: .int (iI (sp : Int)) :: .ref (rl Γ a) :: S) ω κ := by
  intro H locs ls hP hS hl
  obtain ⟨hd, rfl⟩ := d
  have hw1 : (WL Γ n ω κ)[a]? = some (rl Γ a, .inl (gC Γ (tyk ka), lnk ka, .inl fun j => iI (ω.1 a j))) := by rw [WL_get ha.1, WE_int ha.2.2 hka.1]
  have hw2 : (WL Γ n ω κ)[b]? = some (rl Γ b, .inl (gC Γ (tyk kb), lnk kb, .inl fun j => iI (ω.1 b j))) := by rw [WL_get hb.1, WE_int hb.2.2 hkb.1]
  have c1 := iI_cl (z := (mm : Int)) ⟨by omega, by omega⟩
  have c2 := iI_cl (z := (dp : Int)) ⟨by omega, by omega⟩
  have c3 := iI_cl (z := (sp : Int)) ⟨by omega, by omega⟩
  have hn9 := nfw
  refine va_copyi C.1 C.2.1 (by rw [C.2.2.1, hl.1, hL]) C.2.2.2.1 (C.2.2.2.2.1 _ hlk) (C.2.2.2.2.1 _ acn_w.1) (C.2.2.2.2.1 _ acn_w.2.1) (C.2.2.2.2.1 _ acn_w.2.2) C.2.2.2.2.2.1.1 hP.1 hP.D hS a b (tyk ka) (tyk kb) hw1 hw2 (by rw [hka.2]; rfl) (by rw [hkb.2]; rfl) (ty := .byte) rfl (iI_nn (by omega)) (iI_nn (by omega)) (iI_nn (by omega)) ?_ ?_ (fun i _ => fit_b (hva _)) ?_ ?_ hd (fun H1 locs1 h1 _ h3 => ?_)
  · rw [c3, c1, hNa, Int.toNat_natCast, Int.toNat_natCast]; omega
  · rw [c2, c1, hNb, Int.toNat_natCast, Int.toNat_natCast]; omega
  · show 1 ≤ D
    exact hD
  · show _ ≤ 64 * D
    omega
  · rw [c1, c2, c3] at h1
    have kk := kx (fun j => if dp ≤ j ∧ j < dp + mm then ω.1 a (sp + (j - dp)) else ω.1 b j) (fun j => by split; exact hva _; exact hvb _)
    have e9 : (WL Γ n ω κ).set b (rl Γ b, .inl (gC Γ (tyk kb), lnk kb, .inl (va_cpy (fun j => iI (ω.1 a j)) (fun j => iI (ω.1 b j)) (sp : Int).toNat (dp : Int).toNat (mm : Int).toNat))) = WL Γ n (wf ω b (fun j => if dp ≤ j ∧ j < dp + mm then ω.1 a (sp + (j - dp)) else ω.1 b j)) κ := by
      refine WL_set (by
        rw [EI_wf hb.2.2 hkb.1]
        congr 4
        funext j
        unfold va_cpy
        simp only [Int.toNat_natCast]
        split <;> rfl) (fun x hx => WE_ne (wf_ne _ _ hx) rfl (Or.inr rfl))
    rw [e9] at h1
    exact kk H1 locs1 ls ⟨h1, wf_rg hP.2.1 (fun y => by have := hva (sp + (y - dp)); have := hvb y; split <;> exact ⟨by omega, by omega⟩), hP.2.2⟩ h3 hl
/-- from a String's bytes -/
theorem j_scopy {b kb Nb q v dp D mx sx : Nat} (C : Cx Γ p l s m args meth c cc own nL) (hlk : Cond.methodLink own idx arraycopyName ∈ WS) (h : SV Γ κ n ω q v k) (hb : At n b kb κ) (hkb : arrI kb = true ∧ tyk kb = 2) (hNb : lnk kb = Nb) (hbs : ∀ x, v = rl Γ x → x < n → x ≠ b)
    (hs : dp + k ≤ Nb ∧ k < 2000 ∧ Nb < 2000) (hvb : ∀ j, 0 ≤ ω.1 b j ∧ ω.1 b j < 128) (hD : 1 ≤ D) (hcat : (S.map fun v => v.category).sum ≤ 8) (hL : L.length = nL) (d : Dx cc pc (.invokestatic idx) 3 pc')
    (kx : ∀ f : Row, (∀ j, 0 ≤ f j ∧ f j < 128) → J Γ p l e (rmk D mx sx) s m args below meth c Q n ce sl pc' L S (wf ω b f) κ) : J Γ p l e (rmk D mx sx) s m args below meth c Q n ce sl pc L (.int (iI (k : Int)) :: .int (iI (dp : Int)) :: .ref (rl Γ b) :: .int (iI 0) :: .ref v :: S) ω κ := by
  rcases h with ⟨i, hi, rfl, rfl, rfl⟩ | ⟨a, b2, rfl, rfl, ha, hb2, h0, h1, h2⟩
  · intro H locs ls hP hS hl
    obtain ⟨hd, rfl⟩ := d
    have hw2 : (WL Γ n ω κ)[b]? = some (rl Γ b, .inl (gC Γ (tyk kb), lnk kb, .inl fun j => iI (ω.1 b j))) := by rw [WL_get hb.1, WE_int hb.2.2 hkb.1]
    have c1 := iI_cl (z := ((slen.getD i 0 : Nat) : Int)) ⟨by omega, by omega⟩
    have c2 := iI_cl (z := (dp : Int)) ⟨by omega, by omega⟩
    have c3 : (iI 0).toNatClampNeg = 0 := rfl
    have hn9 := nfw
    have h3s := slen_3 i hi
    refine vk_copyt C.1 C.2.1 (by rw [C.2.2.1, hl.1, hL]) C.2.2.2.1 (C.2.2.2.2.1 _ hlk) (C.2.2.2.2.1 _ acn_w.1) (C.2.2.2.2.1 _ acn_w.2.1) (C.2.2.2.2.1 _ acn_w.2.2) C.2.2.2.2.2.1.1 hP.1 hP.D hS ((C.2.2.2.2.2.1.strs.1 i hi).2.2.2) b (tyk kb) hw2 (by rw [hkb.2]; rfl) (sp := iI 0) (dp := iI (dp : Int)) (n := iI ((slen.getD i 0 : Nat) : Int)) (by decide) (iI_nn (by omega)) (iI_nn (by omega)) ?_ ?_ (fun j hj => ?_) ?_ ?_ hd (fun H1 locs1 h1 _ h3 => ?_)
    · rw [c3, c1, Int.toNat_natCast]; omega
    · rw [c2, c1, hNb, Int.toNat_natCast, Int.toNat_natCast]; omega
    · rw [c1, Int.toNat_natCast] at hj; rw [c3, Nat.zero_add]
      exact sbyt_b i hi j (by omega)
    · show 1 ≤ D
      exact hD
    · show _ ≤ 64 * D
      omega
    · rw [c1, c2, c3] at h1
      have hsr : ∀ j, 0 ≤ ((sbyt.getD i []).getD j 0).toInt ∧ ((sbyt.getD i []).getD j 0).toInt < 128 := by
        have : ∀ i, i < 4 → ∀ j, j < 4 → 0 ≤ ((sbyt.getD i []).getD j 0).toInt ∧ ((sbyt.getD i []).getD j 0).toInt < 128 := by decide
        intro j
        by_cases hj : j < 4
        · exact this i hi j hj
        · have hz : ∀ i, i < 4 → (sbyt.getD i []).length ≤ 4 := by decide
          rw [List.getD_eq_getElem?_getD (l := sbyt.getD i []), List.getElem?_eq_none (by have := hz i hi; omega)]; decide
      have kk := kx (fun j => if dp ≤ j ∧ j < dp + slen.getD i 0 then ((sbyt.getD i []).getD (j - dp) 0).toInt else ω.1 b j) (fun j => by split; exact hsr _; exact hvb _)
      have e9 : (WL Γ n ω κ).set b (rl Γ b, .inl (gC Γ (tyk kb), lnk kb, .inl (va_cpy (fun j => (sbyt.getD i []).getD j 0) (fun j => iI (ω.1 b j)) 0 (dp : Int).toNat ((slen.getD i 0 : Nat) : Int).toNat))) = WL Γ n (wf ω b (fun j => if dp ≤ j ∧ j < dp + slen.getD i 0 then ((sbyt.getD i []).getD (j - dp) 0).toInt else ω.1 b j)) κ := by
        refine WL_set (by
          rw [EI_wf hb.2.2 hkb.1]
          congr 4
          funext j
          unfold va_cpy
          simp only [Int.toNat_natCast, Nat.zero_add]
          split
          · exact iI_self _
          · rfl) (fun x hx => WE_ne (wf_ne _ _ hx) rfl (Or.inr rfl))
      rw [e9] at h1
      exact kk H1 locs1 ls ⟨h1, wf_rg hP.2.1 (fun y => by have := hsr (y - dp); have := hvb y; split <;> exact ⟨by omega, by omega⟩), hP.2.2⟩ h3 hl
  · exact j_bcopy (sp := 0) C hlk hb2 (kk_b k) (lnk_b k) hb hkb hNb (hbs b2 rfl hb2.1) ⟨by omega, hs.1, hs.2.1, hs.2.2⟩ h2 hvb hD hcat hL d kx
end COPY
