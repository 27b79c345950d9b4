/-! the law from its entry -/
section LAW3
variable {Γ : Ga} {p : Program} {l : Launch} {e : Env} {R : Room} {s : State} {m : MethodId} {args : Array Value} {below : List Frame} {meth : Method} {c : Code} {Q : State → Prop} {ce sl : Nat} {cc : ByteArray} {own : String} {nL pc pc' : Nat} {L : List (Option Value)} {S : List Value} {ω : Wo}
theorem j_newL (C : Cx Γ p l s m args meth c cc own nL) (hz : Hz Γ s 252 ce) (hw1 : ω.1 252 = fun _ => 0) (hcells : ce + 1 ≤ R.cells ∧ sl + 1 ≤ R.slots) (d : Dx cc pc (.newarray .long) 2 pc') (kx : J Γ p l e R s m args below meth c Q 253 (ce + 1) (sl + 1) pc' L (.ref (rl Γ 252) :: S) ω) : J Γ p l e R s m args below meth c Q 252 ce sl pc L (.int (iI 1) :: S) ω := by
  intro H locs ls hP hS hl
  obtain ⟨hd, rfl⟩ := d
  have hK := C.2.2.2.2.2.1.1
  refine va_newa (atype := .long) (a0 := (1, .inr (.inl fun j => Int64.ofInt (ω.1 252 j)))) (N' := 1) C.1 C.2.1 (C.2.2.2.2.1 _ (WS_of (w := Cond.arrayClass .long) 1976 (by decide +kernel))) (ty := .long) rfl hK hP.1 Rp.D hS (fun q hq => by have := hz.1; have := hz.2; show gB Γ ≤ q; omega) (fun cA => ?_) (by decide) (by decide) (by decide) hcells.1 hcells.2 hd (fun q cA H1 hK1 hP1 hD1 hS1 => ?_)
  · rw [vp_cell_l, hw1]; rfl
  · intro T1 hT X
    have hq := new_at hz hP1 hD1 X hT
    subst hq
    have hc := cls_eq (t0 := 8) hK rfl hK1
    subst hc
    have e9 : WL Γ (252 + 1) ω = WL Γ 252 ω ++ [(gB Γ + 252, .inl (gC Γ 8, 1, .inr (.inl fun j => Int64.ofInt (ω.1 252 j))))] := by rw [WL_s, WE_lng]
    rw [← rl_lt (Γ := Γ) (a := 252) (by decide)]
    exact kx H1 locs ls ⟨by rw [e9]; exact hP1, hP.2⟩ hS1 hl T1 hT X
theorem j_newD (C : Cx Γ p l s m args meth c cc own nL) (hz : Hz Γ s 253 ce) (hw1 : ω.2.2 = 0) (hcells : ce + 1 ≤ R.cells ∧ sl + 1 ≤ R.slots) (d : Dx cc pc (.newarray .double) 2 pc') (kx : J Γ p l e R s m args below meth c Q 254 (ce + 1) (sl + 1) pc' L (.ref (rl Γ 253) :: S) ω) : J Γ p l e R s m args below meth c Q 253 ce sl pc L (.int (iI 1) :: S) ω := by
  intro H locs ls hP hS hl
  obtain ⟨hd, rfl⟩ := d
  have hK := C.2.2.2.2.2.1.1
  refine va_newa (atype := .double) (a0 := (1, .inr (.inr (.inr (.inl fun _ => ω.2.2))))) (N' := 1) C.1 C.2.1 (C.2.2.2.2.1 _ (WS_of (w := Cond.arrayClass .double) 1977 (by decide +kernel))) (ty := .double) rfl hK hP.1 Rp.D hS (fun q hq => by have := hz.1; have := hz.2; show gB Γ ≤ q; omega) (fun cA => ?_) (by decide) (by decide) (by decide) hcells.1 hcells.2 hd (fun q cA H1 hK1 hP1 hD1 hS1 => ?_)
  · rw [vp_cell_d, hw1]; rfl
  · intro T1 hT X
    have hq := new_at hz hP1 hD1 X hT
    subst hq
    have hc := cls_eq (t0 := 9) hK rfl hK1
    subst hc
    have e9 : WL Γ (253 + 1) ω = WL Γ 253 ω ++ [(gB Γ + 253, .inl (gC Γ 9, 1, .inr (.inr (.inr (.inl fun _ => ω.2.2)))))] := by rw [WL_s, WE_dbl]
    rw [← rl_lt (Γ := Γ) (a := 253) (by decide)]
    exact kx H1 locs ls ⟨by rw [e9]; exact hP1, hP.2⟩ hS1 hl T1 hT X
end LAW3
set_option maxRecDepth 100000 in
set_option maxHeartbeats 4000000 in
theorem law_start {Γ : Ga} {p : Program} {l : Launch} {e : Env} {s : State} {m : MethodId} {below : List Frame} {meth : Method} {c : Code} {b Ls : Nat} {xs : Nat → Int32} (C : Cx Γ p l s m #[Value.ref b] meth c cL_law RL 10) (hK3 : Kt3 s) (hA : Ka s) (hsl : l.stackTraces = false) (hX : va_X b Ls xs s s.heap) (hb : b < s.heap.size ∧ b < gB Γ) (hLs : Ls ≤ 1536) (hr : meth.sig.returnType = ret) (hg : gB Γ = s.heap.size) :
    J Γ p l e R9 s m #[Value.ref b] below meth c (lw_Z below #[Value.ref b] s) 0 0 0 0 [some (.ref b), none, none, none, none, none, none, none, none, none] [] om0 := by
  have hz : ∀ n, Hz Γ s n n := fun n => ⟨by omega, Nat.le_refl n⟩
  refine j_new (kk := 0) C (hz 0) rfl uwX8 tyX8_ok (WS_of 120 (by decide +kernel)) (WS_of 121 (by decide +kernel)) (WS_of 86 (by decide +kernel)) (by decide) rfl (by decide) rfl rfl ⟨by decide, by decide⟩ dL_law_0 ?_
  refine j_cn (n' := 1) (ce' := 1) (sl' := 12) rfl rfl rfl ?_
  refine j_dup C rfl dL_law_3 ?_
  refine j_ctor C hA (hz 1) (by decide) c_X8_init iX8_init (show Lk RL 124 yX8_init from WS_of 122 (by decide +kernel)) ⟨by decide, by decide⟩ rfl (Nat.le_of_ble_eq_true rfl) ⟨by decide, by decide⟩ dL_law_4 ?_
  rintro _ rfl
  refine j_cn (n' := 243) (ce' := 243) (sl' := 1471) rfl rfl rfl ?_
  refine j_astore1 C rfl dL_law_7 ?_
  have hZ := ZN_pst (n := 243) (Nat.le_refl _)
  refine j_new (kk := 7) C (hz 243) rfl uwX9 tyX9_ok (WS_of 1512 (by decide +kernel)) (WS_of 1513 (by decide +kernel)) (WS_of 97 (by decide +kernel)) (by decide) rfl (by decide) (hZ.at (Nat.le_refl _)).1 (hZ.at (Nat.le_refl _)).2 ⟨by decide, by decide⟩ dL_law_8 ?_
  refine j_cn (n' := 244) (ce' := 244) (sl' := 1491) rfl rfl rfl ?_
  refine j_dup C rfl dL_law_11 ?_
  refine j_ctor C hA (hz 244) (by decide) (c_X9_init (hZ.mono (by decide))) iX9_init (show Lk RL 127 yX9_init from WS_of 1514 (by decide +kernel)) ⟨by decide, by decide⟩ rfl (Nat.le_of_ble_eq_true rfl) ⟨by decide, by decide⟩ dL_law_12 ?_
  rintro _ rfl
  refine j_cn (n' := 252) (ce' := 252) (sl' := 2986) rfl rfl rfl ?_
  refine j_astore2 C rfl dL_law_15 ?_
  refine j_iconst C dL_law_16 ?_
  refine j_newL C (hz 252) (om9_z (by omega)) ⟨by decide, by decide⟩ dL_law_17 ?_
  refine j_astore3 C rfl dL_law_19 ?_
  refine j_iconst C dL_law_20 ?_
  refine j_newD C (hz 253) om9_d ⟨by decide, by decide⟩ dL_law_21 ?_
  refine j_astore4 C rfl dL_law_23 ?_
  refine j_iconst C dL_law_25 ?_
  refine j_istore5 C rfl dL_law_26 ?_
  refine j_widen (ce' := 254 + 2 * 0) (sl' := 4000 + 12 * 0) (by decide) (by decide) ?_
  exact law_loop C hK3 hsl hX hb hLs hr (by omega) (Ls + 1) 0 om9 none none none none (by omega) (by decide) (by rw [show (1000 : Int) + 70000 * ((0 : Nat) : Int) = 1000 from by decide]; exact INV_0)
theorem whole_start {p : Program} {e : Env} {s : State} {m : MethodId} {below : List Frame} {meth : Method} {c : Code} (l : Launch) (hflags : l.flags = flags0) {b L : Nat} {xs : Nat → Int32} (hL : L ≤ 1536) (C0 : lw_At p s m meth c b L xs) : W p l e room_1 s m #[Value.ref b] below meth c s.heap [] 0 0 (lw_Z below #[Value.ref b] s) (entryFrame m ([Value.ref b] : List Value).toArray 10) := by
  obtain ⟨hx, hcb, hrt, hml, hown, hts, hX, hbl, hlk, hgv⟩ := C0
  obtain ⟨CC, I, G, hK⟩ := start_K hts
  obtain ⟨gd, hS⟩ := start_Ks hts hgv
  have hKx : Kx ((CC, I, G, gd, s.heap.size) : Ga) s := ⟨hK gd _, hS CC I G, start_Kt hts hgv⟩
  have C : Cx ((CC, I, G, gd, s.heap.size) : Ga) p l s m #[Value.ref b] meth c cL_law RL 10 := ⟨hx, hcb, hml, hown, fun w hw => hts w (List.mem_filter.mp hw).1, hKx, hlk⟩
  have hc1 : ∀ k, k < 6 → lw_tbl[[857, 906, 958, 1089, 590, 1474].getD k 0]? = some (Cond.castable (["java/lang/IllegalArgumentException", "java/lang/IndexOutOfBoundsException", "java/util/NoSuchElementException", "java/lang/IllegalStateException", "java/lang/UnsupportedOperationException", "java/lang/ArithmeticException"].getD k "") (["java/lang/IllegalArgumentException", "java/lang/IndexOutOfBoundsException", "java/util/NoSuchElementException", "java/lang/IllegalStateException", "java/lang/UnsupportedOperationException", "java/lang/ArithmeticException"].getD k "")) := by decide +kernel
  have hK3 : Kt3 s := by
    refine ⟨⟨va_Nw.of rfl (tb_at hts 592 (by decide +kernel)), va_Nw.of rfl (tb_at hts 594 (by decide +kernel)), va_Nw.of rfl (tb_at hts 596 (by decide +kernel)), fun q hq => ?_, va_Nw.of rfl (tb_at hts 489 (by decide +kernel))⟩, va_Nc.of (nv_at hgv 371 (by decide +kernel)), va_Nc.of (nv_at hgv 372 (by decide +kernel)), va_Nc.of (nv_at hgv 352 (by decide +kernel))⟩
    obtain ⟨j, hj⟩ := List.getElem?_of_mem hq
    have hj6 : j < 6 := (List.getElem?_eq_some_iff.mp hj).1
    have e1 := hc1 j hj6
    rw [List.getD_eq_getElem?_getD (l := ["java/lang/IllegalArgumentException", "java/lang/IndexOutOfBoundsException", "java/util/NoSuchElementException", "java/lang/IllegalStateException", "java/lang/UnsupportedOperationException", "java/lang/ArithmeticException"]), hj] at e1
    exact va_Nw.of rfl (tb_at hts _ e1)
  have hA : Ka s := ⟨va_AO.of (tb_at hts 135 (by decide +kernel)), va_AO.of (tb_at hts 137 (by decide +kernel)), va_AO.of (tb_at hts 139 (by decide +kernel)), va_AO.of (tb_at hts 278 (by decide +kernel)), va_AO.of (tb_at hts 301 (by decide +kernel))⟩
  have hsl : l.stackTraces = false := by
    unfold Launch.stackTraces
    rw [hflags]; decide
  have K := law_start (e := e) (below := below) C hK3 hA hsl hX ⟨hbl, hbl⟩ hL hrt rfl
  refine W_room (R' := R9) ⟨by decide, by decide, by decide, by decide⟩ ?_
  rw [lg_entry_eq]
  exact K s.heap [] _ ⟨fun k q hq => (by cases hq), fun _ _ => (show Rg 0 from ⟨by decide, by decide⟩)⟩ va_S.rf (lk.entry (k := 9) rfl rfl rfl)
