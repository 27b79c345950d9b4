/-! the deeds: their constants, their numbers, the table of a switch -/
def sw (i : Nat) : Int := if i = 8 then 0 else i + 1
section ENUMS
variable {Γ : Ga} {p : Program} {l : Launch} {e : Env} {R : Room} {s : State} {m : MethodId} {args : Array Value} {below : List Frame} {meth : Method} {c : Code} {Q : State → Prop} {n ce sl : Nat} {cc : ByteArray} {own : String} {nL pc pc' idx a kk k : Nat} {L : List (Option Value)} {S : List Value} {ω : Wo}
theorem ord_iI : ∀ i, i < 9 → ([0, 1, 2, 3, 4, 5, 6, 7, 8] : List Int32).getD i 0 = iI (i : Int) := by decide
theorem sw_iI : ∀ i, i < 9 → swm.getD i 0 = iI (sw i) := by decide
theorem c_ord {i : Nat} (hi : i < 9) : CI Γ l yJx29ce0_ordinal_8abf5 cJx29ce0_ordinal_8abf5 1 .int 0 [.ref (gad Γ i)] ω (fun z ω' => z = (i : Int) ∧ ω = ω') := by
  refine Met.ofJ (k := 0) [some (.ref (gad Γ i))] (by decide) rfl rfl rfl (fun p e s mm args below meth c C hrt => ?_)
  refine j_aload0 C dJx29ce0_ordinal_8abf5_0 ?_
  intro H locs ls hP hS hl
  have hE := C.2.2.2.2.2.1.2.1.1
  refine va_getE C.1 C.2.1 hE (i := i) hi hS C.2.2.2.1 (q := ("java/lang/Enum", "ordinal", "I", [0, 1, 2, 3, 4, 5, 6, 7, 8])) List.mem_cons_self (C.2.2.2.2.1 _ (WS_of 1368 (by decide +kernel))) (fun x h => h) dJx29ce0_ordinal_8abf5_1.1 ?_
  have h9 : (Value.int (([0, 1, 2, 3, 4, 5, 6, 7, 8] : List Int32).getD i 0)) = .int (iI (i : Int)) := by rw [ord_iI i hi]
  have K := j_iret (Po := fun z ω' => z = (i : Int) ∧ ω = ω') (e := e) (R := rmk 0 0 0) (below := below) (ce := 0) (sl := 0) (L := [some (.ref (gad Γ i))]) (z := (i : Int)) C hrt dJx29ce0_ordinal_8abf5_4 ⟨by omega, by omega⟩ ⟨rfl, rfl⟩ H locs ls hP hS hl
  rw [← h9] at K
  exact K
theorem j_ord {i mx sx D : Nat} (C : Cx Γ p l s m args meth c cc RX8 nL) (hK : Kt2 s) (hi : i < 9) (hD : 1 ≤ D) (hL : L.length = nL) (hcat : (S.map fun v => v.category).sum ≤ 8) (hce : ce ≤ mx ∧ sl ≤ sx) (dd : Dx cc pc (.invokevirtual 394) 3 pc')
    (kx : J Γ p l e (rmk D mx sx) s m args below meth c Q 243 ce sl pc' L (.int (iI (i : Int)) :: S) ω) : J Γ p l e (rmk D mx sx) s m args below meth c Q 243 ce sl pc L (.ref (gad Γ i) :: S) ω := by
  intro H locs ls hP hS hl
  obtain ⟨hd, rfl⟩ := dd
  have hE := C.2.2.2.2.2.1.2.1.1
  have hr : va_Run p l e (rmk D mx sx) s m args below meth c H locs ce sl 0 0 (F0 m pc ls (([] : List Value).reverse ++ .ref (gad Γ i) :: S)) S (QI Γ (fun z ω' => z = (i : Int) ∧ ω = ω') 243 kd (Value.ref (gad Γ i) :: []).toArray) (gA Γ) := by
    refine va_runU (Ts := WS) (n := 0) ⟨C.1, C.2.1, C.2.2.1, C.2.2.2.1, C.2.2.2.2.1⟩ (c_ord (ω := ω) hi) (va_cwA (owner := "java/lang/Enum") (C := RX2) (x := ⟨RX2, "ordinal", "()I"⟩) 0 C.2.2.2.2.1 (WS_in fun w hw => ?_) rfl rfl rfl hK.2.2.2.2 ⟨by decide, by decide, rfl⟩ ⟨hD, ?_⟩) ⟨Pcx.blind, ?_, ?_⟩ rfl rfl (hl.1.trans hL) rfl (lv_room hcat) hd ⟨?_, ?_⟩
    · unfold va_wsU at hw
      rcases List.mem_append.mp hw with h | h
      · simp only [List.mem_cons, List.not_mem_nil, or_false] at h
        rcases h with rfl | rfl | rfl | rfl | rfl
        · exact WS_of 283 (by decide +kernel)
        · exact WS_of 284 (by decide +kernel)
        · exact WS_of 286 (by decide +kernel)
        · exact WS_of 287 (by decide +kernel)
        · exact WS_of 39 (by decide +kernel)
      · exact (List.mem_cons.mp h).elim (fun q => q ▸ WS_of 288 (by decide +kernel)) (fun q => q)
    · show 8 + (1 + 11) + 64 * 0 ≤ 64 * D
      omega
    · exact va_recvE hE hi hS
    · intro U hU hW
      exact ⟨rfl, C.2.2.2.2.2.1.next hW hU hS, by rw [hU]; exact hP⟩
    · exact hce.1
    · exact hce.2
  exact j_kI hr hS hl (fun z ω' _ h => by obtain ⟨rfl, rfl⟩ := h; exact kx)
theorem j_swm (C : Cx Γ p l s m args meth c cc RX8 nL) (d : Dx cc pc (.getstatic 388) 3 pc') (kx : J Γ p l e R s m args below meth c Q n ce sl pc' L (.ref (gad Γ 10) :: S) ω) : J Γ p l e R s m args below meth c Q n ce sl pc L S ω := by
  intro H locs ls hP hS hl
  obtain ⟨hd, rfl⟩ := d
  exact va_gets C.1 C.2.1 C.2.2.2.2.2.1.2.1.2.2.2.1 hS C.2.2.2.1 (C.2.2.2.2.1 _ (WS_of (w := Cond.fieldLink RX8 388 RX0 "$SwitchMap$BoatRota$Deed" "[I") 281 (by decide +kernel))) (fun x h => h) hd (kx H locs ls hP hS hl)
theorem j_swi {i : Nat} (C : Cx Γ p l s m args meth c cc own nL) (hi : i < 9) (d : Dx cc pc .iaload 1 pc') (kx : J Γ p l e R s m args below meth c Q n ce sl pc' L (.int (iI (sw i)) :: S) ω) : J Γ p l e R s m args below meth c Q n ce sl pc L (.int (iI (i : Int)) :: .ref (gad Γ 10) :: S) ω := by
  intro H locs ls hP hS hl
  obtain ⟨hd, rfl⟩ := d
  refine va_ti C.1 C.2.1 C.2.2.2.2.2.1.2.1.2.2.2.2.1 hS (i := iI (i : Int)) (iI_in ⟨by omega, by omega⟩ (by decide)) (v := .int (iI (sw i))) ?_ hd (kx H locs ls hP hS hl)
  show Value.int (swm.getD (iI (i : Int)).toNatClampNeg 0) = _
  rw [iI_cl ⟨by omega, by omega⟩, Int.toNat_natCast, sw_iI i hi]
theorem j_deed {i : Nat} (C : Cx Γ p l s m args meth c cc RX8 nL) (hi : i < 9) (hlk : Cond.fieldLink RX8 idx RX2 (dnm.getD i "") "LBoatRota$Deed;" ∈ WS) (d : Dx cc pc (.getstatic idx) 3 pc') (kx : J Γ p l e R s m args below meth c Q n ce sl pc' L (.ref (gad Γ i) :: S) ω) : J Γ p l e R s m args below meth c Q n ce sl pc L S ω := by
  intro H locs ls hP hS hl
  obtain ⟨hd, rfl⟩ := d
  exact va_gets C.1 C.2.1 (C.2.2.2.2.2.1.2.1.1.1 i hi).1 hS C.2.2.2.1 (C.2.2.2.2.1 _ hlk) (fun x h => h) hd (kx H locs ls hP hS hl)
end ENUMS
