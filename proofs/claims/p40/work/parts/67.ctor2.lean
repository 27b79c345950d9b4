/-! constructors of the script, the builder, the model, the class -/
theorem STB_i {ω : Wo} {B x : Nat} (h : x ≠ B) : (STB ω B).1 x = ω.1 x := (wi_ne h).trans rfl
theorem STN_i {ω : Wo} {B x : Nat} (h : x ≠ B) : (STN ω B).1 x = ω.1 x := by
  unfold STN; rw [loopW_i, loopW_i, loopW_i]; exact STB_i h
theorem STN_r {ω : Wo} {B x : Nat} (h : x < B ∨ B + 4 ≤ x) : (STN ω B).2.1 x = ω.2.1 x := by
  unfold STN
  rw [loopW_ne (by omega), loopW_ne (by omega), loopW_ne (by omega)]
  exact ((wr_ne (by omega)).trans ((wr_ne (by omega)).trans (wr_ne (by omega))))
theorem STN_d {ω : Wo} {B : Nat} : (STN ω B).2.2 = ω.2.2 := by
  unfold STN; rw [loopW_d, loopW_d, loopW_d]; rfl
theorem ZN.stn {ω : Wo} {B : Nat} (h : ZN ω B) : ZN (STN ω B) (B + 21) := fun x hx => ⟨(STN_i (by omega)).trans (h x (by omega)).1, (STN_r (by omega)).trans (h x (by omega)).2⟩
section CT1
variable {Γ : Ga} {p : Program} {l : Launch} {e : Env} {R : Room} {s : State} {m : MethodId} {args : Array Value} {below : List Frame} {meth : Method} {c : Code} {Q : State → Prop} {n ce sl : Nat} {cc : ByteArray} {own : String} {nL pc pc' idx a kk k : Nat} {L : List (Option Value)} {S : List Value} {ω : Wo}
def Oi1 (y : MethodName) (bytes : ByteArray) (maxL : Nat) : Prop := Cond.instanceMethod y ∈ WS ∧ Cond.initialized y.cls ∈ WS ∧ Cond.code y bytes maxL none ∈ WS ∧ y.name = "<init>" ∧ (y.cls ≠ "java/lang/invoke/MethodHandle" ∧ y.cls ≠ "java/lang/invoke/VarHandle" ∧ (parseMethodDescriptor y.desc).map (fun d => d.parameters.length) = some 1)
theorem j_ctor1 {y : MethodName} {bytes : ByteArray} {maxL d D mc ms mx sx : Nat} {x1 : Value} {Po : Wo → Prop} (C : Cx Γ p l s m args meth c cc own nL) (hA : Ka s) (hz : Hz Γ s n ce) (hn : 0 < n) (hn9 : n ≤ 243) (hM : CN Γ l y bytes maxL d mc ms [.ref (rl Γ a), x1] ω n Po) (O : Oi1 y bytes maxL) (K : Lk own idx y) (hD : d + 1 ≤ D ∧ maxL ≤ 40) (hL : L.length = nL) (hcat : (S.map fun v => v.category).sum ≤ 8) (hce : ce + mc ≤ mx ∧ sl + ms ≤ sx) (dd : Dx cc pc (.invokespecial idx) 3 pc')
    (kx : ∀ ω' : Wo, Po ω' → J Γ p l e (rmk D mx sx) s m args below meth c Q (n + mc) (ce + mc) (sl + ms) pc' L S ω') : J Γ p l e (rmk D mx sx) s m args below meth c Q n ce sl pc L (x1 :: .ref (rl Γ a) :: S) ω := by
  intro H locs ls hP hS hl
  obtain ⟨hd, rfl⟩ := dd
  obtain ⟨o1, o2, o3, o4, o5⟩ := O
  intro T hT X
  have hH := hz.eq hn hn9 hP X hT
  refine (show W p l e (rmk D mx sx) s m args below meth c H locs ce sl Q (F0 m pc ls (x1 :: .ref (rl Γ a) :: S)) from j_kN (as := [.ref (rl Γ a), x1]) (va_runI (As := [x1]) (n := 1) ⟨C.1, C.2.1, C.2.2.1, C.2.2.2.1, C.2.2.2.2.1⟩ hM ⟨callB_of 1 C.2.2.2.2.1 (inWS o3) rfl rfl rfl (C.2.2.2.2.1 _ o2) (C.2.2.2.2.1 _ K) o5 ⟨hD.1, ?_⟩, o4, C.2.2.2.2.1 _ o1⟩ ⟨KN.blind, ?_⟩ rfl rfl (hl.1.trans hL) rfl (lv_room hcat) hd ⟨hce.1, hce.2⟩) hS hl kx) T hT X
  · show 8 + (maxL + 11) + 64 * d ≤ 64 * D
    omega
  · intro U hU hW
    exact ⟨rfl, ⟨C.2.2.2.2.2.1.next hW hU hS, hA.moved hW.alike⟩, by rw [hU]; exact hP, by rw [hU]; exact hH, hz.2.2⟩
theorem j_put8r {b : Nat} (C : Cx Γ p l s m args meth c cc RJ5 nL) (ha : At n a 8) (d : Dx cc pc (.putfield 15) 3 pc') (kx : J Γ p l e R s m args below meth c Q n ce sl pc' L S (wr ω a 0 (some b))) (hb9 : b < 243 := by omega) : J Γ p l e R s m args below meth c Q n ce sl pc L (.ref (rl Γ b) :: .ref (rl Γ a) :: S) ω := by
  intro H locs ls hP hS hl
  obtain ⟨hd, rfl⟩ := d
  have he : (WL Γ n ω)[a]? = some (rl Γ a, .inr (8, (List.range (nf 8)).map (fv Γ ω 8 a))) := by rw [WL_get ha.1, WE_obj ha.2.2 (by decide)]
  have hlk : Cond.fieldLink RJ5 15 (TJ4 0).1 (TJ4 0).2.1 (TJ4 0).2.2.1 ∈ WS := WS_of 847 (by decide +kernel)
  refine va_put C.1 C.2.1 C.2.2.2.2.1 (C := RJ4) (T := TJ4) (N := 4) uwJ4 tyJ4 tyJ4_ok nmJ4 C.2.2.2.1 C.2.2.2.2.2.1.1 hP.1 hP.D hS a he rfl 0 (by decide) (C.2.2.2.2.1 _ hlk) (fun x h => h) rfl (ty := .array .byte) (by decide +kernel) rfl rfl (by simp [nf]) hd fun H1 locs1 h1 _ h3 => ?_
  have e9 : (WL Γ n ω).set a (rl Γ a, .inr (8, ((List.range (nf 8)).map (fv Γ ω 8 a)).set 0 (.ref (rl Γ b)))) = WL Γ n (wr ω a 0 (some b)) := WL_set (by rw [WE_obj ha.2.2 (by decide), fv_set_r (kk := 8) (by decide) rfl]) (fun x hx => WE_ne rfl (wr_ne hx) (Or.inr rfl))
  rw [e9] at h1
  exact kx H1 locs1 ls ⟨h1, hP.2.1, hP.2.2.1, hP.2.2.2.put (fun _ => Or.inl hb9)⟩ h3 hl
end CT1
theorem iJ5_init : Oi1 yJ5_init_d00df cJ5_init_d00df 2 := ⟨WS_of 835 (by decide +kernel), WS_of 35 (by decide +kernel), WS_of 836 (by decide +kernel), rfl, ⟨by decide +kernel, by decide +kernel, by decide +kernel⟩⟩
set_option maxRecDepth 100000 in
set_option maxHeartbeats 4000000 in
theorem c_J5_init {Γ : Ga} {l : Launch} {ω : Wo} (hZN : ZN ω 74) (h0 : ω.1 73 = fun _ => 0) : CN Γ l yJ5_init_d00df cJ5_init_d00df 2 1 1 16 [.ref (rl Γ 73), .int (iI 16)] ω 74 (fun ω' => ω' = wr ω 73 0 (some 74)) := by
  refine MetN.ofJ (k := 0) [some (.ref (rl Γ 73)), some (.int (iI 16))] (by decide) rfl rfl rfl rfl (fun p e s mm args below meth c C hin0 hAO hz hrt => ?_)
  have hZ0 := hZN
  refine j_aload0 C dJ5_init_d00df_0 ?_
  refine j_obj C (WS_of 837 (by decide +kernel)) (by decide) rfl (Nat.le_of_ble_eq_true rfl) dJ5_init_d00df_1 ?_
  refine j_compact C dJ5_init_d00df_4 ?_
  refine j_if_eq C (by decide) dJ5_init_d00df_7 (fun hc => absurd hc (by decide)) (fun _ => ?_)
  refine j_aload0 C dJ5_init_d00df_10 ?_
  refine j_iload1 C dJ5_init_d00df_11 ?_
  refine j_newa (kk := 17) (N := 16) C (hz.at (by omega)) (WS_of 144 (by decide +kernel)) rfl (by omega) rfl rfl rfl rfl rfl rfl (by decide) (by decide) (hZ0.at (by omega)).1 ⟨by show _ ≤ 1; omega, by show _ + 16 ≤ 16; omega⟩ dJ5_init_d00df_12 ?_
  refine j_cn (n' := 75) (ce' := 1) (sl' := 16) (by omega) (by omega) (by omega) ?_
  have hZ1 := hZ0.mono (n' := 75) (by omega)
  refine j_put8r (b := 74) C ⟨by decide, by decide, rfl⟩ dJ5_init_d00df_14 ?_
  refine j_aload0 C dJ5_init_d00df_17 ?_
  refine j_iconst C dJ5_init_d00df_18 ?_
  refine j_put8 C (k := 1) (by decide) (WS_of 848 (by decide +kernel)) ⟨by decide, by decide, rfl⟩ rfl (ty := .byte) (by decide +kernel) rfl rfl rfl ⟨by decide, by decide⟩ dJ5_init_d00df_19 ?_
  refine j_conv rfl rfl (wi_0 (congrFun h0 1)) ?_
  refine j_goto C dJ5_init_d00df_22 ?_
  exact j_nret C hrt dJ5_init_d00df_38 rfl ⟨rfl, rfl⟩ rfl
set_option maxRecDepth 100000 in
set_option maxHeartbeats 4000000 in
theorem c_J4_init {Γ : Ga} {l : Launch} {ω : Wo} (hZN : ZN ω 74) (h0 : ω.1 73 = fun _ => 0) : CN Γ l yJ4_init_da8c8 cJ4_init_da8c8 1 2 1 16 [.ref (rl Γ 73)] ω 74 (fun ω' => ω' = wr ω 73 0 (some 74)) := by
  refine MetN.ofJ (k := 0) [some (.ref (rl Γ 73))] (by decide) rfl rfl rfl rfl (fun p e s mm args below meth c C hin0 hAO hz hrt => ?_)
  refine j_aload0 C dJ4_init_da8c8_0 ?_
  refine j_bipush C (by decide) dJ4_init_da8c8_1 ?_
  refine j_ctor1 C hAO (hz.at (by omega)) (by omega) (by omega) (c_J5_init hZN h0) iJ5_init kJ4_1 ⟨by decide, by decide⟩ rfl (Nat.le_of_ble_eq_true rfl) ⟨by decide, by decide⟩ dJ4_init_da8c8_3 ?_
  rintro _ rfl
  exact j_nret C hrt dJ4_init_da8c8_6 rfl ⟨rfl, rfl⟩ rfl
def SCN (ω : Wo) : Wo := wr (wr (wr (wr ω 68 0 (some 69)) 68 2 (some 70)) 68 3 (some 71)) 68 4 (some 72)
set_option maxRecDepth 100000 in
set_option maxHeartbeats 4000000 in
theorem c_X6_init {Γ : Ga} {l : Launch} {ω : Wo} (hZN : ZN ω 69) (h0 : ω.1 68 = fun _ => 0) : CN Γ l yX6_init cX6_init 1 1 4 120 [.ref (rl Γ 68)] ω 69 (fun ω' => ω' = SCN ω) := by
  refine MetN.ofJ (k := 0) [some (.ref (rl Γ 68))] (by decide) rfl rfl rfl rfl (fun p e s mm args below meth c C hin0 hAO hz hrt => ?_)
  have hZ0 := hZN
  refine j_aload0 C dX6_init_0 ?_
  refine j_obj C (WS_of 797 (by decide +kernel)) (by decide) rfl (Nat.le_of_ble_eq_true rfl) dX6_init_1 ?_
  refine j_aload0 C dX6_init_4 ?_
  refine j_bipush C (by decide) dX6_init_5 ?_
  refine j_newa (kk := 14) (N := 60) C (hz.at (by omega)) (WS_of 827 (by decide +kernel)) rfl (by omega) rfl rfl rfl rfl rfl rfl (by decide) (by decide) (hZ0.at (by omega)).1 ⟨by show _ ≤ 4; omega, by show _ + 60 ≤ 120; omega⟩ dX6_init_7 ?_
  refine j_cn (n' := 70) (ce' := 1) (sl' := 60) (by omega) (by omega) (by omega) ?_
  have hZ1 := hZ0.mono (n' := 70) (by omega)
  refine j_putr (b := 69) C hin0 fX6_9 ⟨by omega, by omega, rfl⟩ rfl (ty := .array (.char)) (fin := true) ⟨_, rfl, by decide +kernel, rfl⟩ (fun q h => by cases h; rfl) rfl rfl dX6_init_9 ?_
  have hZ2 := hZ1.wr (a := 68) (i := 0) (v := some (69)) (by omega)
  refine j_aload0 C dX6_init_12 ?_
  refine j_iconst C dX6_init_13 ?_
  refine j_putI C fX6_15 ⟨by omega, by omega, rfl⟩ rfl ⟨_, rfl, by decide +kernel, rfl⟩ ⟨by decide, by decide⟩ dX6_init_14 ?_
  refine j_conv rfl rfl (wi_0 (congrFun h0 1)) ?_
  refine j_aload0 C dX6_init_17 ?_
  refine j_bipush C (by decide) dX6_init_18 ?_
  refine j_anew (kk := 15) (N := 20) C (hz.at (by omega)) (WS_of 798 (by decide +kernel)) hAO.X2 (by omega) rfl rfl rfl rfl rfl (by decide) (hZ2.at (by omega)).2 ⟨by show _ ≤ 4; omega, by show _ + 20 ≤ 120; omega⟩ dX6_init_20 ?_
  refine j_cn (n' := 71) (ce' := 2) (sl' := 80) (by omega) (by omega) (by omega) ?_
  have hZ3 := hZ2.mono (n' := 71) (by omega)
  refine j_putr (b := 70) C hin0 fX6_21 ⟨by omega, by omega, rfl⟩ rfl (ty := .array (.object "BoatRota$Deed")) (fin := true) ⟨_, rfl, by decide +kernel, rfl⟩ (fun q h => by cases h; rfl) rfl rfl dX6_init_23 ?_
  have hZ4 := hZ3.wr (a := 68) (i := 2) (v := some (70)) (by omega)
  refine j_aload0 C dX6_init_26 ?_
  refine j_bipush C (by decide) dX6_init_27 ?_
  refine j_newa (kk := 16) (N := 20) C (hz.at (by omega)) (WS_of 828 (by decide +kernel)) rfl (by omega) rfl rfl rfl rfl rfl rfl (by decide) (by decide) (hZ4.at (by omega)).1 ⟨by show _ ≤ 4; omega, by show _ + 20 ≤ 120; omega⟩ dX6_init_29 ?_
  refine j_cn (n' := 72) (ce' := 3) (sl' := 100) (by omega) (by omega) (by omega) ?_
  have hZ5 := hZ4.mono (n' := 72) (by omega)
  refine j_putr (b := 71) C hin0 fX6_25 ⟨by omega, by omega, rfl⟩ rfl (ty := .array (.int)) (fin := true) ⟨_, rfl, by decide +kernel, rfl⟩ (fun q h => by cases h; rfl) rfl rfl dX6_init_31 ?_
  have hZ6 := hZ5.wr (a := 68) (i := 3) (v := some (71)) (by omega)
  refine j_aload0 C dX6_init_34 ?_
  refine j_bipush C (by decide) dX6_init_35 ?_
  refine j_newa (kk := 16) (N := 20) C (hz.at (by omega)) (WS_of 828 (by decide +kernel)) rfl (by omega) rfl rfl rfl rfl rfl rfl (by decide) (by decide) (hZ6.at (by omega)).1 ⟨by show _ ≤ 4; omega, by show _ + 20 ≤ 120; omega⟩ dX6_init_37 ?_
  refine j_cn (n' := 73) (ce' := 4) (sl' := 120) (by omega) (by omega) (by omega) ?_
  have hZ7 := hZ6.mono (n' := 73) (by omega)
  refine j_putr (b := 72) C hin0 fX6_29 ⟨by omega, by omega, rfl⟩ rfl (ty := .array (.int)) (fin := true) ⟨_, rfl, by decide +kernel, rfl⟩ (fun q h => by cases h; rfl) rfl rfl dX6_init_39 ?_
  have hZ8 := hZ7.wr (a := 68) (i := 4) (v := some (72)) (by omega)
  refine j_aload0 C dX6_init_42 ?_
  refine j_iconst C dX6_init_43 ?_
  refine j_putI C fX6_32 ⟨by omega, by omega, rfl⟩ rfl ⟨_, rfl, by decide +kernel, rfl⟩ ⟨by decide, by decide⟩ dX6_init_44 ?_
  refine j_conv rfl rfl (wi_0 (congrFun h0 5)) ?_
  refine j_aload0 C dX6_init_47 ?_
  refine j_iconst C dX6_init_48 ?_
  refine j_putI C fX6_35 ⟨by omega, by omega, rfl⟩ rfl ⟨_, rfl, by decide +kernel, rfl⟩ ⟨by decide, by decide⟩ dX6_init_49 ?_
  refine j_conv rfl rfl (wi_0 (congrFun h0 6)) ?_
  exact j_nret C hrt dX6_init_52 rfl ⟨rfl, rfl⟩ rfl
/-- the world at first: nothing -/
def om0 : Wo := (fun _ _ => 0, fun _ _ => none, 0)
def BR1 : Wo := wr (STN om0 1) 0 0 (some 1)
def BR2 : Wo := wr (STN BR1 22) 0 1 (some 22)
def BR3 : Wo := wr (STN BR2 43) 0 2 (some 43)
def BR4 : Wo := wr (wr (wr (wr BR3 0 4 (some 64)) 0 6 (some 65)) 0 7 (some 66)) 0 8 (some 67)
def BR5 : Wo := wi (wr (SCN BR4) 0 9 (some 68)) 0 10 (-1)
def BRB : Wo := wr (wr BR5 73 0 (some 74)) 0 11 (some 73)
def pst : Nat → Wo
  | 0 => BRB
  | k + 1 => wr (STN (pst k) (75 + 21 * k)) 64 k (some (75 + 21 * k))
theorem pst_r {x : Nat} (hx : x < 75) (h2 : x ≠ 64) : ∀ k, (pst k).2.1 x = BRB.2.1 x := by
  intro k; induction k with
  | zero => rfl
  | succ k ih => exact ((wr_ne h2).trans (STN_r (by omega))).trans ih
theorem pst_0 (k : Nat) : (pst k).2.1 0 4 = some 64 := (congrFun (pst_r (by decide) (by decide) k) 4).trans rfl
set_option maxRecDepth 100000 in
set_option maxHeartbeats 4000000 in
theorem c_X8_init {Γ : Ga} {l : Launch} : CN Γ l yX8_init cX8_init 2 4 242 1459 [.ref (rl Γ 0)] om0 1 (fun ω' => ω' = pst 8) := by
  have hZN : ZN om0 1 := fun _ _ => ⟨rfl, rfl⟩
  refine MetN.ofJ (k := 1) [some (.ref (rl Γ 0)), none] (by decide) rfl rfl rfl rfl (fun p e s mm args below meth c C hin0 hAO hz hrt => ?_)
  have hZ0 := hZN
  refine j_aload0 C dX8_init_0 ?_
  refine j_obj C (WS_of 627 (by decide +kernel)) (by decide) rfl (Nat.le_of_ble_eq_true rfl) dX8_init_1 ?_
  refine j_aload0 C dX8_init_4 ?_
  refine j_new (kk := 1) C (hz.at (by omega)) rfl uwX7 tyX7_ok (WS_of 628 (by decide +kernel)) (WS_of 182 (by decide +kernel)) (WS_of 29 (by decide +kernel)) (by omega) rfl (by decide) (hZ0.at (by omega)).1 (hZ0.at (by omega)).2 ⟨by show _ ≤ 242; omega, by show _ + 11 ≤ 1459; omega⟩ dX8_init_5 ?_
  refine j_cn (n' := 2) (ce' := 1) (sl' := 11) (by omega) (by omega) (by show _ + 11 = (_ : Nat); omega) ?_
  have hZ1 := hZ0.mono (n' := 2) (by omega)
  refine j_dup C rfl dX8_init_8 ?_
  refine j_ctor C hAO (hz.at (by omega)) (by omega) (by omega) (c_X7_init (B := 1) bs1 hZ0) iX7_init kX8_11 ⟨by decide, by decide⟩ rfl (Nat.le_of_ble_eq_true rfl) ⟨by decide, by decide⟩ dX8_init_9 ?_
  rintro _ rfl
  refine j_cn (n' := 22) (ce' := 21) (sl' := 118) (by omega) (by omega) (by omega) ?_
  have hZ2 : ZN _ 22 := hZ0.stn (B := 1)
  refine j_putr (b := 1) C hin0 fX8_12 ⟨by omega, by omega, rfl⟩ rfl (ty := .object "BoatRota$Station") (fin := true) ⟨_, rfl, by decide +kernel, rfl⟩ (fun q h => by cases h; rfl) rfl rfl dX8_init_12 ?_
  have hZ3 := hZ2.wr (a := 0) (i := 0) (v := some (1)) (by omega)
  refine j_aload0 C dX8_init_15 ?_
  refine j_new (kk := 1) C (hz.at (by omega)) rfl uwX7 tyX7_ok (WS_of 628 (by decide +kernel)) (WS_of 182 (by decide +kernel)) (WS_of 29 (by decide +kernel)) (by omega) rfl (by decide) (hZ3.at (by omega)).1 (hZ3.at (by omega)).2 ⟨by show _ ≤ 242; omega, by show _ + 11 ≤ 1459; omega⟩ dX8_init_16 ?_
  refine j_cn (n' := 23) (ce' := 22) (sl' := 129) (by omega) (by omega) (by show _ + 11 = (_ : Nat); omega) ?_
  have hZ4 := hZ3.mono (n' := 23) (by omega)
  refine j_dup C rfl dX8_init_19 ?_
  refine j_ctor C hAO (hz.at (by omega)) (by omega) (by omega) (c_X7_init (B := 22) bs22 hZ3) iX7_init kX8_11 ⟨by decide, by decide⟩ rfl (Nat.le_of_ble_eq_true rfl) ⟨by decide, by decide⟩ dX8_init_20 ?_
  rintro _ rfl
  refine j_cn (n' := 43) (ce' := 42) (sl' := 236) (by omega) (by omega) (by omega) ?_
  have hZ5 : ZN _ 43 := hZ3.stn (B := 22)
  refine j_putr (b := 22) C hin0 fX8_16 ⟨by omega, by omega, rfl⟩ rfl (ty := .object "BoatRota$Station") (fin := true) ⟨_, rfl, by decide +kernel, rfl⟩ (fun q h => by cases h; rfl) rfl rfl dX8_init_23 ?_
  have hZ6 := hZ5.wr (a := 0) (i := 1) (v := some (22)) (by omega)
  refine j_aload0 C dX8_init_26 ?_
  refine j_new (kk := 1) C (hz.at (by omega)) rfl uwX7 tyX7_ok (WS_of 628 (by decide +kernel)) (WS_of 182 (by decide +kernel)) (WS_of 29 (by decide +kernel)) (by omega) rfl (by decide) (hZ6.at (by omega)).1 (hZ6.at (by omega)).2 ⟨by show _ ≤ 242; omega, by show _ + 11 ≤ 1459; omega⟩ dX8_init_27 ?_
  refine j_cn (n' := 44) (ce' := 43) (sl' := 247) (by omega) (by omega) (by show _ + 11 = (_ : Nat); omega) ?_
  have hZ7 := hZ6.mono (n' := 44) (by omega)
  refine j_dup C rfl dX8_init_30 ?_
  refine j_ctor C hAO (hz.at (by omega)) (by omega) (by omega) (c_X7_init (B := 43) bs43 hZ6) iX7_init kX8_11 ⟨by decide, by decide⟩ rfl (Nat.le_of_ble_eq_true rfl) ⟨by decide, by decide⟩ dX8_init_31 ?_
  rintro _ rfl
  refine j_cn (n' := 64) (ce' := 63) (sl' := 354) (by omega) (by omega) (by omega) ?_
  have hZ8 : ZN _ 64 := hZ6.stn (B := 43)
  refine j_putr (b := 43) C hin0 fX8_19 ⟨by omega, by omega, rfl⟩ rfl (ty := .object "BoatRota$Station") (fin := true) ⟨_, rfl, by decide +kernel, rfl⟩ (fun q h => by cases h; rfl) rfl rfl dX8_init_34 ?_
  have hZ9 := hZ8.wr (a := 0) (i := 2) (v := some (43)) (by omega)
  refine j_aload0 C dX8_init_37 ?_
  refine j_iconst C dX8_init_38 ?_
  refine j_putB C fX8_22 ⟨by omega, by omega, rfl⟩ rfl ⟨_, rfl, by decide +kernel, rfl⟩ (Or.inl rfl) dX8_init_39 ?_
  refine j_conv rfl rfl (wi_0 (show _ = (0 : Int) from rfl)) ?_
  refine j_aload0 C dX8_init_42 ?_
  refine j_bipush C (by decide) dX8_init_43 ?_
  refine j_anew (kk := 13) (N := 8) C (hz.at (by omega)) (WS_of 628 (by decide +kernel)) hAO.X7 (by omega) rfl rfl rfl rfl rfl (by decide) (hZ9.at (by omega)).2 ⟨by show _ ≤ 242; omega, by show _ + 8 ≤ 1459; omega⟩ dX8_init_45 ?_
  refine j_cn (n' := 65) (ce' := 64) (sl' := 362) (by omega) (by omega) (by omega) ?_
  have hZ10 := hZ9.mono (n' := 65) (by omega)
  refine j_putr (b := 64) C hin0 fX8_26 ⟨by omega, by omega, rfl⟩ rfl (ty := .array (.object "BoatRota$Station")) (fin := true) ⟨_, rfl, by decide +kernel, rfl⟩ (fun q h => by cases h; rfl) rfl rfl dX8_init_48 ?_
  have hZ11 := hZ10.wr (a := 0) (i := 4) (v := some (64)) (by omega)
  refine j_aload0 C dX8_init_51 ?_
  refine j_iconst C dX8_init_52 ?_
  refine j_putI C fX8_30 ⟨by omega, by omega, rfl⟩ rfl ⟨_, rfl, by decide +kernel, rfl⟩ ⟨by decide, by decide⟩ dX8_init_53 ?_
  refine j_conv rfl rfl (wi_0 (show _ = (0 : Int) from rfl)) ?_
  refine j_aload0 C dX8_init_56 ?_
  refine j_new (kk := 5) C (hz.at (by omega)) rfl uwX5 tyX5_ok (WS_of 778 (by decide +kernel)) (WS_of 779 (by decide +kernel)) (WS_of 33 (by decide +kernel)) (by omega) rfl (by decide) (hZ11.at (by omega)).1 (hZ11.at (by omega)).2 ⟨by show _ ≤ 242; omega, by show _ + 2 ≤ 1459; omega⟩ dX8_init_57 ?_
  refine j_cn (n' := 66) (ce' := 65) (sl' := 364) (by omega) (by omega) (by show _ + 2 = (_ : Nat); omega) ?_
  have hZ12 := hZ11.mono (n' := 66) (by omega)
  refine j_dup C rfl dX8_init_60 ?_
  refine j_ctorN (host := RX8) C hAO (hz.at (by omega)) (by omega) (by omega) (c_X5_init ⟨by decide, by decide, rfl⟩ (hZ11.at (x := 65) (by omega)).1) iX5_init (List.mem_of_getElem? (i := 3) rfl) ⟨by decide, by decide⟩ rfl (Nat.le_of_ble_eq_true rfl) ⟨by show _ ≤ 242; omega, by show _ ≤ 1459; omega⟩ dX8_init_61 ?_
  rintro _ rfl
  refine j_putr (b := 65) C hin0 fX8_37 ⟨by omega, by omega, rfl⟩ rfl (ty := .object "BoatRota$Refusal") (fin := true) ⟨_, rfl, by decide +kernel, rfl⟩ (fun q h => by cases h; rfl) rfl rfl dX8_init_64 ?_
  have hZ13 := hZ12.wr (a := 0) (i := 6) (v := some (65)) (by omega)
  refine j_aload0 C dX8_init_67 ?_
  refine j_new (kk := 5) C (hz.at (by omega)) rfl uwX5 tyX5_ok (WS_of 778 (by decide +kernel)) (WS_of 779 (by decide +kernel)) (WS_of 33 (by decide +kernel)) (by omega) rfl (by decide) (hZ13.at (by omega)).1 (hZ13.at (by omega)).2 ⟨by show _ ≤ 242; omega, by show _ + 2 ≤ 1459; omega⟩ dX8_init_68 ?_
  refine j_cn (n' := 67) (ce' := 66) (sl' := 366) (by omega) (by omega) (by show _ + 2 = (_ : Nat); omega) ?_
  have hZ14 := hZ13.mono (n' := 67) (by omega)
  refine j_dup C rfl dX8_init_71 ?_
  refine j_ctorN (host := RX8) C hAO (hz.at (by omega)) (by omega) (by omega) (c_X5_init ⟨by decide, by decide, rfl⟩ (hZ13.at (x := 66) (by omega)).1) iX5_init (List.mem_of_getElem? (i := 3) rfl) ⟨by decide, by decide⟩ rfl (Nat.le_of_ble_eq_true rfl) ⟨by show _ ≤ 242; omega, by show _ ≤ 1459; omega⟩ dX8_init_72 ?_
  rintro _ rfl
  refine j_putr (b := 66) C hin0 fX8_41 ⟨by omega, by omega, rfl⟩ rfl (ty := .object "BoatRota$Refusal") (fin := true) ⟨_, rfl, by decide +kernel, rfl⟩ (fun q h => by cases h; rfl) rfl rfl dX8_init_75 ?_
  have hZ15 := hZ14.wr (a := 0) (i := 7) (v := some (66)) (by omega)
  refine j_aload0 C dX8_init_78 ?_
  refine j_new (kk := 5) C (hz.at (by omega)) rfl uwX5 tyX5_ok (WS_of 778 (by decide +kernel)) (WS_of 779 (by decide +kernel)) (WS_of 33 (by decide +kernel)) (by omega) rfl (by decide) (hZ15.at (by omega)).1 (hZ15.at (by omega)).2 ⟨by show _ ≤ 242; omega, by show _ + 2 ≤ 1459; omega⟩ dX8_init_79 ?_
  refine j_cn (n' := 68) (ce' := 67) (sl' := 368) (by omega) (by omega) (by show _ + 2 = (_ : Nat); omega) ?_
  have hZ16 := hZ15.mono (n' := 68) (by omega)
  refine j_dup C rfl dX8_init_82 ?_
  refine j_ctorN (host := RX8) C hAO (hz.at (by omega)) (by omega) (by omega) (c_X5_init ⟨by decide, by decide, rfl⟩ (hZ15.at (x := 67) (by omega)).1) iX5_init (List.mem_of_getElem? (i := 3) rfl) ⟨by decide, by decide⟩ rfl (Nat.le_of_ble_eq_true rfl) ⟨by show _ ≤ 242; omega, by show _ ≤ 1459; omega⟩ dX8_init_83 ?_
  rintro _ rfl
  refine j_putr (b := 67) C hin0 fX8_44 ⟨by omega, by omega, rfl⟩ rfl (ty := .object "BoatRota$Refusal") (fin := true) ⟨_, rfl, by decide +kernel, rfl⟩ (fun q h => by cases h; rfl) rfl rfl dX8_init_86 ?_
  have hZ17 := hZ16.wr (a := 0) (i := 8) (v := some (67)) (by omega)
  refine j_aload0 C dX8_init_89 ?_
  refine j_new (kk := 6) C (hz.at (by omega)) rfl uwX6 tyX6_ok (WS_of 792 (by decide +kernel)) (WS_of 793 (by decide +kernel)) (WS_of 34 (by decide +kernel)) (by omega) rfl (by decide) (hZ17.at (by omega)).1 (hZ17.at (by omega)).2 ⟨by show _ ≤ 242; omega, by show _ + 7 ≤ 1459; omega⟩ dX8_init_90 ?_
  refine j_cn (n' := 69) (ce' := 68) (sl' := 375) (by omega) (by omega) (by show _ + 7 = (_ : Nat); omega) ?_
  have hZ18 := hZ17.mono (n' := 69) (by omega)
  refine j_dup C rfl dX8_init_93 ?_
  refine j_ctorN (host := RX8) C hAO (hz.at (by omega)) (by omega) (by omega) (c_X6_init hZ18 (hZ17.at (x := 68) (by omega)).1) iX6_init (List.mem_of_getElem? (i := 4) rfl) ⟨by decide, by decide⟩ rfl (Nat.le_of_ble_eq_true rfl) ⟨by decide, by decide⟩ dX8_init_94 ?_
  rintro _ rfl
  refine j_cn (n' := 73) (ce' := 72) (sl' := 495) (by omega) (by omega) (by omega) ?_
  have hZ19 : ZN (SCN _) 73 := ((((hZ18.wr (a := 68) (i := 0) (v := some 69) (by omega)).wr (a := 68) (i := 2) (v := some 70) (by omega)).wr (a := 68) (i := 3) (v := some 71) (by omega)).wr (a := 68) (i := 4) (v := some 72) (by omega)).mono (by omega)
  refine j_putr (b := 68) C hin0 fX8_50 ⟨by omega, by omega, rfl⟩ rfl (ty := .object "BoatRota$Script") (fin := true) ⟨_, rfl, by decide +kernel, rfl⟩ (fun q h => by cases h; rfl) rfl rfl dX8_init_97 ?_
  have hZ20 := hZ19.wr (a := 0) (i := 9) (v := some (68)) (by omega)
  refine j_aload0 C dX8_init_100 ?_
  refine j_iconst C dX8_init_101 ?_
  refine j_putI C fX8_54 ⟨by omega, by omega, rfl⟩ rfl ⟨_, rfl, by decide +kernel, rfl⟩ ⟨by decide, by decide⟩ dX8_init_102 ?_
  have hZ21 := hZ20.wi (a := 0) (i := 10) (v := (-1)) (by omega)
  refine j_aload0 C dX8_init_105 ?_
  refine j_new (kk := 8) C (hz.at (by omega)) rfl uwJ4 tyJ4_ok (WS_of 829 (by decide +kernel)) (WS_of 830 (by decide +kernel)) (WS_of 36 (by decide +kernel)) (by omega) rfl (by decide) (hZ21.at (by omega)).1 (hZ21.at (by omega)).2 ⟨by show _ ≤ 242; omega, by show _ + 4 ≤ 1459; omega⟩ dX8_init_106 ?_
  refine j_cn (n' := 74) (ce' := 73) (sl' := 499) (by omega) (by omega) (by show _ + 4 = (_ : Nat); omega) ?_
  have hZ22 := hZ21.mono (n' := 74) (by omega)
  refine j_dup C rfl dX8_init_109 ?_
  refine j_ctor C hAO (hz.at (by omega)) (by omega) (by omega) (c_J4_init hZ22 (hZ21.at (x := 73) (by omega)).1) iJ4_init_da8c8 kX8_59 ⟨by decide, by decide⟩ rfl (Nat.le_of_ble_eq_true rfl) ⟨by decide, by decide⟩ dX8_init_110 ?_
  rintro _ rfl
  refine j_cn (n' := 75) (ce' := 74) (sl' := 515) (by omega) (by omega) (by omega) ?_
  have hZ23 := (hZ22.wr (a := 73) (i := 0) (v := some 74) (by omega)).mono (n' := 75) (by omega)
  refine j_putr (b := 73) C hin0 fX8_60 ⟨by omega, by omega, rfl⟩ rfl (ty := .object "java/lang/StringBuilder") (fin := true) ⟨_, rfl, by decide +kernel, rfl⟩ (fun q h => by cases h; rfl) rfl rfl dX8_init_113 ?_
  have hZ24 := hZ23.wr (a := 0) (i := 11) (v := some (73)) (by omega)
  refine j_conv rfl rfl (show _ = BRB from rfl) ?_
  have hZb : ZN BRB 75 := hZ24
  refine j_iconst C dX8_init_116 ?_
  refine j_istore1 C rfl dX8_init_117 ?_
  have loop : ∀ (N k : Nat), 8 - k < N → k ≤ 8 → ZN (pst k) (75 + 21 * k) → J Γ p l e (rmk 4 242 1459) s mm args below meth c (MQ below (QN Γ (1 + 242) (fun ω' => ω' = pst 8)) args s 242 1459 (gA Γ)) (75 + 21 * k) (74 + 21 * k) (515 + 118 * k) 118 [some (.ref (rl Γ 0)), some (.int (iI (k : Int)))] [] (pst k) := by
    intro N
    induction N with
    | zero => intro k hN; exact absurd hN (Nat.not_lt_zero _)
    | succ N ih =>
      intro k hN hk0 hZk
      have hZ0 := hZk
      refine j_iload1 C dX8_init_118 ?_
      refine j_bipush C (by decide) dX8_init_119 ?_
      refine j_icmp_ge C ⟨by omega, by omega⟩ ⟨by omega, by omega⟩ dX8_init_121 (fun hc => ?_) (fun hc => ?_)
      · have hk9 : k = 8 := by omega
        subst hk9
        exact j_nret C hrt dX8_init_143 rfl ⟨rfl, rfl⟩ rfl
      · skip
        refine j_aload0 C dX8_init_124 ?_
        refine j_getr C fX8_26 ⟨by omega, by omega, rfl⟩ rfl (b := 64) (pst_0 k) dX8_init_125 ?_
        refine j_iload1 C dX8_init_128 ?_
        refine j_new (kk := 1) C (hz.at (by omega)) rfl uwX7 tyX7_ok (WS_of 628 (by decide +kernel)) (WS_of 182 (by decide +kernel)) (WS_of 29 (by decide +kernel)) (by omega) (at_st (bsP (show k < 8 by omega))).2.2 (by decide) (hZ0.at (by omega)).1 (hZ0.at (by omega)).2 ⟨by show _ ≤ 242; omega, by show _ + 11 ≤ 1459; omega⟩ dX8_init_129 ?_
        refine j_cn (n' := 75 + 21 * k + 1) (ce' := 74 + 21 * k + 1) (sl' := 515 + 118 * k + 11) (by omega) (by omega) (by show _ + 11 = (_ : Nat); omega) ?_
        have hZ1 := hZ0.mono (n' := 75 + 21 * k + 1) (by omega)
        refine j_dup C rfl dX8_init_132 ?_
        refine j_ctor C hAO (hz.at (by omega)) (by omega) (by omega) (c_X7_init (B := 75 + 21 * k) (bsP (by omega)) hZ0) iX7_init kX8_11 ⟨by decide, by decide⟩ rfl (Nat.le_of_ble_eq_true rfl) ⟨by show _ ≤ 242; omega, by show _ ≤ 1459; omega⟩ dX8_init_133 ?_
        rintro _ rfl
        refine j_cn (n' := 75 + 21 * (k + 1)) (ce' := 74 + 21 * (k + 1)) (sl' := 515 + 118 * (k + 1)) (by omega) (by omega) (by omega) ?_
        refine j_aast C ⟨by omega, by omega, rfl⟩ rfl (r := (RX7, TX7, nf 1)) (kb := 1) rfl rfl ⟨by omega, by omega, (at_st (bsP (show k < 8 by omega))).2.2⟩ (N := 8) rfl (by decide) ⟨by omega, by omega⟩ dX8_init_136 ?_
        rw [Int.toNat_natCast]
        refine j_iinc1n C rfl dX8_init_137 ?_
        refine j_goto C dX8_init_140 ?_
        exact j_fg (ih (k + 1) (by omega) (by omega) ((hZ0.stn.wr (a := 64) (i := k) (v := some (75 + 21 * k)) (by omega)).mono (by omega))) ⟨Or.inr rfl, Or.inr rfl, trivial⟩ rfl
  refine j_cn (n' := 75 + 21 * 0) (ce' := 74 + 21 * 0) (sl' := 515 + 118 * 0) (by omega) (by omega) (by omega) ?_
  exact j_fg (loop _ 0 (Nat.lt_succ_self _) (Nat.zero_le _) hZb) ⟨Or.inr rfl, Or.inr rfl, trivial⟩ rfl
