set_option maxRecDepth 100000 in
set_option maxHeartbeats 4000000 in
theorem c_X6_add {Γ : Ga} {l : Launch} {ω : Wo} (hR : CR ω) {n : Nat} {v : Int} (hn : ω.1 68 1 = (n : Int)) (hn6 : n < 60) (hv : 0 ≤ v ∧ v < 65536) : CV Γ l yX6_add cX6_add 2 0 [.ref (rl Γ 68), .int (iI v)] ω (fun ω' => ω' = wi (wi ω 69 n v) 68 1 ((n : Int) + 1)) := by
  refine Met.ofJ (k := 0) [some (.ref (rl Γ 68)), some (.int (iI v))] (by decide) rfl rfl rfl (fun p e s mm args below meth c C hrt => ?_)
  refine j_aload0 C dX6_add_0 ?_
  refine j_getr C fX6_9 at_68 rfl hR.2.2.2.2.2.2.2.2.2.1 dX6_add_1 ?_
  refine j_aload0 C dX6_add_4 ?_
  refine j_geti C fX6_15 at_68 rfl hn dX6_add_5 (fun hr5 => ?_)
  refine j_iload1 C dX6_add_8 ?_
  refine j_cast C at_69 ⟨by omega, by omega⟩ ⟨by omega, by omega⟩ dX6_add_9 ?_
  refine j_aload0 C dX6_add_10 ?_
  refine j_dup C rfl dX6_add_11 ?_
  refine j_geti C fX6_15 at_68 rfl (show _ = (n : Int) from (congrFun (show (wi ω 69 n v).1 68 = ω.1 68 by rw [wi_wf, wf_ne _ _ (by decide)]) 1).trans hn) dX6_add_12 (fun hr12 => ?_)
  refine j_iconst C dX6_add_15 ?_
  refine j_iadd C dX6_add_16 ?_
  refine j_putI C fX6_15 at_68 rfl ty_6_1 ⟨by omega, by omega⟩ dX6_add_17 ?_
  refine j_vret C hrt dX6_add_20 ?_
  rfl
set_option maxRecDepth 100000 in
set_option maxHeartbeats 4000000 in
theorem c_X8_append {Γ : Ga} {l : Launch} {ω : Wo} (hsl : l.stackTraces = false) (hR : CR ω) {σ : Row} (hS : St ω 1 σ) {M : Int} (hI : RI M σ) (hWI : WI σ)  {n : Nat} {v : Int} (hn : ω.1 68 1 = (n : Int)) (hn6 : n ≤ 60) (hv : 0 ≤ v ∧ v < 65536) : XI Γ l yX8_append cX8_append 2 .int 6 1 [.ref (rl Γ 0), .int (iI v)] ω (fun z ω' => n < 60 ∧ z = (n : Int) + 1 ∧ ω' = wi (wi ω 69 n v) 68 1 ((n : Int) + 1)) (fun E ω' => ω = ω' ∧ E = eSt ∧ n = 60) := by
  refine MetX.ofJ (k := 0) [some (.ref (rl Γ 0)), some (.int (iI v))] (by decide) rfl rfl rfl (fun p e s mm args below meth c C hK2 hxt hrt => ?_)
  have hB := bs1
  have g := hI.s
  have gc := hI.c
  have gM := hI.2.1
  refine j_aload0 C dX8_append_0 ?_
  refine j_getr C fX8_50 at_0 rfl hR.2.2.2.2.2.2.2.1 dX8_append_1 ?_
  refine j_geti C fX8_273 at_68 rfl hn dX8_append_4 (fun hr4 => ?_)
  refine j_bipush C (by decide) dX8_append_7 ?_
  refine j_icmp_lt C ⟨by omega, by omega⟩ ⟨by omega, by omega⟩ dX8_append_9 (fun hc9 => ?_) (fun hc9 => ?_)
  · -- 9 T
    refine j_aload0 C dX8_append_23 ?_
    refine j_getr C fX8_50 at_0 rfl hR.2.2.2.2.2.2.2.1 dX8_append_24 ?_
    refine j_iload1 C dX8_append_27 ?_
    refine j_cVV1 C (c_X6_add (by exact hR) hn (by omega) hv) oX6_add kX8_281 ⟨_, rfl, rfl⟩ at_68 ⟨by decide, by decide⟩ rfl (Nat.le_of_ble_eq_true rfl) ⟨by decide, by decide⟩ dX8_append_28 ?_
    rintro _ rfl
    refine j_aload0 C dX8_append_31 ?_
    refine j_getr C fX8_50 at_0 rfl hR.2.2.2.2.2.2.2.1 dX8_append_32 ?_
    refine j_geti C fX8_273 at_68 rfl (show _ = (n : Int) + 1 from by rw [wi_wf, wf_same, up_same]) dX8_append_35 (fun hr35 => ?_)
    refine j_xr (by decide) ?_
    refine j_iret C hrt dX8_append_38 ⟨by omega, by omega⟩ ?_
    exact ⟨by omega, rfl, rfl⟩
  · -- 9 F
    refine j_throwW hsl C hK2 hxt th_276 (List.mem_of_getElem? (i := 11) rfl) rfl dX8_append_12 dX8_append_15 dX8_append_16 dX8_append_19 dX8_append_22 (by decide) (Nat.le_of_ble_eq_true rfl) ⟨by decide, by decide⟩ ⟨by decide, by decide⟩ ?_
    exact ⟨rfl, rfl, by omega⟩

