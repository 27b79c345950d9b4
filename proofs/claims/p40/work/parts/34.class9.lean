set_option maxRecDepth 100000 in
set_option maxHeartbeats 4000000 in
theorem c_X7_addMember {Γ : Ga} {l : Launch} {ω : Wo} {B : Nat} (hB : Bs B) {σ : Row} (hS : St ω B σ) {M : Int} (hI : RI M σ) (hWI : WI σ)  {v : Int} (hv : Rg v) (h1 : σ 1 < 10) : CI Γ l yX7_addMember cX7_addMember 2 .int 1 [.ref (rl Γ B), .int (iI v)] ω (fun z ω' => z = σ 1 ∧ Fr B ω ω' ∧ St ω' B (newM σ v)) := by
  refine Met.ofJ (k := 0) [some (.ref (rl Γ B)), some (.int (iI v))] (by decide) rfl rfl rfl (fun p e s mm args below meth c C hrt => ?_)
  have g := hI.s
  have gc := hI.c
  have gM := hI.2.1
  have gcs := hI.s
  refine j_aload0 C dX7_addMember_0 ?_
  refine j_getr C fX7_11 (at_st hB) rfl hS.r.a0 dX7_addMember_1 ?_
  refine j_aload0 C dX7_addMember_4 ?_
  refine j_geti C fX7_29 (at_st hB) rfl (show _ = σ 1 from hS.c3) dX7_addMember_5 (fun hr5 => ?_)
  refine j_aald C (at_mA hB) rfl (Cn := RX4) rfl (N := 10) rfl (by decide) ⟨by omega, by omega⟩ (hS.r.m (cM σ) (by omega)) dX7_addMember_8 ?_
  refine j_iload1 C dX7_addMember_9 ?_
  refine j_cVV1 C (c_X4_start (at_m hB (by omega)) ⟨by omega, by omega⟩) oX4_start kX7_76 ⟨_, rfl, rfl⟩ (at_m hB (by omega)) ⟨by decide, by decide⟩ rfl (Nat.le_of_ble_eq_true rfl) ⟨by decide, by decide⟩ dX7_addMember_10 ?_
  rintro _ rfl
  refine j_aload0 C dX7_addMember_13 ?_
  refine j_dup C rfl dX7_addMember_14 ?_
  refine j_geti C fX7_29 (at_st hB) rfl (show _ = σ 1 from (congrFun (wf_ne _ _ (by omega)) 3).trans hS.c3) dX7_addMember_15 (fun hr15 => ?_)
  refine j_iconst C dX7_addMember_18 ?_
  refine j_iadd C dX7_addMember_19 ?_
  refine j_putI C fX7_29 (at_st hB) rfl ty_1_3 ⟨by omega, by omega⟩ dX7_addMember_20 ?_
  refine j_aload0 C dX7_addMember_23 ?_
  refine j_geti C fX7_29 (at_st hB) rfl (show _ = σ 1 + 1 from by rw [wi_wf, wf_same, up_same]) dX7_addMember_24 (fun hr24 => ?_)
  refine j_iconst C dX7_addMember_27 ?_
  refine j_isub C dX7_addMember_28 ?_
  refine j_iret C hrt dX7_addMember_29 ⟨by omega, by omega⟩ ?_
  exact ⟨by omega, (newM_St (v := v) hS hI h1 ⟨rfl, rfl, rfl, rfl, rfl, rfl⟩).2, (newM_St (v := v) hS hI h1 ⟨rfl, rfl, rfl, rfl, rfl, rfl⟩).1⟩
set_option maxRecDepth 100000 in
set_option maxHeartbeats 4000000 in
theorem c_X7_addBoat {Γ : Ga} {l : Launch} {ω : Wo} {B : Nat} (hB : Bs B) {σ : Row} (hS : St ω B σ) {M : Int} (hI : RI M σ) (hWI : WI σ)  {v u : Int} (hv : Rg v) (hu : Rg u) (h1 : σ 2 < 3) : CI Γ l yX7_addBoat cX7_addBoat 3 .int 1 [.ref (rl Γ B), .int (iI v), .int (iI u)] ω (fun z ω' => z = σ 2 ∧ Fr B ω ω' ∧ St ω' B (newB σ v u)) := by
  refine Met.ofJ (k := 0) [some (.ref (rl Γ B)), some (.int (iI v)), some (.int (iI u))] (by decide) rfl rfl rfl (fun p e s mm args below meth c C hrt => ?_)
  have g := hI.s
  have gc := hI.c
  have gM := hI.2.1
  have gcs := hI.s
  refine j_aload0 C dX7_addBoat_0 ?_
  refine j_getr C fX7_19 (at_st hB) rfl hS.r.a1 dX7_addBoat_1 ?_
  refine j_aload0 C dX7_addBoat_4 ?_
  refine j_geti C fX7_33 (at_st hB) rfl (show _ = σ 2 from hS.c4) dX7_addBoat_5 (fun hr5 => ?_)
  refine j_aald C (at_bA hB) rfl (Cn := RX1) rfl (N := 3) rfl (by decide) ⟨by omega, by omega⟩ (hS.r.b (cB σ) (by omega)) dX7_addBoat_8 ?_
  refine j_iload1 C dX7_addBoat_9 ?_
  refine j_iload2 C dX7_addBoat_10 ?_
  refine j_cVV2 C (c_X1_start (at_b hB (by omega)) ⟨by omega, by omega⟩ ⟨by omega, by omega⟩) oX1_start kX7_111 ⟨_, rfl, rfl⟩ (at_b hB (by omega)) ⟨by decide, by decide⟩ rfl (Nat.le_of_ble_eq_true rfl) ⟨by decide, by decide⟩ dX7_addBoat_11 ?_
  rintro _ rfl
  refine j_aload0 C dX7_addBoat_14 ?_
  refine j_dup C rfl dX7_addBoat_15 ?_
  refine j_geti C fX7_33 (at_st hB) rfl (show _ = σ 2 from (congrFun (wf_ne _ _ (by omega)) 4).trans hS.c4) dX7_addBoat_16 (fun hr16 => ?_)
  refine j_iconst C dX7_addBoat_19 ?_
  refine j_iadd C dX7_addBoat_20 ?_
  refine j_putI C fX7_33 (at_st hB) rfl ty_1_4 ⟨by omega, by omega⟩ dX7_addBoat_21 ?_
  refine j_aload0 C dX7_addBoat_24 ?_
  refine j_geti C fX7_33 (at_st hB) rfl (show _ = σ 2 + 1 from by rw [wi_wf, wf_same, up_same]) dX7_addBoat_25 (fun hr25 => ?_)
  refine j_iconst C dX7_addBoat_28 ?_
  refine j_isub C dX7_addBoat_29 ?_
  refine j_iret C hrt dX7_addBoat_30 ⟨by omega, by omega⟩ ?_
  exact ⟨by omega, (newB_St (v := v) (u := u) hS hI h1 ⟨rfl, rfl, rfl, rfl, rfl, rfl⟩).2, (newB_St (v := v) (u := u) hS hI h1 ⟨rfl, rfl, rfl, rfl, rfl, rfl⟩).1⟩
set_option maxRecDepth 100000 in
set_option maxHeartbeats 4000000 in
theorem c_X7_addLoan {Γ : Ga} {l : Launch} {ω : Wo} {B : Nat} (hB : Bs B) {σ : Row} (hS : St ω B σ) {M : Int} (hI : RI M σ) (hWI : WI σ)  {v u : Int} (hv : Rg v) (hu : Rg u) (h1 : σ 3 < 4) : CI Γ l yX7_addLoan cX7_addLoan 3 .int 1 [.ref (rl Γ B), .int (iI v), .int (iI u)] ω (fun z ω' => z = σ 3 ∧ Fr B ω ω' ∧ St ω' B (newL σ v u)) := by
  refine Met.ofJ (k := 0) [some (.ref (rl Γ B)), some (.int (iI v)), some (.int (iI u))] (by decide) rfl rfl rfl (fun p e s mm args below meth c C hrt => ?_)
  have g := hI.s
  have gc := hI.c
  have gM := hI.2.1
  have gcs := hI.s
  refine j_aload0 C dX7_addLoan_0 ?_
  refine j_getr C fX7_25 (at_st hB) rfl hS.r.a2 dX7_addLoan_1 ?_
  refine j_aload0 C dX7_addLoan_4 ?_
  refine j_geti C fX7_36 (at_st hB) rfl (show _ = σ 3 from hS.c5) dX7_addLoan_5 (fun hr5 => ?_)
  obtain ⟨la8, ha8, hb8, hc8⟩ := hS.r.l (cL σ) (by omega)
  refine j_aald C (at_lA hB) rfl (Cn := RX3) rfl (N := 4) rfl (by decide) ⟨by omega, by omega⟩ ha8 dX7_addLoan_8 ?_
  refine j_iload1 C dX7_addLoan_9 ?_
  refine j_iload2 C dX7_addLoan_10 ?_
  refine j_cVV2 C (c_X3_start (at_lx hB hb8 hc8) ⟨by omega, by omega⟩ ⟨by omega, by omega⟩) oX3_start kX7_165 ⟨_, rfl, rfl⟩ (at_lx hB hb8 hc8) ⟨by decide, by decide⟩ rfl (Nat.le_of_ble_eq_true rfl) ⟨by decide, by decide⟩ dX7_addLoan_11 ?_
  rintro _ rfl
  refine j_aload0 C dX7_addLoan_14 ?_
  refine j_dup C rfl dX7_addLoan_15 ?_
  refine j_geti C fX7_36 (at_st hB) rfl (show _ = σ 3 from (congrFun (wf_ne _ _ (by omega)) 5).trans hS.c5) dX7_addLoan_16 (fun hr16 => ?_)
  refine j_iconst C dX7_addLoan_19 ?_
  refine j_iadd C dX7_addLoan_20 ?_
  refine j_putI C fX7_36 (at_st hB) rfl ty_1_5 ⟨by omega, by omega⟩ dX7_addLoan_21 ?_
  refine j_aload0 C dX7_addLoan_24 ?_
  refine j_geti C fX7_36 (at_st hB) rfl (show _ = σ 3 + 1 from by rw [wi_wf, wf_same, up_same]) dX7_addLoan_25 (fun hr25 => ?_)
  refine j_iconst C dX7_addLoan_28 ?_
  refine j_isub C dX7_addLoan_29 ?_
  refine j_iret C hrt dX7_addLoan_30 ⟨by omega, by omega⟩ ?_
  exact ⟨by omega, (newL_St (v := v) (u := u) hS hI h1 ha8 ⟨rfl, rfl, rfl⟩).2, (newL_St (v := v) (u := u) hS hI h1 ha8 ⟨rfl, rfl, rfl⟩).1⟩
