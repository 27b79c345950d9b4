/-! what the start gives -/
abbrev NV : Cond := Jvm.Cond.and given_1 narrow_1
theorem nv_at {args : Array Value} {s : State} (hg : NV.before args s = true) {w : Cond} (k : Nat) (h : (flatC NV)[k]? = some w) : w.before args s = true := flat_of_before NV hg w (List.mem_of_getElem? h)
theorem tb_at {args : Array Value} {s : State} (hts : ∀ w ∈ lw_tbl, w.before args s = true) {w : Cond} (k : Nat) (h : lw_tbl[k]? = some w) : w.before args s = true := hts w (List.mem_of_getElem? h)
theorem arr_p {args : Array Value} {s : State} {ty : FieldType} (h : (Cond.arrayClass ty).before args s = true) : ∃ cA : ClassId, ArrOfT s cA ty ∧ s.vm.findClass ("[" ++ ty.toString) = some cA := by
  obtain ⟨c, k, comp, h1, h2, h3⟩ := Cond.arrayClass_spec h
  exact ⟨c, fun n z => ⟨fun _ h => (by cases h), k, h2, comp, h3⟩, h1⟩
theorem arr_o {args : Array Value} {s : State} {C : String} (h : (Cond.arrayOver (.object C)).before args s = true) : ∃ cA : ClassId, ArrOfT s cA (.object C) ∧ va_RA s cA (.object C) := by
  obtain ⟨comp, c, k, h1, h2, h3, h4, h5⟩ := Cond.arrayOver_spec h
  exact ⟨c, fun n z => ⟨fun _ h => (by cases h), k, h3, comp, h4⟩, k, comp, h3, h4, h1, h5⟩
theorem va_En.ad {E d : String} {nm : List String} {F : List (String × String × String × List Int32)} {ad ad' : Nat → Nat} {A : Nat → Prop} {U : State} {H : Heap} (h : va_En E d nm F ad A U H) (he : ∀ i, i < nm.length → ad' i = ad i) : va_En E d nm F ad' A U H := by
  refine ⟨fun i hi => ?_, fun i j hi hj hij => ?_⟩
  · rw [he i hi]; exact h.1 i hi
  · rw [he i hi, he j hj] at hij; exact h.2 i j hi hj hij

theorem vk_S.ad {N : Nat} {len : List Nat} {byt : List (List Int32)} {adK adV adK' adV' : Nat → Nat} {A : Nat → Prop} {U : State} {H : Heap} (h : vk_S N len byt adK adV A U H) (e1 : ∀ i, i < N → adK' i = adK i) (e2 : ∀ i, i < N → adV' i = adV i) : vk_S N len byt adK' adV' A U H :=
  ⟨fun i hi => by rw [e1 i hi, e2 i hi]; exact h.1 i hi, fun i j hi hj e => by rw [e1 i hi, e1 j hj] at e; exact h.2 i j hi hj e⟩
theorem start_K {args : Array Value} {s : State} (hts : ∀ w ∈ lw_tbl, w.before args s = true) : ∃ (C : Nat → ClassId) (I : Nat → Nat → Nat) (G : Nat → ClassId), ∀ (gd : Nat → Nat) (B : Nat) (nn : Nat → Nat) (h9 : Nat), va_K (gD ((C, I, G, gd, B, nn, h9) : Ga)) clss (gT ((C, I, G, gd, B, nn, h9) : Ga)) s := by
  have hws : ∀ w ∈ WS, w.before args s = true := fun w hw => hts w (List.mem_filter.mp hw).1
  obtain ⟨c0, i0, k0⟩ := u_known (n := 12) hws uwX8 (tb_at hts 66 (by decide +kernel))
  obtain ⟨c1, i1, k1⟩ := u_known (n := 11) hws uwX7 (tb_at hts 182 (by decide +kernel))
  obtain ⟨c2, i2, k2⟩ := u_known (n := 6) hws uwX4 (tb_at hts 639 (by decide +kernel))
  obtain ⟨c3, i3, k3⟩ := u_known (n := 6) hws uwX1 (tb_at hts 675 (by decide +kernel))
  obtain ⟨c4, i4, k4⟩ := u_known (n := 3) hws uwX3 (tb_at hts 711 (by decide +kernel))
  obtain ⟨c5, i5, k5⟩ := u_known (n := 2) hws uwX5 (tb_at hts 779 (by decide +kernel))
  obtain ⟨c6, i6, k6⟩ := u_known (n := 7) hws uwX6 (tb_at hts 793 (by decide +kernel))
  obtain ⟨c7, i7, k7⟩ := u_known (n := 4) hws uwJ0 (tb_at hts 506 (by decide +kernel))
  obtain ⟨c8, i8, k8⟩ := u_known (n := 4) hws uwJ4 (tb_at hts 830 (by decide +kernel))
  obtain ⟨g0, a0, f0⟩ := arr_p (ty := .int) (tb_at hts 828 (by decide +kernel))
  obtain ⟨g1, a1, f1⟩ := arr_p (ty := .char) (tb_at hts 827 (by decide +kernel))
  obtain ⟨g2, a2, f2⟩ := arr_p (ty := .byte) (tb_at hts 144 (by decide +kernel))
  obtain ⟨g3, a3, f3⟩ := arr_o (C := RX4) (tb_at hts 634 (by decide +kernel))
  obtain ⟨g4, a4, f4⟩ := arr_o (C := RX1) (tb_at hts 636 (by decide +kernel))
  obtain ⟨g5, a5, f5⟩ := arr_o (C := RX3) (tb_at hts 638 (by decide +kernel))
  obtain ⟨g6, a6, f6⟩ := arr_o (C := RX7) (tb_at hts 777 (by decide +kernel))
  obtain ⟨g7, a7, f7⟩ := arr_o (C := RX2) (tb_at hts 799 (by decide +kernel))
  refine ⟨fun c => [c0, c1, c2, c3, c4, c5, c6, c7, c8].getD c c8, fun c => [i0, i1, i2, i3, i4, i5, i6, i7, i8].getD c i8, fun t => [g0, g1, g2, g3, g4, g5, g6, g7].getD t g7, fun gd B nn h9 => ⟨fun c q hq => ?_, fun k q hq => ?_⟩⟩
  · match c, hq with
    | 0, hq => cases hq; exact k0
    | 1, hq => cases hq; exact k1
    | 2, hq => cases hq; exact k2
    | 3, hq => cases hq; exact k3
    | 4, hq => cases hq; exact k4
    | 5, hq => cases hq; exact k5
    | 6, hq => cases hq; exact k6
    | 7, hq => cases hq; exact k7
    | 8, hq => cases hq; exact k8
    | (n + 9), hq => cases hq
  · match k, hq with
    | 0, hq => cases hq; exact ⟨a0, f0⟩
    | 1, hq => cases hq; exact ⟨a1, f1⟩
    | 2, hq => cases hq; exact ⟨a2, f2⟩
    | 3, hq => cases hq; exact ⟨a3, f3⟩
    | 4, hq => cases hq; exact ⟨a4, f4⟩
    | 5, hq => cases hq; exact ⟨a5, f5⟩
    | 6, hq => cases hq; exact ⟨a6, f6⟩
    | 7, hq => cases hq; exact ⟨a7, f7⟩
    | (n + 8), hq => cases hq
abbrev dD : String := "LBoatRota$Deed;"
theorem en_l : ∀ i, i < 9 → lw_tbl[[905, 936, 945, 914, 272, 923, 954, 477, 486].getD i 0]? = some (Cond.laysStatic RX2 (dnm.getD i "") dD) := by decide +kernel
theorem en_x : ∀ i, i < 9 → (flatC NV)[[37, 64, 75, 45, 6, 54, 87, 23, 29].getD i 0]? = some (Cond.exactly (.static RX2 (dnm.getD i "") dD) RX2) := by decide +kernel
theorem en_f : ∀ j, j < 4 → ∀ i, i < 9 → (flatC NV)[[38, 65, 76, 46, 7, 55, 88, 24, 30].getD i 0 + j]? = some (Cond.eq (.field (.static RX2 (dnm.getD i "") dD) (dF.getD j ("", "", "", [])).1 (dF.getD j ("", "", "", [])).2.1 (dF.getD j ("", "", "", [])).2.2.1) (.int ((dF.getD j ("", "", "", [])).2.2.2.getD i 0))) := by decide +kernel
theorem en_d : ∀ j, j < 9 → ∀ i, i < 9 → i ≠ j → ((flatC NV)[[0, 72, 83, 53, 42, 62, 95, 43, 44, 72, 0, 86, 73, 69, 74, 98, 70, 71, 83, 86, 0, 84, 80, 85, 99, 81, 82, 53, 73, 84, 0, 50, 63, 96, 51, 52, 42, 69, 80, 50, 0, 59, 92, 28, 34, 62, 74, 85, 63, 59, 0, 97, 60, 61, 95, 98, 99, 96, 92, 97, 0, 93, 94, 43, 70, 81, 51, 28, 60, 93, 0, 35, 44, 71, 82, 52, 34, 61, 94, 35, 0].getD (9 * i + j) 0]? = some (Cond.not (.eq (.static RX2 (dnm.getD i "") dD) (.static RX2 (dnm.getD j "") dD))) ∨ (flatC NV)[[0, 72, 83, 53, 42, 62, 95, 43, 44, 72, 0, 86, 73, 69, 74, 98, 70, 71, 83, 86, 0, 84, 80, 85, 99, 81, 82, 53, 73, 84, 0, 50, 63, 96, 51, 52, 42, 69, 80, 50, 0, 59, 92, 28, 34, 62, 74, 85, 63, 59, 0, 97, 60, 61, 95, 98, 99, 96, 92, 97, 0, 93, 94, 43, 70, 81, 51, 28, 60, 93, 0, 35, 44, 71, 82, 52, 34, 61, 94, 35, 0].getD (9 * i + j) 0]? = some (Cond.not (.eq (.static RX2 (dnm.getD j "") dD) (.static RX2 (dnm.getD i "") dD)))) := by decide +kernel
theorem de_e : ∀ j, j < 9 → (flatC NV)[315 + j]? = some (Cond.eq (.elem (.static RX8 "DEEDS" "[LBoatRota$Deed;") (.int (Int32.ofNat j))) (.static RX2 (dnm.getD j "") dD)) := by decide +kernel
theorem sw_e : ∀ j, j < 9 → (flatC NV)[14 + j]? = some (Cond.eq (.elem (.static RX0 "$SwitchMap$BoatRota$Deed" "[I") (.int (Int32.ofNat j))) (.int (swm.getD j 0))) := by decide +kernel
theorem do_e : ((flatC NV).drop 107).take 100 = (List.range 100).map (fun j => Cond.eq (.elem (.static "java/lang/Integer" "DigitOnes" "[B") (.int (Int32.ofNat j))) (.int (iI ((48 + j % 10 : Nat) : Int)))) := by decide +kernel
theorem dt_e : ((flatC NV).drop 210).take 100 = (List.range 100).map (fun j => Cond.eq (.elem (.static "java/lang/Integer" "DigitTens" "[B") (.int (Int32.ofNat j))) (.int (iI ((48 + j / 10 : Nat) : Int)))) := by decide +kernel
theorem st_p : ∀ j, j < 17 → lw_tbl[[349, 1253, 1256, 118, 1261, 1295, 525, 545, 1271, 1272, 570, 1201, 1238, 1244, 236, 596, 610].getD j 0]? = some (Cond.stringRef RX8 (strL.getD j (0, "")).1 (strL.getD j (0, "")).2) ∧ (flatC NV)[[514, 878, 912, 478, 959, 1088, 527, 566, 1005, 1040, 593, 761, 801, 839, 494, 615, 649].getD j 0]? = some (Cond.exactly (.string RX8 (strL.getD j (0, "")).1) "java/lang/String") := by decide +kernel
theorem ns_p : ∀ j, j < 7 → ∃ q, nstM[j]? = some q ∧ lw_tbl[[640, 676, 712, 780, 794, 158, 421].getD j 0]? = some (Cond.methodLinkNest q.1 q.2.1 q.2.2.1 q.2.2.2) := by
  intro j hj
  have : j = 0 ∨ j = 1 ∨ j = 2 ∨ j = 3 ∨ j = 4 ∨ j = 5 ∨ j = 6 := by omega
  rcases this with rfl | rfl | rfl | rfl | rfl | rfl | rfl
  all_goals exact ⟨_, rfl, by decide +kernel⟩
abbrev ltm (i : Nat) : Term := .string RL ([144, 152, 154, 160].getD i 0)
theorem ls_r : ∀ i, i < 4 → lw_tbl[[957, 1103, 1104, 1168].getD i 0]? = some (Cond.stringRef RL (strW.getD i (0, "", 0)).1 (strW.getD i (0, "", 0)).2.1) := by decide +kernel
theorem ls_x : ∀ i, i < 4 → (flatC NV)[[680, 693, 708, 743].getD i 0]? = some (Cond.exactly (ltm i) "java/lang/String") ∧ (flatC NV)[[681, 694, 709, 744].getD i 0]? = some (Cond.eq (.field (ltm i) "java/lang/String" "coder" "B") (.int 0)) ∧
  (flatC NV)[[682, 695, 710, 745].getD i 0]? = some (Cond.arrayOf (.field (ltm i) "java/lang/String" "value" "[B") .byte) ∧ (flatC NV)[[683, 696, 711, 746].getD i 0]? = some (Cond.eq (.length (.field (ltm i) "java/lang/String" "value" "[B")) (.int (Int32.ofNat (slen.getD i 0)))) := by decide +kernel
theorem ls_e : ∀ i, i < 4 → ∀ j, j < 3 → j < slen.getD i 0 → (flatC NV)[[684, 697, 712, 747].getD i 0 + j]? = some (Cond.eq (.elem (.field (ltm i) "java/lang/String" "value" "[B") (.int (Int32.ofNat j))) (.int ((sbyt.getD i []).getD j 0))) := by decide +kernel
theorem ls_l : ∀ i, i < 4 → slen.getD i 0 ≤ 3 ∧ slen.getD i 0 < 2 ^ 31 := by decide
theorem ls_d : ∀ i, i < 4 → ∀ j, j < 4 → i ≠ j → ((flatC NV)[[0, 707, 723, 757, 707, 0, 724, 758, 723, 724, 0, 759, 757, 758, 759, 0].getD (4 * i + j) 0]? = some (Cond.not (.eq (ltm i) (ltm j))) ∨ (flatC NV)[[0, 707, 723, 757, 707, 0, 724, 758, 723, 724, 0, 759, 757, 758, 759, 0].getD (4 * i + j) 0]? = some (Cond.not (.eq (ltm j) (ltm i)))) := by decide +kernel
theorem start_Kt {Γ : Ga} {args : Array Value} {s : State} (hts : ∀ w ∈ lw_tbl, w.before args s = true) (hg : NV.before args s = true) (hW : ∀ q ∈ strW, vk_R RL q.1 q.2.1 (gad Γ q.2.2) s) : Kt Γ s := by
  refine ⟨fun q hq => ?_, ⟨va_Nw.of rfl (tb_at hts 1227 (by decide +kernel)), fun y hy => ?_⟩, fun q hq => ?_, hW⟩
  · obtain ⟨j, hj⟩ := List.getElem?_of_mem hq
    have hj7 : j < 7 := (List.getElem?_eq_some_iff.mp hj).1
    obtain ⟨q2, e1, e2⟩ := ns_p j hj7
    have e3 : q2 = q := Option.some.inj (e1.symm.trans hj)
    subst e3
    exact va_Nw.of rfl (tb_at hts _ e2)
  · simp only [List.mem_cons, List.not_mem_nil, or_false] at hy
    rcases hy with rfl | rfl | rfl
    · exact va_Nw.of rfl (tb_at hts 970 (by decide +kernel))
    · exact va_Nw.of rfl (tb_at hts 1045 (by decide +kernel))
    · exact va_Nw.of rfl (tb_at hts 1049 (by decide +kernel))
  · obtain ⟨j, hj⟩ := List.getElem?_of_mem hq
    have hj7 : j < 17 := (List.getElem?_eq_some_iff.mp hj).1
    obtain ⟨e1, e2⟩ := st_p j hj7
    have e3 : strL.getD j (0, "") = q := by rw [List.getD_eq_getElem?_getD, hj]; rfl
    rw [e3] at e1 e2
    obtain ⟨a, c, cell, k, q1, -⟩ := Cond.exactly_spec (nv_at hg _ e2)
    exact ⟨a, vk_R.of (tb_at hts _ e1) q1⟩
set_option maxHeartbeats 4000000 in
theorem start_Ks {args : Array Value} {s : State} (hts : ∀ w ∈ lw_tbl, w.before args s = true) (hg : NV.before args s = true) : ∃ gd : Nat → Nat, (∀ (C : Nat → ClassId) (I : Nat → Nat → Nat) (G : Nat → ClassId) (nn : Nat → Nat), Ks ((C, I, G, gd, s.heap.size, nn, s.heap.size) : Ga) s s.heap) ∧ ∀ q ∈ strW, vk_R RL q.1 q.2.1 (gd q.2.2) s := by
  have hA : ∀ a : Nat, a < s.heap.size → ¬ ((s.heap.size ≤ a ∧ a < s.heap.size + 243) ∨ s.heap.size ≤ a) := fun a h => by omega
  obtain ⟨ad, hE, hev⟩ := va_Enof2 (args := args) (s := s) (E := RX2) (d := dD) (nm := dnm) (F := dF) (A := fun q => (s.heap.size ≤ q ∧ q < s.heap.size + 243) ∨ s.heap.size ≤ q) (fun i hi => tb_at hts _ (en_l i hi)) (tb_at hts 40 (by decide +kernel)) (fun i hi => nv_at hg _ (en_x i hi))
    (fun q hq i hi => by
      obtain ⟨j, hj⟩ := List.getElem?_of_mem hq
      have hj4 : j < 4 := (List.getElem?_eq_some_iff.mp hj).1
      have e := en_f j hj4 i hi
      rw [show dF.getD j ("", "", "", []) = q by rw [List.getD_eq_getElem?_getD, hj]; rfl] at e
      exact nv_at hg _ e)
    (fun i j hi hj hne => (en_d j hj i hi hne).imp (fun q => nv_at hg _ q) (fun q => nv_at hg _ q))
    hA
  obtain ⟨tD, eD, hD⟩ := va_Tof (args := args) (s := s) (tm := .static RX8 "DEEDS" "[LBoatRota$Deed;") (ty := .object RX2) (N := 9) (f := fun i => .ref (ad i)) (A := fun q => (s.heap.size ≤ q ∧ q < s.heap.size + 243) ∨ s.heap.size ≤ q) (by decide) (nv_at hg 312 (by decide +kernel)) (va_eqt (nv_at hg 313 (by decide +kernel))) (fun j hj => va_eqv (nv_at hg _ (de_e j hj)) (hev j hj)) hA
  obtain ⟨tS, eS, hS⟩ := va_Tof (args := args) (s := s) (tm := .static RX0 "$SwitchMap$BoatRota$Deed" "[I") (ty := .int) (N := 9) (f := fun i => .int (swm.getD i 0)) (A := fun q => (s.heap.size ≤ q ∧ q < s.heap.size + 243) ∨ s.heap.size ≤ q) (by decide) (nv_at hg 12 (by decide +kernel)) (va_eqt (nv_at hg 13 (by decide +kernel))) (fun j hj => va_eqt (nv_at hg _ (sw_e j hj))) hA
  obtain ⟨tO, eO, hO⟩ := va_Tof (args := args) (s := s) (tm := .static "java/lang/Integer" "DigitOnes" "[B") (ty := .byte) (N := 100) (f := fun j => .int (iI ((48 + j % 10 : Nat) : Int))) (A := fun q => (s.heap.size ≤ q ∧ q < s.heap.size + 243) ∨ s.heap.size ≤ q) (by decide) (nv_at hg 105 (by decide +kernel)) (va_eqt (nv_at hg 106 (by decide +kernel))) (fun j hj => va_eqt (flat_of_before NV hg _ (by
      have hm : (Cond.eq (.elem (.static "java/lang/Integer" "DigitOnes" "[B") (.int (Int32.ofNat j))) (.int (iI ((48 + j % 10 : Nat) : Int)))) ∈ ((flatC NV).drop 107).take 100 := by
        rw [do_e]; exact List.mem_map.mpr ⟨j, List.mem_range.mpr hj, rfl⟩
      exact List.mem_of_mem_drop (List.mem_of_mem_take hm)))) hA
  obtain ⟨tT, eT, hT⟩ := va_Tof (args := args) (s := s) (tm := .static "java/lang/Integer" "DigitTens" "[B") (ty := .byte) (N := 100) (f := fun j => .int (iI ((48 + j / 10 : Nat) : Int))) (A := fun q => (s.heap.size ≤ q ∧ q < s.heap.size + 243) ∨ s.heap.size ≤ q) (by decide) (nv_at hg 208 (by decide +kernel)) (va_eqt (nv_at hg 209 (by decide +kernel))) (fun j hj => va_eqt (flat_of_before NV hg _ (by
      have hm : (Cond.eq (.elem (.static "java/lang/Integer" "DigitTens" "[B") (.int (Int32.ofNat j))) (.int (iI ((48 + j / 10 : Nat) : Int)))) ∈ ((flatC NV).drop 210).take 100 := by
        rw [dt_e]; exact List.mem_map.mpr ⟨j, List.mem_range.mpr hj, rfl⟩
      exact List.mem_of_mem_drop (List.mem_of_mem_take hm)))) hA
  obtain ⟨adK, adV, hSt, hSe⟩ := vk_Sof (args := args) (s := s) (N := 4) (tm := ltm) (len := slen) (byt := sbyt) (A := fun q => (s.heap.size ≤ q ∧ q < s.heap.size + 243) ∨ s.heap.size ≤ q) (fun i hi => (ls_l i hi).2) (fun i hi => nv_at hg _ (ls_x i hi).1) (fun i hi => nv_at hg _ (ls_x i hi).2.1) (fun i hi => nv_at hg _ (ls_x i hi).2.2.1) (fun i hi => nv_at hg _ (ls_x i hi).2.2.2)
    (fun i hi j hj => nv_at hg _ (ls_e i hi j (Nat.lt_of_lt_of_le hj (ls_l i hi).1) hj)) (fun i j hi hj hne => (ls_d i hi j hj hne).imp (fun q => nv_at hg _ q) (fun q => nv_at hg _ q)) hA
  refine ⟨fun i => if i < 9 then ad i else if i = 9 then tD else if i = 10 then tS else if i = 11 then tO else if i = 12 then tT else if i < 30 then adK (i - 20) else adV (i - 30), fun C I G nn => ?_, fun q hq => ?_⟩
  · refine ⟨hE.ad (fun i hi => if_pos hi), va_Zref (tb_at hts 1228 (by decide +kernel)) (tb_at hts 28 (by decide +kernel)) eD hA, ?_, va_Zref (tb_at hts 282 (by decide +kernel)) (tb_at hts 41 (by decide +kernel)) eS hA, hS, vx_Zqof (tb_at hts 101 (by decide +kernel)) (tb_at hts 44 (by decide +kernel)) (nv_at hg 4 (by decide +kernel)) hA, vx_Zqof (tb_at hts 103 (by decide +kernel)) (tb_at hts 44 (by decide +kernel)) (nv_at hg 5 (by decide +kernel)) hA,
      va_Zof (tb_at hts 839 (by decide +kernel)) (tb_at hts 37 (by decide +kernel)) (va_eqi (nv_at hg 36 (by decide +kernel))) hA, va_Zref (tb_at hts 1092 (by decide +kernel)) (tb_at hts 43 (by decide +kernel)) eO hA, hO, ?_, va_Zref (tb_at hts 1094 (by decide +kernel)) (tb_at hts 43 (by decide +kernel)) eT hA, hT, ?_⟩
    · obtain ⟨cell, q1, q2, q3, q4, q5, q6, q7⟩ := hD
      refine ⟨cell, q1, q2, q3, q4, q5, fun j hj => ?_, q7⟩
      rw [q6 j hj]
      show some (Value.ref (ad j)) = some (Value.ref (if j < 9 then ad j else _))
      rw [if_pos hj]
    · rcases va_Zqof (C := "jdk/internal/util/Preconditions") (n := "SIOOBE_FORMATTER") (d := "Ljava/util/function/BiFunction;") (A := fun q => (s.heap.size ≤ q ∧ q < s.heap.size + 243) ∨ s.heap.size ≤ q) (tb_at hts 1022 (by decide +kernel)) (tb_at hts 56 (by decide +kernel)) (nv_at hg 100 (by decide +kernel)) hA with h | ⟨t, h⟩
      · exact ⟨.null, rfl, h⟩
      · exact ⟨.ref t, rfl, h⟩
    · refine hSt.ad (fun i hi => ?_) (fun i hi => ?_)
      · show (if 20 + i < 9 then ad (20 + i) else if 20 + i = 9 then tD else if 20 + i = 10 then tS else if 20 + i = 11 then tO else if 20 + i = 12 then tT else if 20 + i < 30 then adK (20 + i - 20) else adV (20 + i - 30)) = adK i
        rw [if_neg (by omega), if_neg (by omega), if_neg (by omega), if_neg (by omega), if_neg (by omega), if_pos (by omega), Nat.add_sub_cancel_left]
      · show (if 30 + i < 9 then ad (30 + i) else if 30 + i = 9 then tD else if 30 + i = 10 then tS else if 30 + i = 11 then tO else if 30 + i = 12 then tT else if 30 + i < 30 then adK (30 + i - 20) else adV (30 + i - 30)) = adV i
        rw [if_neg (by omega), if_neg (by omega), if_neg (by omega), if_neg (by omega), if_neg (by omega), if_neg (by omega), Nat.add_sub_cancel_left]
  · obtain ⟨j, hj⟩ := List.getElem?_of_mem hq
    have hj4 : j < 4 := (List.getElem?_eq_some_iff.mp hj).1
    have e1 := ls_r j hj4
    have e2 := hSe j hj4
    have e3 : strW.getD j (0, "", 0) = q := by rw [List.getD_eq_getElem?_getD, hj]; rfl
    rw [e3] at e1
    have h9 : j = 0 ∨ j = 1 ∨ j = 2 ∨ j = 3 := by omega
    rcases h9 with rfl | rfl | rfl | rfl
    all_goals
      cases hj
      exact vk_R.of (tb_at hts _ e1) e2
theorem whole_start {p : Program} {e : Env} {s : State} {m : MethodId} {below : List Frame} {meth : Method} {c : Code} (l : Launch) (hflags : l.flags = flags0) {b L : Nat} {xs : Nat → Int32} (hL : L ≤ 260) (C0 : lw_At p s m meth c b L xs) : W p l e room_1 s m #[Value.ref b] below meth c s.heap [] 0 0 (lw_Z below #[Value.ref b] s) (entryFrame m ([Value.ref b] : List Value).toArray 5) := by
  obtain ⟨hx, hcb, hrt, hml, hown, hts, hX, hbl, hlk, hg⟩ := C0
  obtain ⟨CC, I, G, hK⟩ := start_K hts
  obtain ⟨gd, hS, hSW⟩ := start_Ks hts hg
  have hKx : Kx ((CC, I, G, gd, s.heap.size, fun i => i, s.heap.size) : Ga) s := ⟨hK gd _ _ _, hS CC I G _, start_Kt hts hg hSW⟩
  have C : Cx ((CC, I, G, gd, s.heap.size, fun i => i, s.heap.size) : Ga) p l s m #[Value.ref b] meth c cL_law RL 5 := ⟨hx, hcb, hml, hown, fun w hw => hts w (List.mem_filter.mp hw).1, hKx, hlk⟩
  have hc1 : ∀ k, k < 5 → lw_tbl[[229, 74, 518, 589, 342].getD k 0]? = some (Cond.castable (["java/lang/IllegalArgumentException", "java/lang/IndexOutOfBoundsException", "java/util/NoSuchElementException", "java/lang/IllegalStateException", "java/lang/UnsupportedOperationException"].getD k "") (["java/lang/IllegalArgumentException", "java/lang/IndexOutOfBoundsException", "java/util/NoSuchElementException", "java/lang/IllegalStateException", "java/lang/UnsupportedOperationException"].getD k "")) := by decide +kernel
  have hK3 : Kt3 s := by
    refine ⟨⟨va_Nw.of rfl (tb_at hts 76 (by decide +kernel)), va_Nw.of rfl (tb_at hts 78 (by decide +kernel)), va_Nw.of rfl (tb_at hts 80 (by decide +kernel)), fun q hq => ?_, va_Nw.of rfl (tb_at hts 285 (by decide +kernel))⟩, va_Nc.of (nv_at hg 349 (by decide +kernel)), va_Nc.of (nv_at hg 350 (by decide +kernel)), va_Nc.of (nv_at hg 392 (by decide +kernel))⟩
    obtain ⟨j, hj⟩ := List.getElem?_of_mem hq
    have hj6 : j < 5 := (List.getElem?_eq_some_iff.mp hj).1
    have e1 := hc1 j hj6
    rw [List.getD_eq_getElem?_getD (l := ["java/lang/IllegalArgumentException", "java/lang/IndexOutOfBoundsException", "java/util/NoSuchElementException", "java/lang/IllegalStateException", "java/lang/UnsupportedOperationException"]), hj] at e1
    exact va_Nw.of rfl (tb_at hts _ e1)
  have hA : Ka s := ⟨va_AO.of (tb_at hts 634 (by decide +kernel)), va_AO.of (tb_at hts 636 (by decide +kernel)), va_AO.of (tb_at hts 638 (by decide +kernel)), va_AO.of (tb_at hts 777 (by decide +kernel)), va_AO.of (tb_at hts 799 (by decide +kernel))⟩
  have hsl : l.stackTraces = false := by
    unfold Launch.stackTraces
    rw [hflags]; decide
  have hX9 : Sc ((CC, I, G, gd, s.heap.size, fun i => i, s.heap.size) : Ga) b L xs s := ⟨hX, hbl, fun q => by
    have q : (s.heap.size ≤ b ∧ b < s.heap.size + 243) ∨ s.heap.size ≤ b := q
    omega⟩
  have K := law_start (e := e) (below := below) C hK3 hA hsl hX9 (by omega) hrt ⟨rfl, rfl⟩
  refine W_room (R' := R9) ⟨by decide, by decide, by decide, by decide⟩ ?_
  rw [lg_entry_eq]
  exact K s.heap [] _ ⟨fun k q hq => (by cases hq), fun _ _ => (show Rg 0 from ⟨by decide, by decide⟩), Nn.le (by decide), fun a _ i b9 q => (by cases q)⟩ va_S.rf (lk.entry (k := 4) rfl rfl rfl)
