/-! what the start gives -/
abbrev NV : Cond := Jvm.Cond.and given_1 narrow_1
theorem nv_at {args : Array Value} {s : State} (hg : NV.before args s = true) {w : Cond} (k : Nat) (h : (flatC NV)[k]? = some w) : w.before args s = true := flat_of_before NV hg w (List.mem_of_getElem? h)
theorem tb_at {args : Array Value} {s : State} (hts : ∀ w ∈ lw_tbl, w.before args s = true) {w : Cond} (k : Nat) (h : lw_tbl[k]? = some w) : w.before args s = true := hts w (List.mem_of_getElem? h)
theorem arr_p {args : Array Value} {s : State} {ty : FieldType} (h : (Cond.arrayClass ty).before args s = true) : ∃ cA : ClassId, ArrOfT s cA ty ∧ s.vm.findClass ("[" ++ ty.toString) = some cA := by
  obtain ⟨c, k, comp, h1, h2, h3⟩ := Cond.arrayClass_spec h
  exact ⟨c, fun n z => ⟨fun _ h => (by cases h), k, h2, comp, h3⟩, h1⟩
theorem arr_o {args : Array Value} {s : State} {C : String} (h : (Cond.arrayOver (.object C)).before args s = true) : ∃ cA : ClassId, ArrOfT s cA (.object C) ∧ va_RA s cA (.object C) := by
  obtain ⟨comp, c, k, h1, h2, h3, h4, h5⟩ := Cond.arrayOver_spec h
  exact ⟨c, fun n z => ⟨fun _ h => (by cases h), k, h3, comp, h4⟩, k, comp, h3, h4, h1, h5⟩
theorem va_En.ad {E d : String} {nm : List String} {F : List (String × String × String × List Int32)} {ad ad' : Nat → Nat} {A : Nat → Prop} {U : State} {H : Heap} (h : va_En E d nm F ad A U H) (he : ∀ i, i < nm.length → ad' i = ad i) : va_En E d nm F ad' A U H := by
  refine ⟨fun i hi => ?_, fun i j hi hj hij => ?_⟩
  · rw [he i hi]; exact h.1 i hi
  · rw [he i hi, he j hj] at hij; exact h.2 i j hi hj hij
theorem start_K {args : Array Value} {s : State} (hts : ∀ w ∈ lw_tbl, w.before args s = true) : ∃ (C : Nat → ClassId) (I : Nat → Nat → Nat) (G : Nat → ClassId), ∀ (gd : Nat → Nat) (B : Nat), va_K (gD ((C, I, G, gd, B) : Ga)) clss (gT ((C, I, G, gd, B) : Ga)) s := by
  have hws : ∀ w ∈ WS, w.before args s = true := fun w hw => hts w (List.mem_filter.mp hw).1
  obtain ⟨c0, i0, k0⟩ := u_known (n := 12) hws uwX8 (tb_at hts 121 (by decide +kernel))
  obtain ⟨c1, i1, k1⟩ := u_known (n := 11) hws uwX7 (tb_at hts 129 (by decide +kernel))
  obtain ⟨c2, i2, k2⟩ := u_known (n := 6) hws uwX4 (tb_at hts 140 (by decide +kernel))
  obtain ⟨c3, i3, k3⟩ := u_known (n := 6) hws uwX1 (tb_at hts 176 (by decide +kernel))
  obtain ⟨c4, i4, k4⟩ := u_known (n := 3) hws uwX3 (tb_at hts 212 (by decide +kernel))
  obtain ⟨c5, i5, k5⟩ := u_known (n := 2) hws uwX5 (tb_at hts 280 (by decide +kernel))
  obtain ⟨c6, i6, k6⟩ := u_known (n := 7) hws uwX6 (tb_at hts 295 (by decide +kernel))
  obtain ⟨c7, i7, k7⟩ := u_known (n := 20) hws uwX9 (tb_at hts 1513 (by decide +kernel))
  obtain ⟨c8, i8, k8⟩ := u_known (n := 4) hws uwJ4 (tb_at hts 332 (by decide +kernel))
  obtain ⟨g0, a0, f0⟩ := arr_p (ty := .int) (tb_at hts 330 (by decide +kernel))
  obtain ⟨g1, a1, f1⟩ := arr_p (ty := .char) (tb_at hts 329 (by decide +kernel))
  obtain ⟨g2, a2, f2⟩ := arr_p (ty := .byte) (tb_at hts 363 (by decide +kernel))
  obtain ⟨g3, a3, f3⟩ := arr_o (C := RX4) (tb_at hts 135 (by decide +kernel))
  obtain ⟨g4, a4, f4⟩ := arr_o (C := RX1) (tb_at hts 137 (by decide +kernel))
  obtain ⟨g5, a5, f5⟩ := arr_o (C := RX3) (tb_at hts 139 (by decide +kernel))
  obtain ⟨g6, a6, f6⟩ := arr_o (C := RX7) (tb_at hts 278 (by decide +kernel))
  obtain ⟨g7, a7, f7⟩ := arr_o (C := RX2) (tb_at hts 301 (by decide +kernel))
  obtain ⟨g8, a8, f8⟩ := arr_p (ty := .long) (tb_at hts 1976 (by decide +kernel))
  obtain ⟨g9, a9, f9⟩ := arr_p (ty := .double) (tb_at hts 1977 (by decide +kernel))
  refine ⟨fun c => [c0, c1, c2, c3, c4, c5, c6, c7, c8].getD c c8, fun c => [i0, i1, i2, i3, i4, i5, i6, i7, i8].getD c i8, fun t => [g0, g1, g2, g3, g4, g5, g6, g7, g8, g9].getD t g9, fun gd B => ⟨fun c q hq => ?_, fun k q hq => ?_⟩⟩
  · match c, hq with
    | 0, hq => cases hq; exact k0
    | 1, hq => cases hq; exact k1
    | 2, hq => cases hq; exact k2
    | 3, hq => cases hq; exact k3
    | 4, hq => cases hq; exact k4
    | 5, hq => cases hq; exact k5
    | 6, hq => cases hq; exact k6
    | 7, hq => cases hq; exact k7
    | 8, hq => cases hq; exact k8
    | (n + 9), hq => cases hq
  · match k, hq with
    | 0, hq => cases hq; exact ⟨a0, f0⟩
    | 1, hq => cases hq; exact ⟨a1, f1⟩
    | 2, hq => cases hq; exact ⟨a2, f2⟩
    | 3, hq => cases hq; exact ⟨a3, f3⟩
    | 4, hq => cases hq; exact ⟨a4, f4⟩
    | 5, hq => cases hq; exact ⟨a5, f5⟩
    | 6, hq => cases hq; exact ⟨a6, f6⟩
    | 7, hq => cases hq; exact ⟨a7, f7⟩
    | 8, hq => cases hq; exact ⟨a8, f8⟩
    | 9, hq => cases hq; exact ⟨a9, f9⟩
    | (n + 10), hq => cases hq
abbrev dD : String := "LBoatRota$Deed;"
theorem en_l : ∀ i, i < 9 → lw_tbl[[476, 783, 792, 801, 810, 819, 828, 837, 846].getD i 0]? = some (Cond.laysStatic RX2 (dnm.getD i "") dD) := by decide +kernel
theorem en_x : ∀ i, i < 9 → (flatC NV)[[5, 24, 30, 37, 45, 54, 64, 75, 87].getD i 0]? = some (Cond.exactly (.static RX2 (dnm.getD i "") dD) RX2) := by decide +kernel
theorem en_f : ∀ j, j < 4 → ∀ i, i < 9 → (flatC NV)[[6, 25, 31, 38, 46, 55, 65, 76, 88].getD i 0 + j]? = some (Cond.eq (.field (.static RX2 (dnm.getD i "") dD) (dF.getD j ("", "", "", [])).1 (dF.getD j ("", "", "", [])).2.1 (dF.getD j ("", "", "", [])).2.2.1) (.int ((dF.getD j ("", "", "", [])).2.2.2.getD i 0))) := by decide +kernel
theorem en_d : ∀ j, j < 9 → ∀ i, i < j → (flatC NV)[[0, 29, 35, 42, 50, 59, 69, 80, 92].getD j 0 + i]? = some (Cond.not (.eq (.static RX2 (dnm.getD i "") dD) (.static RX2 (dnm.getD j "") dD))) := by decide +kernel
theorem de_e : ∀ j, j < 9 → (flatC NV)[105 + j]? = some (Cond.eq (.elem (.static RX8 "DEEDS" "[LBoatRota$Deed;") (.int (Int32.ofNat j))) (.static RX2 (dnm.getD j "") dD)) := by decide +kernel
theorem sw_e : ∀ j, j < 9 → (flatC NV)[13 + j]? = some (Cond.eq (.elem (.static RX0 "$SwitchMap$BoatRota$Deed" "[I") (.int (Int32.ofNat j))) (.int (swm.getD j 0))) := by decide +kernel
theorem do_e : ((flatC NV).drop 121).take 100 = (List.range 100).map (fun j => Cond.eq (.elem (.static "java/lang/Integer" "DigitOnes" "[B") (.int (Int32.ofNat j))) (.int (iI ((48 + j % 10 : Nat) : Int)))) := by decide +kernel
theorem st_p : ∀ j, j < 21 → lw_tbl[[634, 864, 913, 919, 932, 934, 965, 1013, 1025, 1044, 1045, 1070, 1096, 1137, 1143, 1151, 1448, 1481, 1495, 1503, 1511].getD j 0]? = some (Cond.stringRef RX8 (strL.getD j (0, "")).1 (strL.getD j (0, "")).2) ∧ (flatC NV)[[525, 536, 566, 584, 614, 630, 658, 691, 727, 750, 766, 794, 811, 838, 862, 886, 1016, 1049, 1073, 1092, 1120].getD j 0]? = some (Cond.exactly (.string RX8 (strL.getD j (0, "")).1) "java/lang/String") := by decide +kernel
theorem ns_p : ∀ j, j < 7 → ∃ q, nstM[j]? = some q ∧ lw_tbl[[141, 177, 213, 281, 296, 539, 728].getD j 0]? = some (Cond.methodLinkNest q.1 q.2.1 q.2.2.1 q.2.2.2) := by
  intro j hj
  have : j = 0 ∨ j = 1 ∨ j = 2 ∨ j = 3 ∨ j = 4 ∨ j = 5 ∨ j = 6 := by omega
  rcases this with rfl | rfl | rfl | rfl | rfl | rfl | rfl
  all_goals exact ⟨_, rfl, by decide +kernel⟩
theorem start_Kt {args : Array Value} {s : State} (hts : ∀ w ∈ lw_tbl, w.before args s = true) (hg : NV.before args s = true) : Kt s := by
  refine ⟨fun q hq => ?_, ⟨va_Nw.of rfl (tb_at hts 1126 (by decide +kernel)), va_Nw.of rfl (tb_at hts 1186 (by decide +kernel))⟩, fun q hq => ?_⟩
  · obtain ⟨j, hj⟩ := List.getElem?_of_mem hq
    have hj7 : j < 7 := (List.getElem?_eq_some_iff.mp hj).1
    obtain ⟨q2, e1, e2⟩ := ns_p j hj7
    have e3 : q2 = q := Option.some.inj (e1.symm.trans hj)
    subst e3
    exact va_Nw.of rfl (tb_at hts _ e2)
  · obtain ⟨j, hj⟩ := List.getElem?_of_mem hq
    have hj7 : j < 21 := (List.getElem?_eq_some_iff.mp hj).1
    obtain ⟨e1, e2⟩ := st_p j hj7
    have e3 : strL.getD j (0, "") = q := by rw [List.getD_eq_getElem?_getD, hj]; rfl
    rw [e3] at e1 e2
    obtain ⟨a, c, cell, k, q1, -⟩ := Cond.exactly_spec (nv_at hg _ e2)
    exact ⟨a, vk_R.of (tb_at hts _ e1) q1⟩
theorem start_Ks {args : Array Value} {s : State} (hts : ∀ w ∈ lw_tbl, w.before args s = true) (hg : NV.before args s = true) : ∃ gd : Nat → Nat, ∀ (C : Nat → ClassId) (I : Nat → Nat → Nat) (G : Nat → ClassId), Ks ((C, I, G, gd, s.heap.size) : Ga) s s.heap := by
  have hA : ∀ a : Nat, a < s.heap.size → ¬ (s.heap.size ≤ a) := fun a h => Nat.not_le.mpr h
  obtain ⟨ad, hE, hev⟩ := va_Enof2 (args := args) (s := s) (E := RX2) (d := dD) (nm := dnm) (F := dF) (A := fun q => s.heap.size ≤ q) (fun i hi => tb_at hts _ (en_l i hi)) (tb_at hts 99 (by decide +kernel)) (fun i hi => nv_at hg _ (en_x i hi))
    (fun q hq i hi => by
      obtain ⟨j, hj⟩ := List.getElem?_of_mem hq
      have hj4 : j < 4 := (List.getElem?_eq_some_iff.mp hj).1
      have e := en_f j hj4 i hi
      rw [show dF.getD j ("", "", "", []) = q by rw [List.getD_eq_getElem?_getD, hj]; rfl] at e
      exact nv_at hg _ e)
    (fun i j hi hj hne => by
      rcases Nat.lt_or_gt_of_ne hne with h | h
      · exact Or.inl (nv_at hg _ (en_d j hj i h))
      · exact Or.inr (nv_at hg _ (en_d i hi j h)))
    hA
  obtain ⟨tD, eD, hD⟩ := va_Tof (args := args) (s := s) (tm := .static RX8 "DEEDS" "[LBoatRota$Deed;") (ty := .object RX2) (N := 9) (f := fun i => .ref (ad i)) (A := fun q => s.heap.size ≤ q) (by decide) (nv_at hg 102 (by decide +kernel)) (va_eqt (nv_at hg 103 (by decide +kernel))) (fun j hj => va_eqv (nv_at hg _ (de_e j hj)) (hev j hj)) hA
  obtain ⟨tS, eS, hS⟩ := va_Tof (args := args) (s := s) (tm := .static RX0 "$SwitchMap$BoatRota$Deed" "[I") (ty := .int) (N := 9) (f := fun i => .int (swm.getD i 0)) (A := fun q => s.heap.size ≤ q) (by decide) (nv_at hg 11 (by decide +kernel)) (va_eqt (nv_at hg 12 (by decide +kernel))) (fun j hj => va_eqt (nv_at hg _ (sw_e j hj))) hA
  obtain ⟨tO, eO, hO⟩ := va_Tof (args := args) (s := s) (tm := .static "java/lang/Integer" "DigitOnes" "[B") (ty := .byte) (N := 100) (f := fun i => .int (iI ((48 + i % 10 : Nat) : Int))) (A := fun q => s.heap.size ≤ q) (by decide) (nv_at hg 119 (by decide +kernel)) (va_eqt (nv_at hg 120 (by decide +kernel))) (fun j hj => va_eqt (flat_of_before NV hg _ (by
      have hm : (Cond.eq (.elem (.static "java/lang/Integer" "DigitOnes" "[B") (.int (Int32.ofNat j))) (.int (iI ((48 + j % 10 : Nat) : Int)))) ∈ ((flatC NV).drop 121).take 100 := by
        rw [do_e]; exact List.mem_map.mpr ⟨j, List.mem_range.mpr hj, rfl⟩
      exact List.mem_of_mem_drop (List.mem_of_mem_take hm)))) hA
  refine ⟨fun i => if i < 9 then ad i else if i = 9 then tD else if i = 10 then tS else tO, fun C I G => ?_⟩
  refine ⟨hE.ad (fun i hi => if_pos hi), va_Zref (tb_at hts 1127 (by decide +kernel)) (tb_at hts 86 (by decide +kernel)) eD hA, ?_, va_Zref (tb_at hts 486 (by decide +kernel)) (tb_at hts 100 (by decide +kernel)) eS hA, hS, vx_Zqof (tb_at hts 615 (by decide +kernel)) (tb_at hts 103 (by decide +kernel)) (nv_at hg 22 (by decide +kernel)) hA, vx_Zqof (tb_at hts 617 (by decide +kernel)) (tb_at hts 103 (by decide +kernel)) (nv_at hg 23 (by decide +kernel)) hA,
    va_Zof (tb_at hts 341 (by decide +kernel)) (tb_at hts 95 (by decide +kernel)) (va_eqi (nv_at hg 4 (by decide +kernel))) hA, va_Zref (tb_at hts 1304 (by decide +kernel)) (tb_at hts 102 (by decide +kernel)) eO hA, hO, ?_⟩
  · obtain ⟨cell, q1, q2, q3, q4, q5, q6, q7⟩ := hD
    refine ⟨cell, q1, q2, q3, q4, q5, fun j hj => ?_, q7⟩
    rw [q6 j hj]
    show some (Value.ref (ad j)) = some (Value.ref (if j < 9 then ad j else _))
    rw [if_pos hj]
  · rcases va_Zqof (C := "jdk/internal/util/Preconditions") (n := "SIOOBE_FORMATTER") (d := "Ljava/util/function/BiFunction;") (A := fun q => s.heap.size ≤ q) (tb_at hts 1234 (by decide +kernel)) (tb_at hts 117 (by decide +kernel)) (nv_at hg 114 (by decide +kernel)) hA with h | ⟨t, h⟩
    · exact ⟨.null, rfl, h⟩
    · exact ⟨.ref t, rfl, h⟩
