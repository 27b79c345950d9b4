/-! the law's rota, filled -/
def IV (d k : Nat) (W : Wo) : Prop := ∃ (σ : Row) (n : Nat) (hh : Nat → Row), INV (1000 + 3200 * (d : Int)) W σ n hh ∧ (k : Int) ≤ σ 2
theorem IV.up {d k : Nat} {W : Wo} (h : IV d k W) (hd : d ≤ 20) : IV (d + 1) k W := by
  obtain ⟨σ, n, hh, h, h2⟩ := h
  exact ⟨σ, n, hh, h.le ⟨by omega, by omega⟩, h2⟩
theorem IV.next {d e9 k : Nat} {W : Wo} {σ : Row} {n : Nat} {hh : Nat → Row} {a b z : Int} (h : DP (1000 + 3200 * (d : Int)) σ n hh e9 a b z W) (hd : d ≤ 20) (hk : (k : Int) ≤ σ 2) : (-900001 ≤ z ∧ z ≤ 100) ∧ IV (d + 1) k W := by
  obtain ⟨h1, σ', n', hh', h2, h3⟩ := h.any (by omega)
  exact ⟨h1, σ', n', hh', h2.le ⟨by omega, by omega⟩, by omega⟩
/-- a boat more, as long as there are less than three -/
theorem IV.boat {d k : Nat} {W : Wo} {σ : Row} {n : Nat} {hh : Nat → Row} {a b z : Int} (h : DP (1000 + 3200 * (d : Int)) σ n hh 3 a b z W) (hI : RI (1000 + 3200 * (d : Int)) σ) (hd : d ≤ 20) (hk : (k : Int) ≤ σ 2) (hk3 : k < 3) (ha : (0 ≤ a ∧ a ≤ 6) ∧ 2 ≤ b ∧ b ≤ 6) : (-900001 ≤ z ∧ z ≤ 100) ∧ IV (d + 1) (k + 1) W := by
  have gs := hI.s
  rcases h with ⟨h1, h2, h3, h4⟩ | ⟨h1, h3, h4⟩
  · refine ⟨⟨by omega, by omega⟩, _, _, _, h3.le ⟨by omega, by omega⟩, ?_⟩
    by_cases e : σ 2 = 3
    · omega
    · have := (newB_v hI (v := a) (u := b) (by omega)).1
      have e9 : (ad 3 σ a b).2 2 = newB σ a b 2 := rfl
      omega
  · by_cases e : σ 2 = 3
    · exact ⟨⟨by omega, by omega⟩, _, _, _, h3.le ⟨by omega, by omega⟩, by omega⟩
    · refine absurd ?_ h4
      show (if _ then _ else if _ then _ else _ : Int × Int).1 = 0
      rw [if_neg (not_not_intro ha), if_neg e]
def Eb (Γ : Ga) (b Ls : Nat) (xs : Nat → Int32) (U : State) : Prop := (U.heap.size = gB Γ ∧ gH Γ = gB Γ) ∧ Ka U ∧ Sc Γ b Ls xs U
theorem Eb.ex {Γ : Ga} {b Ls : Nat} {xs : Nat → Int32} : ExS (Eb Γ b Ls xs) := fun U g mk a h => ⟨h.1, h.2.1.moved (u := U) (U := U.calling g mk a) (Vm.Alike.refl U.vm), Sc.ex U g mk a h.2.2⟩
set_option maxRecDepth 100000 in
set_option maxHeartbeats 16000000 in
theorem c_begun {Γ : Ga} {l : Launch} (hsl : l.stackTraces = false) {b Ls : Nat} {xs : Nat → Int32} (hLs : Ls < 2000) : Met l yL_begun (.code yL_begun cL_begun 4 (some (.object "BoatRota")) :: WS) (rmk 22 300 1700) (PL Γ 0 kd [.ref b] om0 (Eb Γ b Ls xs)) (QRW Γ 243 kd (fun b' ω' => b' = 0 ∧ IV 15 3 ω')) 300 1700 (gA Γ) := by
  refine MetL.ofJ (k := 3) [some (.ref b), none, none, none] (by decide) rfl rfl rfl (fun p e s mm args below meth c C hK3 hX hrt => ?_)
  have fin : ∀ (ce sl : Nat) (q : Int) (W : Wo) (u3 : Option Value), IV 15 3 W → (-13500015 ≤ q ∧ q ≤ 1500) → ce ≤ 258 → sl ≤ 1561 → J Γ p l e (rmk 22 300 1700) s mm args below meth c (MQ below (QRW Γ 243 kd (fun b' ω' => b' = 0 ∧ IV 15 3 ω')) args s 300 1700 (gA Γ)) 243 ce sl 197 [some (.ref b), some (.ref (rl Γ 0)), some (.int (iI (q : Int))), u3] [] W := by
    intro ce sl q W u3 hI hq hce hsl9
    refine j_iload2 C dL_begun_197 ?_
    refine j_ldc (z := -90000000) C (WS_of 924 (by decide +kernel)) dL_begun_198 ?_
    refine j_icmp_ge C ⟨by omega, by omega⟩ ⟨by omega, by omega⟩ dL_begun_200 (fun hc200 => ?_) (fun hc200 => absurd hc200 (by omega))
    refine j_aload1 C dL_begun_207 ?_
    refine j_widen (ce' := 300) (sl' := 1700) (by omega) (by omega) ?_
    exact j_art C hrt rfl dL_begun_208 rfl ⟨rfl, rfl⟩ ⟨rfl, hI⟩
  have m156 : ∀ (ce sl : Nat) (q v : Int) (W : Wo) (u2 u3 : Option Value), okp u2 = true → IV 13 3 W → (-900001 * 12 ≤ q ∧ q ≤ 100 * 12) → (-900001 ≤ v ∧ v ≤ 100) → ce ≤ 243 + 13 → sl ≤ 1471 + 6 * 13 → J Γ p l e (rmk 22 300 1700) s mm args below meth c (MQ below (QRW Γ 243 kd (fun b' ω' => b' = 0 ∧ IV 15 3 ω')) args s 300 1700 (gA Γ)) 243 ce sl 156 [some (.ref b), some (.ref (rl Γ 0)), u2, u3] [.int (iI v), .int (iI q)] W := by
    intro ce sl q v W u2 u3 hok hI hq hv hce hsl9
    refine j_iadd C dL_begun_156 ?_
    refine j_istore2 C rfl dL_begun_157 ?_
    refine j_iload2 C dL_begun_158 ?_
    refine j_aload1 C dL_begun_159 ?_
    refine j_iconst C dL_begun_160 ?_
    refine j_aload0 C dL_begun_161 ?_
    refine j_bipush C (by decide) dL_begun_162 ?_
    refine j_bipush C (by decide) dL_begun_164 ?_
    refine j_cL (as := [.ref b, .int (iI 19), .int (iI 12)]) (mc := 0) (ms := 0) C hK3 (c_in hLs (i := 19) (mm9 := 12) ⟨by omega, by omega⟩ ⟨by decide, by decide⟩) Sc.ex (fun H locs U hP hS hU hW => hX.2.2.next hW hU hS) oL_in kL_116 ⟨by decide, by decide⟩ rfl rfl (Nat.le_of_ble_eq_true rfl) ⟨by omega, by omega⟩ dL_begun_166 ?_
    intro v166 _ hz166 hp
    obtain ⟨hv166, e9⟩ := hp
    rw [e9]
    clear e9 hz166
    refine j_iadd C dL_begun_169 ?_
    obtain ⟨σ, n0, hh, hV, hB9⟩ := hI
    refine j_d_pass C hK3 (Nat.le_refl _) Kl.k0 hsl hV (by omega) ⟨by omega, by omega⟩ kL_130 (by decide) rfl (Nat.le_of_ble_eq_true rfl) ⟨by omega, by omega⟩ dL_begun_170 (fun z170 W170 hz170 hd hk => ?_)
    obtain ⟨hr170, hI170⟩ := IV.next hd (by omega) hB9
    clear hk hd
    refine j_aload1 C dL_begun_173 ?_
    refine j_aload0 C dL_begun_174 ?_
    refine j_bipush C (by decide) dL_begun_175 ?_
    refine j_iconst C dL_begun_177 ?_
    refine j_cL (as := [.ref b, .int (iI 20), .int (iI 3)]) (mc := 0) (ms := 0) C hK3 (c_in hLs (i := 20) (mm9 := 3) ⟨by omega, by omega⟩ ⟨by decide, by decide⟩) Sc.ex (fun H locs U hP hS hU hW => hX.2.2.next hW hU hS) oL_in kL_116 ⟨by decide, by decide⟩ rfl rfl (Nat.le_of_ble_eq_true rfl) ⟨by omega, by omega⟩ dL_begun_178 ?_
    intro v178 _ hz178 hp
    obtain ⟨hv178, e9⟩ := hp
    rw [e9]
    clear e9 hz178
    refine j_iconst C dL_begun_181 ?_
    refine j_aload0 C dL_begun_182 ?_
    refine j_bipush C (by decide) dL_begun_183 ?_
    refine j_bipush C (by decide) dL_begun_185 ?_
    refine j_cL (as := [.ref b, .int (iI 21), .int (iI 9)]) (mc := 0) (ms := 0) C hK3 (c_in hLs (i := 21) (mm9 := 9) ⟨by omega, by omega⟩ ⟨by decide, by decide⟩) Sc.ex (fun H locs U hP hS hU hW => hX.2.2.next hW hU hS) oL_in kL_116 ⟨by decide, by decide⟩ rfl rfl (Nat.le_of_ble_eq_true rfl) ⟨by omega, by omega⟩ dL_begun_187 ?_
    intro v187 _ hz187 hp
    obtain ⟨hv187, e9⟩ := hp
    rw [e9]
    clear e9 hz187
    refine j_iadd C dL_begun_190 ?_
    obtain ⟨σ, n0, hh, hV, hB9⟩ := hI170
    refine j_d_call C hK3 (Nat.le_refl _) Kl.k0 hsl hV (by omega) ⟨by omega, by omega⟩ ⟨by omega, by omega⟩ kL_132 (by decide) rfl (Nat.le_of_ble_eq_true rfl) ⟨by omega, by omega⟩ dL_begun_191 (fun z191 W191 hz191 hd hk => ?_)
    obtain ⟨hr191, hI191⟩ := IV.next hd (by omega) hB9
    clear hk hd
    refine j_iadd C dL_begun_194 ?_
    refine j_iadd C dL_begun_195 ?_
    refine j_istore2 C rfl dL_begun_196 ?_
    exact fin _ _ _ _ _ hI191 ⟨by omega, by omega⟩ (by omega) (by omega)
  have m125 : ∀ (ce sl : Nat) (q v : Int) (W : Wo) (u2 u3 : Option Value), okp u2 = true → IV 12 3 W → (-900001 * 11 ≤ q ∧ q ≤ 100 * 11) → (-900001 ≤ v ∧ v ≤ 100) → ce ≤ 243 + 12 → sl ≤ 1471 + 6 * 12 → J Γ p l e (rmk 22 300 1700) s mm args below meth c (MQ below (QRW Γ 243 kd (fun b' ω' => b' = 0 ∧ IV 15 3 ω')) args s 300 1700 (gA Γ)) 243 ce sl 125 [some (.ref b), some (.ref (rl Γ 0)), u2, u3] [.int (iI v), .int (iI q)] W := by
    intro ce sl q v W u2 u3 hok hI hq hv hce hsl9
    refine j_iadd C dL_begun_125 ?_
    refine j_istore2 C rfl dL_begun_126 ?_
    refine j_iload2 C dL_begun_127 ?_
    refine j_aload0 C dL_begun_128 ?_
    refine j_bipush C (by decide) dL_begun_129 ?_
    refine j_iconst C dL_begun_131 ?_
    refine j_cL (as := [.ref b, .int (iI 17), .int (iI 3)]) (mc := 0) (ms := 0) C hK3 (c_in hLs (i := 17) (mm9 := 3) ⟨by omega, by omega⟩ ⟨by decide, by decide⟩) Sc.ex (fun H locs U hP hS hU hW => hX.2.2.next hW hU hS) oL_in kL_116 ⟨by decide, by decide⟩ rfl rfl (Nat.le_of_ble_eq_true rfl) ⟨by omega, by omega⟩ dL_begun_132 ?_
    intro v132 _ hz132 hp
    obtain ⟨hv132, e9⟩ := hp
    rw [e9]
    clear e9 hz132
    refine j_if_ne C ⟨by omega, by omega⟩ dL_begun_135 (fun hc135 => ?_) (fun hc135 => ?_)
    · -- 135 t
      refine j_iconst C dL_begun_155 ?_
      exact m156 _ _ _ 0 _ _ _ rfl (hI.up (by decide)) ⟨by omega, by omega⟩ ⟨by decide, by decide⟩ (by omega) (by omega)
    · -- 135 f
      refine j_aload1 C dL_begun_138 ?_
      refine j_iconst C dL_begun_139 ?_
      refine j_aload0 C dL_begun_140 ?_
      refine j_bipush C (by decide) dL_begun_141 ?_
      refine j_bipush C (by decide) dL_begun_143 ?_
      refine j_cL (as := [.ref b, .int (iI 18), .int (iI 20)]) (mc := 0) (ms := 0) C hK3 (c_in hLs (i := 18) (mm9 := 20) ⟨by omega, by omega⟩ ⟨by decide, by decide⟩) Sc.ex (fun H locs U hP hS hU hW => hX.2.2.next hW hU hS) oL_in kL_116 ⟨by decide, by decide⟩ rfl rfl (Nat.le_of_ble_eq_true rfl) ⟨by omega, by omega⟩ dL_begun_145 ?_
      intro v145 _ hz145 hp
      obtain ⟨hv145, e9⟩ := hp
      rw [e9]
      clear e9 hz145
      refine j_iadd C dL_begun_148 ?_
      obtain ⟨σ, n0, hh, hV, hB9⟩ := hI
      refine j_d_limit C hK3 (Nat.le_refl _) Kl.k0 hsl hV (by omega) ⟨by omega, by omega⟩ kL_128 (by decide) rfl (Nat.le_of_ble_eq_true rfl) ⟨by omega, by omega⟩ dL_begun_149 (fun z149 W149 hz149 hd hk => ?_)
      obtain ⟨hr149, hI149⟩ := IV.next hd (by omega) hB9
      clear hk hd
      refine j_goto C dL_begun_152 ?_
      exact m156 _ _ _ _ _ _ _ rfl hI149 ⟨by omega, by omega⟩ hr149 (by omega) (by omega)
  have m86 : ∀ (ce sl : Nat) (q : Int) (W : Wo) (u3 : Option Value), IV 11 3 W → (-900001 * 11 ≤ q ∧ q ≤ 100 * 11) → ce ≤ 243 + 11 → sl ≤ 1471 + 6 * 11 → J Γ p l e (rmk 22 300 1700) s mm args below meth c (MQ below (QRW Γ 243 kd (fun b' ω' => b' = 0 ∧ IV 15 3 ω')) args s 300 1700 (gA Γ)) 243 ce sl 86 [some (.ref b), some (.ref (rl Γ 0)), some (.int (iI (q : Int))), u3] [] W := by
    intro ce sl q W u3 hI hq hce hsl9
    refine j_iload2 C dL_begun_86 ?_
    refine j_aload0 C dL_begun_87 ?_
    refine j_bipush C (by decide) dL_begun_88 ?_
    refine j_iconst C dL_begun_90 ?_
    refine j_cL (as := [.ref b, .int (iI 14), .int (iI 2)]) (mc := 0) (ms := 0) C hK3 (c_in hLs (i := 14) (mm9 := 2) ⟨by omega, by omega⟩ ⟨by decide, by decide⟩) Sc.ex (fun H locs U hP hS hU hW => hX.2.2.next hW hU hS) oL_in kL_116 ⟨by decide, by decide⟩ rfl rfl (Nat.le_of_ble_eq_true rfl) ⟨by omega, by omega⟩ dL_begun_91 ?_
    intro v91 _ hz91 hp
    obtain ⟨hv91, e9⟩ := hp
    rw [e9]
    clear e9 hz91
    refine j_if_ne C ⟨by omega, by omega⟩ dL_begun_94 (fun hc94 => ?_) (fun hc94 => ?_)
    · -- 94 t
      refine j_iconst C dL_begun_124 ?_
      exact m125 _ _ _ 0 _ _ _ rfl (hI.up (by decide)) ⟨by omega, by omega⟩ ⟨by decide, by decide⟩ (by omega) (by omega)
    · -- 94 f
      refine j_aload1 C dL_begun_97 ?_
      refine j_iconst C dL_begun_98 ?_
      refine j_aload0 C dL_begun_99 ?_
      refine j_bipush C (by decide) dL_begun_100 ?_
      refine j_bipush C (by decide) dL_begun_102 ?_
      refine j_cL (as := [.ref b, .int (iI 15), .int (iI 9)]) (mc := 0) (ms := 0) C hK3 (c_in hLs (i := 15) (mm9 := 9) ⟨by omega, by omega⟩ ⟨by decide, by decide⟩) Sc.ex (fun H locs U hP hS hU hW => hX.2.2.next hW hU hS) oL_in kL_116 ⟨by decide, by decide⟩ rfl rfl (Nat.le_of_ble_eq_true rfl) ⟨by omega, by omega⟩ dL_begun_104 ?_
      intro v104 _ hz104 hp
      obtain ⟨hv104, e9⟩ := hp
      rw [e9]
      clear e9 hz104
      refine j_iadd C dL_begun_107 ?_
      refine j_iconst C dL_begun_108 ?_
      refine j_aload0 C dL_begun_109 ?_
      refine j_bipush C (by decide) dL_begun_110 ?_
      refine j_bipush C (by decide) dL_begun_112 ?_
      refine j_cL (as := [.ref b, .int (iI 16), .int (iI 20)]) (mc := 0) (ms := 0) C hK3 (c_in hLs (i := 16) (mm9 := 20) ⟨by omega, by omega⟩ ⟨by decide, by decide⟩) Sc.ex (fun H locs U hP hS hU hW => hX.2.2.next hW hU hS) oL_in kL_116 ⟨by decide, by decide⟩ rfl rfl (Nat.le_of_ble_eq_true rfl) ⟨by omega, by omega⟩ dL_begun_114 ?_
      intro v114 _ hz114 hp
      obtain ⟨hv114, e9⟩ := hp
      rw [e9]
      clear e9 hz114
      refine j_iadd C dL_begun_117 ?_
      obtain ⟨σ, n0, hh, hV, hB9⟩ := hI
      refine j_d_borrow C hK3 (Nat.le_refl _) Kl.k0 hsl hV (by omega) ⟨by omega, by omega⟩ ⟨by omega, by omega⟩ kL_126 (by decide) rfl (Nat.le_of_ble_eq_true rfl) ⟨by omega, by omega⟩ dL_begun_118 (fun z118 W118 hz118 hd hk => ?_)
      obtain ⟨hr118, hI118⟩ := IV.next hd (by omega) hB9
      clear hk hd
      refine j_goto C dL_begun_121 ?_
      exact m125 _ _ _ _ _ _ _ rfl hI118 ⟨by omega, by omega⟩ hr118 (by omega) (by omega)
  have lp2 : ∀ (N k ce sl : Nat) (q : Int) (W : Wo), 3 - k < N → k ≤ 3 → IV (8 + k) k W → (-900001 * (8 + (k : Int)) ≤ q ∧ q ≤ 100 * (8 + (k : Int))) → ce ≤ 251 + k → sl ≤ 1519 + 6 * k → J Γ p l e (rmk 22 300 1700) s mm args below meth c (MQ below (QRW Γ 243 kd (fun b' ω' => b' = 0 ∧ IV 15 3 ω')) args s 300 1700 (gA Γ)) 243 ce sl 47 [some (.ref b), some (.ref (rl Γ 0)), some (.int (iI (q : Int))), some (.int (iI (k : Int)))] [] W := by
    intro N
    induction N with
    | zero => intro k ce sl q W hN; exact absurd hN (Nat.not_lt_zero _)
    | succ N ih =>
      intro k ce sl q W hN hk0 hI hq hce hsl9
      refine j_iload3 C dL_begun_47 ?_
      refine j_iconst C dL_begun_48 ?_
      refine j_icmp_ge C ⟨by omega, by omega⟩ ⟨by omega, by omega⟩ dL_begun_49 (fun hc49 => ?_) (fun hc49 => ?_)
      · -- 49 t
        have hk9 : k = 3 := by omega
        subst hk9
        exact m86 _ _ _ _ _ hI ⟨by omega, by omega⟩ (by omega) (by omega)
      · -- 49 f
        refine j_iload2 C dL_begun_52 ?_
        refine j_aload1 C dL_begun_53 ?_
        refine j_aload0 C dL_begun_54 ?_
        refine j_bipush C (by decide) dL_begun_55 ?_
        refine j_iload3 C dL_begun_57 ?_
        refine j_iadd C dL_begun_58 ?_
        refine j_bipush C (by decide) dL_begun_59 ?_
        refine j_cL (as := [.ref b, .int (iI (8 + (k : Int))), .int (iI 7)]) (mc := 0) (ms := 0) C hK3 (c_in hLs (i := (8 + (k : Int))) (mm9 := 7) ⟨by omega, by omega⟩ ⟨by decide, by decide⟩) Sc.ex (fun H locs U hP hS hU hW => hX.2.2.next hW hU hS) oL_in kL_116 ⟨by decide, by decide⟩ rfl rfl (Nat.le_of_ble_eq_true rfl) ⟨by omega, by omega⟩ dL_begun_61 ?_
        intro v61 _ hz61 hp
        obtain ⟨hv61, e9⟩ := hp
        rw [e9]
        clear e9 hz61
        refine j_iconst C dL_begun_64 ?_
        refine j_aload0 C dL_begun_65 ?_
        refine j_bipush C (by decide) dL_begun_66 ?_
        refine j_iload3 C dL_begun_68 ?_
        refine j_iadd C dL_begun_69 ?_
        refine j_iconst C dL_begun_70 ?_
        refine j_cL (as := [.ref b, .int (iI (11 + (k : Int))), .int (iI 5)]) (mc := 0) (ms := 0) C hK3 (c_in hLs (i := (11 + (k : Int))) (mm9 := 5) ⟨by omega, by omega⟩ ⟨by decide, by decide⟩) Sc.ex (fun H locs U hP hS hU hW => hX.2.2.next hW hU hS) oL_in kL_116 ⟨by decide, by decide⟩ rfl rfl (Nat.le_of_ble_eq_true rfl) ⟨by omega, by omega⟩ dL_begun_71 ?_
        intro v71 _ hz71 hp
        obtain ⟨hv71, e9⟩ := hp
        rw [e9]
        clear e9 hz71
        refine j_iadd C dL_begun_74 ?_
        obtain ⟨σ, n0, hh, hV, hB9⟩ := hI
        refine j_d_boat C hK3 (Nat.le_refl _) Kl.k0 hsl hV (by omega) ⟨by omega, by omega⟩ ⟨by omega, by omega⟩ kL_123 (by decide) rfl (Nat.le_of_ble_eq_true rfl) ⟨by omega, by omega⟩ dL_begun_75 (fun z75 W75 hz75 hd hk => ?_)
        obtain ⟨hr75, hI75⟩ := IV.boat hd hV.ri (by omega) hB9 (by omega) ⟨⟨by omega, by omega⟩, by omega, by omega⟩
        clear hk hd
        refine j_iadd C dL_begun_78 ?_
        refine j_istore2 C rfl dL_begun_79 ?_
        refine j_iinc3 C rfl dL_begun_80 ?_
        refine j_goto C dL_begun_83 ?_
        exact ih (k + 1) _ _ _ _ (by omega) (by omega) hI75 ⟨by omega, by omega⟩ (by omega) (by omega)
  have lp1 : ∀ (N k ce sl : Nat) (q : Int) (W : Wo), 8 - k < N → k ≤ 8 → IV k 0 W → (-900001 * (k : Int) ≤ q ∧ q ≤ 100 * (k : Int)) → ce ≤ 243 + k → sl ≤ 1471 + 6 * k → J Γ p l e (rmk 22 300 1700) s mm args below meth c (MQ below (QRW Γ 243 kd (fun b' ω' => b' = 0 ∧ IV 15 3 ω')) args s 300 1700 (gA Γ)) 243 ce sl 12 [some (.ref b), some (.ref (rl Γ 0)), some (.int (iI (q : Int))), some (.int (iI (k : Int)))] [] W := by
    intro N
    induction N with
    | zero => intro k ce sl q W hN; exact absurd hN (Nat.not_lt_zero _)
    | succ N ih =>
      intro k ce sl q W hN hk0 hI hq hce hsl9
      refine j_iload3 C dL_begun_12 ?_
      refine j_bipush C (by decide) dL_begun_13 ?_
      refine j_icmp_ge C ⟨by omega, by omega⟩ ⟨by omega, by omega⟩ dL_begun_15 (fun hc15 => ?_) (fun hc15 => ?_)
      · -- 15 t
        have hk9 : k = 8 := by omega
        subst hk9
        refine j_iconst C dL_begun_45 ?_
        refine j_istore3 C rfl dL_begun_46 ?_
        exact lp2 4 0 _ _ _ _ (by omega) (by omega) hI ⟨by omega, by omega⟩ (by omega) (by omega)
      · -- 15 f
        have m34 : ∀ v : Int, (0 ≤ v ∧ v ≤ 2) → J Γ p l e (rmk 22 300 1700) s mm args below meth c (MQ below (QRW Γ 243 kd (fun b' ω' => b' = 0 ∧ IV 15 3 ω')) args s 300 1700 (gA Γ)) 243 ce sl 34 [some (.ref b), some (.ref (rl Γ 0)), some (.int (iI (q : Int))), some (.int (iI (k : Int)))] [.int (iI v), .ref (rl Γ 0), .int (iI q)] W := by
          intro v hv
          obtain ⟨σ, n0, hh, hV, hB9⟩ := hI
          refine j_d_member C hK3 (Nat.le_refl _) Kl.k0 hsl hV (by omega) ⟨by omega, by omega⟩ kL_120 (by decide) rfl (Nat.le_of_ble_eq_true rfl) ⟨by omega, by omega⟩ dL_begun_34 (fun z34 W34 hz34 hd hk => ?_)
          obtain ⟨hr34, hI34⟩ := IV.next hd (by omega) hB9
          clear hk hd
          refine j_iadd C dL_begun_37 ?_
          refine j_istore2 C rfl dL_begun_38 ?_
          refine j_iinc3 C rfl dL_begun_39 ?_
          refine j_goto C dL_begun_42 ?_
          exact ih (k + 1) _ _ _ _ (by omega) (by omega) hI34 ⟨by omega, by omega⟩ (by omega) (by omega)
        refine j_iload2 C dL_begun_18 ?_
        refine j_aload1 C dL_begun_19 ?_
        refine j_iload3 C dL_begun_20 ?_
        refine j_if_ne C ⟨by omega, by omega⟩ dL_begun_21 (fun hc21 => ?_) (fun hc21 => ?_)
        · -- 21 t
          refine j_aload0 C dL_begun_28 ?_
          refine j_iload3 C dL_begun_29 ?_
          refine j_iconst C dL_begun_30 ?_
          refine j_cL (as := [.ref b, .int (iI (k : Int)), .int (iI 3)]) (mc := 0) (ms := 0) C hK3 (c_in hLs (i := (k : Int)) (mm9 := 3) ⟨by omega, by omega⟩ ⟨by decide, by decide⟩) Sc.ex (fun H locs U hP hS hU hW => hX.2.2.next hW hU hS) oL_in kL_116 ⟨by decide, by decide⟩ rfl rfl (Nat.le_of_ble_eq_true rfl) ⟨by omega, by omega⟩ dL_begun_31 ?_
          intro v31 _ hz31 hp
          obtain ⟨hv31, e9⟩ := hp
          rw [e9]
          clear e9 hz31
          exact m34 _ ⟨by omega, by omega⟩
        · -- 21 f
          refine j_iconst C dL_begun_24 ?_
          refine j_goto C dL_begun_25 ?_
          exact m34 2 ⟨by decide, by decide⟩
  have hz : ∀ n, Hz Γ s n n := fun n => ⟨by have := hX.1.1; omega, Nat.le_refl n, hX.1.2⟩
  refine j_new (kk := 0) C (hz 0) rfl uwX8 tyX8_ok (WS_of 623 (by decide +kernel)) (WS_of 66 (by decide +kernel)) (WS_of 28 (by decide +kernel)) (by decide) rfl (by decide) rfl rfl ⟨by decide, by decide⟩ dL_begun_0 ?_
  refine j_cn (n' := 1) (ce' := 1) (sl' := 12) rfl rfl rfl ?_
  refine j_dup C rfl dL_begun_3 ?_
  refine j_ctor C hX.2.1 (hz 1) (by decide) (by decide) c_X8_init iX8_init kL_115 ⟨by decide, by decide⟩ rfl (Nat.le_of_ble_eq_true rfl) ⟨by decide, by decide⟩ dL_begun_4 ?_
  rintro _ rfl
  refine j_cn (n' := 243) (ce' := 243) (sl' := 1471) rfl rfl rfl ?_
  refine j_astore1 C rfl dL_begun_7 ?_
  refine j_iconst C dL_begun_8 ?_
  refine j_istore2 C rfl dL_begun_9 ?_
  refine j_iconst C dL_begun_10 ?_
  refine j_istore3 C rfl dL_begun_11 ?_
  exact lp1 9 0 243 1471 0 _ (by omega) (by omega) ⟨s00, 0, _, INV_0, by decide⟩ ⟨by decide, by decide⟩ (by decide) (by decide)
