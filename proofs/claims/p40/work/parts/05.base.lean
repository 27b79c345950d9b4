/-! the integers -/
def iI (z : Int) : Int32 := Int32.ofInt z
abbrev Rg (z : Int) : Prop := -2147483648 ≤ z ∧ z < 2147483648
theorem iI_add (a b : Int) : iI (a + b) = iI a + iI b := Int32.ofInt_add a b
theorem iI_sub (a b : Int) : iI (a - b) = iI a - iI b := Int32.ofInt_sub a b
theorem iI_mul (a b : Int) : iI (a * b) = iI a * iI b := Int32.ofInt_mul a b
theorem iI_toInt {z : Int} (h : Rg z) : (iI z).toInt = z := by
  unfold iI; rw [Int32.toInt_ofInt]; obtain ⟨h1, h2⟩ := h
  rw [Int.bmod_def]; simp only [Int32.size]; split <;> omega
theorem iI_self (x : Int32) : iI x.toInt = x := Int32.ofInt_toInt x
theorem iI_rg (x : Int32) : Rg x.toInt := ⟨Int32.le_toInt x, Int32.toInt_lt x⟩
theorem iI_lt {a b : Int} (ha : Rg a) (hb : Rg b) : iI a < iI b ↔ a < b := by rw [Int32.lt_iff_toInt_lt, iI_toInt ha, iI_toInt hb]
theorem iI_le {a b : Int} (ha : Rg a) (hb : Rg b) : iI a ≤ iI b ↔ a ≤ b := by rw [Int32.le_iff_toInt_le, iI_toInt ha, iI_toInt hb]
theorem iI_eq {a b : Int} (ha : Rg a) (hb : Rg b) : iI a = iI b ↔ a = b := by
  constructor
  · intro h; rw [← iI_toInt ha, ← iI_toInt hb, h]
  · intro h; rw [h]
theorem iI_nat (n : Nat) : iI (n : Int) = nI n := by unfold iI nI; exact Int32.ofInt_eq_ofNat
theorem iI_in {z : Int} {N : Nat} (h : 0 ≤ z ∧ z < N) (hN : N < 2147483648) : vp_in (iI z) N := by
  obtain ⟨k, rfl⟩ := Int.eq_ofNat_of_zero_le h.1
  rw [iI_nat]; exact vp_in_nI (by omega) (by omega)
theorem iI_cl {z : Int} (h : 0 ≤ z ∧ z < 2147483648) : (iI z).toNatClampNeg = z.toNat := by
  obtain ⟨k, rfl⟩ := Int.eq_ofNat_of_zero_le h.1
  rw [iI_nat, nI_clamp (by omega)]; simp
/-! the abstract heap: ints, references (below 1000: the cells of the run, from 1000: constants), one double -/
abbrev Wo : Type := (Nat → Nat → Int) × (Nat → Nat → Option Nat) × UInt64
abbrev Ga : Type := (Nat → ClassId) × (Nat → Nat → Nat) × (Nat → ClassId) × (Nat → Nat) × Nat × (Nat → Nat) × Nat
abbrev gD (Γ : Ga) : va_G := (Γ.1, Γ.2.1)
abbrev gC (Γ : Ga) : Nat → ClassId := Γ.2.2.1
abbrev gad (Γ : Ga) : Nat → Nat := Γ.2.2.2.1
abbrev gB (Γ : Ga) : Nat := Γ.2.2.2.2.1
/-- where the law's own cells lie -/
abbrev gN (Γ : Ga) : Nat → Nat := Γ.2.2.2.2.2.1
abbrev gH (Γ : Ga) : Nat := Γ.2.2.2.2.2.2
def gA (Γ : Ga) : Nat → Prop := fun q => (gB Γ ≤ q ∧ q < gB Γ + 243) ∨ gH Γ ≤ q
def rl (Γ : Ga) (a : Nat) : Nat := if a < 243 then gB Γ + a else if a < 1000 then gN Γ (a - 243) else gad Γ (a - 1000)
theorem rl_lt {Γ : Ga} {a : Nat} (h : a < 243) : rl Γ a = gB Γ + a := if_pos h
theorem rl_nw {Γ : Ga} {i : Nat} (h : i < 757) : rl Γ (243 + i) = gN Γ i := by unfold rl; rw [if_neg (by omega), if_pos (by omega), Nat.add_sub_cancel_left]
theorem rl_ad {Γ : Ga} (k : Nat) : rl Γ (1000 + k) = gad Γ k := by unfold rl; rw [if_neg (by omega), if_neg (by omega), Nat.add_sub_cancel_left]
/-- the law's cells among the first n lie where they may, each apart -/
def Nn (Γ : Ga) (n : Nat) : Prop := n ≤ 1000 ∧ ∀ i, 243 + i < n → gH Γ ≤ gN Γ i ∧ (gN Γ i < gB Γ ∨ gB Γ + 243 ≤ gN Γ i) ∧ ∀ j, j < i → gN Γ j ≠ gN Γ i
theorem Nn.le {Γ : Ga} {n : Nat} (h : n ≤ 243) : Nn Γ n := ⟨by omega, fun i hi => by omega⟩
def stk (o : Nat) : Nat := if o = 0 then 1 else if o = 1 then 10 else if o = 2 then 11 else if o = 3 then 12 else if o < 14 then 2 else if o < 17 then 3 else 4
def kd (a : Nat) : Nat :=
  if a = 0 then 0 else if a < 64 then stk ((a - 1) % 21) else if a = 64 then 13 else if a < 68 then 5 else if a = 68 then 6 else if a = 69 then 14
  else if a = 70 then 15 else if a < 73 then 16 else if a = 73 then 8 else if a = 74 then 17 else if a < 243 then stk ((a - 75) % 21)
  else if a = 243 then 7 else if a < 248 then 18 else if a = 248 then 19 else if a = 249 then 20 else if a = 250 then 21 else if a = 251 then 22
  else if a = 252 then 23 else 24
abbrev clss : List vw_C := [(RX8, TX8, 12), (RX7, TX7, 11), (RX4, TX4, 6), (RX1, TX1, 6), (RX3, TX3, 3), (RX5, TX5, 2), (RX6, TX6, 7), (RJ0, TJ0, 4), (RJ4, TJ4, 4)]
abbrev gT (Γ : Ga) : List (ClassId × FieldType) := [(gC Γ 0, .int), (gC Γ 1, .char), (gC Γ 2, .byte), (gC Γ 3, .object RX4), (gC Γ 4, .object RX1), (gC Γ 5, .object RX3), (gC Γ 6, .object RX7), (gC Γ 7, .object RX2)]
def nf (k : Nat) : Nat := match k with | 0 => 12 | 1 => 11 | 2 => 6 | 3 => 6 | 4 => 3 | 5 => 2 | 6 => 7 | 7 => 4 | _ => 4
/-- which fields are references -/
def rfm (k i : Nat) : Bool := match k with
  | 0 => i == 0 || i == 1 || i == 2 || i == 4 || i == 6 || i == 7 || i == 8 || i == 9 || i == 11
  | 1 => i < 3
  | 6 => i == 0 || i == 2 || i == 3 || i == 4
  | 7 => i == 0
  | 8 => i == 0
  | _ => false
def tyk (k : Nat) : Nat := match k with | 10 => 3 | 11 => 4 | 12 => 5 | 13 => 6 | 14 => 1 | 15 => 7 | 16 => 0 | 17 => 2 | 23 => 8 | 24 => 9 | k => if 100 ≤ k then 2 else 0
def lnk (k : Nat) : Nat := match k with | 10 => 10 | 11 => 3 | 12 => 4 | 13 => 8 | 14 => 60 | 15 => 20 | 16 => 20 | 17 => 16 | 18 => 111 | 19 => 888 | 20 => 60 | 21 => 63 | 22 => 40 | 26 => 200 | k => if 100 ≤ k then k - 100 else 1
def isRk (k : Nat) : Bool := k == 10 || k == 11 || k == 12 || k == 13 || k == 15
def fv (Γ : Ga) (ω : Wo) (k a i : Nat) : Value := if rfm k i then va_rf ((ω.2.1 a i).map (rl Γ)) else .int (iI (ω.1 a i))
def EO (Γ : Ga) (ω : Wo) (k a : Nat) : va_E := .inr (k, (List.range (nf k)).map (fv Γ ω k a))
def EI (Γ : Ga) (ω : Wo) (k a : Nat) : va_E := .inl (gC Γ (tyk k), lnk k, .inl fun j => iI (ω.1 a j))
def ER (Γ : Ga) (ω : Wo) (k a : Nat) : va_E := .inl (gC Γ (tyk k), lnk k, .inr (.inr (.inr (.inr fun j => (ω.2.1 a j).map (rl Γ)))))
def EK (Γ : Ga) (ω : Wo) (k a : Nat) : va_E :=
  if k < 9 then EO Γ ω k a else if isRk k then ER Γ ω k a
  else if k = 23 then .inl (gC Γ 8, 1, .inr (.inl fun j => Int64.ofInt (ω.1 a j)))
  else if k = 24 then .inl (gC Γ 9, 1, .inr (.inr (.inr (.inl fun _ => ω.2.2))))
  else EI Γ ω k a
/-- κ: the kinds of the cells (the run's own: kd) -/
def WE (Γ : Ga) (ω : Wo) (a : Nat) (κ : Nat → Nat := kd) : va_E := EK Γ ω (κ a) a
def WL (Γ : Ga) (n : Nat) (ω : Wo) (κ : Nat → Nat := kd) : va_W := (List.range n).map fun a => (rl Γ a, WE Γ ω a κ)
theorem WL_get {Γ : Ga} {n : Nat} {ω : Wo} {a : Nat} {κ : Nat → Nat} (h : a < n) : (WL Γ n ω κ)[a]? = some (rl Γ a, WE Γ ω a κ) := by
  simp [WL, h]
theorem WL_set {Γ : Ga} {n : Nat} {ω ω' : Wo} {a : Nat} {e : va_E} {κ : Nat → Nat} (he : WE Γ ω' a κ = e) (ho : ∀ x, x ≠ a → WE Γ ω' x κ = WE Γ ω x κ) : (WL Γ n ω κ).set a (rl Γ a, e) = WL Γ n ω' κ := by
  apply List.ext_getElem?
  intro i
  rw [List.getElem?_set]
  by_cases hi : i < n
  · rw [WL_get hi, WL_get hi]
    by_cases hx : a = i
    · subst hx; rw [if_pos rfl, if_pos (by simpa [WL] using hi), he]
    · rw [if_neg hx, ho i (fun h => hx h.symm)]
  · have h1 : ∀ ω, (WL Γ n ω κ)[i]? = none := fun ω => by rw [List.getElem?_eq_none]; simp [WL]; omega
    rw [h1, h1]
    by_cases hx : a = i
    · subst hx; rw [if_pos rfl, if_neg (by simp [WL]; omega)]
    · rw [if_neg hx]
/-- the words of the tables that every method is handed -/
def WS : List Cond := lw_tbl.filter goodWord
theorem WS_of {w : Cond} (i : Nat) (h : (lw_tbl[i]?).any (fun v => decide (v = w) && goodWord v) = true) : w ∈ WS := by
  cases hv : lw_tbl[i]? with
  | none => rw [hv] at h; cases h
  | some v =>
    rw [hv] at h
    simp only [Option.any_some, Bool.and_eq_true, decide_eq_true_eq] at h
    obtain ⟨rfl, h2⟩ := h
    exact List.mem_filter.mpr ⟨List.mem_of_getElem? hv, h2⟩
theorem WS_good {w : Cond} (h : w ∈ WS) : goodWord w = true := (List.mem_filter.mp h).2
theorem WS_in {ws : List Cond} (h : ∀ w ∈ ws, w ∈ WS) : GoodIn WS ws := fun w hw => ⟨h w hw, good_of_word (WS_good (h w hw))⟩
/-! what is said of the tables and of what lies below the run -/
abbrev dnm : List String := ["MEMBER", "LEAVE", "TRAIN", "BOAT", "CALL", "BORROW", "GIVE_BACK", "LIMIT", "PASS"]
abbrev dF : List (String × String × String × List Int32) := [("java/lang/Enum", "ordinal", "I", [0, 1, 2, 3, 4, 5, 6, 7, 8]), (RX2, "letter", "I", [109, 120, 117, 98, 99, 111, 103, 108, 116]), (RX2, "digitsOfFirst", "I", [1, 1, 1, 1, 1, 1, 1, 2, 2]), (RX2, "digitsOfSecond", "I", [0, 0, 0, 1, 1, 2, 0, 0, 0])]
abbrev swm : List Int32 := [1, 2, 3, 4, 5, 6, 7, 8, 0]
abbrev strL : List (Nat × String) := [(383, "refused"), (118, "no such member"), (155, "no such number of a member"), (466, "no such boat"), (184, "no such number of a boat"), (471, "there is no crew for the boat"), (224, "the boat could not be called out"), (473, "the boat is not out"), (239, "no such loan"), (256, "no such number of a loan"), (268, "no such place"), (278, "the text buffer is full"), (288, "the text has a fault"), (305, "a command is refused"), (370, "no such account"), (372, "there is nothing to undo"), (374, "there is no snapshot")]
abbrev nstM : List (String × Nat × MethodName × String) := [(RX7, 54, yX4_init, RX8), (RX7, 55, yX1_init, RX8), (RX7, 56, yX3_init, RX8), (RX8, 36, yX5_init, RX8), (RX8, 49, yX6_init, RX8), (RX7, 117, yX8_heightAt, RX8), (RX7, 150, yX8_isIn, RX8)]
/-- the law's own texts: their lengths, their bytes -/
abbrev slen : List Nat := [1, 2, 3, 2]
abbrev sbyt : List (List Int32) := [[116], [59, 99], [59, 111, 51], [59, 117]]
abbrev strW : List (Nat × String × Nat) := [(144, "t", 20), (152, ";c", 21), (154, ";o3", 22), (160, ";u", 23)]
/-- the JDK's own constants that the writing of a line reads -/
def Kb (Γ : Ga) (U : State) (H : Heap) : Prop :=
  va_Z "java/lang/String" "COMPACT_STRINGS" "Z" (.int 1) (gA Γ) U H ∧ va_Z "java/lang/Integer" "DigitOnes" "[B" (.ref (gad Γ 11)) (gA Γ) U H ∧
  va_T .byte (gad Γ 11) 100 (fun i => .int (iI ((48 + i % 10 : Nat) : Int))) (gA Γ) U H ∧ (∃ v : Value, v.category = 1 ∧ va_Z "jdk/internal/util/Preconditions" "SIOOBE_FORMATTER" "Ljava/util/function/BiFunction;" v (gA Γ) U H) ∧
  va_Z "java/lang/Integer" "DigitTens" "[B" (.ref (gad Γ 12)) (gA Γ) U H ∧ va_T .byte (gad Γ 12) 100 (fun i => .int (iI ((48 + i / 10 : Nat) : Int))) (gA Γ) U H ∧ vk_S 4 slen sbyt (fun i => gad Γ (20 + i)) (fun i => gad Γ (30 + i)) (gA Γ) U H
theorem Kb.moved {Γ : Ga} {u U : State} {H : Heap} (hvm : u.vm.Alike U.vm) (h : Kb Γ u H) : Kb Γ U H := ⟨va_Z.moved hvm h.1, va_Z.moved hvm h.2.1, va_T.moved hvm h.2.2.1, (let ⟨v, hv, hz⟩ := h.2.2.2.1; ⟨v, hv, va_Z.moved hvm hz⟩), va_Z.moved hvm h.2.2.2.2.1, va_T.moved hvm h.2.2.2.2.2.1, vk_S.moved hvm h.2.2.2.2.2.2⟩
theorem Kb.kept {Γ : Ga} {U : State} {H H1 : Heap} (h : Kb Γ U H) (hq : ∀ a : Nat, a < H.size → ¬ gA Γ a → H1[a]? = H[a]?) : Kb Γ U H1 := ⟨va_Z.kept h.1 hq, va_Z.kept h.2.1 hq, va_T.kept h.2.2.1 hq, (let ⟨v, hv, hz⟩ := h.2.2.2.1; ⟨v, hv, va_Z.kept hz hq⟩), va_Z.kept h.2.2.2.2.1 hq, va_T.kept h.2.2.2.2.2.1 hq, vk_S.kept h.2.2.2.2.2.2 hq⟩
def Ks (Γ : Ga) (U : State) (H : Heap) : Prop :=
  va_En RX2 "LBoatRota$Deed;" dnm dF (gad Γ) (gA Γ) U H ∧ va_Z RX8 "DEEDS" "[LBoatRota$Deed;" (.ref (gad Γ 9)) (gA Γ) U H ∧
  va_T (.object RX2) (gad Γ 9) 9 (fun i => .ref (gad Γ i)) (gA Γ) U H ∧ va_Z RX0 "$SwitchMap$BoatRota$Deed" "[I" (.ref (gad Γ 10)) (gA Γ) U H ∧
  va_T .int (gad Γ 10) 9 (fun i => .int (swm.getD i 0)) (gA Γ) U H ∧ vx_Zq Bundle.tN "UNASSIGNED_STACK" Bundle.steD (gA Γ) U H ∧ vx_Zq Bundle.tN "SUPPRESSED_SENTINEL" Bundle.listD (gA Γ) U H ∧ Kb Γ U H
theorem va_Nw.warmP {s U : State} {y : MethodName} (hW : s.WarmedH U.vm) (h : va_Nw (.privateMethod y) s) : va_Nw (.privateMethod y) U := Cond.privateMethod_warm hW h
/-- private methods of the builder -/
abbrev prvM : List MethodName := [yJ5_ensureCapacityInternal_d00df, yJ5_putStringAt_47b60, yJ5_inflateIfNeededFor_a7421]
def Kt (Γ : Ga) (U : State) : Prop := (∀ q ∈ nstM, va_Nw (.methodLinkNest q.1 q.2.1 q.2.2.1 q.2.2.2) U) ∧ (va_Nw (.fieldLinkNest RX6 56 RX8 "DEEDS" "[LBoatRota$Deed;" RX8) U ∧ (∀ y ∈ prvM, va_Nw (.privateMethod y) U)) ∧ (∀ q ∈ strL, ∃ a, vk_R RX8 q.1 q.2 a U) ∧ ∀ q ∈ strW, vk_R RL q.1 q.2.1 (gad Γ q.2.2) U
def Kx (Γ : Ga) (U : State) : Prop := va_K (gD Γ) clss (gT Γ) U ∧ Ks Γ U U.heap ∧ Kt Γ U
theorem Ks.moved {Γ : Ga} {u U : State} {H : Heap} (hvm : u.vm.Alike U.vm) (h : Ks Γ u H) : Ks Γ U H :=
  ⟨va_En.moved hvm h.1, va_Z.moved hvm h.2.1, va_T.moved hvm h.2.2.1, va_Z.moved hvm h.2.2.2.1, va_T.moved hvm h.2.2.2.2.1, vx_Zq.moved hvm h.2.2.2.2.2.1, vx_Zq.moved hvm h.2.2.2.2.2.2.1, h.2.2.2.2.2.2.2.moved hvm⟩
theorem Ks.kept {Γ : Ga} {U : State} {H H1 : Heap} (h : Ks Γ U H) (hq : ∀ a : Nat, a < H.size → ¬ gA Γ a → H1[a]? = H[a]?) : Ks Γ U H1 :=
  ⟨va_En.kept h.1 hq, va_Z.kept h.2.1 hq, va_T.kept h.2.2.1 hq, va_Z.kept h.2.2.2.1 hq, va_T.kept h.2.2.2.2.1 hq, vx_Zq.kept h.2.2.2.2.2.1 hq, vx_Zq.kept h.2.2.2.2.2.2.1 hq, h.2.2.2.2.2.2.2.kept hq⟩
theorem Kt.warm {Γ : Ga} {s U : State} (hW : s.WarmedH U.vm) (h : Kt Γ s) : Kt Γ U :=
  ⟨fun q hq => va_Nw.warmM hW (h.1 q hq), ⟨va_Nw.warmF hW h.2.1.1, fun y hy => va_Nw.warmP hW (h.2.1.2 y hy)⟩, fun q hq => let ⟨a, ha⟩ := h.2.2.1 q hq; ⟨a, vk_R.warm hW ha⟩, fun q hq => vk_R.warm hW (h.2.2.2 q hq)⟩
theorem Kt.same {Γ : Ga} {u U : State} (hv : u.vm = U.vm) (h : Kt Γ u) : Kt Γ U :=
  ⟨fun q hq => va_Nw.same rfl hv (h.1 q hq), ⟨va_Nw.same rfl hv h.2.1.1, fun y hy => va_Nw.same rfl hv (h.2.1.2 y hy)⟩, fun q hq => let ⟨a, ha⟩ := h.2.2.1 q hq; ⟨a, vk_R.same hv.symm ha⟩, fun q hq => vk_R.same hv.symm (h.2.2.2 q hq)⟩
theorem Kx.next {Γ : Ga} {s U : State} {H : Heap} {locs : List Loc} (h : Kx Γ s) (hW : s.WarmedH U.vm) (hU : U.heap = H) (hS : va_S (gA Γ) s.heap H locs) : Kx Γ U :=
  ⟨va_K.moved hW.alike h.1, by rw [hU]; exact (h.2.1.kept hS.2.1).moved hW.alike, h.2.2.warm hW⟩
theorem Kx.calling {Γ : Ga} {U : State} (g : JFrame) (mk : MethodId) (a : Array Value) (h : Kx Γ U) : Kx Γ (U.calling g mk a) :=
  ⟨va_K.moved (Vm.Alike.refl _) h.1, Ks.moved (Vm.Alike.refl _) h.2.1, h.2.2.same rfl⟩
/-- the run's cells name none of the law's own -/
def RN (ω : Wo) : Prop := ∀ a, a < 243 → ∀ i b, ω.2.1 a i = some b → b < 243 ∨ 1000 ≤ b
/-- the heap holds the run's cells -/
def Rp (Γ : Ga) (n : Nat) (ω : Wo) (H : Heap) (κ : Nat → Nat := kd) : Prop := va_P (gD Γ) clss (WL Γ n ω κ) H ∧ (∀ a i, Rg (ω.1 a i)) ∧ Nn Γ n ∧ RN ω
theorem Nn.inj {Γ : Ga} {n : Nat} (h : Nn Γ n) {i j : Nat} (hi : i < n) (hj : j < n) (e : rl Γ i = rl Γ j) : i = j := by
  have hn := h.1
  have key : ∀ a b, a < n → b < n → a < b → rl Γ a ≠ rl Γ b := by
    intro a b ha hb hab e
    by_cases h2 : b < 243
    · rw [rl_lt (by omega), rl_lt h2] at e; omega
    · obtain ⟨k, rfl⟩ : ∃ k, b = 243 + k := ⟨b - 243, by omega⟩
      obtain ⟨q1, q2, q3⟩ := h.2 k hb
      rw [rl_nw (by omega)] at e
      by_cases h1 : a < 243
      · rw [rl_lt h1] at e; omega
      · obtain ⟨m, rfl⟩ : ∃ m, a = 243 + m := ⟨a - 243, by omega⟩
        rw [rl_nw (by omega)] at e
        exact q3 m (by omega) e
  rcases Nat.lt_trichotomy i j with q | q | q
  · exact (key i j hi hj q e).elim
  · exact q
  · exact (key j i hj hi q e.symm).elim
theorem Nn.gA {Γ : Ga} {n : Nat} (h : Nn Γ n) {i : Nat} (hi : i < n) : gA Γ (rl Γ i) := by
  by_cases h1 : i < 243
  · rw [rl_lt h1]; left; omega
  · obtain ⟨k, rfl⟩ : ∃ k, i = 243 + k := ⟨i - 243, by omega⟩
    have hn := h.1
    rw [rl_nw (by omega)]; right; exact (h.2 k hi).1
theorem Rp.D0 {Γ : Ga} {n : Nat} {ω : Wo} {κ : Nat → Nat} (hn : Nn Γ n) : va_D (gA Γ) (WL Γ n ω κ) := by
  have hx : ∀ (i : Nat) (p : Nat × va_E), (WL Γ n ω κ)[i]? = some p → i < n ∧ p = (rl Γ i, WE Γ ω i κ) := by
    intro i p h
    by_cases hi : i < n
    · rw [WL_get hi] at h; exact ⟨hi, (Option.some.inj h).symm⟩
    · rw [List.getElem?_eq_none (by simp [WL]; omega)] at h; cases h
  refine ⟨fun i j p q hp hq h => ?_, fun k q hq => ?_⟩
  · obtain ⟨h1, rfl⟩ := hx i p hp
    obtain ⟨h2, rfl⟩ := hx j q hq
    exact hn.inj h1 h2 h
  · obtain ⟨h1, rfl⟩ := hx k q hq
    exact hn.gA h1
theorem Rp.D {Γ : Ga} {n : Nat} {ω : Wo} {H : Heap} {κ : Nat → Nat} (h : Rp Γ n ω H κ) : va_D (gA Γ) (WL Γ n ω κ) := Rp.D0 h.2.2.1
theorem Rp.lt {Γ : Ga} {n : Nat} {ω : Wo} {H : Heap} {κ : Nat → Nat} (h : Rp Γ n ω H κ) {a : Nat} (ha : a < n) : rl Γ a < H.size := (h.1 a _ (WL_get ha)).lt
theorem Rp.size {Γ : Ga} {n : Nat} {ω : Wo} {H : Heap} {κ : Nat → Nat} (h : Rp Γ n ω H κ) (hn : 0 < n) (h2 : n ≤ 243) : gB Γ + n ≤ H.size := by
  have := h.lt (a := n - 1) (by omega)
  rw [rl_lt (by omega)] at this; omega
theorem fa_and (a b : Nat) : nI a &&& nI b = nI (a &&& b) := by
  apply Int32.toBitVec_inj.mp; simp [nI, Int32.toBitVec_ofNat]
theorem fa_or (a b : Nat) : nI a ||| nI b = nI (a ||| b) := by
  apply Int32.toBitVec_inj.mp; simp [nI, Int32.toBitVec_ofNat]
theorem nx_m1 {a : Nat} (h : a < 4294967296) : nI a ^^^ iI (-1) = nI (4294967295 - a) := by
  apply Int32.toBitVec_inj.mp
  have h1 : (iI (-1)).toBitVec = BitVec.allOnes 32 := by decide
  rw [Int32.toBitVec_xor, h1, BitVec.xor_allOnes]
  apply BitVec.eq_of_toNat_eq
  simp [nI, Int32.toBitVec_ofNat, BitVec.toNat_not]
  omega
theorem nx_shl {a k : Nat} (h : k < 31) : nI a <<< (nI k &&& 31) = nI (a * 2 ^ k) := by
  have hs : ((nI k &&& 31).toBitVec.smod 32).toNat = k := by
    have : ∀ n, n < 31 → ((nI n &&& 31).toBitVec.smod 32).toNat = n := by decide +kernel
    exact this k h
  apply Int32.toBitVec_inj.mp
  apply BitVec.eq_of_toNat_eq
  rw [pk_shl _ _ k hs]
  simp [nI, Int32.toBitVec_ofNat, Nat.mod_mul_mod]
theorem nx_shr {a k : Nat} (h : k < 31) (ha : a < 2147483648) : nI a >>> (nI k &&& 31) = nI (a / 2 ^ k) := by
  refine pk_shrN (by omega) _ k ?_
  have : ∀ n, n < 31 → ((nI n &&& 31).toBitVec.smod 32).toNat = n := by decide +kernel
  exact this k h
theorem iI_ne0 {b : Int} (h : 0 < b ∧ b < 2147483648) : ¬ iI b = 0 := by
  intro q
  have := (iI_eq (a := b) (b := 0) ⟨by omega, by omega⟩ ⟨by omega, by omega⟩).mp q
  omega
theorem iI_div {a b : Int} (ha : 0 ≤ a ∧ a < 2147483648) (hb : 0 < b ∧ b < 2147483648) : iI a / iI b = iI (a / b) := by
  obtain ⟨x, rfl⟩ := Int.eq_ofNat_of_zero_le ha.1
  obtain ⟨y, rfl⟩ := Int.eq_ofNat_of_zero_le (Int.le_of_lt hb.1)
  rw [iI_nat, iI_nat, pk_div (by omega) (by omega) (by omega), ← iI_nat]; rfl
theorem iI_rem {a b : Int} (ha : 0 ≤ a ∧ a < 2147483648) (hb : 0 < b ∧ b < 2147483648) : iI a - iI a / iI b * iI b = iI (a % b) := by
  obtain ⟨x, rfl⟩ := Int.eq_ofNat_of_zero_le ha.1
  obtain ⟨y, rfl⟩ := Int.eq_ofNat_of_zero_le (Int.le_of_lt hb.1)
  rw [iI_nat, iI_nat, pk_rem (by omega) (by omega) (by omega), ← iI_nat]; rfl
theorem iI_char (a : Int) : ((iI a).toUInt32 % 65536).toInt32 = iI (a % 65536) := by
  rw [pk_char]
  have h0 : 0 ≤ a % 65536 := Int.emod_nonneg _ (by decide)
  obtain ⟨k, hk⟩ := Int.eq_ofNat_of_zero_le h0
  rw [hk, iI_nat]; congr 1
  have h1 : (iI a).toBitVec = BitVec.ofInt 32 a := rfl
  rw [h1]
  have h2 : ((BitVec.ofInt 32 a).toNat : Int) = a % 4294967296 := by rw [BitVec.toNat_ofInt]; have := Int.emod_nonneg a (show (4294967296 : Int) ≠ 0 by decide); simp; omega
  omega
