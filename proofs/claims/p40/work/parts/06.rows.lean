/-! the walk's judgement over the abstract heap, and its rows -/
def lk (ls : Array Slot) (L : List (Option Value)) : Prop := ls.size = L.length ∧ lv_wf ls ∧ ∀ (i : Nat) (v : Value), L[i]? = some (some v) → ls[i]? = some (.val v)
def lz : Nat → List (Option Value) → List (Nat × Value)
  | _, [] => []
  | i, none :: T => lz (i + 1) T
  | i, some v :: T => (i, v) :: lz (i + 1) T
theorem lz_mem : ∀ (L : List (Option Value)) (k j : Nat) (v : Value), (j, v) ∈ lz k L ↔ k ≤ j ∧ L[j - k]? = some (some v) := by
  intro L
  induction L with
  | nil => intro k j v; simp [lz]
  | cons a T ih =>
    intro k j v
    have h0 : ∀ j', k + 1 ≤ j' → (a :: T)[j' - k]? = T[j' - (k + 1)]? := by
      intro j' hj
      have : j' - k = (j' - (k + 1)) + 1 := by omega
      rw [this, List.getElem?_cons_succ]
    cases a with
    | none =>
      show (j, v) ∈ lz (k + 1) T ↔ _
      rw [ih]
      constructor
      · rintro ⟨h1, h2⟩; exact ⟨by omega, by rw [h0 j h1]; exact h2⟩
      · rintro ⟨h1, h2⟩
        rcases Nat.eq_or_lt_of_le h1 with h | h
        · subst h; simp at h2
        · exact ⟨h, by rw [← h0 j h]; exact h2⟩
    | some w =>
      show (j, v) ∈ (k, w) :: lz (k + 1) T ↔ _
      rw [List.mem_cons, ih]
      constructor
      · rintro (h | ⟨h1, h2⟩)
        · cases h; exact ⟨Nat.le_refl _, by simp⟩
        · exact ⟨by omega, by rw [h0 j h1]; exact h2⟩
      · rintro ⟨h1, h2⟩
        rcases Nat.eq_or_lt_of_le h1 with h | h
        · subst h; simp at h2; subst h2; exact Or.inl rfl
        · exact Or.inr ⟨h, by rw [← h0 j h]; exact h2⟩
theorem lk.has {ls : Array Slot} {L : List (Option Value)} (h : lk ls L) : lv_has ls L.length (lz 0 L) := by
  refine ⟨h.1, h.2.1, fun q hq => ?_⟩
  obtain ⟨j, v⟩ := q
  obtain ⟨-, h2⟩ := (lz_mem L 0 j v).mp hq
  exact h.2.2 j v (by simpa using h2)
def okp : Option Value → Bool
  | some v => v.category == 1
  | none => true
theorem lk.set {ls' : Array Slot} {L : List (Option Value)} {i : Nat} {x : Value} (hi : i < L.length) (hp : i = 0 ∨ okp (L.getD (i - 1) none) = true)
    (h : lv_has ls' L.length ((i, x) :: (lz 0 L).filter (fun q => !(q.1 == i) && !(q.1 + 1 == i && q.2.category == 2)))) : lk ls' (L.set i (some x)) := by
  refine ⟨by rw [h.1, List.length_set], h.2.1, fun j v hj => ?_⟩
  rw [List.getElem?_set] at hj
  by_cases e : i = j
  · subst e
    rw [if_pos rfl, if_pos hi] at hj
    cases hj
    exact h.2.2 (i, x) List.mem_cons_self
  · rw [if_neg e] at hj
    refine h.2.2 (j, v) (List.mem_cons_of_mem _ (List.mem_filter.mpr ⟨(lz_mem L 0 j v).mpr ⟨Nat.zero_le _, by simpa using hj⟩, ?_⟩))
    have e1 : (j == i) = false := by simpa using fun h => e h.symm
    simp only [e1, Bool.not_false, Bool.true_and, Bool.not_eq_true', Bool.and_eq_false_iff]
    by_cases e2 : j + 1 = i
    · right
      rcases hp with hp | hp
      · omega
      · have : L.getD (i - 1) none = some v := by rw [List.getD_eq_getElem?_getD, show i - 1 = j by omega, hj]; rfl
        rw [this] at hp
        have h1 : v.category = 1 := by simpa [okp] using hp
        simp [h1]
    · left; simpa using e2
def Cx (Γ : Ga) (p : Program) (l : Launch) (s : State) (m : MethodId) (args : Array Value) (meth : Method) (c : Code) (cc : ByteArray) (own : String) (nL : Nat) : Prop :=
  p.tables.exec = Jvm.exec ∧ c.code = cc ∧ c.maxLocals = nL ∧ s.vm.findClass own = some m.cls ∧ (∀ w ∈ WS, w.before args s = true) ∧ Kx Γ s ∧ meth.locks = false
def J (Γ : Ga) (p : Program) (l : Launch) (e : Env) (R : Room) (s : State) (m : MethodId) (args : Array Value) (below : List Frame) (meth : Method) (c : Code) (Q : State → Prop) (n ce sl : Nat) (pc : Nat) (L : List (Option Value)) (S : List Value) (ω : Wo) (κ : Nat → Nat := kd) : Prop :=
  ∀ (H : Heap) (locs : List Loc) (ls : Array Slot), Rp Γ n ω H κ → va_S (gA Γ) s.heap H locs → lk ls L → W p l e R s m args below meth c H locs ce sl Q (F0 m pc ls S)
section ROWS
variable {κ : Nat → Nat} {Γ : Ga} {p : Program} {l : Launch} {e : Env} {R : Room} {s : State} {m : MethodId} {args : Array Value} {below : List Frame} {meth : Method} {c : Code} {Q : State → Prop} {n ce sl : Nat} {cc : ByteArray} {own : String} {nL pc pc' : Nat} {L : List (Option Value)} {S : List Value} {ω : Wo}

theorem j_iconst (C : Cx Γ p l s m args meth c cc own nL) {z : Int} (d : Dx cc pc (.iconst z) 1 pc') (kk : J Γ p l e R s m args below meth c Q n ce sl pc' L (.int (iI z) :: S) ω κ) : J Γ p l e R s m args below meth c Q n ce sl pc L S ω κ := by
  intro H locs ls hP hS hl
  obtain ⟨hd, rfl⟩ := d
  exact lv_iconst C.1 C.2.1 hd rfl (kk H locs ls hP hS hl)
theorem j_bipush (C : Cx Γ p l s m args meth c cc own nL) {z : Int} (hz : (Int8.ofInt z).toInt32 = Int32.ofInt z) (d : Dx cc pc (.bipush z) 2 pc') (kk : J Γ p l e R s m args below meth c Q n ce sl pc' L (.int (iI z) :: S) ω κ) : J Γ p l e R s m args below meth c Q n ce sl pc L S ω κ := by
  intro H locs ls hP hS hl
  obtain ⟨hd, rfl⟩ := d
  exact lv_bipush C.1 C.2.1 hd hz (kk H locs ls hP hS hl)
theorem j_sipush (C : Cx Γ p l s m args meth c cc own nL) {z : Int} (hz : (Int16.ofInt z).toInt32 = Int32.ofInt z) (d : Dx cc pc (.sipush z) 3 pc') (kk : J Γ p l e R s m args below meth c Q n ce sl pc' L (.int (iI z) :: S) ω κ) : J Γ p l e R s m args below meth c Q n ce sl pc L S ω κ := by
  intro H locs ls hP hS hl
  obtain ⟨hd, rfl⟩ := d
  exact lv_sipush C.1 C.2.1 hd hz (kk H locs ls hP hS hl)
theorem j_null (C : Cx Γ p l s m args meth c cc own nL)  (d : Dx cc pc (.aconst_null) 1 pc') (kk : J Γ p l e R s m args below meth c Q n ce sl pc' L (.null :: S) ω κ) : J Γ p l e R s m args below meth c Q n ce sl pc L S ω κ := by
  intro H locs ls hP hS hl
  obtain ⟨hd, rfl⟩ := d
  exact lv_null C.1 C.2.1 hd (kk H locs ls hP hS hl)
theorem j_iadd (C : Cx Γ p l s m args meth c cc own nL) {a b : Int} (d : Dx cc pc (.iadd) 1 pc') (kk : J Γ p l e R s m args below meth c Q n ce sl pc' L (.int (iI (a + b)) :: S) ω κ) : J Γ p l e R s m args below meth c Q n ce sl pc L (.int (iI b) :: .int (iI a) :: S) ω κ := by
  intro H locs ls hP hS hl
  obtain ⟨hd, rfl⟩ := d
  refine lv_iadd C.1 C.2.1 hd ?_
  rw [← iI_add]
  exact kk H locs ls hP hS hl
theorem j_isub (C : Cx Γ p l s m args meth c cc own nL) {a b : Int} (d : Dx cc pc (.isub) 1 pc') (kk : J Γ p l e R s m args below meth c Q n ce sl pc' L (.int (iI (a - b)) :: S) ω κ) : J Γ p l e R s m args below meth c Q n ce sl pc L (.int (iI b) :: .int (iI a) :: S) ω κ := by
  intro H locs ls hP hS hl
  obtain ⟨hd, rfl⟩ := d
  refine lv_isub C.1 C.2.1 hd ?_
  rw [← iI_sub]
  exact kk H locs ls hP hS hl
theorem j_imul (C : Cx Γ p l s m args meth c cc own nL) {a b : Int} (d : Dx cc pc (.imul) 1 pc') (kk : J Γ p l e R s m args below meth c Q n ce sl pc' L (.int (iI (a * b)) :: S) ω κ) : J Γ p l e R s m args below meth c Q n ce sl pc L (.int (iI b) :: .int (iI a) :: S) ω κ := by
  intro H locs ls hP hS hl
  obtain ⟨hd, rfl⟩ := d
  refine lv_imul C.1 C.2.1 hd ?_
  rw [← iI_mul]
  exact kk H locs ls hP hS hl
theorem j_iand (C : Cx Γ p l s m args meth c cc own nL) {a b : Nat} (d : Dx cc pc (.iand) 1 pc') (kk : J Γ p l e R s m args below meth c Q n ce sl pc' L (.int (iI ((a &&& b : Nat) : Int)) :: S) ω κ) : J Γ p l e R s m args below meth c Q n ce sl pc L (.int (iI (b : Int)) :: .int (iI (a : Int)) :: S) ω κ := by
  intro H locs ls hP hS hl
  obtain ⟨hd, rfl⟩ := d
  refine lv_iand C.1 C.2.1 hd ?_
  rw [iI_nat, iI_nat, fa_and, ← iI_nat]
  exact kk H locs ls hP hS hl
theorem j_ior (C : Cx Γ p l s m args meth c cc own nL) {a b : Nat} (d : Dx cc pc (.ior) 1 pc') (kk : J Γ p l e R s m args below meth c Q n ce sl pc' L (.int (iI ((a ||| b : Nat) : Int)) :: S) ω κ) : J Γ p l e R s m args below meth c Q n ce sl pc L (.int (iI (b : Int)) :: .int (iI (a : Int)) :: S) ω κ := by
  intro H locs ls hP hS hl
  obtain ⟨hd, rfl⟩ := d
  refine lv_ior C.1 C.2.1 hd ?_
  rw [iI_nat, iI_nat, fa_or, ← iI_nat]
  exact kk H locs ls hP hS hl
theorem j_ixorm (C : Cx Γ p l s m args meth c cc own nL) {a : Nat} (h : a < 4294967296) (d : Dx cc pc (.ixor) 1 pc') (kk : J Γ p l e R s m args below meth c Q n ce sl pc' L (.int (iI ((4294967295 - a : Nat) : Int)) :: S) ω κ) : J Γ p l e R s m args below meth c Q n ce sl pc L (.int (iI (-1)) :: .int (iI (a : Int)) :: S) ω κ := by
  intro H locs ls hP hS hl
  obtain ⟨hd, rfl⟩ := d
  refine lv_ixor C.1 C.2.1 hd ?_
  rw [iI_nat, nx_m1 h, ← iI_nat]
  exact kk H locs ls hP hS hl
theorem j_ishl (C : Cx Γ p l s m args meth c cc own nL) {a k : Nat} (h : k < 31) (d : Dx cc pc (.ishl) 1 pc') (kk : J Γ p l e R s m args below meth c Q n ce sl pc' L (.int (iI ((a * 2 ^ k : Nat) : Int)) :: S) ω κ) : J Γ p l e R s m args below meth c Q n ce sl pc L (.int (iI (k : Int)) :: .int (iI (a : Int)) :: S) ω κ := by
  intro H locs ls hP hS hl
  obtain ⟨hd, rfl⟩ := d
  refine lv_ishl C.1 C.2.1 hd ?_
  rw [iI_nat, iI_nat, nx_shl h, ← iI_nat]
  exact kk H locs ls hP hS hl
theorem j_ishr (C : Cx Γ p l s m args meth c cc own nL) {a k : Nat} (h : k < 31) (ha : a < 2147483648) (d : Dx cc pc (.ishr) 1 pc') (kk : J Γ p l e R s m args below meth c Q n ce sl pc' L (.int (iI ((a / 2 ^ k : Nat) : Int)) :: S) ω κ) : J Γ p l e R s m args below meth c Q n ce sl pc L (.int (iI (k : Int)) :: .int (iI (a : Int)) :: S) ω κ := by
  intro H locs ls hP hS hl
  obtain ⟨hd, rfl⟩ := d
  refine lv_ishr C.1 C.2.1 hd ?_
  rw [iI_nat, iI_nat, nx_shr h ha, ← iI_nat]
  exact kk H locs ls hP hS hl
theorem j_idiv (C : Cx Γ p l s m args meth c cc own nL) {a b : Int} (ha : 0 ≤ a ∧ a < 2147483648) (hb : 0 < b ∧ b < 2147483648) (d : Dx cc pc (.idiv) 1 pc') (kk : J Γ p l e R s m args below meth c Q n ce sl pc' L (.int (iI (a / b)) :: S) ω κ) : J Γ p l e R s m args below meth c Q n ce sl pc L (.int (iI b) :: .int (iI a) :: S) ω κ := by
  intro H locs ls hP hS hl
  obtain ⟨hd, rfl⟩ := d
  refine lv_idiv C.1 C.2.1 hd (iI_ne0 hb) ?_
  rw [iI_div ha hb]
  exact kk H locs ls hP hS hl
theorem j_irem (C : Cx Γ p l s m args meth c cc own nL) {a b : Int} (ha : 0 ≤ a ∧ a < 2147483648) (hb : 0 < b ∧ b < 2147483648) (d : Dx cc pc (.irem) 1 pc') (kk : J Γ p l e R s m args below meth c Q n ce sl pc' L (.int (iI (a % b)) :: S) ω κ) : J Γ p l e R s m args below meth c Q n ce sl pc L (.int (iI b) :: .int (iI a) :: S) ω κ := by
  intro H locs ls hP hS hl
  obtain ⟨hd, rfl⟩ := d
  refine lv_irem C.1 C.2.1 hd (iI_ne0 hb) ?_
  rw [iI_rem ha hb]
  exact kk H locs ls hP hS hl
theorem j_i2c (C : Cx Γ p l s m args meth c cc own nL) {a : Int} (d : Dx cc pc (.i2c) 1 pc') (kk : J Γ p l e R s m args below meth c Q n ce sl pc' L (.int (iI (a % 65536)) :: S) ω κ) : J Γ p l e R s m args below meth c Q n ce sl pc L (.int (iI a) :: S) ω κ := by
  intro H locs ls hP hS hl
  obtain ⟨hd, rfl⟩ := d
  refine lv_i2c C.1 C.2.1 hd (iI_char a) ?_
  exact kk H locs ls hP hS hl
theorem j_dup (C : Cx Γ p l s m args meth c cc own nL) {v : Value} (hv : v.category = 1) (d : Dx cc pc (.dup) 1 pc') (kk : J Γ p l e R s m args below meth c Q n ce sl pc' L (v :: v :: S) ω κ) : J Γ p l e R s m args below meth c Q n ce sl pc L (v :: S) ω κ := by
  intro H locs ls hP hS hl
  obtain ⟨hd, rfl⟩ := d
  exact lv_dup C.1 C.2.1 hd hv (kk H locs ls hP hS hl)
theorem j_pop (C : Cx Γ p l s m args meth c cc own nL) {v : Value} (hv : v.category = 1) (d : Dx cc pc (.pop) 1 pc') (kk : J Γ p l e R s m args below meth c Q n ce sl pc' L S ω κ) : J Γ p l e R s m args below meth c Q n ce sl pc L (v :: S) ω κ := by
  intro H locs ls hP hS hl
  obtain ⟨hd, rfl⟩ := d
  exact lv_pop C.1 C.2.1 hd hv (kk H locs ls hP hS hl)
theorem j_dup2 (C : Cx Γ p l s m args meth c cc own nL) {v w : Value} (hv : v.category = 1) (hw : w.category = 1) (d : Dx cc pc (.dup2) 1 pc') (kk : J Γ p l e R s m args below meth c Q n ce sl pc' L (v :: w :: v :: w :: S) ω κ) : J Γ p l e R s m args below meth c Q n ce sl pc L (v :: w :: S) ω κ := by
  intro H locs ls hP hS hl
  obtain ⟨hd, rfl⟩ := d
  exact lv_dup2_11 C.1 C.2.1 hd hv hw (kk H locs ls hP hS hl)
theorem j_dup_x1 (C : Cx Γ p l s m args meth c cc own nL) {v w : Value} (hv : v.category = 1) (hw : w.category = 1) (d : Dx cc pc (.dup_x1) 1 pc') (kk : J Γ p l e R s m args below meth c Q n ce sl pc' L (v :: w :: v :: S) ω κ) : J Γ p l e R s m args below meth c Q n ce sl pc L (v :: w :: S) ω κ := by
  intro H locs ls hP hS hl
  obtain ⟨hd, rfl⟩ := d
  exact lv_dup_x1 C.1 C.2.1 hd hv hw (kk H locs ls hP hS hl)
theorem j_iload0 (C : Cx Γ p l s m args meth c cc own nL) {x : Int32} {T : List (Option Value)} (d : Dx cc pc (.iload_n 0) 1 pc') (kk : J Γ p l e R s m args below meth c Q n ce sl pc' (some (.int x) :: T) (.int x :: S) ω κ) : J Γ p l e R s m args below meth c Q n ce sl pc (some (.int x) :: T) S ω κ := by
  intro H locs ls hP hS hl
  obtain ⟨hd, rfl⟩ := d
  exact lv_iload_n C.1 C.2.1 hd rfl (hl.2.2 0 _ rfl) (kk H locs ls hP hS hl)
theorem j_aload0 (C : Cx Γ p l s m args meth c cc own nL) {x : Nat} {T : List (Option Value)} (d : Dx cc pc (.aload_n 0) 1 pc') (kk : J Γ p l e R s m args below meth c Q n ce sl pc' (some (.ref x) :: T) (.ref x :: S) ω κ) : J Γ p l e R s m args below meth c Q n ce sl pc (some (.ref x) :: T) S ω κ := by
  intro H locs ls hP hS hl
  obtain ⟨hd, rfl⟩ := d
  exact lv_aload_n C.1 C.2.1 hd rfl (hl.2.2 0 _ rfl) (kk H locs ls hP hS hl)
theorem j_aload0N (C : Cx Γ p l s m args meth c cc own nL) {T : List (Option Value)} (d : Dx cc pc (.aload_n 0) 1 pc') (kk : J Γ p l e R s m args below meth c Q n ce sl pc' (some .null :: T) (.null :: S) ω κ) : J Γ p l e R s m args below meth c Q n ce sl pc (some .null :: T) S ω κ := by
  intro H locs ls hP hS hl
  obtain ⟨hd, rfl⟩ := d
  exact lv_aload_nN C.1 C.2.1 hd rfl (hl.2.2 0 _ rfl) (kk H locs ls hP hS hl)
theorem j_istore0 (C : Cx Γ p l s m args meth c cc own nL) {x : Int32} {w : Option Value} {T : List (Option Value)} (d : Dx cc pc (.istore_n 0) 1 pc') (kk : J Γ p l e R s m args below meth c Q n ce sl pc' (some (.int x) :: T) S ω κ) : J Γ p l e R s m args below meth c Q n ce sl pc (w :: T) (.int x :: S) ω κ := by
  intro H locs ls hP hS hl
  obtain ⟨hd, rfl⟩ := d
  refine lv_istore_n C.1 C.2.1 hd rfl hl.has (show 0 < _ by simp) rfl (fun ls2 h2 => kk H locs ls2 hP hS (lk.set (L := (w :: T)) (i := 0) (by simp) (Or.inl rfl) h2))
theorem j_astore0 (C : Cx Γ p l s m args meth c cc own nL) {x : Nat} {w : Option Value} {T : List (Option Value)} (d : Dx cc pc (.astore_n 0) 1 pc') (kk : J Γ p l e R s m args below meth c Q n ce sl pc' (some (.ref x) :: T) S ω κ) : J Γ p l e R s m args below meth c Q n ce sl pc (w :: T) (.ref x :: S) ω κ := by
  intro H locs ls hP hS hl
  obtain ⟨hd, rfl⟩ := d
  refine lv_astore_n C.1 C.2.1 hd rfl hl.has (show 0 < _ by simp) rfl (fun ls2 h2 => kk H locs ls2 hP hS (lk.set (L := (w :: T)) (i := 0) (by simp) (Or.inl rfl) h2))
theorem j_astore0N (C : Cx Γ p l s m args meth c cc own nL)  {w : Option Value} {T : List (Option Value)} (d : Dx cc pc (.astore_n 0) 1 pc') (kk : J Γ p l e R s m args below meth c Q n ce sl pc' (some (.null) :: T) S ω κ) : J Γ p l e R s m args below meth c Q n ce sl pc (w :: T) (.null :: S) ω κ := by
  intro H locs ls hP hS hl
  obtain ⟨hd, rfl⟩ := d
  refine lv_astore_nN C.1 C.2.1 hd rfl hl.has (show 0 < _ by simp) rfl (fun ls2 h2 => kk H locs ls2 hP hS (lk.set (L := (w :: T)) (i := 0) (by simp) (Or.inl rfl) h2))
theorem j_iinc0 (C : Cx Γ p l s m args meth c cc own nL) {a z : Int} {T : List (Option Value)} (d : Dx cc pc (.iinc 0 z) 3 pc') (kk : J Γ p l e R s m args below meth c Q n ce sl pc' (some (.int (iI (a + z))) :: T) S ω κ) : J Γ p l e R s m args below meth c Q n ce sl pc (some (.int (iI a)) :: T) S ω κ := by
  intro H locs ls hP hS hl
  obtain ⟨hd, rfl⟩ := d
  obtain ⟨k, hk⟩ := List.getElem?_of_mem ((lz_mem (some (.int (iI a)) :: T) 0 0 (.int (iI a))).mpr ⟨Nat.zero_le _, by simp⟩)
  exact lv_iinc C.1 C.2.1 hd hl.has hk (iI_add a z).symm (by simp) rfl (fun ls2 h2 => kk H locs ls2 hP hS (lk.set (L := (some (.int (iI a)) :: T)) (i := 0) (by simp) (Or.inl rfl) h2))
theorem j_iload1 (C : Cx Γ p l s m args meth c cc own nL) {v0 : Option Value} {x : Int32} {T : List (Option Value)} (d : Dx cc pc (.iload_n 1) 1 pc') (kk : J Γ p l e R s m args below meth c Q n ce sl pc' (v0 :: some (.int x) :: T) (.int x :: S) ω κ) : J Γ p l e R s m args below meth c Q n ce sl pc (v0 :: some (.int x) :: T) S ω κ := by
  intro H locs ls hP hS hl
  obtain ⟨hd, rfl⟩ := d
  exact lv_iload_n C.1 C.2.1 hd rfl (hl.2.2 1 _ rfl) (kk H locs ls hP hS hl)
theorem j_aload1 (C : Cx Γ p l s m args meth c cc own nL) {v0 : Option Value} {x : Nat} {T : List (Option Value)} (d : Dx cc pc (.aload_n 1) 1 pc') (kk : J Γ p l e R s m args below meth c Q n ce sl pc' (v0 :: some (.ref x) :: T) (.ref x :: S) ω κ) : J Γ p l e R s m args below meth c Q n ce sl pc (v0 :: some (.ref x) :: T) S ω κ := by
  intro H locs ls hP hS hl
  obtain ⟨hd, rfl⟩ := d
  exact lv_aload_n C.1 C.2.1 hd rfl (hl.2.2 1 _ rfl) (kk H locs ls hP hS hl)
theorem j_aload1N (C : Cx Γ p l s m args meth c cc own nL) {v0 : Option Value} {T : List (Option Value)} (d : Dx cc pc (.aload_n 1) 1 pc') (kk : J Γ p l e R s m args below meth c Q n ce sl pc' (v0 :: some .null :: T) (.null :: S) ω κ) : J Γ p l e R s m args below meth c Q n ce sl pc (v0 :: some .null :: T) S ω κ := by
  intro H locs ls hP hS hl
  obtain ⟨hd, rfl⟩ := d
  exact lv_aload_nN C.1 C.2.1 hd rfl (hl.2.2 1 _ rfl) (kk H locs ls hP hS hl)
theorem j_istore1 (C : Cx Γ p l s m args meth c cc own nL) {v0 : Option Value} {x : Int32} {w : Option Value} {T : List (Option Value)} (ho : okp v0 = true) (d : Dx cc pc (.istore_n 1) 1 pc') (kk : J Γ p l e R s m args below meth c Q n ce sl pc' (v0 :: some (.int x) :: T) S ω κ) : J Γ p l e R s m args below meth c Q n ce sl pc (v0 :: w :: T) (.int x :: S) ω κ := by
  intro H locs ls hP hS hl
  obtain ⟨hd, rfl⟩ := d
  refine lv_istore_n C.1 C.2.1 hd rfl hl.has (show 1 < _ by simp) rfl (fun ls2 h2 => kk H locs ls2 hP hS (lk.set (L := (v0 :: w :: T)) (i := 1) (by simp) (Or.inr ho) h2))
theorem j_astore1 (C : Cx Γ p l s m args meth c cc own nL) {v0 : Option Value} {x : Nat} {w : Option Value} {T : List (Option Value)} (ho : okp v0 = true) (d : Dx cc pc (.astore_n 1) 1 pc') (kk : J Γ p l e R s m args below meth c Q n ce sl pc' (v0 :: some (.ref x) :: T) S ω κ) : J Γ p l e R s m args below meth c Q n ce sl pc (v0 :: w :: T) (.ref x :: S) ω κ := by
  intro H locs ls hP hS hl
  obtain ⟨hd, rfl⟩ := d
  refine lv_astore_n C.1 C.2.1 hd rfl hl.has (show 1 < _ by simp) rfl (fun ls2 h2 => kk H locs ls2 hP hS (lk.set (L := (v0 :: w :: T)) (i := 1) (by simp) (Or.inr ho) h2))
theorem j_astore1N (C : Cx Γ p l s m args meth c cc own nL) {v0 : Option Value}  {w : Option Value} {T : List (Option Value)} (ho : okp v0 = true) (d : Dx cc pc (.astore_n 1) 1 pc') (kk : J Γ p l e R s m args below meth c Q n ce sl pc' (v0 :: some (.null) :: T) S ω κ) : J Γ p l e R s m args below meth c Q n ce sl pc (v0 :: w :: T) (.null :: S) ω κ := by
  intro H locs ls hP hS hl
  obtain ⟨hd, rfl⟩ := d
  refine lv_astore_nN C.1 C.2.1 hd rfl hl.has (show 1 < _ by simp) rfl (fun ls2 h2 => kk H locs ls2 hP hS (lk.set (L := (v0 :: w :: T)) (i := 1) (by simp) (Or.inr ho) h2))
theorem j_iinc1 (C : Cx Γ p l s m args meth c cc own nL) {v0 : Option Value} {a z : Int} {T : List (Option Value)} (ho : okp v0 = true) (d : Dx cc pc (.iinc 1 z) 3 pc') (kk : J Γ p l e R s m args below meth c Q n ce sl pc' (v0 :: some (.int (iI (a + z))) :: T) S ω κ) : J Γ p l e R s m args below meth c Q n ce sl pc (v0 :: some (.int (iI a)) :: T) S ω κ := by
  intro H locs ls hP hS hl
  obtain ⟨hd, rfl⟩ := d
  obtain ⟨k, hk⟩ := List.getElem?_of_mem ((lz_mem (v0 :: some (.int (iI a)) :: T) 0 1 (.int (iI a))).mpr ⟨Nat.zero_le _, by simp⟩)
  exact lv_iinc C.1 C.2.1 hd hl.has hk (iI_add a z).symm (by simp) rfl (fun ls2 h2 => kk H locs ls2 hP hS (lk.set (L := (v0 :: some (.int (iI a)) :: T)) (i := 1) (by simp) (Or.inr ho) h2))
theorem j_iload2 (C : Cx Γ p l s m args meth c cc own nL) {v0 v1 : Option Value} {x : Int32} {T : List (Option Value)} (d : Dx cc pc (.iload_n 2) 1 pc') (kk : J Γ p l e R s m args below meth c Q n ce sl pc' (v0 :: v1 :: some (.int x) :: T) (.int x :: S) ω κ) : J Γ p l e R s m args below meth c Q n ce sl pc (v0 :: v1 :: some (.int x) :: T) S ω κ := by
  intro H locs ls hP hS hl
  obtain ⟨hd, rfl⟩ := d
  exact lv_iload_n C.1 C.2.1 hd rfl (hl.2.2 2 _ rfl) (kk H locs ls hP hS hl)
theorem j_aload2 (C : Cx Γ p l s m args meth c cc own nL) {v0 v1 : Option Value} {x : Nat} {T : List (Option Value)} (d : Dx cc pc (.aload_n 2) 1 pc') (kk : J Γ p l e R s m args below meth c Q n ce sl pc' (v0 :: v1 :: some (.ref x) :: T) (.ref x :: S) ω κ) : J Γ p l e R s m args below meth c Q n ce sl pc (v0 :: v1 :: some (.ref x) :: T) S ω κ := by
  intro H locs ls hP hS hl
  obtain ⟨hd, rfl⟩ := d
  exact lv_aload_n C.1 C.2.1 hd rfl (hl.2.2 2 _ rfl) (kk H locs ls hP hS hl)
theorem j_aload2N (C : Cx Γ p l s m args meth c cc own nL) {v0 v1 : Option Value} {T : List (Option Value)} (d : Dx cc pc (.aload_n 2) 1 pc') (kk : J Γ p l e R s m args below meth c Q n ce sl pc' (v0 :: v1 :: some .null :: T) (.null :: S) ω κ) : J Γ p l e R s m args below meth c Q n ce sl pc (v0 :: v1 :: some .null :: T) S ω κ := by
  intro H locs ls hP hS hl
  obtain ⟨hd, rfl⟩ := d
  exact lv_aload_nN C.1 C.2.1 hd rfl (hl.2.2 2 _ rfl) (kk H locs ls hP hS hl)
theorem j_istore2 (C : Cx Γ p l s m args meth c cc own nL) {v0 v1 : Option Value} {x : Int32} {w : Option Value} {T : List (Option Value)} (ho : okp v1 = true) (d : Dx cc pc (.istore_n 2) 1 pc') (kk : J Γ p l e R s m args below meth c Q n ce sl pc' (v0 :: v1 :: some (.int x) :: T) S ω κ) : J Γ p l e R s m args below meth c Q n ce sl pc (v0 :: v1 :: w :: T) (.int x :: S) ω κ := by
  intro H locs ls hP hS hl
  obtain ⟨hd, rfl⟩ := d
  refine lv_istore_n C.1 C.2.1 hd rfl hl.has (show 2 < _ by simp) rfl (fun ls2 h2 => kk H locs ls2 hP hS (lk.set (L := (v0 :: v1 :: w :: T)) (i := 2) (by simp) (Or.inr ho) h2))
theorem j_astore2 (C : Cx Γ p l s m args meth c cc own nL) {v0 v1 : Option Value} {x : Nat} {w : Option Value} {T : List (Option Value)} (ho : okp v1 = true) (d : Dx cc pc (.astore_n 2) 1 pc') (kk : J Γ p l e R s m args below meth c Q n ce sl pc' (v0 :: v1 :: some (.ref x) :: T) S ω κ) : J Γ p l e R s m args below meth c Q n ce sl pc (v0 :: v1 :: w :: T) (.ref x :: S) ω κ := by
  intro H locs ls hP hS hl
  obtain ⟨hd, rfl⟩ := d
  refine lv_astore_n C.1 C.2.1 hd rfl hl.has (show 2 < _ by simp) rfl (fun ls2 h2 => kk H locs ls2 hP hS (lk.set (L := (v0 :: v1 :: w :: T)) (i := 2) (by simp) (Or.inr ho) h2))
theorem j_astore2N (C : Cx Γ p l s m args meth c cc own nL) {v0 v1 : Option Value}  {w : Option Value} {T : List (Option Value)} (ho : okp v1 = true) (d : Dx cc pc (.astore_n 2) 1 pc') (kk : J Γ p l e R s m args below meth c Q n ce sl pc' (v0 :: v1 :: some (.null) :: T) S ω κ) : J Γ p l e R s m args below meth c Q n ce sl pc (v0 :: v1 :: w :: T) (.null :: S) ω κ := by
  intro H locs ls hP hS hl
  obtain ⟨hd, rfl⟩ := d
  refine lv_astore_nN C.1 C.2.1 hd rfl hl.has (show 2 < _ by simp) rfl (fun ls2 h2 => kk H locs ls2 hP hS (lk.set (L := (v0 :: v1 :: w :: T)) (i := 2) (by simp) (Or.inr ho) h2))
theorem j_iinc2 (C : Cx Γ p l s m args meth c cc own nL) {v0 v1 : Option Value} {a z : Int} {T : List (Option Value)} (ho : okp v1 = true) (d : Dx cc pc (.iinc 2 z) 3 pc') (kk : J Γ p l e R s m args below meth c Q n ce sl pc' (v0 :: v1 :: some (.int (iI (a + z))) :: T) S ω κ) : J Γ p l e R s m args below meth c Q n ce sl pc (v0 :: v1 :: some (.int (iI a)) :: T) S ω κ := by
  intro H locs ls hP hS hl
  obtain ⟨hd, rfl⟩ := d
  obtain ⟨k, hk⟩ := List.getElem?_of_mem ((lz_mem (v0 :: v1 :: some (.int (iI a)) :: T) 0 2 (.int (iI a))).mpr ⟨Nat.zero_le _, by simp⟩)
  exact lv_iinc C.1 C.2.1 hd hl.has hk (iI_add a z).symm (by simp) rfl (fun ls2 h2 => kk H locs ls2 hP hS (lk.set (L := (v0 :: v1 :: some (.int (iI a)) :: T)) (i := 2) (by simp) (Or.inr ho) h2))
theorem j_iload3 (C : Cx Γ p l s m args meth c cc own nL) {v0 v1 v2 : Option Value} {x : Int32} {T : List (Option Value)} (d : Dx cc pc (.iload_n 3) 1 pc') (kk : J Γ p l e R s m args below meth c Q n ce sl pc' (v0 :: v1 :: v2 :: some (.int x) :: T) (.int x :: S) ω κ) : J Γ p l e R s m args below meth c Q n ce sl pc (v0 :: v1 :: v2 :: some (.int x) :: T) S ω κ := by
  intro H locs ls hP hS hl
  obtain ⟨hd, rfl⟩ := d
  exact lv_iload_n C.1 C.2.1 hd rfl (hl.2.2 3 _ rfl) (kk H locs ls hP hS hl)
theorem j_aload3 (C : Cx Γ p l s m args meth c cc own nL) {v0 v1 v2 : Option Value} {x : Nat} {T : List (Option Value)} (d : Dx cc pc (.aload_n 3) 1 pc') (kk : J Γ p l e R s m args below meth c Q n ce sl pc' (v0 :: v1 :: v2 :: some (.ref x) :: T) (.ref x :: S) ω κ) : J Γ p l e R s m args below meth c Q n ce sl pc (v0 :: v1 :: v2 :: some (.ref x) :: T) S ω κ := by
  intro H locs ls hP hS hl
  obtain ⟨hd, rfl⟩ := d
  exact lv_aload_n C.1 C.2.1 hd rfl (hl.2.2 3 _ rfl) (kk H locs ls hP hS hl)
theorem j_aload3N (C : Cx Γ p l s m args meth c cc own nL) {v0 v1 v2 : Option Value} {T : List (Option Value)} (d : Dx cc pc (.aload_n 3) 1 pc') (kk : J Γ p l e R s m args below meth c Q n ce sl pc' (v0 :: v1 :: v2 :: some .null :: T) (.null :: S) ω κ) : J Γ p l e R s m args below meth c Q n ce sl pc (v0 :: v1 :: v2 :: some .null :: T) S ω κ := by
  intro H locs ls hP hS hl
  obtain ⟨hd, rfl⟩ := d
  exact lv_aload_nN C.1 C.2.1 hd rfl (hl.2.2 3 _ rfl) (kk H locs ls hP hS hl)
theorem j_istore3 (C : Cx Γ p l s m args meth c cc own nL) {v0 v1 v2 : Option Value} {x : Int32} {w : Option Value} {T : List (Option Value)} (ho : okp v2 = true) (d : Dx cc pc (.istore_n 3) 1 pc') (kk : J Γ p l e R s m args below meth c Q n ce sl pc' (v0 :: v1 :: v2 :: some (.int x) :: T) S ω κ) : J Γ p l e R s m args below meth c Q n ce sl pc (v0 :: v1 :: v2 :: w :: T) (.int x :: S) ω κ := by
  intro H locs ls hP hS hl
  obtain ⟨hd, rfl⟩ := d
  refine lv_istore_n C.1 C.2.1 hd rfl hl.has (show 3 < _ by simp) rfl (fun ls2 h2 => kk H locs ls2 hP hS (lk.set (L := (v0 :: v1 :: v2 :: w :: T)) (i := 3) (by simp) (Or.inr ho) h2))
theorem j_astore3 (C : Cx Γ p l s m args meth c cc own nL) {v0 v1 v2 : Option Value} {x : Nat} {w : Option Value} {T : List (Option Value)} (ho : okp v2 = true) (d : Dx cc pc (.astore_n 3) 1 pc') (kk : J Γ p l e R s m args below meth c Q n ce sl pc' (v0 :: v1 :: v2 :: some (.ref x) :: T) S ω κ) : J Γ p l e R s m args below meth c Q n ce sl pc (v0 :: v1 :: v2 :: w :: T) (.ref x :: S) ω κ := by
  intro H locs ls hP hS hl
  obtain ⟨hd, rfl⟩ := d
  refine lv_astore_n C.1 C.2.1 hd rfl hl.has (show 3 < _ by simp) rfl (fun ls2 h2 => kk H locs ls2 hP hS (lk.set (L := (v0 :: v1 :: v2 :: w :: T)) (i := 3) (by simp) (Or.inr ho) h2))
theorem j_astore3N (C : Cx Γ p l s m args meth c cc own nL) {v0 v1 v2 : Option Value}  {w : Option Value} {T : List (Option Value)} (ho : okp v2 = true) (d : Dx cc pc (.astore_n 3) 1 pc') (kk : J Γ p l e R s m args below meth c Q n ce sl pc' (v0 :: v1 :: v2 :: some (.null) :: T) S ω κ) : J Γ p l e R s m args below meth c Q n ce sl pc (v0 :: v1 :: v2 :: w :: T) (.null :: S) ω κ := by
  intro H locs ls hP hS hl
  obtain ⟨hd, rfl⟩ := d
  refine lv_astore_nN C.1 C.2.1 hd rfl hl.has (show 3 < _ by simp) rfl (fun ls2 h2 => kk H locs ls2 hP hS (lk.set (L := (v0 :: v1 :: v2 :: w :: T)) (i := 3) (by simp) (Or.inr ho) h2))
theorem j_iinc3 (C : Cx Γ p l s m args meth c cc own nL) {v0 v1 v2 : Option Value} {a z : Int} {T : List (Option Value)} (ho : okp v2 = true) (d : Dx cc pc (.iinc 3 z) 3 pc') (kk : J Γ p l e R s m args below meth c Q n ce sl pc' (v0 :: v1 :: v2 :: some (.int (iI (a + z))) :: T) S ω κ) : J Γ p l e R s m args below meth c Q n ce sl pc (v0 :: v1 :: v2 :: some (.int (iI a)) :: T) S ω κ := by
  intro H locs ls hP hS hl
  obtain ⟨hd, rfl⟩ := d
  obtain ⟨k, hk⟩ := List.getElem?_of_mem ((lz_mem (v0 :: v1 :: v2 :: some (.int (iI a)) :: T) 0 3 (.int (iI a))).mpr ⟨Nat.zero_le _, by simp⟩)
  exact lv_iinc C.1 C.2.1 hd hl.has hk (iI_add a z).symm (by simp) rfl (fun ls2 h2 => kk H locs ls2 hP hS (lk.set (L := (v0 :: v1 :: v2 :: some (.int (iI a)) :: T)) (i := 3) (by simp) (Or.inr ho) h2))
theorem j_iload4 (C : Cx Γ p l s m args meth c cc own nL) {v0 v1 v2 v3 : Option Value} {x : Int32} {T : List (Option Value)} (d : Dx cc pc (.iload 4) 2 pc') (kk : J Γ p l e R s m args below meth c Q n ce sl pc' (v0 :: v1 :: v2 :: v3 :: some (.int x) :: T) (.int x :: S) ω κ) : J Γ p l e R s m args below meth c Q n ce sl pc (v0 :: v1 :: v2 :: v3 :: some (.int x) :: T) S ω κ := by
  intro H locs ls hP hS hl
  obtain ⟨hd, rfl⟩ := d
  exact lv_iload C.1 C.2.1 hd (hl.2.2 4 _ rfl) (kk H locs ls hP hS hl)
theorem j_aload4 (C : Cx Γ p l s m args meth c cc own nL) {v0 v1 v2 v3 : Option Value} {x : Nat} {T : List (Option Value)} (d : Dx cc pc (.aload 4) 2 pc') (kk : J Γ p l e R s m args below meth c Q n ce sl pc' (v0 :: v1 :: v2 :: v3 :: some (.ref x) :: T) (.ref x :: S) ω κ) : J Γ p l e R s m args below meth c Q n ce sl pc (v0 :: v1 :: v2 :: v3 :: some (.ref x) :: T) S ω κ := by
  intro H locs ls hP hS hl
  obtain ⟨hd, rfl⟩ := d
  exact lv_aload C.1 C.2.1 hd (hl.2.2 4 _ rfl) (kk H locs ls hP hS hl)
theorem j_aload4N (C : Cx Γ p l s m args meth c cc own nL) {v0 v1 v2 v3 : Option Value} {T : List (Option Value)} (d : Dx cc pc (.aload 4) 2 pc') (kk : J Γ p l e R s m args below meth c Q n ce sl pc' (v0 :: v1 :: v2 :: v3 :: some .null :: T) (.null :: S) ω κ) : J Γ p l e R s m args below meth c Q n ce sl pc (v0 :: v1 :: v2 :: v3 :: some .null :: T) S ω κ := by
  intro H locs ls hP hS hl
  obtain ⟨hd, rfl⟩ := d
  exact lv_aloadN C.1 C.2.1 hd (hl.2.2 4 _ rfl) (kk H locs ls hP hS hl)
theorem j_istore4 (C : Cx Γ p l s m args meth c cc own nL) {v0 v1 v2 v3 : Option Value} {x : Int32} {w : Option Value} {T : List (Option Value)} (ho : okp v3 = true) (d : Dx cc pc (.istore 4) 2 pc') (kk : J Γ p l e R s m args below meth c Q n ce sl pc' (v0 :: v1 :: v2 :: v3 :: some (.int x) :: T) S ω κ) : J Γ p l e R s m args below meth c Q n ce sl pc (v0 :: v1 :: v2 :: v3 :: w :: T) (.int x :: S) ω κ := by
  intro H locs ls hP hS hl
  obtain ⟨hd, rfl⟩ := d
  refine lv_istore C.1 C.2.1 hd hl.has (show 4 < _ by simp) rfl (fun ls2 h2 => kk H locs ls2 hP hS (lk.set (L := (v0 :: v1 :: v2 :: v3 :: w :: T)) (i := 4) (by simp) (Or.inr ho) h2))
theorem j_astore4 (C : Cx Γ p l s m args meth c cc own nL) {v0 v1 v2 v3 : Option Value} {x : Nat} {w : Option Value} {T : List (Option Value)} (ho : okp v3 = true) (d : Dx cc pc (.astore 4) 2 pc') (kk : J Γ p l e R s m args below meth c Q n ce sl pc' (v0 :: v1 :: v2 :: v3 :: some (.ref x) :: T) S ω κ) : J Γ p l e R s m args below meth c Q n ce sl pc (v0 :: v1 :: v2 :: v3 :: w :: T) (.ref x :: S) ω κ := by
  intro H locs ls hP hS hl
  obtain ⟨hd, rfl⟩ := d
  refine lv_astore C.1 C.2.1 hd hl.has (show 4 < _ by simp) rfl (fun ls2 h2 => kk H locs ls2 hP hS (lk.set (L := (v0 :: v1 :: v2 :: v3 :: w :: T)) (i := 4) (by simp) (Or.inr ho) h2))
theorem j_astore4N (C : Cx Γ p l s m args meth c cc own nL) {v0 v1 v2 v3 : Option Value}  {w : Option Value} {T : List (Option Value)} (ho : okp v3 = true) (d : Dx cc pc (.astore 4) 2 pc') (kk : J Γ p l e R s m args below meth c Q n ce sl pc' (v0 :: v1 :: v2 :: v3 :: some (.null) :: T) S ω κ) : J Γ p l e R s m args below meth c Q n ce sl pc (v0 :: v1 :: v2 :: v3 :: w :: T) (.null :: S) ω κ := by
  intro H locs ls hP hS hl
  obtain ⟨hd, rfl⟩ := d
  refine lv_astoreN C.1 C.2.1 hd hl.has (show 4 < _ by simp) rfl (fun ls2 h2 => kk H locs ls2 hP hS (lk.set (L := (v0 :: v1 :: v2 :: v3 :: w :: T)) (i := 4) (by simp) (Or.inr ho) h2))
theorem j_iinc4 (C : Cx Γ p l s m args meth c cc own nL) {v0 v1 v2 v3 : Option Value} {a z : Int} {T : List (Option Value)} (ho : okp v3 = true) (d : Dx cc pc (.iinc 4 z) 3 pc') (kk : J Γ p l e R s m args below meth c Q n ce sl pc' (v0 :: v1 :: v2 :: v3 :: some (.int (iI (a + z))) :: T) S ω κ) : J Γ p l e R s m args below meth c Q n ce sl pc (v0 :: v1 :: v2 :: v3 :: some (.int (iI a)) :: T) S ω κ := by
  intro H locs ls hP hS hl
  obtain ⟨hd, rfl⟩ := d
  obtain ⟨k, hk⟩ := List.getElem?_of_mem ((lz_mem (v0 :: v1 :: v2 :: v3 :: some (.int (iI a)) :: T) 0 4 (.int (iI a))).mpr ⟨Nat.zero_le _, by simp⟩)
  exact lv_iinc C.1 C.2.1 hd hl.has hk (iI_add a z).symm (by simp) rfl (fun ls2 h2 => kk H locs ls2 hP hS (lk.set (L := (v0 :: v1 :: v2 :: v3 :: some (.int (iI a)) :: T)) (i := 4) (by simp) (Or.inr ho) h2))
theorem j_iload5 (C : Cx Γ p l s m args meth c cc own nL) {v0 v1 v2 v3 v4 : Option Value} {x : Int32} {T : List (Option Value)} (d : Dx cc pc (.iload 5) 2 pc') (kk : J Γ p l e R s m args below meth c Q n ce sl pc' (v0 :: v1 :: v2 :: v3 :: v4 :: some (.int x) :: T) (.int x :: S) ω κ) : J Γ p l e R s m args below meth c Q n ce sl pc (v0 :: v1 :: v2 :: v3 :: v4 :: some (.int x) :: T) S ω κ := by
  intro H locs ls hP hS hl
  obtain ⟨hd, rfl⟩ := d
  exact lv_iload C.1 C.2.1 hd (hl.2.2 5 _ rfl) (kk H locs ls hP hS hl)
theorem j_aload5 (C : Cx Γ p l s m args meth c cc own nL) {v0 v1 v2 v3 v4 : Option Value} {x : Nat} {T : List (Option Value)} (d : Dx cc pc (.aload 5) 2 pc') (kk : J Γ p l e R s m args below meth c Q n ce sl pc' (v0 :: v1 :: v2 :: v3 :: v4 :: some (.ref x) :: T) (.ref x :: S) ω κ) : J Γ p l e R s m args below meth c Q n ce sl pc (v0 :: v1 :: v2 :: v3 :: v4 :: some (.ref x) :: T) S ω κ := by
  intro H locs ls hP hS hl
  obtain ⟨hd, rfl⟩ := d
  exact lv_aload C.1 C.2.1 hd (hl.2.2 5 _ rfl) (kk H locs ls hP hS hl)
theorem j_aload5N (C : Cx Γ p l s m args meth c cc own nL) {v0 v1 v2 v3 v4 : Option Value} {T : List (Option Value)} (d : Dx cc pc (.aload 5) 2 pc') (kk : J Γ p l e R s m args below meth c Q n ce sl pc' (v0 :: v1 :: v2 :: v3 :: v4 :: some .null :: T) (.null :: S) ω κ) : J Γ p l e R s m args below meth c Q n ce sl pc (v0 :: v1 :: v2 :: v3 :: v4 :: some .null :: T) S ω κ := by
  intro H locs ls hP hS hl
  obtain ⟨hd, rfl⟩ := d
  exact lv_aloadN C.1 C.2.1 hd (hl.2.2 5 _ rfl) (kk H locs ls hP hS hl)
theorem j_istore5 (C : Cx Γ p l s m args meth c cc own nL) {v0 v1 v2 v3 v4 : Option Value} {x : Int32} {w : Option Value} {T : List (Option Value)} (ho : okp v4 = true) (d : Dx cc pc (.istore 5) 2 pc') (kk : J Γ p l e R s m args below meth c Q n ce sl pc' (v0 :: v1 :: v2 :: v3 :: v4 :: some (.int x) :: T) S ω κ) : J Γ p l e R s m args below meth c Q n ce sl pc (v0 :: v1 :: v2 :: v3 :: v4 :: w :: T) (.int x :: S) ω κ := by
  intro H locs ls hP hS hl
  obtain ⟨hd, rfl⟩ := d
  refine lv_istore C.1 C.2.1 hd hl.has (show 5 < _ by simp) rfl (fun ls2 h2 => kk H locs ls2 hP hS (lk.set (L := (v0 :: v1 :: v2 :: v3 :: v4 :: w :: T)) (i := 5) (by simp) (Or.inr ho) h2))
theorem j_astore5 (C : Cx Γ p l s m args meth c cc own nL) {v0 v1 v2 v3 v4 : Option Value} {x : Nat} {w : Option Value} {T : List (Option Value)} (ho : okp v4 = true) (d : Dx cc pc (.astore 5) 2 pc') (kk : J Γ p l e R s m args below meth c Q n ce sl pc' (v0 :: v1 :: v2 :: v3 :: v4 :: some (.ref x) :: T) S ω κ) : J Γ p l e R s m args below meth c Q n ce sl pc (v0 :: v1 :: v2 :: v3 :: v4 :: w :: T) (.ref x :: S) ω κ := by
  intro H locs ls hP hS hl
  obtain ⟨hd, rfl⟩ := d
  refine lv_astore C.1 C.2.1 hd hl.has (show 5 < _ by simp) rfl (fun ls2 h2 => kk H locs ls2 hP hS (lk.set (L := (v0 :: v1 :: v2 :: v3 :: v4 :: w :: T)) (i := 5) (by simp) (Or.inr ho) h2))
theorem j_astore5N (C : Cx Γ p l s m args meth c cc own nL) {v0 v1 v2 v3 v4 : Option Value}  {w : Option Value} {T : List (Option Value)} (ho : okp v4 = true) (d : Dx cc pc (.astore 5) 2 pc') (kk : J Γ p l e R s m args below meth c Q n ce sl pc' (v0 :: v1 :: v2 :: v3 :: v4 :: some (.null) :: T) S ω κ) : J Γ p l e R s m args below meth c Q n ce sl pc (v0 :: v1 :: v2 :: v3 :: v4 :: w :: T) (.null :: S) ω κ := by
  intro H locs ls hP hS hl
  obtain ⟨hd, rfl⟩ := d
  refine lv_astoreN C.1 C.2.1 hd hl.has (show 5 < _ by simp) rfl (fun ls2 h2 => kk H locs ls2 hP hS (lk.set (L := (v0 :: v1 :: v2 :: v3 :: v4 :: w :: T)) (i := 5) (by simp) (Or.inr ho) h2))
theorem j_iinc5 (C : Cx Γ p l s m args meth c cc own nL) {v0 v1 v2 v3 v4 : Option Value} {a z : Int} {T : List (Option Value)} (ho : okp v4 = true) (d : Dx cc pc (.iinc 5 z) 3 pc') (kk : J Γ p l e R s m args below meth c Q n ce sl pc' (v0 :: v1 :: v2 :: v3 :: v4 :: some (.int (iI (a + z))) :: T) S ω κ) : J Γ p l e R s m args below meth c Q n ce sl pc (v0 :: v1 :: v2 :: v3 :: v4 :: some (.int (iI a)) :: T) S ω κ := by
  intro H locs ls hP hS hl
  obtain ⟨hd, rfl⟩ := d
  obtain ⟨k, hk⟩ := List.getElem?_of_mem ((lz_mem (v0 :: v1 :: v2 :: v3 :: v4 :: some (.int (iI a)) :: T) 0 5 (.int (iI a))).mpr ⟨Nat.zero_le _, by simp⟩)
  exact lv_iinc C.1 C.2.1 hd hl.has hk (iI_add a z).symm (by simp) rfl (fun ls2 h2 => kk H locs ls2 hP hS (lk.set (L := (v0 :: v1 :: v2 :: v3 :: v4 :: some (.int (iI a)) :: T)) (i := 5) (by simp) (Or.inr ho) h2))
theorem j_iload6 (C : Cx Γ p l s m args meth c cc own nL) {v0 v1 v2 v3 v4 v5 : Option Value} {x : Int32} {T : List (Option Value)} (d : Dx cc pc (.iload 6) 2 pc') (kk : J Γ p l e R s m args below meth c Q n ce sl pc' (v0 :: v1 :: v2 :: v3 :: v4 :: v5 :: some (.int x) :: T) (.int x :: S) ω κ) : J Γ p l e R s m args below meth c Q n ce sl pc (v0 :: v1 :: v2 :: v3 :: v4 :: v5 :: some (.int x) :: T) S ω κ := by
  intro H locs ls hP hS hl
  obtain ⟨hd, rfl⟩ := d
  exact lv_iload C.1 C.2.1 hd (hl.2.2 6 _ rfl) (kk H locs ls hP hS hl)
theorem j_aload6 (C : Cx Γ p l s m args meth c cc own nL) {v0 v1 v2 v3 v4 v5 : Option Value} {x : Nat} {T : List (Option Value)} (d : Dx cc pc (.aload 6) 2 pc') (kk : J Γ p l e R s m args below meth c Q n ce sl pc' (v0 :: v1 :: v2 :: v3 :: v4 :: v5 :: some (.ref x) :: T) (.ref x :: S) ω κ) : J Γ p l e R s m args below meth c Q n ce sl pc (v0 :: v1 :: v2 :: v3 :: v4 :: v5 :: some (.ref x) :: T) S ω κ := by
  intro H locs ls hP hS hl
  obtain ⟨hd, rfl⟩ := d
  exact lv_aload C.1 C.2.1 hd (hl.2.2 6 _ rfl) (kk H locs ls hP hS hl)
theorem j_aload6N (C : Cx Γ p l s m args meth c cc own nL) {v0 v1 v2 v3 v4 v5 : Option Value} {T : List (Option Value)} (d : Dx cc pc (.aload 6) 2 pc') (kk : J Γ p l e R s m args below meth c Q n ce sl pc' (v0 :: v1 :: v2 :: v3 :: v4 :: v5 :: some .null :: T) (.null :: S) ω κ) : J Γ p l e R s m args below meth c Q n ce sl pc (v0 :: v1 :: v2 :: v3 :: v4 :: v5 :: some .null :: T) S ω κ := by
  intro H locs ls hP hS hl
  obtain ⟨hd, rfl⟩ := d
  exact lv_aloadN C.1 C.2.1 hd (hl.2.2 6 _ rfl) (kk H locs ls hP hS hl)
theorem j_istore6 (C : Cx Γ p l s m args meth c cc own nL) {v0 v1 v2 v3 v4 v5 : Option Value} {x : Int32} {w : Option Value} {T : List (Option Value)} (ho : okp v5 = true) (d : Dx cc pc (.istore 6) 2 pc') (kk : J Γ p l e R s m args below meth c Q n ce sl pc' (v0 :: v1 :: v2 :: v3 :: v4 :: v5 :: some (.int x) :: T) S ω κ) : J Γ p l e R s m args below meth c Q n ce sl pc (v0 :: v1 :: v2 :: v3 :: v4 :: v5 :: w :: T) (.int x :: S) ω κ := by
  intro H locs ls hP hS hl
  obtain ⟨hd, rfl⟩ := d
  refine lv_istore C.1 C.2.1 hd hl.has (show 6 < _ by simp) rfl (fun ls2 h2 => kk H locs ls2 hP hS (lk.set (L := (v0 :: v1 :: v2 :: v3 :: v4 :: v5 :: w :: T)) (i := 6) (by simp) (Or.inr ho) h2))
theorem j_astore6 (C : Cx Γ p l s m args meth c cc own nL) {v0 v1 v2 v3 v4 v5 : Option Value} {x : Nat} {w : Option Value} {T : List (Option Value)} (ho : okp v5 = true) (d : Dx cc pc (.astore 6) 2 pc') (kk : J Γ p l e R s m args below meth c Q n ce sl pc' (v0 :: v1 :: v2 :: v3 :: v4 :: v5 :: some (.ref x) :: T) S ω κ) : J Γ p l e R s m args below meth c Q n ce sl pc (v0 :: v1 :: v2 :: v3 :: v4 :: v5 :: w :: T) (.ref x :: S) ω κ := by
  intro H locs ls hP hS hl
  obtain ⟨hd, rfl⟩ := d
  refine lv_astore C.1 C.2.1 hd hl.has (show 6 < _ by simp) rfl (fun ls2 h2 => kk H locs ls2 hP hS (lk.set (L := (v0 :: v1 :: v2 :: v3 :: v4 :: v5 :: w :: T)) (i := 6) (by simp) (Or.inr ho) h2))
theorem j_astore6N (C : Cx Γ p l s m args meth c cc own nL) {v0 v1 v2 v3 v4 v5 : Option Value}  {w : Option Value} {T : List (Option Value)} (ho : okp v5 = true) (d : Dx cc pc (.astore 6) 2 pc') (kk : J Γ p l e R s m args below meth c Q n ce sl pc' (v0 :: v1 :: v2 :: v3 :: v4 :: v5 :: some (.null) :: T) S ω κ) : J Γ p l e R s m args below meth c Q n ce sl pc (v0 :: v1 :: v2 :: v3 :: v4 :: v5 :: w :: T) (.null :: S) ω κ := by
  intro H locs ls hP hS hl
  obtain ⟨hd, rfl⟩ := d
  refine lv_astoreN C.1 C.2.1 hd hl.has (show 6 < _ by simp) rfl (fun ls2 h2 => kk H locs ls2 hP hS (lk.set (L := (v0 :: v1 :: v2 :: v3 :: v4 :: v5 :: w :: T)) (i := 6) (by simp) (Or.inr ho) h2))
theorem j_iinc6 (C : Cx Γ p l s m args meth c cc own nL) {v0 v1 v2 v3 v4 v5 : Option Value} {a z : Int} {T : List (Option Value)} (ho : okp v5 = true) (d : Dx cc pc (.iinc 6 z) 3 pc') (kk : J Γ p l e R s m args below meth c Q n ce sl pc' (v0 :: v1 :: v2 :: v3 :: v4 :: v5 :: some (.int (iI (a + z))) :: T) S ω κ) : J Γ p l e R s m args below meth c Q n ce sl pc (v0 :: v1 :: v2 :: v3 :: v4 :: v5 :: some (.int (iI a)) :: T) S ω κ := by
  intro H locs ls hP hS hl
  obtain ⟨hd, rfl⟩ := d
  obtain ⟨k, hk⟩ := List.getElem?_of_mem ((lz_mem (v0 :: v1 :: v2 :: v3 :: v4 :: v5 :: some (.int (iI a)) :: T) 0 6 (.int (iI a))).mpr ⟨Nat.zero_le _, by simp⟩)
  exact lv_iinc C.1 C.2.1 hd hl.has hk (iI_add a z).symm (by simp) rfl (fun ls2 h2 => kk H locs ls2 hP hS (lk.set (L := (v0 :: v1 :: v2 :: v3 :: v4 :: v5 :: some (.int (iI a)) :: T)) (i := 6) (by simp) (Or.inr ho) h2))
theorem j_iload7 (C : Cx Γ p l s m args meth c cc own nL) {v0 v1 v2 v3 v4 v5 v6 : Option Value} {x : Int32} {T : List (Option Value)} (d : Dx cc pc (.iload 7) 2 pc') (kk : J Γ p l e R s m args below meth c Q n ce sl pc' (v0 :: v1 :: v2 :: v3 :: v4 :: v5 :: v6 :: some (.int x) :: T) (.int x :: S) ω κ) : J Γ p l e R s m args below meth c Q n ce sl pc (v0 :: v1 :: v2 :: v3 :: v4 :: v5 :: v6 :: some (.int x) :: T) S ω κ := by
  intro H locs ls hP hS hl
  obtain ⟨hd, rfl⟩ := d
  exact lv_iload C.1 C.2.1 hd (hl.2.2 7 _ rfl) (kk H locs ls hP hS hl)
theorem j_aload7 (C : Cx Γ p l s m args meth c cc own nL) {v0 v1 v2 v3 v4 v5 v6 : Option Value} {x : Nat} {T : List (Option Value)} (d : Dx cc pc (.aload 7) 2 pc') (kk : J Γ p l e R s m args below meth c Q n ce sl pc' (v0 :: v1 :: v2 :: v3 :: v4 :: v5 :: v6 :: some (.ref x) :: T) (.ref x :: S) ω κ) : J Γ p l e R s m args below meth c Q n ce sl pc (v0 :: v1 :: v2 :: v3 :: v4 :: v5 :: v6 :: some (.ref x) :: T) S ω κ := by
  intro H locs ls hP hS hl
  obtain ⟨hd, rfl⟩ := d
  exact lv_aload C.1 C.2.1 hd (hl.2.2 7 _ rfl) (kk H locs ls hP hS hl)
theorem j_aload7N (C : Cx Γ p l s m args meth c cc own nL) {v0 v1 v2 v3 v4 v5 v6 : Option Value} {T : List (Option Value)} (d : Dx cc pc (.aload 7) 2 pc') (kk : J Γ p l e R s m args below meth c Q n ce sl pc' (v0 :: v1 :: v2 :: v3 :: v4 :: v5 :: v6 :: some .null :: T) (.null :: S) ω κ) : J Γ p l e R s m args below meth c Q n ce sl pc (v0 :: v1 :: v2 :: v3 :: v4 :: v5 :: v6 :: some .null :: T) S ω κ := by
  intro H locs ls hP hS hl
  obtain ⟨hd, rfl⟩ := d
  exact lv_aloadN C.1 C.2.1 hd (hl.2.2 7 _ rfl) (kk H locs ls hP hS hl)
theorem j_istore7 (C : Cx Γ p l s m args meth c cc own nL) {v0 v1 v2 v3 v4 v5 v6 : Option Value} {x : Int32} {w : Option Value} {T : List (Option Value)} (ho : okp v6 = true) (d : Dx cc pc (.istore 7) 2 pc') (kk : J Γ p l e R s m args below meth c Q n ce sl pc' (v0 :: v1 :: v2 :: v3 :: v4 :: v5 :: v6 :: some (.int x) :: T) S ω κ) : J Γ p l e R s m args below meth c Q n ce sl pc (v0 :: v1 :: v2 :: v3 :: v4 :: v5 :: v6 :: w :: T) (.int x :: S) ω κ := by
  intro H locs ls hP hS hl
  obtain ⟨hd, rfl⟩ := d
  refine lv_istore C.1 C.2.1 hd hl.has (show 7 < _ by simp) rfl (fun ls2 h2 => kk H locs ls2 hP hS (lk.set (L := (v0 :: v1 :: v2 :: v3 :: v4 :: v5 :: v6 :: w :: T)) (i := 7) (by simp) (Or.inr ho) h2))
theorem j_astore7 (C : Cx Γ p l s m args meth c cc own nL) {v0 v1 v2 v3 v4 v5 v6 : Option Value} {x : Nat} {w : Option Value} {T : List (Option Value)} (ho : okp v6 = true) (d : Dx cc pc (.astore 7) 2 pc') (kk : J Γ p l e R s m args below meth c Q n ce sl pc' (v0 :: v1 :: v2 :: v3 :: v4 :: v5 :: v6 :: some (.ref x) :: T) S ω κ) : J Γ p l e R s m args below meth c Q n ce sl pc (v0 :: v1 :: v2 :: v3 :: v4 :: v5 :: v6 :: w :: T) (.ref x :: S) ω κ := by
  intro H locs ls hP hS hl
  obtain ⟨hd, rfl⟩ := d
  refine lv_astore C.1 C.2.1 hd hl.has (show 7 < _ by simp) rfl (fun ls2 h2 => kk H locs ls2 hP hS (lk.set (L := (v0 :: v1 :: v2 :: v3 :: v4 :: v5 :: v6 :: w :: T)) (i := 7) (by simp) (Or.inr ho) h2))
theorem j_astore7N (C : Cx Γ p l s m args meth c cc own nL) {v0 v1 v2 v3 v4 v5 v6 : Option Value}  {w : Option Value} {T : List (Option Value)} (ho : okp v6 = true) (d : Dx cc pc (.astore 7) 2 pc') (kk : J Γ p l e R s m args below meth c Q n ce sl pc' (v0 :: v1 :: v2 :: v3 :: v4 :: v5 :: v6 :: some (.null) :: T) S ω κ) : J Γ p l e R s m args below meth c Q n ce sl pc (v0 :: v1 :: v2 :: v3 :: v4 :: v5 :: v6 :: w :: T) (.null :: S) ω κ := by
  intro H locs ls hP hS hl
  obtain ⟨hd, rfl⟩ := d
  refine lv_astoreN C.1 C.2.1 hd hl.has (show 7 < _ by simp) rfl (fun ls2 h2 => kk H locs ls2 hP hS (lk.set (L := (v0 :: v1 :: v2 :: v3 :: v4 :: v5 :: v6 :: w :: T)) (i := 7) (by simp) (Or.inr ho) h2))
theorem j_iinc7 (C : Cx Γ p l s m args meth c cc own nL) {v0 v1 v2 v3 v4 v5 v6 : Option Value} {a z : Int} {T : List (Option Value)} (ho : okp v6 = true) (d : Dx cc pc (.iinc 7 z) 3 pc') (kk : J Γ p l e R s m args below meth c Q n ce sl pc' (v0 :: v1 :: v2 :: v3 :: v4 :: v5 :: v6 :: some (.int (iI (a + z))) :: T) S ω κ) : J Γ p l e R s m args below meth c Q n ce sl pc (v0 :: v1 :: v2 :: v3 :: v4 :: v5 :: v6 :: some (.int (iI a)) :: T) S ω κ := by
  intro H locs ls hP hS hl
  obtain ⟨hd, rfl⟩ := d
  obtain ⟨k, hk⟩ := List.getElem?_of_mem ((lz_mem (v0 :: v1 :: v2 :: v3 :: v4 :: v5 :: v6 :: some (.int (iI a)) :: T) 0 7 (.int (iI a))).mpr ⟨Nat.zero_le _, by simp⟩)
  exact lv_iinc C.1 C.2.1 hd hl.has hk (iI_add a z).symm (by simp) rfl (fun ls2 h2 => kk H locs ls2 hP hS (lk.set (L := (v0 :: v1 :: v2 :: v3 :: v4 :: v5 :: v6 :: some (.int (iI a)) :: T)) (i := 7) (by simp) (Or.inr ho) h2))
theorem j_iload8 (C : Cx Γ p l s m args meth c cc own nL) {v0 v1 v2 v3 v4 v5 v6 v7 : Option Value} {x : Int32} {T : List (Option Value)} (d : Dx cc pc (.iload 8) 2 pc') (kk : J Γ p l e R s m args below meth c Q n ce sl pc' (v0 :: v1 :: v2 :: v3 :: v4 :: v5 :: v6 :: v7 :: some (.int x) :: T) (.int x :: S) ω κ) : J Γ p l e R s m args below meth c Q n ce sl pc (v0 :: v1 :: v2 :: v3 :: v4 :: v5 :: v6 :: v7 :: some (.int x) :: T) S ω κ := by
  intro H locs ls hP hS hl
  obtain ⟨hd, rfl⟩ := d
  exact lv_iload C.1 C.2.1 hd (hl.2.2 8 _ rfl) (kk H locs ls hP hS hl)
theorem j_aload8 (C : Cx Γ p l s m args meth c cc own nL) {v0 v1 v2 v3 v4 v5 v6 v7 : Option Value} {x : Nat} {T : List (Option Value)} (d : Dx cc pc (.aload 8) 2 pc') (kk : J Γ p l e R s m args below meth c Q n ce sl pc' (v0 :: v1 :: v2 :: v3 :: v4 :: v5 :: v6 :: v7 :: some (.ref x) :: T) (.ref x :: S) ω κ) : J Γ p l e R s m args below meth c Q n ce sl pc (v0 :: v1 :: v2 :: v3 :: v4 :: v5 :: v6 :: v7 :: some (.ref x) :: T) S ω κ := by
  intro H locs ls hP hS hl
  obtain ⟨hd, rfl⟩ := d
  exact lv_aload C.1 C.2.1 hd (hl.2.2 8 _ rfl) (kk H locs ls hP hS hl)
theorem j_aload8N (C : Cx Γ p l s m args meth c cc own nL) {v0 v1 v2 v3 v4 v5 v6 v7 : Option Value} {T : List (Option Value)} (d : Dx cc pc (.aload 8) 2 pc') (kk : J Γ p l e R s m args below meth c Q n ce sl pc' (v0 :: v1 :: v2 :: v3 :: v4 :: v5 :: v6 :: v7 :: some .null :: T) (.null :: S) ω κ) : J Γ p l e R s m args below meth c Q n ce sl pc (v0 :: v1 :: v2 :: v3 :: v4 :: v5 :: v6 :: v7 :: some .null :: T) S ω κ := by
  intro H locs ls hP hS hl
  obtain ⟨hd, rfl⟩ := d
  exact lv_aloadN C.1 C.2.1 hd (hl.2.2 8 _ rfl) (kk H locs ls hP hS hl)
theorem j_istore8 (C : Cx Γ p l s m args meth c cc own nL) {v0 v1 v2 v3 v4 v5 v6 v7 : Option Value} {x : Int32} {w : Option Value} {T : List (Option Value)} (ho : okp v7 = true) (d : Dx cc pc (.istore 8) 2 pc') (kk : J Γ p l e R s m args below meth c Q n ce sl pc' (v0 :: v1 :: v2 :: v3 :: v4 :: v5 :: v6 :: v7 :: some (.int x) :: T) S ω κ) : J Γ p l e R s m args below meth c Q n ce sl pc (v0 :: v1 :: v2 :: v3 :: v4 :: v5 :: v6 :: v7 :: w :: T) (.int x :: S) ω κ := by
  intro H locs ls hP hS hl
  obtain ⟨hd, rfl⟩ := d
  refine lv_istore C.1 C.2.1 hd hl.has (show 8 < _ by simp) rfl (fun ls2 h2 => kk H locs ls2 hP hS (lk.set (L := (v0 :: v1 :: v2 :: v3 :: v4 :: v5 :: v6 :: v7 :: w :: T)) (i := 8) (by simp) (Or.inr ho) h2))
theorem j_astore8 (C : Cx Γ p l s m args meth c cc own nL) {v0 v1 v2 v3 v4 v5 v6 v7 : Option Value} {x : Nat} {w : Option Value} {T : List (Option Value)} (ho : okp v7 = true) (d : Dx cc pc (.astore 8) 2 pc') (kk : J Γ p l e R s m args below meth c Q n ce sl pc' (v0 :: v1 :: v2 :: v3 :: v4 :: v5 :: v6 :: v7 :: some (.ref x) :: T) S ω κ) : J Γ p l e R s m args below meth c Q n ce sl pc (v0 :: v1 :: v2 :: v3 :: v4 :: v5 :: v6 :: v7 :: w :: T) (.ref x :: S) ω κ := by
  intro H locs ls hP hS hl
  obtain ⟨hd, rfl⟩ := d
  refine lv_astore C.1 C.2.1 hd hl.has (show 8 < _ by simp) rfl (fun ls2 h2 => kk H locs ls2 hP hS (lk.set (L := (v0 :: v1 :: v2 :: v3 :: v4 :: v5 :: v6 :: v7 :: w :: T)) (i := 8) (by simp) (Or.inr ho) h2))
theorem j_astore8N (C : Cx Γ p l s m args meth c cc own nL) {v0 v1 v2 v3 v4 v5 v6 v7 : Option Value}  {w : Option Value} {T : List (Option Value)} (ho : okp v7 = true) (d : Dx cc pc (.astore 8) 2 pc') (kk : J Γ p l e R s m args below meth c Q n ce sl pc' (v0 :: v1 :: v2 :: v3 :: v4 :: v5 :: v6 :: v7 :: some (.null) :: T) S ω κ) : J Γ p l e R s m args below meth c Q n ce sl pc (v0 :: v1 :: v2 :: v3 :: v4 :: v5 :: v6 :: v7 :: w :: T) (.null :: S) ω κ := by
  intro H locs ls hP hS hl
  obtain ⟨hd, rfl⟩ := d
  refine lv_astoreN C.1 C.2.1 hd hl.has (show 8 < _ by simp) rfl (fun ls2 h2 => kk H locs ls2 hP hS (lk.set (L := (v0 :: v1 :: v2 :: v3 :: v4 :: v5 :: v6 :: v7 :: w :: T)) (i := 8) (by simp) (Or.inr ho) h2))
theorem j_iinc8 (C : Cx Γ p l s m args meth c cc own nL) {v0 v1 v2 v3 v4 v5 v6 v7 : Option Value} {a z : Int} {T : List (Option Value)} (ho : okp v7 = true) (d : Dx cc pc (.iinc 8 z) 3 pc') (kk : J Γ p l e R s m args below meth c Q n ce sl pc' (v0 :: v1 :: v2 :: v3 :: v4 :: v5 :: v6 :: v7 :: some (.int (iI (a + z))) :: T) S ω κ) : J Γ p l e R s m args below meth c Q n ce sl pc (v0 :: v1 :: v2 :: v3 :: v4 :: v5 :: v6 :: v7 :: some (.int (iI a)) :: T) S ω κ := by
  intro H locs ls hP hS hl
  obtain ⟨hd, rfl⟩ := d
  obtain ⟨k, hk⟩ := List.getElem?_of_mem ((lz_mem (v0 :: v1 :: v2 :: v3 :: v4 :: v5 :: v6 :: v7 :: some (.int (iI a)) :: T) 0 8 (.int (iI a))).mpr ⟨Nat.zero_le _, by simp⟩)
  exact lv_iinc C.1 C.2.1 hd hl.has hk (iI_add a z).symm (by simp) rfl (fun ls2 h2 => kk H locs ls2 hP hS (lk.set (L := (v0 :: v1 :: v2 :: v3 :: v4 :: v5 :: v6 :: v7 :: some (.int (iI a)) :: T)) (i := 8) (by simp) (Or.inr ho) h2))
theorem j_iload9 (C : Cx Γ p l s m args meth c cc own nL) {v0 v1 v2 v3 v4 v5 v6 v7 v8 : Option Value} {x : Int32} {T : List (Option Value)} (d : Dx cc pc (.iload 9) 2 pc') (kk : J Γ p l e R s m args below meth c Q n ce sl pc' (v0 :: v1 :: v2 :: v3 :: v4 :: v5 :: v6 :: v7 :: v8 :: some (.int x) :: T) (.int x :: S) ω κ) : J Γ p l e R s m args below meth c Q n ce sl pc (v0 :: v1 :: v2 :: v3 :: v4 :: v5 :: v6 :: v7 :: v8 :: some (.int x) :: T) S ω κ := by
  intro H locs ls hP hS hl
  obtain ⟨hd, rfl⟩ := d
  exact lv_iload C.1 C.2.1 hd (hl.2.2 9 _ rfl) (kk H locs ls hP hS hl)
theorem j_aload9 (C : Cx Γ p l s m args meth c cc own nL) {v0 v1 v2 v3 v4 v5 v6 v7 v8 : Option Value} {x : Nat} {T : List (Option Value)} (d : Dx cc pc (.aload 9) 2 pc') (kk : J Γ p l e R s m args below meth c Q n ce sl pc' (v0 :: v1 :: v2 :: v3 :: v4 :: v5 :: v6 :: v7 :: v8 :: some (.ref x) :: T) (.ref x :: S) ω κ) : J Γ p l e R s m args below meth c Q n ce sl pc (v0 :: v1 :: v2 :: v3 :: v4 :: v5 :: v6 :: v7 :: v8 :: some (.ref x) :: T) S ω κ := by
  intro H locs ls hP hS hl
  obtain ⟨hd, rfl⟩ := d
  exact lv_aload C.1 C.2.1 hd (hl.2.2 9 _ rfl) (kk H locs ls hP hS hl)
theorem j_aload9N (C : Cx Γ p l s m args meth c cc own nL) {v0 v1 v2 v3 v4 v5 v6 v7 v8 : Option Value} {T : List (Option Value)} (d : Dx cc pc (.aload 9) 2 pc') (kk : J Γ p l e R s m args below meth c Q n ce sl pc' (v0 :: v1 :: v2 :: v3 :: v4 :: v5 :: v6 :: v7 :: v8 :: some .null :: T) (.null :: S) ω κ) : J Γ p l e R s m args below meth c Q n ce sl pc (v0 :: v1 :: v2 :: v3 :: v4 :: v5 :: v6 :: v7 :: v8 :: some .null :: T) S ω κ := by
  intro H locs ls hP hS hl
  obtain ⟨hd, rfl⟩ := d
  exact lv_aloadN C.1 C.2.1 hd (hl.2.2 9 _ rfl) (kk H locs ls hP hS hl)
theorem j_istore9 (C : Cx Γ p l s m args meth c cc own nL) {v0 v1 v2 v3 v4 v5 v6 v7 v8 : Option Value} {x : Int32} {w : Option Value} {T : List (Option Value)} (ho : okp v8 = true) (d : Dx cc pc (.istore 9) 2 pc') (kk : J Γ p l e R s m args below meth c Q n ce sl pc' (v0 :: v1 :: v2 :: v3 :: v4 :: v5 :: v6 :: v7 :: v8 :: some (.int x) :: T) S ω κ) : J Γ p l e R s m args below meth c Q n ce sl pc (v0 :: v1 :: v2 :: v3 :: v4 :: v5 :: v6 :: v7 :: v8 :: w :: T) (.int x :: S) ω κ := by
  intro H locs ls hP hS hl
  obtain ⟨hd, rfl⟩ := d
  refine lv_istore C.1 C.2.1 hd hl.has (show 9 < _ by simp) rfl (fun ls2 h2 => kk H locs ls2 hP hS (lk.set (L := (v0 :: v1 :: v2 :: v3 :: v4 :: v5 :: v6 :: v7 :: v8 :: w :: T)) (i := 9) (by simp) (Or.inr ho) h2))
theorem j_astore9 (C : Cx Γ p l s m args meth c cc own nL) {v0 v1 v2 v3 v4 v5 v6 v7 v8 : Option Value} {x : Nat} {w : Option Value} {T : List (Option Value)} (ho : okp v8 = true) (d : Dx cc pc (.astore 9) 2 pc') (kk : J Γ p l e R s m args below meth c Q n ce sl pc' (v0 :: v1 :: v2 :: v3 :: v4 :: v5 :: v6 :: v7 :: v8 :: some (.ref x) :: T) S ω κ) : J Γ p l e R s m args below meth c Q n ce sl pc (v0 :: v1 :: v2 :: v3 :: v4 :: v5 :: v6 :: v7 :: v8 :: w :: T) (.ref x :: S) ω κ := by
  intro H locs ls hP hS hl
  obtain ⟨hd, rfl⟩ := d
  refine lv_astore C.1 C.2.1 hd hl.has (show 9 < _ by simp) rfl (fun ls2 h2 => kk H locs ls2 hP hS (lk.set (L := (v0 :: v1 :: v2 :: v3 :: v4 :: v5 :: v6 :: v7 :: v8 :: w :: T)) (i := 9) (by simp) (Or.inr ho) h2))
theorem j_astore9N (C : Cx Γ p l s m args meth c cc own nL) {v0 v1 v2 v3 v4 v5 v6 v7 v8 : Option Value}  {w : Option Value} {T : List (Option Value)} (ho : okp v8 = true) (d : Dx cc pc (.astore 9) 2 pc') (kk : J Γ p l e R s m args below meth c Q n ce sl pc' (v0 :: v1 :: v2 :: v3 :: v4 :: v5 :: v6 :: v7 :: v8 :: some (.null) :: T) S ω κ) : J Γ p l e R s m args below meth c Q n ce sl pc (v0 :: v1 :: v2 :: v3 :: v4 :: v5 :: v6 :: v7 :: v8 :: w :: T) (.null :: S) ω κ := by
  intro H locs ls hP hS hl
  obtain ⟨hd, rfl⟩ := d
  refine lv_astoreN C.1 C.2.1 hd hl.has (show 9 < _ by simp) rfl (fun ls2 h2 => kk H locs ls2 hP hS (lk.set (L := (v0 :: v1 :: v2 :: v3 :: v4 :: v5 :: v6 :: v7 :: v8 :: w :: T)) (i := 9) (by simp) (Or.inr ho) h2))
theorem j_iinc9 (C : Cx Γ p l s m args meth c cc own nL) {v0 v1 v2 v3 v4 v5 v6 v7 v8 : Option Value} {a z : Int} {T : List (Option Value)} (ho : okp v8 = true) (d : Dx cc pc (.iinc 9 z) 3 pc') (kk : J Γ p l e R s m args below meth c Q n ce sl pc' (v0 :: v1 :: v2 :: v3 :: v4 :: v5 :: v6 :: v7 :: v8 :: some (.int (iI (a + z))) :: T) S ω κ) : J Γ p l e R s m args below meth c Q n ce sl pc (v0 :: v1 :: v2 :: v3 :: v4 :: v5 :: v6 :: v7 :: v8 :: some (.int (iI a)) :: T) S ω κ := by
  intro H locs ls hP hS hl
  obtain ⟨hd, rfl⟩ := d
  obtain ⟨k, hk⟩ := List.getElem?_of_mem ((lz_mem (v0 :: v1 :: v2 :: v3 :: v4 :: v5 :: v6 :: v7 :: v8 :: some (.int (iI a)) :: T) 0 9 (.int (iI a))).mpr ⟨Nat.zero_le _, by simp⟩)
  exact lv_iinc C.1 C.2.1 hd hl.has hk (iI_add a z).symm (by simp) rfl (fun ls2 h2 => kk H locs ls2 hP hS (lk.set (L := (v0 :: v1 :: v2 :: v3 :: v4 :: v5 :: v6 :: v7 :: v8 :: some (.int (iI a)) :: T)) (i := 9) (by simp) (Or.inr ho) h2))
theorem j_iinc0n (C : Cx Γ p l s m args meth c cc own nL) {a : Nat} {T : List (Option Value)} (d : Dx cc pc (.iinc 0 1) 3 pc') (kk : J Γ p l e R s m args below meth c Q n ce sl pc' (some (.int (iI ((a + 1 : Nat) : Int))) :: T) S ω κ) : J Γ p l e R s m args below meth c Q n ce sl pc (some (.int (iI (a : Int))) :: T) S ω κ := by
  intro H locs ls hP hS hl
  obtain ⟨hd, rfl⟩ := d
  exact j_iinc0 C ⟨hd, rfl⟩ kk H locs ls hP hS hl
theorem j_iinc1n (C : Cx Γ p l s m args meth c cc own nL) {v0 : Option Value} {a : Nat} {T : List (Option Value)} (ho : okp v0 = true) (d : Dx cc pc (.iinc 1 1) 3 pc') (kk : J Γ p l e R s m args below meth c Q n ce sl pc' (v0 :: some (.int (iI ((a + 1 : Nat) : Int))) :: T) S ω κ) : J Γ p l e R s m args below meth c Q n ce sl pc (v0 :: some (.int (iI (a : Int))) :: T) S ω κ := by
  intro H locs ls hP hS hl
  obtain ⟨hd, rfl⟩ := d
  exact j_iinc1 C ho ⟨hd, rfl⟩ kk H locs ls hP hS hl
theorem j_iinc2n (C : Cx Γ p l s m args meth c cc own nL) {v0 v1 : Option Value} {a : Nat} {T : List (Option Value)} (ho : okp v1 = true) (d : Dx cc pc (.iinc 2 1) 3 pc') (kk : J Γ p l e R s m args below meth c Q n ce sl pc' (v0 :: v1 :: some (.int (iI ((a + 1 : Nat) : Int))) :: T) S ω κ) : J Γ p l e R s m args below meth c Q n ce sl pc (v0 :: v1 :: some (.int (iI (a : Int))) :: T) S ω κ := by
  intro H locs ls hP hS hl
  obtain ⟨hd, rfl⟩ := d
  exact j_iinc2 C ho ⟨hd, rfl⟩ kk H locs ls hP hS hl
theorem j_iinc3n (C : Cx Γ p l s m args meth c cc own nL) {v0 v1 v2 : Option Value} {a : Nat} {T : List (Option Value)} (ho : okp v2 = true) (d : Dx cc pc (.iinc 3 1) 3 pc') (kk : J Γ p l e R s m args below meth c Q n ce sl pc' (v0 :: v1 :: v2 :: some (.int (iI ((a + 1 : Nat) : Int))) :: T) S ω κ) : J Γ p l e R s m args below meth c Q n ce sl pc (v0 :: v1 :: v2 :: some (.int (iI (a : Int))) :: T) S ω κ := by
  intro H locs ls hP hS hl
  obtain ⟨hd, rfl⟩ := d
  exact j_iinc3 C ho ⟨hd, rfl⟩ kk H locs ls hP hS hl
theorem j_iinc4n (C : Cx Γ p l s m args meth c cc own nL) {v0 v1 v2 v3 : Option Value} {a : Nat} {T : List (Option Value)} (ho : okp v3 = true) (d : Dx cc pc (.iinc 4 1) 3 pc') (kk : J Γ p l e R s m args below meth c Q n ce sl pc' (v0 :: v1 :: v2 :: v3 :: some (.int (iI ((a + 1 : Nat) : Int))) :: T) S ω κ) : J Γ p l e R s m args below meth c Q n ce sl pc (v0 :: v1 :: v2 :: v3 :: some (.int (iI (a : Int))) :: T) S ω κ := by
  intro H locs ls hP hS hl
  obtain ⟨hd, rfl⟩ := d
  exact j_iinc4 C ho ⟨hd, rfl⟩ kk H locs ls hP hS hl
theorem j_iinc5n (C : Cx Γ p l s m args meth c cc own nL) {v0 v1 v2 v3 v4 : Option Value} {a : Nat} {T : List (Option Value)} (ho : okp v4 = true) (d : Dx cc pc (.iinc 5 1) 3 pc') (kk : J Γ p l e R s m args below meth c Q n ce sl pc' (v0 :: v1 :: v2 :: v3 :: v4 :: some (.int (iI ((a + 1 : Nat) : Int))) :: T) S ω κ) : J Γ p l e R s m args below meth c Q n ce sl pc (v0 :: v1 :: v2 :: v3 :: v4 :: some (.int (iI (a : Int))) :: T) S ω κ := by
  intro H locs ls hP hS hl
  obtain ⟨hd, rfl⟩ := d
  exact j_iinc5 C ho ⟨hd, rfl⟩ kk H locs ls hP hS hl
theorem j_iinc6n (C : Cx Γ p l s m args meth c cc own nL) {v0 v1 v2 v3 v4 v5 : Option Value} {a : Nat} {T : List (Option Value)} (ho : okp v5 = true) (d : Dx cc pc (.iinc 6 1) 3 pc') (kk : J Γ p l e R s m args below meth c Q n ce sl pc' (v0 :: v1 :: v2 :: v3 :: v4 :: v5 :: some (.int (iI ((a + 1 : Nat) : Int))) :: T) S ω κ) : J Γ p l e R s m args below meth c Q n ce sl pc (v0 :: v1 :: v2 :: v3 :: v4 :: v5 :: some (.int (iI (a : Int))) :: T) S ω κ := by
  intro H locs ls hP hS hl
  obtain ⟨hd, rfl⟩ := d
  exact j_iinc6 C ho ⟨hd, rfl⟩ kk H locs ls hP hS hl
theorem j_iinc7n (C : Cx Γ p l s m args meth c cc own nL) {v0 v1 v2 v3 v4 v5 v6 : Option Value} {a : Nat} {T : List (Option Value)} (ho : okp v6 = true) (d : Dx cc pc (.iinc 7 1) 3 pc') (kk : J Γ p l e R s m args below meth c Q n ce sl pc' (v0 :: v1 :: v2 :: v3 :: v4 :: v5 :: v6 :: some (.int (iI ((a + 1 : Nat) : Int))) :: T) S ω κ) : J Γ p l e R s m args below meth c Q n ce sl pc (v0 :: v1 :: v2 :: v3 :: v4 :: v5 :: v6 :: some (.int (iI (a : Int))) :: T) S ω κ := by
  intro H locs ls hP hS hl
  obtain ⟨hd, rfl⟩ := d
  exact j_iinc7 C ho ⟨hd, rfl⟩ kk H locs ls hP hS hl
theorem j_iinc8n (C : Cx Γ p l s m args meth c cc own nL) {v0 v1 v2 v3 v4 v5 v6 v7 : Option Value} {a : Nat} {T : List (Option Value)} (ho : okp v7 = true) (d : Dx cc pc (.iinc 8 1) 3 pc') (kk : J Γ p l e R s m args below meth c Q n ce sl pc' (v0 :: v1 :: v2 :: v3 :: v4 :: v5 :: v6 :: v7 :: some (.int (iI ((a + 1 : Nat) : Int))) :: T) S ω κ) : J Γ p l e R s m args below meth c Q n ce sl pc (v0 :: v1 :: v2 :: v3 :: v4 :: v5 :: v6 :: v7 :: some (.int (iI (a : Int))) :: T) S ω κ := by
  intro H locs ls hP hS hl
  obtain ⟨hd, rfl⟩ := d
  exact j_iinc8 C ho ⟨hd, rfl⟩ kk H locs ls hP hS hl
theorem j_iinc9n (C : Cx Γ p l s m args meth c cc own nL) {v0 v1 v2 v3 v4 v5 v6 v7 v8 : Option Value} {a : Nat} {T : List (Option Value)} (ho : okp v8 = true) (d : Dx cc pc (.iinc 9 1) 3 pc') (kk : J Γ p l e R s m args below meth c Q n ce sl pc' (v0 :: v1 :: v2 :: v3 :: v4 :: v5 :: v6 :: v7 :: v8 :: some (.int (iI ((a + 1 : Nat) : Int))) :: T) S ω κ) : J Γ p l e R s m args below meth c Q n ce sl pc (v0 :: v1 :: v2 :: v3 :: v4 :: v5 :: v6 :: v7 :: v8 :: some (.int (iI (a : Int))) :: T) S ω κ := by
  intro H locs ls hP hS hl
  obtain ⟨hd, rfl⟩ := d
  exact j_iinc9 C ho ⟨hd, rfl⟩ kk H locs ls hP hS hl
theorem j_goto (C : Cx Γ p l s m args meth c cc own nL) {tgt : Nat}  (d : Dc cc pc (fun o => .goto o) tgt pc') (kk : J Γ p l e R s m args below meth c Q n ce sl tgt L S ω κ) : J Γ p l e R s m args below meth c Q n ce sl pc L S ω κ := by
  intro H locs ls hP hS hl
  obtain ⟨off, hd, ht, rfl⟩ := d
  exact lv_goto C.1 C.2.1 hd ht (kk H locs ls hP hS hl)
theorem j_icmp_eq (C : Cx Γ p l s m args meth c cc own nL) {tgt : Nat} {a b : Int} (ha : Rg a) (hb : Rg b) (d : Dc cc pc (fun o => .if_icmp .eq o) tgt pc') (kt : a = b → J Γ p l e R s m args below meth c Q n ce sl tgt L S ω κ) (kf : a ≠ b → J Γ p l e R s m args below meth c Q n ce sl pc' L S ω κ) : J Γ p l e R s m args below meth c Q n ce sl pc L (.int (iI b) :: .int (iI a) :: S) ω κ := by
  intro H locs ls hP hS hl
  obtain ⟨off, hd, ht, rfl⟩ := d
  exact lv_icmp_eq C.1 C.2.1 hd ht (fun q => kt ((iI_eq ha hb).mp q) H locs ls hP hS hl) (fun q => kf (fun r => q ((iI_eq ha hb).mpr r)) H locs ls hP hS hl)
theorem j_if_eq (C : Cx Γ p l s m args meth c cc own nL) {tgt : Nat} {a : Int} (ha : Rg a) (d : Dc cc pc (fun o => .ifCond .eq o) tgt pc') (kt : a = 0 → J Γ p l e R s m args below meth c Q n ce sl tgt L S ω κ) (kf : a ≠ 0 → J Γ p l e R s m args below meth c Q n ce sl pc' L S ω κ) : J Γ p l e R s m args below meth c Q n ce sl pc L (.int (iI a) :: S) ω κ := by
  intro H locs ls hP hS hl
  obtain ⟨off, hd, ht, rfl⟩ := d
  have hb : Rg 0 := by decide
  have e0 : iI 0 = 0 := rfl
  exact lv_if_eq C.1 C.2.1 hd ht (fun q => kt ((iI_eq ha hb).mp q) H locs ls hP hS hl) (fun q => kf (fun r => q ((iI_eq ha hb).mpr r)) H locs ls hP hS hl)
theorem j_icmp_ne (C : Cx Γ p l s m args meth c cc own nL) {tgt : Nat} {a b : Int} (ha : Rg a) (hb : Rg b) (d : Dc cc pc (fun o => .if_icmp .ne o) tgt pc') (kt : a ≠ b → J Γ p l e R s m args below meth c Q n ce sl tgt L S ω κ) (kf : a = b → J Γ p l e R s m args below meth c Q n ce sl pc' L S ω κ) : J Γ p l e R s m args below meth c Q n ce sl pc L (.int (iI b) :: .int (iI a) :: S) ω κ := by
  intro H locs ls hP hS hl
  obtain ⟨off, hd, ht, rfl⟩ := d
  exact lv_icmp_ne C.1 C.2.1 hd ht (fun q => kt (fun r => q ((iI_eq ha hb).mpr r)) H locs ls hP hS hl) (fun q => kf ((iI_eq ha hb).mp q) H locs ls hP hS hl)
theorem j_if_ne (C : Cx Γ p l s m args meth c cc own nL) {tgt : Nat} {a : Int} (ha : Rg a) (d : Dc cc pc (fun o => .ifCond .ne o) tgt pc') (kt : a ≠ 0 → J Γ p l e R s m args below meth c Q n ce sl tgt L S ω κ) (kf : a = 0 → J Γ p l e R s m args below meth c Q n ce sl pc' L S ω κ) : J Γ p l e R s m args below meth c Q n ce sl pc L (.int (iI a) :: S) ω κ := by
  intro H locs ls hP hS hl
  obtain ⟨off, hd, ht, rfl⟩ := d
  have hb : Rg 0 := by decide
  have e0 : iI 0 = 0 := rfl
  exact lv_if_ne C.1 C.2.1 hd ht (fun q => kt (fun r => q ((iI_eq ha hb).mpr r)) H locs ls hP hS hl) (fun q => kf ((iI_eq ha hb).mp q) H locs ls hP hS hl)
theorem j_icmp_lt (C : Cx Γ p l s m args meth c cc own nL) {tgt : Nat} {a b : Int} (ha : Rg a) (hb : Rg b) (d : Dc cc pc (fun o => .if_icmp .lt o) tgt pc') (kt : a < b → J Γ p l e R s m args below meth c Q n ce sl tgt L S ω κ) (kf : b ≤ a → J Γ p l e R s m args below meth c Q n ce sl pc' L S ω κ) : J Γ p l e R s m args below meth c Q n ce sl pc L (.int (iI b) :: .int (iI a) :: S) ω κ := by
  intro H locs ls hP hS hl
  obtain ⟨off, hd, ht, rfl⟩ := d
  exact lv_icmp_lt C.1 C.2.1 hd ht (fun q => kt ((iI_lt ha hb).mp q) H locs ls hP hS hl) (fun q => kf (Int.not_lt.mp (fun r => q ((iI_lt ha hb).mpr r))) H locs ls hP hS hl)
theorem j_if_lt (C : Cx Γ p l s m args meth c cc own nL) {tgt : Nat} {a : Int} (ha : Rg a) (d : Dc cc pc (fun o => .ifCond .lt o) tgt pc') (kt : a < 0 → J Γ p l e R s m args below meth c Q n ce sl tgt L S ω κ) (kf : 0 ≤ a → J Γ p l e R s m args below meth c Q n ce sl pc' L S ω κ) : J Γ p l e R s m args below meth c Q n ce sl pc L (.int (iI a) :: S) ω κ := by
  intro H locs ls hP hS hl
  obtain ⟨off, hd, ht, rfl⟩ := d
  have hb : Rg 0 := by decide
  have e0 : iI 0 = 0 := rfl
  exact lv_if_lt C.1 C.2.1 hd ht (fun q => kt ((iI_lt ha hb).mp q) H locs ls hP hS hl) (fun q => kf (Int.not_lt.mp (fun r => q ((iI_lt ha hb).mpr r))) H locs ls hP hS hl)
theorem j_icmp_ge (C : Cx Γ p l s m args meth c cc own nL) {tgt : Nat} {a b : Int} (ha : Rg a) (hb : Rg b) (d : Dc cc pc (fun o => .if_icmp .ge o) tgt pc') (kt : b ≤ a → J Γ p l e R s m args below meth c Q n ce sl tgt L S ω κ) (kf : a < b → J Γ p l e R s m args below meth c Q n ce sl pc' L S ω κ) : J Γ p l e R s m args below meth c Q n ce sl pc L (.int (iI b) :: .int (iI a) :: S) ω κ := by
  intro H locs ls hP hS hl
  obtain ⟨off, hd, ht, rfl⟩ := d
  exact lv_icmp_ge C.1 C.2.1 hd ht (fun q => kt ((iI_le hb ha).mp q) H locs ls hP hS hl) (fun q => kf (Int.not_le.mp (fun r => q ((iI_le hb ha).mpr r))) H locs ls hP hS hl)
theorem j_if_ge (C : Cx Γ p l s m args meth c cc own nL) {tgt : Nat} {a : Int} (ha : Rg a) (d : Dc cc pc (fun o => .ifCond .ge o) tgt pc') (kt : 0 ≤ a → J Γ p l e R s m args below meth c Q n ce sl tgt L S ω κ) (kf : a < 0 → J Γ p l e R s m args below meth c Q n ce sl pc' L S ω κ) : J Γ p l e R s m args below meth c Q n ce sl pc L (.int (iI a) :: S) ω κ := by
  intro H locs ls hP hS hl
  obtain ⟨off, hd, ht, rfl⟩ := d
  have hb : Rg 0 := by decide
  have e0 : iI 0 = 0 := rfl
  exact lv_if_ge C.1 C.2.1 hd ht (fun q => kt ((iI_le hb ha).mp q) H locs ls hP hS hl) (fun q => kf (Int.not_le.mp (fun r => q ((iI_le hb ha).mpr r))) H locs ls hP hS hl)
theorem j_icmp_gt (C : Cx Γ p l s m args meth c cc own nL) {tgt : Nat} {a b : Int} (ha : Rg a) (hb : Rg b) (d : Dc cc pc (fun o => .if_icmp .gt o) tgt pc') (kt : b < a → J Γ p l e R s m args below meth c Q n ce sl tgt L S ω κ) (kf : a ≤ b → J Γ p l e R s m args below meth c Q n ce sl pc' L S ω κ) : J Γ p l e R s m args below meth c Q n ce sl pc L (.int (iI b) :: .int (iI a) :: S) ω κ := by
  intro H locs ls hP hS hl
  obtain ⟨off, hd, ht, rfl⟩ := d
  exact lv_icmp_gt C.1 C.2.1 hd ht (fun q => kt ((iI_lt hb ha).mp q) H locs ls hP hS hl) (fun q => kf (Int.not_lt.mp (fun r => q ((iI_lt hb ha).mpr r))) H locs ls hP hS hl)
theorem j_if_gt (C : Cx Γ p l s m args meth c cc own nL) {tgt : Nat} {a : Int} (ha : Rg a) (d : Dc cc pc (fun o => .ifCond .gt o) tgt pc') (kt : 0 < a → J Γ p l e R s m args below meth c Q n ce sl tgt L S ω κ) (kf : a ≤ 0 → J Γ p l e R s m args below meth c Q n ce sl pc' L S ω κ) : J Γ p l e R s m args below meth c Q n ce sl pc L (.int (iI a) :: S) ω κ := by
  intro H locs ls hP hS hl
  obtain ⟨off, hd, ht, rfl⟩ := d
  have hb : Rg 0 := by decide
  have e0 : iI 0 = 0 := rfl
  exact lv_if_gt C.1 C.2.1 hd ht (fun q => kt ((iI_lt hb ha).mp q) H locs ls hP hS hl) (fun q => kf (Int.not_lt.mp (fun r => q ((iI_lt hb ha).mpr r))) H locs ls hP hS hl)
theorem j_icmp_le (C : Cx Γ p l s m args meth c cc own nL) {tgt : Nat} {a b : Int} (ha : Rg a) (hb : Rg b) (d : Dc cc pc (fun o => .if_icmp .le o) tgt pc') (kt : a ≤ b → J Γ p l e R s m args below meth c Q n ce sl tgt L S ω κ) (kf : b < a → J Γ p l e R s m args below meth c Q n ce sl pc' L S ω κ) : J Γ p l e R s m args below meth c Q n ce sl pc L (.int (iI b) :: .int (iI a) :: S) ω κ := by
  intro H locs ls hP hS hl
  obtain ⟨off, hd, ht, rfl⟩ := d
  exact lv_icmp_le C.1 C.2.1 hd ht (fun q => kt ((iI_le ha hb).mp q) H locs ls hP hS hl) (fun q => kf (Int.not_le.mp (fun r => q ((iI_le ha hb).mpr r))) H locs ls hP hS hl)
theorem j_if_le (C : Cx Γ p l s m args meth c cc own nL) {tgt : Nat} {a : Int} (ha : Rg a) (d : Dc cc pc (fun o => .ifCond .le o) tgt pc') (kt : a ≤ 0 → J Γ p l e R s m args below meth c Q n ce sl tgt L S ω κ) (kf : 0 < a → J Γ p l e R s m args below meth c Q n ce sl pc' L S ω κ) : J Γ p l e R s m args below meth c Q n ce sl pc L (.int (iI a) :: S) ω κ := by
  intro H locs ls hP hS hl
  obtain ⟨off, hd, ht, rfl⟩ := d
  have hb : Rg 0 := by decide
  have e0 : iI 0 = 0 := rfl
  exact lv_if_le C.1 C.2.1 hd ht (fun q => kt ((iI_le ha hb).mp q) H locs ls hP hS hl) (fun q => kf (Int.not_le.mp (fun r => q ((iI_le ha hb).mpr r))) H locs ls hP hS hl)
def bI (P : Prop) [Decidable P] : Int := if P then 1 else 0
theorem bI_t {P : Prop} [Decidable P] (h : P) : bI P = 1 := if_pos h
theorem bI_f {P : Prop} [Decidable P] (h : ¬ P) : bI P = 0 := if_neg h
theorem bI_rg (P : Prop) [Decidable P] : Rg (bI P) := by unfold bI; split <;> decide
theorem j_ifeqb (C : Cx Γ p l s m args meth c cc own nL) {tgt : Nat} {P : Prop} [Decidable P] (d : Dc cc pc (fun o => .ifCond .eq o) tgt pc') (kt : P → J Γ p l e R s m args below meth c Q n ce sl pc' L S ω κ) (kf : ¬ P → J Γ p l e R s m args below meth c Q n ce sl tgt L S ω κ) : J Γ p l e R s m args below meth c Q n ce sl pc L (.int (iI (bI P)) :: S) ω κ := by
  intro H locs ls hP hS hl
  obtain ⟨off, hd, ht, rfl⟩ := d
  exact j_if_eq C (bI_rg P) ⟨off, hd, ht, rfl⟩ (fun q => kf (fun h => by rw [bI_t h] at q; cases q)) (fun q => kt (Decidable.byContradiction fun h => q (bI_f h))) H locs ls hP hS hl
theorem j_ifneb (C : Cx Γ p l s m args meth c cc own nL) {tgt : Nat} {P : Prop} [Decidable P] (d : Dc cc pc (fun o => .ifCond .ne o) tgt pc') (kt : P → J Γ p l e R s m args below meth c Q n ce sl tgt L S ω κ) (kf : ¬ P → J Γ p l e R s m args below meth c Q n ce sl pc' L S ω κ) : J Γ p l e R s m args below meth c Q n ce sl pc L (.int (iI (bI P)) :: S) ω κ := by
  intro H locs ls hP hS hl
  obtain ⟨off, hd, ht, rfl⟩ := d
  exact j_if_ne C (bI_rg P) ⟨off, hd, ht, rfl⟩ (fun q => kt (Decidable.byContradiction fun h => q (bI_f h))) (fun q => kf (fun h => by rw [bI_t h] at q; cases q)) H locs ls hP hS hl
theorem j_ifnonnull (C : Cx Γ p l s m args meth c cc own nL) {tgt : Nat} {x : Nat} (d : Dc cc pc (fun o => .ifnonnull o) tgt pc') (kk : J Γ p l e R s m args below meth c Q n ce sl tgt L S ω κ) : J Γ p l e R s m args below meth c Q n ce sl pc L (.ref x :: S) ω κ := by
  intro H locs ls hP hS hl
  obtain ⟨off, hd, ht, rfl⟩ := d
  exact lv_ifnonnull C.1 C.2.1 hd ht (kk H locs ls hP hS hl)
theorem j_ifnonnullN (C : Cx Γ p l s m args meth c cc own nL) {tgt : Nat}  (d : Dc cc pc (fun o => .ifnonnull o) tgt pc') (kk : J Γ p l e R s m args below meth c Q n ce sl pc' L S ω κ) : J Γ p l e R s m args below meth c Q n ce sl pc L (.null :: S) ω κ := by
  intro H locs ls hP hS hl
  obtain ⟨off, hd, ht, rfl⟩ := d
  exact lv_ifnonnullN C.1 C.2.1 hd (kk H locs ls hP hS hl)
end ROWS
