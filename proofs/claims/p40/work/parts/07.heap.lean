/-! rows that touch the heap -/
def wi (ω : Wo) (a k : Nat) (v : Int) : Wo := (fun x y => if x = a then (if y = k then v else ω.1 x y) else ω.1 x y, ω.2)
def wr (ω : Wo) (a k : Nat) (v : Option Nat) : Wo := (ω.1, fun x y => if x = a then (if y = k then v else ω.2.1 x y) else ω.2.1 x y, ω.2.2)
theorem WE_ne {Γ : Ga} {ω ω' : Wo} {x : Nat} {κ : Nat → Nat} (h1 : ω'.1 x = ω.1 x) (h2 : ω'.2.1 x = ω.2.1 x) (h3 : κ x ≠ 24 ∨ ω'.2.2 = ω.2.2) : WE Γ ω' x κ = WE Γ ω x κ := by
  unfold WE EK EO EI ER
  have e1 : fv Γ ω' (κ x) x = fv Γ ω (κ x) x := by funext i; unfold fv; rw [h1, h2]
  rw [e1, h1, h2]
  split
  · rfl
  · split
    · rfl
    · split
      · rfl
      · split
        · rename_i h; rcases h3 with h3 | h3
          · exact absurd h h3
          · rw [h3]
        · rfl
theorem RN.put {ω : Wo} {a k b : Nat} (h : RN ω) (hb : a < 243 → b < 243 ∨ 1000 ≤ b) : RN (wr ω a k (some b)) := by
  intro x hx i c hc
  by_cases e : x = a
  · subst e
    by_cases e2 : i = k
    · subst e2
      have : (wr ω x i (some b)).2.1 x i = some b := by simp [wr]
      rw [this] at hc
      exact Option.some.inj hc ▸ hb hx
    · have : (wr ω x k (some b)).2.1 x i = ω.2.1 x i := by simp [wr, e2]
      rw [this] at hc; exact h x hx i c hc
  · have : (wr ω a k (some b)).2.1 x i = ω.2.1 x i := by simp [wr, e]
    rw [this] at hc; exact h x hx i c hc
/-- a is a cell of kind kk among the first n -/
def At (n a kk : Nat) (κ : Nat → Nat := kd) : Prop := a < n ∧ a < 1000 ∧ κ a = kk
def Fk (own : String) (idx kk k : Nat) : Prop := ∃ (Cn : String) (T : u_T) (ty : Nat → FieldType), clss[kk]? = some (Cn, T, nf kk) ∧ k < nf kk ∧ (∀ w ∈ u_ws Cn T (nf kk), w ∈ WS) ∧ Cond.fieldLink own idx Cn (T k).2.1 (T k).2.2.1 ∈ WS ∧ (T k).1 = Cn ∧
  (∀ k, k < nf kk → parseFieldDescriptor (T k).2.2.1 = some (ty k)) ∧ (∀ a, a < nf kk → ∀ b, b < nf kk → a ≠ b → (T a).2.1 ≠ (T b).2.1)
def Fty (kk k : Nat) (ty : FieldType) (fin : Bool) : Prop := ∃ q : vw_C, clss[kk]? = some q ∧ parseFieldDescriptor (q.2.1 k).2.2.1 = some ty ∧ (q.2.1 k).2.2.2 = fin
theorem fv_get {Γ : Ga} {ω : Wo} {kk a k : Nat} (h : k < nf kk) : ((List.range (nf kk)).map (fv Γ ω kk a))[k]? = some (fv Γ ω kk a k) := by simp [h]
theorem WE_obj {Γ : Ga} {ω : Wo} {a kk : Nat} {κ : Nat → Nat} (h : κ a = kk) (hk : kk < 9) : WE Γ ω a κ = .inr (kk, (List.range (nf kk)).map (fv Γ ω kk a)) := by
  unfold WE EK; rw [h, if_pos hk]; rfl
theorem Fk.lt {own : String} {idx kk k : Nat} (F : Fk own idx kk k) : kk < 9 := by
  obtain ⟨Cn, T, ty, h, -⟩ := F
  exact (List.getElem?_eq_some_iff.mp h).1
section HEAP
variable {κ : Nat → Nat} {Γ : Ga} {p : Program} {l : Launch} {e : Env} {R : Room} {s : State} {m : MethodId} {args : Array Value} {below : List Frame} {meth : Method} {c : Code} {Q : State → Prop} {n ce sl : Nat} {cc : ByteArray} {own : String} {nL pc pc' idx a kk k : Nat} {L : List (Option Value)} {S : List Value} {ω : Wo}
theorem j_get (C : Cx Γ p l s m args meth c cc own nL) (F : Fk own idx kk k) (ha : At n a kk κ) (d : Dx cc pc (.getfield idx) 3 pc') (kx : J Γ p l e R s m args below meth c Q n ce sl pc' L (fv Γ ω kk a k :: S) ω κ) : J Γ p l e R s m args below meth c Q n ce sl pc L (.ref (rl Γ a) :: S) ω κ := by
  intro H locs ls hP hS hl
  have hlt := F.lt
  obtain ⟨Cn, T, ty, hc, hk, hin, hlink, hsame, -, -⟩ := F
  obtain ⟨hd, rfl⟩ := d
  have he : (WL Γ n ω κ)[a]? = some (rl Γ a, .inr (kk, (List.range (nf kk)).map (fv Γ ω kk a))) := by rw [WL_get ha.1, WE_obj ha.2.2 hlt]
  exact va_get C.1 C.2.1 C.2.2.2.2.1 hin C.2.2.2.1 C.2.2.2.2.2.1.1 hP.1 a he hc k hk (C.2.2.2.2.1 _ hlink) (fun x h => by rw [← hsame]; exact h) (fv_get hk) hd (kx H locs ls hP hS hl)
theorem j_geti (C : Cx Γ p l s m args meth c cc own nL) (F : Fk own idx kk k) (ha : At n a kk κ) (hr : rfm kk k = false) {v : Int} (he : ω.1 a k = v) (d : Dx cc pc (.getfield idx) 3 pc') (kx : Rg v → J Γ p l e R s m args below meth c Q n ce sl pc' L (.int (iI v) :: S) ω κ) : J Γ p l e R s m args below meth c Q n ce sl pc L (.ref (rl Γ a) :: S) ω κ := by
  intro H locs ls hP hS hl
  refine j_get C F ha d ?_ H locs ls hP hS hl
  have : fv Γ ω kk a k = .int (iI v) := by unfold fv; rw [hr, he]; rfl
  rw [this]
  exact kx (he ▸ hP.2.1 a k)
theorem j_getr (C : Cx Γ p l s m args meth c cc own nL) (F : Fk own idx kk k) (ha : At n a kk κ) (hr : rfm kk k = true) {b : Nat} (he : ω.2.1 a k = some b) (d : Dx cc pc (.getfield idx) 3 pc') (kx : J Γ p l e R s m args below meth c Q n ce sl pc' L (.ref (rl Γ b) :: S) ω κ) : J Γ p l e R s m args below meth c Q n ce sl pc L (.ref (rl Γ a) :: S) ω κ := by
  refine j_get C F ha d ?_
  have : fv Γ ω kk a k = .ref (rl Γ b) := by unfold fv; rw [hr, he]; rfl
  rw [this]
  exact kx
theorem fv_set_i {Γ : Ga} {ω : Wo} {kk a k : Nat} {v : Int} (hk : k < nf kk) (hr : rfm kk k = false) : ((List.range (nf kk)).map (fv Γ ω kk a)).set k (.int (iI v)) = (List.range (nf kk)).map (fv Γ (wi ω a k v) kk a) := by
  apply List.ext_getElem?
  intro i
  rw [List.getElem?_set]
  by_cases hi : i < nf kk
  · by_cases e : k = i
    · subst e
      simp [hi, fv, hr, wi]
    · rw [if_neg e]
      have e2 : ¬ i = k := fun q => e q.symm
      simp [hi, fv, wi, e2]
  · have : ¬ k = i := by omega
    rw [if_neg this]
    simp [hi]
theorem fv_set_r {Γ : Ga} {ω : Wo} {kk a k : Nat} {v : Nat} (hk : k < nf kk) (hr : rfm kk k = true) : ((List.range (nf kk)).map (fv Γ ω kk a)).set k (.ref (rl Γ v)) = (List.range (nf kk)).map (fv Γ (wr ω a k (some v)) kk a) := by
  apply List.ext_getElem?
  intro i
  rw [List.getElem?_set]
  by_cases hi : i < nf kk
  · by_cases e : k = i
    · subst e
      simp [hi, fv, hr, wr, va_rf]
    · rw [if_neg e]
      have e2 : ¬ i = k := fun q => e q.symm
      simp [hi, fv, wr, e2]
  · have : ¬ k = i := by omega
    rw [if_neg this]
    simp [hi]
theorem wi_ne {ω : Wo} {a k x : Nat} {v : Int} (h : x ≠ a) : (wi ω a k v).1 x = ω.1 x := by funext y; simp [wi, h]
theorem wr_ne {ω : Wo} {a k x : Nat} {v : Option Nat} (h : x ≠ a) : (wr ω a k v).2.1 x = ω.2.1 x := by funext y; simp [wr, h]
theorem wi_rg {ω : Wo} {a k : Nat} {v : Int} (h : ∀ x y, Rg (ω.1 x y)) (hv : Rg v) : ∀ x y, Rg ((wi ω a k v).1 x y) := by
  intro x y
  show Rg (if x = a then (if y = k then v else ω.1 x y) else ω.1 x y)
  split
  · split
    · exact hv
    · exact h x y
  · exact h x y
theorem j_puti (C : Cx Γ p l s m args meth c cc own nL) (F : Fk own idx kk k) (ha : At n a kk κ) (hr : rfm kk k = false) {ty : FieldType} (hf : Fty kk k ty false) {v : Int} (hn : narrow ty (.int (iI v)) = .int (iI v)) (hfit : fits ty (.int (iI v)) = true) (hv : Rg v) (d : Dx cc pc (.putfield idx) 3 pc') (kx : J Γ p l e R s m args below meth c Q n ce sl pc' L S (wi ω a k v) κ) : J Γ p l e R s m args below meth c Q n ce sl pc L (.int (iI v) :: .ref (rl Γ a) :: S) ω κ := by
  intro H locs ls hP hS hl
  have hlt := F.lt
  obtain ⟨Cn, T, ty0, hc, hk, hin, hlink, hsame, hty, hnm⟩ := F
  obtain ⟨q, hq, hf1, hf2⟩ := hf
  cases Option.some.inj (hc.symm.trans hq)
  obtain ⟨hd, rfl⟩ := d
  have he : (WL Γ n ω κ)[a]? = some (rl Γ a, .inr (kk, (List.range (nf kk)).map (fv Γ ω kk a))) := by rw [WL_get ha.1, WE_obj ha.2.2 hlt]
  refine va_put C.1 C.2.1 C.2.2.2.2.1 hin ty0 hty hnm C.2.2.2.1 C.2.2.2.2.2.1.1 hP.1 hP.D hS a he hc k hk (C.2.2.2.2.1 _ hlink) (fun x h => by rw [← hsame]; exact h) hf2 hf1 hn hfit (by simp [hk]) hd fun H1 locs1 h1 _ h3 => ?_
  rw [WL_set (ω' := wi ω a k v) (by rw [WE_obj ha.2.2 hlt, fv_set_i hk hr]) (fun x hx => WE_ne (wi_ne hx) rfl (Or.inr rfl))] at h1
  exact kx H1 locs1 ls ⟨h1, wi_rg hP.2.1 hv, hP.2.2⟩ h3 hl
theorem j_putI (C : Cx Γ p l s m args meth c cc own nL) (F : Fk own idx kk k) (ha : At n a kk κ) (hr : rfm kk k = false) (hf : Fty kk k .int false) {v : Int} (hv : Rg v) (d : Dx cc pc (.putfield idx) 3 pc') (kx : J Γ p l e R s m args below meth c Q n ce sl pc' L S (wi ω a k v) κ) : J Γ p l e R s m args below meth c Q n ce sl pc L (.int (iI v) :: .ref (rl Γ a) :: S) ω κ :=
  j_puti C F ha hr hf rfl rfl hv d kx
theorem j_putB (C : Cx Γ p l s m args meth c cc own nL) (F : Fk own idx kk k) (ha : At n a kk κ) (hr : rfm kk k = false) (hf : Fty kk k .boolean false) {v : Int} (hv : v = 0 ∨ v = 1) (d : Dx cc pc (.putfield idx) 3 pc') (kx : J Γ p l e R s m args below meth c Q n ce sl pc' L S (wi ω a k v) κ) : J Γ p l e R s m args below meth c Q n ce sl pc L (.int (iI v) :: .ref (rl Γ a) :: S) ω κ :=
  j_puti C F ha hr hf (by rcases hv with rfl | rfl <;> rfl) (by rcases hv with rfl | rfl <;> rfl) (by rcases hv with rfl | rfl <;> decide) d kx
/-! arrays -/
def arrI (kk : Nat) : Bool := !(decide (kk < 9)) && !(isRk kk) && kk != 23 && kk != 24
theorem WE_int {Γ : Ga} {ω : Wo} {a kk : Nat} {κ : Nat → Nat} (h : κ a = kk) (hk : arrI kk = true) : WE Γ ω a κ = .inl (gC Γ (tyk kk), lnk kk, .inl fun j => iI (ω.1 a j)) := by
  simp only [arrI, Bool.and_eq_true, Bool.not_eq_true', decide_eq_false_iff_not, bne_iff_ne, ne_eq] at hk
  unfold WE EK EI; rw [h, if_neg hk.1.1.1, hk.1.1.2, if_neg (by decide), if_neg hk.1.2, if_neg hk.2]
theorem WE_ref {Γ : Ga} {ω : Wo} {a kk : Nat} {κ : Nat → Nat} (h : κ a = kk) (hk : isRk kk = true) : WE Γ ω a κ = .inl (gC Γ (tyk kk), lnk kk, .inr (.inr (.inr (.inr fun j => (ω.2.1 a j).map (rl Γ))))) := by
  have h9 : ¬ kk < 9 := by
    intro q
    have : ∀ z, z < 9 → isRk z = false := by decide
    rw [this kk q] at hk; cases hk
  unfold WE EK ER; rw [h, if_neg h9, if_pos hk]
theorem j_aldg {ty : FieldType} (C : Cx Γ p l s m args meth c cc own nL) (ha : At n a kk κ) (hk : arrI kk = true) (hty : (gT Γ)[tyk kk]? = some (gC Γ (tyk kk), ty)) {i : Int} {N : Nat} (hN : lnk kk = N) (hi : 0 ≤ i ∧ i < N) (hNs : N < 2147483648) {v : Int} (he : ω.1 a i.toNat = v)
    (hop : (ty = .int ∧ Dx cc pc (.iaload) 1 pc') ∨ (ty = .char ∧ Dx cc pc (.caload) 1 pc')) (kx : Rg v → J Γ p l e R s m args below meth c Q n ce sl pc' L (.int (iI v) :: S) ω κ) : J Γ p l e R s m args below meth c Q n ce sl pc L (.int (iI i) :: .ref (rl Γ a) :: S) ω κ := by
  intro H locs ls hP hS hl
  subst hN
  have hw : (WL Γ n ω κ)[a]? = some (rl Γ a, .inl (gC Γ (tyk kk), lnk kk, .inl fun j => iI (ω.1 a j))) := by rw [WL_get ha.1, WE_int ha.2.2 hk]
  have hin : vp_in (iI i) (lnk kk) := iI_in hi hNs
  have hcl : (iI i).toNatClampNeg = i.toNat := iI_cl ⟨hi.1, by omega⟩
  have hr := hP.2.1 a i.toNat
  rw [he] at hr
  have K := kx hr H locs ls hP hS hl
  rcases hop with ⟨rfl, hd, rfl⟩ | ⟨rfl, hd, rfl⟩
  · refine va_iald C.1 C.2.1 C.2.2.2.2.2.1.1 hP.1 a (tyk kk) hw hty hin hd ?_
    rw [hcl, he]; exact K
  · refine va_cald C.1 C.2.1 C.2.2.2.2.2.1.1 hP.1 a (tyk kk) hw hty hin hd ?_
    rw [hcl, he]; exact K
theorem j_iald (C : Cx Γ p l s m args meth c cc own nL) (ha : At n a kk κ) (hk : arrI kk = true ∧ tyk kk = 0) {i : Int} {N : Nat} (hN : lnk kk = N) (hNs : N < 2147483648) (hi : 0 ≤ i ∧ i < N) {v : Int} (he : ω.1 a i.toNat = v) (d : Dx cc pc (.iaload) 1 pc')
    (kx : Rg v → J Γ p l e R s m args below meth c Q n ce sl pc' L (.int (iI v) :: S) ω κ) : J Γ p l e R s m args below meth c Q n ce sl pc L (.int (iI i) :: .ref (rl Γ a) :: S) ω κ :=
  j_aldg C ha hk.1 (by rw [hk.2]; rfl) hN hi hNs he (Or.inl ⟨rfl, d⟩) kx
theorem j_cald (C : Cx Γ p l s m args meth c cc own nL) (ha : At n a 14 κ) {i : Int} (hi : 0 ≤ i ∧ i < 60) {v : Int} (he : ω.1 a i.toNat = v) (d : Dx cc pc (.caload) 1 pc')
    (kx : Rg v → J Γ p l e R s m args below meth c Q n ce sl pc' L (.int (iI v) :: S) ω κ) : J Γ p l e R s m args below meth c Q n ce sl pc L (.int (iI i) :: .ref (rl Γ a) :: S) ω κ :=
  j_aldg C ha rfl rfl (N := 60) rfl hi (by decide) he (Or.inr ⟨rfl, d⟩) kx
theorem EI_set {Γ : Ga} {ω : Wo} {a kk k : Nat} {v : Int} {κ : Nat → Nat} (h : κ a = kk) (hk : arrI kk = true) : WE Γ (wi ω a k v) a κ = .inl (gC Γ (tyk kk), lnk kk, .inl (upd (fun j => iI (ω.1 a j)) k (iI v))) := by
  rw [WE_int h hk]
  congr 4
  funext j
  by_cases e : j = k
  · simp [wi, upd, e]
  · simp [wi, upd, e]
theorem j_iast (C : Cx Γ p l s m args meth c cc own nL) (ha : At n a kk κ) (hk : arrI kk = true ∧ tyk kk = 0) {i : Int} {N : Nat} (hN : lnk kk = N) (hNs : N < 2147483648) (hi : 0 ≤ i ∧ i < N) {v : Int} (hv : Rg v) (d : Dx cc pc (.iastore) 1 pc')
    (kx : J Γ p l e R s m args below meth c Q n ce sl pc' L S (wi ω a i.toNat v) κ) : J Γ p l e R s m args below meth c Q n ce sl pc L (.int (iI v) :: .int (iI i) :: .ref (rl Γ a) :: S) ω κ := by
  intro H locs ls hP hS hl
  subst hN
  have hw : (WL Γ n ω κ)[a]? = some (rl Γ a, .inl (gC Γ (tyk kk), lnk kk, .inl fun j => iI (ω.1 a j))) := by rw [WL_get ha.1, WE_int ha.2.2 hk.1]
  have hin : vp_in (iI i) (lnk kk) := iI_in hi hNs
  have hcl : (iI i).toNatClampNeg = i.toNat := iI_cl ⟨hi.1, by omega⟩
  obtain ⟨hd, rfl⟩ := d
  refine va_iast C.1 C.2.1 C.2.2.2.2.2.1.1 hP.1 hP.D hS a (tyk kk) hw (by rw [hk.2]; rfl) hin hd fun H1 locs1 h1 _ h3 => ?_
  rw [WL_set (ω' := wi ω a i.toNat v) (by rw [EI_set ha.2.2 hk.1, hcl]) (fun x hx => WE_ne (wi_ne hx) rfl (Or.inr rfl))] at h1
  exact kx H1 locs1 ls ⟨h1, wi_rg hP.2.1 hv, hP.2.2⟩ h3 hl
theorem j_cast (C : Cx Γ p l s m args meth c cc own nL) (ha : At n a 14 κ) {i : Int} (hi : 0 ≤ i ∧ i < 60) {v : Int} (hv : 0 ≤ v ∧ v < 65536) (d : Dx cc pc (.castore) 1 pc')
    (kx : J Γ p l e R s m args below meth c Q n ce sl pc' L S (wi ω a i.toNat v) κ) : J Γ p l e R s m args below meth c Q n ce sl pc L (.int (iI v) :: .int (iI i) :: .ref (rl Γ a) :: S) ω κ := by
  intro H locs ls hP hS hl
  have hw : (WL Γ n ω κ)[a]? = some (rl Γ a, .inl (gC Γ (tyk 14), lnk 14, .inl fun j => iI (ω.1 a j))) := by rw [WL_get ha.1, WE_int ha.2.2 rfl]
  have hin : vp_in (iI i) (lnk 14) := iI_in hi (by decide)
  have hcl : (iI i).toNatClampNeg = i.toNat := iI_cl ⟨hi.1, by omega⟩
  obtain ⟨hd, rfl⟩ := d
  refine va_cast C.1 C.2.1 C.2.2.2.2.2.1.1 hP.1 hP.D hS a (tyk 14) hw rfl hin hd fun H1 locs1 h1 _ h3 => ?_
  have hnar : vp_nar .char (iI v) = iI v := by
    obtain ⟨q, rfl⟩ := Int.eq_ofNat_of_zero_le hv.1
    rw [iI_nat]
    have := (pk_charN (q := q) (by omega)).1
    unfold vp_nar; rw [this]
  rw [hnar, WL_set (ω' := wi ω a i.toNat v) (by rw [EI_set ha.2.2 rfl, hcl]) (fun x hx => WE_ne (wi_ne hx) rfl (Or.inr rfl))] at h1
  exact kx H1 locs1 ls ⟨h1, wi_rg hP.2.1 ⟨by omega, by omega⟩, hP.2.2⟩ h3 hl
theorem j_aald (C : Cx Γ p l s m args meth c cc own nL) (ha : At n a kk κ) (hk : isRk kk = true) {Cn : String} (hty : (gT Γ)[tyk kk]? = some (gC Γ (tyk kk), .object Cn)) {i : Int} {N : Nat} (hN : lnk kk = N) (hNs : N < 2147483648) (hi : 0 ≤ i ∧ i < N) {b : Nat} (he : ω.2.1 a i.toNat = some b) (d : Dx cc pc (.aaload) 1 pc')
    (kx : J Γ p l e R s m args below meth c Q n ce sl pc' L (.ref (rl Γ b) :: S) ω κ) : J Γ p l e R s m args below meth c Q n ce sl pc L (.int (iI i) :: .ref (rl Γ a) :: S) ω κ := by
  intro H locs ls hP hS hl
  subst hN
  have hw : (WL Γ n ω κ)[a]? = some (rl Γ a, .inl (gC Γ (tyk kk), lnk kk, .inr (.inr (.inr (.inr fun j => (ω.2.1 a j).map (rl Γ)))))) := by rw [WL_get ha.1, WE_ref ha.2.2 hk]
  have hin : vp_in (iI i) (lnk kk) := iI_in hi hNs
  have hcl : (iI i).toNatClampNeg = i.toNat := iI_cl ⟨hi.1, by omega⟩
  obtain ⟨hd, rfl⟩ := d
  refine va_aldq C.1 C.2.1 C.2.2.2.2.2.1.1 hP.1 a (tyk kk) hw hty hin hd ?_
  rw [hcl, he]
  exact kx H locs ls hP hS hl
theorem j_aast (C : Cx Γ p l s m args meth c cc own nL) (ha : At n a kk κ) (hk : isRk kk = true) {r : vw_C} {kb b : Nat} (hc : clss[kb]? = some r) (hty : (gT Γ)[tyk kk]? = some (gC Γ (tyk kk), .object r.1)) (hb : At n b kb κ) {i : Int} {N : Nat} (hN : lnk kk = N) (hNs : N < 2147483648) (hi : 0 ≤ i ∧ i < N) (d : Dx cc pc (.aastore) 1 pc')
    (kx : J Γ p l e R s m args below meth c Q n ce sl pc' L S (wr ω a i.toNat (some b)) κ) (hn9 : n ≤ 243 := by omega) : J Γ p l e R s m args below meth c Q n ce sl pc L (.ref (rl Γ b) :: .int (iI i) :: .ref (rl Γ a) :: S) ω κ := by
  intro H locs ls hP hS hl
  have h9 : kb < 9 := (List.getElem?_eq_some_iff.mp hc).1
  subst hN
  have hw : (WL Γ n ω κ)[a]? = some (rl Γ a, .inl (gC Γ (tyk kk), lnk kk, .inr (.inr (.inr (.inr fun j => (ω.2.1 a j).map (rl Γ)))))) := by rw [WL_get ha.1, WE_ref ha.2.2 hk]
  have hw2 : (WL Γ n ω κ)[b]? = some (rl Γ b, .inr (kb, (List.range (nf kb)).map (fv Γ ω kb b))) := by rw [WL_get hb.1, WE_obj hb.2.2 h9]
  have hin : vp_in (iI i) (lnk kk) := iI_in hi hNs
  have hcl : (iI i).toNatClampNeg = i.toNat := iI_cl ⟨hi.1, by omega⟩
  obtain ⟨hd, rfl⟩ := d
  refine va_astq C.1 C.2.1 C.2.2.2.2.2.1.1 hP.1 hP.D hS a (tyk kk) b kb hw hty hw2 hc hin hd fun H1 locs1 h1 _ h3 => ?_
  rw [WL_set (ω := ω) (ω' := wr ω a i.toNat (some b)) (by
    rw [WE_ref ha.2.2 hk, hcl]; congr 7
    funext j
    by_cases e : j = i.toNat
    · simp [wr, va_up, e]
    · simp [wr, va_up, e]) (fun x hx => WE_ne rfl (wr_ne hx) (Or.inr rfl))] at h1
  exact kx H1 locs1 ls ⟨h1, hP.2.1, hP.2.2.1, hP.2.2.2.put (fun _ => Or.inl (by have := hb.1; omega))⟩ h3 hl
end HEAP
