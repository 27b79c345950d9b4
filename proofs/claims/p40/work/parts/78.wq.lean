/-! the law's wrappers: what they answer, what they leave as it was -/
section LOC
variable {κ : Nat → Nat} {Γ : Ga} {p : Program} {l : Launch} {e : Env} {R : Room} {s : State} {m : MethodId} {args : Array Value} {below : List Frame} {meth : Method} {c : Code} {Q : State → Prop} {n ce sl : Nat} {cc : ByteArray} {own : String} {nL pc pc' : Nat} {L : List (Option Value)} {S : List Value} {ω : Wo}
theorem j_iload10 (C : Cx Γ p l s m args meth c cc own nL) {v0 v1 v2 v3 v4 v5 v6 v7 v8 v9 : Option Value} {x : Int32} {T : List (Option Value)} (d : Dx cc pc (.iload 10) 2 pc') (kk : J Γ p l e R s m args below meth c Q n ce sl pc' (v0 :: v1 :: v2 :: v3 :: v4 :: v5 :: v6 :: v7 :: v8 :: v9 :: some (.int x) :: T) (.int x :: S) ω κ) : J Γ p l e R s m args below meth c Q n ce sl pc (v0 :: v1 :: v2 :: v3 :: v4 :: v5 :: v6 :: v7 :: v8 :: v9 :: some (.int x) :: T) S ω κ := by
  intro H locs ls hP hS hl
  obtain ⟨hd, rfl⟩ := d
  exact lv_iload C.1 C.2.1 hd (hl.2.2 10 _ rfl) (kk H locs ls hP hS hl)
theorem j_iload11 (C : Cx Γ p l s m args meth c cc own nL) {v0 v1 v2 v3 v4 v5 v6 v7 v8 v9 v10 : Option Value} {x : Int32} {T : List (Option Value)} (d : Dx cc pc (.iload 11) 2 pc') (kk : J Γ p l e R s m args below meth c Q n ce sl pc' (v0 :: v1 :: v2 :: v3 :: v4 :: v5 :: v6 :: v7 :: v8 :: v9 :: v10 :: some (.int x) :: T) (.int x :: S) ω κ) : J Γ p l e R s m args below meth c Q n ce sl pc (v0 :: v1 :: v2 :: v3 :: v4 :: v5 :: v6 :: v7 :: v8 :: v9 :: v10 :: some (.int x) :: T) S ω κ := by
  intro H locs ls hP hS hl
  obtain ⟨hd, rfl⟩ := d
  exact lv_iload C.1 C.2.1 hd (hl.2.2 11 _ rfl) (kk H locs ls hP hS hl)
theorem j_iload12 (C : Cx Γ p l s m args meth c cc own nL) {v0 v1 v2 v3 v4 v5 v6 v7 v8 v9 v10 v11 : Option Value} {x : Int32} {T : List (Option Value)} (d : Dx cc pc (.iload 12) 2 pc') (kk : J Γ p l e R s m args below meth c Q n ce sl pc' (v0 :: v1 :: v2 :: v3 :: v4 :: v5 :: v6 :: v7 :: v8 :: v9 :: v10 :: v11 :: some (.int x) :: T) (.int x :: S) ω κ) : J Γ p l e R s m args below meth c Q n ce sl pc (v0 :: v1 :: v2 :: v3 :: v4 :: v5 :: v6 :: v7 :: v8 :: v9 :: v10 :: v11 :: some (.int x) :: T) S ω κ := by
  intro H locs ls hP hS hl
  obtain ⟨hd, rfl⟩ := d
  exact lv_iload C.1 C.2.1 hd (hl.2.2 12 _ rfl) (kk H locs ls hP hS hl)
theorem j_iload13 (C : Cx Γ p l s m args meth c cc own nL) {v0 v1 v2 v3 v4 v5 v6 v7 v8 v9 v10 v11 v12 : Option Value} {x : Int32} {T : List (Option Value)} (d : Dx cc pc (.iload 13) 2 pc') (kk : J Γ p l e R s m args below meth c Q n ce sl pc' (v0 :: v1 :: v2 :: v3 :: v4 :: v5 :: v6 :: v7 :: v8 :: v9 :: v10 :: v11 :: v12 :: some (.int x) :: T) (.int x :: S) ω κ) : J Γ p l e R s m args below meth c Q n ce sl pc (v0 :: v1 :: v2 :: v3 :: v4 :: v5 :: v6 :: v7 :: v8 :: v9 :: v10 :: v11 :: v12 :: some (.int x) :: T) S ω κ := by
  intro H locs ls hP hS hl
  obtain ⟨hd, rfl⟩ := d
  exact lv_iload C.1 C.2.1 hd (hl.2.2 13 _ rfl) (kk H locs ls hP hS hl)
theorem j_iload14 (C : Cx Γ p l s m args meth c cc own nL) {v0 v1 v2 v3 v4 v5 v6 v7 v8 v9 v10 v11 v12 v13 : Option Value} {x : Int32} {T : List (Option Value)} (d : Dx cc pc (.iload 14) 2 pc') (kk : J Γ p l e R s m args below meth c Q n ce sl pc' (v0 :: v1 :: v2 :: v3 :: v4 :: v5 :: v6 :: v7 :: v8 :: v9 :: v10 :: v11 :: v12 :: v13 :: some (.int x) :: T) (.int x :: S) ω κ) : J Γ p l e R s m args below meth c Q n ce sl pc (v0 :: v1 :: v2 :: v3 :: v4 :: v5 :: v6 :: v7 :: v8 :: v9 :: v10 :: v11 :: v12 :: v13 :: some (.int x) :: T) S ω κ := by
  intro H locs ls hP hS hl
  obtain ⟨hd, rfl⟩ := d
  exact lv_iload C.1 C.2.1 hd (hl.2.2 14 _ rfl) (kk H locs ls hP hS hl)
theorem j_istore10 (C : Cx Γ p l s m args meth c cc own nL) {v0 v1 v2 v3 v4 v5 v6 v7 v8 v9 : Option Value} {x : Int32} {w : Option Value} {T : List (Option Value)} (ho : okp v9 = true) (d : Dx cc pc (.istore 10) 2 pc') (kk : J Γ p l e R s m args below meth c Q n ce sl pc' (v0 :: v1 :: v2 :: v3 :: v4 :: v5 :: v6 :: v7 :: v8 :: v9 :: some (.int x) :: T) S ω κ) : J Γ p l e R s m args below meth c Q n ce sl pc (v0 :: v1 :: v2 :: v3 :: v4 :: v5 :: v6 :: v7 :: v8 :: v9 :: w :: T) (.int x :: S) ω κ := by
  intro H locs ls hP hS hl
  obtain ⟨hd, rfl⟩ := d
  refine lv_istore C.1 C.2.1 hd hl.has (show 10 < _ by simp) rfl (fun ls2 h2 => kk H locs ls2 hP hS (lk.set (L := (v0 :: v1 :: v2 :: v3 :: v4 :: v5 :: v6 :: v7 :: v8 :: v9 :: w :: T)) (i := 10) (by simp) (Or.inr ho) h2))
theorem j_istore11 (C : Cx Γ p l s m args meth c cc own nL) {v0 v1 v2 v3 v4 v5 v6 v7 v8 v9 v10 : Option Value} {x : Int32} {w : Option Value} {T : List (Option Value)} (ho : okp v10 = true) (d : Dx cc pc (.istore 11) 2 pc') (kk : J Γ p l e R s m args below meth c Q n ce sl pc' (v0 :: v1 :: v2 :: v3 :: v4 :: v5 :: v6 :: v7 :: v8 :: v9 :: v10 :: some (.int x) :: T) S ω κ) : J Γ p l e R s m args below meth c Q n ce sl pc (v0 :: v1 :: v2 :: v3 :: v4 :: v5 :: v6 :: v7 :: v8 :: v9 :: v10 :: w :: T) (.int x :: S) ω κ := by
  intro H locs ls hP hS hl
  obtain ⟨hd, rfl⟩ := d
  refine lv_istore C.1 C.2.1 hd hl.has (show 11 < _ by simp) rfl (fun ls2 h2 => kk H locs ls2 hP hS (lk.set (L := (v0 :: v1 :: v2 :: v3 :: v4 :: v5 :: v6 :: v7 :: v8 :: v9 :: v10 :: w :: T)) (i := 11) (by simp) (Or.inr ho) h2))
theorem j_istore12 (C : Cx Γ p l s m args meth c cc own nL) {v0 v1 v2 v3 v4 v5 v6 v7 v8 v9 v10 v11 : Option Value} {x : Int32} {w : Option Value} {T : List (Option Value)} (ho : okp v11 = true) (d : Dx cc pc (.istore 12) 2 pc') (kk : J Γ p l e R s m args below meth c Q n ce sl pc' (v0 :: v1 :: v2 :: v3 :: v4 :: v5 :: v6 :: v7 :: v8 :: v9 :: v10 :: v11 :: some (.int x) :: T) S ω κ) : J Γ p l e R s m args below meth c Q n ce sl pc (v0 :: v1 :: v2 :: v3 :: v4 :: v5 :: v6 :: v7 :: v8 :: v9 :: v10 :: v11 :: w :: T) (.int x :: S) ω κ := by
  intro H locs ls hP hS hl
  obtain ⟨hd, rfl⟩ := d
  refine lv_istore C.1 C.2.1 hd hl.has (show 12 < _ by simp) rfl (fun ls2 h2 => kk H locs ls2 hP hS (lk.set (L := (v0 :: v1 :: v2 :: v3 :: v4 :: v5 :: v6 :: v7 :: v8 :: v9 :: v10 :: v11 :: w :: T)) (i := 12) (by simp) (Or.inr ho) h2))
theorem j_istore13 (C : Cx Γ p l s m args meth c cc own nL) {v0 v1 v2 v3 v4 v5 v6 v7 v8 v9 v10 v11 v12 : Option Value} {x : Int32} {w : Option Value} {T : List (Option Value)} (ho : okp v12 = true) (d : Dx cc pc (.istore 13) 2 pc') (kk : J Γ p l e R s m args below meth c Q n ce sl pc' (v0 :: v1 :: v2 :: v3 :: v4 :: v5 :: v6 :: v7 :: v8 :: v9 :: v10 :: v11 :: v12 :: some (.int x) :: T) S ω κ) : J Γ p l e R s m args below meth c Q n ce sl pc (v0 :: v1 :: v2 :: v3 :: v4 :: v5 :: v6 :: v7 :: v8 :: v9 :: v10 :: v11 :: v12 :: w :: T) (.int x :: S) ω κ := by
  intro H locs ls hP hS hl
  obtain ⟨hd, rfl⟩ := d
  refine lv_istore C.1 C.2.1 hd hl.has (show 13 < _ by simp) rfl (fun ls2 h2 => kk H locs ls2 hP hS (lk.set (L := (v0 :: v1 :: v2 :: v3 :: v4 :: v5 :: v6 :: v7 :: v8 :: v9 :: v10 :: v11 :: v12 :: w :: T)) (i := 13) (by simp) (Or.inr ho) h2))
theorem j_istore14 (C : Cx Γ p l s m args meth c cc own nL) {v0 v1 v2 v3 v4 v5 v6 v7 v8 v9 v10 v11 v12 v13 : Option Value} {x : Int32} {w : Option Value} {T : List (Option Value)} (ho : okp v13 = true) (d : Dx cc pc (.istore 14) 2 pc') (kk : J Γ p l e R s m args below meth c Q n ce sl pc' (v0 :: v1 :: v2 :: v3 :: v4 :: v5 :: v6 :: v7 :: v8 :: v9 :: v10 :: v11 :: v12 :: v13 :: some (.int x) :: T) S ω κ) : J Γ p l e R s m args below meth c Q n ce sl pc (v0 :: v1 :: v2 :: v3 :: v4 :: v5 :: v6 :: v7 :: v8 :: v9 :: v10 :: v11 :: v12 :: v13 :: w :: T) (.int x :: S) ω κ := by
  intro H locs ls hP hS hl
  obtain ⟨hd, rfl⟩ := d
  refine lv_istore C.1 C.2.1 hd hl.has (show 14 < _ by simp) rfl (fun ls2 h2 => kk H locs ls2 hP hS (lk.set (L := (v0 :: v1 :: v2 :: v3 :: v4 :: v5 :: v6 :: v7 :: v8 :: v9 :: v10 :: v11 :: v12 :: v13 :: w :: T)) (i := 14) (by simp) (Or.inr ho) h2))
theorem j_iinc10 (C : Cx Γ p l s m args meth c cc own nL) {v0 v1 v2 v3 v4 v5 v6 v7 v8 v9 : Option Value} {a z : Int} {T : List (Option Value)} (ho : okp v9 = true) (d : Dx cc pc (.iinc 10 z) 3 pc') (kk : J Γ p l e R s m args below meth c Q n ce sl pc' (v0 :: v1 :: v2 :: v3 :: v4 :: v5 :: v6 :: v7 :: v8 :: v9 :: some (.int (iI (a + z))) :: T) S ω κ) : J Γ p l e R s m args below meth c Q n ce sl pc (v0 :: v1 :: v2 :: v3 :: v4 :: v5 :: v6 :: v7 :: v8 :: v9 :: some (.int (iI a)) :: T) S ω κ := by
  intro H locs ls hP hS hl
  obtain ⟨hd, rfl⟩ := d
  obtain ⟨k, hk⟩ := List.getElem?_of_mem ((lz_mem (v0 :: v1 :: v2 :: v3 :: v4 :: v5 :: v6 :: v7 :: v8 :: v9 :: some (.int (iI a)) :: T) 0 10 (.int (iI a))).mpr ⟨Nat.zero_le _, by simp⟩)
  exact lv_iinc C.1 C.2.1 hd hl.has hk (iI_add a z).symm (by simp) rfl (fun ls2 h2 => kk H locs ls2 hP hS (lk.set (L := (v0 :: v1 :: v2 :: v3 :: v4 :: v5 :: v6 :: v7 :: v8 :: v9 :: some (.int (iI a)) :: T)) (i := 10) (by simp) (Or.inr ho) h2))
theorem j_iinc11 (C : Cx Γ p l s m args meth c cc own nL) {v0 v1 v2 v3 v4 v5 v6 v7 v8 v9 v10 : Option Value} {a z : Int} {T : List (Option Value)} (ho : okp v10 = true) (d : Dx cc pc (.iinc 11 z) 3 pc') (kk : J Γ p l e R s m args below meth c Q n ce sl pc' (v0 :: v1 :: v2 :: v3 :: v4 :: v5 :: v6 :: v7 :: v8 :: v9 :: v10 :: some (.int (iI (a + z))) :: T) S ω κ) : J Γ p l e R s m args below meth c Q n ce sl pc (v0 :: v1 :: v2 :: v3 :: v4 :: v5 :: v6 :: v7 :: v8 :: v9 :: v10 :: some (.int (iI a)) :: T) S ω κ := by
  intro H locs ls hP hS hl
  obtain ⟨hd, rfl⟩ := d
  obtain ⟨k, hk⟩ := List.getElem?_of_mem ((lz_mem (v0 :: v1 :: v2 :: v3 :: v4 :: v5 :: v6 :: v7 :: v8 :: v9 :: v10 :: some (.int (iI a)) :: T) 0 11 (.int (iI a))).mpr ⟨Nat.zero_le _, by simp⟩)
  exact lv_iinc C.1 C.2.1 hd hl.has hk (iI_add a z).symm (by simp) rfl (fun ls2 h2 => kk H locs ls2 hP hS (lk.set (L := (v0 :: v1 :: v2 :: v3 :: v4 :: v5 :: v6 :: v7 :: v8 :: v9 :: v10 :: some (.int (iI a)) :: T)) (i := 11) (by simp) (Or.inr ho) h2))
theorem j_iinc12 (C : Cx Γ p l s m args meth c cc own nL) {v0 v1 v2 v3 v4 v5 v6 v7 v8 v9 v10 v11 : Option Value} {a z : Int} {T : List (Option Value)} (ho : okp v11 = true) (d : Dx cc pc (.iinc 12 z) 3 pc') (kk : J Γ p l e R s m args below meth c Q n ce sl pc' (v0 :: v1 :: v2 :: v3 :: v4 :: v5 :: v6 :: v7 :: v8 :: v9 :: v10 :: v11 :: some (.int (iI (a + z))) :: T) S ω κ) : J Γ p l e R s m args below meth c Q n ce sl pc (v0 :: v1 :: v2 :: v3 :: v4 :: v5 :: v6 :: v7 :: v8 :: v9 :: v10 :: v11 :: some (.int (iI a)) :: T) S ω κ := by
  intro H locs ls hP hS hl
  obtain ⟨hd, rfl⟩ := d
  obtain ⟨k, hk⟩ := List.getElem?_of_mem ((lz_mem (v0 :: v1 :: v2 :: v3 :: v4 :: v5 :: v6 :: v7 :: v8 :: v9 :: v10 :: v11 :: some (.int (iI a)) :: T) 0 12 (.int (iI a))).mpr ⟨Nat.zero_le _, by simp⟩)
  exact lv_iinc C.1 C.2.1 hd hl.has hk (iI_add a z).symm (by simp) rfl (fun ls2 h2 => kk H locs ls2 hP hS (lk.set (L := (v0 :: v1 :: v2 :: v3 :: v4 :: v5 :: v6 :: v7 :: v8 :: v9 :: v10 :: v11 :: some (.int (iI a)) :: T)) (i := 12) (by simp) (Or.inr ho) h2))
theorem j_iinc13 (C : Cx Γ p l s m args meth c cc own nL) {v0 v1 v2 v3 v4 v5 v6 v7 v8 v9 v10 v11 v12 : Option Value} {a z : Int} {T : List (Option Value)} (ho : okp v12 = true) (d : Dx cc pc (.iinc 13 z) 3 pc') (kk : J Γ p l e R s m args below meth c Q n ce sl pc' (v0 :: v1 :: v2 :: v3 :: v4 :: v5 :: v6 :: v7 :: v8 :: v9 :: v10 :: v11 :: v12 :: some (.int (iI (a + z))) :: T) S ω κ) : J Γ p l e R s m args below meth c Q n ce sl pc (v0 :: v1 :: v2 :: v3 :: v4 :: v5 :: v6 :: v7 :: v8 :: v9 :: v10 :: v11 :: v12 :: some (.int (iI a)) :: T) S ω κ := by
  intro H locs ls hP hS hl
  obtain ⟨hd, rfl⟩ := d
  obtain ⟨k, hk⟩ := List.getElem?_of_mem ((lz_mem (v0 :: v1 :: v2 :: v3 :: v4 :: v5 :: v6 :: v7 :: v8 :: v9 :: v10 :: v11 :: v12 :: some (.int (iI a)) :: T) 0 13 (.int (iI a))).mpr ⟨Nat.zero_le _, by simp⟩)
  exact lv_iinc C.1 C.2.1 hd hl.has hk (iI_add a z).symm (by simp) rfl (fun ls2 h2 => kk H locs ls2 hP hS (lk.set (L := (v0 :: v1 :: v2 :: v3 :: v4 :: v5 :: v6 :: v7 :: v8 :: v9 :: v10 :: v11 :: v12 :: some (.int (iI a)) :: T)) (i := 13) (by simp) (Or.inr ho) h2))
theorem j_iinc14 (C : Cx Γ p l s m args meth c cc own nL) {v0 v1 v2 v3 v4 v5 v6 v7 v8 v9 v10 v11 v12 v13 : Option Value} {a z : Int} {T : List (Option Value)} (ho : okp v13 = true) (d : Dx cc pc (.iinc 14 z) 3 pc') (kk : J Γ p l e R s m args below meth c Q n ce sl pc' (v0 :: v1 :: v2 :: v3 :: v4 :: v5 :: v6 :: v7 :: v8 :: v9 :: v10 :: v11 :: v12 :: v13 :: some (.int (iI (a + z))) :: T) S ω κ) : J Γ p l e R s m args below meth c Q n ce sl pc (v0 :: v1 :: v2 :: v3 :: v4 :: v5 :: v6 :: v7 :: v8 :: v9 :: v10 :: v11 :: v12 :: v13 :: some (.int (iI a)) :: T) S ω κ := by
  intro H locs ls hP hS hl
  obtain ⟨hd, rfl⟩ := d
  obtain ⟨k, hk⟩ := List.getElem?_of_mem ((lz_mem (v0 :: v1 :: v2 :: v3 :: v4 :: v5 :: v6 :: v7 :: v8 :: v9 :: v10 :: v11 :: v12 :: v13 :: some (.int (iI a)) :: T) 0 14 (.int (iI a))).mpr ⟨Nat.zero_le _, by simp⟩)
  exact lv_iinc C.1 C.2.1 hd hl.has hk (iI_add a z).symm (by simp) rfl (fun ls2 h2 => kk H locs ls2 hP hS (lk.set (L := (v0 :: v1 :: v2 :: v3 :: v4 :: v5 :: v6 :: v7 :: v8 :: v9 :: v10 :: v11 :: v12 :: v13 :: some (.int (iI a)) :: T)) (i := 14) (by simp) (Or.inr ho) h2))
theorem j_iinc10n (C : Cx Γ p l s m args meth c cc own nL) {v0 v1 v2 v3 v4 v5 v6 v7 v8 v9 : Option Value} {a : Nat} {T : List (Option Value)} (ho : okp v9 = true) (d : Dx cc pc (.iinc 10 1) 3 pc') (kk : J Γ p l e R s m args below meth c Q n ce sl pc' (v0 :: v1 :: v2 :: v3 :: v4 :: v5 :: v6 :: v7 :: v8 :: v9 :: some (.int (iI ((a + 1 : Nat) : Int))) :: T) S ω κ) : J Γ p l e R s m args below meth c Q n ce sl pc (v0 :: v1 :: v2 :: v3 :: v4 :: v5 :: v6 :: v7 :: v8 :: v9 :: some (.int (iI (a : Int))) :: T) S ω κ := by
  intro H locs ls hP hS hl
  obtain ⟨hd, rfl⟩ := d
  exact j_iinc10 C ho ⟨hd, rfl⟩ kk H locs ls hP hS hl
theorem j_iinc11n (C : Cx Γ p l s m args meth c cc own nL) {v0 v1 v2 v3 v4 v5 v6 v7 v8 v9 v10 : Option Value} {a : Nat} {T : List (Option Value)} (ho : okp v10 = true) (d : Dx cc pc (.iinc 11 1) 3 pc') (kk : J Γ p l e R s m args below meth c Q n ce sl pc' (v0 :: v1 :: v2 :: v3 :: v4 :: v5 :: v6 :: v7 :: v8 :: v9 :: v10 :: some (.int (iI ((a + 1 : Nat) : Int))) :: T) S ω κ) : J Γ p l e R s m args below meth c Q n ce sl pc (v0 :: v1 :: v2 :: v3 :: v4 :: v5 :: v6 :: v7 :: v8 :: v9 :: v10 :: some (.int (iI (a : Int))) :: T) S ω κ := by
  intro H locs ls hP hS hl
  obtain ⟨hd, rfl⟩ := d
  exact j_iinc11 C ho ⟨hd, rfl⟩ kk H locs ls hP hS hl
theorem j_iinc12n (C : Cx Γ p l s m args meth c cc own nL) {v0 v1 v2 v3 v4 v5 v6 v7 v8 v9 v10 v11 : Option Value} {a : Nat} {T : List (Option Value)} (ho : okp v11 = true) (d : Dx cc pc (.iinc 12 1) 3 pc') (kk : J Γ p l e R s m args below meth c Q n ce sl pc' (v0 :: v1 :: v2 :: v3 :: v4 :: v5 :: v6 :: v7 :: v8 :: v9 :: v10 :: v11 :: some (.int (iI ((a + 1 : Nat) : Int))) :: T) S ω κ) : J Γ p l e R s m args below meth c Q n ce sl pc (v0 :: v1 :: v2 :: v3 :: v4 :: v5 :: v6 :: v7 :: v8 :: v9 :: v10 :: v11 :: some (.int (iI (a : Int))) :: T) S ω κ := by
  intro H locs ls hP hS hl
  obtain ⟨hd, rfl⟩ := d
  exact j_iinc12 C ho ⟨hd, rfl⟩ kk H locs ls hP hS hl
theorem j_iinc13n (C : Cx Γ p l s m args meth c cc own nL) {v0 v1 v2 v3 v4 v5 v6 v7 v8 v9 v10 v11 v12 : Option Value} {a : Nat} {T : List (Option Value)} (ho : okp v12 = true) (d : Dx cc pc (.iinc 13 1) 3 pc') (kk : J Γ p l e R s m args below meth c Q n ce sl pc' (v0 :: v1 :: v2 :: v3 :: v4 :: v5 :: v6 :: v7 :: v8 :: v9 :: v10 :: v11 :: v12 :: some (.int (iI ((a + 1 : Nat) : Int))) :: T) S ω κ) : J Γ p l e R s m args below meth c Q n ce sl pc (v0 :: v1 :: v2 :: v3 :: v4 :: v5 :: v6 :: v7 :: v8 :: v9 :: v10 :: v11 :: v12 :: some (.int (iI (a : Int))) :: T) S ω κ := by
  intro H locs ls hP hS hl
  obtain ⟨hd, rfl⟩ := d
  exact j_iinc13 C ho ⟨hd, rfl⟩ kk H locs ls hP hS hl
theorem j_iinc14n (C : Cx Γ p l s m args meth c cc own nL) {v0 v1 v2 v3 v4 v5 v6 v7 v8 v9 v10 v11 v12 v13 : Option Value} {a : Nat} {T : List (Option Value)} (ho : okp v13 = true) (d : Dx cc pc (.iinc 14 1) 3 pc') (kk : J Γ p l e R s m args below meth c Q n ce sl pc' (v0 :: v1 :: v2 :: v3 :: v4 :: v5 :: v6 :: v7 :: v8 :: v9 :: v10 :: v11 :: v12 :: v13 :: some (.int (iI ((a + 1 : Nat) : Int))) :: T) S ω κ) : J Γ p l e R s m args below meth c Q n ce sl pc (v0 :: v1 :: v2 :: v3 :: v4 :: v5 :: v6 :: v7 :: v8 :: v9 :: v10 :: v11 :: v12 :: v13 :: some (.int (iI (a : Int))) :: T) S ω κ := by
  intro H locs ls hP hS hl
  obtain ⟨hd, rfl⟩ := d
  exact j_iinc14 C ho ⟨hd, rfl⟩ kk H locs ls hP hS hl
end LOC
/-- what the snapshot's saving needs kept -/
def KT (ω W : Wo) : Prop := (∀ x, 43 ≤ x → x < 64 → W.1 x = ω.1 x) ∧ W.1 0 3 = ω.1 0 3 ∧ ∀ x, 43 ≤ x → x < 47 → W.2.1 x = ω.2.1 x
theorem KT.rf (ω : Wo) : KT ω ω := ⟨fun _ _ _ => rfl, rfl, fun _ _ _ => rfl⟩
theorem KT.tr {a b c : Wo} (h : KT a b) (h2 : KT b c) : KT a c := ⟨fun x p q => (h2.1 x p q).trans (h.1 x p q), h2.2.1.trans h.2.1, fun x p q => (h2.2.2 x p q).trans (h.2.2 x p q)⟩
/-- behind a call: the law's own cells too -/
def KU (ω W : Wo) : Prop := KT ω W ∧ ∀ x, 243 ≤ x → W.1 x = ω.1 x
theorem KT.mxk {ω W : Wo} (h : KT ω W) : KU ω (mxw W ω) := ⟨⟨fun x p q => (mx_lt (by omega)).1.trans (h.1 x p q), (congrFun (mx_lt (by decide)).1 3).trans h.2.1, fun x p q => (mx_lt (by omega)).2.trans (h.2.2 x p q)⟩, fun x hx => (mx_ge hx).1⟩
theorem KU.tr {a b c : Wo} (h : KU a b) (h2 : KU b c) : KU a c := ⟨h.1.tr h2.1, fun x hx => (h2.2 x hx).trans (h.2 x hx)⟩
theorem KT.rF {ω : Wo} {a : Nat} {v w : Int} (ha : a = 65 ∨ a = 66 ∨ a = 67) : KT ω (RF ω a v w) := ⟨fun x p q => wf_ne _ _ (by omega), congrFun (wf_ne _ _ (by omega)) 3, fun _ _ _ => rfl⟩
theorem KT.kc {ω W : Wo} (h : KC ω W) : KT ω W := ⟨fun x p q => h.1 x (by omega) (by omega), congrFun (h.1 0 (by omega) (by omega)) 3, fun x p q => h.2.1 x (by omega)⟩
theorem KT.kq {ω W : Wo} (h : KQ ω W) : KT ω W := ⟨fun x p q => h.1 x (by omega) (by omega) (by omega), h.2.1 3 (by decide), fun x p q => h.2.2.1 x (by omega) (by omega) (by omega)⟩
/-- a question's answer behind its wrapper -/
def vQ (q : Int × Int) : Int := if q.1 = 0 then q.2 else if q.1 = 1 then -900001 else -900002
theorem vQ_0 {q : Int × Int} (h : q.1 = 0) : q.2 = vQ q := (if_pos h).symm
theorem vQ_1 {q : Int × Int} (h : q.1 = 1) : -900001 = vQ q := by unfold vQ; rw [if_neg (by omega), if_pos h]
theorem vQ_2 {q : Int × Int} (h : q.1 = 2) : -900002 = vQ q := by unfold vQ; rw [if_neg (by omega), if_neg (by omega)]
/-- a deed behind its wrapper -/
def DP (M : Int) (σ : Row) (n : Nat) (hh : Nat → Row) (d : Nat) (a b z : Int) (W : Wo) : Prop := (-3 ≤ z ∧ z ≤ 100 ∧ INV (M + 3200) W (ad d σ a b).2 (rmN n) (rmH n hh σ) ∧ σ 2 ≤ (ad d σ a b).2 2) ∨ (z = -900001 ∧ INV M W σ n hh ∧ (jd d σ a b).1 ≠ 0)
theorem DP.any {M : Int} {σ : Row} {n : Nat} {hh : Nat → Row} {d : Nat} {a b z : Int} {W : Wo} (h : DP M σ n hh d a b z W) (hM : M + 3200 ≤ 100000000) : (-900001 ≤ z ∧ z ≤ 100) ∧ ∃ σ' n' hh', INV (M + 3200) W σ' n' hh' ∧ σ 2 ≤ σ' 2 := by
  rcases h with ⟨h1, h2, h3, h4⟩ | ⟨h1, h3, -⟩
  · exact ⟨⟨by omega, by omega⟩, _, _, _, h3, h4⟩
  · exact ⟨⟨by omega, by omega⟩, _, _, _, h3.le ⟨by omega, hM⟩, Int.le_refl _⟩
theorem hours_4 {M : Int} {s : Row} (hI : RI M s) (n : Nat) (hM : M + 30 * n ≤ 100000000) : hoursUp s n 4 = s 4 := hoursUp_at hI (by omega) n hM
theorem ad_z {M : Int} {s : Row} (hI : RI M s) (hW : WI s) (h : WJ s) (hM : M + 3000 ≤ 100000000) {d : Nat} (hd : d ≤ 8) {a b : Int} (hj : (jd d s a b).1 = 0) : -3 ≤ (ad d s a b).1 ∧ (ad d s a b).1 ≤ 100 := by
  have gc := hI.c
  have gs := hI.s
  obtain h9 | h9 | h9 | h9 | h9 | h9 | h9 | h9 | h9 : d = 0 ∨ d = 1 ∨ d = 2 ∨ d = 3 ∨ d = 4 ∨ d = 5 ∨ d = 6 ∨ d = 7 ∨ d = 8 := by omega
  all_goals subst h9
  · show -3 ≤ s 1 ∧ s 1 ≤ 100; omega
  · show -3 ≤ stayN (up s (8 + 7 * a + 1).toNat 2) ∧ stayN (up s (8 + 7 * a + 1).toNat 2) ≤ 100
    have hq := jd1_ok hj
    have k := ad_keep hI hW hM (by decide) hj
    have k1 : RI (M + 3000) (up s (8 + 7 * a + 1).toNat 2) := k.1
    have c1 := k1.c
    have r := stayUp_rg (up s (8 + 7 * a + 1).toNat 2) (cM (up s (8 + 7 * a + 1).toNat 2))
    unfold stayN
    omega
  · show -3 ≤ sM s a 0 + 1 ∧ sM s a 0 + 1 ≤ 100
    have hq := jd2_ok hj
    have gm := hI.m a (by omega)
    omega
  · show -3 ≤ s 2 ∧ s 2 ≤ 100; omega
  · show -3 ≤ lst s (ableS s) 2 ∧ lst s (ableS s) 2 ≤ 100
    have := lst_lt hI (ableS s) 2
    omega
  · show -3 ≤ s 3 ∧ s 3 ≤ 100; omega
  · have k := ad_keep hI hW hM (by decide) hj
    have j := ad_wj hI hW h hM (by decide) hj
    have k1 : RI (M + 3000) (takeL s a.toNat) := k.1
    have j1 : WJ (takeL s a.toNat) := j
    have c1 := k1.c
    have r1 := oarsUp_rg k1 (cL (takeL s a.toNat)) c1.2.2.2
    have r2 := outUp_rg k1 (cB (takeL s a.toNat)) c1.2.1.2
    have r3 := j1.2.2.1
    show -3 ≤ freeO (takeL s a.toNat) ∧ freeO (takeL s a.toNat) ≤ 100
    unfold freeO
    unfold outO allO at r3 ⊢
    omega
  · show -3 ≤ s 7 ∧ s 7 ≤ 100; omega
  · have hq := jd8_ok hj
    have hh1 := hoursUp_RI hI a.toNat (by omega)
    have hj1 := h.hours hI hW a.toNat (by omega)
    have c1 := hh1.c
    have e4 := hours_4 hI a.toNat (by omega)
    have b1 := bOutUp_rg hI (cB s) gc.2.1.2
    have b2 := bOutUp_rg hh1 (cB (hoursUp s a.toNat)) c1.2.1.2
    have w1 := h.2.2.2
    have w2 := hj1.2.2.2
    show -3 ≤ hoursUp s a.toNat 5 - s 5 ∧ hoursUp s a.toNat 5 - s 5 ≤ 100
    omega
theorem ad_2 {M : Int} {s : Row} (hI : RI M s) (hM : M + 3000 ≤ 100000000) {d : Nat} (hd : d ≤ 8) {a b : Int} (hj : (jd d s a b).1 = 0) : s 2 ≤ (ad d s a b).2 2 := by
  have gc := hI.c
  have gs := hI.s
  obtain h9 | h9 | h9 | h9 | h9 | h9 | h9 | h9 | h9 : d = 0 ∨ d = 1 ∨ d = 2 ∨ d = 3 ∨ d = 4 ∨ d = 5 ∨ d = 6 ∨ d = 7 ∨ d = 8 := by omega
  all_goals subst h9
  · have hq := jd0_ok hj
    show s 2 ≤ newM s a 2
    rw [(newM_v hI (v := a) (by omega)).2.1]; exact Int.le_refl _
  · have hq := jd1_ok hj
    show s 2 ≤ up s (8 + 7 * a + 1).toNat 2 2
    rw [up_ne _ _ (by omega)]; exact Int.le_refl _
  · have hq := jd2_ok hj
    show s 2 ≤ up s (8 + 7 * a).toNat (sM s a 0 + 1) 2
    rw [up_ne _ _ (by omega)]; exact Int.le_refl _
  · have hq := jd3_ok hj
    show s 2 ≤ newB s a b 2
    rw [(newB_v hI (v := a) (u := b) (by omega)).1]; omega
  · have hq := jd4_ok hj
    obtain ⟨k, rfl⟩ := Int.eq_ofNat_of_zero_le hq.1.1
    show s 2 ≤ sendR s k b 2
    rw [sendR_low (by omega) (by omega) gc.1.2]; exact Int.le_refl _
  · show s 2 ≤ newL s a b 2
    have : newL s a b 2 = s 2 := by
      show (if _ then _ else _) = _
      rw [if_neg (by omega), if_neg (by omega), if_neg (by omega), if_neg (by omega)]
    rw [this]; exact Int.le_refl _
  · show s 2 ≤ takeL s a.toNat 2
    rw [takeL_at (by omega)]; exact Int.le_refl _
  · show s 2 ≤ up s 7 a 2
    rw [up_ne _ _ (by omega)]; exact Int.le_refl _
  · have hq := jd8_ok hj
    show s 2 ≤ hoursUp s a.toNat 2
    rw [hoursUp_at hI (by omega) a.toNat (by omega)]; exact Int.le_refl _
section WQ
variable {κ : Nat → Nat} {Γ : Ga} {p : Program} {l : Launch} {e : Env} {R : Room} {s : State} {m : MethodId} {args : Array Value} {below : List Frame} {meth : Method} {c : Code} {Q : State → Prop} {n ce sl : Nat} {cc : ByteArray} {own : String} {nL pc pc' idx a kk k : Nat} {L : List (Option Value)} {S : List Value} {ω : Wo} {D mx sx : Nat} {M : Int} {σ : Row} {n0 : Nat} {hh : Nat → Row}
set_option maxRecDepth 100000 in
set_option maxHeartbeats 4000000 in
theorem j_wear {a : Int} (C : Cx Γ p l s m args meth c cc own nL) (hK3 : Kt3 s) (hn9 : 243 ≤ n) (hκ : Kl κ n) (hsl : l.stackTraces = false) (hV : INV M ω σ n0 hh) (ha : Rg a) (K : Lk own idx yL_weariness) (hD : 22 ≤ D) (hL : L.length = nL) (hcat : (S.map fun v => v.category).sum ≤ 8) (hce : ce + 2 ≤ mx ∧ sl + 12 ≤ sx) (dd : Dx cc pc (.invokestatic idx) 3 pc')
    (kx : ∀ W : Wo, INV M W σ n0 hh → KU ω W → Rg (vQ (qWear σ a)) → J Γ p l e (rmk D mx sx) s m args below meth c Q n (ce + 2) (sl + 12) pc' L (.int (iI (vQ (qWear σ a))) :: S) W κ) : J Γ p l e (rmk D mx sx) s m args below meth c Q n ce sl pc L (.int (iI a) :: .ref (rl Γ 0) :: S) ω κ := by
  refine j_cMW (as := [.ref (rl Γ 0), .int (iI a)]) (k := 2) C hK3 hn9 hκ (fun h => w_weariness (Γ := re Γ (gN Γ) h) (by decide) (c_X8_weariness (Γ := re Γ (gN Γ) h) hsl hV.cr hV.st hV.ri hV.wi ha) (fun E ω1 hE => hE.2.elim (fun q => Or.inl q.1) (fun q => Or.inr q.1))) o_w_weariness K ⟨by omega, by decide⟩ rfl hL hcat ⟨by omega, by omega⟩ dd (fun z ω' hz hp => ?_)
  rcases hp with ⟨rfl, q1, r⟩ | ⟨rfl, ⟨r0, r⟩⟩ | ⟨rfl, ⟨r0, r⟩⟩
  · rw [vQ_0 q1] at hz ⊢
    obtain ⟨v, w, rfl⟩ := r
    exact kx _ (hV.rF (Or.inr (Or.inr rfl))).mx (KT.rF (Or.inr (Or.inr rfl))).mxk hz
  · have q1 : (qWear σ a).1 = 1 := r.elim (fun q => q.2) (fun q => absurd q.1 (by decide))
    rw [vQ_1 q1] at hz ⊢
    rcases r0 with rfl | ⟨v, w, rfl⟩
    · exact kx _ hV.mx (KT.rf _).mxk hz
    · exact kx _ (hV.rF (Or.inr (Or.inr rfl))).mx (KT.rF (Or.inr (Or.inr rfl))).mxk hz
  · have q1 : (qWear σ a).1 = 2 := r.elim (fun q => absurd q.1 (by decide)) (fun q => q.2)
    rw [vQ_2 q1] at hz ⊢
    rcases r0 with rfl | ⟨v, w, rfl⟩
    · exact kx _ hV.mx (KT.rf _).mxk hz
    · exact kx _ (hV.rF (Or.inr (Or.inr rfl))).mx (KT.rF (Or.inr (Or.inr rfl))).mxk hz
set_option maxRecDepth 100000 in
set_option maxHeartbeats 4000000 in
theorem j_wearA {a : Int} (C : Cx Γ p l s m args meth c cc own nL) (hK3 : Kt3 s) (hn9 : 243 ≤ n) (hκ : Kl κ n) (hsl : l.stackTraces = false) (hV : INV M ω σ n0 hh) (ha : Rg a) (K : Lk own idx yL_wearinessAgain) (hD : 22 ≤ D) (hL : L.length = nL) (hcat : (S.map fun v => v.category).sum ≤ 8) (hce : ce + 2 ≤ mx ∧ sl + 12 ≤ sx) (dd : Dx cc pc (.invokestatic idx) 3 pc')
    (kx : ∀ W : Wo, INV M W σ n0 hh → KU ω W → Rg (vQ (qWear σ a)) → J Γ p l e (rmk D mx sx) s m args below meth c Q n (ce + 2) (sl + 12) pc' L (.int (iI (vQ (qWear σ a))) :: S) W κ) : J Γ p l e (rmk D mx sx) s m args below meth c Q n ce sl pc L (.int (iI a) :: .ref (rl Γ 0) :: S) ω κ := by
  refine j_cMW (as := [.ref (rl Γ 0), .int (iI a)]) (k := 2) C hK3 hn9 hκ (fun h => w_wearinessAgain (Γ := re Γ (gN Γ) h) (by decide) (c_X8_wearinessAgain (Γ := re Γ (gN Γ) h) hsl hV.cr hV.st hV.ri hV.wi ha) (fun E ω1 hE => hE.2.elim (fun q => Or.inl q.1) (fun q => Or.inr q.1))) o_w_wearinessAgain K ⟨by omega, by decide⟩ rfl hL hcat ⟨by omega, by omega⟩ dd (fun z ω' hz hp => ?_)
  rcases hp with ⟨rfl, q1, r⟩ | ⟨rfl, ⟨r0, r⟩⟩ | ⟨rfl, ⟨r0, r⟩⟩
  · rw [vQ_0 q1] at hz ⊢
    obtain ⟨v, w, rfl⟩ := r
    exact kx _ (hV.rF (Or.inr (Or.inr rfl))).mx (KT.rF (Or.inr (Or.inr rfl))).mxk hz
  · have q1 : (qWear σ a).1 = 1 := r.elim (fun q => q.2) (fun q => absurd q.1 (by decide))
    rw [vQ_1 q1] at hz ⊢
    rcases r0 with rfl | ⟨v, w, rfl⟩
    · exact kx _ hV.mx (KT.rf _).mxk hz
    · exact kx _ (hV.rF (Or.inr (Or.inr rfl))).mx (KT.rF (Or.inr (Or.inr rfl))).mxk hz
  · have q1 : (qWear σ a).1 = 2 := r.elim (fun q => absurd q.1 (by decide)) (fun q => q.2)
    rw [vQ_2 q1] at hz ⊢
    rcases r0 with rfl | ⟨v, w, rfl⟩
    · exact kx _ hV.mx (KT.rf _).mxk hz
    · exact kx _ (hV.rF (Or.inr (Or.inr rfl))).mx (KT.rF (Or.inr (Or.inr rfl))).mxk hz
set_option maxRecDepth 100000 in
set_option maxHeartbeats 4000000 in
theorem j_wgo {a : Int} (C : Cx Γ p l s m args meth c cc own nL) (hK3 : Kt3 s) (hn9 : 243 ≤ n) (hκ : Kl κ n) (hsl : l.stackTraces = false) (hV : INV M ω σ n0 hh) (ha : Rg a) (K : Lk own idx yL_wouldGo) (hD : 22 ≤ D) (hL : L.length = nL) (hcat : (S.map fun v => v.category).sum ≤ 8) (hce : ce + 2 ≤ mx ∧ sl + 12 ≤ sx) (dd : Dx cc pc (.invokestatic idx) 3 pc')
    (kx : ∀ W : Wo, INV M W σ n0 hh → KU ω W → Rg (vQ (qGo σ a)) → J Γ p l e (rmk D mx sx) s m args below meth c Q n (ce + 2) (sl + 12) pc' L (.int (iI (vQ (qGo σ a))) :: S) W κ) : J Γ p l e (rmk D mx sx) s m args below meth c Q n ce sl pc L (.int (iI a) :: .ref (rl Γ 0) :: S) ω κ := by
  refine j_cMW (as := [.ref (rl Γ 0), .int (iI a)]) (k := 2) C hK3 hn9 hκ (fun h => w_wouldGo (Γ := re Γ (gN Γ) h) (by decide) (c_X8_wouldGo (Γ := re Γ (gN Γ) h) hsl hV.cr hV.st hV.ri hV.wi ha) (fun E ω1 hE => hE.2.elim (fun q => Or.inl q.1) (fun q => Or.inr q.1))) o_w_wouldGo K ⟨by omega, by decide⟩ rfl hL hcat ⟨by omega, by omega⟩ dd (fun z ω' hz hp => ?_)
  rcases hp with ⟨rfl, q1, r⟩ | ⟨rfl, ⟨r0, r⟩⟩ | ⟨rfl, ⟨r0, r⟩⟩
  · rw [vQ_0 q1] at hz ⊢
    obtain ⟨v, w, rfl⟩ := r
    exact kx _ (hV.rF (Or.inr (Or.inr rfl))).mx (KT.rF (Or.inr (Or.inr rfl))).mxk hz
  · have q1 : (qGo σ a).1 = 1 := r.elim (fun q => q.2) (fun q => absurd q.1 (by decide))
    rw [vQ_1 q1] at hz ⊢
    rcases r0 with rfl | ⟨v, w, rfl⟩
    · exact kx _ hV.mx (KT.rf _).mxk hz
    · exact kx _ (hV.rF (Or.inr (Or.inr rfl))).mx (KT.rF (Or.inr (Or.inr rfl))).mxk hz
  · have q1 : (qGo σ a).1 = 2 := r.elim (fun q => absurd q.1 (by decide)) (fun q => q.2)
    rw [vQ_2 q1] at hz ⊢
    rcases r0 with rfl | ⟨v, w, rfl⟩
    · exact kx _ hV.mx (KT.rf _).mxk hz
    · exact kx _ (hV.rF (Or.inr (Or.inr rfl))).mx (KT.rF (Or.inr (Or.inr rfl))).mxk hz
set_option maxRecDepth 100000 in
set_option maxHeartbeats 4000000 in
theorem j_home {a : Int} (C : Cx Γ p l s m args meth c cc own nL) (hK3 : Kt3 s) (hn9 : 243 ≤ n) (hκ : Kl κ n) (hsl : l.stackTraces = false) (hV : INV M ω σ n0 hh) (hM : M + 6000 ≤ 100000000) (ha : Rg a) (K : Lk own idx yL_homeIn) (hD : 22 ≤ D) (hL : L.length = nL) (hcat : (S.map fun v => v.category).sum ≤ 8) (hce : ce + 2 ≤ mx ∧ sl + 12 ≤ sx) (dd : Dx cc pc (.invokestatic idx) 3 pc')
    (kx : ∀ W : Wo, INV M W σ n0 hh → KU ω W → Rg (vQ (qHome σ a)) → J Γ p l e (rmk D mx sx) s m args below meth c Q n (ce + 2) (sl + 12) pc' L (.int (iI (vQ (qHome σ a))) :: S) W κ) : J Γ p l e (rmk D mx sx) s m args below meth c Q n ce sl pc L (.int (iI a) :: .ref (rl Γ 0) :: S) ω κ := by
  refine j_cMW (as := [.ref (rl Γ 0), .int (iI a)]) (k := 2) C hK3 hn9 hκ (fun h => w_homeIn (Γ := re Γ (gN Γ) h) (by decide) (c_X8_homeIn (Γ := re Γ (gN Γ) h) hsl hV.cr hV.st hV.ri hV.wi ha hM hV.q22) (fun E ω1 hE => hE.2.2.elim (fun q => Or.inl q.1) (fun q => Or.inr q.1))) o_w_homeIn K ⟨by omega, by decide⟩ rfl hL hcat ⟨by omega, by omega⟩ dd (fun z ω' hz hp => ?_)
  rcases hp with ⟨rfl, q1, r⟩ | ⟨rfl, ⟨r0, r1, r⟩⟩ | ⟨rfl, ⟨r0, r1, r⟩⟩
  · rw [vQ_0 q1] at hz ⊢
    exact kx _ (hV.kc r.1 r.2).mx (KT.kc r.1).mxk hz
  · have q1 : (qHome σ a).1 = 1 := r.elim (fun q => q.2) (fun q => absurd q.1 (by decide))
    rw [vQ_1 q1] at hz ⊢
    exact kx _ (hV.kc r0 r1).mx (KT.kc r0).mxk hz
  · have q1 : (qHome σ a).1 = 2 := r.elim (fun q => absurd q.1 (by decide)) (fun q => q.2)
    rw [vQ_2 q1] at hz ⊢
    exact kx _ (hV.kc r0 r1).mx (KT.kc r0).mxk hz
set_option maxRecDepth 100000 in
set_option maxHeartbeats 4000000 in
theorem j_callable {a : Int} (C : Cx Γ p l s m args meth c cc own nL) (hK3 : Kt3 s) (hn9 : 243 ≤ n) (hκ : Kl κ n) (hsl : l.stackTraces = false) (hV : INV M ω σ n0 hh) (hM : M + 6000 ≤ 100000000) (ha : Rg a) (K : Lk own idx yL_callableIn) (hD : 22 ≤ D) (hL : L.length = nL) (hcat : (S.map fun v => v.category).sum ≤ 8) (hce : ce + 2 ≤ mx ∧ sl + 12 ≤ sx) (dd : Dx cc pc (.invokestatic idx) 3 pc')
    (kx : ∀ W : Wo, INV M W σ n0 hh → KU ω W → Rg (vQ (qCallable σ a)) → J Γ p l e (rmk D mx sx) s m args below meth c Q n (ce + 2) (sl + 12) pc' L (.int (iI (vQ (qCallable σ a))) :: S) W κ) : J Γ p l e (rmk D mx sx) s m args below meth c Q n ce sl pc L (.int (iI a) :: .ref (rl Γ 0) :: S) ω κ := by
  refine j_cMW (as := [.ref (rl Γ 0), .int (iI a)]) (k := 2) C hK3 hn9 hκ (fun h => w_callableIn (Γ := re Γ (gN Γ) h) (by decide) (c_X8_callableIn (Γ := re Γ (gN Γ) h) hsl hV.cr hV.st hV.ri hV.wi ha hM hV.q22) (fun E ω1 hE => hE.2.2.elim (fun q => Or.inl q.1) (fun q => Or.inr q.1))) o_w_callableIn K ⟨by omega, by decide⟩ rfl hL hcat ⟨by omega, by omega⟩ dd (fun z ω' hz hp => ?_)
  rcases hp with ⟨rfl, q1, r⟩ | ⟨rfl, ⟨r0, r1, r⟩⟩ | ⟨rfl, ⟨r0, r1, r⟩⟩
  · rw [vQ_0 q1] at hz ⊢
    exact kx _ (hV.kc r.1 r.2).mx (KT.kc r.1).mxk hz
  · have q1 : (qCallable σ a).1 = 1 := r.elim (fun q => q.2) (fun q => absurd q.1 (by decide))
    rw [vQ_1 q1] at hz ⊢
    exact kx _ (hV.kc r0 r1).mx (KT.kc r0).mxk hz
  · have q1 : (qCallable σ a).1 = 2 := r.elim (fun q => absurd q.1 (by decide)) (fun q => q.2)
    rw [vQ_2 q1] at hz ⊢
    exact kx _ (hV.kc r0 r1).mx (KT.kc r0).mxk hz
set_option maxRecDepth 100000 in
set_option maxHeartbeats 4000000 in
theorem j_homeA {a : Int} (C : Cx Γ p l s m args meth c cc own nL) (hK3 : Kt3 s) (hn9 : 243 ≤ n) (hκ : Kl κ n) (hsl : l.stackTraces = false) (hV : INV M ω σ n0 hh) (hM : M + 6000 ≤ 100000000) (ha : Rg a) (K : Lk own idx yL_homeInAgain) (hD : 22 ≤ D) (hL : L.length = nL) (hcat : (S.map fun v => v.category).sum ≤ 8) (hce : ce + 2 ≤ mx ∧ sl + 12 ≤ sx) (dd : Dx cc pc (.invokestatic idx) 3 pc')
    (kx : ∀ W : Wo, INV M W σ n0 hh → KU ω W → Rg (vQ (qHome σ a)) → J Γ p l e (rmk D mx sx) s m args below meth c Q n (ce + 2) (sl + 12) pc' L (.int (iI (vQ (qHome σ a))) :: S) W κ) : J Γ p l e (rmk D mx sx) s m args below meth c Q n ce sl pc L (.int (iI a) :: .ref (rl Γ 0) :: S) ω κ := by
  refine j_cMW (as := [.ref (rl Γ 0), .int (iI a)]) (k := 2) C hK3 hn9 hκ (fun h => w_homeInAgain (Γ := re Γ (gN Γ) h) (by decide) (c_X8_homeInAgain (Γ := re Γ (gN Γ) h) hsl hV.cr hV.st hV.ri hV.wi ha hM) (fun E ω1 hE => hE.2.elim (fun q => Or.inl q.1) (fun q => Or.inr q.1))) o_w_homeInAgain K ⟨by omega, by decide⟩ rfl hL hcat ⟨by omega, by omega⟩ dd (fun z ω' hz hp => ?_)
  rcases hp with ⟨rfl, q1, r⟩ | ⟨rfl, ⟨r0, r⟩⟩ | ⟨rfl, ⟨r0, r⟩⟩
  · rw [vQ_0 q1] at hz ⊢
    subst r
    exact kx _ hV.mx (KT.rf _).mxk hz
  · have q1 : (qHome σ a).1 = 1 := r.elim (fun q => q.2) (fun q => absurd q.1 (by decide))
    rw [vQ_1 q1] at hz ⊢
    subst r0
    exact kx _ hV.mx (KT.rf _).mxk hz
  · have q1 : (qHome σ a).1 = 2 := r.elim (fun q => absurd q.1 (by decide)) (fun q => q.2)
    rw [vQ_2 q1] at hz ⊢
    subst r0
    exact kx _ hV.mx (KT.rf _).mxk hz
set_option maxRecDepth 100000 in
set_option maxHeartbeats 4000000 in
theorem j_least {a : Int} (C : Cx Γ p l s m args meth c cc own nL) (hK3 : Kt3 s) (hn9 : 243 ≤ n) (hκ : Kl κ n) (hsl : l.stackTraces = false) (hV : INV M ω σ n0 hh) (ha : Rg a) (K : Lk own idx yL_least) (hD : 22 ≤ D) (hL : L.length = nL) (hcat : (S.map fun v => v.category).sum ≤ 8) (hce : ce + 1 ≤ mx ∧ sl + 6 ≤ sx) (dd : Dx cc pc (.invokestatic idx) 3 pc')
    (kx : ∀ W : Wo, INV M W σ n0 hh → KU ω W → Rg (vQ (qLeast σ a)) → J Γ p l e (rmk D mx sx) s m args below meth c Q n (ce + 1) (sl + 6) pc' L (.int (iI (vQ (qLeast σ a))) :: S) W κ) : J Γ p l e (rmk D mx sx) s m args below meth c Q n ce sl pc L (.int (iI a) :: .ref (rl Γ 0) :: S) ω κ := by
  refine j_cMW (as := [.ref (rl Γ 0), .int (iI a)]) (k := 1) C hK3 hn9 hκ (fun h => w_least (Γ := re Γ (gN Γ) h) (by decide) (c_X8_least (Γ := re Γ (gN Γ) h) hsl hV.cr hV.st hV.ri hV.wi ha) (fun E ω1 hE => hE.2.1)) o_w_least K ⟨by omega, by decide⟩ rfl hL hcat ⟨by omega, by omega⟩ dd (fun z ω' hz hp => ?_)
  rcases hp with ⟨rfl, q1, r⟩ | ⟨rfl, r0, -, q1⟩
  · rw [vQ_0 q1] at hz ⊢
    subst r
    exact kx _ hV.mx (KT.rf _).mxk hz
  · rw [vQ_1 q1] at hz ⊢
    subst r0
    exact kx _ hV.mx (KT.rf _).mxk hz
set_option maxRecDepth 100000 in
set_option maxHeartbeats 4000000 in
theorem j_busiest {a : Int} (C : Cx Γ p l s m args meth c cc own nL) (hK3 : Kt3 s) (hn9 : 243 ≤ n) (hκ : Kl κ n) (hsl : l.stackTraces = false) (hV : INV M ω σ n0 hh) (ha : Rg a) (K : Lk own idx yL_busiest) (hD : 22 ≤ D) (hL : L.length = nL) (hcat : (S.map fun v => v.category).sum ≤ 8) (hce : ce + 1 ≤ mx ∧ sl + 6 ≤ sx) (dd : Dx cc pc (.invokestatic idx) 3 pc')
    (kx : ∀ W : Wo, INV M W σ n0 hh → KU ω W → Rg (vQ (qBusy σ a)) → J Γ p l e (rmk D mx sx) s m args below meth c Q n (ce + 1) (sl + 6) pc' L (.int (iI (vQ (qBusy σ a))) :: S) W κ) : J Γ p l e (rmk D mx sx) s m args below meth c Q n ce sl pc L (.int (iI a) :: .ref (rl Γ 0) :: S) ω κ := by
  refine j_cMW (as := [.ref (rl Γ 0), .int (iI a)]) (k := 1) C hK3 hn9 hκ (fun h => w_busiest (Γ := re Γ (gN Γ) h) (by decide) (c_X8_busiest (Γ := re Γ (gN Γ) h) hsl hV.cr hV.st hV.ri hV.wi ha) (fun E ω1 hE => hE.2.1)) o_w_busiest K ⟨by omega, by decide⟩ rfl hL hcat ⟨by omega, by omega⟩ dd (fun z ω' hz hp => ?_)
  rcases hp with ⟨rfl, q1, r⟩ | ⟨rfl, r0, -, q1⟩
  · rw [vQ_0 q1] at hz ⊢
    subst r
    exact kx _ hV.mx (KT.rf _).mxk hz
  · rw [vQ_1 q1] at hz ⊢
    subst r0
    exact kx _ hV.mx (KT.rf _).mxk hz
set_option maxRecDepth 100000 in
set_option maxHeartbeats 4000000 in
theorem j_d_member {a : Int} (C : Cx Γ p l s m args meth c cc own nL) (hK3 : Kt3 s) (hn9 : 243 ≤ n) (hκ : Kl κ n) (hsl : l.stackTraces = false) (hV : INV M ω σ n0 hh) (hM : M + 3200 ≤ 100000000) (ha : Rg a) (K : Lk own idx yL_member) (hD : 22 ≤ D) (hL : L.length = nL) (hcat : (S.map fun v => v.category).sum ≤ 8) (hce : ce + 1 ≤ mx ∧ sl + 6 ≤ sx) (dd : Dx cc pc (.invokestatic idx) 3 pc')
    (kx : ∀ (z : Int) (W : Wo), Rg z → DP M σ n0 hh 0 a 0 z W → KU ω W → J Γ p l e (rmk D mx sx) s m args below meth c Q n (ce + 1) (sl + 6) pc' L (.int (iI z) :: S) W κ) : J Γ p l e (rmk D mx sx) s m args below meth c Q n ce sl pc L (.int (iI a) :: .ref (rl Γ 0) :: S) ω κ := by
  refine j_cMW (as := [.ref (rl Γ 0), .int (iI a)]) (k := 1) C hK3 hn9 hκ (fun h => w_member (Γ := re Γ (gN Γ) h) (by decide) (c_X8_member (Γ := re Γ (gN Γ) h) hsl hV.cr hV.st hV.ri hV.wi ha hM hV.pa) (fun E ω1 hE => hE.1)) o_w_member K ⟨by omega, by decide⟩ rfl hL hcat ⟨by omega, by omega⟩ dd (fun z ω' hz hp => ?_)
  rcases hp with ⟨q1, q2, q3, q4, q5, q6⟩ | ⟨rfl, -, qj, rfl⟩
  · have g := ad_z hV.ri hV.wi hV.wj (by omega) (d := 0) (by decide) q1
    rw [← q2] at g
    exact kx z _ hz (Or.inl ⟨g.1, g.2, (hV.deed hM (by decide) q1 q3 q4 q5 q6).mx, ad_2 hV.ri (by omega) (by decide) q1⟩) (KT.kq q6).mxk
  · refine kx _ _ hz (Or.inr ⟨rfl, (((hV.rF (Or.inr (Or.inr rfl))).rF (Or.inl rfl)).rF (Or.inr (Or.inl rfl))).mx, qj⟩) ?_
    exact (((KT.rF (Or.inr (Or.inr rfl))).tr (KT.rF (Or.inl rfl))).tr (KT.rF (Or.inr (Or.inl rfl)))).mxk
set_option maxRecDepth 100000 in
set_option maxHeartbeats 4000000 in
theorem j_d_leave {a : Int} (C : Cx Γ p l s m args meth c cc own nL) (hK3 : Kt3 s) (hn9 : 243 ≤ n) (hκ : Kl κ n) (hsl : l.stackTraces = false) (hV : INV M ω σ n0 hh) (hM : M + 3200 ≤ 100000000) (ha : Rg a) (K : Lk own idx yL_leave) (hD : 22 ≤ D) (hL : L.length = nL) (hcat : (S.map fun v => v.category).sum ≤ 8) (hce : ce + 1 ≤ mx ∧ sl + 6 ≤ sx) (dd : Dx cc pc (.invokestatic idx) 3 pc')
    (kx : ∀ (z : Int) (W : Wo), Rg z → DP M σ n0 hh 1 a 0 z W → KU ω W → J Γ p l e (rmk D mx sx) s m args below meth c Q n (ce + 1) (sl + 6) pc' L (.int (iI z) :: S) W κ) : J Γ p l e (rmk D mx sx) s m args below meth c Q n ce sl pc L (.int (iI a) :: .ref (rl Γ 0) :: S) ω κ := by
  refine j_cMW (as := [.ref (rl Γ 0), .int (iI a)]) (k := 1) C hK3 hn9 hκ (fun h => w_leave (Γ := re Γ (gN Γ) h) (by decide) (c_X8_leave (Γ := re Γ (gN Γ) h) hsl hV.cr hV.st hV.ri hV.wi ha hM hV.pa) (fun E ω1 hE => hE.1)) o_w_leave K ⟨by omega, by decide⟩ rfl hL hcat ⟨by omega, by omega⟩ dd (fun z ω' hz hp => ?_)
  rcases hp with ⟨q1, q2, q3, q4, q5, q6⟩ | ⟨rfl, -, qj, rfl⟩
  · have g := ad_z hV.ri hV.wi hV.wj (by omega) (d := 1) (by decide) q1
    rw [← q2] at g
    exact kx z _ hz (Or.inl ⟨g.1, g.2, (hV.deed hM (by decide) q1 q3 q4 q5 q6).mx, ad_2 hV.ri (by omega) (by decide) q1⟩) (KT.kq q6).mxk
  · refine kx _ _ hz (Or.inr ⟨rfl, (((hV.rF (Or.inr (Or.inr rfl))).rF (Or.inl rfl)).rF (Or.inr (Or.inl rfl))).mx, qj⟩) ?_
    exact (((KT.rF (Or.inr (Or.inr rfl))).tr (KT.rF (Or.inl rfl))).tr (KT.rF (Or.inr (Or.inl rfl)))).mxk
set_option maxRecDepth 100000 in
set_option maxHeartbeats 4000000 in
theorem j_d_train {a : Int} (C : Cx Γ p l s m args meth c cc own nL) (hK3 : Kt3 s) (hn9 : 243 ≤ n) (hκ : Kl κ n) (hsl : l.stackTraces = false) (hV : INV M ω σ n0 hh) (hM : M + 3200 ≤ 100000000) (ha : Rg a) (K : Lk own idx yL_train) (hD : 22 ≤ D) (hL : L.length = nL) (hcat : (S.map fun v => v.category).sum ≤ 8) (hce : ce + 1 ≤ mx ∧ sl + 6 ≤ sx) (dd : Dx cc pc (.invokestatic idx) 3 pc')
    (kx : ∀ (z : Int) (W : Wo), Rg z → DP M σ n0 hh 2 a 0 z W → KU ω W → J Γ p l e (rmk D mx sx) s m args below meth c Q n (ce + 1) (sl + 6) pc' L (.int (iI z) :: S) W κ) : J Γ p l e (rmk D mx sx) s m args below meth c Q n ce sl pc L (.int (iI a) :: .ref (rl Γ 0) :: S) ω κ := by
  refine j_cMW (as := [.ref (rl Γ 0), .int (iI a)]) (k := 1) C hK3 hn9 hκ (fun h => w_train (Γ := re Γ (gN Γ) h) (by decide) (c_X8_train (Γ := re Γ (gN Γ) h) hsl hV.cr hV.st hV.ri hV.wi ha hM hV.pa) (fun E ω1 hE => hE.1)) o_w_train K ⟨by omega, by decide⟩ rfl hL hcat ⟨by omega, by omega⟩ dd (fun z ω' hz hp => ?_)
  rcases hp with ⟨q1, q2, q3, q4, q5, q6⟩ | ⟨rfl, -, qj, rfl⟩
  · have g := ad_z hV.ri hV.wi hV.wj (by omega) (d := 2) (by decide) q1
    rw [← q2] at g
    exact kx z _ hz (Or.inl ⟨g.1, g.2, (hV.deed hM (by decide) q1 q3 q4 q5 q6).mx, ad_2 hV.ri (by omega) (by decide) q1⟩) (KT.kq q6).mxk
  · refine kx _ _ hz (Or.inr ⟨rfl, (((hV.rF (Or.inr (Or.inr rfl))).rF (Or.inl rfl)).rF (Or.inr (Or.inl rfl))).mx, qj⟩) ?_
    exact (((KT.rF (Or.inr (Or.inr rfl))).tr (KT.rF (Or.inl rfl))).tr (KT.rF (Or.inr (Or.inl rfl)))).mxk
set_option maxRecDepth 100000 in
set_option maxHeartbeats 4000000 in
theorem j_d_boat {a b : Int} (C : Cx Γ p l s m args meth c cc own nL) (hK3 : Kt3 s) (hn9 : 243 ≤ n) (hκ : Kl κ n) (hsl : l.stackTraces = false) (hV : INV M ω σ n0 hh) (hM : M + 3200 ≤ 100000000) (ha : Rg a) (hb : Rg b) (K : Lk own idx yL_boat) (hD : 22 ≤ D) (hL : L.length = nL) (hcat : (S.map fun v => v.category).sum ≤ 8) (hce : ce + 1 ≤ mx ∧ sl + 6 ≤ sx) (dd : Dx cc pc (.invokestatic idx) 3 pc')
    (kx : ∀ (z : Int) (W : Wo), Rg z → DP M σ n0 hh 3 a b z W → KU ω W → J Γ p l e (rmk D mx sx) s m args below meth c Q n (ce + 1) (sl + 6) pc' L (.int (iI z) :: S) W κ) : J Γ p l e (rmk D mx sx) s m args below meth c Q n ce sl pc L (.int (iI b) :: .int (iI a) :: .ref (rl Γ 0) :: S) ω κ := by
  refine j_cMW (as := [.ref (rl Γ 0), .int (iI a), .int (iI b)]) (k := 1) C hK3 hn9 hκ (fun h => w_boat (Γ := re Γ (gN Γ) h) (by decide) (c_X8_boat (Γ := re Γ (gN Γ) h) hsl hV.cr hV.st hV.ri hV.wi ha hb hM hV.pa) (fun E ω1 hE => hE.1)) o_w_boat K ⟨by omega, by decide⟩ rfl hL hcat ⟨by omega, by omega⟩ dd (fun z ω' hz hp => ?_)
  rcases hp with ⟨q1, q2, q3, q4, q5, q6⟩ | ⟨rfl, -, qj, rfl⟩
  · have g := ad_z hV.ri hV.wi hV.wj (by omega) (d := 3) (by decide) q1
    rw [← q2] at g
    exact kx z _ hz (Or.inl ⟨g.1, g.2, (hV.deed hM (by decide) q1 q3 q4 q5 q6).mx, ad_2 hV.ri (by omega) (by decide) q1⟩) (KT.kq q6).mxk
  · refine kx _ _ hz (Or.inr ⟨rfl, (((hV.rF (Or.inr (Or.inr rfl))).rF (Or.inl rfl)).rF (Or.inr (Or.inl rfl))).mx, qj⟩) ?_
    exact (((KT.rF (Or.inr (Or.inr rfl))).tr (KT.rF (Or.inl rfl))).tr (KT.rF (Or.inr (Or.inl rfl)))).mxk
set_option maxRecDepth 100000 in
set_option maxHeartbeats 4000000 in
theorem j_d_call {a b : Int} (C : Cx Γ p l s m args meth c cc own nL) (hK3 : Kt3 s) (hn9 : 243 ≤ n) (hκ : Kl κ n) (hsl : l.stackTraces = false) (hV : INV M ω σ n0 hh) (hM : M + 3200 ≤ 100000000) (ha : Rg a) (hb : Rg b) (K : Lk own idx yL_call) (hD : 22 ≤ D) (hL : L.length = nL) (hcat : (S.map fun v => v.category).sum ≤ 8) (hce : ce + 1 ≤ mx ∧ sl + 6 ≤ sx) (dd : Dx cc pc (.invokestatic idx) 3 pc')
    (kx : ∀ (z : Int) (W : Wo), Rg z → DP M σ n0 hh 4 a b z W → KU ω W → J Γ p l e (rmk D mx sx) s m args below meth c Q n (ce + 1) (sl + 6) pc' L (.int (iI z) :: S) W κ) : J Γ p l e (rmk D mx sx) s m args below meth c Q n ce sl pc L (.int (iI b) :: .int (iI a) :: .ref (rl Γ 0) :: S) ω κ := by
  refine j_cMW (as := [.ref (rl Γ 0), .int (iI a), .int (iI b)]) (k := 1) C hK3 hn9 hκ (fun h => w_call (Γ := re Γ (gN Γ) h) (by decide) (c_X8_call (Γ := re Γ (gN Γ) h) hsl hV.cr hV.st hV.ri hV.wi ha hb hM hV.pa) (fun E ω1 hE => hE.1)) o_w_call K ⟨by omega, by decide⟩ rfl hL hcat ⟨by omega, by omega⟩ dd (fun z ω' hz hp => ?_)
  rcases hp with ⟨q1, q2, q3, q4, q5, q6⟩ | ⟨rfl, -, qj, rfl⟩
  · have g := ad_z hV.ri hV.wi hV.wj (by omega) (d := 4) (by decide) q1
    rw [← q2] at g
    exact kx z _ hz (Or.inl ⟨g.1, g.2, (hV.deed hM (by decide) q1 q3 q4 q5 q6).mx, ad_2 hV.ri (by omega) (by decide) q1⟩) (KT.kq q6).mxk
  · refine kx _ _ hz (Or.inr ⟨rfl, (((hV.rF (Or.inr (Or.inr rfl))).rF (Or.inl rfl)).rF (Or.inr (Or.inl rfl))).mx, qj⟩) ?_
    exact (((KT.rF (Or.inr (Or.inr rfl))).tr (KT.rF (Or.inl rfl))).tr (KT.rF (Or.inr (Or.inl rfl)))).mxk
set_option maxRecDepth 100000 in
set_option maxHeartbeats 4000000 in
theorem j_d_borrow {a b : Int} (C : Cx Γ p l s m args meth c cc own nL) (hK3 : Kt3 s) (hn9 : 243 ≤ n) (hκ : Kl κ n) (hsl : l.stackTraces = false) (hV : INV M ω σ n0 hh) (hM : M + 3200 ≤ 100000000) (ha : Rg a) (hb : Rg b) (K : Lk own idx yL_borrow) (hD : 22 ≤ D) (hL : L.length = nL) (hcat : (S.map fun v => v.category).sum ≤ 8) (hce : ce + 1 ≤ mx ∧ sl + 6 ≤ sx) (dd : Dx cc pc (.invokestatic idx) 3 pc')
    (kx : ∀ (z : Int) (W : Wo), Rg z → DP M σ n0 hh 5 a b z W → KU ω W → J Γ p l e (rmk D mx sx) s m args below meth c Q n (ce + 1) (sl + 6) pc' L (.int (iI z) :: S) W κ) : J Γ p l e (rmk D mx sx) s m args below meth c Q n ce sl pc L (.int (iI b) :: .int (iI a) :: .ref (rl Γ 0) :: S) ω κ := by
  refine j_cMW (as := [.ref (rl Γ 0), .int (iI a), .int (iI b)]) (k := 1) C hK3 hn9 hκ (fun h => w_borrow (Γ := re Γ (gN Γ) h) (by decide) (c_X8_borrow (Γ := re Γ (gN Γ) h) hsl hV.cr hV.st hV.ri hV.wi ha hb hM hV.pa) (fun E ω1 hE => hE.1)) o_w_borrow K ⟨by omega, by decide⟩ rfl hL hcat ⟨by omega, by omega⟩ dd (fun z ω' hz hp => ?_)
  rcases hp with ⟨q1, q2, q3, q4, q5, q6⟩ | ⟨rfl, -, qj, rfl⟩
  · have g := ad_z hV.ri hV.wi hV.wj (by omega) (d := 5) (by decide) q1
    rw [← q2] at g
    exact kx z _ hz (Or.inl ⟨g.1, g.2, (hV.deed hM (by decide) q1 q3 q4 q5 q6).mx, ad_2 hV.ri (by omega) (by decide) q1⟩) (KT.kq q6).mxk
  · refine kx _ _ hz (Or.inr ⟨rfl, (((hV.rF (Or.inr (Or.inr rfl))).rF (Or.inl rfl)).rF (Or.inr (Or.inl rfl))).mx, qj⟩) ?_
    exact (((KT.rF (Or.inr (Or.inr rfl))).tr (KT.rF (Or.inl rfl))).tr (KT.rF (Or.inr (Or.inl rfl)))).mxk
set_option maxRecDepth 100000 in
set_option maxHeartbeats 4000000 in
theorem j_d_giveBack {a : Int} (C : Cx Γ p l s m args meth c cc own nL) (hK3 : Kt3 s) (hn9 : 243 ≤ n) (hκ : Kl κ n) (hsl : l.stackTraces = false) (hV : INV M ω σ n0 hh) (hM : M + 3200 ≤ 100000000) (ha : Rg a) (K : Lk own idx yL_giveBack) (hD : 22 ≤ D) (hL : L.length = nL) (hcat : (S.map fun v => v.category).sum ≤ 8) (hce : ce + 1 ≤ mx ∧ sl + 6 ≤ sx) (dd : Dx cc pc (.invokestatic idx) 3 pc')
    (kx : ∀ (z : Int) (W : Wo), Rg z → DP M σ n0 hh 6 a 0 z W → KU ω W → J Γ p l e (rmk D mx sx) s m args below meth c Q n (ce + 1) (sl + 6) pc' L (.int (iI z) :: S) W κ) : J Γ p l e (rmk D mx sx) s m args below meth c Q n ce sl pc L (.int (iI a) :: .ref (rl Γ 0) :: S) ω κ := by
  refine j_cMW (as := [.ref (rl Γ 0), .int (iI a)]) (k := 1) C hK3 hn9 hκ (fun h => w_giveBack (Γ := re Γ (gN Γ) h) (by decide) (c_X8_giveBack (Γ := re Γ (gN Γ) h) hsl hV.cr hV.st hV.ri hV.wi ha hM hV.pa) (fun E ω1 hE => hE.1)) o_w_giveBack K ⟨by omega, by decide⟩ rfl hL hcat ⟨by omega, by omega⟩ dd (fun z ω' hz hp => ?_)
  rcases hp with ⟨q1, q2, q3, q4, q5, q6⟩ | ⟨rfl, -, qj, rfl⟩
  · have g := ad_z hV.ri hV.wi hV.wj (by omega) (d := 6) (by decide) q1
    rw [← q2] at g
    exact kx z _ hz (Or.inl ⟨g.1, g.2, (hV.deed hM (by decide) q1 q3 q4 q5 q6).mx, ad_2 hV.ri (by omega) (by decide) q1⟩) (KT.kq q6).mxk
  · refine kx _ _ hz (Or.inr ⟨rfl, (((hV.rF (Or.inr (Or.inr rfl))).rF (Or.inl rfl)).rF (Or.inr (Or.inl rfl))).mx, qj⟩) ?_
    exact (((KT.rF (Or.inr (Or.inr rfl))).tr (KT.rF (Or.inl rfl))).tr (KT.rF (Or.inr (Or.inl rfl)))).mxk
set_option maxRecDepth 100000 in
set_option maxHeartbeats 4000000 in
theorem j_d_limit {a : Int} (C : Cx Γ p l s m args meth c cc own nL) (hK3 : Kt3 s) (hn9 : 243 ≤ n) (hκ : Kl κ n) (hsl : l.stackTraces = false) (hV : INV M ω σ n0 hh) (hM : M + 3200 ≤ 100000000) (ha : Rg a) (K : Lk own idx yL_limit) (hD : 22 ≤ D) (hL : L.length = nL) (hcat : (S.map fun v => v.category).sum ≤ 8) (hce : ce + 1 ≤ mx ∧ sl + 6 ≤ sx) (dd : Dx cc pc (.invokestatic idx) 3 pc')
    (kx : ∀ (z : Int) (W : Wo), Rg z → DP M σ n0 hh 7 a 0 z W → KU ω W → J Γ p l e (rmk D mx sx) s m args below meth c Q n (ce + 1) (sl + 6) pc' L (.int (iI z) :: S) W κ) : J Γ p l e (rmk D mx sx) s m args below meth c Q n ce sl pc L (.int (iI a) :: .ref (rl Γ 0) :: S) ω κ := by
  refine j_cMW (as := [.ref (rl Γ 0), .int (iI a)]) (k := 1) C hK3 hn9 hκ (fun h => w_limit (Γ := re Γ (gN Γ) h) (by decide) (c_X8_limit (Γ := re Γ (gN Γ) h) hsl hV.cr hV.st hV.ri hV.wi ha hM hV.pa) (fun E ω1 hE => hE.1)) o_w_limit K ⟨by omega, by decide⟩ rfl hL hcat ⟨by omega, by omega⟩ dd (fun z ω' hz hp => ?_)
  rcases hp with ⟨q1, q2, q3, q4, q5, q6⟩ | ⟨rfl, -, qj, rfl⟩
  · have g := ad_z hV.ri hV.wi hV.wj (by omega) (d := 7) (by decide) q1
    rw [← q2] at g
    exact kx z _ hz (Or.inl ⟨g.1, g.2, (hV.deed hM (by decide) q1 q3 q4 q5 q6).mx, ad_2 hV.ri (by omega) (by decide) q1⟩) (KT.kq q6).mxk
  · refine kx _ _ hz (Or.inr ⟨rfl, (((hV.rF (Or.inr (Or.inr rfl))).rF (Or.inl rfl)).rF (Or.inr (Or.inl rfl))).mx, qj⟩) ?_
    exact (((KT.rF (Or.inr (Or.inr rfl))).tr (KT.rF (Or.inl rfl))).tr (KT.rF (Or.inr (Or.inl rfl)))).mxk
set_option maxRecDepth 100000 in
set_option maxHeartbeats 4000000 in
theorem j_d_pass {a : Int} (C : Cx Γ p l s m args meth c cc own nL) (hK3 : Kt3 s) (hn9 : 243 ≤ n) (hκ : Kl κ n) (hsl : l.stackTraces = false) (hV : INV M ω σ n0 hh) (hM : M + 3200 ≤ 100000000) (ha : Rg a) (K : Lk own idx yL_pass) (hD : 22 ≤ D) (hL : L.length = nL) (hcat : (S.map fun v => v.category).sum ≤ 8) (hce : ce + 1 ≤ mx ∧ sl + 6 ≤ sx) (dd : Dx cc pc (.invokestatic idx) 3 pc')
    (kx : ∀ (z : Int) (W : Wo), Rg z → DP M σ n0 hh 8 a 0 z W → KU ω W → J Γ p l e (rmk D mx sx) s m args below meth c Q n (ce + 1) (sl + 6) pc' L (.int (iI z) :: S) W κ) : J Γ p l e (rmk D mx sx) s m args below meth c Q n ce sl pc L (.int (iI a) :: .ref (rl Γ 0) :: S) ω κ := by
  refine j_cMW (as := [.ref (rl Γ 0), .int (iI a)]) (k := 1) C hK3 hn9 hκ (fun h => w_pass (Γ := re Γ (gN Γ) h) (by decide) (c_X8_pass (Γ := re Γ (gN Γ) h) hsl hV.cr hV.st hV.ri hV.wi ha hM hV.pa) (fun E ω1 hE => hE.1)) o_w_pass K ⟨by omega, by decide⟩ rfl hL hcat ⟨by omega, by omega⟩ dd (fun z ω' hz hp => ?_)
  rcases hp with ⟨q1, q2, q3, q4, q5, q6⟩ | ⟨rfl, -, qj, rfl⟩
  · have g := ad_z hV.ri hV.wi hV.wj (by omega) (d := 8) (by decide) q1
    rw [← q2] at g
    exact kx z _ hz (Or.inl ⟨g.1, g.2, (hV.deed hM (by decide) q1 q3 q4 q5 q6).mx, ad_2 hV.ri (by omega) (by decide) q1⟩) (KT.kq q6).mxk
  · refine kx _ _ hz (Or.inr ⟨rfl, (((hV.rF (Or.inr (Or.inr rfl))).rF (Or.inl rfl)).rF (Or.inr (Or.inl rfl))).mx, qj⟩) ?_
    exact (((KT.rF (Or.inr (Or.inr rfl))).tr (KT.rF (Or.inl rfl))).tr (KT.rF (Or.inr (Or.inl rfl)))).mxk
end WQ
