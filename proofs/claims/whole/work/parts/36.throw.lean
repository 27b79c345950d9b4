/-! throws -/
abbrev nmsX : List String := ["java/lang/RuntimeException", "java/lang/Exception"]
def thw (own : String) (ik ic : Nat) (cls : String) : List Cond := Cond.classLink own ik cls :: Cond.initialized cls :: vx_atS own ic cls nmsX
def thb (own : String) (ik ic : Nat) (cls : String) : Bool := (thw own ik ic cls).all fun w => lw_tbl.any (fun v => decide (v = w)) && goodWord w && vx_ot w
def Th (own : String) (ik ic : Nat) (cls : String) : Prop := (∀ w ∈ thw own ik ic cls, w ∈ WS ∧ vx_ot w = true) ∧ Bundle.fit cls = true ∧ ∀ n ∈ nmsX, Bundle.fit n = true
theorem Th_of {own : String} {ik ic : Nat} {cls : String} (h : thb own ik ic cls = true) (h1 : Bundle.fit cls = true) (h2 : nmsX.all Bundle.fit = true) : Th own ik ic cls := by
  refine ⟨fun w hw => ?_, h1, fun n hn => List.all_eq_true.mp h2 n hn⟩
  have q := List.all_eq_true.mp h w hw
  simp only [Bool.and_eq_true] at q
  obtain ⟨⟨q1, q2⟩, q3⟩ := q
  obtain ⟨v, hv, he⟩ := List.any_eq_true.mp q1
  have e := of_decide_eq_true he
  subst e
  exact ⟨List.mem_filter.mpr ⟨hv, q2⟩, q3⟩
