/-! the law's questions to the class, beside its own cells -/
theorem qAcc_ok {s : Row} {u w a : Int} (h : 0 ≤ a ∧ a ≤ 12) : (qAcc s u w a).1 ≠ 1 := by
  unfold qAcc
  rw [if_neg (not_not_intro h)]
  repeat' split
  all_goals exact (by decide : (0 : Int) ≠ 1)
theorem qAcc_n {s : Row} {u w a : Int} (h : 0 ≤ a ∧ a ≤ 10) : qAcc s u w a = qAcc s 0 0 a := by
  unfold qAcc
  by_cases e0 : a = 0
  · subst e0; rfl
  by_cases e1 : a = 1
  · subst e1; rfl
  by_cases e2 : a = 2
  · subst e2; rfl
  by_cases e3 : a = 3
  · subst e3; rfl
  by_cases e4 : a = 4
  · subst e4; rfl
  by_cases e5 : a = 5
  · subst e5; rfl
  by_cases e6 : a = 6
  · subst e6; rfl
  by_cases e7 : a = 7
  · subst e7; rfl
  by_cases e8 : a = 8
  · subst e8; rfl
  by_cases e9 : a = 9
  · subst e9; rfl
  have : a = 10 := by omega
  subst this; rfl
def vAcc (s : Row) (a : Int) : Int := (qAcc s 0 0 a).2
theorem vAcc_1 (s : Row) : vAcc s 1 = s 1 := rfl
theorem vAcc_2 (s : Row) : vAcc s 2 = s 1 - stayN s := rfl
theorem vAcc_3 (s : Row) : vAcc s 3 = s 2 := rfl
theorem vAcc_4 (s : Row) : vAcc s 4 = bOutUp s (cB s) := rfl
theorem vAcc_5 (s : Row) : vAcc s 5 = s 3 := rfl
theorem vAcc_6 (s : Row) : vAcc s 6 = allO s := rfl
theorem vAcc_7 (s : Row) : vAcc s 7 = s 4 := rfl
theorem vAcc_8 (s : Row) : vAcc s 8 = s 5 := rfl
theorem vAcc_10 (s : Row) : vAcc s 10 = s 7 := rfl
def vMem (s : Row) (a b : Int) : Int := (qMember s a b).2
theorem vMem_e {s : Row} {a b : Int} (ha : 0 ≤ a ∧ a ≤ s 1 - 1) (hb : 0 ≤ b ∧ b ≤ 7) : vMem s a b = if b = 4 then (if sM s a 1 = 0 ∧ sM s a 2 < s 7 then 1 else 0) else if 4 < b then sM s a (b - 1) else sM s a b := by
  unfold vMem qMember
  rw [if_neg (not_not_intro ha), if_neg (not_not_intro hb)]
  split <;> rfl
theorem qMem_ok {s : Row} {a b : Int} (ha : 0 ≤ a ∧ a ≤ s 1 - 1) (hb : 0 ≤ b ∧ b ≤ 7) : (qMember s a b).1 = 0 := by
  unfold qMember
  rw [if_neg (not_not_intro ha), if_neg (not_not_intro hb)]
  split <;> rfl
def vBoa (s : Row) (a b : Int) : Int := (qBoat s a b).2
theorem qBoa_ok {s : Row} {a b : Int} (ha : 0 ≤ a ∧ a ≤ s 2 - 1) (hb : 0 ≤ b ∧ b ≤ 6) : (qBoat s a b).1 = 0 ∧ vBoa s a b = sB s a b := by
  unfold vBoa qBoat
  rw [if_neg (not_not_intro ha), if_neg (not_not_intro hb)]
  exact ⟨rfl, rfl⟩
def vLoa (s : Row) (a b : Int) : Int := (qLoan s a b).2
theorem qLoa_ok {s : Row} {a b : Int} (ha : 0 ≤ a ∧ a ≤ s 3 - 1) (hb : 0 ≤ b ∧ b ≤ 2) : (qLoan s a b).1 = 0 ∧ vLoa s a b = sL s a b := by
  unfold vLoa qLoan
  rw [if_neg (not_not_intro ha), if_neg (not_not_intro hb)]
  exact ⟨rfl, rfl⟩
def vCrw (s : Row) (a : Int) : Int := (qCrew s a).2
theorem qCrw_ok {s : Row} {a : Int} (ha : 0 ≤ a ∧ a ≤ s 2 - 1) : (qCrew s a).1 = 0 ∧ vCrw s a = (crewO s a : Int) := by
  unfold vCrw qCrew
  rw [if_neg (not_not_intro ha)]
  exact ⟨rfl, rfl⟩
section ASKS
variable {κ : Nat → Nat} {Γ : Ga} {p : Program} {l : Launch} {e : Env} {R : Room} {s : State} {m : MethodId} {args : Array Value} {below : List Frame} {meth : Method} {c : Code} {Q : State → Prop} {n ce sl : Nat} {cc : ByteArray} {own : String} {nL pc pc' idx a kk k : Nat} {L : List (Option Value)} {S : List Value} {ω : Wo} {D mx sx : Nat} {M : Int} {σ : Row} {n0 : Nat} {hh : Nat → Row}
set_option maxRecDepth 100000 in
set_option maxHeartbeats 4000000 in
theorem j_acc {a : Int} (C : Cx Γ p l s m args meth c cc own nL) (hK3 : Kt3 s) (hn9 : 243 ≤ n) (hκ : Kl κ n) (hsl : l.stackTraces = false) (hV : INV M ω σ n0 hh) (ha : 0 ≤ a ∧ a ≤ 10) (K : Lk own idx yX8_account) (hD : 7 ≤ D) (hL : L.length = nL) (hcat : (S.map fun v => v.category).sum ≤ 8) (hce : ce + 1 ≤ mx ∧ sl + 6 ≤ sx) (dd : Dx cc pc (.invokevirtual idx) 3 pc')
    (kx : Rg (vAcc σ a) → J Γ p l e (rmk D mx sx) s m args below meth c Q n (ce + 1) (sl + 6) pc' L (.int (iI (vAcc σ a)) :: S) ω κ) : J Γ p l e (rmk D mx sx) s m args below meth c Q n ce sl pc L (.int (iI a) :: .ref (rl Γ 0) :: S) ω κ := by
  refine j_cMX (as := [.int (iI a)]) (k := 1) C hK3 hn9 hκ (fun h => c_X8_account (Γ := re Γ (gN Γ) h) hsl hV.cr hV.st hV.ri hV.wi (a := a) ⟨by omega, by omega⟩) oX8_account K ⟨_, rfl, rfl⟩ ⟨by omega, by decide⟩ rfl hL hcat ⟨by omega, by omega⟩ dd (fun E ω' hE => ?_) (fun z ω' hz hp => ?_)
  · exact absurd hE.2.2 (qAcc_ok ⟨ha.1, by omega⟩)
  · obtain ⟨rfl, -, rfl⟩ := hp
    rw [mx_self]
    rw [qAcc_n ha] at hz ⊢
    exact kx hz
set_option maxRecDepth 100000 in
set_option maxHeartbeats 4000000 in
theorem j_accF {a : Int} (C : Cx Γ p l s m args meth c cc own nL) (hK3 : Kt3 s) (hn9 : 243 ≤ n) (hκ : Kl κ n) (hsl : l.stackTraces = false) (hV : INV M ω σ n0 hh) (ha : a = 11) (K : Lk own idx yX8_account) (hD : 7 ≤ D) (hL : L.length = nL) (hcat : (S.map fun v => v.category).sum ≤ 8) (hce : ce + 1 ≤ mx ∧ sl + 6 ≤ sx) (dd : Dx cc pc (.invokevirtual idx) 3 pc')
    (kx : Rg (ω.1 0 5) → J Γ p l e (rmk D mx sx) s m args below meth c Q n (ce + 1) (sl + 6) pc' L (.int (iI (ω.1 0 5)) :: S) ω κ) : J Γ p l e (rmk D mx sx) s m args below meth c Q n ce sl pc L (.int (iI a) :: .ref (rl Γ 0) :: S) ω κ := by
  refine j_cMX (as := [.int (iI a)]) (k := 1) C hK3 hn9 hκ (fun h => c_X8_account (Γ := re Γ (gN Γ) h) hsl hV.cr hV.st hV.ri hV.wi (a := a) ⟨by omega, by omega⟩) oX8_account K ⟨_, rfl, rfl⟩ ⟨by omega, by decide⟩ rfl hL hcat ⟨by omega, by omega⟩ dd (fun E ω' hE => ?_) (fun z ω' hz hp => ?_)
  · exact absurd hE.2.2 (qAcc_ok ⟨by omega, by omega⟩)
  · obtain ⟨rfl, -, rfl⟩ := hp
    rw [mx_self]
    have e9 : (qAcc σ (ω.1 0 5) (ω.1 68 1) a).2 = ω.1 0 5 := by rw [ha]; rfl
    rw [e9] at hz ⊢
    exact kx hz
set_option maxRecDepth 100000 in
set_option maxHeartbeats 4000000 in
theorem j_accT {a : Int} (C : Cx Γ p l s m args meth c cc own nL) (hK3 : Kt3 s) (hn9 : 243 ≤ n) (hκ : Kl κ n) (hsl : l.stackTraces = false) (hV : INV M ω σ n0 hh) (ha : a = 12) (K : Lk own idx yX8_account) (hD : 7 ≤ D) (hL : L.length = nL) (hcat : (S.map fun v => v.category).sum ≤ 8) (hce : ce + 1 ≤ mx ∧ sl + 6 ≤ sx) (dd : Dx cc pc (.invokevirtual idx) 3 pc')
    (kx : Rg (ω.1 68 1) → J Γ p l e (rmk D mx sx) s m args below meth c Q n (ce + 1) (sl + 6) pc' L (.int (iI (ω.1 68 1)) :: S) ω κ) : J Γ p l e (rmk D mx sx) s m args below meth c Q n ce sl pc L (.int (iI a) :: .ref (rl Γ 0) :: S) ω κ := by
  refine j_cMX (as := [.int (iI a)]) (k := 1) C hK3 hn9 hκ (fun h => c_X8_account (Γ := re Γ (gN Γ) h) hsl hV.cr hV.st hV.ri hV.wi (a := a) ⟨by omega, by omega⟩) oX8_account K ⟨_, rfl, rfl⟩ ⟨by omega, by decide⟩ rfl hL hcat ⟨by omega, by omega⟩ dd (fun E ω' hE => ?_) (fun z ω' hz hp => ?_)
  · exact absurd hE.2.2 (qAcc_ok ⟨by omega, by omega⟩)
  · obtain ⟨rfl, -, rfl⟩ := hp
    rw [mx_self]
    have e9 : (qAcc σ (ω.1 0 5) (ω.1 68 1) a).2 = ω.1 68 1 := by rw [ha]; rfl
    rw [e9] at hz ⊢
    exact kx hz
set_option maxRecDepth 100000 in
set_option maxHeartbeats 4000000 in
theorem j_mem {a b : Int} (C : Cx Γ p l s m args meth c cc own nL) (hK3 : Kt3 s) (hn9 : 243 ≤ n) (hκ : Kl κ n) (hsl : l.stackTraces = false) (hV : INV M ω σ n0 hh) (ha : 0 ≤ a ∧ a ≤ σ 1 - 1) (hb : 0 ≤ b ∧ b ≤ 7) (K : Lk own idx yX8_memberOf) (hD : 7 ≤ D) (hL : L.length = nL) (hcat : (S.map fun v => v.category).sum ≤ 8) (hce : ce + 1 ≤ mx ∧ sl + 6 ≤ sx) (dd : Dx cc pc (.invokevirtual idx) 3 pc')
    (kx : Rg (vMem σ a b) → J Γ p l e (rmk D mx sx) s m args below meth c Q n (ce + 1) (sl + 6) pc' L (.int (iI (vMem σ a b)) :: S) ω κ) : J Γ p l e (rmk D mx sx) s m args below meth c Q n ce sl pc L (.int (iI b) :: .int (iI a) :: .ref (rl Γ 0) :: S) ω κ := by
  have gs := hV.ri.s
  refine j_cMX (as := [.int (iI a), .int (iI b)]) (k := 1) C hK3 hn9 hκ (fun h => c_X8_memberOf (Γ := re Γ (gN Γ) h) hsl hV.cr hV.st hV.ri hV.wi (a := a) (b := b) ⟨by omega, by omega⟩ ⟨by omega, by omega⟩) oX8_memberOf K ⟨_, rfl, rfl⟩ ⟨by omega, by decide⟩ rfl hL hcat ⟨by omega, by omega⟩ dd (fun E ω' hE => ?_) (fun z ω' hz hp => ?_)
  · have q := qMem_ok ha hb
    rcases hE.2 with ⟨-, r⟩ | ⟨-, r⟩ <;> rw [q] at r <;> exact absurd r (by decide)
  · obtain ⟨rfl, -, rfl⟩ := hp
    rw [mx_self]
    exact kx hz
set_option maxRecDepth 100000 in
set_option maxHeartbeats 4000000 in
theorem j_boa {a b : Int} (C : Cx Γ p l s m args meth c cc own nL) (hK3 : Kt3 s) (hn9 : 243 ≤ n) (hκ : Kl κ n) (hsl : l.stackTraces = false) (hV : INV M ω σ n0 hh) (ha : 0 ≤ a ∧ a ≤ σ 2 - 1) (hb : 0 ≤ b ∧ b ≤ 6) (K : Lk own idx yX8_boatOf) (hD : 8 ≤ D) (hL : L.length = nL) (hcat : (S.map fun v => v.category).sum ≤ 8) (hce : ce + 2 ≤ mx ∧ sl + 12 ≤ sx) (dd : Dx cc pc (.invokevirtual idx) 3 pc')
    (kx : Rg (vBoa σ a b) → J Γ p l e (rmk D mx sx) s m args below meth c Q n (ce + 2) (sl + 12) pc' L (.int (iI (vBoa σ a b)) :: S) ω κ) : J Γ p l e (rmk D mx sx) s m args below meth c Q n ce sl pc L (.int (iI b) :: .int (iI a) :: .ref (rl Γ 0) :: S) ω κ := by
  have gs := hV.ri.s
  refine j_cMX (as := [.int (iI a), .int (iI b)]) (k := 2) C hK3 hn9 hκ (fun h => c_X8_boatOf (Γ := re Γ (gN Γ) h) hsl hV.cr hV.st hV.ri hV.wi (a := a) (b := b) ⟨by omega, by omega⟩ ⟨by omega, by omega⟩) oX8_boatOf K ⟨_, rfl, rfl⟩ ⟨by omega, by decide⟩ rfl hL hcat ⟨by omega, by omega⟩ dd (fun E ω' hE => ?_) (fun z ω' hz hp => ?_)
  · have q := (qBoa_ok ha hb).1
    rcases hE.2 with ⟨-, r⟩ | ⟨-, r⟩ <;> rw [q] at r <;> exact absurd r (by decide)
  · obtain ⟨rfl, -, rfl⟩ := hp
    rw [mx_self]
    exact kx hz
set_option maxRecDepth 100000 in
set_option maxHeartbeats 4000000 in
theorem j_loa {a b : Int} (C : Cx Γ p l s m args meth c cc own nL) (hK3 : Kt3 s) (hn9 : 243 ≤ n) (hκ : Kl κ n) (hsl : l.stackTraces = false) (hV : INV M ω σ n0 hh) (ha : 0 ≤ a ∧ a ≤ σ 3 - 1) (hb : 0 ≤ b ∧ b ≤ 2) (K : Lk own idx yX8_loanOf) (hD : 7 ≤ D) (hL : L.length = nL) (hcat : (S.map fun v => v.category).sum ≤ 8) (hce : ce + 1 ≤ mx ∧ sl + 6 ≤ sx) (dd : Dx cc pc (.invokevirtual idx) 3 pc')
    (kx : Rg (vLoa σ a b) → J Γ p l e (rmk D mx sx) s m args below meth c Q n (ce + 1) (sl + 6) pc' L (.int (iI (vLoa σ a b)) :: S) ω κ) : J Γ p l e (rmk D mx sx) s m args below meth c Q n ce sl pc L (.int (iI b) :: .int (iI a) :: .ref (rl Γ 0) :: S) ω κ := by
  have gs := hV.ri.s
  refine j_cMX (as := [.int (iI a), .int (iI b)]) (k := 1) C hK3 hn9 hκ (fun h => c_X8_loanOf (Γ := re Γ (gN Γ) h) hsl hV.cr hV.st hV.ri hV.wi (a := a) (b := b) ⟨by omega, by omega⟩ ⟨by omega, by omega⟩) oX8_loanOf K ⟨_, rfl, rfl⟩ ⟨by omega, by decide⟩ rfl hL hcat ⟨by omega, by omega⟩ dd (fun E ω' hE => ?_) (fun z ω' hz hp => ?_)
  · have q := (qLoa_ok ha hb).1
    rcases hE.2 with ⟨-, r⟩ | ⟨-, r⟩ <;> rw [q] at r <;> exact absurd r (by decide)
  · obtain ⟨rfl, -, rfl⟩ := hp
    rw [mx_self]
    exact kx hz
set_option maxRecDepth 100000 in
set_option maxHeartbeats 4000000 in
theorem j_crw {a : Int} (C : Cx Γ p l s m args meth c cc own nL) (hK3 : Kt3 s) (hn9 : 243 ≤ n) (hκ : Kl κ n) (hsl : l.stackTraces = false) (hV : INV M ω σ n0 hh) (ha : 0 ≤ a ∧ a ≤ σ 2 - 1) (K : Lk own idx yX8_crew) (hD : 8 ≤ D) (hL : L.length = nL) (hcat : (S.map fun v => v.category).sum ≤ 8) (hce : ce + 1 ≤ mx ∧ sl + 6 ≤ sx) (dd : Dx cc pc (.invokevirtual idx) 3 pc')
    (kx : Rg (vCrw σ a) → J Γ p l e (rmk D mx sx) s m args below meth c Q n (ce + 1) (sl + 6) pc' L (.int (iI (vCrw σ a)) :: S) ω κ) : J Γ p l e (rmk D mx sx) s m args below meth c Q n ce sl pc L (.int (iI a) :: .ref (rl Γ 0) :: S) ω κ := by
  have gs := hV.ri.s
  refine j_cMX (as := [.int (iI a)]) (k := 1) C hK3 hn9 hκ (fun h => c_X8_crew (Γ := re Γ (gN Γ) h) hsl hV.cr hV.st hV.ri hV.wi (a := a) ⟨by omega, by omega⟩) oX8_crew K ⟨_, rfl, rfl⟩ ⟨by omega, by decide⟩ rfl hL hcat ⟨by omega, by omega⟩ dd (fun E ω' hE => ?_) (fun z ω' hz hp => ?_)
  · have q := (qCrw_ok ha).1
    have r := hE.2.2
    rw [q] at r; exact absurd r (by decide)
  · obtain ⟨rfl, -, rfl⟩ := hp
    rw [mx_self]
    exact kx hz
end ASKS
