/-! the text of commands, wherever the reader stands -/
set_option maxRecDepth 100000 in
set_option maxHeartbeats 4000000 in
theorem c_X6_read9 {Γ : Ga} {l : Launch} {ω : Wo} (hR : CR ω) {n : Nat} (hn : ω.1 68 1 = (n : Int)) (hn6 : n ≤ 60) : CI Γ l yX6_read cX6_read 3 .int 3 [.ref (rl Γ 68)] ω (fun z ω' => z = (prs (ω.1 69) n 21 0).1 ∧ KR ω ω' ∧ ((prs (ω.1 69) n 21 0).1 = -1 → (prs (ω.1 69) n 21 0).2 ≤ 20 ∧ SP ω' (prs (ω.1 69) n 21 0).2 (tD (ω.1 69) n) (tA (ω.1 69) n) (tB (ω.1 69) n))) := by
  refine Met.ofJ (k := 2) [some (.ref (rl Γ 68)), none, none] (by decide) rfl rfl rfl (fun p e s mm args below meth c C hrt => ?_)
  refine j_aload0 C dX6_read_0 ?_
  refine j_iconst C dX6_read_1 ?_
  refine j_putI C fX6_32 at_68 rfl ty_6_5 ⟨by omega, by omega⟩ dX6_read_2 ?_
  refine j_aload0 C dX6_read_5 ?_
  refine j_iconst C dX6_read_6 ?_
  refine j_putI C fX6_35 at_68 rfl ty_6_6 ⟨by omega, by omega⟩ dX6_read_7 ?_
  have hW0 : RD ω (wi (wi ω 68 5 0) 68 6 0) n 0 0 := ⟨((KR.rf ω).wi (Or.inl rfl) _).wi (Or.inr rfl) _, by rw [wi_wf, wf_same, up_same]; rfl, fun j hj => absurd hj (by omega)⟩
  refine j_iconst C dX6_read_10 ?_
  refine j_istore1 C rfl dX6_read_11 ?_
  refine j_iconst C dX6_read_12 ?_
  refine j_istore2 C rfl dX6_read_13 ?_
  have loop14 : ∀ (N : Nat) (k h : Nat) (d : Int) (W : Wo), (20 - k) < N → (k ≤ 20) → (h ≤ n) → (RD ω W n k h) → (W.1 68 5 = (k : Int)) → (∀ j, j < k → psn (ω.1 69) n j ≤ n) → ((d = 1 ∧ h = (psn (ω.1 69) n k) ∧ prs (ω.1 69) n 21 0 = prs (ω.1 69) n (21 - k) k ∧ 3 * k ≤ (psn (ω.1 69) n k)) ∨ (d = 0 ∧ prs (ω.1 69) n 21 0 = (if h = n then -1 else (h : Int), k))) → J Γ p l e (rmk 3 0 0) s mm args below meth c (MQ below (QI Γ (fun z ω' => z = (prs (ω.1 69) n 21 0).1 ∧ KR ω ω' ∧ ((prs (ω.1 69) n 21 0).1 = -1 → (prs (ω.1 69) n 21 0).2 ≤ 20 ∧ SP ω' (prs (ω.1 69) n 21 0).2 (tD (ω.1 69) n) (tA (ω.1 69) n) (tB (ω.1 69) n)))) args s 0 0 (gA Γ)) 243 0 0 14 [some (.ref (rl Γ 68)), some (.int (iI d)), some (.int (iI ((k : Nat) : Int)))] [] W := by
    intro N
    induction N with
    | zero => intro k h d W hN; exact absurd hN (Nat.not_lt_zero _)
    | succ N ih14 =>
      intro k h d W hN hk0 hhn hRD h5W hpn hst
      have hRW := hRD.1.cr hR
      have hhW := hRD.2.1
      have hnW : W.1 68 1 = (n : Int) := (hRD.1.2.1 1 (by decide) (by decide)).trans hn
      have htW : W.1 69 = ω.1 69 := hRD.t
      refine j_iload2 C dX6_read_14 ?_
      refine j_bipush C (by decide) dX6_read_15 ?_
      refine j_icmp_ge C ⟨by omega, by omega⟩ ⟨by omega, by omega⟩ dX6_read_17 (fun hc17 => ?_) (fun hc17 => ?_)
      · -- 17 T
        refine j_iload1 C dX6_read_98 ?_
        refine j_if_ne C ⟨by omega, by omega⟩ dX6_read_99 (fun hc99 => ?_) (fun hc99 => ?_)
        · -- 99 T
          obtain ⟨hd1, hh9, hpr, h3k⟩ : d = 1 ∧ _ := hst.resolve_right (fun q => hc99 q.1)
          have hk20 : k = 20 := by omega
          subst hk20
          have hsn : sgn (ω.1 69) n (psn (ω.1 69) n 20) = -1 := sgn_out (by omega)
          have hno : ¬ cOk (ω.1 69) n (psn (ω.1 69) n 20) := fun q => q.1 (by rw [hsn]; rfl)
          have hz : prs (ω.1 69) n 21 0 = ((cEnd (ω.1 69) n (psn (ω.1 69) n 20) : Int), 20 + 1) := by rw [hpr]; exact prs_no hno
          have hce : cEnd (ω.1 69) n (psn (ω.1 69) n 20) = psn (ω.1 69) n 20 := if_pos (by rw [hsn]; rfl)
          have hfin : (h : Int) = (prs (ω.1 69) n 21 0).1 ∧ (prs (ω.1 69) n 21 0).1 ≠ -1 := by rw [hz, hce, hh9]; exact ⟨rfl, by show ¬ (psn _ _ _ : Int) = -1; omega⟩
          refine j_aload0 C dX6_read_113 ?_
          refine j_geti C fX6_35 at_68 rfl hhW dX6_read_114 (fun hr114 => ?_)
          refine j_goto C dX6_read_117 ?_
          refine j_iret C hrt dX6_read_121 ⟨by omega, by omega⟩ ?_
          first
          | exact ⟨hfin.1, hRD.1, fun q => absurd q hfin.2⟩
          | (rw [hfin]; exact ⟨rfl, hRD.1, fun _ => ⟨hk0, hRD.sp h5W hn6 hpn⟩⟩)
        · -- 99 F
          obtain ⟨hd0, hz⟩ : d = 0 ∧ _ := hst.resolve_left (fun q => by omega)
          refine j_aload0 C dX6_read_102 ?_
          refine j_geti C fX6_35 at_68 rfl hhW dX6_read_103 (fun hr103 => ?_)
          refine j_aload0 C dX6_read_106 ?_
          refine j_geti C fX6_15 at_68 rfl hnW dX6_read_107 (fun hr107 => ?_)
          refine j_icmp_ge C ⟨by omega, by omega⟩ ⟨by omega, by omega⟩ dX6_read_110 (fun hc110 => ?_) (fun hc110 => ?_)
          · -- 110 T
            have hfin : (prs (ω.1 69) n 21 0) = (-1, k) := by rw [hz, if_pos (by omega)]
            refine j_iconst C dX6_read_120 ?_
            refine j_iret C hrt dX6_read_121 ⟨by omega, by omega⟩ ?_
            first
            | exact ⟨hfin.1, hRD.1, fun q => absurd q hfin.2⟩
            | (rw [hfin]; exact ⟨rfl, hRD.1, fun _ => ⟨hk0, hRD.sp h5W hn6 hpn⟩⟩)
          · -- 110 F
            have hfin : (h : Int) = (prs (ω.1 69) n 21 0).1 ∧ (prs (ω.1 69) n 21 0).1 ≠ -1 := by rw [hz]; show (h : Int) = (if h = n then -1 else (h : Int)) ∧ (if h = n then -1 else (h : Int)) ≠ -1; rw [if_neg (by omega)]; exact ⟨rfl, by omega⟩
            refine j_aload0 C dX6_read_113 ?_
            refine j_geti C fX6_35 at_68 rfl hhW dX6_read_114 (fun hr114 => ?_)
            refine j_goto C dX6_read_117 ?_
            refine j_iret C hrt dX6_read_121 ⟨by omega, by omega⟩ ?_
            first
            | exact ⟨hfin.1, hRD.1, fun q => absurd q hfin.2⟩
            | (rw [hfin]; exact ⟨rfl, hRD.1, fun _ => ⟨hk0, hRD.sp h5W hn6 hpn⟩⟩)
      · -- 17 F
        refine j_iload1 C dX6_read_20 ?_
        refine j_if_eq C ⟨by omega, by omega⟩ dX6_read_21 (fun hc21 => ?_) (fun hc21 => ?_)
        · -- 21 T
          have hd0 : d = 0 := hc21
          refine j_iload1 C dX6_read_98 ?_
          refine j_if_ne C ⟨by omega, by omega⟩ dX6_read_99 (fun hc99 => ?_) (fun hc99 => ?_)
          · -- 99 T
            obtain ⟨hd1, hh9, hpr, h3k⟩ : d = 1 ∧ _ := hst.resolve_right (fun q => hc99 q.1)
            have hk20 : k = 20 := by omega
            subst hk20
            have hsn : sgn (ω.1 69) n (psn (ω.1 69) n 20) = -1 := sgn_out (by omega)
            have hno : ¬ cOk (ω.1 69) n (psn (ω.1 69) n 20) := fun q => q.1 (by rw [hsn]; rfl)
            have hz : prs (ω.1 69) n 21 0 = ((cEnd (ω.1 69) n (psn (ω.1 69) n 20) : Int), 20 + 1) := by rw [hpr]; exact prs_no hno
            have hce : cEnd (ω.1 69) n (psn (ω.1 69) n 20) = psn (ω.1 69) n 20 := if_pos (by rw [hsn]; rfl)
            have hfin : (h : Int) = (prs (ω.1 69) n 21 0).1 ∧ (prs (ω.1 69) n 21 0).1 ≠ -1 := by rw [hz, hce, hh9]; exact ⟨rfl, by show ¬ (psn _ _ _ : Int) = -1; omega⟩
            refine j_aload0 C dX6_read_113 ?_
            refine j_geti C fX6_35 at_68 rfl hhW dX6_read_114 (fun hr114 => ?_)
            refine j_goto C dX6_read_117 ?_
            refine j_iret C hrt dX6_read_121 ⟨by omega, by omega⟩ ?_
            first
            | exact ⟨hfin.1, hRD.1, fun q => absurd q hfin.2⟩
            | (rw [hfin]; exact ⟨rfl, hRD.1, fun _ => ⟨hk0, hRD.sp h5W hn6 hpn⟩⟩)
          · -- 99 F
            obtain ⟨hd0, hz⟩ : d = 0 ∧ _ := hst.resolve_left (fun q => by omega)
            refine j_aload0 C dX6_read_102 ?_
            refine j_geti C fX6_35 at_68 rfl hhW dX6_read_103 (fun hr103 => ?_)
            refine j_aload0 C dX6_read_106 ?_
            refine j_geti C fX6_15 at_68 rfl hnW dX6_read_107 (fun hr107 => ?_)
            refine j_icmp_ge C ⟨by omega, by omega⟩ ⟨by omega, by omega⟩ dX6_read_110 (fun hc110 => ?_) (fun hc110 => ?_)
            · -- 110 T
              have hfin : (prs (ω.1 69) n 21 0) = (-1, k) := by rw [hz, if_pos (by omega)]
              refine j_iconst C dX6_read_120 ?_
              refine j_iret C hrt dX6_read_121 ⟨by omega, by omega⟩ ?_
              first
              | exact ⟨hfin.1, hRD.1, fun q => absurd q hfin.2⟩
              | (rw [hfin]; exact ⟨rfl, hRD.1, fun _ => ⟨hk0, hRD.sp h5W hn6 hpn⟩⟩)
            · -- 110 F
              have hfin : (h : Int) = (prs (ω.1 69) n 21 0).1 ∧ (prs (ω.1 69) n 21 0).1 ≠ -1 := by rw [hz]; show (h : Int) = (if h = n then -1 else (h : Int)) ∧ (if h = n then -1 else (h : Int)) ≠ -1; rw [if_neg (by omega)]; exact ⟨rfl, by omega⟩
              refine j_aload0 C dX6_read_113 ?_
              refine j_geti C fX6_35 at_68 rfl hhW dX6_read_114 (fun hr114 => ?_)
              refine j_goto C dX6_read_117 ?_
              refine j_iret C hrt dX6_read_121 ⟨by omega, by omega⟩ ?_
              first
              | exact ⟨hfin.1, hRD.1, fun q => absurd q hfin.2⟩
              | (rw [hfin]; exact ⟨rfl, hRD.1, fun _ => ⟨hk0, hRD.sp h5W hn6 hpn⟩⟩)
        · -- 21 F
          obtain ⟨hd1, hh9, hpr, h3k⟩ : d = 1 ∧ _ := hst.resolve_right (fun q => hc21 q.1)
          subst hh9
          refine j_aload0 C dX6_read_24 ?_
          refine j_iload2 C dX6_read_25 ?_
          refine j_cVI1 C (c_X6_readCommand (by exact hRW) hnW hhW hn6 (by omega) (by omega)) oX6_readCommand kX6_38 ⟨_, rfl, rfl⟩ at_68 ⟨by decide, by decide⟩ rfl (Nat.le_of_ble_eq_true rfl) ⟨by decide, by decide⟩ dX6_read_26 ?_
          rintro z1 W1 hr26 hp26
          rw [htW] at hp26
          refine j_if_ne C ⟨by omega, by omega⟩ dX6_read_29 (fun hc29 => ?_) (fun hc29 => ?_)
          · -- 29 T
            obtain ⟨-, hok, rfl⟩ := hp26.resolve_right (fun q => hc29 q.1)
            have hW1 := hRD.st hok
            have hrg := cOk_rg hok
            have hRW1 : CR (RcW W n (psn (ω.1 69) n k) k) := hW1.1.cr hR
            have hn1 : (RcW W n (psn (ω.1 69) n k) k).1 68 1 = (n : Int) := (hW1.1.2.1 1 (by decide) (by decide)).trans hn
            have h51 : (RcW W n (psn (ω.1 69) n k) k).1 68 5 = (k : Int) := h5W
            have hW2 := hW1.p5 ((k : Int) + 1)
            have hh2 := hW2.2.1
            have hn2 : (wi (RcW W n (psn (ω.1 69) n k) k) 68 5 ((k : Int) + 1)).1 68 1 = (n : Int) := (hW2.1.2.1 1 (by decide) (by decide)).trans hn
            have hRW2 : CR (wi (RcW W n (psn (ω.1 69) n k) k) 68 5 ((k : Int) + 1)) := hW2.1.cr hR
            have h52 : (wi (RcW W n (psn (ω.1 69) n k) k) 68 5 ((k : Int) + 1)).1 68 5 = (k : Int) + 1 := by rw [wi_wf, wf_same, up_same]
            have ht2 : (wi (RcW W n (psn (ω.1 69) n k) k) 68 5 ((k : Int) + 1)).1 69 = ω.1 69 := hW2.t
            have hpe : prs (ω.1 69) n (21 - k) k = prs (ω.1 69) n ((20 - k) + 1) k := by rw [show 21 - k = (20 - k) + 1 by omega]
            refine j_aload0 C dX6_read_37 ?_
            refine j_dup C rfl dX6_read_38 ?_
            refine j_geti C fX6_32 at_68 rfl h51 dX6_read_39 (fun hr39 => ?_)
            refine j_iconst C dX6_read_42 ?_
            refine j_iadd C dX6_read_43 ?_
            refine j_putI C fX6_32 at_68 rfl ty_6_5 ⟨by omega, by omega⟩ dX6_read_44 ?_
            refine j_aload0 C dX6_read_47 ?_
            refine j_geti C fX6_35 at_68 rfl hh2 dX6_read_48 (fun hr48 => ?_)
            refine j_aload0 C dX6_read_51 ?_
            refine j_geti C fX6_15 at_68 rfl hn2 dX6_read_52 (fun hr52 => ?_)
            refine j_icmp_ge C ⟨by omega, by omega⟩ ⟨by omega, by omega⟩ dX6_read_55 (fun hc55 => ?_) (fun hc55 => ?_)
            · -- 55 T
              have hs9 : sgn (ω.1 69) n (cEnd (ω.1 69) n (psn (ω.1 69) n k)) = -1 := sgn_out (by omega)
              refine j_iconst C dX6_read_76 ?_
              refine j_istore1 C rfl dX6_read_77 ?_
              refine j_iload1 C dX6_read_78 ?_
              refine j_if_eq C (by decide) dX6_read_79 (fun _ => ?_) (fun hc => absurd hc (by decide))
              refine j_iinc2n C rfl dX6_read_92 ?_
              refine j_goto C dX6_read_95 ?_
              have hs59 : sgn (ω.1 69) n (cEnd (ω.1 69) n (psn (ω.1 69) n k)) ≠ 59 := by omega
              exact j_fg (ih14 (k + 1) (cEnd (ω.1 69) n (psn (ω.1 69) n k)) 0 (wi (RcW W n (psn (ω.1 69) n k) k) 68 5 ((k : Int) + 1)) (by omega) (by omega) (by omega) hW2 h52 (fun j hj => by
                by_cases e : j = k
                · subst e; exact hhn
                · exact hpn j (by omega)) (Or.inr ⟨rfl, by
                  rw [hpr, hpe]
                  by_cases e : (cEnd (ω.1 69) n (psn (ω.1 69) n k)) = n
                  · rw [if_pos e, prs_end hok hs59 e]
                  · rw [if_neg e, prs_flt hok hs59 e]⟩)) ⟨Or.inr rfl, Or.inr rfl, Or.inr rfl, trivial⟩ rfl
            · -- 55 F
              have hs9 : sgn (ω.1 69) n (cEnd (ω.1 69) n (psn (ω.1 69) n k)) = ω.1 69 (cEnd (ω.1 69) n (psn (ω.1 69) n k)) := sgn_in (by omega)
              refine j_aload0 C dX6_read_58 ?_
              refine j_getr C fX6_9 at_68 rfl hRW2.2.2.2.2.2.2.2.2.2.1 dX6_read_59 ?_
              refine j_aload0 C dX6_read_62 ?_
              refine j_geti C fX6_35 at_68 rfl hh2 dX6_read_63 (fun hr63 => ?_)
              refine j_cald C at_69 ⟨by omega, by omega⟩ (show _ = ω.1 69 (cEnd (ω.1 69) n (psn (ω.1 69) n k)) from congrFun ht2 _) dX6_read_66 (fun hr66 => ?_)
              refine j_bipush C (by decide) dX6_read_67 ?_
              refine j_icmp_ne C ⟨by omega, by omega⟩ ⟨by omega, by omega⟩ dX6_read_69 (fun hc69 => ?_) (fun hc69 => ?_)
              · -- 69 T
                refine j_iconst C dX6_read_76 ?_
                refine j_istore1 C rfl dX6_read_77 ?_
                refine j_iload1 C dX6_read_78 ?_
                refine j_if_eq C (by decide) dX6_read_79 (fun _ => ?_) (fun hc => absurd hc (by decide))
                refine j_iinc2n C rfl dX6_read_92 ?_
                refine j_goto C dX6_read_95 ?_
                have hs59 : sgn (ω.1 69) n (cEnd (ω.1 69) n (psn (ω.1 69) n k)) ≠ 59 := by omega
                exact j_fg (ih14 (k + 1) (cEnd (ω.1 69) n (psn (ω.1 69) n k)) 0 (wi (RcW W n (psn (ω.1 69) n k) k) 68 5 ((k : Int) + 1)) (by omega) (by omega) (by omega) hW2 h52 (fun j hj => by
                  by_cases e : j = k
                  · subst e; exact hhn
                  · exact hpn j (by omega)) (Or.inr ⟨rfl, by
                    rw [hpr, hpe]
                    by_cases e : (cEnd (ω.1 69) n (psn (ω.1 69) n k)) = n
                    · rw [if_pos e, prs_end hok hs59 e]
                    · rw [if_neg e, prs_flt hok hs59 e]⟩)) ⟨Or.inr rfl, Or.inr rfl, Or.inr rfl, trivial⟩ rfl
              · -- 69 F
                refine j_iconst C dX6_read_72 ?_
                refine j_goto C dX6_read_73 ?_
                refine j_istore1 C rfl dX6_read_77 ?_
                refine j_iload1 C dX6_read_78 ?_
                refine j_if_eq C (by decide) dX6_read_79 (fun hc => absurd hc (by decide)) (fun _ => ?_)
                refine j_aload0 C dX6_read_82 ?_
                refine j_dup C rfl dX6_read_83 ?_
                refine j_geti C fX6_35 at_68 rfl hh2 dX6_read_84 (fun hr84 => ?_)
                refine j_iconst C dX6_read_87 ?_
                refine j_iadd C dX6_read_88 ?_
                refine j_putI C fX6_35 at_68 rfl ty_6_6 ⟨by omega, by omega⟩ dX6_read_89 ?_
                refine j_iinc2n C rfl dX6_read_92 ?_
                refine j_goto C dX6_read_95 ?_
                have hs59 : sgn (ω.1 69) n (cEnd (ω.1 69) n (psn (ω.1 69) n k)) = 59 := by omega
                have hW3 := hW2.p6 ((cEnd (ω.1 69) n (psn (ω.1 69) n k)) + 1)
                exact j_fg (ih14 (k + 1) ((cEnd (ω.1 69) n (psn (ω.1 69) n k)) + 1) 1 (wi (wi (RcW W n (psn (ω.1 69) n k) k) 68 5 ((k : Int) + 1)) 68 6 (((cEnd (ω.1 69) n (psn (ω.1 69) n k)) + 1 : Nat) : Int)) (by omega) (by omega) (by omega) hW3 h52 (fun j hj => by
                  by_cases e : j = k
                  · subst e; exact hhn
                  · exact hpn j (by omega)) (Or.inl ⟨rfl, rfl, by rw [hpr, hpe, prs_go hok hs59]; rw [show 21 - (k + 1) = 20 - k by omega], by show 3 * (k + 1) ≤ (cEnd (ω.1 69) n (psn (ω.1 69) n k)) + 1; omega⟩)) ⟨Or.inr rfl, Or.inr rfl, Or.inr rfl, trivial⟩ (by first | rfl | (rw [show (((cEnd (ω.1 69) n (psn (ω.1 69) n k)) + 1 : Nat) : Int) = ((cEnd (ω.1 69) n (psn (ω.1 69) n k)) : Int) + 1 by omega]))
          · -- 29 F
            obtain ⟨-, hno, rfl⟩ := hp26.resolve_left (fun q => by omega)
            have hW1 := hRD.p6 (cEnd (ω.1 69) n (psn (ω.1 69) n k))
            have hcr := cEnd_rg (t := ω.1 69) (n := n) (h := psn (ω.1 69) n k) hhn
            have hz : prs (ω.1 69) n 21 0 = ((cEnd (ω.1 69) n (psn (ω.1 69) n k) : Int), k + 1) := by rw [hpr, show 21 - k = (20 - k) + 1 by omega]; exact prs_no hno
            refine j_aload0 C dX6_read_32 ?_
            refine j_geti C fX6_35 at_68 rfl hW1.2.1 dX6_read_33 (fun hr33 => ?_)
            refine j_iret C hrt dX6_read_36 ⟨by omega, by omega⟩ ?_
            rw [hz]
            exact ⟨rfl, hW1.1, fun q => absurd q (by show ¬ (cEnd _ _ _ : Int) = -1; omega)⟩
  exact j_fg (loop14 _ 0 0 1 (wi (wi ω 68 5 0) 68 6 0) (Nat.lt_succ_self _) (Nat.zero_le _) (Nat.zero_le _) hW0 rfl (fun j hj => absurd hj (by omega)) (Or.inl ⟨rfl, rfl, rfl, Nat.zero_le _⟩)) ⟨Or.inr rfl, Or.inr rfl, Or.inr rfl, trivial⟩ rfl
set_option maxRecDepth 100000 in
set_option maxHeartbeats 4000000 in
theorem c_X8_commands9 {Γ : Ga} {l : Launch} {ω : Wo} (hsl : l.stackTraces = false) (hR : CR ω) {σ : Row} (hS : St ω 1 σ) {M : Int} (hI : RI M σ) (hWI : WI σ)  {n : Nat} (hn : ω.1 68 1 = (n : Int)) (hn6 : n ≤ 60) (hM : M + 70000 ≤ 100000000) (hq : QR ω 22) {n0 : Nat} {hh : Nat → Row} (hPA : PA M ω n0 hh) : XI Γ l yX8_commands cX8_commands 2 .int 8 1 [.ref (rl Γ 0)] ω (fun z ω' => (prs (ω.1 69) n 21 0).1 = -1 ∧ z = ((prs (ω.1 69) n 21 0).2 : Int) ∧ (excN σ (tD (ω.1 69) n) (tA (ω.1 69) n) (tB (ω.1 69) n) (prs (ω.1 69) n 21 0).2 0) = (prs (ω.1 69) n 21 0).2 ∧ St ω' 1 (exc σ (tD (ω.1 69) n) (tA (ω.1 69) n) (tB (ω.1 69) n) (prs (ω.1 69) n 21 0).2) ∧ PA M ω' (rmN n0) (rmH n0 hh σ) ∧ CR ω' ∧ QR ω' 22 ∧ KM ω ω' ∧ ω'.1 0 10 = (prs (ω.1 69) n 21 0).1 ∧ ω'.1 68 1 = 0 ∧ ω'.1 65 = ω.1 65 ∧ ω'.1 66 = ω.1 66) (fun E ω' => (E = eArg ∧ (prs (ω.1 69) n 21 0).1 ≠ -1 ∧ St ω' 1 σ ∧ PA M ω' n0 hh ∧ CR ω' ∧ QR ω' 22 ∧ KM ω ω' ∧ ω'.1 0 10 = (prs (ω.1 69) n 21 0).1 ∧ ω'.1 68 1 = 0 ∧ ω'.1 65 = ω.1 65 ∧ ω'.1 66 = ω.1 66) ∨ (E = eUn ∧ (prs (ω.1 69) n 21 0).1 = -1 ∧ (excN σ (tD (ω.1 69) n) (tA (ω.1 69) n) (tB (ω.1 69) n) (prs (ω.1 69) n 21 0).2 0) < (prs (ω.1 69) n 21 0).2 ∧ St ω' 1 σ ∧ PA M ω' n0 hh ∧ CR ω' ∧ QR ω' 22 ∧ KM ω ω' ∧ ω'.1 0 10 = (prs (ω.1 69) n 21 0).1 ∧ ω'.1 68 1 = 0 ∧ ω'.1 65 0 = 12 ∧ ω'.1 65 1 = ((excN σ (tD (ω.1 69) n) (tA (ω.1 69) n) (tB (ω.1 69) n) (prs (ω.1 69) n 21 0).2 0) : Int) ∧ ω'.1 66 0 = (jd ((tD (ω.1 69) n) (excN σ (tD (ω.1 69) n) (tA (ω.1 69) n) (tB (ω.1 69) n) (prs (ω.1 69) n 21 0).2 0)) (exc σ (tD (ω.1 69) n) (tA (ω.1 69) n) (tB (ω.1 69) n) (excN σ (tD (ω.1 69) n) (tA (ω.1 69) n) (tB (ω.1 69) n) (prs (ω.1 69) n 21 0).2 0)) ((tA (ω.1 69) n) (excN σ (tD (ω.1 69) n) (tA (ω.1 69) n) (tB (ω.1 69) n) (prs (ω.1 69) n 21 0).2 0)) ((tB (ω.1 69) n) (excN σ (tD (ω.1 69) n) (tA (ω.1 69) n) (tB (ω.1 69) n) (prs (ω.1 69) n 21 0).2 0))).1 ∧ ω'.1 66 1 = (jd ((tD (ω.1 69) n) (excN σ (tD (ω.1 69) n) (tA (ω.1 69) n) (tB (ω.1 69) n) (prs (ω.1 69) n 21 0).2 0)) (exc σ (tD (ω.1 69) n) (tA (ω.1 69) n) (tB (ω.1 69) n) (excN σ (tD (ω.1 69) n) (tA (ω.1 69) n) (tB (ω.1 69) n) (prs (ω.1 69) n 21 0).2 0)) ((tA (ω.1 69) n) (excN σ (tD (ω.1 69) n) (tA (ω.1 69) n) (tB (ω.1 69) n) (prs (ω.1 69) n 21 0).2 0)) ((tB (ω.1 69) n) (excN σ (tD (ω.1 69) n) (tA (ω.1 69) n) (tB (ω.1 69) n) (prs (ω.1 69) n 21 0).2 0))).2)) := by
  refine MetX.ofJ (k := 1) [some (.ref (rl Γ 0)), none] (by decide) rfl rfl rfl (fun p e s mm args below meth c C hK2 hxt hrt => ?_)
  have hB := bs1
  have g := hI.s
  have gc := hI.c
  have gM := hI.2.1
  refine j_aload0 C dX8_commands_0 ?_
  refine j_aload0 C dX8_commands_1 ?_
  refine j_getr C fX8_50 at_0 rfl hR.2.2.2.2.2.2.2.1 dX8_commands_2 ?_
  refine j_cVI0 C (c_X6_read9 (by exact hR) hn hn6) oX6_read kX8_285 ⟨_, rfl, rfl⟩ at_68 ⟨by decide, by decide⟩ rfl (Nat.le_of_ble_eq_true rfl) ⟨by decide, by decide⟩ dX8_commands_5 ?_
  rintro z1 W1 hr5 ⟨hz1, hK1, hsp1⟩
  have hcc := hI.cc
  have hR2 : CR (W2c W1 z1) := hK1.cr hR
  have hR1 : CR W1 := hK1.cr hR
  have hS2 : St (W2c W1 z1) 1 σ := W2c_st (hK1.st hS hcc (by omega)) hcc (by omega)
  have hq2 : QR (W2c W1 z1) 22 := qr_of (fun x _ _ => hK1.2.2.1 x (by omega)) hq
  have hkm2 : KM ω (W2c W1 z1) := KM.w2 hK1
  have hPA2 : PA M (W2c W1 z1) n0 hh := hPA.of ⟨by omega, by omega⟩ ((W2c_0 (by decide)).trans (congrFun (hK1.1 0 (by decide) (by decide) (by decide)) 5)) (fun x _ _ => (W2c_x (by omega) (by omega)).trans (hK1.1 x (by omega) (by omega) (by omega))) (fun x _ => hK1.2.2.1 x (by omega))
  have h652 : (W2c W1 z1).1 65 = ω.1 65 := (W2c_x (by decide) (by decide)).trans (hK1.1 65 (by decide) (by decide) (by decide))
  have h662 : (W2c W1 z1).1 66 = ω.1 66 := (W2c_x (by decide) (by decide)).trans (hK1.1 66 (by decide) (by decide) (by decide))
  refine j_putI C fX8_54 at_0 rfl ty_0_10 ⟨by omega, by omega⟩ dX8_commands_8 ?_
  refine j_aload0 C dX8_commands_11 ?_
  refine j_getr C fX8_50 at_0 rfl (show CR (wi W1 0 10 z1) from hR1).2.2.2.2.2.2.2.1 dX8_commands_12 ?_
  refine j_iconst C dX8_commands_15 ?_
  refine j_putI C fX8_273 at_68 rfl ty_6_1 ⟨by omega, by omega⟩ dX8_commands_16 ?_
  refine j_conv rfl rfl (show _ = W2c W1 z1 from rfl) ?_
  refine j_aload0 C dX8_commands_19 ?_
  refine j_geti C fX8_54 at_0 rfl W2c_z dX8_commands_20 (fun hr20 => ?_)
  refine j_iconst C dX8_commands_23 ?_
  refine j_icmp_eq C ⟨by omega, by omega⟩ ⟨by omega, by omega⟩ dX8_commands_24 (fun hc24 => ?_) (fun hc24 => ?_)
  · -- 24 T
    have hp9 : (prs (ω.1 69) n 21 0).1 = -1 := by omega
    obtain ⟨hk20, hsp⟩ := hsp1 hp9
    generalize hKK : (prs (ω.1 69) n 21 0).2 = K at hk20 hsp ⊢
    have hSP2 : SP (W2c W1 z1) K (tD (ω.1 69) n) (tA (ω.1 69) n) (tB (ω.1 69) n) := W2c_sp hsp
    refine j_aload0 C dX8_commands_38 ?_
    refine j_getr C fX8_16 at_0 rfl hR2.2.1 dX8_commands_39 ?_
    refine j_aload0 C dX8_commands_42 ?_
    refine j_getr C fX8_12 at_0 rfl hR2.1 dX8_commands_43 ?_
    refine j_cVV1 C (c_X7_copyFrom bs22 bs1 (by omega) hq2 (by exact hS2) (by exact hI)) oX7_copyFrom kX8_212 ⟨_, rfl, rfl⟩ (at_st bs22) ⟨by decide, by decide⟩ rfl (Nat.le_of_ble_eq_true rfl) ⟨by decide, by decide⟩ dX8_commands_46 ?_
    rintro W3 ⟨hF3, hS3⟩
    have hR3 := hR2.fr hF3 (by decide)
    have hS31 : St W3 1 σ := hS2.fr hcc (fun x _ _ => hF3.1 x (by omega)) (fun x _ _ => hF3.2.1 x (by omega))
    have hSP3 := hF3.sp (by omega) hSP2
    refine j_aload0 C dX8_commands_49 ?_
    refine j_xVI0 C hK2 hxt (c_X8_carryOutAll hsl (by exact hR3) (by exact hS31) (by exact hI) (by exact hWI) hk20 hM hSP3) oX8_carryOutAll kX8_290 ⟨_, rfl, rfl⟩ at_0 ⟨by decide, by decide⟩ rfl (Nat.le_of_ble_eq_true rfl) ⟨by decide, by decide⟩ ⟨by decide, by decide⟩ dX8_commands_50 (fun _ _ hE => hE.elim) ?_
    rintro z4 W4 hr50 ⟨rfl, hN4, hS4, hX4, hj4, ha4⟩
    have hR4 := hX4.cr hR3
    have hSP4 := hX4.sp hSP3
    have hS422 : St W4 22 σ := hS3.fr hcc (fun x _ _ => hX4.1 x (by omega) (by omega)) (fun x _ _ => hX4.2.1 x (by omega))
    have hkm4 := (hkm2.f22 hF3).kx hX4
    have hq4 : QR W4 22 := hS422.q
    have hPA4 : PA M W4 n0 hh := hPA2.of ⟨by omega, by omega⟩ ((congrFun (hX4.1 0 (by omega) (by omega)) 5).trans (congrFun (hF3.1 0 (by omega)) 5)) (fun x _ _ => (hX4.1 x (by omega) (by omega)).trans (hF3.1 x (by omega))) (fun x _ => (hX4.2.1 x (by omega)).trans (hF3.2.1 x (by omega)))
    have h104 : W4.1 0 10 = z1 := ((congrFun (hX4.1 0 (by omega) (by omega)) 10).trans (congrFun (hF3.1 0 (by omega)) 10)).trans W2c_z
    have h684 : W4.1 68 1 = 0 := ((congrFun (hX4.1 68 (by omega) (by omega)) 1).trans (congrFun (hF3.1 68 (by omega)) 1)).trans W2c_68
    have h654 : W4.1 65 = ω.1 65 := ((hX4.1 65 (by omega) (by omega)).trans (hF3.1 65 (by omega))).trans h652
    have h664 : W4.1 66 = ω.1 66 := ((hX4.1 66 (by omega) (by omega)).trans (hF3.1 66 (by omega))).trans h662
    have hIe := exc_keep (D := (tD (ω.1 69) n)) (A := (tA (ω.1 69) n)) (B := (tB (ω.1 69) n)) hI hWI (excN σ (tD (ω.1 69) n) (tA (ω.1 69) n) (tB (ω.1 69) n) K 0) (by omega) (fun j hj => ⟨by have := (hSP2.2 j (by omega)).1; omega, ha4 j hj⟩)
    refine j_istore1 C rfl dX8_commands_53 ?_
    refine j_iload1 C dX8_commands_54 ?_
    refine j_aload0 C dX8_commands_55 ?_
    refine j_getr C fX8_50 at_0 rfl hR4.2.2.2.2.2.2.2.1 dX8_commands_56 ?_
    refine j_geti C fX8_293 at_68 rfl hSP4.1 dX8_commands_59 (fun hr59 => ?_)
    refine j_icmp_ge C ⟨by omega, by omega⟩ ⟨by omega, by omega⟩ dX8_commands_62 (fun hc62 => ?_) (fun hc62 => ?_)
    · -- 62 T
      refine j_aload0 C dX8_commands_108 ?_
      refine j_aload0 C dX8_commands_109 ?_
      refine j_getr C fX8_16 at_0 rfl hR4.2.1 dX8_commands_110 ?_
      refine j_cVV1 C (c_X8_remember22 hsl (by exact hR4) (by exact hS422) (by exact hI) (by exact hWI) (by exact hS4) (by exact hIe.1) (by exact hIe.2) hPA4) oX8_remember kX8_308 ⟨_, rfl, rfl⟩ at_0 ⟨by decide, by decide⟩ rfl (Nat.le_of_ble_eq_true rfl) ⟨by decide, by decide⟩ dX8_commands_113 ?_
      rintro W5 ⟨hPA5, hKP5⟩
      have hR5 := hKP5.cr hR4
      have hNK : (excN σ (tD (ω.1 69) n) (tA (ω.1 69) n) (tB (ω.1 69) n) K 0) = K := by omega
      refine j_aload0 C dX8_commands_116 ?_
      refine j_getr C fX8_50 at_0 rfl hR5.2.2.2.2.2.2.2.1 dX8_commands_117 ?_
      refine j_geti C fX8_293 at_68 rfl (show _ = (K : Int) from (congrFun (hKP5.1 68 (by decide) (by omega)) 5).trans hSP4.1) dX8_commands_120 (fun hr120 => ?_)
      refine j_xr (by decide) ?_
      refine j_iret C hrt dX8_commands_123 ⟨by omega, by omega⟩ ?_
      rw [hNK] at hS4 hIe
      refine ⟨hp9, rfl, hNK, hKP5.st hS4 hIe.1.cc (by omega), hPA5, hR5, hKP5.st hS422 hcc (by omega) |>.q, hkm4.kp hKP5, ?_, ?_, ?_, ?_⟩
      · rw [hKP5.2.1 10 (by decide), h104, hz1]
      · rw [hKP5.1 68 (by decide) (by omega)]; exact h684
      · rw [hKP5.1 65 (by decide) (by omega)]; exact h654
      · rw [hKP5.1 66 (by decide) (by omega)]; exact h664
    · -- 62 F
      refine j_aload0 C dX8_commands_65 ?_
      refine j_getr C fX8_12 at_0 rfl hR4.1 dX8_commands_66 ?_
      refine j_aload0 C dX8_commands_69 ?_
      refine j_getr C fX8_16 at_0 rfl hR4.2.1 dX8_commands_70 ?_
      refine j_cVV1 C (c_X7_copyFrom bs1 bs22 (by omega) (by exact hS4.q) (by exact hS422) (by exact hI)) oX7_copyFrom kX8_212 ⟨_, rfl, rfl⟩ (at_st bs1) ⟨by decide, by decide⟩ rfl (Nat.le_of_ble_eq_true rfl) ⟨by decide, by decide⟩ dX8_commands_73 ?_
      rintro W5 ⟨hF5, hS5⟩
      have hR5 := hR4.fr hF5 (by decide)
      have hR6 : CR (RF W5 65 12 ((excN σ (tD (ω.1 69) n) (tA (ω.1 69) n) (tB (ω.1 69) n) K 0) : Int)) := hR5
      obtain ⟨hj67, hj671⟩ := hj4 (by omega)
      have h675 : W5.1 67 = W4.1 67 := hF5.1 67 (by omega)
      refine j_aload0 C dX8_commands_76 ?_
      refine j_getr C fX8_37 at_0 rfl hR5.2.2.2.2.1 dX8_commands_77 ?_
      refine j_bipush C (by decide) dX8_commands_80 ?_
      refine j_iload1 C dX8_commands_82 ?_
      refine j_cVV2 C (c_X5_set at_65 ⟨by omega, by omega⟩ ⟨by omega, by omega⟩) oX5_set kX8_296 ⟨_, rfl, rfl⟩ at_65 ⟨by decide, by decide⟩ rfl (Nat.le_of_ble_eq_true rfl) ⟨by decide, by decide⟩ dX8_commands_83 ?_
      rintro _ rfl
      refine j_aload0 C dX8_commands_86 ?_
      refine j_getr C fX8_41 at_0 rfl hR6.2.2.2.2.2.1 dX8_commands_87 ?_
      refine j_aload0 C dX8_commands_90 ?_
      refine j_getr C fX8_44 at_0 rfl hR6.2.2.2.2.2.2.1 dX8_commands_91 ?_
      refine j_cVV1 C (c_X5_copyFrom at_66 at_67) oX5_copyFrom kX8_300 ⟨_, rfl, rfl⟩ at_66 ⟨by decide, by decide⟩ rfl (Nat.le_of_ble_eq_true rfl) ⟨by decide, by decide⟩ dX8_commands_94 ?_
      rintro _ rfl
      refine j_throwW hsl C hK2 hxt th_303 (List.mem_of_getElem? (i := 13) rfl) rfl dX8_commands_97 dX8_commands_100 dX8_commands_101 dX8_commands_104 dX8_commands_107 (by decide) (Nat.le_of_ble_eq_true rfl) ⟨by decide, by decide⟩ ⟨by decide, by decide⟩ ?_
      have e67 : (RF W5 65 12 ((excN σ (tD (ω.1 69) n) (tA (ω.1 69) n) (tB (ω.1 69) n) K 0) : Int)).1 67 = W4.1 67 := (show (RF W5 65 12 ((excN σ (tD (ω.1 69) n) (tA (ω.1 69) n) (tB (ω.1 69) n) K 0) : Int)).1 67 = W5.1 67 from wf_ne _ _ (by decide)).trans h675
      rw [e67]
      have hkm5 := ((hkm4.f1 hF5).rF (a := 65) (v := 12) (w := ((excN σ (tD (ω.1 69) n) (tA (ω.1 69) n) (tB (ω.1 69) n) K 0) : Int)) (Or.inl rfl)).rF (a := 66) (v := W4.1 67 0) (w := W4.1 67 1) (Or.inr rfl)
      have e0 : (RF (RF W5 65 12 ((excN σ (tD (ω.1 69) n) (tA (ω.1 69) n) (tB (ω.1 69) n) K 0) : Int)) 66 (W4.1 67 0) (W4.1 67 1)).1 0 = W4.1 0 := ((show _ = (RF W5 65 12 ((excN σ (tD (ω.1 69) n) (tA (ω.1 69) n) (tB (ω.1 69) n) K 0) : Int)).1 0 from wf_ne _ _ (by decide)).trans (wf_ne _ _ (by decide))).trans (hF5.1 0 (by omega))
      have ex : ∀ x, x ≠ 65 → x ≠ 66 → (RF (RF W5 65 12 ((excN σ (tD (ω.1 69) n) (tA (ω.1 69) n) (tB (ω.1 69) n) K 0) : Int)) 66 (W4.1 67 0) (W4.1 67 1)).1 x = W5.1 x := fun x q1 q2 => (show _ = (RF W5 65 12 ((excN σ (tD (ω.1 69) n) (tA (ω.1 69) n) (tB (ω.1 69) n) K 0) : Int)).1 x from wf_ne _ _ q2).trans (wf_ne _ _ q1)
      refine Or.inr ⟨rfl, hp9, by omega, (by unfold RF; exact (hS5.wx hcc (by omega)).wx hcc (by omega)), hPA4.of ⟨by omega, by omega⟩ (congrFun e0 5) (fun x _ _ => (ex x (by omega) (by omega)).trans (hF5.1 x (by omega))) (fun x _ => hF5.2.1 x (by omega)), hR6, qr_of (fun x _ _ => hF5.2.1 x (by omega)) hq4, hkm5, ?_, ?_, ?_, ?_, ?_, ?_⟩
      · rw [e0, h104, hz1]
      · rw [ex 68 (by decide) (by decide), hF5.1 68 (by omega)]; exact h684
      · exact (congrFun (show _ = (RF W5 65 12 ((excN σ (tD (ω.1 69) n) (tA (ω.1 69) n) (tB (ω.1 69) n) K 0) : Int)).1 65 from wf_ne _ _ (by decide)) 0).trans (RF_0 _ _ _ _)
      · exact (congrFun (show _ = (RF W5 65 12 ((excN σ (tD (ω.1 69) n) (tA (ω.1 69) n) (tB (ω.1 69) n) K 0) : Int)).1 65 from wf_ne _ _ (by decide)) 1).trans (RF_1 _ _ _ _)
      · rw [RF_0]; exact hj67
      · rw [RF_1]; exact hj671
  · -- 24 F
    refine j_throwW hsl C hK2 hxt th_98 (List.mem_of_getElem? (i := 12) rfl) rfl dX8_commands_27 dX8_commands_30 dX8_commands_31 dX8_commands_34 dX8_commands_37 (by decide) (Nat.le_of_ble_eq_true rfl) ⟨by decide, by decide⟩ ⟨by decide, by decide⟩ ?_
    exact Or.inl ⟨rfl, by omega, hS2, hPA2, hR2, hq2, hkm2, by rw [W2c_z, hz1], W2c_68, h652, h662⟩
