/-! the law's cases 26 to 36 -/
set_option maxRecDepth 100000 in
set_option maxHeartbeats 4000000 in
theorem L_26 {Γ : Ga} {p : Program} {l : Launch} {e : Env} {s : State} {m : MethodId} {args : Array Value} {below : List Frame} {meth : Method} {c : Code} {Q : State → Prop} {b Ls : Nat} {xs : Nat → Int32} {i v1 v2 M : Int} {ce sl : Nat} {ω : Wo} : Cs Γ p l e s m args below meth c Q b Ls xs i v1 v2 M ce sl 1652 ω := by
  intro u6 u7 u8 u9 C hK3 hsl hX hb hi hLs e1 e2 r1 r2 hI hM hce kx
  show J Γ p l e R9 s m args below meth c Q 254 ce sl 1652 [some (.ref b), some (.ref (rl Γ 0)), some (.ref (rl Γ 243)), some (.ref (rl Γ 252)), some (.ref (rl Γ 253)), some (.int (iI i)), u6, u7, u8, u9] [] ω
  refine j_aload1 C dL_law_1652 ?_
  refine j_aload3 C dL_law_1653 ?_
  refine j_cW (as := [.ref (rl Γ 0), .ref (rl Γ 252)]) (S := []) C hK3 (s_commands hsl hI hM) o_w_commands (show Lk RL 216 yL_commands from (WS_of 1107 (by decide +kernel))) ⟨by omega, by decide⟩ rfl rfl (Nat.le_of_ble_eq_true rfl) ⟨by omega, by omega⟩ dL_law_1654 ?_
  intro z W1 hz hP
  refine j_istore6 C rfl dL_law_1657 ?_
  refine j_aload2 C dL_law_1659 ?_
  refine j_cVI0 C hP oX9_commands (show Lk RL 219 yX9_commands from (WS_of 1893 (by decide +kernel))) ⟨_, rfl, rfl⟩ at_243 ⟨by decide, by decide⟩ rfl (Nat.le_of_ble_eq_true rfl) ⟨by omega, by omega⟩ dL_law_1660 ?_
  intro z2 W2 hz2 hAg
  refine j_istore7 C rfl dL_law_1663 ?_
  refine j_aload2 C dL_law_1665 ?_
  refine j_cVI0 C (c_X9_thrown hAg.1) oX9_thrown (show Lk RL 134 yX9_thrown from (WS_of 1579 (by decide +kernel))) ⟨_, rfl, rfl⟩ at_243 ⟨by decide, by decide⟩ rfl (Nat.le_of_ble_eq_true rfl) ⟨by omega, by omega⟩ dL_law_1666 ?_
  intro t W3 ht hT
  obtain ⟨rfl, rfl⟩ := hT
  refine j_iload6 C dL_law_1669 ?_
  refine j_icmp_eq C ht hz dL_law_1671 (fun _ => ?_) (fun q => absurd hAg.2.1 q)
  refine j_iload6 C dL_law_1676 ?_
  refine j_if_ne C hz dL_law_1678 (fun _ => ?_) (fun hk => ?_)
  · refine j_goto C dL_law_1693 ?_
    refine j_widen (ce' := ce + 2) (sl' := sl + 12) (by omega) (by omega) ?_
    exact kx _ _ _ _ _ hAg.2.2.2
  refine j_aload3 C dL_law_1681 ?_
  refine j_iconst C dL_law_1682 ?_
  refine j_lald C (hAg.2.2.1 hk) dL_law_1683 ?_
  refine j_iload7 C dL_law_1684 ?_
  refine j_i2l C hz2 dL_law_1686 ?_
  refine j_lcmp C dL_law_1687 ?_
  refine j_if_eq C ⟨by decide, by decide⟩ dL_law_1688 (fun _ => ?_) (fun q => absurd rfl q)
  refine j_goto C dL_law_1693 ?_
  refine j_widen (ce' := ce + 2) (sl' := sl + 12) (by omega) (by omega) ?_
  exact kx _ _ _ _ _ hAg.2.2.2
set_option maxRecDepth 100000 in
set_option maxHeartbeats 4000000 in
theorem L_27 {Γ : Ga} {p : Program} {l : Launch} {e : Env} {s : State} {m : MethodId} {args : Array Value} {below : List Frame} {meth : Method} {c : Code} {Q : State → Prop} {b Ls : Nat} {xs : Nat → Int32} {i v1 v2 M : Int} {ce sl : Nat} {ω : Wo} : Cs Γ p l e s m args below meth c Q b Ls xs i v1 v2 M ce sl 1696 ω := by
  intro u6 u7 u8 u9 C hK3 hsl hX hb hi hLs e1 e2 r1 r2 hI hM hce kx
  show J Γ p l e R9 s m args below meth c Q 254 ce sl 1696 [some (.ref b), some (.ref (rl Γ 0)), some (.ref (rl Γ 243)), some (.ref (rl Γ 252)), some (.ref (rl Γ 253)), some (.int (iI i)), u6, u7, u8, u9] [] ω
  refine j_aload1 C dL_law_1696 ?_
  refine j_cVI0 C (s_faultPosition hsl hI hM) oX8_faultPosition (show Lk RL 220 yX8_faultPosition from (WS_of 437 (by decide +kernel))) ⟨_, rfl, rfl⟩ at_0 ⟨by decide, by decide⟩ rfl (Nat.le_of_ble_eq_true rfl) ⟨by omega, by omega⟩ dL_law_1697 ?_
  intro z W1 hz hP
  refine j_aload2 C dL_law_1700 ?_
  refine j_cVI0 C hP oX9_faultPosition (show Lk RL 223 yX9_faultPosition from (WS_of 1928 (by decide +kernel))) ⟨_, rfl, rfl⟩ at_243 ⟨by decide, by decide⟩ rfl (Nat.le_of_ble_eq_true rfl) ⟨by omega, by omega⟩ dL_law_1701 ?_
  intro z2 W2 hz2 hQ
  obtain ⟨rfl, hQ2⟩ := hQ
  refine j_icmp_eq C hz hz dL_law_1704 (fun _ => ?_) (fun q => absurd rfl q)
  refine j_widen (ce' := ce + 2) (sl' := sl + 12) (by omega) (by omega) ?_
  exact kx W2 _ _ _ _ hQ2
set_option maxRecDepth 100000 in
set_option maxHeartbeats 4000000 in
theorem L_28 {Γ : Ga} {p : Program} {l : Launch} {e : Env} {s : State} {m : MethodId} {args : Array Value} {below : List Frame} {meth : Method} {c : Code} {Q : State → Prop} {b Ls : Nat} {xs : Nat → Int32} {i v1 v2 M : Int} {ce sl : Nat} {ω : Wo} : Cs Γ p l e s m args below meth c Q b Ls xs i v1 v2 M ce sl 1709 ω := by
  intro u6 u7 u8 u9 C hK3 hsl hX hb hi hLs e1 e2 r1 r2 hI hM hce kx
  show J Γ p l e R9 s m args below meth c Q 254 ce sl 1709 [some (.ref b), some (.ref (rl Γ 0)), some (.ref (rl Γ 243)), some (.ref (rl Γ 252)), some (.ref (rl Γ 253)), some (.int (iI i)), u6, u7, u8, u9] [] ω
  refine j_aload1 C dL_law_1709 ?_
  refine j_aload0 C dL_law_1710 ?_
  refine j_iload5 C dL_law_1711 ?_
  refine j_iconst C dL_law_1713 ?_
  refine j_iadd C dL_law_1714 ?_
  refine j_sldv C hX hb ⟨by omega, by omega⟩ hLs e1 dL_law_1715 ?_
  refine j_boolz C r1 dL_law_1716 dL_law_1719 dL_law_1720 dL_law_1723 ?_
  refine j_aload0 C dL_law_1724 ?_
  refine j_iload5 C dL_law_1725 ?_
  refine j_iconst C dL_law_1727 ?_
  refine j_iadd C dL_law_1728 ?_
  refine j_sldv C hX hb ⟨by omega, by omega⟩ hLs e2 dL_law_1729 ?_
  refine j_boolz C r2 dL_law_1730 dL_law_1733 dL_law_1734 dL_law_1737 ?_
  refine j_aload3 C dL_law_1738 ?_
  refine j_cW (as := [.ref (rl Γ 0), .int (iI (bI (v1 ≠ 0))), .int (iI (bI (v2 ≠ 0))), .ref (rl Γ 252)]) (S := []) C hK3 (s_reason hsl hI hM) o_w_reason (show Lk RL 224 yL_reason from (WS_of 1144 (by decide +kernel))) ⟨by omega, by decide⟩ rfl rfl (Nat.le_of_ble_eq_true rfl) ⟨by omega, by omega⟩ dL_law_1739 ?_
  intro z W1 hz hP
  refine j_istore6 C rfl dL_law_1742 ?_
  refine j_aload2 C dL_law_1744 ?_
  refine j_aload0 C dL_law_1745 ?_
  refine j_iload5 C dL_law_1746 ?_
  refine j_iconst C dL_law_1748 ?_
  refine j_iadd C dL_law_1749 ?_
  refine j_sldv C hX hb ⟨by omega, by omega⟩ hLs e1 dL_law_1750 ?_
  refine j_boolz C r1 dL_law_1751 dL_law_1754 dL_law_1755 dL_law_1758 ?_
  refine j_aload0 C dL_law_1759 ?_
  refine j_iload5 C dL_law_1760 ?_
  refine j_iconst C dL_law_1762 ?_
  refine j_iadd C dL_law_1763 ?_
  refine j_sldv C hX hb ⟨by omega, by omega⟩ hLs e2 dL_law_1764 ?_
  refine j_boolz C r2 dL_law_1765 dL_law_1768 dL_law_1769 dL_law_1772 ?_
  refine j_cVI2 C hP oX9_reason (show Lk RL 227 yX9_reason from (WS_of 1932 (by decide +kernel))) ⟨_, rfl, rfl⟩ at_243 ⟨by decide, by decide⟩ rfl (Nat.le_of_ble_eq_true rfl) ⟨by omega, by omega⟩ dL_law_1773 ?_
  intro z2 W2 hz2 hAg
  refine j_istore7 C rfl dL_law_1776 ?_
  refine j_aload2 C dL_law_1778 ?_
  refine j_cVI0 C (c_X9_thrown hAg.1) oX9_thrown (show Lk RL 134 yX9_thrown from (WS_of 1579 (by decide +kernel))) ⟨_, rfl, rfl⟩ at_243 ⟨by decide, by decide⟩ rfl (Nat.le_of_ble_eq_true rfl) ⟨by omega, by omega⟩ dL_law_1779 ?_
  intro t W3 ht hT
  obtain ⟨rfl, rfl⟩ := hT
  refine j_iload6 C dL_law_1782 ?_
  refine j_icmp_eq C ht hz dL_law_1784 (fun _ => ?_) (fun q => absurd hAg.2.1 q)
  refine j_iload6 C dL_law_1789 ?_
  refine j_if_ne C hz dL_law_1791 (fun _ => ?_) (fun hk => ?_)
  · refine j_goto C dL_law_1806 ?_
    refine j_widen (ce' := ce + 2) (sl' := sl + 12) (by omega) (by omega) ?_
    exact kx _ _ _ _ _ hAg.2.2.2
  refine j_aload3 C dL_law_1794 ?_
  refine j_iconst C dL_law_1795 ?_
  refine j_lald C (hAg.2.2.1 hk) dL_law_1796 ?_
  refine j_iload7 C dL_law_1797 ?_
  refine j_i2l C hz2 dL_law_1799 ?_
  refine j_lcmp C dL_law_1800 ?_
  refine j_if_eq C ⟨by decide, by decide⟩ dL_law_1801 (fun _ => ?_) (fun q => absurd rfl q)
  refine j_goto C dL_law_1806 ?_
  refine j_widen (ce' := ce + 2) (sl' := sl + 12) (by omega) (by omega) ?_
  exact kx _ _ _ _ _ hAg.2.2.2
set_option maxRecDepth 100000 in
set_option maxHeartbeats 4000000 in
theorem L_29 {Γ : Ga} {p : Program} {l : Launch} {e : Env} {s : State} {m : MethodId} {args : Array Value} {below : List Frame} {meth : Method} {c : Code} {Q : State → Prop} {b Ls : Nat} {xs : Nat → Int32} {i v1 v2 M : Int} {ce sl : Nat} {ω : Wo} : Cs Γ p l e s m args below meth c Q b Ls xs i v1 v2 M ce sl 1809 ω := by
  intro u6 u7 u8 u9 C hK3 hsl hX hb hi hLs e1 e2 r1 r2 hI hM hce kx
  show J Γ p l e R9 s m args below meth c Q 254 ce sl 1809 [some (.ref b), some (.ref (rl Γ 0)), some (.ref (rl Γ 243)), some (.ref (rl Γ 252)), some (.ref (rl Γ 253)), some (.int (iI i)), u6, u7, u8, u9] [] ω
  refine j_aload1 C dL_law_1809 ?_
  refine j_aload0 C dL_law_1810 ?_
  refine j_iload5 C dL_law_1811 ?_
  refine j_iconst C dL_law_1813 ?_
  refine j_iadd C dL_law_1814 ?_
  refine j_sldv C hX hb ⟨by omega, by omega⟩ hLs e1 dL_law_1815 ?_
  refine j_aload3 C dL_law_1816 ?_
  refine j_cW (as := [.ref (rl Γ 0), .int (iI v1), .ref (rl Γ 252)]) (S := []) C hK3 (s_line hsl hI hM r1) o_w_line (show Lk RL 228 yL_line from (WS_of 1152 (by decide +kernel))) ⟨by omega, by decide⟩ rfl rfl (Nat.le_of_ble_eq_true rfl) ⟨by omega, by omega⟩ dL_law_1817 ?_
  intro z W1 hz hP
  refine j_istore6 C rfl dL_law_1820 ?_
  refine j_aload2 C dL_law_1822 ?_
  refine j_aload0 C dL_law_1823 ?_
  refine j_iload5 C dL_law_1824 ?_
  refine j_iconst C dL_law_1826 ?_
  refine j_iadd C dL_law_1827 ?_
  refine j_sldv C hX hb ⟨by omega, by omega⟩ hLs e1 dL_law_1828 ?_
  refine j_cVI1 C hP oX9_line (show Lk RL 230 yX9_line from (WS_of 1936 (by decide +kernel))) ⟨_, rfl, rfl⟩ at_243 ⟨by decide, by decide⟩ rfl (Nat.le_of_ble_eq_true rfl) ⟨by omega, by omega⟩ dL_law_1829 ?_
  intro z2 W2 hz2 hAg
  refine j_istore7 C rfl dL_law_1832 ?_
  refine j_aload2 C dL_law_1834 ?_
  refine j_cVI0 C (c_X9_thrown hAg.1) oX9_thrown (show Lk RL 134 yX9_thrown from (WS_of 1579 (by decide +kernel))) ⟨_, rfl, rfl⟩ at_243 ⟨by decide, by decide⟩ rfl (Nat.le_of_ble_eq_true rfl) ⟨by omega, by omega⟩ dL_law_1835 ?_
  intro t W3 ht hT
  obtain ⟨rfl, rfl⟩ := hT
  refine j_iload6 C dL_law_1838 ?_
  refine j_icmp_eq C ht hz dL_law_1840 (fun _ => ?_) (fun q => absurd hAg.2.1 q)
  refine j_iload6 C dL_law_1845 ?_
  refine j_if_ne C hz dL_law_1847 (fun _ => ?_) (fun hk => ?_)
  · refine j_goto C dL_law_1862 ?_
    refine j_widen (ce' := ce + 2) (sl' := sl + 12) (by omega) (by omega) ?_
    exact kx _ _ _ _ _ hAg.2.2.2
  refine j_aload3 C dL_law_1850 ?_
  refine j_iconst C dL_law_1851 ?_
  refine j_lald C (hAg.2.2.1 hk) dL_law_1852 ?_
  refine j_iload7 C dL_law_1853 ?_
  refine j_i2l C hz2 dL_law_1855 ?_
  refine j_lcmp C dL_law_1856 ?_
  refine j_if_eq C ⟨by decide, by decide⟩ dL_law_1857 (fun _ => ?_) (fun q => absurd rfl q)
  refine j_goto C dL_law_1862 ?_
  refine j_widen (ce' := ce + 2) (sl' := sl + 12) (by omega) (by omega) ?_
  exact kx _ _ _ _ _ hAg.2.2.2
set_option maxRecDepth 100000 in
set_option maxHeartbeats 4000000 in
theorem L_30 {Γ : Ga} {p : Program} {l : Launch} {e : Env} {s : State} {m : MethodId} {args : Array Value} {below : List Frame} {meth : Method} {c : Code} {Q : State → Prop} {b Ls : Nat} {xs : Nat → Int32} {i v1 v2 M : Int} {ce sl : Nat} {ω : Wo} : Cs Γ p l e s m args below meth c Q b Ls xs i v1 v2 M ce sl 1865 ω := by
  intro u6 u7 u8 u9 C hK3 hsl hX hb hi hLs e1 e2 r1 r2 hI hM hce kx
  show J Γ p l e R9 s m args below meth c Q 254 ce sl 1865 [some (.ref b), some (.ref (rl Γ 0)), some (.ref (rl Γ 243)), some (.ref (rl Γ 252)), some (.ref (rl Γ 253)), some (.int (iI i)), u6, u7, u8, u9] [] ω
  refine j_aload1 C dL_law_1865 ?_
  refine j_aload0 C dL_law_1866 ?_
  refine j_iload5 C dL_law_1867 ?_
  refine j_iconst C dL_law_1869 ?_
  refine j_iadd C dL_law_1870 ?_
  refine j_sldv C hX hb ⟨by omega, by omega⟩ hLs e1 dL_law_1871 ?_
  refine j_aload3 C dL_law_1872 ?_
  refine j_cW (as := [.ref (rl Γ 0), .int (iI v1), .ref (rl Γ 252)]) (S := []) C hK3 (s_character hsl hI hM r1) o_w_character (show Lk RL 231 yL_character from (WS_of 1441 (by decide +kernel))) ⟨by omega, by decide⟩ rfl rfl (Nat.le_of_ble_eq_true rfl) ⟨by omega, by omega⟩ dL_law_1873 ?_
  intro z W1 hz hP
  refine j_istore6 C rfl dL_law_1876 ?_
  refine j_aload2 C dL_law_1878 ?_
  refine j_aload0 C dL_law_1879 ?_
  refine j_iload5 C dL_law_1880 ?_
  refine j_iconst C dL_law_1882 ?_
  refine j_iadd C dL_law_1883 ?_
  refine j_sldv C hX hb ⟨by omega, by omega⟩ hLs e1 dL_law_1884 ?_
  refine j_cVI1 C hP oX9_character (show Lk RL 233 yX9_character from (WS_of 1944 (by decide +kernel))) ⟨_, rfl, rfl⟩ at_243 ⟨by decide, by decide⟩ rfl (Nat.le_of_ble_eq_true rfl) ⟨by omega, by omega⟩ dL_law_1885 ?_
  intro z2 W2 hz2 hAg
  refine j_istore7 C rfl dL_law_1888 ?_
  refine j_aload2 C dL_law_1890 ?_
  refine j_cVI0 C (c_X9_thrown hAg.1) oX9_thrown (show Lk RL 134 yX9_thrown from (WS_of 1579 (by decide +kernel))) ⟨_, rfl, rfl⟩ at_243 ⟨by decide, by decide⟩ rfl (Nat.le_of_ble_eq_true rfl) ⟨by omega, by omega⟩ dL_law_1891 ?_
  intro t W3 ht hT
  obtain ⟨rfl, rfl⟩ := hT
  refine j_iload6 C dL_law_1894 ?_
  refine j_icmp_eq C ht hz dL_law_1896 (fun _ => ?_) (fun q => absurd hAg.2.1 q)
  refine j_iload6 C dL_law_1901 ?_
  refine j_if_ne C hz dL_law_1903 (fun _ => ?_) (fun hk => ?_)
  · refine j_goto C dL_law_1918 ?_
    refine j_widen (ce' := ce + 2) (sl' := sl + 12) (by omega) (by omega) ?_
    exact kx _ _ _ _ _ hAg.2.2.2
  refine j_aload3 C dL_law_1906 ?_
  refine j_iconst C dL_law_1907 ?_
  refine j_lald C (hAg.2.2.1 hk) dL_law_1908 ?_
  refine j_iload7 C dL_law_1909 ?_
  refine j_i2l C hz2 dL_law_1911 ?_
  refine j_lcmp C dL_law_1912 ?_
  refine j_if_eq C ⟨by decide, by decide⟩ dL_law_1913 (fun _ => ?_) (fun q => absurd rfl q)
  refine j_goto C dL_law_1918 ?_
  refine j_widen (ce' := ce + 2) (sl' := sl + 12) (by omega) (by omega) ?_
  exact kx _ _ _ _ _ hAg.2.2.2
set_option maxRecDepth 100000 in
set_option maxHeartbeats 4000000 in
theorem L_31 {Γ : Ga} {p : Program} {l : Launch} {e : Env} {s : State} {m : MethodId} {args : Array Value} {below : List Frame} {meth : Method} {c : Code} {Q : State → Prop} {b Ls : Nat} {xs : Nat → Int32} {i v1 v2 M : Int} {ce sl : Nat} {ω : Wo} : Cs Γ p l e s m args below meth c Q b Ls xs i v1 v2 M ce sl 1921 ω := by
  intro u6 u7 u8 u9 C hK3 hsl hX hb hi hLs e1 e2 r1 r2 hI hM hce kx
  show J Γ p l e R9 s m args below meth c Q 254 ce sl 1921 [some (.ref b), some (.ref (rl Γ 0)), some (.ref (rl Γ 243)), some (.ref (rl Γ 252)), some (.ref (rl Γ 253)), some (.int (iI i)), u6, u7, u8, u9] [] ω
  refine j_aload1 C dL_law_1921 ?_
  refine j_aload4 C dL_law_1922 ?_
  refine j_cW (as := [.ref (rl Γ 0), .ref (rl Γ 253)]) (S := []) C hK3 (s_meanWeariness hsl hI hM) o_w_meanWeariness (show Lk RL 234 yL_meanWeariness from (WS_of 1459 (by decide +kernel))) ⟨by omega, by decide⟩ rfl rfl (Nat.le_of_ble_eq_true rfl) ⟨by omega, by omega⟩ dL_law_1924 ?_
  intro z W1 hz hP
  refine j_istore6 C rfl dL_law_1927 ?_
  refine j_aload2 C dL_law_1929 ?_
  refine j_cVD0 C hP oX9_meanWeariness (show Lk RL 237 yX9_meanWeariness from (WS_of 1948 (by decide +kernel))) ⟨_, rfl, rfl⟩ at_243 ⟨by decide, by decide⟩ rfl (Nat.le_of_ble_eq_true rfl) ⟨by omega, by omega⟩ dL_law_1930 ?_
  intro z2 W2 hAg
  refine j_dst (L' := [some (.ref b), some (.ref (rl Γ 0)), some (.ref (rl Γ 243)), some (.ref (rl Γ 252)), some (.ref (rl Γ 253)), some (.int (iI i)), some (.int (iI z)), some (.double z2), none, u9]) C (Nat.le_of_ble_eq_true rfl) (Or.inr rfl) rfl dL_law_1933 ?_
  refine j_aload2 C dL_law_1935 ?_
  refine j_cVI0 C (c_X9_thrown hAg.1) oX9_thrown (show Lk RL 134 yX9_thrown from (WS_of 1579 (by decide +kernel))) ⟨_, rfl, rfl⟩ at_243 ⟨by decide, by decide⟩ rfl (Nat.le_of_ble_eq_true rfl) ⟨by omega, by omega⟩ dL_law_1936 ?_
  intro t W3 ht hT
  obtain ⟨rfl, rfl⟩ := hT
  refine j_iload6 C dL_law_1939 ?_
  refine j_icmp_eq C ht hz dL_law_1941 (fun _ => ?_) (fun q => absurd hAg.2.1 q)
  refine j_iload6 C dL_law_1946 ?_
  refine j_if_ne C hz dL_law_1948 (fun _ => ?_) (fun hk => ?_)
  · refine j_goto C dL_law_1983 ?_
    refine j_widen (ce' := ce + 2) (sl' := sl + 12) (by omega) (by omega) ?_
    exact kx _ _ _ _ _ hAg.2.2.2
  have h9 := hAg.2.2.1 hk
  refine j_aload4 C dL_law_1951 ?_
  refine j_iconst C dL_law_1953 ?_
  refine j_dald C dL_law_1954 ?_
  rw [h9.1]
  refine j_dld C rfl dL_law_1955 ?_
  refine j_dcmpE C h9.2 dL_law_1957 ?_
  refine j_if_eq C ⟨by decide, by decide⟩ dL_law_1958 (fun _ => ?_) (fun q => absurd rfl q)
  refine j_goto C dL_law_1983 ?_
  refine j_widen (ce' := ce + 2) (sl' := sl + 12) (by omega) (by omega) ?_
  exact kx _ _ _ _ _ hAg.2.2.2
set_option maxRecDepth 100000 in
set_option maxHeartbeats 4000000 in
theorem L_32 {Γ : Ga} {p : Program} {l : Launch} {e : Env} {s : State} {m : MethodId} {args : Array Value} {below : List Frame} {meth : Method} {c : Code} {Q : State → Prop} {b Ls : Nat} {xs : Nat → Int32} {i v1 v2 M : Int} {ce sl : Nat} {ω : Wo} : Cs Γ p l e s m args below meth c Q b Ls xs i v1 v2 M ce sl 1986 ω := by
  intro u6 u7 u8 u9 C hK3 hsl hX hb hi hLs e1 e2 r1 r2 hI hM hce kx
  show J Γ p l e R9 s m args below meth c Q 254 ce sl 1986 [some (.ref b), some (.ref (rl Γ 0)), some (.ref (rl Γ 243)), some (.ref (rl Γ 252)), some (.ref (rl Γ 253)), some (.int (iI i)), u6, u7, u8, u9] [] ω
  refine j_aload1 C dL_law_1986 ?_
  refine j_cVF0 C (s_outShare hsl hI hM) oX8_outShare (show Lk RL 238 yX8_outShare from (WS_of 441 (by decide +kernel))) ⟨_, rfl, rfl⟩ at_0 ⟨by decide, by decide⟩ rfl (Nat.le_of_ble_eq_true rfl) ⟨by omega, by omega⟩ dL_law_1987 ?_
  intro z W1 hP
  refine j_f2d C hP.1 dL_law_1990 ?_
  refine j_dst (L' := [some (.ref b), some (.ref (rl Γ 0)), some (.ref (rl Γ 243)), some (.ref (rl Γ 252)), some (.ref (rl Γ 253)), some (.int (iI i)), some (.double (FP.f2d z)), none, u8, u9]) C (Nat.le_of_ble_eq_true rfl) (Or.inr rfl) rfl dL_law_1991 ?_
  refine j_aload2 C dL_law_1993 ?_
  refine j_cVF0 C hP.2 oX9_outShare (show Lk RL 242 yX9_outShare from (WS_of 1952 (by decide +kernel))) ⟨_, rfl, rfl⟩ at_243 ⟨by decide, by decide⟩ rfl (Nat.le_of_ble_eq_true rfl) ⟨by omega, by omega⟩ dL_law_1994 ?_
  intro z2 W2 hQ
  obtain ⟨rfl, hQ2⟩ := hQ
  have hself := d_self hP.1
  refine j_f2d C hP.1 dL_law_1997 ?_
  refine j_dst (L' := [some (.ref b), some (.ref (rl Γ 0)), some (.ref (rl Γ 243)), some (.ref (rl Γ 252)), some (.ref (rl Γ 253)), some (.int (iI i)), some (.double (FP.f2d z)), none, some (.double (FP.f2d z)), none]) C (Nat.le_of_ble_eq_true rfl) (Or.inr rfl) rfl dL_law_1998 ?_
  refine j_dld C rfl dL_law_2000 ?_
  refine j_dld C rfl dL_law_2002 ?_
  refine j_dcmpE C hself dL_law_2004 ?_
  refine j_if_eq C ⟨by decide, by decide⟩ dL_law_2005 (fun _ => ?_) (fun q => absurd rfl q)
  refine j_goto C dL_law_2026 ?_
  refine j_widen (ce' := ce + 2) (sl' := sl + 12) (by omega) (by omega) ?_
  exact kx W2 _ _ _ _ hQ2
set_option maxRecDepth 100000 in
set_option maxHeartbeats 4000000 in
theorem L_33 {Γ : Ga} {p : Program} {l : Launch} {e : Env} {s : State} {m : MethodId} {args : Array Value} {below : List Frame} {meth : Method} {c : Code} {Q : State → Prop} {b Ls : Nat} {xs : Nat → Int32} {i v1 v2 M : Int} {ce sl : Nat} {ω : Wo} : Cs Γ p l e s m args below meth c Q b Ls xs i v1 v2 M ce sl 2029 ω := by
  intro u6 u7 u8 u9 C hK3 hsl hX hb hi hLs e1 e2 r1 r2 hI hM hce kx
  show J Γ p l e R9 s m args below meth c Q 254 ce sl 2029 [some (.ref b), some (.ref (rl Γ 0)), some (.ref (rl Γ 243)), some (.ref (rl Γ 252)), some (.ref (rl Γ 253)), some (.int (iI i)), u6, u7, u8, u9] [] ω
  refine j_aload1 C dL_law_2029 ?_
  refine j_aload0 C dL_law_2030 ?_
  refine j_iload5 C dL_law_2031 ?_
  refine j_iconst C dL_law_2033 ?_
  refine j_iadd C dL_law_2034 ?_
  refine j_sldv C hX hb ⟨by omega, by omega⟩ hLs e1 dL_law_2035 ?_
  refine j_aload3 C dL_law_2036 ?_
  refine j_cW (as := [.ref (rl Γ 0), .int (iI v1), .ref (rl Γ 252)]) (S := []) C hK3 (s_account hsl hI hM r1) o_w_account (show Lk RL 243 yL_account from (WS_of 1484 (by decide +kernel))) ⟨by omega, by decide⟩ rfl rfl (Nat.le_of_ble_eq_true rfl) ⟨by omega, by omega⟩ dL_law_2037 ?_
  intro z W1 hz hP
  refine j_istore6 C rfl dL_law_2040 ?_
  refine j_aload2 C dL_law_2042 ?_
  refine j_aload0 C dL_law_2043 ?_
  refine j_iload5 C dL_law_2044 ?_
  refine j_iconst C dL_law_2046 ?_
  refine j_iadd C dL_law_2047 ?_
  refine j_sldv C hX hb ⟨by omega, by omega⟩ hLs e1 dL_law_2048 ?_
  refine j_cVI1 C hP oX9_account (show Lk RL 245 yX9_account from (WS_of 1956 (by decide +kernel))) ⟨_, rfl, rfl⟩ at_243 ⟨by decide, by decide⟩ rfl (Nat.le_of_ble_eq_true rfl) ⟨by omega, by omega⟩ dL_law_2049 ?_
  intro z2 W2 hz2 hAg
  refine j_istore7 C rfl dL_law_2052 ?_
  refine j_aload2 C dL_law_2054 ?_
  refine j_cVI0 C (c_X9_thrown hAg.1) oX9_thrown (show Lk RL 134 yX9_thrown from (WS_of 1579 (by decide +kernel))) ⟨_, rfl, rfl⟩ at_243 ⟨by decide, by decide⟩ rfl (Nat.le_of_ble_eq_true rfl) ⟨by omega, by omega⟩ dL_law_2055 ?_
  intro t W3 ht hT
  obtain ⟨rfl, rfl⟩ := hT
  refine j_iload6 C dL_law_2058 ?_
  refine j_icmp_eq C ht hz dL_law_2060 (fun _ => ?_) (fun q => absurd hAg.2.1 q)
  refine j_iload6 C dL_law_2065 ?_
  refine j_if_ne C hz dL_law_2067 (fun _ => ?_) (fun hk => ?_)
  · refine j_goto C dL_law_2082 ?_
    refine j_widen (ce' := ce + 2) (sl' := sl + 12) (by omega) (by omega) ?_
    exact kx _ _ _ _ _ hAg.2.2.2
  refine j_aload3 C dL_law_2070 ?_
  refine j_iconst C dL_law_2071 ?_
  refine j_lald C (hAg.2.2.1 hk) dL_law_2072 ?_
  refine j_iload7 C dL_law_2073 ?_
  refine j_i2l C hz2 dL_law_2075 ?_
  refine j_lcmp C dL_law_2076 ?_
  refine j_if_eq C ⟨by decide, by decide⟩ dL_law_2077 (fun _ => ?_) (fun q => absurd rfl q)
  refine j_goto C dL_law_2082 ?_
  refine j_widen (ce' := ce + 2) (sl' := sl + 12) (by omega) (by omega) ?_
  exact kx _ _ _ _ _ hAg.2.2.2
set_option maxRecDepth 100000 in
set_option maxHeartbeats 4000000 in
theorem L_34 {Γ : Ga} {p : Program} {l : Launch} {e : Env} {s : State} {m : MethodId} {args : Array Value} {below : List Frame} {meth : Method} {c : Code} {Q : State → Prop} {b Ls : Nat} {xs : Nat → Int32} {i v1 v2 M : Int} {ce sl : Nat} {ω : Wo} : Cs Γ p l e s m args below meth c Q b Ls xs i v1 v2 M ce sl 2085 ω := by
  intro u6 u7 u8 u9 C hK3 hsl hX hb hi hLs e1 e2 r1 r2 hI hM hce kx
  show J Γ p l e R9 s m args below meth c Q 254 ce sl 2085 [some (.ref b), some (.ref (rl Γ 0)), some (.ref (rl Γ 243)), some (.ref (rl Γ 252)), some (.ref (rl Γ 253)), some (.int (iI i)), u6, u7, u8, u9] [] ω
  refine j_aload1 C dL_law_2085 ?_
  refine j_aload3 C dL_law_2086 ?_
  refine j_cW (as := [.ref (rl Γ 0), .ref (rl Γ 252)]) (S := []) C hK3 (s_undo hsl hI hM) o_w_undo (show Lk RL 246 yL_undo from (WS_of 1496 (by decide +kernel))) ⟨by omega, by decide⟩ rfl rfl (Nat.le_of_ble_eq_true rfl) ⟨by omega, by omega⟩ dL_law_2087 ?_
  intro z W1 hz hP
  refine j_istore6 C rfl dL_law_2090 ?_
  refine j_aload2 C dL_law_2092 ?_
  refine j_cVI0 C hP oX9_undo (show Lk RL 248 yX9_undo from (WS_of 1964 (by decide +kernel))) ⟨_, rfl, rfl⟩ at_243 ⟨by decide, by decide⟩ rfl (Nat.le_of_ble_eq_true rfl) ⟨by omega, by omega⟩ dL_law_2093 ?_
  intro z2 W2 hz2 hAg
  refine j_istore7 C rfl dL_law_2096 ?_
  refine j_aload2 C dL_law_2098 ?_
  refine j_cVI0 C (c_X9_thrown hAg.1) oX9_thrown (show Lk RL 134 yX9_thrown from (WS_of 1579 (by decide +kernel))) ⟨_, rfl, rfl⟩ at_243 ⟨by decide, by decide⟩ rfl (Nat.le_of_ble_eq_true rfl) ⟨by omega, by omega⟩ dL_law_2099 ?_
  intro t W3 ht hT
  obtain ⟨rfl, rfl⟩ := hT
  refine j_iload6 C dL_law_2102 ?_
  refine j_icmp_eq C ht hz dL_law_2104 (fun _ => ?_) (fun q => absurd hAg.2.1 q)
  refine j_iload6 C dL_law_2109 ?_
  refine j_if_ne C hz dL_law_2111 (fun _ => ?_) (fun hk => ?_)
  · refine j_goto C dL_law_2126 ?_
    refine j_widen (ce' := ce + 2) (sl' := sl + 12) (by omega) (by omega) ?_
    exact kx _ _ _ _ _ hAg.2.2.2
  refine j_aload3 C dL_law_2114 ?_
  refine j_iconst C dL_law_2115 ?_
  refine j_lald C (hAg.2.2.1 hk) dL_law_2116 ?_
  refine j_iload7 C dL_law_2117 ?_
  refine j_i2l C hz2 dL_law_2119 ?_
  refine j_lcmp C dL_law_2120 ?_
  refine j_if_eq C ⟨by decide, by decide⟩ dL_law_2121 (fun _ => ?_) (fun q => absurd rfl q)
  refine j_goto C dL_law_2126 ?_
  refine j_widen (ce' := ce + 2) (sl' := sl + 12) (by omega) (by omega) ?_
  exact kx _ _ _ _ _ hAg.2.2.2
set_option maxRecDepth 100000 in
set_option maxHeartbeats 4000000 in
theorem L_35 {Γ : Ga} {p : Program} {l : Launch} {e : Env} {s : State} {m : MethodId} {args : Array Value} {below : List Frame} {meth : Method} {c : Code} {Q : State → Prop} {b Ls : Nat} {xs : Nat → Int32} {i v1 v2 M : Int} {ce sl : Nat} {ω : Wo} : Cs Γ p l e s m args below meth c Q b Ls xs i v1 v2 M ce sl 2129 ω := by
  intro u6 u7 u8 u9 C hK3 hsl hX hb hi hLs e1 e2 r1 r2 hI hM hce kx
  show J Γ p l e R9 s m args below meth c Q 254 ce sl 2129 [some (.ref b), some (.ref (rl Γ 0)), some (.ref (rl Γ 243)), some (.ref (rl Γ 252)), some (.ref (rl Γ 253)), some (.int (iI i)), u6, u7, u8, u9] [] ω
  refine j_aload1 C dL_law_2129 ?_
  refine j_cVI0 C (s_save hsl hI hM) oX8_save (show Lk RL 249 yX8_save from (WS_of 447 (by decide +kernel))) ⟨_, rfl, rfl⟩ at_0 ⟨by decide, by decide⟩ rfl (Nat.le_of_ble_eq_true rfl) ⟨by omega, by omega⟩ dL_law_2130 ?_
  intro z W1 hz hP
  refine j_aload2 C dL_law_2133 ?_
  refine j_cVI0 C hP oX9_save (show Lk RL 252 yX9_save from (WS_of 1968 (by decide +kernel))) ⟨_, rfl, rfl⟩ at_243 ⟨by decide, by decide⟩ rfl (Nat.le_of_ble_eq_true rfl) ⟨by omega, by omega⟩ dL_law_2134 ?_
  intro z2 W2 hz2 hQ
  obtain ⟨rfl, hQ2⟩ := hQ
  refine j_icmp_eq C hz hz dL_law_2137 (fun _ => ?_) (fun q => absurd rfl q)
  refine j_widen (ce' := ce + 2) (sl' := sl + 12) (by omega) (by omega) ?_
  exact kx W2 _ _ _ _ hQ2
set_option maxRecDepth 100000 in
set_option maxHeartbeats 4000000 in
theorem L_36 {Γ : Ga} {p : Program} {l : Launch} {e : Env} {s : State} {m : MethodId} {args : Array Value} {below : List Frame} {meth : Method} {c : Code} {Q : State → Prop} {b Ls : Nat} {xs : Nat → Int32} {i v1 v2 M : Int} {ce sl : Nat} {ω : Wo} : Cs Γ p l e s m args below meth c Q b Ls xs i v1 v2 M ce sl 2142 ω := by
  intro u6 u7 u8 u9 C hK3 hsl hX hb hi hLs e1 e2 r1 r2 hI hM hce kx
  show J Γ p l e R9 s m args below meth c Q 254 ce sl 2142 [some (.ref b), some (.ref (rl Γ 0)), some (.ref (rl Γ 243)), some (.ref (rl Γ 252)), some (.ref (rl Γ 253)), some (.int (iI i)), u6, u7, u8, u9] [] ω
  refine j_aload1 C dL_law_2142 ?_
  refine j_aload3 C dL_law_2143 ?_
  refine j_cW (as := [.ref (rl Γ 0), .ref (rl Γ 252)]) (S := []) C hK3 (s_restore hsl hI hM) o_w_restore (show Lk RL 253 yL_restore from (WS_of 1504 (by decide +kernel))) ⟨by omega, by decide⟩ rfl rfl (Nat.le_of_ble_eq_true rfl) ⟨by omega, by omega⟩ dL_law_2144 ?_
  intro z W1 hz hP
  refine j_istore6 C rfl dL_law_2147 ?_
  refine j_aload2 C dL_law_2149 ?_
  refine j_cVI0 C hP oX9_restore (show Lk RL 255 yX9_restore from (WS_of 1972 (by decide +kernel))) ⟨_, rfl, rfl⟩ at_243 ⟨by decide, by decide⟩ rfl (Nat.le_of_ble_eq_true rfl) ⟨by omega, by omega⟩ dL_law_2150 ?_
  intro z2 W2 hz2 hAg
  refine j_istore7 C rfl dL_law_2153 ?_
  refine j_aload2 C dL_law_2155 ?_
  refine j_cVI0 C (c_X9_thrown hAg.1) oX9_thrown (show Lk RL 134 yX9_thrown from (WS_of 1579 (by decide +kernel))) ⟨_, rfl, rfl⟩ at_243 ⟨by decide, by decide⟩ rfl (Nat.le_of_ble_eq_true rfl) ⟨by omega, by omega⟩ dL_law_2156 ?_
  intro t W3 ht hT
  obtain ⟨rfl, rfl⟩ := hT
  refine j_iload6 C dL_law_2159 ?_
  refine j_icmp_eq C ht hz dL_law_2161 (fun _ => ?_) (fun q => absurd hAg.2.1 q)
  refine j_iload6 C dL_law_2166 ?_
  refine j_if_ne C hz dL_law_2168 (fun _ => ?_) (fun hk => ?_)
  · refine j_goto C dL_law_2183 ?_
    refine j_widen (ce' := ce + 2) (sl' := sl + 12) (by omega) (by omega) ?_
    exact kx _ _ _ _ _ hAg.2.2.2
  refine j_aload3 C dL_law_2171 ?_
  refine j_iconst C dL_law_2172 ?_
  refine j_lald C (hAg.2.2.1 hk) dL_law_2173 ?_
  refine j_iload7 C dL_law_2174 ?_
  refine j_i2l C hz2 dL_law_2176 ?_
  refine j_lcmp C dL_law_2177 ?_
  refine j_if_eq C ⟨by decide, by decide⟩ dL_law_2178 (fun _ => ?_) (fun q => absurd rfl q)
  refine j_goto C dL_law_2183 ?_
  refine j_widen (ce' := ce + 2) (sl' := sl + 12) (by omega) (by omega) ?_
  exact kx _ _ _ _ _ hAg.2.2.2
