set_option maxRecDepth 100000 in
set_option maxHeartbeats 4000000 in
theorem lcs_28 {nm : String} {tb : List (Nat × Nat × Nat × Nat)} {b L i t cs ss : Nat} {xs : Nat → Int32} {x : kK} {y : kY} {f : Nat → Int64} {d : Nat → UInt64} (X : RX t x y) (ht : t + 11 < 2 ^ 20) (hi : i + 4 ≤ L) (hL : L ≤ 2048) (hc : cs + 1 ≤ 603072) (hs : ss + 6 ≤ 7182442) (go : LG nm tb b L xs i (t + 11) (cs + 1) (ss + 6)) : kEv (kLw nm tb) RW (FL b L xs) false 1708 [.ref 2000, .ref 0, .ref 116, .ref 128, .ref 129, .int (nI i), .retAddr 0, .retAddr 0, .retAddr 0] [] (h4 x y f d) 130 cs ss := by
  obtain ⟨X2, qe, -⟩ := q_pleaCount X
  refine k_aload_n (i := 1) dL_law_1708 (rfl : 1708 + 1 = 1709) rfl rfl ?_
  refine k_callVd0 cv_L_258 ⟨Nat.le_of_ble_eq_true rfl, Nat.le_of_ble_eq_true rfl⟩ (m_X11_pleaCount (x := x)) dL_law_1709 (rfl : 1709 + 3 = 1712) (Nat.le_of_ble_eq_true rfl) rfl rfl rfl (lc0 hc hs) ?_
  refine k_aload_n (i := 2) dL_law_1712 (rfl : 1712 + 1 = 1713) rfl rfl ?_
  refine k_callVd0 cv_L_261 ⟨Nat.le_of_ble_eq_true rfl, Nat.le_of_ble_eq_true rfl⟩ (m_X12_pleaCount (x := y)) dL_law_1713 (rfl : 1713 + 3 = 1716) (Nat.le_of_ble_eq_true rfl) rfl rfl rfl (lc0 hc hs) ?_
  refine k_icmp_eq (tgt := 2815) dL_law_1716 (rfl : 1716 + 3 = 1719) (by decide) (fun _ => ?_) (fun b => absurd qe b)
  exact l_go go X2 (by omega) (show cs ≤ cs + 1 by omega) (show ss ≤ ss + 6 by omega)
set_option maxRecDepth 100000 in
set_option maxHeartbeats 4000000 in
theorem lcs_29 {nm : String} {tb : List (Nat × Nat × Nat × Nat)} {b L i t cs ss : Nat} {xs : Nat → Int32} {x : kK} {y : kY} {f : Nat → Int64} {d : Nat → UInt64} (X : RX t x y) (ht : t + 11 < 2 ^ 20) (hi : i + 4 ≤ L) (hL : L ≤ 2048) (hc : cs + 1 ≤ 603072) (hs : ss + 6 ≤ 7182442) (go : LG nm tb b L xs i (t + 11) (cs + 1) (ss + 6)) : kEv (kLw nm tb) RW (FL b L xs) false 1721 [.ref 2000, .ref 0, .ref 116, .ref 128, .ref 129, .int (nI i), .retAddr 0, .retAddr 0, .retAddr 0] [] (h4 x y f d) 130 cs ss := by
  obtain ⟨X2, alt⟩ := q_pleaParty X (a := (xs (i + 1)))
  have hK := m_X11_pleaParty (x := x) (r := kHr y (kJ 1 f, kDb 1 d)) (a1 := (xs (i + 1))) X.R.iv
  rcases alt with ⟨eo, e0⟩ | ⟨eo, e0⟩
  · rw [eo] at hK
    have hm := v_L_pleaParty (h2 := h4 x y f d) hK rfl rfl
    rw [h4_f] at hm
    refine k_aload_n (i := 1) dL_law_1721 (rfl : 1721 + 1 = 1722) rfl rfl ?_
    refine k_aload_n (i := 0) dL_law_1722 (rfl : 1722 + 1 = 1723) rfl rfl ?_
    refine k_iload (i := 5) dL_law_1723 (rfl : 1723 + 2 = 1725) rfl ?_
    refine k_iconst (v := 1) dL_law_1725 (rfl : 1725 + 1 = 1726) (by decide) ?_
    refine k_iadd dL_law_1726 (rfl : 1726 + 1 = 1727) ?_
    refine k_sld (j := i + 1) dL_law_1727 (rfl : 1727 + 1 = 1728) (nI_add i 1) (by omega) (by omega) ?_
    refine k_aload_n (i := 3) dL_law_1728 (rfl : 1728 + 1 = 1729) rfl rfl ?_
    refine k_callSTd3 cv_L_262 ⟨Nat.le_of_ble_eq_true rfl, Nat.le_of_ble_eq_true rfl⟩ hm dL_law_1729 (rfl : 1729 + 3 = 1732) rfl (lc1 hc hs) rfl ?_
    refine k_istore (i := 6) dL_law_1732 (rfl : 1732 + 2 = 1734) (Nat.le_of_ble_eq_true rfl) ?_
    refine k_ls (ls2 := [.ref 2000, .ref 0, .ref 116, .ref 128, .ref 129, .int (nI i), .int 0, .retAddr 0, .retAddr 0]) rfl ?_
    refine k_aload_n (i := 2) dL_law_1734 (rfl : 1734 + 1 = 1735) rfl rfl ?_
    refine k_aload_n (i := 0) dL_law_1735 (rfl : 1735 + 1 = 1736) rfl rfl ?_
    refine k_iload (i := 5) dL_law_1736 (rfl : 1736 + 2 = 1738) rfl ?_
    refine k_iconst (v := 1) dL_law_1738 (rfl : 1738 + 1 = 1739) (by decide) ?_
    refine k_iadd dL_law_1739 (rfl : 1739 + 1 = 1740) ?_
    refine k_sld (j := i + 1) dL_law_1740 (rfl : 1740 + 1 = 1741) (nI_add i 1) (by omega) (by omega) ?_
    refine k_callVd1 cv_L_264 ⟨Nat.le_of_ble_eq_true rfl, Nat.le_of_ble_eq_true rfl⟩ (m_X12_pleaParty (x := y) (a1 := (xs (i + 1))) X.R.mv) dL_law_1741 (rfl : 1741 + 3 = 1744) (Nat.le_of_ble_eq_true rfl) rfl rfl rfl (lc1 hc hs) ?_
    refine k_istore (i := 7) dL_law_1744 (rfl : 1744 + 2 = 1746) (Nat.le_of_ble_eq_true rfl) ?_
    refine k_ls (ls2 := [.ref 2000, .ref 0, .ref 116, .ref 128, .ref 129, .int (nI i), .int 0, .int (f_X12_pleaParty y (xs (i + 1))), .retAddr 0]) rfl ?_
    refine k_aload_n (i := 2) dL_law_1746 (rfl : 1746 + 1 = 1747) rfl rfl ?_
    refine k_callVd0 cv_L_161 ⟨Nat.le_of_ble_eq_true rfl, Nat.le_of_ble_eq_true rfl⟩ (m_X12_thrown (x := (g_X12_pleaParty y (xs (i + 1))))) dL_law_1747 (rfl : 1747 + 3 = 1750) (Nat.le_of_ble_eq_true rfl) rfl rfl rfl (lc1 hc hs) ?_
    refine k_iload (i := 6) dL_law_1750 (rfl : 1750 + 2 = 1752) rfl ?_
    refine k_icmp_eq (tgt := 1757) dL_law_1752 (rfl : 1752 + 3 = 1755) (by decide) (fun _ => ?_) (fun b => absurd e0 b)
    refine k_iload (i := 6) dL_law_1757 (rfl : 1757 + 2 = 1759) rfl ?_
    refine k_if_ne (tgt := 1774) dL_law_1759 (rfl : 1759 + 3 = 1762) (by decide) (fun b => absurd b (by decide)) (fun _ => ?_)
    refine k_aload_n (i := 3) dL_law_1762 (rfl : 1762 + 1 = 1763) rfl rfl ?_
    refine k_iconst (v := 0) dL_law_1763 (rfl : 1763 + 1 = 1764) (by decide) ?_
    refine k_lald dL_law_1764 (rfl : 1764 + 1 = 1765) (Nat.le_of_ble_eq_true rfl) rfl vp_00 ?_
    refine k_iload (i := 7) dL_law_1765 (rfl : 1765 + 2 = 1767) rfl ?_
    refine k_i2l dL_law_1767 (rfl : 1767 + 1 = 1768) ?_
    refine k_lcmp dL_law_1768 (rfl : 1768 + 1 = 1769) ?_
    refine k_if_eq (tgt := 1774) dL_law_1769 (rfl : 1769 + 3 = 1772) (by decide) (fun _ => ?_) (fun b => absurd (lg_cmp_0.2 uL0) b)
    refine k_goto (tgt := 2815) dL_law_1774 (by decide) ?_
    exact l_go go X2 (by omega) (Nat.le_refl _) (Nat.le_refl _)
  · rw [eo] at hK
    have hm := x1_L_pleaParty (h2 := h4 x y f d) hK rfl
    refine k_aload_n (i := 1) dL_law_1721 (rfl : 1721 + 1 = 1722) rfl rfl ?_
    refine k_aload_n (i := 0) dL_law_1722 (rfl : 1722 + 1 = 1723) rfl rfl ?_
    refine k_iload (i := 5) dL_law_1723 (rfl : 1723 + 2 = 1725) rfl ?_
    refine k_iconst (v := 1) dL_law_1725 (rfl : 1725 + 1 = 1726) (by decide) ?_
    refine k_iadd dL_law_1726 (rfl : 1726 + 1 = 1727) ?_
    refine k_sld (j := i + 1) dL_law_1727 (rfl : 1727 + 1 = 1728) (nI_add i 1) (by omega) (by omega) ?_
    refine k_aload_n (i := 3) dL_law_1728 (rfl : 1728 + 1 = 1729) rfl rfl ?_
    refine k_callSTd3 cv_L_262 ⟨Nat.le_of_ble_eq_true rfl, Nat.le_of_ble_eq_true rfl⟩ hm dL_law_1729 (rfl : 1729 + 3 = 1732) rfl (lc1 hc hs) rfl ?_
    refine k_istore (i := 6) dL_law_1732 (rfl : 1732 + 2 = 1734) (Nat.le_of_ble_eq_true rfl) ?_
    refine k_ls (ls2 := [.ref 2000, .ref 0, .ref 116, .ref 128, .ref 129, .int (nI i), .int 1, .retAddr 0, .retAddr 0]) rfl ?_
    refine k_aload_n (i := 2) dL_law_1734 (rfl : 1734 + 1 = 1735) rfl rfl ?_
    refine k_aload_n (i := 0) dL_law_1735 (rfl : 1735 + 1 = 1736) rfl rfl ?_
    refine k_iload (i := 5) dL_law_1736 (rfl : 1736 + 2 = 1738) rfl ?_
    refine k_iconst (v := 1) dL_law_1738 (rfl : 1738 + 1 = 1739) (by decide) ?_
    refine k_iadd dL_law_1739 (rfl : 1739 + 1 = 1740) ?_
    refine k_sld (j := i + 1) dL_law_1740 (rfl : 1740 + 1 = 1741) (nI_add i 1) (by omega) (by omega) ?_
    refine k_callVd1 cv_L_264 ⟨Nat.le_of_ble_eq_true rfl, Nat.le_of_ble_eq_true rfl⟩ (m_X12_pleaParty (x := y) (a1 := (xs (i + 1))) X.R.mv) dL_law_1741 (rfl : 1741 + 3 = 1744) (Nat.le_of_ble_eq_true rfl) rfl rfl rfl (lc1 hc hs) ?_
    refine k_istore (i := 7) dL_law_1744 (rfl : 1744 + 2 = 1746) (Nat.le_of_ble_eq_true rfl) ?_
    refine k_ls (ls2 := [.ref 2000, .ref 0, .ref 116, .ref 128, .ref 129, .int (nI i), .int 1, .int (f_X12_pleaParty y (xs (i + 1))), .retAddr 0]) rfl ?_
    refine k_aload_n (i := 2) dL_law_1746 (rfl : 1746 + 1 = 1747) rfl rfl ?_
    refine k_callVd0 cv_L_161 ⟨Nat.le_of_ble_eq_true rfl, Nat.le_of_ble_eq_true rfl⟩ (m_X12_thrown (x := (g_X12_pleaParty y (xs (i + 1))))) dL_law_1747 (rfl : 1747 + 3 = 1750) (Nat.le_of_ble_eq_true rfl) rfl rfl rfl (lc1 hc hs) ?_
    refine k_iload (i := 6) dL_law_1750 (rfl : 1750 + 2 = 1752) rfl ?_
    refine k_icmp_eq (tgt := 1757) dL_law_1752 (rfl : 1752 + 3 = 1755) (by decide) (fun _ => ?_) (fun b => absurd e0 b)
    refine k_iload (i := 6) dL_law_1757 (rfl : 1757 + 2 = 1759) rfl ?_
    refine k_if_ne (tgt := 1774) dL_law_1759 (rfl : 1759 + 3 = 1762) (by decide) (fun _ => ?_) (fun b => absurd b (by decide))
    refine k_goto (tgt := 2815) dL_law_1774 (by decide) ?_
    exact l_go go X2 (by omega) (Nat.le_refl _) (Nat.le_refl _)
set_option maxRecDepth 100000 in
set_option maxHeartbeats 4000000 in
theorem lcs_30 {nm : String} {tb : List (Nat × Nat × Nat × Nat)} {b L i t cs ss : Nat} {xs : Nat → Int32} {x : kK} {y : kY} {f : Nat → Int64} {d : Nat → UInt64} (X : RX t x y) (ht : t + 11 < 2 ^ 20) (hi : i + 4 ≤ L) (hL : L ≤ 2048) (hc : cs + 1 ≤ 603072) (hs : ss + 6 ≤ 7182442) (go : LG nm tb b L xs i (t + 11) (cs + 1) (ss + 6)) : kEv (kLw nm tb) RW (FL b L xs) false 1777 [.ref 2000, .ref 0, .ref 116, .ref 128, .ref 129, .int (nI i), .retAddr 0, .retAddr 0, .retAddr 0] [] (h4 x y f d) 130 cs ss := by
  obtain ⟨X2, alt⟩ := q_pleaFrom X (a := (xs (i + 1)))
  have hK := m_X11_pleaFrom (x := x) (r := kHr y (kJ 1 f, kDb 1 d)) (a1 := (xs (i + 1))) X.R.iv
  rcases alt with ⟨eo, e0⟩ | ⟨eo, e0⟩
  · rw [eo] at hK
    have hm := v_L_pleaFrom (h2 := h4 x y f d) hK rfl rfl
    rw [h4_f] at hm
    refine k_aload_n (i := 1) dL_law_1777 (rfl : 1777 + 1 = 1778) rfl rfl ?_
    refine k_aload_n (i := 0) dL_law_1778 (rfl : 1778 + 1 = 1779) rfl rfl ?_
    refine k_iload (i := 5) dL_law_1779 (rfl : 1779 + 2 = 1781) rfl ?_
    refine k_iconst (v := 1) dL_law_1781 (rfl : 1781 + 1 = 1782) (by decide) ?_
    refine k_iadd dL_law_1782 (rfl : 1782 + 1 = 1783) ?_
    refine k_sld (j := i + 1) dL_law_1783 (rfl : 1783 + 1 = 1784) (nI_add i 1) (by omega) (by omega) ?_
    refine k_aload_n (i := 3) dL_law_1784 (rfl : 1784 + 1 = 1785) rfl rfl ?_
    refine k_callSTd3 cv_L_265 ⟨Nat.le_of_ble_eq_true rfl, Nat.le_of_ble_eq_true rfl⟩ hm dL_law_1785 (rfl : 1785 + 3 = 1788) rfl (lc1 hc hs) rfl ?_
    refine k_istore (i := 6) dL_law_1788 (rfl : 1788 + 2 = 1790) (Nat.le_of_ble_eq_true rfl) ?_
    refine k_ls (ls2 := [.ref 2000, .ref 0, .ref 116, .ref 128, .ref 129, .int (nI i), .int 0, .retAddr 0, .retAddr 0]) rfl ?_
    refine k_aload_n (i := 2) dL_law_1790 (rfl : 1790 + 1 = 1791) rfl rfl ?_
    refine k_aload_n (i := 0) dL_law_1791 (rfl : 1791 + 1 = 1792) rfl rfl ?_
    refine k_iload (i := 5) dL_law_1792 (rfl : 1792 + 2 = 1794) rfl ?_
    refine k_iconst (v := 1) dL_law_1794 (rfl : 1794 + 1 = 1795) (by decide) ?_
    refine k_iadd dL_law_1795 (rfl : 1795 + 1 = 1796) ?_
    refine k_sld (j := i + 1) dL_law_1796 (rfl : 1796 + 1 = 1797) (nI_add i 1) (by omega) (by omega) ?_
    refine k_callVd1 cv_L_267 ⟨Nat.le_of_ble_eq_true rfl, Nat.le_of_ble_eq_true rfl⟩ (m_X12_pleaFrom (x := y) (a1 := (xs (i + 1))) X.R.mv) dL_law_1797 (rfl : 1797 + 3 = 1800) (Nat.le_of_ble_eq_true rfl) rfl rfl rfl (lc1 hc hs) ?_
    refine k_istore (i := 7) dL_law_1800 (rfl : 1800 + 2 = 1802) (Nat.le_of_ble_eq_true rfl) ?_
    refine k_ls (ls2 := [.ref 2000, .ref 0, .ref 116, .ref 128, .ref 129, .int (nI i), .int 0, .int (f_X12_pleaFrom y (xs (i + 1))), .retAddr 0]) rfl ?_
    refine k_aload_n (i := 2) dL_law_1802 (rfl : 1802 + 1 = 1803) rfl rfl ?_
    refine k_callVd0 cv_L_161 ⟨Nat.le_of_ble_eq_true rfl, Nat.le_of_ble_eq_true rfl⟩ (m_X12_thrown (x := (g_X12_pleaFrom y (xs (i + 1))))) dL_law_1803 (rfl : 1803 + 3 = 1806) (Nat.le_of_ble_eq_true rfl) rfl rfl rfl (lc1 hc hs) ?_
    refine k_iload (i := 6) dL_law_1806 (rfl : 1806 + 2 = 1808) rfl ?_
    refine k_icmp_eq (tgt := 1813) dL_law_1808 (rfl : 1808 + 3 = 1811) (by decide) (fun _ => ?_) (fun b => absurd e0 b)
    refine k_iload (i := 6) dL_law_1813 (rfl : 1813 + 2 = 1815) rfl ?_
    refine k_if_ne (tgt := 1830) dL_law_1815 (rfl : 1815 + 3 = 1818) (by decide) (fun b => absurd b (by decide)) (fun _ => ?_)
    refine k_aload_n (i := 3) dL_law_1818 (rfl : 1818 + 1 = 1819) rfl rfl ?_
    refine k_iconst (v := 0) dL_law_1819 (rfl : 1819 + 1 = 1820) (by decide) ?_
    refine k_lald dL_law_1820 (rfl : 1820 + 1 = 1821) (Nat.le_of_ble_eq_true rfl) rfl vp_00 ?_
    refine k_iload (i := 7) dL_law_1821 (rfl : 1821 + 2 = 1823) rfl ?_
    refine k_i2l dL_law_1823 (rfl : 1823 + 1 = 1824) ?_
    refine k_lcmp dL_law_1824 (rfl : 1824 + 1 = 1825) ?_
    refine k_if_eq (tgt := 1830) dL_law_1825 (rfl : 1825 + 3 = 1828) (by decide) (fun _ => ?_) (fun b => absurd (lg_cmp_0.2 uL0) b)
    refine k_goto (tgt := 2815) dL_law_1830 (by decide) ?_
    exact l_go go X2 (by omega) (Nat.le_refl _) (Nat.le_refl _)
  · rw [eo] at hK
    have hm := x1_L_pleaFrom (h2 := h4 x y f d) hK rfl
    refine k_aload_n (i := 1) dL_law_1777 (rfl : 1777 + 1 = 1778) rfl rfl ?_
    refine k_aload_n (i := 0) dL_law_1778 (rfl : 1778 + 1 = 1779) rfl rfl ?_
    refine k_iload (i := 5) dL_law_1779 (rfl : 1779 + 2 = 1781) rfl ?_
    refine k_iconst (v := 1) dL_law_1781 (rfl : 1781 + 1 = 1782) (by decide) ?_
    refine k_iadd dL_law_1782 (rfl : 1782 + 1 = 1783) ?_
    refine k_sld (j := i + 1) dL_law_1783 (rfl : 1783 + 1 = 1784) (nI_add i 1) (by omega) (by omega) ?_
    refine k_aload_n (i := 3) dL_law_1784 (rfl : 1784 + 1 = 1785) rfl rfl ?_
    refine k_callSTd3 cv_L_265 ⟨Nat.le_of_ble_eq_true rfl, Nat.le_of_ble_eq_true rfl⟩ hm dL_law_1785 (rfl : 1785 + 3 = 1788) rfl (lc1 hc hs) rfl ?_
    refine k_istore (i := 6) dL_law_1788 (rfl : 1788 + 2 = 1790) (Nat.le_of_ble_eq_true rfl) ?_
    refine k_ls (ls2 := [.ref 2000, .ref 0, .ref 116, .ref 128, .ref 129, .int (nI i), .int 1, .retAddr 0, .retAddr 0]) rfl ?_
    refine k_aload_n (i := 2) dL_law_1790 (rfl : 1790 + 1 = 1791) rfl rfl ?_
    refine k_aload_n (i := 0) dL_law_1791 (rfl : 1791 + 1 = 1792) rfl rfl ?_
    refine k_iload (i := 5) dL_law_1792 (rfl : 1792 + 2 = 1794) rfl ?_
    refine k_iconst (v := 1) dL_law_1794 (rfl : 1794 + 1 = 1795) (by decide) ?_
    refine k_iadd dL_law_1795 (rfl : 1795 + 1 = 1796) ?_
    refine k_sld (j := i + 1) dL_law_1796 (rfl : 1796 + 1 = 1797) (nI_add i 1) (by omega) (by omega) ?_
    refine k_callVd1 cv_L_267 ⟨Nat.le_of_ble_eq_true rfl, Nat.le_of_ble_eq_true rfl⟩ (m_X12_pleaFrom (x := y) (a1 := (xs (i + 1))) X.R.mv) dL_law_1797 (rfl : 1797 + 3 = 1800) (Nat.le_of_ble_eq_true rfl) rfl rfl rfl (lc1 hc hs) ?_
    refine k_istore (i := 7) dL_law_1800 (rfl : 1800 + 2 = 1802) (Nat.le_of_ble_eq_true rfl) ?_
    refine k_ls (ls2 := [.ref 2000, .ref 0, .ref 116, .ref 128, .ref 129, .int (nI i), .int 1, .int (f_X12_pleaFrom y (xs (i + 1))), .retAddr 0]) rfl ?_
    refine k_aload_n (i := 2) dL_law_1802 (rfl : 1802 + 1 = 1803) rfl rfl ?_
    refine k_callVd0 cv_L_161 ⟨Nat.le_of_ble_eq_true rfl, Nat.le_of_ble_eq_true rfl⟩ (m_X12_thrown (x := (g_X12_pleaFrom y (xs (i + 1))))) dL_law_1803 (rfl : 1803 + 3 = 1806) (Nat.le_of_ble_eq_true rfl) rfl rfl rfl (lc1 hc hs) ?_
    refine k_iload (i := 6) dL_law_1806 (rfl : 1806 + 2 = 1808) rfl ?_
    refine k_icmp_eq (tgt := 1813) dL_law_1808 (rfl : 1808 + 3 = 1811) (by decide) (fun _ => ?_) (fun b => absurd e0 b)
    refine k_iload (i := 6) dL_law_1813 (rfl : 1813 + 2 = 1815) rfl ?_
    refine k_if_ne (tgt := 1830) dL_law_1815 (rfl : 1815 + 3 = 1818) (by decide) (fun _ => ?_) (fun b => absurd b (by decide))
    refine k_goto (tgt := 2815) dL_law_1830 (by decide) ?_
    exact l_go go X2 (by omega) (Nat.le_refl _) (Nat.le_refl _)
set_option maxRecDepth 100000 in
set_option maxHeartbeats 4000000 in
theorem lcs_31 {nm : String} {tb : List (Nat × Nat × Nat × Nat)} {b L i t cs ss : Nat} {xs : Nat → Int32} {x : kK} {y : kY} {f : Nat → Int64} {d : Nat → UInt64} (X : RX t x y) (ht : t + 11 < 2 ^ 20) (hi : i + 4 ≤ L) (hL : L ≤ 2048) (hc : cs + 1 ≤ 603072) (hs : ss + 6 ≤ 7182442) (go : LG nm tb b L xs i (t + 11) (cs + 1) (ss + 6)) : kEv (kLw nm tb) RW (FL b L xs) false 1833 [.ref 2000, .ref 0, .ref 116, .ref 128, .ref 129, .int (nI i), .retAddr 0, .retAddr 0, .retAddr 0] [] (h4 x y f d) 130 cs ss := by
  obtain ⟨X2, alt⟩ := q_pleaUntil X (a := (xs (i + 1)))
  have hK := m_X11_pleaUntil (x := x) (r := kHr y (kJ 1 f, kDb 1 d)) (a1 := (xs (i + 1))) X.R.iv
  rcases alt with ⟨eo, e0⟩ | ⟨eo, e0⟩
  · rw [eo] at hK
    have hm := v_L_pleaUntil (h2 := h4 x y f d) hK rfl rfl
    rw [h4_f] at hm
    refine k_aload_n (i := 1) dL_law_1833 (rfl : 1833 + 1 = 1834) rfl rfl ?_
    refine k_aload_n (i := 0) dL_law_1834 (rfl : 1834 + 1 = 1835) rfl rfl ?_
    refine k_iload (i := 5) dL_law_1835 (rfl : 1835 + 2 = 1837) rfl ?_
    refine k_iconst (v := 1) dL_law_1837 (rfl : 1837 + 1 = 1838) (by decide) ?_
    refine k_iadd dL_law_1838 (rfl : 1838 + 1 = 1839) ?_
    refine k_sld (j := i + 1) dL_law_1839 (rfl : 1839 + 1 = 1840) (nI_add i 1) (by omega) (by omega) ?_
    refine k_aload_n (i := 3) dL_law_1840 (rfl : 1840 + 1 = 1841) rfl rfl ?_
    refine k_callSTd3 cv_L_268 ⟨Nat.le_of_ble_eq_true rfl, Nat.le_of_ble_eq_true rfl⟩ hm dL_law_1841 (rfl : 1841 + 3 = 1844) rfl (lc1 hc hs) rfl ?_
    refine k_istore (i := 6) dL_law_1844 (rfl : 1844 + 2 = 1846) (Nat.le_of_ble_eq_true rfl) ?_
    refine k_ls (ls2 := [.ref 2000, .ref 0, .ref 116, .ref 128, .ref 129, .int (nI i), .int 0, .retAddr 0, .retAddr 0]) rfl ?_
    refine k_aload_n (i := 2) dL_law_1846 (rfl : 1846 + 1 = 1847) rfl rfl ?_
    refine k_aload_n (i := 0) dL_law_1847 (rfl : 1847 + 1 = 1848) rfl rfl ?_
    refine k_iload (i := 5) dL_law_1848 (rfl : 1848 + 2 = 1850) rfl ?_
    refine k_iconst (v := 1) dL_law_1850 (rfl : 1850 + 1 = 1851) (by decide) ?_
    refine k_iadd dL_law_1851 (rfl : 1851 + 1 = 1852) ?_
    refine k_sld (j := i + 1) dL_law_1852 (rfl : 1852 + 1 = 1853) (nI_add i 1) (by omega) (by omega) ?_
    refine k_callVd1 cv_L_270 ⟨Nat.le_of_ble_eq_true rfl, Nat.le_of_ble_eq_true rfl⟩ (m_X12_pleaUntil (x := y) (a1 := (xs (i + 1))) X.R.mv) dL_law_1853 (rfl : 1853 + 3 = 1856) (Nat.le_of_ble_eq_true rfl) rfl rfl rfl (lc1 hc hs) ?_
    refine k_istore (i := 7) dL_law_1856 (rfl : 1856 + 2 = 1858) (Nat.le_of_ble_eq_true rfl) ?_
    refine k_ls (ls2 := [.ref 2000, .ref 0, .ref 116, .ref 128, .ref 129, .int (nI i), .int 0, .int (f_X12_pleaUntil y (xs (i + 1))), .retAddr 0]) rfl ?_
    refine k_aload_n (i := 2) dL_law_1858 (rfl : 1858 + 1 = 1859) rfl rfl ?_
    refine k_callVd0 cv_L_161 ⟨Nat.le_of_ble_eq_true rfl, Nat.le_of_ble_eq_true rfl⟩ (m_X12_thrown (x := (g_X12_pleaUntil y (xs (i + 1))))) dL_law_1859 (rfl : 1859 + 3 = 1862) (Nat.le_of_ble_eq_true rfl) rfl rfl rfl (lc1 hc hs) ?_
    refine k_iload (i := 6) dL_law_1862 (rfl : 1862 + 2 = 1864) rfl ?_
    refine k_icmp_eq (tgt := 1869) dL_law_1864 (rfl : 1864 + 3 = 1867) (by decide) (fun _ => ?_) (fun b => absurd e0 b)
    refine k_iload (i := 6) dL_law_1869 (rfl : 1869 + 2 = 1871) rfl ?_
    refine k_if_ne (tgt := 1886) dL_law_1871 (rfl : 1871 + 3 = 1874) (by decide) (fun b => absurd b (by decide)) (fun _ => ?_)
    refine k_aload_n (i := 3) dL_law_1874 (rfl : 1874 + 1 = 1875) rfl rfl ?_
    refine k_iconst (v := 0) dL_law_1875 (rfl : 1875 + 1 = 1876) (by decide) ?_
    refine k_lald dL_law_1876 (rfl : 1876 + 1 = 1877) (Nat.le_of_ble_eq_true rfl) rfl vp_00 ?_
    refine k_iload (i := 7) dL_law_1877 (rfl : 1877 + 2 = 1879) rfl ?_
    refine k_i2l dL_law_1879 (rfl : 1879 + 1 = 1880) ?_
    refine k_lcmp dL_law_1880 (rfl : 1880 + 1 = 1881) ?_
    refine k_if_eq (tgt := 1886) dL_law_1881 (rfl : 1881 + 3 = 1884) (by decide) (fun _ => ?_) (fun b => absurd (lg_cmp_0.2 uL0) b)
    refine k_goto (tgt := 2815) dL_law_1886 (by decide) ?_
    exact l_go go X2 (by omega) (Nat.le_refl _) (Nat.le_refl _)
  · rw [eo] at hK
    have hm := x1_L_pleaUntil (h2 := h4 x y f d) hK rfl
    refine k_aload_n (i := 1) dL_law_1833 (rfl : 1833 + 1 = 1834) rfl rfl ?_
    refine k_aload_n (i := 0) dL_law_1834 (rfl : 1834 + 1 = 1835) rfl rfl ?_
    refine k_iload (i := 5) dL_law_1835 (rfl : 1835 + 2 = 1837) rfl ?_
    refine k_iconst (v := 1) dL_law_1837 (rfl : 1837 + 1 = 1838) (by decide) ?_
    refine k_iadd dL_law_1838 (rfl : 1838 + 1 = 1839) ?_
    refine k_sld (j := i + 1) dL_law_1839 (rfl : 1839 + 1 = 1840) (nI_add i 1) (by omega) (by omega) ?_
    refine k_aload_n (i := 3) dL_law_1840 (rfl : 1840 + 1 = 1841) rfl rfl ?_
    refine k_callSTd3 cv_L_268 ⟨Nat.le_of_ble_eq_true rfl, Nat.le_of_ble_eq_true rfl⟩ hm dL_law_1841 (rfl : 1841 + 3 = 1844) rfl (lc1 hc hs) rfl ?_
    refine k_istore (i := 6) dL_law_1844 (rfl : 1844 + 2 = 1846) (Nat.le_of_ble_eq_true rfl) ?_
    refine k_ls (ls2 := [.ref 2000, .ref 0, .ref 116, .ref 128, .ref 129, .int (nI i), .int 1, .retAddr 0, .retAddr 0]) rfl ?_
    refine k_aload_n (i := 2) dL_law_1846 (rfl : 1846 + 1 = 1847) rfl rfl ?_
    refine k_aload_n (i := 0) dL_law_1847 (rfl : 1847 + 1 = 1848) rfl rfl ?_
    refine k_iload (i := 5) dL_law_1848 (rfl : 1848 + 2 = 1850) rfl ?_
    refine k_iconst (v := 1) dL_law_1850 (rfl : 1850 + 1 = 1851) (by decide) ?_
    refine k_iadd dL_law_1851 (rfl : 1851 + 1 = 1852) ?_
    refine k_sld (j := i + 1) dL_law_1852 (rfl : 1852 + 1 = 1853) (nI_add i 1) (by omega) (by omega) ?_
    refine k_callVd1 cv_L_270 ⟨Nat.le_of_ble_eq_true rfl, Nat.le_of_ble_eq_true rfl⟩ (m_X12_pleaUntil (x := y) (a1 := (xs (i + 1))) X.R.mv) dL_law_1853 (rfl : 1853 + 3 = 1856) (Nat.le_of_ble_eq_true rfl) rfl rfl rfl (lc1 hc hs) ?_
    refine k_istore (i := 7) dL_law_1856 (rfl : 1856 + 2 = 1858) (Nat.le_of_ble_eq_true rfl) ?_
    refine k_ls (ls2 := [.ref 2000, .ref 0, .ref 116, .ref 128, .ref 129, .int (nI i), .int 1, .int (f_X12_pleaUntil y (xs (i + 1))), .retAddr 0]) rfl ?_
    refine k_aload_n (i := 2) dL_law_1858 (rfl : 1858 + 1 = 1859) rfl rfl ?_
    refine k_callVd0 cv_L_161 ⟨Nat.le_of_ble_eq_true rfl, Nat.le_of_ble_eq_true rfl⟩ (m_X12_thrown (x := (g_X12_pleaUntil y (xs (i + 1))))) dL_law_1859 (rfl : 1859 + 3 = 1862) (Nat.le_of_ble_eq_true rfl) rfl rfl rfl (lc1 hc hs) ?_
    refine k_iload (i := 6) dL_law_1862 (rfl : 1862 + 2 = 1864) rfl ?_
    refine k_icmp_eq (tgt := 1869) dL_law_1864 (rfl : 1864 + 3 = 1867) (by decide) (fun _ => ?_) (fun b => absurd e0 b)
    refine k_iload (i := 6) dL_law_1869 (rfl : 1869 + 2 = 1871) rfl ?_
    refine k_if_ne (tgt := 1886) dL_law_1871 (rfl : 1871 + 3 = 1874) (by decide) (fun _ => ?_) (fun b => absurd b (by decide))
    refine k_goto (tgt := 2815) dL_law_1886 (by decide) ?_
    exact l_go go X2 (by omega) (Nat.le_refl _) (Nat.le_refl _)
set_option maxRecDepth 100000 in
set_option maxHeartbeats 4000000 in
theorem lcs_32 {nm : String} {tb : List (Nat × Nat × Nat × Nat)} {b L i t cs ss : Nat} {xs : Nat → Int32} {x : kK} {y : kY} {f : Nat → Int64} {d : Nat → UInt64} (X : RX t x y) (ht : t + 11 < 2 ^ 20) (hi : i + 4 ≤ L) (hL : L ≤ 2048) (hc : cs + 1 ≤ 603072) (hs : ss + 6 ≤ 7182442) (go : LG nm tb b L xs i (t + 11) (cs + 1) (ss + 6)) : kEv (kLw nm tb) RW (FL b L xs) false 1889 [.ref 2000, .ref 0, .ref 116, .ref 128, .ref 129, .int (nI i), .retAddr 0, .retAddr 0, .retAddr 0] [] (h4 x y f d) 130 cs ss := by
  obtain ⟨X2, alt⟩ := s_hear X (by omega) (a := (xs (i + 1)))
  have hK := m_X11_hear (x := x) (r := kHr y (kJ 1 f, kDb 1 d)) (a1 := (xs (i + 1))) X.hi X.R.iv
  rcases alt with ⟨eo, e0⟩ | ⟨eo, e0⟩ | ⟨eo, e0⟩
  · rw [eo] at hK
    have hm := v_L_hear (h2 := h4 (g_X11_hear x (xs (i + 1))) y f d) hK rfl rfl
    rw [h4_f] at hm
    refine k_aload_n (i := 1) dL_law_1889 (rfl : 1889 + 1 = 1890) rfl rfl ?_
    refine k_aload_n (i := 0) dL_law_1890 (rfl : 1890 + 1 = 1891) rfl rfl ?_
    refine k_iload (i := 5) dL_law_1891 (rfl : 1891 + 2 = 1893) rfl ?_
    refine k_iconst (v := 1) dL_law_1893 (rfl : 1893 + 1 = 1894) (by decide) ?_
    refine k_iadd dL_law_1894 (rfl : 1894 + 1 = 1895) ?_
    refine k_sld (j := i + 1) dL_law_1895 (rfl : 1895 + 1 = 1896) (nI_add i 1) (by omega) (by omega) ?_
    refine k_aload_n (i := 3) dL_law_1896 (rfl : 1896 + 1 = 1897) rfl rfl ?_
    refine k_callSTd3 cv_L_271 ⟨Nat.le_of_ble_eq_true rfl, Nat.le_of_ble_eq_true rfl⟩ hm dL_law_1897 (rfl : 1897 + 3 = 1900) rfl (lc1 hc hs) rfl ?_
    refine k_istore (i := 6) dL_law_1900 (rfl : 1900 + 2 = 1902) (Nat.le_of_ble_eq_true rfl) ?_
    refine k_ls (ls2 := [.ref 2000, .ref 0, .ref 116, .ref 128, .ref 129, .int (nI i), .int 0, .retAddr 0, .retAddr 0]) rfl ?_
    refine k_aload_n (i := 2) dL_law_1902 (rfl : 1902 + 1 = 1903) rfl rfl ?_
    refine k_aload_n (i := 0) dL_law_1903 (rfl : 1903 + 1 = 1904) rfl rfl ?_
    refine k_iload (i := 5) dL_law_1904 (rfl : 1904 + 2 = 1906) rfl ?_
    refine k_iconst (v := 1) dL_law_1906 (rfl : 1906 + 1 = 1907) (by decide) ?_
    refine k_iadd dL_law_1907 (rfl : 1907 + 1 = 1908) ?_
    refine k_sld (j := i + 1) dL_law_1908 (rfl : 1908 + 1 = 1909) (nI_add i 1) (by omega) (by omega) ?_
    refine k_callVd1 cv_L_273 ⟨Nat.le_of_ble_eq_true rfl, Nat.le_of_ble_eq_true rfl⟩ (m_X12_hear (x := y) (a1 := (xs (i + 1))) X.ch X.R.mv) dL_law_1909 (rfl : 1909 + 3 = 1912) (Nat.le_of_ble_eq_true rfl) rfl rfl rfl (lc1 hc hs) ?_
    refine k_istore (i := 7) dL_law_1912 (rfl : 1912 + 2 = 1914) (Nat.le_of_ble_eq_true rfl) ?_
    refine k_ls (ls2 := [.ref 2000, .ref 0, .ref 116, .ref 128, .ref 129, .int (nI i), .int 0, .int (f_X12_hear y (xs (i + 1))), .retAddr 0]) rfl ?_
    refine k_aload_n (i := 2) dL_law_1914 (rfl : 1914 + 1 = 1915) rfl rfl ?_
    refine k_callVd0 cv_L_161 ⟨Nat.le_of_ble_eq_true rfl, Nat.le_of_ble_eq_true rfl⟩ (m_X12_thrown (x := (g_X12_hear y (xs (i + 1))))) dL_law_1915 (rfl : 1915 + 3 = 1918) (Nat.le_of_ble_eq_true rfl) rfl rfl rfl (lc1 hc hs) ?_
    refine k_iload (i := 6) dL_law_1918 (rfl : 1918 + 2 = 1920) rfl ?_
    refine k_icmp_eq (tgt := 1925) dL_law_1920 (rfl : 1920 + 3 = 1923) (by decide) (fun _ => ?_) (fun b => absurd e0 b)
    refine k_iload (i := 6) dL_law_1925 (rfl : 1925 + 2 = 1927) rfl ?_
    refine k_if_ne (tgt := 1942) dL_law_1927 (rfl : 1927 + 3 = 1930) (by decide) (fun b => absurd b (by decide)) (fun _ => ?_)
    refine k_aload_n (i := 3) dL_law_1930 (rfl : 1930 + 1 = 1931) rfl rfl ?_
    refine k_iconst (v := 0) dL_law_1931 (rfl : 1931 + 1 = 1932) (by decide) ?_
    refine k_lald dL_law_1932 (rfl : 1932 + 1 = 1933) (Nat.le_of_ble_eq_true rfl) rfl vp_00 ?_
    refine k_iload (i := 7) dL_law_1933 (rfl : 1933 + 2 = 1935) rfl ?_
    refine k_i2l dL_law_1935 (rfl : 1935 + 1 = 1936) ?_
    refine k_lcmp dL_law_1936 (rfl : 1936 + 1 = 1937) ?_
    refine k_if_eq (tgt := 1942) dL_law_1937 (rfl : 1937 + 3 = 1940) (by decide) (fun _ => ?_) (fun b => absurd (lg_cmp_0.2 uL0) b)
    refine k_goto (tgt := 2815) dL_law_1942 (by decide) ?_
    exact l_go go X2 (by omega) (Nat.le_refl _) (Nat.le_refl _)
  · rw [eo] at hK
    have hm := x1_L_hear (h2 := h4 (g_X11_hear x (xs (i + 1))) y f d) hK rfl
    refine k_aload_n (i := 1) dL_law_1889 (rfl : 1889 + 1 = 1890) rfl rfl ?_
    refine k_aload_n (i := 0) dL_law_1890 (rfl : 1890 + 1 = 1891) rfl rfl ?_
    refine k_iload (i := 5) dL_law_1891 (rfl : 1891 + 2 = 1893) rfl ?_
    refine k_iconst (v := 1) dL_law_1893 (rfl : 1893 + 1 = 1894) (by decide) ?_
    refine k_iadd dL_law_1894 (rfl : 1894 + 1 = 1895) ?_
    refine k_sld (j := i + 1) dL_law_1895 (rfl : 1895 + 1 = 1896) (nI_add i 1) (by omega) (by omega) ?_
    refine k_aload_n (i := 3) dL_law_1896 (rfl : 1896 + 1 = 1897) rfl rfl ?_
    refine k_callSTd3 cv_L_271 ⟨Nat.le_of_ble_eq_true rfl, Nat.le_of_ble_eq_true rfl⟩ hm dL_law_1897 (rfl : 1897 + 3 = 1900) rfl (lc1 hc hs) rfl ?_
    refine k_istore (i := 6) dL_law_1900 (rfl : 1900 + 2 = 1902) (Nat.le_of_ble_eq_true rfl) ?_
    refine k_ls (ls2 := [.ref 2000, .ref 0, .ref 116, .ref 128, .ref 129, .int (nI i), .int 1, .retAddr 0, .retAddr 0]) rfl ?_
    refine k_aload_n (i := 2) dL_law_1902 (rfl : 1902 + 1 = 1903) rfl rfl ?_
    refine k_aload_n (i := 0) dL_law_1903 (rfl : 1903 + 1 = 1904) rfl rfl ?_
    refine k_iload (i := 5) dL_law_1904 (rfl : 1904 + 2 = 1906) rfl ?_
    refine k_iconst (v := 1) dL_law_1906 (rfl : 1906 + 1 = 1907) (by decide) ?_
    refine k_iadd dL_law_1907 (rfl : 1907 + 1 = 1908) ?_
    refine k_sld (j := i + 1) dL_law_1908 (rfl : 1908 + 1 = 1909) (nI_add i 1) (by omega) (by omega) ?_
    refine k_callVd1 cv_L_273 ⟨Nat.le_of_ble_eq_true rfl, Nat.le_of_ble_eq_true rfl⟩ (m_X12_hear (x := y) (a1 := (xs (i + 1))) X.ch X.R.mv) dL_law_1909 (rfl : 1909 + 3 = 1912) (Nat.le_of_ble_eq_true rfl) rfl rfl rfl (lc1 hc hs) ?_
    refine k_istore (i := 7) dL_law_1912 (rfl : 1912 + 2 = 1914) (Nat.le_of_ble_eq_true rfl) ?_
    refine k_ls (ls2 := [.ref 2000, .ref 0, .ref 116, .ref 128, .ref 129, .int (nI i), .int 1, .int (f_X12_hear y (xs (i + 1))), .retAddr 0]) rfl ?_
    refine k_aload_n (i := 2) dL_law_1914 (rfl : 1914 + 1 = 1915) rfl rfl ?_
    refine k_callVd0 cv_L_161 ⟨Nat.le_of_ble_eq_true rfl, Nat.le_of_ble_eq_true rfl⟩ (m_X12_thrown (x := (g_X12_hear y (xs (i + 1))))) dL_law_1915 (rfl : 1915 + 3 = 1918) (Nat.le_of_ble_eq_true rfl) rfl rfl rfl (lc1 hc hs) ?_
    refine k_iload (i := 6) dL_law_1918 (rfl : 1918 + 2 = 1920) rfl ?_
    refine k_icmp_eq (tgt := 1925) dL_law_1920 (rfl : 1920 + 3 = 1923) (by decide) (fun _ => ?_) (fun b => absurd e0 b)
    refine k_iload (i := 6) dL_law_1925 (rfl : 1925 + 2 = 1927) rfl ?_
    refine k_if_ne (tgt := 1942) dL_law_1927 (rfl : 1927 + 3 = 1930) (by decide) (fun _ => ?_) (fun b => absurd b (by decide))
    refine k_goto (tgt := 2815) dL_law_1942 (by decide) ?_
    exact l_go go X2 (by omega) (Nat.le_refl _) (Nat.le_refl _)
  · rw [eo] at hK
    have hm := x2_L_hear (h2 := h4 (g_X11_hear x (xs (i + 1))) y f d) hK rfl
    refine k_aload_n (i := 1) dL_law_1889 (rfl : 1889 + 1 = 1890) rfl rfl ?_
    refine k_aload_n (i := 0) dL_law_1890 (rfl : 1890 + 1 = 1891) rfl rfl ?_
    refine k_iload (i := 5) dL_law_1891 (rfl : 1891 + 2 = 1893) rfl ?_
    refine k_iconst (v := 1) dL_law_1893 (rfl : 1893 + 1 = 1894) (by decide) ?_
    refine k_iadd dL_law_1894 (rfl : 1894 + 1 = 1895) ?_
    refine k_sld (j := i + 1) dL_law_1895 (rfl : 1895 + 1 = 1896) (nI_add i 1) (by omega) (by omega) ?_
    refine k_aload_n (i := 3) dL_law_1896 (rfl : 1896 + 1 = 1897) rfl rfl ?_
    refine k_callSTd3 cv_L_271 ⟨Nat.le_of_ble_eq_true rfl, Nat.le_of_ble_eq_true rfl⟩ hm dL_law_1897 (rfl : 1897 + 3 = 1900) rfl (lc1 hc hs) rfl ?_
    refine k_istore (i := 6) dL_law_1900 (rfl : 1900 + 2 = 1902) (Nat.le_of_ble_eq_true rfl) ?_
    refine k_ls (ls2 := [.ref 2000, .ref 0, .ref 116, .ref 128, .ref 129, .int (nI i), .int 2, .retAddr 0, .retAddr 0]) rfl ?_
    refine k_aload_n (i := 2) dL_law_1902 (rfl : 1902 + 1 = 1903) rfl rfl ?_
    refine k_aload_n (i := 0) dL_law_1903 (rfl : 1903 + 1 = 1904) rfl rfl ?_
    refine k_iload (i := 5) dL_law_1904 (rfl : 1904 + 2 = 1906) rfl ?_
    refine k_iconst (v := 1) dL_law_1906 (rfl : 1906 + 1 = 1907) (by decide) ?_
    refine k_iadd dL_law_1907 (rfl : 1907 + 1 = 1908) ?_
    refine k_sld (j := i + 1) dL_law_1908 (rfl : 1908 + 1 = 1909) (nI_add i 1) (by omega) (by omega) ?_
    refine k_callVd1 cv_L_273 ⟨Nat.le_of_ble_eq_true rfl, Nat.le_of_ble_eq_true rfl⟩ (m_X12_hear (x := y) (a1 := (xs (i + 1))) X.ch X.R.mv) dL_law_1909 (rfl : 1909 + 3 = 1912) (Nat.le_of_ble_eq_true rfl) rfl rfl rfl (lc1 hc hs) ?_
    refine k_istore (i := 7) dL_law_1912 (rfl : 1912 + 2 = 1914) (Nat.le_of_ble_eq_true rfl) ?_
    refine k_ls (ls2 := [.ref 2000, .ref 0, .ref 116, .ref 128, .ref 129, .int (nI i), .int 2, .int (f_X12_hear y (xs (i + 1))), .retAddr 0]) rfl ?_
    refine k_aload_n (i := 2) dL_law_1914 (rfl : 1914 + 1 = 1915) rfl rfl ?_
    refine k_callVd0 cv_L_161 ⟨Nat.le_of_ble_eq_true rfl, Nat.le_of_ble_eq_true rfl⟩ (m_X12_thrown (x := (g_X12_hear y (xs (i + 1))))) dL_law_1915 (rfl : 1915 + 3 = 1918) (Nat.le_of_ble_eq_true rfl) rfl rfl rfl (lc1 hc hs) ?_
    refine k_iload (i := 6) dL_law_1918 (rfl : 1918 + 2 = 1920) rfl ?_
    refine k_icmp_eq (tgt := 1925) dL_law_1920 (rfl : 1920 + 3 = 1923) (by decide) (fun _ => ?_) (fun b => absurd e0 b)
    refine k_iload (i := 6) dL_law_1925 (rfl : 1925 + 2 = 1927) rfl ?_
    refine k_if_ne (tgt := 1942) dL_law_1927 (rfl : 1927 + 3 = 1930) (by decide) (fun _ => ?_) (fun b => absurd b (by decide))
    refine k_goto (tgt := 2815) dL_law_1942 (by decide) ?_
    exact l_go go X2 (by omega) (Nat.le_refl _) (Nat.le_refl _)
set_option maxRecDepth 100000 in
set_option maxHeartbeats 4000000 in
theorem lcs_33 {nm : String} {tb : List (Nat × Nat × Nat × Nat)} {b L i t cs ss : Nat} {xs : Nat → Int32} {x : kK} {y : kY} {f : Nat → Int64} {d : Nat → UInt64} (X : RX t x y) (ht : t + 11 < 2 ^ 20) (hi : i + 4 ≤ L) (hL : L ≤ 2048) (hc : cs + 1 ≤ 603072) (hs : ss + 6 ≤ 7182442) (go : LG nm tb b L xs i (t + 11) (cs + 1) (ss + 6)) : kEv (kLw nm tb) RW (FL b L xs) false 1945 [.ref 2000, .ref 0, .ref 116, .ref 128, .ref 129, .int (nI i), .retAddr 0, .retAddr 0, .retAddr 0] [] (h4 x y f d) 130 cs ss := by
  obtain ⟨X2, qe, -⟩ := q_mostHearings X (by omega)
  refine k_aload_n (i := 1) dL_law_1945 (rfl : 1945 + 1 = 1946) rfl rfl ?_
  refine k_callVd0 cv_L_274 ⟨Nat.le_of_ble_eq_true rfl, Nat.le_of_ble_eq_true rfl⟩ (m_X11_mostHearings (x := x) X.R.iv X.O.2.1) dL_law_1946 (rfl : 1946 + 3 = 1949) (Nat.le_of_ble_eq_true rfl) rfl rfl rfl (lc0 hc hs) ?_
  refine k_aload_n (i := 2) dL_law_1949 (rfl : 1949 + 1 = 1950) rfl rfl ?_
  refine k_callVd0 cv_L_277 ⟨Nat.le_of_ble_eq_true rfl, Nat.le_of_ble_eq_true rfl⟩ (m_X12_mostHearings (x := y) X.R.mv (pr_h X ht)) dL_law_1950 (rfl : 1950 + 3 = 1953) (Nat.le_of_ble_eq_true rfl) rfl rfl rfl (lc0 hc hs) ?_
  refine k_icmp_eq (tgt := 2815) dL_law_1953 (rfl : 1953 + 3 = 1956) (by decide) (fun _ => ?_) (fun b => absurd qe b)
  exact l_go go X2 (by omega) (show cs ≤ cs + 1 by omega) (show ss ≤ ss + 6 by omega)
set_option maxRecDepth 100000 in
set_option maxHeartbeats 4000000 in
theorem lcs_34 {nm : String} {tb : List (Nat × Nat × Nat × Nat)} {b L i t cs ss : Nat} {xs : Nat → Int32} {x : kK} {y : kY} {f : Nat → Int64} {d : Nat → UInt64} (X : RX t x y) (ht : t + 11 < 2 ^ 20) (hi : i + 4 ≤ L) (hL : L ≤ 2048) (hc : cs + 1 ≤ 603072) (hs : ss + 6 ≤ 7182442) (go : LG nm tb b L xs i (t + 11) (cs + 1) (ss + 6)) : kEv (kLw nm tb) RW (FL b L xs) false 1958 [.ref 2000, .ref 0, .ref 116, .ref 128, .ref 129, .int (nI i), .retAddr 0, .retAddr 0, .retAddr 0] [] (h4 x y f d) 130 cs ss := by
  obtain ⟨X2, qe, -⟩ := q_mostHearingsByChains X (by omega)
  refine k_aload_n (i := 1) dL_law_1958 (rfl : 1958 + 1 = 1959) rfl rfl ?_
  refine k_callVd0 cv_L_278 ⟨Nat.le_of_ble_eq_true rfl, Nat.le_of_ble_eq_true rfl⟩ (m_X11_mostHearingsByChains (x := x) X.R.iv X.O.2.1) dL_law_1959 (rfl : 1959 + 3 = 1962) (Nat.le_of_ble_eq_true rfl) rfl rfl rfl (lc0 hc hs) ?_
  refine k_aload_n (i := 2) dL_law_1962 (rfl : 1962 + 1 = 1963) rfl rfl ?_
  refine k_callVd0 cv_L_281 ⟨Nat.le_of_ble_eq_true rfl, Nat.le_of_ble_eq_true rfl⟩ (m_X12_mostHearingsByChains (x := y) X.R.mv (pr_h X ht)) dL_law_1963 (rfl : 1963 + 3 = 1966) (Nat.le_of_ble_eq_true rfl) rfl rfl rfl (lc0 hc hs) ?_
  refine k_icmp_eq (tgt := 2815) dL_law_1966 (rfl : 1966 + 3 = 1969) (by decide) (fun _ => ?_) (fun b => absurd qe b)
  exact l_go go X2 (by omega) (show cs ≤ cs + 1 by omega) (show ss ≤ ss + 6 by omega)
set_option maxRecDepth 100000 in
set_option maxHeartbeats 4000000 in
theorem lcs_35 {nm : String} {tb : List (Nat × Nat × Nat × Nat)} {b L i t cs ss : Nat} {xs : Nat → Int32} {x : kK} {y : kY} {f : Nat → Int64} {d : Nat → UInt64} (X : RX t x y) (ht : t + 11 < 2 ^ 20) (hi : i + 4 ≤ L) (hL : L ≤ 2048) (hc : cs + 1 ≤ 603072) (hs : ss + 6 ≤ 7182442) (go : LG nm tb b L xs i (t + 11) (cs + 1) (ss + 6)) : kEv (kLw nm tb) RW (FL b L xs) false 1971 [.ref 2000, .ref 0, .ref 116, .ref 128, .ref 129, .int (nI i), .retAddr 0, .retAddr 0, .retAddr 0] [] (h4 x y f d) 130 cs ss := by
  obtain ⟨X2, alt⟩ := s_pass X (by omega) (a := (xs (i + 1)))
  have hK := m_X11_pass (x := x) (r := kHr y (kJ 1 f, kDb 1 d)) (a1 := (xs (i + 1))) X.hi X.R.iv
  rcases alt with ⟨eo, e0⟩ | ⟨eo, e0⟩
  · rw [eo] at hK
    have hm := v_L_pass (h2 := h4 (g_X11_pass x (xs (i + 1))) y f d) hK rfl rfl
    rw [h4_f] at hm
    refine k_aload_n (i := 1) dL_law_1971 (rfl : 1971 + 1 = 1972) rfl rfl ?_
    refine k_aload_n (i := 0) dL_law_1972 (rfl : 1972 + 1 = 1973) rfl rfl ?_
    refine k_iload (i := 5) dL_law_1973 (rfl : 1973 + 2 = 1975) rfl ?_
    refine k_iconst (v := 1) dL_law_1975 (rfl : 1975 + 1 = 1976) (by decide) ?_
    refine k_iadd dL_law_1976 (rfl : 1976 + 1 = 1977) ?_
    refine k_sld (j := i + 1) dL_law_1977 (rfl : 1977 + 1 = 1978) (nI_add i 1) (by omega) (by omega) ?_
    refine k_aload_n (i := 3) dL_law_1978 (rfl : 1978 + 1 = 1979) rfl rfl ?_
    refine k_callSTd3 cv_L_282 ⟨Nat.le_of_ble_eq_true rfl, Nat.le_of_ble_eq_true rfl⟩ hm dL_law_1979 (rfl : 1979 + 3 = 1982) rfl (lc1 hc hs) rfl ?_
    refine k_istore (i := 6) dL_law_1982 (rfl : 1982 + 2 = 1984) (Nat.le_of_ble_eq_true rfl) ?_
    refine k_ls (ls2 := [.ref 2000, .ref 0, .ref 116, .ref 128, .ref 129, .int (nI i), .int 0, .retAddr 0, .retAddr 0]) rfl ?_
    refine k_aload_n (i := 2) dL_law_1984 (rfl : 1984 + 1 = 1985) rfl rfl ?_
    refine k_aload_n (i := 0) dL_law_1985 (rfl : 1985 + 1 = 1986) rfl rfl ?_
    refine k_iload (i := 5) dL_law_1986 (rfl : 1986 + 2 = 1988) rfl ?_
    refine k_iconst (v := 1) dL_law_1988 (rfl : 1988 + 1 = 1989) (by decide) ?_
    refine k_iadd dL_law_1989 (rfl : 1989 + 1 = 1990) ?_
    refine k_sld (j := i + 1) dL_law_1990 (rfl : 1990 + 1 = 1991) (nI_add i 1) (by omega) (by omega) ?_
    refine k_callVd1 cv_L_284 ⟨Nat.le_of_ble_eq_true rfl, Nat.le_of_ble_eq_true rfl⟩ (m_X12_pass (x := y) (a1 := (xs (i + 1))) X.ch X.R.mv) dL_law_1991 (rfl : 1991 + 3 = 1994) (Nat.le_of_ble_eq_true rfl) rfl rfl rfl (lc1 hc hs) ?_
    refine k_istore (i := 7) dL_law_1994 (rfl : 1994 + 2 = 1996) (Nat.le_of_ble_eq_true rfl) ?_
    refine k_ls (ls2 := [.ref 2000, .ref 0, .ref 116, .ref 128, .ref 129, .int (nI i), .int 0, .int (f_X12_pass y (xs (i + 1))), .retAddr 0]) rfl ?_
    refine k_aload_n (i := 2) dL_law_1996 (rfl : 1996 + 1 = 1997) rfl rfl ?_
    refine k_callVd0 cv_L_161 ⟨Nat.le_of_ble_eq_true rfl, Nat.le_of_ble_eq_true rfl⟩ (m_X12_thrown (x := (g_X12_pass y (xs (i + 1))))) dL_law_1997 (rfl : 1997 + 3 = 2000) (Nat.le_of_ble_eq_true rfl) rfl rfl rfl (lc1 hc hs) ?_
    refine k_iload (i := 6) dL_law_2000 (rfl : 2000 + 2 = 2002) rfl ?_
    refine k_icmp_eq (tgt := 2007) dL_law_2002 (rfl : 2002 + 3 = 2005) (by decide) (fun _ => ?_) (fun b => absurd e0 b)
    refine k_iload (i := 6) dL_law_2007 (rfl : 2007 + 2 = 2009) rfl ?_
    refine k_if_ne (tgt := 2024) dL_law_2009 (rfl : 2009 + 3 = 2012) (by decide) (fun b => absurd b (by decide)) (fun _ => ?_)
    refine k_aload_n (i := 3) dL_law_2012 (rfl : 2012 + 1 = 2013) rfl rfl ?_
    refine k_iconst (v := 0) dL_law_2013 (rfl : 2013 + 1 = 2014) (by decide) ?_
    refine k_lald dL_law_2014 (rfl : 2014 + 1 = 2015) (Nat.le_of_ble_eq_true rfl) rfl vp_00 ?_
    refine k_iload (i := 7) dL_law_2015 (rfl : 2015 + 2 = 2017) rfl ?_
    refine k_i2l dL_law_2017 (rfl : 2017 + 1 = 2018) ?_
    refine k_lcmp dL_law_2018 (rfl : 2018 + 1 = 2019) ?_
    refine k_if_eq (tgt := 2024) dL_law_2019 (rfl : 2019 + 3 = 2022) (by decide) (fun _ => ?_) (fun b => absurd (lg_cmp_0.2 uL0) b)
    refine k_goto (tgt := 2815) dL_law_2024 (by decide) ?_
    exact l_go go X2 (by omega) (Nat.le_refl _) (Nat.le_refl _)
  · rw [eo] at hK
    have hm := x1_L_pass (h2 := h4 (g_X11_pass x (xs (i + 1))) y f d) hK rfl
    refine k_aload_n (i := 1) dL_law_1971 (rfl : 1971 + 1 = 1972) rfl rfl ?_
    refine k_aload_n (i := 0) dL_law_1972 (rfl : 1972 + 1 = 1973) rfl rfl ?_
    refine k_iload (i := 5) dL_law_1973 (rfl : 1973 + 2 = 1975) rfl ?_
    refine k_iconst (v := 1) dL_law_1975 (rfl : 1975 + 1 = 1976) (by decide) ?_
    refine k_iadd dL_law_1976 (rfl : 1976 + 1 = 1977) ?_
    refine k_sld (j := i + 1) dL_law_1977 (rfl : 1977 + 1 = 1978) (nI_add i 1) (by omega) (by omega) ?_
    refine k_aload_n (i := 3) dL_law_1978 (rfl : 1978 + 1 = 1979) rfl rfl ?_
    refine k_callSTd3 cv_L_282 ⟨Nat.le_of_ble_eq_true rfl, Nat.le_of_ble_eq_true rfl⟩ hm dL_law_1979 (rfl : 1979 + 3 = 1982) rfl (lc1 hc hs) rfl ?_
    refine k_istore (i := 6) dL_law_1982 (rfl : 1982 + 2 = 1984) (Nat.le_of_ble_eq_true rfl) ?_
    refine k_ls (ls2 := [.ref 2000, .ref 0, .ref 116, .ref 128, .ref 129, .int (nI i), .int 1, .retAddr 0, .retAddr 0]) rfl ?_
    refine k_aload_n (i := 2) dL_law_1984 (rfl : 1984 + 1 = 1985) rfl rfl ?_
    refine k_aload_n (i := 0) dL_law_1985 (rfl : 1985 + 1 = 1986) rfl rfl ?_
    refine k_iload (i := 5) dL_law_1986 (rfl : 1986 + 2 = 1988) rfl ?_
    refine k_iconst (v := 1) dL_law_1988 (rfl : 1988 + 1 = 1989) (by decide) ?_
    refine k_iadd dL_law_1989 (rfl : 1989 + 1 = 1990) ?_
    refine k_sld (j := i + 1) dL_law_1990 (rfl : 1990 + 1 = 1991) (nI_add i 1) (by omega) (by omega) ?_
    refine k_callVd1 cv_L_284 ⟨Nat.le_of_ble_eq_true rfl, Nat.le_of_ble_eq_true rfl⟩ (m_X12_pass (x := y) (a1 := (xs (i + 1))) X.ch X.R.mv) dL_law_1991 (rfl : 1991 + 3 = 1994) (Nat.le_of_ble_eq_true rfl) rfl rfl rfl (lc1 hc hs) ?_
    refine k_istore (i := 7) dL_law_1994 (rfl : 1994 + 2 = 1996) (Nat.le_of_ble_eq_true rfl) ?_
    refine k_ls (ls2 := [.ref 2000, .ref 0, .ref 116, .ref 128, .ref 129, .int (nI i), .int 1, .int (f_X12_pass y (xs (i + 1))), .retAddr 0]) rfl ?_
    refine k_aload_n (i := 2) dL_law_1996 (rfl : 1996 + 1 = 1997) rfl rfl ?_
    refine k_callVd0 cv_L_161 ⟨Nat.le_of_ble_eq_true rfl, Nat.le_of_ble_eq_true rfl⟩ (m_X12_thrown (x := (g_X12_pass y (xs (i + 1))))) dL_law_1997 (rfl : 1997 + 3 = 2000) (Nat.le_of_ble_eq_true rfl) rfl rfl rfl (lc1 hc hs) ?_
    refine k_iload (i := 6) dL_law_2000 (rfl : 2000 + 2 = 2002) rfl ?_
    refine k_icmp_eq (tgt := 2007) dL_law_2002 (rfl : 2002 + 3 = 2005) (by decide) (fun _ => ?_) (fun b => absurd e0 b)
    refine k_iload (i := 6) dL_law_2007 (rfl : 2007 + 2 = 2009) rfl ?_
    refine k_if_ne (tgt := 2024) dL_law_2009 (rfl : 2009 + 3 = 2012) (by decide) (fun _ => ?_) (fun b => absurd b (by decide))
    refine k_goto (tgt := 2815) dL_law_2024 (by decide) ?_
    exact l_go go X2 (by omega) (Nat.le_refl _) (Nat.le_refl _)
set_option maxRecDepth 100000 in
set_option maxHeartbeats 4000000 in
theorem lcs_36 {nm : String} {tb : List (Nat × Nat × Nat × Nat)} {b L i t cs ss : Nat} {xs : Nat → Int32} {x : kK} {y : kY} {f : Nat → Int64} {d : Nat → UInt64} (X : RX t x y) (ht : t + 11 < 2 ^ 20) (hi : i + 4 ≤ L) (hL : L ≤ 2048) (hc : cs + 1 ≤ 603072) (hs : ss + 6 ≤ 7182442) (go : LG nm tb b L xs i (t + 11) (cs + 1) (ss + 6)) : kEv (kLw nm tb) RW (FL b L xs) false 2027 [.ref 2000, .ref 0, .ref 116, .ref 128, .ref 129, .int (nI i), .retAddr 0, .retAddr 0, .retAddr 0] [] (h4 x y f d) 130 cs ss := by
  obtain ⟨X2, qe, -⟩ := q_hour X
  refine k_aload_n (i := 1) dL_law_2027 (rfl : 2027 + 1 = 2028) rfl rfl ?_
  refine k_callVd0 cv_L_285 ⟨Nat.le_of_ble_eq_true rfl, Nat.le_of_ble_eq_true rfl⟩ (m_X11_hour (x := x)) dL_law_2028 (rfl : 2028 + 3 = 2031) (Nat.le_of_ble_eq_true rfl) rfl rfl rfl (lc0 hc hs) ?_
  refine k_aload_n (i := 2) dL_law_2031 (rfl : 2031 + 1 = 2032) rfl rfl ?_
  refine k_callVd0 cv_L_288 ⟨Nat.le_of_ble_eq_true rfl, Nat.le_of_ble_eq_true rfl⟩ (m_X12_hour (x := y)) dL_law_2032 (rfl : 2032 + 3 = 2035) (Nat.le_of_ble_eq_true rfl) rfl rfl rfl (lc0 hc hs) ?_
  refine k_icmp_eq (tgt := 2815) dL_law_2035 (rfl : 2035 + 3 = 2038) (by decide) (fun _ => ?_) (fun b => absurd qe b)
  exact l_go go X2 (by omega) (show cs ≤ cs + 1 by omega) (show ss ≤ ss + 6 by omega)
set_option maxRecDepth 100000 in
set_option maxHeartbeats 4000000 in
theorem lcs_37 {nm : String} {tb : List (Nat × Nat × Nat × Nat)} {b L i t cs ss : Nat} {xs : Nat → Int32} {x : kK} {y : kY} {f : Nat → Int64} {d : Nat → UInt64} (X : RX t x y) (ht : t + 11 < 2 ^ 20) (hi : i + 4 ≤ L) (hL : L ≤ 2048) (hc : cs + 1 ≤ 603072) (hs : ss + 6 ≤ 7182442) (go : LG nm tb b L xs i (t + 11) (cs + 1) (ss + 6)) : kEv (kLw nm tb) RW (FL b L xs) false 2040 [.ref 2000, .ref 0, .ref 116, .ref 128, .ref 129, .int (nI i), .retAddr 0, .retAddr 0, .retAddr 0] [] (h4 x y f d) 130 cs ss := by
  obtain ⟨X2, qe, -⟩ := q_coins X
  refine k_aload_n (i := 1) dL_law_2040 (rfl : 2040 + 1 = 2041) rfl rfl ?_
  refine k_callVd0 cv_L_289 ⟨Nat.le_of_ble_eq_true rfl, Nat.le_of_ble_eq_true rfl⟩ (m_X11_coins (x := x)) dL_law_2041 (rfl : 2041 + 3 = 2044) (Nat.le_of_ble_eq_true rfl) rfl rfl rfl (lc0 hc hs) ?_
  refine k_aload_n (i := 2) dL_law_2044 (rfl : 2044 + 1 = 2045) rfl rfl ?_
  refine k_callVd0 cv_L_292 ⟨Nat.le_of_ble_eq_true rfl, Nat.le_of_ble_eq_true rfl⟩ (m_X12_coins (x := y)) dL_law_2045 (rfl : 2045 + 3 = 2048) (Nat.le_of_ble_eq_true rfl) rfl rfl rfl (lc0 hc hs) ?_
  refine k_icmp_eq (tgt := 2815) dL_law_2048 (rfl : 2048 + 3 = 2051) (by decide) (fun _ => ?_) (fun b => absurd qe b)
  exact l_go go X2 (by omega) (show cs ≤ cs + 1 by omega) (show ss ≤ ss + 6 by omega)
set_option maxRecDepth 100000 in
set_option maxHeartbeats 4000000 in
theorem lcs_38 {nm : String} {tb : List (Nat × Nat × Nat × Nat)} {b L i t cs ss : Nat} {xs : Nat → Int32} {x : kK} {y : kY} {f : Nat → Int64} {d : Nat → UInt64} (X : RX t x y) (ht : t + 11 < 2 ^ 20) (hi : i + 4 ≤ L) (hL : L ≤ 2048) (hc : cs + 1 ≤ 603072) (hs : ss + 6 ≤ 7182442) (go : LG nm tb b L xs i (t + 11) (cs + 1) (ss + 6)) : kEv (kLw nm tb) RW (FL b L xs) false 2053 [.ref 2000, .ref 0, .ref 116, .ref 128, .ref 129, .int (nI i), .retAddr 0, .retAddr 0, .retAddr 0] [] (h4 x y f d) 130 cs ss := by
  obtain ⟨X2, qe, -⟩ := q_coinsByAccounts X
  refine k_aload_n (i := 1) dL_law_2053 (rfl : 2053 + 1 = 2054) rfl rfl ?_
  refine k_callVd0 cv_L_293 ⟨Nat.le_of_ble_eq_true rfl, Nat.le_of_ble_eq_true rfl⟩ (m_X11_coinsByAccounts (x := x)) dL_law_2054 (rfl : 2054 + 3 = 2057) (Nat.le_of_ble_eq_true rfl) rfl rfl rfl (lc0 hc hs) ?_
  refine k_aload_n (i := 2) dL_law_2057 (rfl : 2057 + 1 = 2058) rfl rfl ?_
  refine k_callVd0 cv_L_296 ⟨Nat.le_of_ble_eq_true rfl, Nat.le_of_ble_eq_true rfl⟩ (m_X12_coinsByAccounts (x := y)) dL_law_2058 (rfl : 2058 + 3 = 2061) (Nat.le_of_ble_eq_true rfl) rfl rfl rfl (lc0 hc hs) ?_
  refine k_icmp_eq (tgt := 2815) dL_law_2061 (rfl : 2061 + 3 = 2064) (by decide) (fun _ => ?_) (fun b => absurd qe b)
  exact l_go go X2 (by omega) (show cs ≤ cs + 1 by omega) (show ss ≤ ss + 6 by omega)
set_option maxRecDepth 100000 in
set_option maxHeartbeats 4000000 in
theorem lcs_39 {nm : String} {tb : List (Nat × Nat × Nat × Nat)} {b L i t cs ss : Nat} {xs : Nat → Int32} {x : kK} {y : kY} {f : Nat → Int64} {d : Nat → UInt64} (X : RX t x y) (ht : t + 11 < 2 ^ 20) (hi : i + 4 ≤ L) (hL : L ≤ 2048) (hc : cs + 1 ≤ 603072) (hs : ss + 6 ≤ 7182442) (go : LG nm tb b L xs i (t + 11) (cs + 1) (ss + 6)) : kEv (kLw nm tb) RW (FL b L xs) false 2066 [.ref 2000, .ref 0, .ref 116, .ref 128, .ref 129, .int (nI i), .retAddr 0, .retAddr 0, .retAddr 0] [] (h4 x y f d) 130 cs ss := by
  obtain ⟨X2, alt⟩ := q_refusalReason X
  have hK := m_X11_refusalReason (x := x) (r := kHr y (kJ 1 f, kDb 1 d))
  rcases alt with ⟨eo, e0⟩ | ⟨eo, e0⟩
  · rw [eo] at hK
    have hm := v_L_refusalReason (h2 := h4 x y f d) hK rfl rfl
    rw [h4_f] at hm
    refine k_aload_n (i := 1) dL_law_2066 (rfl : 2066 + 1 = 2067) rfl rfl ?_
    refine k_aload_n (i := 3) dL_law_2067 (rfl : 2067 + 1 = 2068) rfl rfl ?_
    refine k_callSTd2 cv_L_297 ⟨Nat.le_of_ble_eq_true rfl, Nat.le_of_ble_eq_true rfl⟩ hm dL_law_2068 (rfl : 2068 + 3 = 2071) rfl (lc1 hc hs) rfl ?_
    refine k_istore (i := 6) dL_law_2071 (rfl : 2071 + 2 = 2073) (Nat.le_of_ble_eq_true rfl) ?_
    refine k_ls (ls2 := [.ref 2000, .ref 0, .ref 116, .ref 128, .ref 129, .int (nI i), .int 0, .retAddr 0, .retAddr 0]) rfl ?_
    refine k_aload_n (i := 2) dL_law_2073 (rfl : 2073 + 1 = 2074) rfl rfl ?_
    refine k_callVd0 cv_L_300 ⟨Nat.le_of_ble_eq_true rfl, Nat.le_of_ble_eq_true rfl⟩ (m_X12_refusalReason (x := y)) dL_law_2074 (rfl : 2074 + 3 = 2077) (Nat.le_of_ble_eq_true rfl) rfl rfl rfl (lc1 hc hs) ?_
    refine k_istore (i := 7) dL_law_2077 (rfl : 2077 + 2 = 2079) (Nat.le_of_ble_eq_true rfl) ?_
    refine k_ls (ls2 := [.ref 2000, .ref 0, .ref 116, .ref 128, .ref 129, .int (nI i), .int 0, .int (f_X12_refusalReason y), .retAddr 0]) rfl ?_
    refine k_aload_n (i := 2) dL_law_2079 (rfl : 2079 + 1 = 2080) rfl rfl ?_
    refine k_callVd0 cv_L_161 ⟨Nat.le_of_ble_eq_true rfl, Nat.le_of_ble_eq_true rfl⟩ (m_X12_thrown (x := (g_X12_refusalReason y))) dL_law_2080 (rfl : 2080 + 3 = 2083) (Nat.le_of_ble_eq_true rfl) rfl rfl rfl (lc1 hc hs) ?_
    refine k_iload (i := 6) dL_law_2083 (rfl : 2083 + 2 = 2085) rfl ?_
    refine k_icmp_eq (tgt := 2090) dL_law_2085 (rfl : 2085 + 3 = 2088) (by decide) (fun _ => ?_) (fun b => absurd e0 b)
    refine k_iload (i := 6) dL_law_2090 (rfl : 2090 + 2 = 2092) rfl ?_
    refine k_if_ne (tgt := 2107) dL_law_2092 (rfl : 2092 + 3 = 2095) (by decide) (fun b => absurd b (by decide)) (fun _ => ?_)
    refine k_aload_n (i := 3) dL_law_2095 (rfl : 2095 + 1 = 2096) rfl rfl ?_
    refine k_iconst (v := 0) dL_law_2096 (rfl : 2096 + 1 = 2097) (by decide) ?_
    refine k_lald dL_law_2097 (rfl : 2097 + 1 = 2098) (Nat.le_of_ble_eq_true rfl) rfl vp_00 ?_
    refine k_iload (i := 7) dL_law_2098 (rfl : 2098 + 2 = 2100) rfl ?_
    refine k_i2l dL_law_2100 (rfl : 2100 + 1 = 2101) ?_
    refine k_lcmp dL_law_2101 (rfl : 2101 + 1 = 2102) ?_
    refine k_if_eq (tgt := 2107) dL_law_2102 (rfl : 2102 + 3 = 2105) (by decide) (fun _ => ?_) (fun b => absurd (lg_cmp_0.2 uL0) b)
    refine k_goto (tgt := 2815) dL_law_2107 (by decide) ?_
    exact l_go go X2 (by omega) (Nat.le_refl _) (Nat.le_refl _)
  · rw [eo] at hK
    have hm := x1_L_refusalReason (h2 := h4 x y f d) hK rfl
    refine k_aload_n (i := 1) dL_law_2066 (rfl : 2066 + 1 = 2067) rfl rfl ?_
    refine k_aload_n (i := 3) dL_law_2067 (rfl : 2067 + 1 = 2068) rfl rfl ?_
    refine k_callSTd2 cv_L_297 ⟨Nat.le_of_ble_eq_true rfl, Nat.le_of_ble_eq_true rfl⟩ hm dL_law_2068 (rfl : 2068 + 3 = 2071) rfl (lc1 hc hs) rfl ?_
    refine k_istore (i := 6) dL_law_2071 (rfl : 2071 + 2 = 2073) (Nat.le_of_ble_eq_true rfl) ?_
    refine k_ls (ls2 := [.ref 2000, .ref 0, .ref 116, .ref 128, .ref 129, .int (nI i), .int 1, .retAddr 0, .retAddr 0]) rfl ?_
    refine k_aload_n (i := 2) dL_law_2073 (rfl : 2073 + 1 = 2074) rfl rfl ?_
    refine k_callVd0 cv_L_300 ⟨Nat.le_of_ble_eq_true rfl, Nat.le_of_ble_eq_true rfl⟩ (m_X12_refusalReason (x := y)) dL_law_2074 (rfl : 2074 + 3 = 2077) (Nat.le_of_ble_eq_true rfl) rfl rfl rfl (lc1 hc hs) ?_
    refine k_istore (i := 7) dL_law_2077 (rfl : 2077 + 2 = 2079) (Nat.le_of_ble_eq_true rfl) ?_
    refine k_ls (ls2 := [.ref 2000, .ref 0, .ref 116, .ref 128, .ref 129, .int (nI i), .int 1, .int (f_X12_refusalReason y), .retAddr 0]) rfl ?_
    refine k_aload_n (i := 2) dL_law_2079 (rfl : 2079 + 1 = 2080) rfl rfl ?_
    refine k_callVd0 cv_L_161 ⟨Nat.le_of_ble_eq_true rfl, Nat.le_of_ble_eq_true rfl⟩ (m_X12_thrown (x := (g_X12_refusalReason y))) dL_law_2080 (rfl : 2080 + 3 = 2083) (Nat.le_of_ble_eq_true rfl) rfl rfl rfl (lc1 hc hs) ?_
    refine k_iload (i := 6) dL_law_2083 (rfl : 2083 + 2 = 2085) rfl ?_
    refine k_icmp_eq (tgt := 2090) dL_law_2085 (rfl : 2085 + 3 = 2088) (by decide) (fun _ => ?_) (fun b => absurd e0 b)
    refine k_iload (i := 6) dL_law_2090 (rfl : 2090 + 2 = 2092) rfl ?_
    refine k_if_ne (tgt := 2107) dL_law_2092 (rfl : 2092 + 3 = 2095) (by decide) (fun _ => ?_) (fun b => absurd b (by decide))
    refine k_goto (tgt := 2815) dL_law_2107 (by decide) ?_
    exact l_go go X2 (by omega) (Nat.le_refl _) (Nat.le_refl _)
set_option maxRecDepth 100000 in
set_option maxHeartbeats 4000000 in
theorem lcs_40 {nm : String} {tb : List (Nat × Nat × Nat × Nat)} {b L i t cs ss : Nat} {xs : Nat → Int32} {x : kK} {y : kY} {f : Nat → Int64} {d : Nat → UInt64} (X : RX t x y) (ht : t + 11 < 2 ^ 20) (hi : i + 4 ≤ L) (hL : L ≤ 2048) (hc : cs + 1 ≤ 603072) (hs : ss + 6 ≤ 7182442) (go : LG nm tb b L xs i (t + 11) (cs + 1) (ss + 6)) : kEv (kLw nm tb) RW (FL b L xs) false 2110 [.ref 2000, .ref 0, .ref 116, .ref 128, .ref 129, .int (nI i), .retAddr 0, .retAddr 0, .retAddr 0] [] (h4 x y f d) 130 cs ss := by
  obtain ⟨X2, alt⟩ := q_refusalDetail X
  have hK := m_X11_refusalDetail (x := x) (r := kHr y (kJ 1 f, kDb 1 d))
  rcases alt with ⟨eo, e0⟩ | ⟨eo, e0⟩
  · rw [eo] at hK
    have hm := v_L_refusalDetail (h2 := h4 x y f d) hK rfl rfl
    rw [h4_f] at hm
    refine k_aload_n (i := 1) dL_law_2110 (rfl : 2110 + 1 = 2111) rfl rfl ?_
    refine k_aload_n (i := 3) dL_law_2111 (rfl : 2111 + 1 = 2112) rfl rfl ?_
    refine k_callSTd2 cv_L_301 ⟨Nat.le_of_ble_eq_true rfl, Nat.le_of_ble_eq_true rfl⟩ hm dL_law_2112 (rfl : 2112 + 3 = 2115) rfl (lc1 hc hs) rfl ?_
    refine k_istore (i := 6) dL_law_2115 (rfl : 2115 + 2 = 2117) (Nat.le_of_ble_eq_true rfl) ?_
    refine k_ls (ls2 := [.ref 2000, .ref 0, .ref 116, .ref 128, .ref 129, .int (nI i), .int 0, .retAddr 0, .retAddr 0]) rfl ?_
    refine k_aload_n (i := 2) dL_law_2117 (rfl : 2117 + 1 = 2118) rfl rfl ?_
    refine k_callVd0 cv_L_303 ⟨Nat.le_of_ble_eq_true rfl, Nat.le_of_ble_eq_true rfl⟩ (m_X12_refusalDetail (x := y)) dL_law_2118 (rfl : 2118 + 3 = 2121) (Nat.le_of_ble_eq_true rfl) rfl rfl rfl (lc1 hc hs) ?_
    refine k_istore (i := 7) dL_law_2121 (rfl : 2121 + 2 = 2123) (Nat.le_of_ble_eq_true rfl) ?_
    refine k_ls (ls2 := [.ref 2000, .ref 0, .ref 116, .ref 128, .ref 129, .int (nI i), .int 0, .int (f_X12_refusalDetail y), .retAddr 0]) rfl ?_
    refine k_aload_n (i := 2) dL_law_2123 (rfl : 2123 + 1 = 2124) rfl rfl ?_
    refine k_callVd0 cv_L_161 ⟨Nat.le_of_ble_eq_true rfl, Nat.le_of_ble_eq_true rfl⟩ (m_X12_thrown (x := (g_X12_refusalDetail y))) dL_law_2124 (rfl : 2124 + 3 = 2127) (Nat.le_of_ble_eq_true rfl) rfl rfl rfl (lc1 hc hs) ?_
    refine k_iload (i := 6) dL_law_2127 (rfl : 2127 + 2 = 2129) rfl ?_
    refine k_icmp_eq (tgt := 2134) dL_law_2129 (rfl : 2129 + 3 = 2132) (by decide) (fun _ => ?_) (fun b => absurd e0 b)
    refine k_iload (i := 6) dL_law_2134 (rfl : 2134 + 2 = 2136) rfl ?_
    refine k_if_ne (tgt := 2151) dL_law_2136 (rfl : 2136 + 3 = 2139) (by decide) (fun b => absurd b (by decide)) (fun _ => ?_)
    refine k_aload_n (i := 3) dL_law_2139 (rfl : 2139 + 1 = 2140) rfl rfl ?_
    refine k_iconst (v := 0) dL_law_2140 (rfl : 2140 + 1 = 2141) (by decide) ?_
    refine k_lald dL_law_2141 (rfl : 2141 + 1 = 2142) (Nat.le_of_ble_eq_true rfl) rfl vp_00 ?_
    refine k_iload (i := 7) dL_law_2142 (rfl : 2142 + 2 = 2144) rfl ?_
    refine k_i2l dL_law_2144 (rfl : 2144 + 1 = 2145) ?_
    refine k_lcmp dL_law_2145 (rfl : 2145 + 1 = 2146) ?_
    refine k_if_eq (tgt := 2151) dL_law_2146 (rfl : 2146 + 3 = 2149) (by decide) (fun _ => ?_) (fun b => absurd (lg_cmp_0.2 uL0) b)
    refine k_goto (tgt := 2815) dL_law_2151 (by decide) ?_
    exact l_go go X2 (by omega) (Nat.le_refl _) (Nat.le_refl _)
  · rw [eo] at hK
    have hm := x1_L_refusalDetail (h2 := h4 x y f d) hK rfl
    refine k_aload_n (i := 1) dL_law_2110 (rfl : 2110 + 1 = 2111) rfl rfl ?_
    refine k_aload_n (i := 3) dL_law_2111 (rfl : 2111 + 1 = 2112) rfl rfl ?_
    refine k_callSTd2 cv_L_301 ⟨Nat.le_of_ble_eq_true rfl, Nat.le_of_ble_eq_true rfl⟩ hm dL_law_2112 (rfl : 2112 + 3 = 2115) rfl (lc1 hc hs) rfl ?_
    refine k_istore (i := 6) dL_law_2115 (rfl : 2115 + 2 = 2117) (Nat.le_of_ble_eq_true rfl) ?_
    refine k_ls (ls2 := [.ref 2000, .ref 0, .ref 116, .ref 128, .ref 129, .int (nI i), .int 1, .retAddr 0, .retAddr 0]) rfl ?_
    refine k_aload_n (i := 2) dL_law_2117 (rfl : 2117 + 1 = 2118) rfl rfl ?_
    refine k_callVd0 cv_L_303 ⟨Nat.le_of_ble_eq_true rfl, Nat.le_of_ble_eq_true rfl⟩ (m_X12_refusalDetail (x := y)) dL_law_2118 (rfl : 2118 + 3 = 2121) (Nat.le_of_ble_eq_true rfl) rfl rfl rfl (lc1 hc hs) ?_
    refine k_istore (i := 7) dL_law_2121 (rfl : 2121 + 2 = 2123) (Nat.le_of_ble_eq_true rfl) ?_
    refine k_ls (ls2 := [.ref 2000, .ref 0, .ref 116, .ref 128, .ref 129, .int (nI i), .int 1, .int (f_X12_refusalDetail y), .retAddr 0]) rfl ?_
    refine k_aload_n (i := 2) dL_law_2123 (rfl : 2123 + 1 = 2124) rfl rfl ?_
    refine k_callVd0 cv_L_161 ⟨Nat.le_of_ble_eq_true rfl, Nat.le_of_ble_eq_true rfl⟩ (m_X12_thrown (x := (g_X12_refusalDetail y))) dL_law_2124 (rfl : 2124 + 3 = 2127) (Nat.le_of_ble_eq_true rfl) rfl rfl rfl (lc1 hc hs) ?_
    refine k_iload (i := 6) dL_law_2127 (rfl : 2127 + 2 = 2129) rfl ?_
    refine k_icmp_eq (tgt := 2134) dL_law_2129 (rfl : 2129 + 3 = 2132) (by decide) (fun _ => ?_) (fun b => absurd e0 b)
    refine k_iload (i := 6) dL_law_2134 (rfl : 2134 + 2 = 2136) rfl ?_
    refine k_if_ne (tgt := 2151) dL_law_2136 (rfl : 2136 + 3 = 2139) (by decide) (fun _ => ?_) (fun b => absurd b (by decide))
    refine k_goto (tgt := 2815) dL_law_2151 (by decide) ?_
    exact l_go go X2 (by omega) (Nat.le_refl _) (Nat.le_refl _)
set_option maxRecDepth 100000 in
set_option maxHeartbeats 4000000 in
theorem lcs_41 {nm : String} {tb : List (Nat × Nat × Nat × Nat)} {b L i t cs ss : Nat} {xs : Nat → Int32} {x : kK} {y : kY} {f : Nat → Int64} {d : Nat → UInt64} (X : RX t x y) (ht : t + 11 < 2 ^ 20) (hi : i + 4 ≤ L) (hL : L ≤ 2048) (hc : cs + 1 ≤ 603072) (hs : ss + 6 ≤ 7182442) (go : LG nm tb b L xs i (t + 11) (cs + 1) (ss + 6)) : kEv (kLw nm tb) RW (FL b L xs) false 2154 [.ref 2000, .ref 0, .ref 116, .ref 128, .ref 129, .int (nI i), .retAddr 0, .retAddr 0, .retAddr 0] [] (h4 x y f d) 130 cs ss := by
  obtain ⟨X2, alt⟩ := q_caughtShare X
  have hK := m_X11_caughtShare (x := x) (r := kHr y (kJ 1 f, kDb 1 d)) (sh_K X (by omega))
  rcases alt with ⟨nz, eo, e0⟩ | ⟨eo, e0⟩
  · rw [eo] at hK
    have hsh : isSh (f_X12_caughtShare y) := by
      have z := sh_RX X (by omega) nz
      unfold f_X12_caughtShare; rw [if_neg nz]; exact z
    have hne := n64_f2d hsh
    have hm := v_L_caughtShare (h2 := h4 x y f d) hK rfl rfl hne
    rw [h4_d] at hm
    refine k_aload_n (i := 1) dL_law_2154 (rfl : 2154 + 1 = 2155) rfl rfl ?_
    refine k_aload (i := 4) dL_law_2155 (rfl : 2155 + 2 = 2157) rfl ?_
    refine k_callSTd2 cv_L_304 ⟨Nat.le_of_ble_eq_true rfl, Nat.le_of_ble_eq_true rfl⟩ hm dL_law_2157 (rfl : 2157 + 3 = 2160) rfl (lc1 hc hs) rfl ?_
    refine k_istore (i := 6) dL_law_2160 (rfl : 2160 + 2 = 2162) (Nat.le_of_ble_eq_true rfl) ?_
    refine k_ls (ls2 := [.ref 2000, .ref 0, .ref 116, .ref 128, .ref 129, .int (nI i), .int 0, .retAddr 0, .retAddr 0]) rfl ?_
    refine k_aload_n (i := 2) dL_law_2162 (rfl : 2162 + 1 = 2163) rfl rfl ?_
    refine k_callVd0 cv_L_307 ⟨Nat.le_of_ble_eq_true rfl, Nat.le_of_ble_eq_true rfl⟩ (m_X12_caughtShare (x := y) (fun z => n32_sh (sh_RX X (by omega) z))) dL_law_2163 (rfl : 2163 + 3 = 2166) (Nat.le_of_ble_eq_true rfl) rfl rfl rfl (lc1 hc hs) ?_
    refine k_fstore (i := 7) dL_law_2166 (rfl : 2166 + 2 = 2168) (Nat.le_of_ble_eq_true rfl) ?_
    refine k_ls (ls2 := [.ref 2000, .ref 0, .ref 116, .ref 128, .ref 129, .int (nI i), .int 0, .float (f_X12_caughtShare y), .retAddr 0]) rfl ?_
    refine k_aload_n (i := 2) dL_law_2168 (rfl : 2168 + 1 = 2169) rfl rfl ?_
    refine k_callVd0 cv_L_161 ⟨Nat.le_of_ble_eq_true rfl, Nat.le_of_ble_eq_true rfl⟩ (m_X12_thrown (x := (g_X12_caughtShare y))) dL_law_2169 (rfl : 2169 + 3 = 2172) (Nat.le_of_ble_eq_true rfl) rfl rfl rfl (lc1 hc hs) ?_
    refine k_iload (i := 6) dL_law_2172 (rfl : 2172 + 2 = 2174) rfl ?_
    refine k_icmp_eq (tgt := 2179) dL_law_2174 (rfl : 2174 + 3 = 2177) (by decide) (fun _ => ?_) (fun b => absurd e0 b)
    refine k_iload (i := 6) dL_law_2179 (rfl : 2179 + 2 = 2181) rfl ?_
    refine k_if_ne (tgt := 2217) dL_law_2181 (rfl : 2181 + 3 = 2184) (by decide) (fun b => absurd b (by decide)) (fun _ => ?_)
    refine k_aload (i := 4) dL_law_2184 (rfl : 2184 + 2 = 2186) rfl ?_
    refine k_iconst (v := 0) dL_law_2186 (rfl : 2186 + 1 = 2187) (by decide) ?_
    refine k_dald dL_law_2187 (rfl : 2187 + 1 = 2188) (Nat.le_of_ble_eq_true rfl) rfl vp_00 ?_
    refine k_fload (i := 7) dL_law_2188 (rfl : 2188 + 2 = 2190) rfl ?_
    refine k_f2d dL_law_2190 (rfl : 2190 + 1 = 2191) hne ?_
    refine k_dcmp dL_law_2191 (rfl : 2191 + 1 = 2192) ?_
    refine k_if_eq (tgt := 2217) dL_law_2192 (rfl : 2192 + 3 = 2195) (by decide) (fun _ => ?_) (fun b => absurd (by rw [uD0, dcmp_self hne]; rfl) b)
    refine k_goto (tgt := 2815) dL_law_2217 (by decide) ?_
    exact l_go go X2 (by omega) (Nat.le_refl _) (Nat.le_refl _)
  · rw [eo] at hK
    have hm := x1_L_caughtShare (h2 := h4 x y f d) hK rfl
    refine k_aload_n (i := 1) dL_law_2154 (rfl : 2154 + 1 = 2155) rfl rfl ?_
    refine k_aload (i := 4) dL_law_2155 (rfl : 2155 + 2 = 2157) rfl ?_
    refine k_callSTd2 cv_L_304 ⟨Nat.le_of_ble_eq_true rfl, Nat.le_of_ble_eq_true rfl⟩ hm dL_law_2157 (rfl : 2157 + 3 = 2160) rfl (lc1 hc hs) rfl ?_
    refine k_istore (i := 6) dL_law_2160 (rfl : 2160 + 2 = 2162) (Nat.le_of_ble_eq_true rfl) ?_
    refine k_ls (ls2 := [.ref 2000, .ref 0, .ref 116, .ref 128, .ref 129, .int (nI i), .int 1, .retAddr 0, .retAddr 0]) rfl ?_
    refine k_aload_n (i := 2) dL_law_2162 (rfl : 2162 + 1 = 2163) rfl rfl ?_
    refine k_callVd0 cv_L_307 ⟨Nat.le_of_ble_eq_true rfl, Nat.le_of_ble_eq_true rfl⟩ (m_X12_caughtShare (x := y) (fun z => n32_sh (sh_RX X (by omega) z))) dL_law_2163 (rfl : 2163 + 3 = 2166) (Nat.le_of_ble_eq_true rfl) rfl rfl rfl (lc1 hc hs) ?_
    refine k_fstore (i := 7) dL_law_2166 (rfl : 2166 + 2 = 2168) (Nat.le_of_ble_eq_true rfl) ?_
    refine k_ls (ls2 := [.ref 2000, .ref 0, .ref 116, .ref 128, .ref 129, .int (nI i), .int 1, .float (f_X12_caughtShare y), .retAddr 0]) rfl ?_
    refine k_aload_n (i := 2) dL_law_2168 (rfl : 2168 + 1 = 2169) rfl rfl ?_
    refine k_callVd0 cv_L_161 ⟨Nat.le_of_ble_eq_true rfl, Nat.le_of_ble_eq_true rfl⟩ (m_X12_thrown (x := (g_X12_caughtShare y))) dL_law_2169 (rfl : 2169 + 3 = 2172) (Nat.le_of_ble_eq_true rfl) rfl rfl rfl (lc1 hc hs) ?_
    refine k_iload (i := 6) dL_law_2172 (rfl : 2172 + 2 = 2174) rfl ?_
    refine k_icmp_eq (tgt := 2179) dL_law_2174 (rfl : 2174 + 3 = 2177) (by decide) (fun _ => ?_) (fun b => absurd e0 b)
    refine k_iload (i := 6) dL_law_2179 (rfl : 2179 + 2 = 2181) rfl ?_
    refine k_if_ne (tgt := 2217) dL_law_2181 (rfl : 2181 + 3 = 2184) (by decide) (fun _ => ?_) (fun b => absurd b (by decide))
    refine k_goto (tgt := 2815) dL_law_2217 (by decide) ?_
    exact l_go go X2 (by omega) (Nat.le_refl _) (Nat.le_refl _)
