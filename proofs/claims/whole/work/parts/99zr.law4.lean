variable {G : GG} {base : Nat}
set_option maxHeartbeats 4000000 in
set_option maxRecDepth 20000 in
theorem law_28 {X : Cx} {b L : Nat} {xs : Nat → Int32} (hX : okL G base X) (hnc : ncX X) (hsc : scX X base b L xs) : Case G base X b L xs 1692 := by
  intro M x r o T i cs sl σ h hT hi hL9 hcs hsl K
  show J G base X cs sl M 1692 (lcs b x r o i) []
  refine r_aload_n hX dL_law_1692 rfl ?_
  refine r_aload_n hX dL_law_1693 rfl ?_
  refine r_iload hX dL_law_1694 rfl ?_
  refine r_iconst (v := nI 1) hX dL_law_1696 (by decide) ?_
  refine rn_iadd hX dL_law_1697 rfl rfl ?_
  refine r_sld hX hsc dL_law_1698 (by omega) hL9 ?_
  refine r_aload_n hX dL_law_1699 rfl ?_
  refine r_iload hX dL_law_1700 rfl ?_
  refine r_iconst (v := nI 2) hX dL_law_1702 (by decide) ?_
  refine rn_iadd hX dL_law_1703 rfl rfl ?_
  refine r_sld hX hsc dL_law_1704 (by omega) hL9 ?_
  refine r_aload_n hX dL_law_1705 rfl ?_
  refine r_callH (As := [.ref x, .int (xs (i + 1)), .int (xs (i + 2)), .ref o]) (rest := []) hX hnc dL_law_1706 IH_promisedDays ml_L_240 rfl (t_L_promisedDays h.lx h.ci h.gs.1 (by omega) h.so h.xo h.nt) (by decide) hcs hsl (by decide) rfl (Nat.le_of_ble_eq_true rfl) (fun v N hp => ?_) (fun E N hp => by obtain ⟨kk, h1, -⟩ := hp; cases h1)
  obtain ⟨kk, hv, hk1, hk2, hk3, hk4, hCN, hr⟩ := hp
  cases hv
  have hLN := h.l11 hk2
  have hRN := h.ri hk4
  refine r_istore5 hX dL_law_1709 rfl ?_
  refine r_aload_n hX dL_law_1711 rfl ?_
  refine r_aload_n hX dL_law_1712 rfl ?_
  refine r_iload hX dL_law_1713 rfl ?_
  refine r_iconst (v := nI 1) hX dL_law_1715 (by decide) ?_
  refine rn_iadd hX dL_law_1716 rfl rfl ?_
  refine r_sld hX hsc dL_law_1717 (by omega) hL9 ?_
  refine r_aload_n hX dL_law_1718 rfl ?_
  refine r_iload hX dL_law_1719 rfl ?_
  refine r_iconst (v := nI 2) hX dL_law_1721 (by decide) ?_
  refine rn_iadd hX dL_law_1722 rfl rfl ?_
  refine r_sld hX hsc dL_law_1723 (by omega) hL9 ?_
  refine r_vV2 hX dL_law_1724 IX11_promisedDays ml_L_242 rfl (LX11_s hLN) rfl (t_X11_promisedDays hLN hRN h.gs.1 (by omega)) (by decide) (by omega) (by omega) (by decide) rfl (Nat.le_of_ble_eq_true rfl) (fun v2 i2 hq => ?_)
  show J G base X _ _ (wI N i2) _ _ _
  obtain ⟨hfin, hth, hval⟩ := lawfin h hk1 hk2 hk3 hCN hr hq (h.gs.mono (show T ≤ T + 168 by omega))
  refine r_istore6 hX dL_law_1727 rfl ?_
  refine r_aload_n hX dL_law_1729 rfl ?_
  refine r_cV0 hX dL_law_1730 IX11_thrown ml_L_153 rfl (LX11_s hLN) rfl (t_X11_thrown (M := wI N i2) hLN) (by decide) (by omega) (by omega) (by decide) rfl (Nat.le_of_ble_eq_true rfl) ?_
  refine r_iload hX dL_law_1733 rfl ?_
  refine r_icmp_eq (tgt := 1740) hX dL_law_1735 (by decide) (fun _ => ?_) (fun z => absurd hth z)
  refine r_iload hX dL_law_1740 rfl ?_
  refine r_if_ne (tgt := 1757) hX dL_law_1742 (by decide) (fun _ => ?_) (fun c0 => ?_)
  · refine r_goto (tgt := 2758) hX dL_law_1757 (by decide) ?_
    exact J.junk (K _ _ hfin) (by repeat first | exact trivial | refine ⟨rfl, ?_⟩)
  · refine r_aload_n hX dL_law_1745 rfl ?_
    refine r_iconst (v := nI 0) hX dL_law_1746 (by decide) ?_
    refine r_lald (n := 1) hX dL_law_1747 (h.on hk2) (vp_in_nI (by omega) (by omega)) ?_
    rw [nI_clamp (by omega)]
    refine r_iload hX dL_law_1748 rfl ?_
    refine r_i2l hX dL_law_1750 ?_
    refine r_lcmp hX dL_law_1751 ?_
    refine r_if_eq (tgt := 1757) hX dL_law_1752 (by decide) (fun _ => ?_) (fun z => absurd ((lg_cmp_eq _ _).mpr (hval c0)) z)
    refine r_goto (tgt := 2758) hX dL_law_1757 (by decide) ?_
    exact J.junk (K _ _ hfin) (by repeat first | exact trivial | refine ⟨rfl, ?_⟩)
set_option maxHeartbeats 4000000 in
set_option maxRecDepth 20000 in
theorem law_29 {X : Cx} {b L : Nat} {xs : Nat → Int32} (hX : okL G base X) (hnc : ncX X) (hsc : scX X base b L xs) : Case G base X b L xs 1760 := by
  intro M x r o T i cs sl σ h hT hi hL9 hcs hsl K
  show J G base X cs sl M 1760 (lcs b x r o i) []
  refine r_aload_n hX dL_law_1760 rfl ?_
  refine r_aload_n hX dL_law_1761 rfl ?_
  refine r_iload hX dL_law_1762 rfl ?_
  refine r_iconst (v := nI 1) hX dL_law_1764 (by decide) ?_
  refine rn_iadd hX dL_law_1765 rfl rfl ?_
  refine r_sld hX hsc dL_law_1766 (by omega) hL9 ?_
  refine r_aload_n hX dL_law_1767 rfl ?_
  refine r_callH (As := [.ref x, .int (xs (i + 1)), .ref o]) (rest := []) hX hnc dL_law_1768 IH_reach ml_L_243 rfl (t_L_reach h.lx h.ci h.gs.1 (by omega) h.so h.xo h.nt) (by decide) hcs hsl (by decide) rfl (Nat.le_of_ble_eq_true rfl) (fun v N hp => ?_) (fun E N hp => by obtain ⟨kk, h1, -⟩ := hp; cases h1)
  obtain ⟨kk, hv, hk1, hk2, hk3, hk4, hCN, hr⟩ := hp
  cases hv
  have hLN := h.l11 hk2
  have hRN := h.ri hk4
  refine r_istore5 hX dL_law_1771 rfl ?_
  refine r_aload_n hX dL_law_1773 rfl ?_
  refine r_aload_n hX dL_law_1774 rfl ?_
  refine r_iload hX dL_law_1775 rfl ?_
  refine r_iconst (v := nI 1) hX dL_law_1777 (by decide) ?_
  refine rn_iadd hX dL_law_1778 rfl rfl ?_
  refine r_sld hX hsc dL_law_1779 (by omega) hL9 ?_
  refine r_vV1 hX dL_law_1780 IX11_reach ml_L_245 rfl (LX11_s hLN) rfl (t_X11_reach hLN hRN h.gs.1 (by omega)) (by decide) (by omega) (by omega) (by decide) rfl (Nat.le_of_ble_eq_true rfl) (fun v2 i2 hq => ?_)
  show J G base X _ _ (wI N i2) _ _ _
  obtain ⟨hfin, hth, hval⟩ := lawfin h hk1 hk2 hk3 hCN hr hq (h.gs.mono (show T ≤ T + 168 by omega))
  refine r_istore6 hX dL_law_1783 rfl ?_
  refine r_aload_n hX dL_law_1785 rfl ?_
  refine r_cV0 hX dL_law_1786 IX11_thrown ml_L_153 rfl (LX11_s hLN) rfl (t_X11_thrown (M := wI N i2) hLN) (by decide) (by omega) (by omega) (by decide) rfl (Nat.le_of_ble_eq_true rfl) ?_
  refine r_iload hX dL_law_1789 rfl ?_
  refine r_icmp_eq (tgt := 1796) hX dL_law_1791 (by decide) (fun _ => ?_) (fun z => absurd hth z)
  refine r_iload hX dL_law_1796 rfl ?_
  refine r_if_ne (tgt := 1813) hX dL_law_1798 (by decide) (fun _ => ?_) (fun c0 => ?_)
  · refine r_goto (tgt := 2758) hX dL_law_1813 (by decide) ?_
    exact J.junk (K _ _ hfin) (by repeat first | exact trivial | refine ⟨rfl, ?_⟩)
  · refine r_aload_n hX dL_law_1801 rfl ?_
    refine r_iconst (v := nI 0) hX dL_law_1802 (by decide) ?_
    refine r_lald (n := 1) hX dL_law_1803 (h.on hk2) (vp_in_nI (by omega) (by omega)) ?_
    rw [nI_clamp (by omega)]
    refine r_iload hX dL_law_1804 rfl ?_
    refine r_i2l hX dL_law_1806 ?_
    refine r_lcmp hX dL_law_1807 ?_
    refine r_if_eq (tgt := 1813) hX dL_law_1808 (by decide) (fun _ => ?_) (fun z => absurd ((lg_cmp_eq _ _).mpr (hval c0)) z)
    refine r_goto (tgt := 2758) hX dL_law_1813 (by decide) ?_
    exact J.junk (K _ _ hfin) (by repeat first | exact trivial | refine ⟨rfl, ?_⟩)
set_option maxHeartbeats 4000000 in
set_option maxRecDepth 20000 in
theorem law_30 {X : Cx} {b L : Nat} {xs : Nat → Int32} (hX : okL G base X) (hnc : ncX X) (hsc : scX X base b L xs) : Case G base X b L xs 1816 := by
  intro M x r o T i cs sl σ h hT hi hL9 hcs hsl K
  show J G base X cs sl M 1816 (lcs b x r o i) []
  refine r_aload_n hX dL_law_1816 rfl ?_
  refine r_aload_n hX dL_law_1817 rfl ?_
  refine r_iload hX dL_law_1818 rfl ?_
  refine r_iconst (v := nI 1) hX dL_law_1820 (by decide) ?_
  refine rn_iadd hX dL_law_1821 rfl rfl ?_
  refine r_sld hX hsc dL_law_1822 (by omega) hL9 ?_
  refine r_aload_n hX dL_law_1823 rfl ?_
  refine r_iload hX dL_law_1824 rfl ?_
  refine r_iconst (v := nI 2) hX dL_law_1826 (by decide) ?_
  refine rn_iadd hX dL_law_1827 rfl rfl ?_
  refine r_sld hX hsc dL_law_1828 (by omega) hL9 ?_
  refine r_aload_n hX dL_law_1829 rfl ?_
  refine r_callH (As := [.ref x, .int (xs (i + 1)), .int (xs (i + 2)), .ref o]) (rest := []) hX hnc dL_law_1830 IH_bestWait ml_L_246 rfl (t_L_bestWait h.lx h.ci h.gs.1 (by omega) h.so h.xo h.nt) (by decide) hcs hsl (by decide) rfl (Nat.le_of_ble_eq_true rfl) (fun v N hp => ?_) (fun E N hp => by obtain ⟨kk, h1, -⟩ := hp; cases h1)
  obtain ⟨kk, hv, hk1, hk2, hk3, hk4, hCN, hr⟩ := hp
  cases hv
  have hLN := h.l11 hk2
  have hRN := h.ri hk4
  refine r_istore5 hX dL_law_1833 rfl ?_
  refine r_aload_n hX dL_law_1835 rfl ?_
  refine r_aload_n hX dL_law_1836 rfl ?_
  refine r_iload hX dL_law_1837 rfl ?_
  refine r_iconst (v := nI 1) hX dL_law_1839 (by decide) ?_
  refine rn_iadd hX dL_law_1840 rfl rfl ?_
  refine r_sld hX hsc dL_law_1841 (by omega) hL9 ?_
  refine r_aload_n hX dL_law_1842 rfl ?_
  refine r_iload hX dL_law_1843 rfl ?_
  refine r_iconst (v := nI 2) hX dL_law_1845 (by decide) ?_
  refine rn_iadd hX dL_law_1846 rfl rfl ?_
  refine r_sld hX hsc dL_law_1847 (by omega) hL9 ?_
  refine r_vV2 hX dL_law_1848 IX11_bestWait ml_L_248 rfl (LX11_s hLN) rfl (t_X11_bestWait hLN hRN h.gs.1 (by omega)) (by decide) (by omega) (by omega) (by decide) rfl (Nat.le_of_ble_eq_true rfl) (fun v2 i2 hq => ?_)
  show J G base X _ _ (wI N i2) _ _ _
  obtain ⟨hfin, hth, hval⟩ := lawfin h hk1 hk2 hk3 hCN hr hq (h.gs.mono (show T ≤ T + 168 by omega))
  refine r_istore6 hX dL_law_1851 rfl ?_
  refine r_aload_n hX dL_law_1853 rfl ?_
  refine r_cV0 hX dL_law_1854 IX11_thrown ml_L_153 rfl (LX11_s hLN) rfl (t_X11_thrown (M := wI N i2) hLN) (by decide) (by omega) (by omega) (by decide) rfl (Nat.le_of_ble_eq_true rfl) ?_
  refine r_iload hX dL_law_1857 rfl ?_
  refine r_icmp_eq (tgt := 1864) hX dL_law_1859 (by decide) (fun _ => ?_) (fun z => absurd hth z)
  refine r_iload hX dL_law_1864 rfl ?_
  refine r_if_ne (tgt := 1881) hX dL_law_1866 (by decide) (fun _ => ?_) (fun c0 => ?_)
  · refine r_goto (tgt := 2758) hX dL_law_1881 (by decide) ?_
    exact J.junk (K _ _ hfin) (by repeat first | exact trivial | refine ⟨rfl, ?_⟩)
  · refine r_aload_n hX dL_law_1869 rfl ?_
    refine r_iconst (v := nI 0) hX dL_law_1870 (by decide) ?_
    refine r_lald (n := 1) hX dL_law_1871 (h.on hk2) (vp_in_nI (by omega) (by omega)) ?_
    rw [nI_clamp (by omega)]
    refine r_iload hX dL_law_1872 rfl ?_
    refine r_i2l hX dL_law_1874 ?_
    refine r_lcmp hX dL_law_1875 ?_
    refine r_if_eq (tgt := 1881) hX dL_law_1876 (by decide) (fun _ => ?_) (fun z => absurd ((lg_cmp_eq _ _).mpr (hval c0)) z)
    refine r_goto (tgt := 2758) hX dL_law_1881 (by decide) ?_
    exact J.junk (K _ _ hfin) (by repeat first | exact trivial | refine ⟨rfl, ?_⟩)
set_option maxHeartbeats 4000000 in
set_option maxRecDepth 20000 in
theorem law_31 {X : Cx} {b L : Nat} {xs : Nat → Int32} (hX : okL G base X) (hnc : ncX X) (hsc : scX X base b L xs) : Case G base X b L xs 1884 := by
  intro M x r o T i cs sl σ h hT hi hL9 hcs hsl K
  show J G base X cs sl M 1884 (lcs b x r o i) []
  refine r_aload_n hX dL_law_1884 rfl ?_
  refine r_aload_n hX dL_law_1885 rfl ?_
  refine r_iload hX dL_law_1886 rfl ?_
  refine r_iconst (v := nI 1) hX dL_law_1888 (by decide) ?_
  refine rn_iadd hX dL_law_1889 rfl rfl ?_
  refine r_sld hX hsc dL_law_1890 (by omega) hL9 ?_
  refine r_aload_n hX dL_law_1891 rfl ?_
  refine r_callH (As := [.ref x, .int (xs (i + 1)), .ref o]) (rest := []) hX hnc dL_law_1892 IH_expected ml_L_249 rfl (t_L_expected h.lx h.ci h.gs.1 (by omega) h.so h.xo h.nt) (by decide) hcs hsl (by decide) rfl (Nat.le_of_ble_eq_true rfl) (fun v N hp => ?_) (fun E N hp => by obtain ⟨kk, h1, -⟩ := hp; cases h1)
  obtain ⟨kk, hv, hk1, hk2, hk3, hk4, hCN, hr⟩ := hp
  cases hv
  have hLN := h.l11 hk2
  have hRN := h.ri hk4
  refine r_istore5 hX dL_law_1895 rfl ?_
  refine r_aload_n hX dL_law_1897 rfl ?_
  refine r_aload_n hX dL_law_1898 rfl ?_
  refine r_iload hX dL_law_1899 rfl ?_
  refine r_iconst (v := nI 1) hX dL_law_1901 (by decide) ?_
  refine rn_iadd hX dL_law_1902 rfl rfl ?_
  refine r_sld hX hsc dL_law_1903 (by omega) hL9 ?_
  refine r_vV1 hX dL_law_1904 IX11_expected ml_L_251 rfl (LX11_s hLN) rfl (t_X11_expected hLN hRN h.gs.1 (by omega)) (by decide) (by omega) (by omega) (by decide) rfl (Nat.le_of_ble_eq_true rfl) (fun v2 i2 hq => ?_)
  show J G base X _ _ (wI N i2) _ _ _
  obtain ⟨hfin, hth, hval⟩ := lawfin h hk1 hk2 hk3 hCN hr hq (h.gs.mono (show T ≤ T + 168 by omega))
  refine r_istore6 hX dL_law_1907 rfl ?_
  refine r_aload_n hX dL_law_1909 rfl ?_
  refine r_cV0 hX dL_law_1910 IX11_thrown ml_L_153 rfl (LX11_s hLN) rfl (t_X11_thrown (M := wI N i2) hLN) (by decide) (by omega) (by omega) (by decide) rfl (Nat.le_of_ble_eq_true rfl) ?_
  refine r_iload hX dL_law_1913 rfl ?_
  refine r_icmp_eq (tgt := 1920) hX dL_law_1915 (by decide) (fun _ => ?_) (fun z => absurd hth z)
  refine r_iload hX dL_law_1920 rfl ?_
  refine r_if_ne (tgt := 1937) hX dL_law_1922 (by decide) (fun _ => ?_) (fun c0 => ?_)
  · refine r_goto (tgt := 2758) hX dL_law_1937 (by decide) ?_
    exact J.junk (K _ _ hfin) (by repeat first | exact trivial | refine ⟨rfl, ?_⟩)
  · refine r_aload_n hX dL_law_1925 rfl ?_
    refine r_iconst (v := nI 0) hX dL_law_1926 (by decide) ?_
    refine r_lald (n := 1) hX dL_law_1927 (h.on hk2) (vp_in_nI (by omega) (by omega)) ?_
    rw [nI_clamp (by omega)]
    refine r_iload hX dL_law_1928 rfl ?_
    refine r_i2l hX dL_law_1930 ?_
    refine r_lcmp hX dL_law_1931 ?_
    refine r_if_eq (tgt := 1937) hX dL_law_1932 (by decide) (fun _ => ?_) (fun z => absurd ((lg_cmp_eq _ _).mpr (hval c0)) z)
    refine r_goto (tgt := 2758) hX dL_law_1937 (by decide) ?_
    exact J.junk (K _ _ hfin) (by repeat first | exact trivial | refine ⟨rfl, ?_⟩)
set_option maxHeartbeats 4000000 in
set_option maxRecDepth 20000 in
theorem law_32 {X : Cx} {b L : Nat} {xs : Nat → Int32} (hX : okL G base X) (hnc : ncX X) (hsc : scX X base b L xs) : Case G base X b L xs 1940 := by
  intro M x r o T i cs sl σ h hT hi hL9 hcs hsl K
  show J G base X cs sl M 1940 (lcs b x r o i) []
  refine r_aload_n hX dL_law_1940 rfl ?_
  refine r_aload_n hX dL_law_1941 rfl ?_
  refine r_iload hX dL_law_1942 rfl ?_
  refine r_iconst (v := nI 1) hX dL_law_1944 (by decide) ?_
  refine rn_iadd hX dL_law_1945 rfl rfl ?_
  refine r_sld hX hsc dL_law_1946 (by omega) hL9 ?_
  refine r_aload_n hX dL_law_1947 rfl ?_
  refine r_iload hX dL_law_1948 rfl ?_
  refine r_iconst (v := nI 2) hX dL_law_1950 (by decide) ?_
  refine rn_iadd hX dL_law_1951 rfl rfl ?_
  refine r_sld hX hsc dL_law_1952 (by omega) hL9 ?_
  refine r_aload_n hX dL_law_1953 rfl ?_
  refine r_callH (As := [.ref x, .int (xs (i + 1)), .int (xs (i + 2)), .ref o]) (rest := []) hX hnc dL_law_1954 IH_receipt ml_L_252 rfl (t_L_receipt h.lx h.ci h.gs.1 (by omega) h.so h.xo h.nt) (by decide) hcs hsl (by decide) rfl (Nat.le_of_ble_eq_true rfl) (fun v N hp => ?_) (fun E N hp => by obtain ⟨kk, h1, -⟩ := hp; cases h1)
  obtain ⟨kk, hv, hk1, hk2, hk3, hk4, hCN, hr⟩ := hp
  cases hv
  have hLN := h.l11 hk2
  have hRN := h.ri hk4
  refine r_istore5 hX dL_law_1957 rfl ?_
  refine r_aload_n hX dL_law_1959 rfl ?_
  refine r_aload_n hX dL_law_1960 rfl ?_
  refine r_iload hX dL_law_1961 rfl ?_
  refine r_iconst (v := nI 1) hX dL_law_1963 (by decide) ?_
  refine rn_iadd hX dL_law_1964 rfl rfl ?_
  refine r_sld hX hsc dL_law_1965 (by omega) hL9 ?_
  refine r_aload_n hX dL_law_1966 rfl ?_
  refine r_iload hX dL_law_1967 rfl ?_
  refine r_iconst (v := nI 2) hX dL_law_1969 (by decide) ?_
  refine rn_iadd hX dL_law_1970 rfl rfl ?_
  refine r_sld hX hsc dL_law_1971 (by omega) hL9 ?_
  refine r_vV2 hX dL_law_1972 IX11_receipt ml_L_254 rfl (LX11_s hLN) rfl (t_X11_receipt hLN hRN h.gs.1 (by omega)) (by decide) (by omega) (by omega) (by decide) rfl (Nat.le_of_ble_eq_true rfl) (fun v2 i2 hq => ?_)
  show J G base X _ _ (wI N i2) _ _ _
  obtain ⟨hfin, hth, hval⟩ := lawfin h hk1 hk2 hk3 hCN hr hq (h.gs.mono (show T ≤ T + 168 by omega))
  refine r_istore6 hX dL_law_1975 rfl ?_
  refine r_aload_n hX dL_law_1977 rfl ?_
  refine r_cV0 hX dL_law_1978 IX11_thrown ml_L_153 rfl (LX11_s hLN) rfl (t_X11_thrown (M := wI N i2) hLN) (by decide) (by omega) (by omega) (by decide) rfl (Nat.le_of_ble_eq_true rfl) ?_
  refine r_iload hX dL_law_1981 rfl ?_
  refine r_icmp_eq (tgt := 1988) hX dL_law_1983 (by decide) (fun _ => ?_) (fun z => absurd hth z)
  refine r_iload hX dL_law_1988 rfl ?_
  refine r_if_ne (tgt := 2005) hX dL_law_1990 (by decide) (fun _ => ?_) (fun c0 => ?_)
  · refine r_goto (tgt := 2758) hX dL_law_2005 (by decide) ?_
    exact J.junk (K _ _ hfin) (by repeat first | exact trivial | refine ⟨rfl, ?_⟩)
  · refine r_aload_n hX dL_law_1993 rfl ?_
    refine r_iconst (v := nI 0) hX dL_law_1994 (by decide) ?_
    refine r_lald (n := 1) hX dL_law_1995 (h.on hk2) (vp_in_nI (by omega) (by omega)) ?_
    rw [nI_clamp (by omega)]
    refine r_iload hX dL_law_1996 rfl ?_
    refine r_i2l hX dL_law_1998 ?_
    refine r_lcmp hX dL_law_1999 ?_
    refine r_if_eq (tgt := 2005) hX dL_law_2000 (by decide) (fun _ => ?_) (fun z => absurd ((lg_cmp_eq _ _).mpr (hval c0)) z)
    refine r_goto (tgt := 2758) hX dL_law_2005 (by decide) ?_
    exact J.junk (K _ _ hfin) (by repeat first | exact trivial | refine ⟨rfl, ?_⟩)
set_option maxHeartbeats 4000000 in
set_option maxRecDepth 20000 in
theorem law_33 {X : Cx} {b L : Nat} {xs : Nat → Int32} (hX : okL G base X) (hnc : ncX X) (hsc : scX X base b L xs) : Case G base X b L xs 2008 := by
  intro M x r o T i cs sl σ h hT hi hL9 hcs hsl K
  show J G base X cs sl M 2008 (lcs b x r o i) []
  refine r_aload_n hX dL_law_2008 rfl ?_
  refine r_aload_n hX dL_law_2009 rfl ?_
  refine r_iload hX dL_law_2010 rfl ?_
  refine r_iconst (v := nI 1) hX dL_law_2012 (by decide) ?_
  refine rn_iadd hX dL_law_2013 rfl rfl ?_
  refine r_sld hX hsc dL_law_2014 (by omega) hL9 ?_
  refine r_aload_n hX dL_law_2015 rfl ?_
  refine r_callH (As := [.ref x, .int (xs (i + 1)), .ref o]) (rest := []) hX hnc dL_law_2016 IH_lastReceipt ml_L_255 rfl (t_L_lastReceipt h.lx h.ci h.gs.1 (by omega) h.so h.xo h.nt) (by decide) hcs hsl (by decide) rfl (Nat.le_of_ble_eq_true rfl) (fun v N hp => ?_) (fun E N hp => by obtain ⟨kk, h1, -⟩ := hp; cases h1)
  obtain ⟨kk, hv, hk1, hk2, hk3, hk4, hCN, hr⟩ := hp
  cases hv
  have hLN := h.l11 hk2
  have hRN := h.ri hk4
  refine r_istore5 hX dL_law_2019 rfl ?_
  refine r_aload_n hX dL_law_2021 rfl ?_
  refine r_aload_n hX dL_law_2022 rfl ?_
  refine r_iload hX dL_law_2023 rfl ?_
  refine r_iconst (v := nI 1) hX dL_law_2025 (by decide) ?_
  refine rn_iadd hX dL_law_2026 rfl rfl ?_
  refine r_sld hX hsc dL_law_2027 (by omega) hL9 ?_
  refine r_vV1 hX dL_law_2028 IX11_lastReceipt ml_L_257 rfl (LX11_s hLN) rfl (t_X11_lastReceipt hLN hRN h.gs.1 (by omega)) (by decide) (by omega) (by omega) (by decide) rfl (Nat.le_of_ble_eq_true rfl) (fun v2 i2 hq => ?_)
  show J G base X _ _ (wI N i2) _ _ _
  obtain ⟨hfin, hth, hval⟩ := lawfin h hk1 hk2 hk3 hCN hr hq (h.gs.mono (show T ≤ T + 168 by omega))
  refine r_istore6 hX dL_law_2031 rfl ?_
  refine r_aload_n hX dL_law_2033 rfl ?_
  refine r_cV0 hX dL_law_2034 IX11_thrown ml_L_153 rfl (LX11_s hLN) rfl (t_X11_thrown (M := wI N i2) hLN) (by decide) (by omega) (by omega) (by decide) rfl (Nat.le_of_ble_eq_true rfl) ?_
  refine r_iload hX dL_law_2037 rfl ?_
  refine r_icmp_eq (tgt := 2044) hX dL_law_2039 (by decide) (fun _ => ?_) (fun z => absurd hth z)
  refine r_iload hX dL_law_2044 rfl ?_
  refine r_if_ne (tgt := 2061) hX dL_law_2046 (by decide) (fun _ => ?_) (fun c0 => ?_)
  · refine r_goto (tgt := 2758) hX dL_law_2061 (by decide) ?_
    exact J.junk (K _ _ hfin) (by repeat first | exact trivial | refine ⟨rfl, ?_⟩)
  · refine r_aload_n hX dL_law_2049 rfl ?_
    refine r_iconst (v := nI 0) hX dL_law_2050 (by decide) ?_
    refine r_lald (n := 1) hX dL_law_2051 (h.on hk2) (vp_in_nI (by omega) (by omega)) ?_
    rw [nI_clamp (by omega)]
    refine r_iload hX dL_law_2052 rfl ?_
    refine r_i2l hX dL_law_2054 ?_
    refine r_lcmp hX dL_law_2055 ?_
    refine r_if_eq (tgt := 2061) hX dL_law_2056 (by decide) (fun _ => ?_) (fun z => absurd ((lg_cmp_eq _ _).mpr (hval c0)) z)
    refine r_goto (tgt := 2758) hX dL_law_2061 (by decide) ?_
    exact J.junk (K _ _ hfin) (by repeat first | exact trivial | refine ⟨rfl, ?_⟩)
set_option maxHeartbeats 4000000 in
set_option maxRecDepth 20000 in
theorem law_34 {X : Cx} {b L : Nat} {xs : Nat → Int32} (hX : okL G base X) (hnc : ncX X) (hsc : scX X base b L xs) : Case G base X b L xs 2064 := by
  intro M x r o T i cs sl σ h hT hi hL9 hcs hsl K
  show J G base X cs sl M 2064 (lcs b x r o i) []
  refine r_aload_n hX dL_law_2064 rfl ?_
  refine r_aload_n hX dL_law_2065 rfl ?_
  refine r_iload hX dL_law_2066 rfl ?_
  refine r_iconst (v := nI 1) hX dL_law_2068 (by decide) ?_
  refine rn_iadd hX dL_law_2069 rfl rfl ?_
  refine r_sld hX hsc dL_law_2070 (by omega) hL9 ?_
  refine r_aload_n hX dL_law_2071 rfl ?_
  refine r_iload hX dL_law_2072 rfl ?_
  refine r_iconst (v := nI 2) hX dL_law_2074 (by decide) ?_
  refine rn_iadd hX dL_law_2075 rfl rfl ?_
  refine r_sld hX hsc dL_law_2076 (by omega) hL9 ?_
  refine r_aload_n hX dL_law_2077 rfl ?_
  refine r_callH (As := [.ref x, .int (xs (i + 1)), .int (xs (i + 2)), .ref o]) (rest := []) hX hnc dL_law_2078 IH_lostSack ml_L_258 rfl (t_L_lostSack h.lx h.ci h.gs.1 (by omega) h.so h.xo h.nt) (by decide) hcs hsl (by decide) rfl (Nat.le_of_ble_eq_true rfl) (fun v N hp => ?_) (fun E N hp => by obtain ⟨kk, h1, -⟩ := hp; cases h1)
  obtain ⟨kk, hv, hk1, hk2, hk3, hk4, hCN, hr⟩ := hp
  cases hv
  have hLN := h.l11 hk2
  have hRN := h.ri hk4
  refine r_istore5 hX dL_law_2081 rfl ?_
  refine r_aload_n hX dL_law_2083 rfl ?_
  refine r_aload_n hX dL_law_2084 rfl ?_
  refine r_iload hX dL_law_2085 rfl ?_
  refine r_iconst (v := nI 1) hX dL_law_2087 (by decide) ?_
  refine rn_iadd hX dL_law_2088 rfl rfl ?_
  refine r_sld hX hsc dL_law_2089 (by omega) hL9 ?_
  refine r_aload_n hX dL_law_2090 rfl ?_
  refine r_iload hX dL_law_2091 rfl ?_
  refine r_iconst (v := nI 2) hX dL_law_2093 (by decide) ?_
  refine rn_iadd hX dL_law_2094 rfl rfl ?_
  refine r_sld hX hsc dL_law_2095 (by omega) hL9 ?_
  refine r_vV2 hX dL_law_2096 IX11_lostSack ml_L_260 rfl (LX11_s hLN) rfl (t_X11_lostSack hLN hRN h.gs.1 (by omega)) (by decide) (by omega) (by omega) (by decide) rfl (Nat.le_of_ble_eq_true rfl) (fun v2 i2 hq => ?_)
  show J G base X _ _ (wI N i2) _ _ _
  obtain ⟨hfin, hth, hval⟩ := lawfin h hk1 hk2 hk3 hCN hr hq (h.gs.mono (show T ≤ T + 168 by omega))
  refine r_istore6 hX dL_law_2099 rfl ?_
  refine r_aload_n hX dL_law_2101 rfl ?_
  refine r_cV0 hX dL_law_2102 IX11_thrown ml_L_153 rfl (LX11_s hLN) rfl (t_X11_thrown (M := wI N i2) hLN) (by decide) (by omega) (by omega) (by decide) rfl (Nat.le_of_ble_eq_true rfl) ?_
  refine r_iload hX dL_law_2105 rfl ?_
  refine r_icmp_eq (tgt := 2112) hX dL_law_2107 (by decide) (fun _ => ?_) (fun z => absurd hth z)
  refine r_iload hX dL_law_2112 rfl ?_
  refine r_if_ne (tgt := 2129) hX dL_law_2114 (by decide) (fun _ => ?_) (fun c0 => ?_)
  · refine r_goto (tgt := 2758) hX dL_law_2129 (by decide) ?_
    exact J.junk (K _ _ hfin) (by repeat first | exact trivial | refine ⟨rfl, ?_⟩)
  · refine r_aload_n hX dL_law_2117 rfl ?_
    refine r_iconst (v := nI 0) hX dL_law_2118 (by decide) ?_
    refine r_lald (n := 1) hX dL_law_2119 (h.on hk2) (vp_in_nI (by omega) (by omega)) ?_
    rw [nI_clamp (by omega)]
    refine r_iload hX dL_law_2120 rfl ?_
    refine r_i2l hX dL_law_2122 ?_
    refine r_lcmp hX dL_law_2123 ?_
    refine r_if_eq (tgt := 2129) hX dL_law_2124 (by decide) (fun _ => ?_) (fun z => absurd ((lg_cmp_eq _ _).mpr (hval c0)) z)
    refine r_goto (tgt := 2758) hX dL_law_2129 (by decide) ?_
    exact J.junk (K _ _ hfin) (by repeat first | exact trivial | refine ⟨rfl, ?_⟩)
set_option maxHeartbeats 4000000 in
set_option maxRecDepth 20000 in
theorem law_35 {X : Cx} {b L : Nat} {xs : Nat → Int32} (hX : okL G base X) (hnc : ncX X) (hsc : scX X base b L xs) : Case G base X b L xs 2132 := by
  intro M x r o T i cs sl σ h hT hi hL9 hcs hsl K
  show J G base X cs sl M 2132 (lcs b x r o i) []
  refine r_aload_n hX dL_law_2132 rfl ?_
  refine r_aload_n hX dL_law_2133 rfl ?_
  refine r_iload hX dL_law_2134 rfl ?_
  refine r_iconst (v := nI 1) hX dL_law_2136 (by decide) ?_
  refine rn_iadd hX dL_law_2137 rfl rfl ?_
  refine r_sld hX hsc dL_law_2138 (by omega) hL9 ?_
  refine r_aload_n hX dL_law_2139 rfl ?_
  refine r_iload hX dL_law_2140 rfl ?_
  refine r_iconst (v := nI 2) hX dL_law_2142 (by decide) ?_
  refine rn_iadd hX dL_law_2143 rfl rfl ?_
  refine r_sld hX hsc dL_law_2144 (by omega) hL9 ?_
  refine r_aload_n hX dL_law_2145 rfl ?_
  refine r_iload hX dL_law_2146 rfl ?_
  refine r_iconst (v := nI 3) hX dL_law_2148 (by decide) ?_
  refine rn_iadd hX dL_law_2149 rfl rfl ?_
  refine r_sld hX hsc dL_law_2150 (by omega) hL9 ?_
  refine r_aload_n hX dL_law_2151 rfl ?_
  refine r_callH (As := [.ref x, .int (xs (i + 1)), .int (xs (i + 2)), .int (xs (i + 3)), .ref o]) (rest := []) hX hnc dL_law_2152 IH_post ml_L_261 rfl (t_L_post h.lx h.ci h.gs.1 (by omega) h.so h.xo h.nt) (by decide) hcs hsl (by decide) rfl (Nat.le_of_ble_eq_true rfl) (fun v N hp => ?_) (fun E N hp => by obtain ⟨kk, h1, -⟩ := hp; cases h1)
  obtain ⟨kk, hv, hk1, hk2, hk3, hk4, hCN, hr⟩ := hp
  cases hv
  have hLN := h.l11 hk2
  have hRN := h.ri hk4
  refine r_istore5 hX dL_law_2155 rfl ?_
  refine r_aload_n hX dL_law_2157 rfl ?_
  refine r_aload_n hX dL_law_2158 rfl ?_
  refine r_iload hX dL_law_2159 rfl ?_
  refine r_iconst (v := nI 1) hX dL_law_2161 (by decide) ?_
  refine rn_iadd hX dL_law_2162 rfl rfl ?_
  refine r_sld hX hsc dL_law_2163 (by omega) hL9 ?_
  refine r_aload_n hX dL_law_2164 rfl ?_
  refine r_iload hX dL_law_2165 rfl ?_
  refine r_iconst (v := nI 2) hX dL_law_2167 (by decide) ?_
  refine rn_iadd hX dL_law_2168 rfl rfl ?_
  refine r_sld hX hsc dL_law_2169 (by omega) hL9 ?_
  refine r_aload_n hX dL_law_2170 rfl ?_
  refine r_iload hX dL_law_2171 rfl ?_
  refine r_iconst (v := nI 3) hX dL_law_2173 (by decide) ?_
  refine rn_iadd hX dL_law_2174 rfl rfl ?_
  refine r_sld hX hsc dL_law_2175 (by omega) hL9 ?_
  refine r_vV3 hX dL_law_2176 IX11_post ml_L_263 rfl (LX11_s hLN) rfl (t_X11_post hLN hRN h.gs.1 (by omega)) (by decide) (by omega) (by omega) (by decide) rfl (Nat.le_of_ble_eq_true rfl) (fun v2 i2 hq => ?_)
  show J G base X _ _ (wI N i2) _ _ _
  obtain ⟨hfin, hth, hval⟩ := lawfin h hk1 hk2 hk3 hCN hr hq (h.gs.post.mono (show T ≤ T + 168 by omega))
  refine r_istore6 hX dL_law_2179 rfl ?_
  refine r_aload_n hX dL_law_2181 rfl ?_
  refine r_cV0 hX dL_law_2182 IX11_thrown ml_L_153 rfl (LX11_s hLN) rfl (t_X11_thrown (M := wI N i2) hLN) (by decide) (by omega) (by omega) (by decide) rfl (Nat.le_of_ble_eq_true rfl) ?_
  refine r_iload hX dL_law_2185 rfl ?_
  refine r_icmp_eq (tgt := 2192) hX dL_law_2187 (by decide) (fun _ => ?_) (fun z => absurd hth z)
  refine r_iload hX dL_law_2192 rfl ?_
  refine r_if_ne (tgt := 2209) hX dL_law_2194 (by decide) (fun _ => ?_) (fun c0 => ?_)
  · refine r_goto (tgt := 2758) hX dL_law_2209 (by decide) ?_
    exact J.junk (K _ _ hfin) (by repeat first | exact trivial | refine ⟨rfl, ?_⟩)
  · refine r_aload_n hX dL_law_2197 rfl ?_
    refine r_iconst (v := nI 0) hX dL_law_2198 (by decide) ?_
    refine r_lald (n := 1) hX dL_law_2199 (h.on hk2) (vp_in_nI (by omega) (by omega)) ?_
    rw [nI_clamp (by omega)]
    refine r_iload hX dL_law_2200 rfl ?_
    refine r_i2l hX dL_law_2202 ?_
    refine r_lcmp hX dL_law_2203 ?_
    refine r_if_eq (tgt := 2209) hX dL_law_2204 (by decide) (fun _ => ?_) (fun z => absurd ((lg_cmp_eq _ _).mpr (hval c0)) z)
    refine r_goto (tgt := 2758) hX dL_law_2209 (by decide) ?_
    exact J.junk (K _ _ hfin) (by repeat first | exact trivial | refine ⟨rfl, ?_⟩)
set_option maxHeartbeats 4000000 in
set_option maxRecDepth 20000 in
theorem law_36 {X : Cx} {b L : Nat} {xs : Nat → Int32} (hX : okL G base X) (hnc : ncX X) (hsc : scX X base b L xs) : Case G base X b L xs 2212 := by
  intro M x r o T i cs sl σ h hT hi hL9 hcs hsl K
  show J G base X cs sl M 2212 (lcs b x r o i) []
  refine r_aload_n hX dL_law_2212 rfl ?_
  refine r_aload_n hX dL_law_2213 rfl ?_
  refine r_iload hX dL_law_2214 rfl ?_
  refine r_iconst (v := nI 1) hX dL_law_2216 (by decide) ?_
  refine rn_iadd hX dL_law_2217 rfl rfl ?_
  refine r_sld hX hsc dL_law_2218 (by omega) hL9 ?_
  refine r_aload_n hX dL_law_2219 rfl ?_
  refine r_callH (As := [.ref x, .int (xs (i + 1)), .ref o]) (rest := []) hX hnc dL_law_2220 IH_run ml_L_264 rfl (t_L_run h.lx h.ci h.gs.1 (by omega) h.so h.xo h.nt) (by decide) hcs hsl (by decide) rfl (Nat.le_of_ble_eq_true rfl) (fun v N hp => ?_) (fun E N hp => by obtain ⟨kk, h1, -⟩ := hp; cases h1)
  obtain ⟨kk, hv, hk1, hk2, hk3, hk4, hCN, hr⟩ := hp
  cases hv
  have hLN := h.l11 hk2
  have hRN := h.ri hk4
  refine r_istore5 hX dL_law_2223 rfl ?_
  refine r_aload_n hX dL_law_2225 rfl ?_
  refine r_aload_n hX dL_law_2226 rfl ?_
  refine r_iload hX dL_law_2227 rfl ?_
  refine r_iconst (v := nI 1) hX dL_law_2229 (by decide) ?_
  refine rn_iadd hX dL_law_2230 rfl rfl ?_
  refine r_sld hX hsc dL_law_2231 (by omega) hL9 ?_
  refine r_vV1 hX dL_law_2232 IX11_run ml_L_266 rfl (LX11_s hLN) rfl (t_X11_run hLN hRN h.gs.1 (by omega)) (by decide) (by omega) (by omega) (by decide) rfl (Nat.le_of_ble_eq_true rfl) (fun v2 i2 hq => ?_)
  show J G base X _ _ (wI N i2) _ _ _
  obtain ⟨hfin, hth, hval⟩ := lawfin h hk1 hk2 hk3 hCN hr hq (h.gs.run (by omega))
  refine r_istore6 hX dL_law_2235 rfl ?_
  refine r_aload_n hX dL_law_2237 rfl ?_
  refine r_cV0 hX dL_law_2238 IX11_thrown ml_L_153 rfl (LX11_s hLN) rfl (t_X11_thrown (M := wI N i2) hLN) (by decide) (by omega) (by omega) (by decide) rfl (Nat.le_of_ble_eq_true rfl) ?_
  refine r_iload hX dL_law_2241 rfl ?_
  refine r_icmp_eq (tgt := 2248) hX dL_law_2243 (by decide) (fun _ => ?_) (fun z => absurd hth z)
  refine r_iload hX dL_law_2248 rfl ?_
  refine r_if_ne (tgt := 2265) hX dL_law_2250 (by decide) (fun _ => ?_) (fun c0 => ?_)
  · refine r_goto (tgt := 2758) hX dL_law_2265 (by decide) ?_
    exact J.junk (K _ _ hfin) (by repeat first | exact trivial | refine ⟨rfl, ?_⟩)
  · refine r_aload_n hX dL_law_2253 rfl ?_
    refine r_iconst (v := nI 0) hX dL_law_2254 (by decide) ?_
    refine r_lald (n := 1) hX dL_law_2255 (h.on hk2) (vp_in_nI (by omega) (by omega)) ?_
    rw [nI_clamp (by omega)]
    refine r_iload hX dL_law_2256 rfl ?_
    refine r_i2l hX dL_law_2258 ?_
    refine r_lcmp hX dL_law_2259 ?_
    refine r_if_eq (tgt := 2265) hX dL_law_2260 (by decide) (fun _ => ?_) (fun z => absurd ((lg_cmp_eq _ _).mpr (hval c0)) z)
    refine r_goto (tgt := 2758) hX dL_law_2265 (by decide) ?_
    exact J.junk (K _ _ hfin) (by repeat first | exact trivial | refine ⟨rfl, ?_⟩)
set_option maxHeartbeats 4000000 in
set_option maxRecDepth 20000 in
theorem law_37 {X : Cx} {b L : Nat} {xs : Nat → Int32} (hX : okL G base X) (hnc : ncX X) (hsc : scX X base b L xs) : Case G base X b L xs 2268 := by
  intro M x r o T i cs sl σ h hT hi hL9 hcs hsl K
  show J G base X cs sl M 2268 (lcs b x r o i) []
  refine r_aload_n hX dL_law_2268 rfl ?_
  refine r_aload_n hX dL_law_2269 rfl ?_
  refine r_iload hX dL_law_2270 rfl ?_
  refine r_iconst (v := nI 1) hX dL_law_2272 (by decide) ?_
  refine rn_iadd hX dL_law_2273 rfl rfl ?_
  refine r_sld hX hsc dL_law_2274 (by omega) hL9 ?_
  refine r_aload_n hX dL_law_2275 rfl ?_
  refine r_callH (As := [.ref x, .int (xs (i + 1)), .ref o]) (rest := []) hX hnc dL_law_2276 IH_lose ml_L_267 rfl (t_L_lose h.lx h.ci h.gs.1 (by omega) h.so h.xo h.nt) (by decide) hcs hsl (by decide) rfl (Nat.le_of_ble_eq_true rfl) (fun v N hp => ?_) (fun E N hp => by obtain ⟨kk, h1, -⟩ := hp; cases h1)
  obtain ⟨kk, hv, hk1, hk2, hk3, hk4, hCN, hr⟩ := hp
  cases hv
  have hLN := h.l11 hk2
  have hRN := h.ri hk4
  refine r_istore5 hX dL_law_2279 rfl ?_
  refine r_aload_n hX dL_law_2281 rfl ?_
  refine r_aload_n hX dL_law_2282 rfl ?_
  refine r_iload hX dL_law_2283 rfl ?_
  refine r_iconst (v := nI 1) hX dL_law_2285 (by decide) ?_
  refine rn_iadd hX dL_law_2286 rfl rfl ?_
  refine r_sld hX hsc dL_law_2287 (by omega) hL9 ?_
  refine r_vV1 hX dL_law_2288 IX11_lose ml_L_269 rfl (LX11_s hLN) rfl (t_X11_lose hLN hRN h.gs.1 (by omega)) (by decide) (by omega) (by omega) (by decide) rfl (Nat.le_of_ble_eq_true rfl) (fun v2 i2 hq => ?_)
  show J G base X _ _ (wI N i2) _ _ _
  obtain ⟨hfin, hth, hval⟩ := lawfin h hk1 hk2 hk3 hCN hr hq (h.gs.lose.mono (show T ≤ T + 168 by omega))
  refine r_istore6 hX dL_law_2291 rfl ?_
  refine r_aload_n hX dL_law_2293 rfl ?_
  refine r_cV0 hX dL_law_2294 IX11_thrown ml_L_153 rfl (LX11_s hLN) rfl (t_X11_thrown (M := wI N i2) hLN) (by decide) (by omega) (by omega) (by decide) rfl (Nat.le_of_ble_eq_true rfl) ?_
  refine r_iload hX dL_law_2297 rfl ?_
  refine r_icmp_eq (tgt := 2304) hX dL_law_2299 (by decide) (fun _ => ?_) (fun z => absurd hth z)
  refine r_iload hX dL_law_2304 rfl ?_
  refine r_if_ne (tgt := 2321) hX dL_law_2306 (by decide) (fun _ => ?_) (fun c0 => ?_)
  · refine r_goto (tgt := 2758) hX dL_law_2321 (by decide) ?_
    exact J.junk (K _ _ hfin) (by repeat first | exact trivial | refine ⟨rfl, ?_⟩)
  · refine r_aload_n hX dL_law_2309 rfl ?_
    refine r_iconst (v := nI 0) hX dL_law_2310 (by decide) ?_
    refine r_lald (n := 1) hX dL_law_2311 (h.on hk2) (vp_in_nI (by omega) (by omega)) ?_
    rw [nI_clamp (by omega)]
    refine r_iload hX dL_law_2312 rfl ?_
    refine r_i2l hX dL_law_2314 ?_
    refine r_lcmp hX dL_law_2315 ?_
    refine r_if_eq (tgt := 2321) hX dL_law_2316 (by decide) (fun _ => ?_) (fun z => absurd ((lg_cmp_eq _ _).mpr (hval c0)) z)
    refine r_goto (tgt := 2758) hX dL_law_2321 (by decide) ?_
    exact J.junk (K _ _ hfin) (by repeat first | exact trivial | refine ⟨rfl, ?_⟩)
