/-! the law: its cases -/
section
variable {κ : Kx} {G : GT} {nm : String} {ret : Option FieldType} {a b n : Nat} {Q : State → Prop} {bb L : Nat} {xs : Nat → Int32} {i : Int} {q : Nat → Nat → Nat} {J : Nat → Bool} {T : Nat → Ob} {qm : Nat → Nat} {M : Ob}
theorem lw_sum (C : Cx κ G (yL nm) code ret 4 room_1) (hX : Sc κ bb L xs) (h : Inv2 n T J M) (hn : n + 1 ≤ 512) (hi : 0 ≤ i) (hL : i + 6 < L) (hL2 : L ≤ 3584) (ha : a ≤ 600000) (hb : b ≤ 7302250) (K : ∀ T' M', Inv2 (n + 1) T' J M' → X κ G 4 (WL G q J T' qm M') 2535 (lvL bb (q 11 31) (qm 31) i) [] a b Q) : X κ G 4 (WL G q J T qm M) 1852 (lvL bb (q 11 31) (qm 31) i) [] a b Q := by
  have e : Eqv (fX7_sum T (xi xs (i + 1).toNat) (xi xs (i + 2).toNat) (xi xs (i + 3).toNat) (xi xs (i + 4).toNat)) (fX8_sum M (xi xs (i + 1).toNat) (xi xs (i + 2).toNat) (xi xs (i + 3).toNat) (xi xs (i + 4).toNat)) := op_sum h.1 (xi_r xs _) (xi_r xs _) (xi_r xs _) (xi_r xs _)
  obtain ⟨r, e1, e2⟩ := e
  refine X.aload_n C dL_1852 rfl 2 rfl ?_
  refine X.arg (k := 1) C hX hi (by decide) (by omega) hL2 dL_1853 dL_1854 dL_1855 dL_1856 dL_1857 ?_
  refine X.arg (k := 2) C hX hi (by decide) (by omega) hL2 dL_1858 dL_1859 dL_1860 dL_1861 dL_1862 ?_
  refine X.arg (k := 3) C hX hi (by decide) (by omega) hL2 dL_1863 dL_1864 dL_1865 dL_1866 dL_1867 ?_
  refine X.arg (k := 4) C hX hi (by decide) (by omega) hL2 dL_1868 dL_1869 dL_1870 dL_1871 dL_1872 ?_
  refine X.callC (T' := T) (r := r) (As := [vi (xi xs (i + 1).toNat), vi (xi xs (i + 2).toNat), vi (xi xs (i + 3).toNat), vi (xi xs (i + 4).toNat)]) (rest := []) C dL_1873 ml_L_211 mX7_sum (kX7_sum q T (xi xs (i + 1).toNat) (xi xs (i + 2).toNat) (xi xs (i + 3).toNat) (xi xs (i + 4).toNat) _ e1) (fun _ _ => rfl) rfl rfl rfl rfl rfl ha hb ?_
  refine X.aload_n C dL_1876 rfl 1 rfl ?_
  refine X.arg (k := 1) C hX hi (by decide) (by omega) hL2 dL_1877 dL_1878 dL_1879 dL_1880 dL_1881 ?_
  refine X.arg (k := 2) C hX hi (by decide) (by omega) hL2 dL_1882 dL_1883 dL_1884 dL_1885 dL_1886 ?_
  refine X.arg (k := 3) C hX hi (by decide) (by omega) hL2 dL_1887 dL_1888 dL_1889 dL_1890 dL_1891 ?_
  refine X.arg (k := 4) C hX hi (by decide) (by omega) hL2 dL_1892 dL_1893 dL_1894 dL_1895 dL_1896 ?_
  refine X.callM (M' := M) (r := r) (As := [vi (xi xs (i + 1).toNat), vi (xi xs (i + 2).toNat), vi (xi xs (i + 3).toNat), vi (xi xs (i + 4).toNat)]) (rest := [vi r]) C dL_1897 ml_L_214 mX8_sum (kX8_sum qm M (xi xs (i + 1).toNat) (xi xs (i + 2).toNat) (xi xs (i + 3).toNat) (xi xs (i + 4).toNat) _ e2) rfl rfl rfl rfl rfl ha hb ?_
  exact X.same (tgt := 2535) C dL_1900 (by decide) (K T M (h.next hn))
theorem lw_wettest (C : Cx κ G (yL nm) code ret 4 room_1) (hX : Sc κ bb L xs) (h : Inv2 n T J M) (hn : n + 1 ≤ 512) (hi : 0 ≤ i) (hL : i + 6 < L) (hL2 : L ≤ 3584) (ha : a ≤ 600000) (hb : b ≤ 7302250) (K : ∀ T' M', Inv2 (n + 1) T' J M' → X κ G 4 (WL G q J T' qm M') 2535 (lvL bb (q 11 31) (qm 31) i) [] a b Q) : X κ G 4 (WL G q J T qm M) 1905 (lvL bb (q 11 31) (qm 31) i) [] a b Q := by
  have e : Eqv (fX7_wettest T (xi xs (i + 1).toNat)) (fX8_wettest M (xi xs (i + 1).toNat)) := op_wettest h.1 (xi_r xs _)
  obtain ⟨r, e1, e2⟩ := e
  refine X.aload_n C dL_1905 rfl 2 rfl ?_
  refine X.arg (k := 1) C hX hi (by decide) (by omega) hL2 dL_1906 dL_1907 dL_1908 dL_1909 dL_1910 ?_
  refine X.callC (T' := T) (r := r) (As := [vi (xi xs (i + 1).toNat)]) (rest := []) C dL_1911 ml_L_215 mX7_wettest (kX7_wettest q T (xi xs (i + 1).toNat) _ e1) (fun _ _ => rfl) rfl rfl rfl rfl rfl ha hb ?_
  refine X.aload_n C dL_1914 rfl 1 rfl ?_
  refine X.arg (k := 1) C hX hi (by decide) (by omega) hL2 dL_1915 dL_1916 dL_1917 dL_1918 dL_1919 ?_
  refine X.callM (M' := M) (r := r) (As := [vi (xi xs (i + 1).toNat)]) (rest := [vi r]) C dL_1920 ml_L_218 mX8_wettest (kX8_wettest qm M (xi xs (i + 1).toNat) _ e2) rfl rfl rfl rfl rfl ha hb ?_
  exact X.same (tgt := 2535) C dL_1923 (by decide) (K T M (h.next hn))
theorem lw_small (C : Cx κ G (yL nm) code ret 4 room_1) (hX : Sc κ bb L xs) (h : Inv2 n T J M) (hn : n + 1 ≤ 512) (hi : 0 ≤ i) (hL : i + 6 < L) (hL2 : L ≤ 3584) (ha : a ≤ 600000) (hb : b ≤ 7302250) (K : ∀ T' M', Inv2 (n + 1) T' J M' → X κ G 4 (WL G q J T' qm M') 2535 (lvL bb (q 11 31) (qm 31) i) [] a b Q) : X κ G 4 (WL G q J T qm M) 1928 (lvL bb (q 11 31) (qm 31) i) [] a b Q := by
  have e : Eqv (fX7_small T (xi xs (i + 1).toNat) (xi xs (i + 2).toNat) (xi xs (i + 3).toNat)) (fX8_small M (xi xs (i + 1).toNat) (xi xs (i + 2).toNat) (xi xs (i + 3).toNat)) := op_small h.1 (xi_r xs _) (xi_r xs _) (xi_r xs _)
  obtain ⟨r, e1, e2⟩ := e
  refine X.aload_n C dL_1928 rfl 2 rfl ?_
  refine X.arg (k := 1) C hX hi (by decide) (by omega) hL2 dL_1929 dL_1930 dL_1931 dL_1932 dL_1933 ?_
  refine X.arg (k := 2) C hX hi (by decide) (by omega) hL2 dL_1934 dL_1935 dL_1936 dL_1937 dL_1938 ?_
  refine X.arg (k := 3) C hX hi (by decide) (by omega) hL2 dL_1939 dL_1940 dL_1941 dL_1942 dL_1943 ?_
  refine X.callC (T' := T) (r := r) (As := [vi (xi xs (i + 1).toNat), vi (xi xs (i + 2).toNat), vi (xi xs (i + 3).toNat)]) (rest := []) C dL_1944 ml_L_219 mX7_small (kX7_small q T (xi xs (i + 1).toNat) (xi xs (i + 2).toNat) (xi xs (i + 3).toNat) _ e1) (fun _ _ => rfl) rfl rfl rfl rfl rfl ha hb ?_
  refine X.aload_n C dL_1947 rfl 1 rfl ?_
  refine X.arg (k := 1) C hX hi (by decide) (by omega) hL2 dL_1948 dL_1949 dL_1950 dL_1951 dL_1952 ?_
  refine X.arg (k := 2) C hX hi (by decide) (by omega) hL2 dL_1953 dL_1954 dL_1955 dL_1956 dL_1957 ?_
  refine X.arg (k := 3) C hX hi (by decide) (by omega) hL2 dL_1958 dL_1959 dL_1960 dL_1961 dL_1962 ?_
  refine X.callM (M' := M) (r := r) (As := [vi (xi xs (i + 1).toNat), vi (xi xs (i + 2).toNat), vi (xi xs (i + 3).toNat)]) (rest := [vi r]) C dL_1963 ml_L_222 mX8_small (kX8_small qm M (xi xs (i + 1).toNat) (xi xs (i + 2).toNat) (xi xs (i + 3).toNat) _ e2) rfl rfl rfl rfl rfl ha hb ?_
  exact X.same (tgt := 2535) C dL_1966 (by decide) (K T M (h.next hn))
theorem lw_best (C : Cx κ G (yL nm) code ret 4 room_1) (hX : Sc κ bb L xs) (h : Inv2 n T J M) (hn : n + 1 ≤ 512) (hi : 0 ≤ i) (hL : i + 6 < L) (hL2 : L ≤ 3584) (ha : a ≤ 600000) (hb : b ≤ 7302250) (K : ∀ T' M', Inv2 (n + 1) T' J M' → X κ G 4 (WL G q J T' qm M') 2535 (lvL bb (q 11 31) (qm 31) i) [] a b Q) : X κ G 4 (WL G q J T qm M) 1971 (lvL bb (q 11 31) (qm 31) i) [] a b Q := by
  have e : Nx n T J (fX7_best T (xi xs (i + 1).toNat)) (fX8_best M (xi xs (i + 1).toNat)) := (op_best h.1 (xi_r xs _) : Ef T M (fX7_best T (xi xs (i + 1).toNat)) (fX8_best M (xi xs (i + 1).toNat))).nx h hn
  obtain ⟨r, T', M', e1, e2, e3, e4⟩ := e
  refine X.aload_n C dL_1971 rfl 2 rfl ?_
  refine X.arg (k := 1) C hX hi (by decide) (by omega) hL2 dL_1972 dL_1973 dL_1974 dL_1975 dL_1976 ?_
  refine X.callC (T' := T') (r := r) (As := [vi (xi xs (i + 1).toNat)]) (rest := []) C dL_1977 ml_L_223 mX7_best (kX7_best q T (xi xs (i + 1).toNat) _ e1) e4 rfl rfl rfl rfl rfl ha hb ?_
  refine X.aload_n C dL_1980 rfl 1 rfl ?_
  refine X.arg (k := 1) C hX hi (by decide) (by omega) hL2 dL_1981 dL_1982 dL_1983 dL_1984 dL_1985 ?_
  refine X.callM (M' := M') (r := r) (As := [vi (xi xs (i + 1).toNat)]) (rest := [vi r]) C dL_1986 ml_L_226 mX8_best (kX8_best qm M (xi xs (i + 1).toNat) _ e2) rfl rfl rfl rfl rfl ha hb ?_
  exact X.same (tgt := 2535) C dL_1989 (by decide) (K T' M' e3)
theorem lw_stand (C : Cx κ G (yL nm) code ret 4 room_1) (hX : Sc κ bb L xs) (h : Inv2 n T J M) (hn : n + 1 ≤ 512) (hi : 0 ≤ i) (hL : i + 6 < L) (hL2 : L ≤ 3584) (ha : a ≤ 600000) (hb : b ≤ 7302250) (K : ∀ T' M', Inv2 (n + 1) T' J M' → X κ G 4 (WL G q J T' qm M') 2535 (lvL bb (q 11 31) (qm 31) i) [] a b Q) : X κ G 4 (WL G q J T qm M) 1994 (lvL bb (q 11 31) (qm 31) i) [] a b Q := by
  have e : Nx n T J (fX7_stand T (xi xs (i + 1).toNat) (xi xs (i + 2).toNat)) (fX8_stand M (xi xs (i + 1).toNat) (xi xs (i + 2).toNat)) := (op_stand h.1 (xi_r xs _) (xi_r xs _) : Ef T M (fX7_stand T (xi xs (i + 1).toNat) (xi xs (i + 2).toNat)) (fX8_stand M (xi xs (i + 1).toNat) (xi xs (i + 2).toNat))).nx h hn
  obtain ⟨r, T', M', e1, e2, e3, e4⟩ := e
  refine X.aload_n C dL_1994 rfl 2 rfl ?_
  refine X.arg (k := 1) C hX hi (by decide) (by omega) hL2 dL_1995 dL_1996 dL_1997 dL_1998 dL_1999 ?_
  refine X.arg (k := 2) C hX hi (by decide) (by omega) hL2 dL_2000 dL_2001 dL_2002 dL_2003 dL_2004 ?_
  refine X.callC (T' := T') (r := r) (As := [vi (xi xs (i + 1).toNat), vi (xi xs (i + 2).toNat)]) (rest := []) C dL_2005 ml_L_227 mX7_stand (kX7_stand q T (xi xs (i + 1).toNat) (xi xs (i + 2).toNat) _ e1) e4 rfl rfl rfl rfl rfl ha hb ?_
  refine X.aload_n C dL_2008 rfl 1 rfl ?_
  refine X.arg (k := 1) C hX hi (by decide) (by omega) hL2 dL_2009 dL_2010 dL_2011 dL_2012 dL_2013 ?_
  refine X.arg (k := 2) C hX hi (by decide) (by omega) hL2 dL_2014 dL_2015 dL_2016 dL_2017 dL_2018 ?_
  refine X.callM (M' := M') (r := r) (As := [vi (xi xs (i + 1).toNat), vi (xi xs (i + 2).toNat)]) (rest := [vi r]) C dL_2019 ml_L_230 mX8_stand (kX8_stand qm M (xi xs (i + 1).toNat) (xi xs (i + 2).toNat) _ e2) rfl rfl rfl rfl rfl ha hb ?_
  exact X.same (tgt := 2535) C dL_2022 (by decide) (K T' M' e3)
theorem lw_tall (C : Cx κ G (yL nm) code ret 4 room_1) (hX : Sc κ bb L xs) (h : Inv2 n T J M) (hn : n + 1 ≤ 512) (hi : 0 ≤ i) (hL : i + 6 < L) (hL2 : L ≤ 3584) (ha : a ≤ 600000) (hb : b ≤ 7302250) (K : ∀ T' M', Inv2 (n + 1) T' J M' → X κ G 4 (WL G q J T' qm M') 2535 (lvL bb (q 11 31) (qm 31) i) [] a b Q) : X κ G 4 (WL G q J T qm M) 2027 (lvL bb (q 11 31) (qm 31) i) [] a b Q := by
  have e : Nx n T J (fX7_tall T (xi xs (i + 1).toNat) (xi xs (i + 2).toNat)) (fX8_tall M (xi xs (i + 1).toNat) (xi xs (i + 2).toNat)) := (op_tall h.1 (xi_r xs _) (xi_r xs _) : Ef T M (fX7_tall T (xi xs (i + 1).toNat) (xi xs (i + 2).toNat)) (fX8_tall M (xi xs (i + 1).toNat) (xi xs (i + 2).toNat))).nx h hn
  obtain ⟨r, T', M', e1, e2, e3, e4⟩ := e
  refine X.aload_n C dL_2027 rfl 2 rfl ?_
  refine X.arg (k := 1) C hX hi (by decide) (by omega) hL2 dL_2028 dL_2029 dL_2030 dL_2031 dL_2032 ?_
  refine X.arg (k := 2) C hX hi (by decide) (by omega) hL2 dL_2033 dL_2034 dL_2035 dL_2036 dL_2037 ?_
  refine X.callC (T' := T') (r := r) (As := [vi (xi xs (i + 1).toNat), vi (xi xs (i + 2).toNat)]) (rest := []) C dL_2038 ml_L_231 mX7_tall (kX7_tall q T (xi xs (i + 1).toNat) (xi xs (i + 2).toNat) _ e1) e4 rfl rfl rfl rfl rfl ha hb ?_
  refine X.aload_n C dL_2041 rfl 1 rfl ?_
  refine X.arg (k := 1) C hX hi (by decide) (by omega) hL2 dL_2042 dL_2043 dL_2044 dL_2045 dL_2046 ?_
  refine X.arg (k := 2) C hX hi (by decide) (by omega) hL2 dL_2047 dL_2048 dL_2049 dL_2050 dL_2051 ?_
  refine X.callM (M' := M') (r := r) (As := [vi (xi xs (i + 1).toNat), vi (xi xs (i + 2).toNat)]) (rest := [vi r]) C dL_2052 ml_L_234 mX8_tall (kX8_tall qm M (xi xs (i + 1).toNat) (xi xs (i + 2).toNat) _ e2) rfl rfl rfl rfl rfl ha hb ?_
  exact X.same (tgt := 2535) C dL_2055 (by decide) (K T' M' e3)
theorem lw_pays (C : Cx κ G (yL nm) code ret 4 room_1) (hX : Sc κ bb L xs) (h : Inv2 n T J M) (hn : n + 1 ≤ 512) (hi : 0 ≤ i) (hL : i + 6 < L) (hL2 : L ≤ 3584) (ha : a ≤ 600000) (hb : b ≤ 7302250) (K : ∀ T' M', Inv2 (n + 1) T' J M' → X κ G 4 (WL G q J T' qm M') 2535 (lvL bb (q 11 31) (qm 31) i) [] a b Q) : X κ G 4 (WL G q J T qm M) 2060 (lvL bb (q 11 31) (qm 31) i) [] a b Q := by
  have e : Nx n T J (fX7_pays T (xi xs (i + 1).toNat) (xi xs (i + 2).toNat)) (fX8_pays M (xi xs (i + 1).toNat) (xi xs (i + 2).toNat)) := (op_pays h.1 (xi_r xs _) (xi_r xs _) : Ef T M (fX7_pays T (xi xs (i + 1).toNat) (xi xs (i + 2).toNat)) (fX8_pays M (xi xs (i + 1).toNat) (xi xs (i + 2).toNat))).nx h hn
  obtain ⟨r, T', M', e1, e2, e3, e4⟩ := e
  refine X.aload_n C dL_2060 rfl 2 rfl ?_
  refine X.arg (k := 1) C hX hi (by decide) (by omega) hL2 dL_2061 dL_2062 dL_2063 dL_2064 dL_2065 ?_
  refine X.arg (k := 2) C hX hi (by decide) (by omega) hL2 dL_2066 dL_2067 dL_2068 dL_2069 dL_2070 ?_
  refine X.callC (T' := T') (r := r) (As := [vi (xi xs (i + 1).toNat), vi (xi xs (i + 2).toNat)]) (rest := []) C dL_2071 ml_L_235 mX7_pays (kX7_pays q T (xi xs (i + 1).toNat) (xi xs (i + 2).toNat) _ e1) e4 rfl rfl rfl rfl rfl ha hb ?_
  refine X.aload_n C dL_2074 rfl 1 rfl ?_
  refine X.arg (k := 1) C hX hi (by decide) (by omega) hL2 dL_2075 dL_2076 dL_2077 dL_2078 dL_2079 ?_
  refine X.arg (k := 2) C hX hi (by decide) (by omega) hL2 dL_2080 dL_2081 dL_2082 dL_2083 dL_2084 ?_
  refine X.callM (M' := M') (r := r) (As := [vi (xi xs (i + 1).toNat), vi (xi xs (i + 2).toNat)]) (rest := [vi r]) C dL_2085 ml_L_238 mX8_pays (kX8_pays qm M (xi xs (i + 1).toNat) (xi xs (i + 2).toNat) _ e2) rfl rfl rfl rfl rfl ha hb ?_
  exact X.same (tgt := 2535) C dL_2088 (by decide) (K T' M' e3)
theorem lw_dry (C : Cx κ G (yL nm) code ret 4 room_1) (hX : Sc κ bb L xs) (h : Inv2 n T J M) (hn : n + 1 ≤ 512) (hi : 0 ≤ i) (hL : i + 6 < L) (hL2 : L ≤ 3584) (ha : a ≤ 600000) (hb : b ≤ 7302250) (K : ∀ T' M', Inv2 (n + 1) T' J M' → X κ G 4 (WL G q J T' qm M') 2535 (lvL bb (q 11 31) (qm 31) i) [] a b Q) : X κ G 4 (WL G q J T qm M) 2093 (lvL bb (q 11 31) (qm 31) i) [] a b Q := by
  have e : Nx n T J (fX7_dry T (xi xs (i + 1).toNat)) (fX8_dry M (xi xs (i + 1).toNat)) := (op_dry h.1 (xi_r xs _) : Ef T M (fX7_dry T (xi xs (i + 1).toNat)) (fX8_dry M (xi xs (i + 1).toNat))).nx h hn
  obtain ⟨r, T', M', e1, e2, e3, e4⟩ := e
  refine X.aload_n C dL_2093 rfl 2 rfl ?_
  refine X.arg (k := 1) C hX hi (by decide) (by omega) hL2 dL_2094 dL_2095 dL_2096 dL_2097 dL_2098 ?_
  refine X.callC (T' := T') (r := r) (As := [vi (xi xs (i + 1).toNat)]) (rest := []) C dL_2099 ml_L_239 mX7_dry (kX7_dry q T (xi xs (i + 1).toNat) _ e1) e4 rfl rfl rfl rfl rfl ha hb ?_
  refine X.aload_n C dL_2102 rfl 1 rfl ?_
  refine X.arg (k := 1) C hX hi (by decide) (by omega) hL2 dL_2103 dL_2104 dL_2105 dL_2106 dL_2107 ?_
  refine X.callM (M' := M') (r := r) (As := [vi (xi xs (i + 1).toNat)]) (rest := [vi r]) C dL_2108 ml_L_242 mX8_dry (kX8_dry qm M (xi xs (i + 1).toNat) _ e2) rfl rfl rfl rfl rfl ha hb ?_
  exact X.same (tgt := 2535) C dL_2111 (by decide) (K T' M' e3)
theorem lw_week (C : Cx κ G (yL nm) code ret 4 room_1) (hX : Sc κ bb L xs) (h : Inv2 n T J M) (hn : n + 1 ≤ 512) (hi : 0 ≤ i) (hL : i + 6 < L) (hL2 : L ≤ 3584) (ha : a ≤ 600000) (hb : b ≤ 7302250) (K : ∀ T' M', Inv2 (n + 1) T' J M' → X κ G 4 (WL G q J T' qm M') 2535 (lvL bb (q 11 31) (qm 31) i) [] a b Q) : X κ G 4 (WL G q J T qm M) 2116 (lvL bb (q 11 31) (qm 31) i) [] a b Q := by
  have e : Nx n T J (fX7_week T (xi xs (i + 1).toNat) (xi xs (i + 2).toNat) (xi xs (i + 3).toNat)) (fX8_week M (xi xs (i + 1).toNat) (xi xs (i + 2).toNat) (xi xs (i + 3).toNat)) := (op_week h.1 (xi_r xs _) (xi_r xs _) (xi_r xs _) : Ef T M (fX7_week T (xi xs (i + 1).toNat) (xi xs (i + 2).toNat) (xi xs (i + 3).toNat)) (fX8_week M (xi xs (i + 1).toNat) (xi xs (i + 2).toNat) (xi xs (i + 3).toNat))).nx h hn
  obtain ⟨r, T', M', e1, e2, e3, e4⟩ := e
  refine X.aload_n C dL_2116 rfl 2 rfl ?_
  refine X.arg (k := 1) C hX hi (by decide) (by omega) hL2 dL_2117 dL_2118 dL_2119 dL_2120 dL_2121 ?_
  refine X.arg (k := 2) C hX hi (by decide) (by omega) hL2 dL_2122 dL_2123 dL_2124 dL_2125 dL_2126 ?_
  refine X.arg (k := 3) C hX hi (by decide) (by omega) hL2 dL_2127 dL_2128 dL_2129 dL_2130 dL_2131 ?_
  refine X.callC (T' := T') (r := r) (As := [vi (xi xs (i + 1).toNat), vi (xi xs (i + 2).toNat), vi (xi xs (i + 3).toNat)]) (rest := []) C dL_2132 ml_L_243 mX7_week (kX7_week q T (xi xs (i + 1).toNat) (xi xs (i + 2).toNat) (xi xs (i + 3).toNat) _ e1) e4 rfl rfl rfl rfl rfl ha hb ?_
  refine X.aload_n C dL_2135 rfl 1 rfl ?_
  refine X.arg (k := 1) C hX hi (by decide) (by omega) hL2 dL_2136 dL_2137 dL_2138 dL_2139 dL_2140 ?_
  refine X.arg (k := 2) C hX hi (by decide) (by omega) hL2 dL_2141 dL_2142 dL_2143 dL_2144 dL_2145 ?_
  refine X.arg (k := 3) C hX hi (by decide) (by omega) hL2 dL_2146 dL_2147 dL_2148 dL_2149 dL_2150 ?_
  refine X.callM (M' := M') (r := r) (As := [vi (xi xs (i + 1).toNat), vi (xi xs (i + 2).toNat), vi (xi xs (i + 3).toNat)]) (rest := [vi r]) C dL_2151 ml_L_246 mX8_week (kX8_week qm M (xi xs (i + 1).toNat) (xi xs (i + 2).toNat) (xi xs (i + 3).toNat) _ e2) rfl rfl rfl rfl rfl ha hb ?_
  exact X.same (tgt := 2535) C dL_2154 (by decide) (K T' M' e3)
theorem lw_way (C : Cx κ G (yL nm) code ret 4 room_1) (hX : Sc κ bb L xs) (h : Inv2 n T J M) (hn : n + 1 ≤ 512) (hi : 0 ≤ i) (hL : i + 6 < L) (hL2 : L ≤ 3584) (ha : a ≤ 600000) (hb : b ≤ 7302250) (K : ∀ T' M', Inv2 (n + 1) T' J M' → X κ G 4 (WL G q J T' qm M') 2535 (lvL bb (q 11 31) (qm 31) i) [] a b Q) : X κ G 4 (WL G q J T qm M) 2159 (lvL bb (q 11 31) (qm 31) i) [] a b Q := by
  have e : Nx n T J (fX7_way T (xi xs (i + 1).toNat) (xi xs (i + 2).toNat) (xi xs (i + 3).toNat) (xi xs (i + 4).toNat)) (fX8_way M (xi xs (i + 1).toNat) (xi xs (i + 2).toNat) (xi xs (i + 3).toNat) (xi xs (i + 4).toNat)) := (op_way h (xi_r xs _) (xi_r xs _) (xi_r xs _) (xi_r xs _) : Ef T M (fX7_way T (xi xs (i + 1).toNat) (xi xs (i + 2).toNat) (xi xs (i + 3).toNat) (xi xs (i + 4).toNat)) (fX8_way M (xi xs (i + 1).toNat) (xi xs (i + 2).toNat) (xi xs (i + 3).toNat) (xi xs (i + 4).toNat))).nx h hn
  obtain ⟨r, T', M', e1, e2, e3, e4⟩ := e
  refine X.aload_n C dL_2159 rfl 2 rfl ?_
  refine X.arg (k := 1) C hX hi (by decide) (by omega) hL2 dL_2160 dL_2161 dL_2162 dL_2163 dL_2164 ?_
  refine X.arg (k := 2) C hX hi (by decide) (by omega) hL2 dL_2165 dL_2166 dL_2167 dL_2168 dL_2169 ?_
  refine X.arg (k := 3) C hX hi (by decide) (by omega) hL2 dL_2170 dL_2171 dL_2172 dL_2173 dL_2174 ?_
  refine X.arg (k := 4) C hX hi (by decide) (by omega) hL2 dL_2175 dL_2176 dL_2177 dL_2178 dL_2179 ?_
  refine X.callC (T' := T') (r := r) (As := [vi (xi xs (i + 1).toNat), vi (xi xs (i + 2).toNat), vi (xi xs (i + 3).toNat), vi (xi xs (i + 4).toNat)]) (rest := []) C dL_2180 ml_L_247 mX7_way (kX7_way q T (xi xs (i + 1).toNat) (xi xs (i + 2).toNat) (xi xs (i + 3).toNat) (xi xs (i + 4).toNat) _ e1) e4 rfl rfl rfl rfl rfl ha hb ?_
  refine X.aload_n C dL_2183 rfl 1 rfl ?_
  refine X.arg (k := 1) C hX hi (by decide) (by omega) hL2 dL_2184 dL_2185 dL_2186 dL_2187 dL_2188 ?_
  refine X.arg (k := 2) C hX hi (by decide) (by omega) hL2 dL_2189 dL_2190 dL_2191 dL_2192 dL_2193 ?_
  refine X.arg (k := 3) C hX hi (by decide) (by omega) hL2 dL_2194 dL_2195 dL_2196 dL_2197 dL_2198 ?_
  refine X.arg (k := 4) C hX hi (by decide) (by omega) hL2 dL_2199 dL_2200 dL_2201 dL_2202 dL_2203 ?_
  refine X.callM (M' := M') (r := r) (As := [vi (xi xs (i + 1).toNat), vi (xi xs (i + 2).toNat), vi (xi xs (i + 3).toNat), vi (xi xs (i + 4).toNat)]) (rest := [vi r]) C dL_2204 ml_L_250 mX8_way (kX8_way qm M (xi xs (i + 1).toNat) (xi xs (i + 2).toNat) (xi xs (i + 3).toNat) (xi xs (i + 4).toNat) _ e2) rfl rfl rfl rfl rfl ha hb ?_
  exact X.same (tgt := 2535) C dL_2207 (by decide) (K T' M' e3)
theorem lw_often (C : Cx κ G (yL nm) code ret 4 room_1) (hX : Sc κ bb L xs) (h : Inv2 n T J M) (hn : n + 1 ≤ 512) (hi : 0 ≤ i) (hL : i + 6 < L) (hL2 : L ≤ 3584) (ha : a ≤ 600000) (hb : b ≤ 7302250) (K : ∀ T' M', Inv2 (n + 1) T' J M' → X κ G 4 (WL G q J T' qm M') 2535 (lvL bb (q 11 31) (qm 31) i) [] a b Q) : X κ G 4 (WL G q J T qm M) 2212 (lvL bb (q 11 31) (qm 31) i) [] a b Q := by
  have e : Nx n T J (fX7_often T (xi xs (i + 1).toNat) (xi xs (i + 2).toNat) (xi xs (i + 3).toNat) (xi xs (i + 4).toNat) (xi xs (i + 5).toNat) (xi xs (i + 6).toNat)) (fX8_often M (xi xs (i + 1).toNat) (xi xs (i + 2).toNat) (xi xs (i + 3).toNat) (xi xs (i + 4).toNat) (xi xs (i + 5).toNat) (xi xs (i + 6).toNat)) := (op_often h.1 (xi_r xs _) (xi_r xs _) (xi_r xs _) (xi_r xs _) (xi_r xs _) (xi_r xs _) : Ef T M (fX7_often T (xi xs (i + 1).toNat) (xi xs (i + 2).toNat) (xi xs (i + 3).toNat) (xi xs (i + 4).toNat) (xi xs (i + 5).toNat) (xi xs (i + 6).toNat)) (fX8_often M (xi xs (i + 1).toNat) (xi xs (i + 2).toNat) (xi xs (i + 3).toNat) (xi xs (i + 4).toNat) (xi xs (i + 5).toNat) (xi xs (i + 6).toNat))).nx h hn
  obtain ⟨r, T', M', e1, e2, e3, e4⟩ := e
  refine X.aload_n C dL_2212 rfl 2 rfl ?_
  refine X.arg (k := 1) C hX hi (by decide) (by omega) hL2 dL_2213 dL_2214 dL_2215 dL_2216 dL_2217 ?_
  refine X.arg (k := 2) C hX hi (by decide) (by omega) hL2 dL_2218 dL_2219 dL_2220 dL_2221 dL_2222 ?_
  refine X.arg (k := 3) C hX hi (by decide) (by omega) hL2 dL_2223 dL_2224 dL_2225 dL_2226 dL_2227 ?_
  refine X.arg (k := 4) C hX hi (by decide) (by omega) hL2 dL_2228 dL_2229 dL_2230 dL_2231 dL_2232 ?_
  refine X.arg (k := 5) C hX hi (by decide) (by omega) hL2 dL_2233 dL_2234 dL_2235 dL_2236 dL_2237 ?_
  refine X.arg6 C hX hi hL hL2 dL_2238 dL_2239 dL_2240 dL_2242 dL_2243 ?_
  refine X.callC (T' := T') (r := r) (As := [vi (xi xs (i + 1).toNat), vi (xi xs (i + 2).toNat), vi (xi xs (i + 3).toNat), vi (xi xs (i + 4).toNat), vi (xi xs (i + 5).toNat), vi (xi xs (i + 6).toNat)]) (rest := []) C dL_2244 ml_L_251 mX7_often (kX7_often q T (xi xs (i + 1).toNat) (xi xs (i + 2).toNat) (xi xs (i + 3).toNat) (xi xs (i + 4).toNat) (xi xs (i + 5).toNat) (xi xs (i + 6).toNat) _ e1) e4 rfl rfl rfl rfl rfl ha hb ?_
  refine X.aload_n C dL_2247 rfl 1 rfl ?_
  refine X.arg (k := 1) C hX hi (by decide) (by omega) hL2 dL_2248 dL_2249 dL_2250 dL_2251 dL_2252 ?_
  refine X.arg (k := 2) C hX hi (by decide) (by omega) hL2 dL_2253 dL_2254 dL_2255 dL_2256 dL_2257 ?_
  refine X.arg (k := 3) C hX hi (by decide) (by omega) hL2 dL_2258 dL_2259 dL_2260 dL_2261 dL_2262 ?_
  refine X.arg (k := 4) C hX hi (by decide) (by omega) hL2 dL_2263 dL_2264 dL_2265 dL_2266 dL_2267 ?_
  refine X.arg (k := 5) C hX hi (by decide) (by omega) hL2 dL_2268 dL_2269 dL_2270 dL_2271 dL_2272 ?_
  refine X.arg6 C hX hi hL hL2 dL_2273 dL_2274 dL_2275 dL_2277 dL_2278 ?_
  refine X.callM (M' := M') (r := r) (As := [vi (xi xs (i + 1).toNat), vi (xi xs (i + 2).toNat), vi (xi xs (i + 3).toNat), vi (xi xs (i + 4).toNat), vi (xi xs (i + 5).toNat), vi (xi xs (i + 6).toNat)]) (rest := [vi r]) C dL_2279 ml_L_255 mX8_often (kX8_often qm M (xi xs (i + 1).toNat) (xi xs (i + 2).toNat) (xi xs (i + 3).toNat) (xi xs (i + 4).toNat) (xi xs (i + 5).toNat) (xi xs (i + 6).toNat) _ e2) rfl rfl rfl rfl rfl ha hb ?_
  exact X.same (tgt := 2535) C dL_2282 (by decide) (K T' M' e3)
theorem lw_count (C : Cx κ G (yL nm) code ret 4 room_1) (hX : Sc κ bb L xs) (h : Inv2 n T J M) (hn : n + 1 ≤ 512) (hi : 0 ≤ i) (hL : i + 6 < L) (hL2 : L ≤ 3584) (ha : a ≤ 600000) (hb : b ≤ 7302250) (K : ∀ T' M', Inv2 (n + 1) T' J M' → X κ G 4 (WL G q J T' qm M') 2535 (lvL bb (q 11 31) (qm 31) i) [] a b Q) : X κ G 4 (WL G q J T qm M) 2287 (lvL bb (q 11 31) (qm 31) i) [] a b Q := by
  have e : Eqv (fX7_count T (xi xs (i + 1).toNat)) (fX8_count M (xi xs (i + 1).toNat)) := op_count h.1
  obtain ⟨r, e1, e2⟩ := e
  refine X.aload_n C dL_2287 rfl 2 rfl ?_
  refine X.arg (k := 1) C hX hi (by decide) (by omega) hL2 dL_2288 dL_2289 dL_2290 dL_2291 dL_2292 ?_
  refine X.callC (T' := T) (r := r) (As := [vi (xi xs (i + 1).toNat)]) (rest := []) C dL_2293 ml_L_256 mX7_count (kX7_count q T (xi xs (i + 1).toNat) _ e1) (fun _ _ => rfl) rfl rfl rfl rfl rfl ha hb ?_
  refine X.aload_n C dL_2296 rfl 1 rfl ?_
  refine X.arg (k := 1) C hX hi (by decide) (by omega) hL2 dL_2297 dL_2298 dL_2299 dL_2300 dL_2301 ?_
  refine X.callM (M' := M) (r := r) (As := [vi (xi xs (i + 1).toNat)]) (rest := [vi r]) C dL_2302 ml_L_259 mX8_count (kX8_count qm M (xi xs (i + 1).toNat) _ e2) rfl rfl rfl rfl rfl ha hb ?_
  exact X.same (tgt := 2535) C dL_2305 (by decide) (K T M (h.next hn))
theorem lw_row (C : Cx κ G (yL nm) code ret 4 room_1) (hX : Sc κ bb L xs) (h : Inv2 n T J M) (hn : n + 1 ≤ 512) (hi : 0 ≤ i) (hL : i + 6 < L) (hL2 : L ≤ 3584) (ha : a ≤ 600000) (hb : b ≤ 7302250) (K : ∀ T' M', Inv2 (n + 1) T' J M' → X κ G 4 (WL G q J T' qm M') 2535 (lvL bb (q 11 31) (qm 31) i) [] a b Q) : X κ G 4 (WL G q J T qm M) 2356 (lvL bb (q 11 31) (qm 31) i) [] a b Q := by
  have e : Nx n T J (fX7_row T (xi xs (i + 1).toNat) (xi xs (i + 2).toNat) (xi xs (i + 3).toNat)) (fX8_row M (xi xs (i + 1).toNat) (xi xs (i + 2).toNat) (xi xs (i + 3).toNat)) := op_row h hn (xi_r xs _) (xi_r xs _) (xi_r xs _)
  obtain ⟨r, T', M', e1, e2, e3, e4⟩ := e
  refine X.aload_n C dL_2356 rfl 2 rfl ?_
  refine X.arg (k := 1) C hX hi (by decide) (by omega) hL2 dL_2357 dL_2358 dL_2359 dL_2360 dL_2361 ?_
  refine X.arg (k := 2) C hX hi (by decide) (by omega) hL2 dL_2362 dL_2363 dL_2364 dL_2365 dL_2366 ?_
  refine X.arg (k := 3) C hX hi (by decide) (by omega) hL2 dL_2367 dL_2368 dL_2369 dL_2370 dL_2371 ?_
  refine X.callC (T' := T') (r := r) (As := [vi (xi xs (i + 1).toNat), vi (xi xs (i + 2).toNat), vi (xi xs (i + 3).toNat)]) (rest := []) C dL_2372 ml_L_268 mX7_row (kX7_row q T (xi xs (i + 1).toNat) (xi xs (i + 2).toNat) (xi xs (i + 3).toNat) _ e1) e4 rfl rfl rfl rfl rfl ha hb ?_
  refine X.aload_n C dL_2375 rfl 1 rfl ?_
  refine X.arg (k := 1) C hX hi (by decide) (by omega) hL2 dL_2376 dL_2377 dL_2378 dL_2379 dL_2380 ?_
  refine X.arg (k := 2) C hX hi (by decide) (by omega) hL2 dL_2381 dL_2382 dL_2383 dL_2384 dL_2385 ?_
  refine X.arg (k := 3) C hX hi (by decide) (by omega) hL2 dL_2386 dL_2387 dL_2388 dL_2389 dL_2390 ?_
  refine X.callM (M' := M') (r := r) (As := [vi (xi xs (i + 1).toNat), vi (xi xs (i + 2).toNat), vi (xi xs (i + 3).toNat)]) (rest := [vi r]) C dL_2391 ml_L_271 mX8_row (kX8_row qm M (xi xs (i + 1).toNat) (xi xs (i + 2).toNat) (xi xs (i + 3).toNat) _ e2) rfl rfl rfl rfl rfl ha hb ?_
  exact X.same (tgt := 2535) C dL_2394 (by decide) (K T' M' e3)
theorem lw_paste (C : Cx κ G (yL nm) code ret 4 room_1) (hX : Sc κ bb L xs) (h : Inv2 n T J M) (hn : n + 1 ≤ 512) (hi : 0 ≤ i) (hL : i + 6 < L) (hL2 : L ≤ 3584) (ha : a ≤ 600000) (hb : b ≤ 7302250) (K : ∀ T' M', Inv2 (n + 1) T' J M' → X κ G 4 (WL G q J T' qm M') 2535 (lvL bb (q 11 31) (qm 31) i) [] a b Q) : X κ G 4 (WL G q J T qm M) 2472 (lvL bb (q 11 31) (qm 31) i) [] a b Q := by
  have e : Nx n T J (fX7_paste T (xi xs (i + 1).toNat) (xi xs (i + 2).toNat) (xi xs (i + 3).toNat) (xi xs (i + 4).toNat) (xi xs (i + 5).toNat)) (fX8_paste M (xi xs (i + 1).toNat) (xi xs (i + 2).toNat) (xi xs (i + 3).toNat) (xi xs (i + 4).toNat) (xi xs (i + 5).toNat)) := op_paste h hn (xi_r xs _) (xi_r xs _) (xi_r xs _) (xi_r xs _) (xi_r xs _)
  obtain ⟨r, T', M', e1, e2, e3, e4⟩ := e
  refine X.aload_n C dL_2472 rfl 2 rfl ?_
  refine X.arg (k := 1) C hX hi (by decide) (by omega) hL2 dL_2473 dL_2474 dL_2475 dL_2476 dL_2477 ?_
  refine X.arg (k := 2) C hX hi (by decide) (by omega) hL2 dL_2478 dL_2479 dL_2480 dL_2481 dL_2482 ?_
  refine X.arg (k := 3) C hX hi (by decide) (by omega) hL2 dL_2483 dL_2484 dL_2485 dL_2486 dL_2487 ?_
  refine X.arg (k := 4) C hX hi (by decide) (by omega) hL2 dL_2488 dL_2489 dL_2490 dL_2491 dL_2492 ?_
  refine X.arg (k := 5) C hX hi (by decide) (by omega) hL2 dL_2493 dL_2494 dL_2495 dL_2496 dL_2497 ?_
  refine X.callC (T' := T') (r := r) (As := [vi (xi xs (i + 1).toNat), vi (xi xs (i + 2).toNat), vi (xi xs (i + 3).toNat), vi (xi xs (i + 4).toNat), vi (xi xs (i + 5).toNat)]) (rest := []) C dL_2498 ml_L_279 mX7_paste (kX7_paste q T (xi xs (i + 1).toNat) (xi xs (i + 2).toNat) (xi xs (i + 3).toNat) (xi xs (i + 4).toNat) (xi xs (i + 5).toNat) _ e1) e4 rfl rfl rfl rfl rfl ha hb ?_
  refine X.aload_n C dL_2501 rfl 1 rfl ?_
  refine X.arg (k := 1) C hX hi (by decide) (by omega) hL2 dL_2502 dL_2503 dL_2504 dL_2505 dL_2506 ?_
  refine X.arg (k := 2) C hX hi (by decide) (by omega) hL2 dL_2507 dL_2508 dL_2509 dL_2510 dL_2511 ?_
  refine X.arg (k := 3) C hX hi (by decide) (by omega) hL2 dL_2512 dL_2513 dL_2514 dL_2515 dL_2516 ?_
  refine X.arg (k := 4) C hX hi (by decide) (by omega) hL2 dL_2517 dL_2518 dL_2519 dL_2520 dL_2521 ?_
  refine X.arg (k := 5) C hX hi (by decide) (by omega) hL2 dL_2522 dL_2523 dL_2524 dL_2525 dL_2526 ?_
  refine X.callM (M' := M') (r := r) (As := [vi (xi xs (i + 1).toNat), vi (xi xs (i + 2).toNat), vi (xi xs (i + 3).toNat), vi (xi xs (i + 4).toNat), vi (xi xs (i + 5).toNat)]) (rest := [vi r]) C dL_2527 ml_L_282 mX8_paste (kX8_paste qm M (xi xs (i + 1).toNat) (xi xs (i + 2).toNat) (xi xs (i + 3).toNat) (xi xs (i + 4).toNat) (xi xs (i + 5).toNat) _ e2) rfl rfl rfl rfl rfl ha hb ?_
  exact X.same (tgt := 2535) C dL_2530 (by decide) (K T' M' e3)
end
