/-! THE LAW, 11: its cases -/
section LAWE
variable {G : mj_G} {A : mj_M}
theorem lw_seen {n : Nat} {X : Int → Int} {i : Int} {Q : mj_Q} {o5 o6 : Option mj_V} (hJ : JE X A) (hi : 0 ≤ i ∧ i + 6 ≤ X (-1)) (hX : X (-1) ≤ 3072) (htail : ∀ A2 o5 o6, JE X A2 → mj_X G n_L_law Q A2 (20 * n) (4767 * n) 2565 [some (mR (some 50)), some (mR (some 100)), some (mR (some 200)), some (mR (some 140)), some (mI i), o5, o6] []) : mj_X G n_L_law Q A (20 * (n + 1)) (4767 * (n + 1)) 1966 [some (mR (some 50)), some (mR (some 100)), some (mR (some 200)), some (mR (some 140)), some (mI i), o5, o6] [] := by
  obtain ⟨C, h⟩ := hJ
  have hs := h.s
  have hx := h.x
  have hlen : gI A 50 (-1) = X (-1) := by rw [hx]
  have hns := h.j.m.g.ns
  refine mx_R fun hRA => ?_
  refine mx_less (kc' := 20 * n + 3) (ks' := 4767 * n + 18) (by omega) (by omega) ?_
  refine mx_R fun hR => ?_
  refine mx_aload_n 1 d_L_law_1966 rfl rfl ?_
  refine mx_aload_n 0 d_L_law_1967 rfl rfl ?_
  refine mx_iload 4 d_L_law_1968 rfl ?_
  refine mx_iconst d_L_law_1970 ?_
  refine mx_iadd d_L_law_1971 ?_
  refine mx_sald d_L_law_1972 hs (by omega) (by rw [hlen]; omega) ?_
  refine mx_aload_n 0 d_L_law_1973 rfl rfl ?_
  refine mx_iload 4 d_L_law_1974 rfl ?_
  refine mx_iconst d_L_law_1976 ?_
  refine mx_iadd d_L_law_1977 ?_
  refine mx_sald d_L_law_1978 hs (by omega) (by rw [hlen]; omega) ?_
  refine mx_aload_n 0 d_L_law_1979 rfl rfl ?_
  refine mx_iload 4 d_L_law_1980 rfl ?_
  refine mx_iconst d_L_law_1982 ?_
  refine mx_iadd d_L_law_1983 ?_
  refine mx_sald d_L_law_1984 hs (by omega) (by rw [hlen]; omega) ?_
  refine mx_aload_n 0 d_L_law_1985 rfl rfl ?_
  refine mx_iload 4 d_L_law_1986 rfl ?_
  refine mx_iconst d_L_law_1988 ?_
  refine mx_iadd d_L_law_1989 ?_
  refine mx_sald d_L_law_1990 hs (by omega) (by rw [hlen]; omega) ?_
  refine mx_aload_n 3 d_L_law_1991 rfl rfl ?_
  refine mx_callSH (kc := 20 * n) (ks := 4767 * n) (N := n_L_seen) (as := [_, _, _, _, _, _]) d_L_law_1992 s_L_219 ⟨Nat.le_of_ble_eq_true rfl, Nat.le_of_ble_eq_true rfl⟩ rfl (mj_wt_8 (Nat.le_of_ble_eq_true rfl)) (js_seen h (hRA 50 _) (hRA 50 _) (hRA 50 _) (hRA 50 _)) (fun r A1 hr => ?_) (fun E A_x h => h.elim)
  obtain ⟨kk, rfl, hkk, ⟨hs1, hx1, hm1⟩, hM⟩ := hr
  have hlen1 : gI A1 50 (-1) = X (-1) := by rw [hx1]
  have hA1x : gI A1 50 = gI A 50 := hx1.trans hx.symm
  refine mx_R fun hR => ?_
  refine mx_istore 5 d_L_law_1995 (Nat.le_of_ble_eq_true rfl) ?_
  refine mx_aload_n 2 d_L_law_1997 rfl rfl ?_
  refine mx_aload_n 0 d_L_law_1998 rfl rfl ?_
  refine mx_iload 4 d_L_law_1999 rfl ?_
  refine mx_iconst d_L_law_2001 ?_
  refine mx_iadd d_L_law_2002 ?_
  refine mx_sald d_L_law_2003 hs1 (by omega) (by rw [hlen1]; omega) ?_
  rw [hA1x]
  refine mx_aload_n 0 d_L_law_2004 rfl rfl ?_
  refine mx_iload 4 d_L_law_2005 rfl ?_
  refine mx_iconst d_L_law_2007 ?_
  refine mx_iadd d_L_law_2008 ?_
  refine mx_sald d_L_law_2009 hs1 (by omega) (by rw [hlen1]; omega) ?_
  rw [hA1x]
  refine mx_aload_n 0 d_L_law_2010 rfl rfl ?_
  refine mx_iload 4 d_L_law_2011 rfl ?_
  refine mx_iconst d_L_law_2013 ?_
  refine mx_iadd d_L_law_2014 ?_
  refine mx_sald d_L_law_2015 hs1 (by omega) (by rw [hlen1]; omega) ?_
  rw [hA1x]
  refine mx_aload_n 0 d_L_law_2016 rfl rfl ?_
  refine mx_iload 4 d_L_law_2017 rfl ?_
  refine mx_iconst d_L_law_2019 ?_
  refine mx_iadd d_L_law_2020 ?_
  refine mx_sald d_L_law_2021 hs1 (by omega) (by rw [hlen1]; omega) ?_
  rw [hA1x]
  refine mx_callV (kc := 20*n) (ks := 4767*n) (N := n_M_seen) (as := [_, _, _, _]) (ci := 7) d_L_law_2022 s_L_221 ⟨Nat.le_of_ble_eq_true rfl, Nat.le_of_ble_eq_true rfl⟩ rfl (mj_wt_8 (Nat.le_of_ble_eq_true rfl)) (hm1) ⟨_, rfl, rfl⟩ (hM) (fun r_2022 A_2022 h_2022 => ?_) (fun E_2022 A_x h_2022 => ?_)
  rotate_left
  · exact h_2022.elim
  obtain ⟨v, rfl, h0, hout, C2, h2⟩ := h_2022
  refine mx_R fun hR_1 => ?_
  refine mx_istore 6 d_L_law_2025 (Nat.le_of_ble_eq_true rfl) ?_
  refine mx_aload_n 2 d_L_law_2027 rfl rfl ?_
  refine mx_callV (kc := 20*n) (ks := 4767*n) (N := n_M_thrown) (as := []) (ci := 7) d_L_law_2028 s_L_134 ⟨Nat.le_of_ble_eq_true rfl, Nat.le_of_ble_eq_true rfl⟩ rfl (mj_wt_8 (Nat.le_of_ble_eq_true rfl)) (h2.j.m.M.o) ⟨_, rfl, rfl⟩ (cm_thrown h2.j.m.M) (fun r_2028 A_2028 h_2028 => ?_) (fun E_2028 A_x h_2028 => ?_)
  rotate_left
  · exact h_2028.elim
  obtain ⟨rfl, hA_2028⟩ := h_2028
  obtain rfl := hA_2028.symm
  clear hA_2028
  refine mx_R fun hR_2 => ?_
  refine mx_iload 5 d_L_law_2031 rfl ?_
  refine mx_icmp_eq 2038 d_L_law_2033 rfl (by first | assumption | exact hR_2 _ _ | exact hR_1 _ _ | exact hR _ _ | exact r32_mk (by omega) (by omega)) (by first | assumption | exact hR_2 _ _ | exact hR_1 _ _ | exact hR _ _ | exact r32_mk (by omega) (by omega)) (fun c_2033 => ?_) (fun c_2033 => ?_)
  · refine mx_iload 5 d_L_law_2038 rfl ?_
    refine mx_if_ne 2055 d_L_law_2040 rfl (by first | assumption | exact hR_2 _ _ | exact hR_1 _ _ | exact hR _ _ | exact r32_mk (by omega) (by omega)) (fun c_2040 => ?_) (fun c_2040 => ?_)
    · refine mx_goto 2565 d_L_law_2055 rfl ?_
      exact htail _ _ _ ⟨C2, h2⟩
    · refine mx_aload_n 3 d_L_law_2043 rfl rfl ?_
      refine mx_iconst d_L_law_2044 ?_
      refine mx_lald d_L_law_2045 (h2.j.y.o) (by omega) (by omega) ?_
      refine mx_iload 6 d_L_law_2046 rfl ?_
      have hnr := nr_r v
      refine mx_nrm ?_
      refine mx_i2l d_L_law_2048 (by first | assumption | exact hR_2 _ _ | exact hR_1 _ _ | exact hR _ _ | exact r32_mk (by omega) (by omega)) ?_
      refine mx_lcmp d_L_law_2049 (by first | assumption | exact hR_2 _ _ | exact hR_1 _ _ | exact hR _ _ | exact r32_mk (by omega) (by omega)) (by first | assumption | exact hR_2 _ _ | exact hR_1 _ _ | exact hR _ _ | exact r32_mk (by omega) (by omega)) ?_
      refine mx_if_eq 2055 d_L_law_2050 rfl (by first | assumption | exact hR_2 _ _ | exact hR_1 _ _ | exact hR _ _ | exact r32_mk (by omega) (by omega)) (fun c_2050 => ?_) (fun c_2050 => ?_)
      · refine mx_goto 2565 d_L_law_2055 rfl ?_
        exact htail _ _ _ ⟨C2, h2⟩
      · exact absurd (by rw [hout (by assumption), if_neg (Int.lt_irrefl _), if_pos rfl]) c_2050
  · exact absurd h0 (by assumption)
theorem lw_seenAnew {n : Nat} {X : Int → Int} {i : Int} {Q : mj_Q} {o5 o6 : Option mj_V} (hJ : JE X A) (hi : 0 ≤ i ∧ i + 6 ≤ X (-1)) (hX : X (-1) ≤ 3072) (htail : ∀ A2 o5 o6, JE X A2 → mj_X G n_L_law Q A2 (20 * n) (4767 * n) 2565 [some (mR (some 50)), some (mR (some 100)), some (mR (some 200)), some (mR (some 140)), some (mI i), o5, o6] []) : mj_X G n_L_law Q A (20 * (n + 1)) (4767 * (n + 1)) 2058 [some (mR (some 50)), some (mR (some 100)), some (mR (some 200)), some (mR (some 140)), some (mI i), o5, o6] [] := by
  obtain ⟨C, h⟩ := hJ
  have hs := h.s
  have hx := h.x
  have hlen : gI A 50 (-1) = X (-1) := by rw [hx]
  have hns := h.j.m.g.ns
  refine mx_R fun hRA => ?_
  refine mx_less (kc' := 20 * n + 3) (ks' := 4767 * n + 18) (by omega) (by omega) ?_
  refine mx_R fun hR => ?_
  refine mx_aload_n 1 d_L_law_2058 rfl rfl ?_
  refine mx_aload_n 0 d_L_law_2059 rfl rfl ?_
  refine mx_iload 4 d_L_law_2060 rfl ?_
  refine mx_iconst d_L_law_2062 ?_
  refine mx_iadd d_L_law_2063 ?_
  refine mx_sald d_L_law_2064 hs (by omega) (by rw [hlen]; omega) ?_
  refine mx_aload_n 0 d_L_law_2065 rfl rfl ?_
  refine mx_iload 4 d_L_law_2066 rfl ?_
  refine mx_iconst d_L_law_2068 ?_
  refine mx_iadd d_L_law_2069 ?_
  refine mx_sald d_L_law_2070 hs (by omega) (by rw [hlen]; omega) ?_
  refine mx_aload_n 0 d_L_law_2071 rfl rfl ?_
  refine mx_iload 4 d_L_law_2072 rfl ?_
  refine mx_iconst d_L_law_2074 ?_
  refine mx_iadd d_L_law_2075 ?_
  refine mx_sald d_L_law_2076 hs (by omega) (by rw [hlen]; omega) ?_
  refine mx_aload_n 0 d_L_law_2077 rfl rfl ?_
  refine mx_iload 4 d_L_law_2078 rfl ?_
  refine mx_iconst d_L_law_2080 ?_
  refine mx_iadd d_L_law_2081 ?_
  refine mx_sald d_L_law_2082 hs (by omega) (by rw [hlen]; omega) ?_
  refine mx_aload_n 3 d_L_law_2083 rfl rfl ?_
  refine mx_callSH (kc := 20 * n) (ks := 4767 * n) (N := n_L_seenAnew) (as := [_, _, _, _, _, _]) d_L_law_2084 s_L_222 ⟨Nat.le_of_ble_eq_true rfl, Nat.le_of_ble_eq_true rfl⟩ rfl (mj_wt_8 (Nat.le_of_ble_eq_true rfl)) (js_seenAnew h (hRA 50 _) (hRA 50 _) (hRA 50 _) (hRA 50 _)) (fun r A1 hr => ?_) (fun E A_x h => h.elim)
  obtain ⟨kk, rfl, hkk, ⟨hs1, hx1, hm1⟩, hM⟩ := hr
  have hlen1 : gI A1 50 (-1) = X (-1) := by rw [hx1]
  have hA1x : gI A1 50 = gI A 50 := hx1.trans hx.symm
  refine mx_R fun hR => ?_
  refine mx_istore 5 d_L_law_2087 (Nat.le_of_ble_eq_true rfl) ?_
  refine mx_aload_n 2 d_L_law_2089 rfl rfl ?_
  refine mx_aload_n 0 d_L_law_2090 rfl rfl ?_
  refine mx_iload 4 d_L_law_2091 rfl ?_
  refine mx_iconst d_L_law_2093 ?_
  refine mx_iadd d_L_law_2094 ?_
  refine mx_sald d_L_law_2095 hs1 (by omega) (by rw [hlen1]; omega) ?_
  rw [hA1x]
  refine mx_aload_n 0 d_L_law_2096 rfl rfl ?_
  refine mx_iload 4 d_L_law_2097 rfl ?_
  refine mx_iconst d_L_law_2099 ?_
  refine mx_iadd d_L_law_2100 ?_
  refine mx_sald d_L_law_2101 hs1 (by omega) (by rw [hlen1]; omega) ?_
  rw [hA1x]
  refine mx_aload_n 0 d_L_law_2102 rfl rfl ?_
  refine mx_iload 4 d_L_law_2103 rfl ?_
  refine mx_iconst d_L_law_2105 ?_
  refine mx_iadd d_L_law_2106 ?_
  refine mx_sald d_L_law_2107 hs1 (by omega) (by rw [hlen1]; omega) ?_
  rw [hA1x]
  refine mx_aload_n 0 d_L_law_2108 rfl rfl ?_
  refine mx_iload 4 d_L_law_2109 rfl ?_
  refine mx_iconst d_L_law_2111 ?_
  refine mx_iadd d_L_law_2112 ?_
  refine mx_sald d_L_law_2113 hs1 (by omega) (by rw [hlen1]; omega) ?_
  rw [hA1x]
  refine mx_callV (kc := 20*n) (ks := 4767*n) (N := n_M_seenAnew) (as := [_, _, _, _]) (ci := 7) d_L_law_2114 s_L_224 ⟨Nat.le_of_ble_eq_true rfl, Nat.le_of_ble_eq_true rfl⟩ rfl (mj_wt_8 (Nat.le_of_ble_eq_true rfl)) (hm1) ⟨_, rfl, rfl⟩ (hM) (fun r_2114 A_2114 h_2114 => ?_) (fun E_2114 A_x h_2114 => ?_)
  rotate_left
  · exact h_2114.elim
  obtain ⟨v, rfl, h0, hout, C2, h2⟩ := h_2114
  refine mx_R fun hR_1 => ?_
  refine mx_istore 6 d_L_law_2117 (Nat.le_of_ble_eq_true rfl) ?_
  refine mx_aload_n 2 d_L_law_2119 rfl rfl ?_
  refine mx_callV (kc := 20*n) (ks := 4767*n) (N := n_M_thrown) (as := []) (ci := 7) d_L_law_2120 s_L_134 ⟨Nat.le_of_ble_eq_true rfl, Nat.le_of_ble_eq_true rfl⟩ rfl (mj_wt_8 (Nat.le_of_ble_eq_true rfl)) (h2.j.m.M.o) ⟨_, rfl, rfl⟩ (cm_thrown h2.j.m.M) (fun r_2120 A_2120 h_2120 => ?_) (fun E_2120 A_x h_2120 => ?_)
  rotate_left
  · exact h_2120.elim
  obtain ⟨rfl, hA_2120⟩ := h_2120
  obtain rfl := hA_2120.symm
  clear hA_2120
  refine mx_R fun hR_2 => ?_
  refine mx_iload 5 d_L_law_2123 rfl ?_
  refine mx_icmp_eq 2130 d_L_law_2125 rfl (by first | assumption | exact hR_2 _ _ | exact hR_1 _ _ | exact hR _ _ | exact r32_mk (by omega) (by omega)) (by first | assumption | exact hR_2 _ _ | exact hR_1 _ _ | exact hR _ _ | exact r32_mk (by omega) (by omega)) (fun c_2125 => ?_) (fun c_2125 => ?_)
  · refine mx_iload 5 d_L_law_2130 rfl ?_
    refine mx_if_ne 2147 d_L_law_2132 rfl (by first | assumption | exact hR_2 _ _ | exact hR_1 _ _ | exact hR _ _ | exact r32_mk (by omega) (by omega)) (fun c_2132 => ?_) (fun c_2132 => ?_)
    · refine mx_goto 2565 d_L_law_2147 rfl ?_
      exact htail _ _ _ ⟨C2, h2⟩
    · refine mx_aload_n 3 d_L_law_2135 rfl rfl ?_
      refine mx_iconst d_L_law_2136 ?_
      refine mx_lald d_L_law_2137 (h2.j.y.o) (by omega) (by omega) ?_
      refine mx_iload 6 d_L_law_2138 rfl ?_
      have hnr := nr_r v
      refine mx_nrm ?_
      refine mx_i2l d_L_law_2140 (by first | assumption | exact hR_2 _ _ | exact hR_1 _ _ | exact hR _ _ | exact r32_mk (by omega) (by omega)) ?_
      refine mx_lcmp d_L_law_2141 (by first | assumption | exact hR_2 _ _ | exact hR_1 _ _ | exact hR _ _ | exact r32_mk (by omega) (by omega)) (by first | assumption | exact hR_2 _ _ | exact hR_1 _ _ | exact hR _ _ | exact r32_mk (by omega) (by omega)) ?_
      refine mx_if_eq 2147 d_L_law_2142 rfl (by first | assumption | exact hR_2 _ _ | exact hR_1 _ _ | exact hR _ _ | exact r32_mk (by omega) (by omega)) (fun c_2142 => ?_) (fun c_2142 => ?_)
      · refine mx_goto 2565 d_L_law_2147 rfl ?_
        exact htail _ _ _ ⟨C2, h2⟩
      · exact absurd (by rw [hout (by assumption), if_neg (Int.lt_irrefl _), if_pos rfl]) c_2142
  · exact absurd h0 (by assumption)
theorem lw_shot {n : Nat} {X : Int → Int} {i : Int} {Q : mj_Q} {o5 o6 : Option mj_V} (hJ : JE X A) (hi : 0 ≤ i ∧ i + 6 ≤ X (-1)) (hX : X (-1) ≤ 3072) (htail : ∀ A2 o5 o6, JE X A2 → mj_X G n_L_law Q A2 (20 * n) (4767 * n) 2565 [some (mR (some 50)), some (mR (some 100)), some (mR (some 200)), some (mR (some 140)), some (mI i), o5, o6] []) : mj_X G n_L_law Q A (20 * (n + 1)) (4767 * (n + 1)) 2150 [some (mR (some 50)), some (mR (some 100)), some (mR (some 200)), some (mR (some 140)), some (mI i), o5, o6] [] := by
  obtain ⟨C, h⟩ := hJ
  have hs := h.s
  have hx := h.x
  have hlen : gI A 50 (-1) = X (-1) := by rw [hx]
  have hns := h.j.m.g.ns
  refine mx_R fun hRA => ?_
  refine mx_less (kc' := 20 * n + 3) (ks' := 4767 * n + 18) (by omega) (by omega) ?_
  refine mx_R fun hR => ?_
  refine mx_aload_n 1 d_L_law_2150 rfl rfl ?_
  refine mx_aload_n 0 d_L_law_2151 rfl rfl ?_
  refine mx_iload 4 d_L_law_2152 rfl ?_
  refine mx_iconst d_L_law_2154 ?_
  refine mx_iadd d_L_law_2155 ?_
  refine mx_sald d_L_law_2156 hs (by omega) (by rw [hlen]; omega) ?_
  refine mx_aload_n 0 d_L_law_2157 rfl rfl ?_
  refine mx_iload 4 d_L_law_2158 rfl ?_
  refine mx_iconst d_L_law_2160 ?_
  refine mx_iadd d_L_law_2161 ?_
  refine mx_sald d_L_law_2162 hs (by omega) (by rw [hlen]; omega) ?_
  refine mx_aload_n 0 d_L_law_2163 rfl rfl ?_
  refine mx_iload 4 d_L_law_2164 rfl ?_
  refine mx_iconst d_L_law_2166 ?_
  refine mx_iadd d_L_law_2167 ?_
  refine mx_sald d_L_law_2168 hs (by omega) (by rw [hlen]; omega) ?_
  refine mx_aload_n 0 d_L_law_2169 rfl rfl ?_
  refine mx_iload 4 d_L_law_2170 rfl ?_
  refine mx_iconst d_L_law_2172 ?_
  refine mx_iadd d_L_law_2173 ?_
  refine mx_sald d_L_law_2174 hs (by omega) (by rw [hlen]; omega) ?_
  refine mx_aload_n 3 d_L_law_2175 rfl rfl ?_
  refine mx_callSH (kc := 20 * n) (ks := 4767 * n) (N := n_L_shot) (as := [_, _, _, _, _, _]) d_L_law_2176 s_L_225 ⟨Nat.le_of_ble_eq_true rfl, Nat.le_of_ble_eq_true rfl⟩ rfl (mj_wt_8 (Nat.le_of_ble_eq_true rfl)) (js_shot h (hRA 50 _) (hRA 50 _) (hRA 50 _) (hRA 50 _)) (fun r A1 hr => ?_) (fun E A_x h => h.elim)
  obtain ⟨kk, rfl, hkk, ⟨hs1, hx1, hm1⟩, hM⟩ := hr
  have hlen1 : gI A1 50 (-1) = X (-1) := by rw [hx1]
  have hA1x : gI A1 50 = gI A 50 := hx1.trans hx.symm
  refine mx_R fun hR => ?_
  refine mx_istore 5 d_L_law_2179 (Nat.le_of_ble_eq_true rfl) ?_
  refine mx_aload_n 2 d_L_law_2181 rfl rfl ?_
  refine mx_aload_n 0 d_L_law_2182 rfl rfl ?_
  refine mx_iload 4 d_L_law_2183 rfl ?_
  refine mx_iconst d_L_law_2185 ?_
  refine mx_iadd d_L_law_2186 ?_
  refine mx_sald d_L_law_2187 hs1 (by omega) (by rw [hlen1]; omega) ?_
  rw [hA1x]
  refine mx_aload_n 0 d_L_law_2188 rfl rfl ?_
  refine mx_iload 4 d_L_law_2189 rfl ?_
  refine mx_iconst d_L_law_2191 ?_
  refine mx_iadd d_L_law_2192 ?_
  refine mx_sald d_L_law_2193 hs1 (by omega) (by rw [hlen1]; omega) ?_
  rw [hA1x]
  refine mx_aload_n 0 d_L_law_2194 rfl rfl ?_
  refine mx_iload 4 d_L_law_2195 rfl ?_
  refine mx_iconst d_L_law_2197 ?_
  refine mx_iadd d_L_law_2198 ?_
  refine mx_sald d_L_law_2199 hs1 (by omega) (by rw [hlen1]; omega) ?_
  rw [hA1x]
  refine mx_aload_n 0 d_L_law_2200 rfl rfl ?_
  refine mx_iload 4 d_L_law_2201 rfl ?_
  refine mx_iconst d_L_law_2203 ?_
  refine mx_iadd d_L_law_2204 ?_
  refine mx_sald d_L_law_2205 hs1 (by omega) (by rw [hlen1]; omega) ?_
  rw [hA1x]
  refine mx_callV (kc := 20*n) (ks := 4767*n) (N := n_M_shot) (as := [_, _, _, _]) (ci := 7) d_L_law_2206 s_L_227 ⟨Nat.le_of_ble_eq_true rfl, Nat.le_of_ble_eq_true rfl⟩ rfl (mj_wt_8 (Nat.le_of_ble_eq_true rfl)) (hm1) ⟨_, rfl, rfl⟩ (hM) (fun r_2206 A_2206 h_2206 => ?_) (fun E_2206 A_x h_2206 => ?_)
  rotate_left
  · exact h_2206.elim
  obtain ⟨v, rfl, h0, hout, C2, h2⟩ := h_2206
  refine mx_R fun hR_1 => ?_
  refine mx_istore 6 d_L_law_2209 (Nat.le_of_ble_eq_true rfl) ?_
  refine mx_aload_n 2 d_L_law_2211 rfl rfl ?_
  refine mx_callV (kc := 20*n) (ks := 4767*n) (N := n_M_thrown) (as := []) (ci := 7) d_L_law_2212 s_L_134 ⟨Nat.le_of_ble_eq_true rfl, Nat.le_of_ble_eq_true rfl⟩ rfl (mj_wt_8 (Nat.le_of_ble_eq_true rfl)) (h2.j.m.M.o) ⟨_, rfl, rfl⟩ (cm_thrown h2.j.m.M) (fun r_2212 A_2212 h_2212 => ?_) (fun E_2212 A_x h_2212 => ?_)
  rotate_left
  · exact h_2212.elim
  obtain ⟨rfl, hA_2212⟩ := h_2212
  obtain rfl := hA_2212.symm
  clear hA_2212
  refine mx_R fun hR_2 => ?_
  refine mx_iload 5 d_L_law_2215 rfl ?_
  refine mx_icmp_eq 2222 d_L_law_2217 rfl (by first | assumption | exact hR_2 _ _ | exact hR_1 _ _ | exact hR _ _ | exact r32_mk (by omega) (by omega)) (by first | assumption | exact hR_2 _ _ | exact hR_1 _ _ | exact hR _ _ | exact r32_mk (by omega) (by omega)) (fun c_2217 => ?_) (fun c_2217 => ?_)
  · refine mx_iload 5 d_L_law_2222 rfl ?_
    refine mx_if_ne 2239 d_L_law_2224 rfl (by first | assumption | exact hR_2 _ _ | exact hR_1 _ _ | exact hR _ _ | exact r32_mk (by omega) (by omega)) (fun c_2224 => ?_) (fun c_2224 => ?_)
    · refine mx_goto 2565 d_L_law_2239 rfl ?_
      exact htail _ _ _ ⟨C2, h2⟩
    · refine mx_aload_n 3 d_L_law_2227 rfl rfl ?_
      refine mx_iconst d_L_law_2228 ?_
      refine mx_lald d_L_law_2229 (h2.j.y.o) (by omega) (by omega) ?_
      refine mx_iload 6 d_L_law_2230 rfl ?_
      have hnr := nr_r v
      refine mx_nrm ?_
      refine mx_i2l d_L_law_2232 (by first | assumption | exact hR_2 _ _ | exact hR_1 _ _ | exact hR _ _ | exact r32_mk (by omega) (by omega)) ?_
      refine mx_lcmp d_L_law_2233 (by first | assumption | exact hR_2 _ _ | exact hR_1 _ _ | exact hR _ _ | exact r32_mk (by omega) (by omega)) (by first | assumption | exact hR_2 _ _ | exact hR_1 _ _ | exact hR _ _ | exact r32_mk (by omega) (by omega)) ?_
      refine mx_if_eq 2239 d_L_law_2234 rfl (by first | assumption | exact hR_2 _ _ | exact hR_1 _ _ | exact hR _ _ | exact r32_mk (by omega) (by omega)) (fun c_2234 => ?_) (fun c_2234 => ?_)
      · refine mx_goto 2565 d_L_law_2239 rfl ?_
        exact htail _ _ _ ⟨C2, h2⟩
      · exact absurd (by rw [hout (by assumption), if_neg (Int.lt_irrefl _), if_pos rfl]) c_2234
  · exact absurd h0 (by assumption)
theorem lw_stale {n : Nat} {X : Int → Int} {i : Int} {Q : mj_Q} {o5 o6 : Option mj_V} (hJ : JE X A) (hi : 0 ≤ i ∧ i + 6 ≤ X (-1)) (hX : X (-1) ≤ 3072) (htail : ∀ A2 o5 o6, JE X A2 → mj_X G n_L_law Q A2 (20 * n) (4767 * n) 2565 [some (mR (some 50)), some (mR (some 100)), some (mR (some 200)), some (mR (some 140)), some (mI i), o5, o6] []) : mj_X G n_L_law Q A (20 * (n + 1)) (4767 * (n + 1)) 2242 [some (mR (some 50)), some (mR (some 100)), some (mR (some 200)), some (mR (some 140)), some (mI i), o5, o6] [] := by
  obtain ⟨C, h⟩ := hJ
  have hs := h.s
  have hx := h.x
  have hlen : gI A 50 (-1) = X (-1) := by rw [hx]
  have hns := h.j.m.g.ns
  refine mx_R fun hRA => ?_
  refine mx_less (kc' := 20 * n + 1) (ks' := 4767 * n + 6) (by omega) (by omega) ?_
  refine mx_R fun hR => ?_
  refine mx_aload_n 1 d_L_law_2242 rfl rfl ?_
  refine mx_aload_n 0 d_L_law_2243 rfl rfl ?_
  refine mx_iload 4 d_L_law_2244 rfl ?_
  refine mx_iconst d_L_law_2246 ?_
  refine mx_iadd d_L_law_2247 ?_
  refine mx_sald d_L_law_2248 hs (by omega) (by rw [hlen]; omega) ?_
  refine mx_aload_n 3 d_L_law_2249 rfl rfl ?_
  refine mx_callSH (kc := 20 * n) (ks := 4767 * n) (N := n_L_stale) (as := [_, _, _]) d_L_law_2250 s_L_228 ⟨Nat.le_of_ble_eq_true rfl, Nat.le_of_ble_eq_true rfl⟩ rfl (mj_wt_8 (Nat.le_of_ble_eq_true rfl)) (js_stale h (hRA 50 _)) (fun r A1 hr => ?_) (fun E A_x h => h.elim)
  obtain ⟨kk, rfl, hkk, ⟨hs1, hx1, hm1⟩, hM⟩ := hr
  have hlen1 : gI A1 50 (-1) = X (-1) := by rw [hx1]
  have hA1x : gI A1 50 = gI A 50 := hx1.trans hx.symm
  refine mx_R fun hR => ?_
  refine mx_istore 5 d_L_law_2253 (Nat.le_of_ble_eq_true rfl) ?_
  refine mx_aload_n 2 d_L_law_2255 rfl rfl ?_
  refine mx_aload_n 0 d_L_law_2256 rfl rfl ?_
  refine mx_iload 4 d_L_law_2257 rfl ?_
  refine mx_iconst d_L_law_2259 ?_
  refine mx_iadd d_L_law_2260 ?_
  refine mx_sald d_L_law_2261 hs1 (by omega) (by rw [hlen1]; omega) ?_
  rw [hA1x]
  refine mx_callV (kc := 20*n) (ks := 4767*n) (N := n_M_stale) (as := [_]) (ci := 7) d_L_law_2262 s_L_230 ⟨Nat.le_of_ble_eq_true rfl, Nat.le_of_ble_eq_true rfl⟩ rfl (mj_wt_8 (Nat.le_of_ble_eq_true rfl)) (hm1) ⟨_, rfl, rfl⟩ (hM) (fun r_2262 A_2262 h_2262 => ?_) (fun E_2262 A_x h_2262 => ?_)
  rotate_left
  · exact h_2262.elim
  obtain ⟨v, rfl, h0, hout, C2, h2⟩ := h_2262
  refine mx_R fun hR_1 => ?_
  refine mx_istore 6 d_L_law_2265 (Nat.le_of_ble_eq_true rfl) ?_
  refine mx_aload_n 2 d_L_law_2267 rfl rfl ?_
  refine mx_callV (kc := 20*n) (ks := 4767*n) (N := n_M_thrown) (as := []) (ci := 7) d_L_law_2268 s_L_134 ⟨Nat.le_of_ble_eq_true rfl, Nat.le_of_ble_eq_true rfl⟩ rfl (mj_wt_8 (Nat.le_of_ble_eq_true rfl)) (h2.j.m.M.o) ⟨_, rfl, rfl⟩ (cm_thrown h2.j.m.M) (fun r_2268 A_2268 h_2268 => ?_) (fun E_2268 A_x h_2268 => ?_)
  rotate_left
  · exact h_2268.elim
  obtain ⟨rfl, hA_2268⟩ := h_2268
  obtain rfl := hA_2268.symm
  clear hA_2268
  refine mx_R fun hR_2 => ?_
  refine mx_iload 5 d_L_law_2271 rfl ?_
  refine mx_icmp_eq 2278 d_L_law_2273 rfl (by first | assumption | exact hR_2 _ _ | exact hR_1 _ _ | exact hR _ _ | exact r32_mk (by omega) (by omega)) (by first | assumption | exact hR_2 _ _ | exact hR_1 _ _ | exact hR _ _ | exact r32_mk (by omega) (by omega)) (fun c_2273 => ?_) (fun c_2273 => ?_)
  · refine mx_iload 5 d_L_law_2278 rfl ?_
    refine mx_if_ne 2295 d_L_law_2280 rfl (by first | assumption | exact hR_2 _ _ | exact hR_1 _ _ | exact hR _ _ | exact r32_mk (by omega) (by omega)) (fun c_2280 => ?_) (fun c_2280 => ?_)
    · refine mx_goto 2565 d_L_law_2295 rfl ?_
      exact htail _ _ _ ⟨C2, h2⟩
    · refine mx_aload_n 3 d_L_law_2283 rfl rfl ?_
      refine mx_iconst d_L_law_2284 ?_
      refine mx_lald d_L_law_2285 (h2.j.y.o) (by omega) (by omega) ?_
      refine mx_iload 6 d_L_law_2286 rfl ?_
      have hnr := nr_r v
      refine mx_nrm ?_
      refine mx_i2l d_L_law_2288 (by first | assumption | exact hR_2 _ _ | exact hR_1 _ _ | exact hR _ _ | exact r32_mk (by omega) (by omega)) ?_
      refine mx_lcmp d_L_law_2289 (by first | assumption | exact hR_2 _ _ | exact hR_1 _ _ | exact hR _ _ | exact r32_mk (by omega) (by omega)) (by first | assumption | exact hR_2 _ _ | exact hR_1 _ _ | exact hR _ _ | exact r32_mk (by omega) (by omega)) ?_
      refine mx_if_eq 2295 d_L_law_2290 rfl (by first | assumption | exact hR_2 _ _ | exact hR_1 _ _ | exact hR _ _ | exact r32_mk (by omega) (by omega)) (fun c_2290 => ?_) (fun c_2290 => ?_)
      · refine mx_goto 2565 d_L_law_2295 rfl ?_
        exact htail _ _ _ ⟨C2, h2⟩
      · exact absurd (by rw [hout (by assumption), if_neg (Int.lt_irrefl _), if_pos rfl]) c_2290
  · exact absurd h0 (by assumption)
theorem lw_hangs {n : Nat} {X : Int → Int} {i : Int} {Q : mj_Q} {o5 o6 : Option mj_V} (hJ : JE X A) (hi : 0 ≤ i ∧ i + 6 ≤ X (-1)) (hX : X (-1) ≤ 3072) (htail : ∀ A2 o5 o6, JE X A2 → mj_X G n_L_law Q A2 (20 * n) (4767 * n) 2565 [some (mR (some 50)), some (mR (some 100)), some (mR (some 200)), some (mR (some 140)), some (mI i), o5, o6] []) : mj_X G n_L_law Q A (20 * (n + 1)) (4767 * (n + 1)) 2298 [some (mR (some 50)), some (mR (some 100)), some (mR (some 200)), some (mR (some 140)), some (mI i), o5, o6] [] := by
  obtain ⟨C, h⟩ := hJ
  have hs := h.s
  have hx := h.x
  have hlen : gI A 50 (-1) = X (-1) := by rw [hx]
  have hns := h.j.m.g.ns
  refine mx_R fun hRA => ?_
  refine mx_less (kc' := 20 * n + 3) (ks' := 4767 * n + 18) (by omega) (by omega) ?_
  refine mx_R fun hR => ?_
  refine mx_aload_n 1 d_L_law_2298 rfl rfl ?_
  refine mx_aload_n 0 d_L_law_2299 rfl rfl ?_
  refine mx_iload 4 d_L_law_2300 rfl ?_
  refine mx_iconst d_L_law_2302 ?_
  refine mx_iadd d_L_law_2303 ?_
  refine mx_sald d_L_law_2304 hs (by omega) (by rw [hlen]; omega) ?_
  refine mx_aload_n 0 d_L_law_2305 rfl rfl ?_
  refine mx_iload 4 d_L_law_2306 rfl ?_
  refine mx_iconst d_L_law_2308 ?_
  refine mx_iadd d_L_law_2309 ?_
  refine mx_sald d_L_law_2310 hs (by omega) (by rw [hlen]; omega) ?_
  refine mx_aload_n 0 d_L_law_2311 rfl rfl ?_
  refine mx_iload 4 d_L_law_2312 rfl ?_
  refine mx_iconst d_L_law_2314 ?_
  refine mx_iadd d_L_law_2315 ?_
  refine mx_sald d_L_law_2316 hs (by omega) (by rw [hlen]; omega) ?_
  refine mx_aload_n 3 d_L_law_2317 rfl rfl ?_
  refine mx_callSH (kc := 20 * n) (ks := 4767 * n) (N := n_L_hangs) (as := [_, _, _, _, _]) d_L_law_2318 s_L_231 ⟨Nat.le_of_ble_eq_true rfl, Nat.le_of_ble_eq_true rfl⟩ rfl (mj_wt_8 (Nat.le_of_ble_eq_true rfl)) (js_hangs h (hRA 50 _) (hRA 50 _) (hRA 50 _)) (fun r A1 hr => ?_) (fun E A_x h => h.elim)
  obtain ⟨kk, rfl, hkk, ⟨hs1, hx1, hm1⟩, hM⟩ := hr
  have hlen1 : gI A1 50 (-1) = X (-1) := by rw [hx1]
  have hA1x : gI A1 50 = gI A 50 := hx1.trans hx.symm
  refine mx_R fun hR => ?_
  refine mx_istore 5 d_L_law_2321 (Nat.le_of_ble_eq_true rfl) ?_
  refine mx_aload_n 2 d_L_law_2323 rfl rfl ?_
  refine mx_aload_n 0 d_L_law_2324 rfl rfl ?_
  refine mx_iload 4 d_L_law_2325 rfl ?_
  refine mx_iconst d_L_law_2327 ?_
  refine mx_iadd d_L_law_2328 ?_
  refine mx_sald d_L_law_2329 hs1 (by omega) (by rw [hlen1]; omega) ?_
  rw [hA1x]
  refine mx_aload_n 0 d_L_law_2330 rfl rfl ?_
  refine mx_iload 4 d_L_law_2331 rfl ?_
  refine mx_iconst d_L_law_2333 ?_
  refine mx_iadd d_L_law_2334 ?_
  refine mx_sald d_L_law_2335 hs1 (by omega) (by rw [hlen1]; omega) ?_
  rw [hA1x]
  refine mx_aload_n 0 d_L_law_2336 rfl rfl ?_
  refine mx_iload 4 d_L_law_2337 rfl ?_
  refine mx_iconst d_L_law_2339 ?_
  refine mx_iadd d_L_law_2340 ?_
  refine mx_sald d_L_law_2341 hs1 (by omega) (by rw [hlen1]; omega) ?_
  rw [hA1x]
  refine mx_callV (kc := 20*n) (ks := 4767*n) (N := n_M_hangs) (as := [_, _, _]) (ci := 7) d_L_law_2342 s_L_233 ⟨Nat.le_of_ble_eq_true rfl, Nat.le_of_ble_eq_true rfl⟩ rfl (mj_wt_8 (Nat.le_of_ble_eq_true rfl)) (hm1) ⟨_, rfl, rfl⟩ (hM) (fun r_2342 A_2342 h_2342 => ?_) (fun E_2342 A_x h_2342 => ?_)
  rotate_left
  · exact h_2342.elim
  obtain ⟨v, rfl, h0, hout, C2, h2⟩ := h_2342
  refine mx_R fun hR_1 => ?_
  refine mx_istore 6 d_L_law_2345 (Nat.le_of_ble_eq_true rfl) ?_
  refine mx_aload_n 2 d_L_law_2347 rfl rfl ?_
  refine mx_callV (kc := 20*n) (ks := 4767*n) (N := n_M_thrown) (as := []) (ci := 7) d_L_law_2348 s_L_134 ⟨Nat.le_of_ble_eq_true rfl, Nat.le_of_ble_eq_true rfl⟩ rfl (mj_wt_8 (Nat.le_of_ble_eq_true rfl)) (h2.j.m.M.o) ⟨_, rfl, rfl⟩ (cm_thrown h2.j.m.M) (fun r_2348 A_2348 h_2348 => ?_) (fun E_2348 A_x h_2348 => ?_)
  rotate_left
  · exact h_2348.elim
  obtain ⟨rfl, hA_2348⟩ := h_2348
  obtain rfl := hA_2348.symm
  clear hA_2348
  refine mx_R fun hR_2 => ?_
  refine mx_iload 5 d_L_law_2351 rfl ?_
  refine mx_icmp_eq 2358 d_L_law_2353 rfl (by first | assumption | exact hR_2 _ _ | exact hR_1 _ _ | exact hR _ _ | exact r32_mk (by omega) (by omega)) (by first | assumption | exact hR_2 _ _ | exact hR_1 _ _ | exact hR _ _ | exact r32_mk (by omega) (by omega)) (fun c_2353 => ?_) (fun c_2353 => ?_)
  · refine mx_iload 5 d_L_law_2358 rfl ?_
    refine mx_if_ne 2382 d_L_law_2360 rfl (by first | assumption | exact hR_2 _ _ | exact hR_1 _ _ | exact hR _ _ | exact r32_mk (by omega) (by omega)) (fun c_2360 => ?_) (fun c_2360 => ?_)
    · refine mx_goto 2565 d_L_law_2382 rfl ?_
      exact htail _ _ _ ⟨C2, h2⟩
    · refine mx_aload_n 3 d_L_law_2363 rfl rfl ?_
      refine mx_iconst d_L_law_2364 ?_
      refine mx_lald d_L_law_2365 (h2.j.y.o) (by omega) (by omega) ?_
      refine mx_iload 6 d_L_law_2366 rfl ?_
      have hv01 := (hout (by assumption)).2
      refine mx_if_eq 2375 d_L_law_2368 rfl (r32_01 hv01) (fun c_2368 => ?_) (fun c_2368 => ?_)
      · refine mx_lconst (z := 0) d_L_law_2375 (by decide) ?_
        refine mx_lcmp d_L_law_2376 (by first | assumption | exact hR_2 _ _ | exact hR_1 _ _ | exact hR _ _ | exact r32_mk (by omega) (by omega)) (by first | assumption | exact hR_2 _ _ | exact hR_1 _ _ | exact hR _ _ | exact r32_mk (by omega) (by omega)) ?_
        refine mx_if_eq 2382 d_L_law_2377 rfl (by first | assumption | exact hR_2 _ _ | exact hR_1 _ _ | exact hR _ _ | exact r32_mk (by omega) (by omega)) (fun c_2377 => ?_) (fun c_2377 => ?_)
        · refine mx_goto 2565 d_L_law_2382 rfl ?_
          exact htail _ _ _ ⟨C2, h2⟩
        · exfalso
          have ho := (hout (by assumption)).1
          first
            | (rw [ho, nr_0 (by assumption)] at c_2377; exact absurd (by decide) c_2377)
            | (rw [ho, nr_1 (hv01.resolve_left (by assumption))] at c_2377; exact absurd (by decide) c_2377)
      · refine mx_lconst (z := 1) d_L_law_2371 (by decide) ?_
        refine mx_goto 2376 d_L_law_2372 rfl ?_
        refine mx_lcmp d_L_law_2376 (by first | assumption | exact hR_2 _ _ | exact hR_1 _ _ | exact hR _ _ | exact r32_mk (by omega) (by omega)) (by first | assumption | exact hR_2 _ _ | exact hR_1 _ _ | exact hR _ _ | exact r32_mk (by omega) (by omega)) ?_
        refine mx_if_eq 2382 d_L_law_2377 rfl (by first | assumption | exact hR_2 _ _ | exact hR_1 _ _ | exact hR _ _ | exact r32_mk (by omega) (by omega)) (fun c_2377 => ?_) (fun c_2377 => ?_)
        · refine mx_goto 2565 d_L_law_2382 rfl ?_
          exact htail _ _ _ ⟨C2, h2⟩
        · exfalso
          have ho := (hout (by assumption)).1
          first
            | (rw [ho, nr_0 (by assumption)] at c_2377; exact absurd (by decide) c_2377)
            | (rw [ho, nr_1 (hv01.resolve_left (by assumption))] at c_2377; exact absurd (by decide) c_2377)
  · exact absurd h0 (by assumption)
theorem lw_faults {n : Nat} {X : Int → Int} {i : Int} {Q : mj_Q} {o5 o6 : Option mj_V} (hJ : JE X A) (hi : 0 ≤ i ∧ i + 6 ≤ X (-1)) (hX : X (-1) ≤ 3072) (htail : ∀ A2 o5 o6, JE X A2 → mj_X G n_L_law Q A2 (20 * n) (4767 * n) 2565 [some (mR (some 50)), some (mR (some 100)), some (mR (some 200)), some (mR (some 140)), some (mI i), o5, o6] []) : mj_X G n_L_law Q A (20 * (n + 1)) (4767 * (n + 1)) 2385 [some (mR (some 50)), some (mR (some 100)), some (mR (some 200)), some (mR (some 140)), some (mI i), o5, o6] [] := by
  obtain ⟨C, h⟩ := hJ
  have hs := h.s
  have hx := h.x
  have hlen : gI A 50 (-1) = X (-1) := by rw [hx]
  have hns := h.j.m.g.ns
  refine mx_R fun hRA => ?_
  refine mx_less (kc' := 20 * n + 2) (ks' := 4767 * n + 12) (by omega) (by omega) ?_
  refine mx_R fun hR => ?_
  refine mx_aload_n 1 d_L_law_2385 rfl rfl ?_
  refine mx_aload_n 0 d_L_law_2386 rfl rfl ?_
  refine mx_iload 4 d_L_law_2387 rfl ?_
  refine mx_iconst d_L_law_2389 ?_
  refine mx_iadd d_L_law_2390 ?_
  refine mx_sald d_L_law_2391 hs (by omega) (by rw [hlen]; omega) ?_
  refine mx_aload_n 0 d_L_law_2392 rfl rfl ?_
  refine mx_iload 4 d_L_law_2393 rfl ?_
  refine mx_iconst d_L_law_2395 ?_
  refine mx_iadd d_L_law_2396 ?_
  refine mx_sald d_L_law_2397 hs (by omega) (by rw [hlen]; omega) ?_
  refine mx_aload_n 3 d_L_law_2398 rfl rfl ?_
  refine mx_callSH (kc := 20 * n) (ks := 4767 * n) (N := n_L_faults) (as := [_, _, _, _]) d_L_law_2399 s_L_234 ⟨Nat.le_of_ble_eq_true rfl, Nat.le_of_ble_eq_true rfl⟩ rfl (mj_wt_8 (Nat.le_of_ble_eq_true rfl)) (js_faults h (hRA 50 _) (hRA 50 _)) (fun r A1 hr => ?_) (fun E A_x h => h.elim)
  obtain ⟨kk, rfl, hkk, ⟨hs1, hx1, hm1⟩, hM⟩ := hr
  have hlen1 : gI A1 50 (-1) = X (-1) := by rw [hx1]
  have hA1x : gI A1 50 = gI A 50 := hx1.trans hx.symm
  refine mx_R fun hR => ?_
  refine mx_istore 5 d_L_law_2402 (Nat.le_of_ble_eq_true rfl) ?_
  refine mx_aload_n 2 d_L_law_2404 rfl rfl ?_
  refine mx_aload_n 0 d_L_law_2405 rfl rfl ?_
  refine mx_iload 4 d_L_law_2406 rfl ?_
  refine mx_iconst d_L_law_2408 ?_
  refine mx_iadd d_L_law_2409 ?_
  refine mx_sald d_L_law_2410 hs1 (by omega) (by rw [hlen1]; omega) ?_
  rw [hA1x]
  refine mx_aload_n 0 d_L_law_2411 rfl rfl ?_
  refine mx_iload 4 d_L_law_2412 rfl ?_
  refine mx_iconst d_L_law_2414 ?_
  refine mx_iadd d_L_law_2415 ?_
  refine mx_sald d_L_law_2416 hs1 (by omega) (by rw [hlen1]; omega) ?_
  rw [hA1x]
  refine mx_callV (kc := 20*n) (ks := 4767*n) (N := n_M_faults) (as := [_, _]) (ci := 7) d_L_law_2417 s_L_236 ⟨Nat.le_of_ble_eq_true rfl, Nat.le_of_ble_eq_true rfl⟩ rfl (mj_wt_8 (Nat.le_of_ble_eq_true rfl)) (hm1) ⟨_, rfl, rfl⟩ (hM) (fun r_2417 A_2417 h_2417 => ?_) (fun E_2417 A_x h_2417 => ?_)
  rotate_left
  · exact h_2417.elim
  obtain ⟨v, rfl, h0, hout, C2, h2⟩ := h_2417
  refine mx_R fun hR_1 => ?_
  refine mx_istore 6 d_L_law_2420 (Nat.le_of_ble_eq_true rfl) ?_
  refine mx_aload_n 2 d_L_law_2422 rfl rfl ?_
  refine mx_callV (kc := 20*n) (ks := 4767*n) (N := n_M_thrown) (as := []) (ci := 7) d_L_law_2423 s_L_134 ⟨Nat.le_of_ble_eq_true rfl, Nat.le_of_ble_eq_true rfl⟩ rfl (mj_wt_8 (Nat.le_of_ble_eq_true rfl)) (h2.j.m.M.o) ⟨_, rfl, rfl⟩ (cm_thrown h2.j.m.M) (fun r_2423 A_2423 h_2423 => ?_) (fun E_2423 A_x h_2423 => ?_)
  rotate_left
  · exact h_2423.elim
  obtain ⟨rfl, hA_2423⟩ := h_2423
  obtain rfl := hA_2423.symm
  clear hA_2423
  refine mx_R fun hR_2 => ?_
  refine mx_iload 5 d_L_law_2426 rfl ?_
  refine mx_icmp_eq 2433 d_L_law_2428 rfl (by first | assumption | exact hR_2 _ _ | exact hR_1 _ _ | exact hR _ _ | exact r32_mk (by omega) (by omega)) (by first | assumption | exact hR_2 _ _ | exact hR_1 _ _ | exact hR _ _ | exact r32_mk (by omega) (by omega)) (fun c_2428 => ?_) (fun c_2428 => ?_)
  · refine mx_iload 5 d_L_law_2433 rfl ?_
    refine mx_if_ne 2450 d_L_law_2435 rfl (by first | assumption | exact hR_2 _ _ | exact hR_1 _ _ | exact hR _ _ | exact r32_mk (by omega) (by omega)) (fun c_2435 => ?_) (fun c_2435 => ?_)
    · refine mx_goto 2565 d_L_law_2450 rfl ?_
      exact htail _ _ _ ⟨C2, h2⟩
    · refine mx_aload_n 3 d_L_law_2438 rfl rfl ?_
      refine mx_iconst d_L_law_2439 ?_
      refine mx_lald d_L_law_2440 (h2.j.y.o) (by omega) (by omega) ?_
      refine mx_iload 6 d_L_law_2441 rfl ?_
      have hnr := nr_r v
      refine mx_nrm ?_
      refine mx_i2l d_L_law_2443 (by first | assumption | exact hR_2 _ _ | exact hR_1 _ _ | exact hR _ _ | exact r32_mk (by omega) (by omega)) ?_
      refine mx_lcmp d_L_law_2444 (by first | assumption | exact hR_2 _ _ | exact hR_1 _ _ | exact hR _ _ | exact r32_mk (by omega) (by omega)) (by first | assumption | exact hR_2 _ _ | exact hR_1 _ _ | exact hR _ _ | exact r32_mk (by omega) (by omega)) ?_
      refine mx_if_eq 2450 d_L_law_2445 rfl (by first | assumption | exact hR_2 _ _ | exact hR_1 _ _ | exact hR _ _ | exact r32_mk (by omega) (by omega)) (fun c_2445 => ?_) (fun c_2445 => ?_)
      · refine mx_goto 2565 d_L_law_2450 rfl ?_
        exact htail _ _ _ ⟨C2, h2⟩
      · exact absurd (by rw [hout (by assumption), if_neg (Int.lt_irrefl _), if_pos rfl]) c_2445
  · exact absurd h0 (by assumption)
theorem lw_hours {n : Nat} {X : Int → Int} {i : Int} {Q : mj_Q} {o5 o6 : Option mj_V} (hJ : JE X A) (hi : 0 ≤ i ∧ i + 6 ≤ X (-1)) (hX : X (-1) ≤ 3072) (htail : ∀ A2 o5 o6, JE X A2 → mj_X G n_L_law Q A2 (20 * n) (4767 * n) 2565 [some (mR (some 50)), some (mR (some 100)), some (mR (some 200)), some (mR (some 140)), some (mI i), o5, o6] []) : mj_X G n_L_law Q A (20 * (n + 1)) (4767 * (n + 1)) 2453 [some (mR (some 50)), some (mR (some 100)), some (mR (some 200)), some (mR (some 140)), some (mI i), o5, o6] [] := by
  obtain ⟨C, h⟩ := hJ
  have hs := h.s
  have hx := h.x
  have hlen : gI A 50 (-1) = X (-1) := by rw [hx]
  have hns := h.j.m.g.ns
  refine mx_R fun hRA => ?_
  refine mx_less (kc' := 20 * n + 1) (ks' := 4767 * n + 6) (by omega) (by omega) ?_
  refine mx_R fun hR => ?_
  refine mx_aload_n 1 d_L_law_2453 rfl rfl ?_
  refine mx_aload_n 0 d_L_law_2454 rfl rfl ?_
  refine mx_iload 4 d_L_law_2455 rfl ?_
  refine mx_iconst d_L_law_2457 ?_
  refine mx_iadd d_L_law_2458 ?_
  refine mx_sald d_L_law_2459 hs (by omega) (by rw [hlen]; omega) ?_
  refine mx_aload_n 3 d_L_law_2460 rfl rfl ?_
  refine mx_callSH (kc := 20 * n) (ks := 4767 * n) (N := n_L_hours) (as := [_, _, _]) d_L_law_2461 s_L_237 ⟨Nat.le_of_ble_eq_true rfl, Nat.le_of_ble_eq_true rfl⟩ rfl (mj_wt_8 (Nat.le_of_ble_eq_true rfl)) (js_hours h (hRA 50 _)) (fun r A1 hr => ?_) (fun E A_x h => h.elim)
  obtain ⟨kk, rfl, hkk, ⟨hs1, hx1, hm1⟩, hM⟩ := hr
  have hlen1 : gI A1 50 (-1) = X (-1) := by rw [hx1]
  have hA1x : gI A1 50 = gI A 50 := hx1.trans hx.symm
  refine mx_R fun hR => ?_
  refine mx_istore 5 d_L_law_2464 (Nat.le_of_ble_eq_true rfl) ?_
  refine mx_aload_n 2 d_L_law_2466 rfl rfl ?_
  refine mx_aload_n 0 d_L_law_2467 rfl rfl ?_
  refine mx_iload 4 d_L_law_2468 rfl ?_
  refine mx_iconst d_L_law_2470 ?_
  refine mx_iadd d_L_law_2471 ?_
  refine mx_sald d_L_law_2472 hs1 (by omega) (by rw [hlen1]; omega) ?_
  rw [hA1x]
  refine mx_callV (kc := 20*n) (ks := 4767*n) (N := n_M_hours) (as := [_]) (ci := 7) d_L_law_2473 s_L_239 ⟨Nat.le_of_ble_eq_true rfl, Nat.le_of_ble_eq_true rfl⟩ rfl (mj_wt_8 (Nat.le_of_ble_eq_true rfl)) (hm1) ⟨_, rfl, rfl⟩ (hM) (fun r_2473 A_2473 h_2473 => ?_) (fun E_2473 A_x h_2473 => ?_)
  rotate_left
  · exact h_2473.elim
  obtain ⟨v, rfl, h0, hout, C2, h2⟩ := h_2473
  refine mx_R fun hR_1 => ?_
  refine mx_istore 6 d_L_law_2476 (Nat.le_of_ble_eq_true rfl) ?_
  refine mx_aload_n 2 d_L_law_2478 rfl rfl ?_
  refine mx_callV (kc := 20*n) (ks := 4767*n) (N := n_M_thrown) (as := []) (ci := 7) d_L_law_2479 s_L_134 ⟨Nat.le_of_ble_eq_true rfl, Nat.le_of_ble_eq_true rfl⟩ rfl (mj_wt_8 (Nat.le_of_ble_eq_true rfl)) (h2.j.m.M.o) ⟨_, rfl, rfl⟩ (cm_thrown h2.j.m.M) (fun r_2479 A_2479 h_2479 => ?_) (fun E_2479 A_x h_2479 => ?_)
  rotate_left
  · exact h_2479.elim
  obtain ⟨rfl, hA_2479⟩ := h_2479
  obtain rfl := hA_2479.symm
  clear hA_2479
  refine mx_R fun hR_2 => ?_
  refine mx_iload 5 d_L_law_2482 rfl ?_
  refine mx_icmp_eq 2489 d_L_law_2484 rfl (by first | assumption | exact hR_2 _ _ | exact hR_1 _ _ | exact hR _ _ | exact r32_mk (by omega) (by omega)) (by first | assumption | exact hR_2 _ _ | exact hR_1 _ _ | exact hR _ _ | exact r32_mk (by omega) (by omega)) (fun c_2484 => ?_) (fun c_2484 => ?_)
  · refine mx_iload 5 d_L_law_2489 rfl ?_
    refine mx_if_ne 2506 d_L_law_2491 rfl (by first | assumption | exact hR_2 _ _ | exact hR_1 _ _ | exact hR _ _ | exact r32_mk (by omega) (by omega)) (fun c_2491 => ?_) (fun c_2491 => ?_)
    · refine mx_goto 2565 d_L_law_2506 rfl ?_
      exact htail _ _ _ ⟨C2, h2⟩
    · refine mx_aload_n 3 d_L_law_2494 rfl rfl ?_
      refine mx_iconst d_L_law_2495 ?_
      refine mx_lald d_L_law_2496 (h2.j.y.o) (by omega) (by omega) ?_
      refine mx_iload 6 d_L_law_2497 rfl ?_
      have hnr := nr_r v
      refine mx_nrm ?_
      refine mx_i2l d_L_law_2499 (by first | assumption | exact hR_2 _ _ | exact hR_1 _ _ | exact hR _ _ | exact r32_mk (by omega) (by omega)) ?_
      refine mx_lcmp d_L_law_2500 (by first | assumption | exact hR_2 _ _ | exact hR_1 _ _ | exact hR _ _ | exact r32_mk (by omega) (by omega)) (by first | assumption | exact hR_2 _ _ | exact hR_1 _ _ | exact hR _ _ | exact r32_mk (by omega) (by omega)) ?_
      refine mx_if_eq 2506 d_L_law_2501 rfl (by first | assumption | exact hR_2 _ _ | exact hR_1 _ _ | exact hR _ _ | exact r32_mk (by omega) (by omega)) (fun c_2501 => ?_) (fun c_2501 => ?_)
      · refine mx_goto 2565 d_L_law_2506 rfl ?_
        exact htail _ _ _ ⟨C2, h2⟩
      · exact absurd (by rw [hout (by assumption), if_neg (Int.lt_irrefl _), if_pos rfl]) c_2501
  · exact absurd h0 (by assumption)
theorem lw_film {n : Nat} {X : Int → Int} {i : Int} {Q : mj_Q} {o5 o6 : Option mj_V} (hJ : JE X A) (hi : 0 ≤ i ∧ i + 6 ≤ X (-1)) (hX : X (-1) ≤ 3072) (htail : ∀ A2 o5 o6, JE X A2 → mj_X G n_L_law Q A2 (20 * n) (4767 * n) 2565 [some (mR (some 50)), some (mR (some 100)), some (mR (some 200)), some (mR (some 140)), some (mI i), o5, o6] []) : mj_X G n_L_law Q A (20 * (n + 1)) (4767 * (n + 1)) 2509 [some (mR (some 50)), some (mR (some 100)), some (mR (some 200)), some (mR (some 140)), some (mI i), o5, o6] [] := by
  obtain ⟨C, h⟩ := hJ
  have hs := h.s
  have hx := h.x
  have hlen : gI A 50 (-1) = X (-1) := by rw [hx]
  have hns := h.j.m.g.ns
  refine mx_R fun hRA => ?_
  refine mx_less (kc' := 20 * n + 1) (ks' := 4767 * n + 6) (by omega) (by omega) ?_
  refine mx_R fun hR => ?_
  refine mx_aload_n 1 d_L_law_2509 rfl rfl ?_
  refine mx_aload_n 0 d_L_law_2510 rfl rfl ?_
  refine mx_iload 4 d_L_law_2511 rfl ?_
  refine mx_iconst d_L_law_2513 ?_
  refine mx_iadd d_L_law_2514 ?_
  refine mx_sald d_L_law_2515 hs (by omega) (by rw [hlen]; omega) ?_
  refine mx_aload_n 3 d_L_law_2516 rfl rfl ?_
  refine mx_callSH (kc := 20 * n) (ks := 4767 * n) (N := n_L_film) (as := [_, _, _]) d_L_law_2517 s_L_240 ⟨Nat.le_of_ble_eq_true rfl, Nat.le_of_ble_eq_true rfl⟩ rfl (mj_wt_8 (Nat.le_of_ble_eq_true rfl)) (js_film h (hRA 50 _)) (fun r A1 hr => ?_) (fun E A_x h => h.elim)
  obtain ⟨kk, rfl, hkk, ⟨hs1, hx1, hm1⟩, hM⟩ := hr
  have hlen1 : gI A1 50 (-1) = X (-1) := by rw [hx1]
  have hA1x : gI A1 50 = gI A 50 := hx1.trans hx.symm
  refine mx_R fun hR => ?_
  refine mx_istore 5 d_L_law_2520 (Nat.le_of_ble_eq_true rfl) ?_
  refine mx_aload_n 2 d_L_law_2522 rfl rfl ?_
  refine mx_aload_n 0 d_L_law_2523 rfl rfl ?_
  refine mx_iload 4 d_L_law_2524 rfl ?_
  refine mx_iconst d_L_law_2526 ?_
  refine mx_iadd d_L_law_2527 ?_
  refine mx_sald d_L_law_2528 hs1 (by omega) (by rw [hlen1]; omega) ?_
  rw [hA1x]
  refine mx_callV (kc := 20*n) (ks := 4767*n) (N := n_M_film) (as := [_]) (ci := 7) d_L_law_2529 s_L_242 ⟨Nat.le_of_ble_eq_true rfl, Nat.le_of_ble_eq_true rfl⟩ rfl (mj_wt_8 (Nat.le_of_ble_eq_true rfl)) (hm1) ⟨_, rfl, rfl⟩ (hM) (fun r_2529 A_2529 h_2529 => ?_) (fun E_2529 A_x h_2529 => ?_)
  rotate_left
  · exact h_2529.elim
  obtain ⟨v, rfl, h0, hout, C2, h2⟩ := h_2529
  refine mx_R fun hR_1 => ?_
  refine mx_istore 6 d_L_law_2532 (Nat.le_of_ble_eq_true rfl) ?_
  refine mx_aload_n 2 d_L_law_2534 rfl rfl ?_
  refine mx_callV (kc := 20*n) (ks := 4767*n) (N := n_M_thrown) (as := []) (ci := 7) d_L_law_2535 s_L_134 ⟨Nat.le_of_ble_eq_true rfl, Nat.le_of_ble_eq_true rfl⟩ rfl (mj_wt_8 (Nat.le_of_ble_eq_true rfl)) (h2.j.m.M.o) ⟨_, rfl, rfl⟩ (cm_thrown h2.j.m.M) (fun r_2535 A_2535 h_2535 => ?_) (fun E_2535 A_x h_2535 => ?_)
  rotate_left
  · exact h_2535.elim
  obtain ⟨rfl, hA_2535⟩ := h_2535
  obtain rfl := hA_2535.symm
  clear hA_2535
  refine mx_R fun hR_2 => ?_
  refine mx_iload 5 d_L_law_2538 rfl ?_
  refine mx_icmp_eq 2545 d_L_law_2540 rfl (by first | assumption | exact hR_2 _ _ | exact hR_1 _ _ | exact hR _ _ | exact r32_mk (by omega) (by omega)) (by first | assumption | exact hR_2 _ _ | exact hR_1 _ _ | exact hR _ _ | exact r32_mk (by omega) (by omega)) (fun c_2540 => ?_) (fun c_2540 => ?_)
  · refine mx_iload 5 d_L_law_2545 rfl ?_
    refine mx_if_ne 2562 d_L_law_2547 rfl (by first | assumption | exact hR_2 _ _ | exact hR_1 _ _ | exact hR _ _ | exact r32_mk (by omega) (by omega)) (fun c_2547 => ?_) (fun c_2547 => ?_)
    · refine mx_goto 2565 d_L_law_2562 rfl ?_
      exact htail _ _ _ ⟨C2, h2⟩
    · refine mx_aload_n 3 d_L_law_2550 rfl rfl ?_
      refine mx_iconst d_L_law_2551 ?_
      refine mx_lald d_L_law_2552 (h2.j.y.o) (by omega) (by omega) ?_
      refine mx_iload 6 d_L_law_2553 rfl ?_
      have hnr := nr_r v
      refine mx_nrm ?_
      refine mx_i2l d_L_law_2555 (by first | assumption | exact hR_2 _ _ | exact hR_1 _ _ | exact hR _ _ | exact r32_mk (by omega) (by omega)) ?_
      refine mx_lcmp d_L_law_2556 (by first | assumption | exact hR_2 _ _ | exact hR_1 _ _ | exact hR _ _ | exact r32_mk (by omega) (by omega)) (by first | assumption | exact hR_2 _ _ | exact hR_1 _ _ | exact hR _ _ | exact r32_mk (by omega) (by omega)) ?_
      refine mx_if_eq 2562 d_L_law_2557 rfl (by first | assumption | exact hR_2 _ _ | exact hR_1 _ _ | exact hR _ _ | exact r32_mk (by omega) (by omega)) (fun c_2557 => ?_) (fun c_2557 => ?_)
      · refine mx_goto 2565 d_L_law_2562 rfl ?_
        exact htail _ _ _ ⟨C2, h2⟩
      · exact absurd (by rw [hout (by assumption), if_neg (Int.lt_irrefl _), if_pos rfl]) c_2557
  · exact absurd h0 (by assumption)
end LAWE
