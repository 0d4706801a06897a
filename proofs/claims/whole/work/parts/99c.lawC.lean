/-! THE LAW, 9: its cases -/
section LAWC
variable {G : mj_G} {A : mj_M}
theorem lw_scene {n : Nat} {X : Int → Int} {i : Int} {Q : mj_Q} {o5 o6 : Option mj_V} (hJ : JE X A) (hi : 0 ≤ i ∧ i + 6 ≤ X (-1)) (hX : X (-1) ≤ 3072) (htail : ∀ A2 o5 o6, JE X A2 → mj_X G n_L_law Q A2 (20 * n) (4767 * n) 2565 [some (mR (some 50)), some (mR (some 100)), some (mR (some 200)), some (mR (some 140)), some (mI i), o5, o6] []) : mj_X G n_L_law Q A (20 * (n + 1)) (4767 * (n + 1)) 846 [some (mR (some 50)), some (mR (some 100)), some (mR (some 200)), some (mR (some 140)), some (mI i), o5, o6] [] := by
  obtain ⟨C, h⟩ := hJ
  have hs := h.s
  have hx := h.x
  have hlen : gI A 50 (-1) = X (-1) := by rw [hx]
  have hns := h.j.m.g.ns
  refine mx_R fun hRA => ?_
  refine mx_less (kc' := 20 * n + 10) (ks' := 4767 * n + 4767) (by omega) (by omega) ?_
  refine mx_R fun hR => ?_
  refine mx_aload_n 1 d_L_law_846 rfl rfl ?_
  refine mx_aload_n 0 d_L_law_847 rfl rfl ?_
  refine mx_iload 4 d_L_law_848 rfl ?_
  refine mx_iconst d_L_law_850 ?_
  refine mx_iadd d_L_law_851 ?_
  refine mx_sald d_L_law_852 hs (by omega) (by rw [hlen]; omega) ?_
  refine mx_aload_n 0 d_L_law_853 rfl rfl ?_
  refine mx_iload 4 d_L_law_854 rfl ?_
  refine mx_iconst d_L_law_856 ?_
  refine mx_iadd d_L_law_857 ?_
  refine mx_sald d_L_law_858 hs (by omega) (by rw [hlen]; omega) ?_
  refine mx_aload_n 3 d_L_law_859 rfl rfl ?_
  refine mx_callSH (kc := 20 * n) (ks := 4767 * n) (N := n_L_scene) (as := [_, _, _, _]) d_L_law_860 s_L_168 ⟨Nat.le_of_ble_eq_true rfl, Nat.le_of_ble_eq_true rfl⟩ rfl (mj_wt_8 (Nat.le_of_ble_eq_true rfl)) (js_scene h (hRA 50 _) (hRA 50 _)) (fun r A1 hr => ?_) (fun E A_x h => h.elim)
  obtain ⟨kk, rfl, hkk, ⟨hs1, hx1, hm1⟩, hM⟩ := hr
  have hlen1 : gI A1 50 (-1) = X (-1) := by rw [hx1]
  have hA1x : gI A1 50 = gI A 50 := hx1.trans hx.symm
  refine mx_R fun hR => ?_
  refine mx_istore 5 d_L_law_863 (Nat.le_of_ble_eq_true rfl) ?_
  refine mx_aload_n 2 d_L_law_865 rfl rfl ?_
  refine mx_aload_n 0 d_L_law_866 rfl rfl ?_
  refine mx_iload 4 d_L_law_867 rfl ?_
  refine mx_iconst d_L_law_869 ?_
  refine mx_iadd d_L_law_870 ?_
  refine mx_sald d_L_law_871 hs1 (by omega) (by rw [hlen1]; omega) ?_
  rw [hA1x]
  refine mx_aload_n 0 d_L_law_872 rfl rfl ?_
  refine mx_iload 4 d_L_law_873 rfl ?_
  refine mx_iconst d_L_law_875 ?_
  refine mx_iadd d_L_law_876 ?_
  refine mx_sald d_L_law_877 hs1 (by omega) (by rw [hlen1]; omega) ?_
  rw [hA1x]
  refine mx_callV (kc := 20*n) (ks := 4767*n) (N := n_M_scene) (as := [_, _]) (ci := 7) d_L_law_878 s_L_170 ⟨Nat.le_of_ble_eq_true rfl, Nat.le_of_ble_eq_true rfl⟩ rfl (mj_wt_8 (Nat.le_of_ble_eq_true rfl)) (hm1) ⟨_, rfl, rfl⟩ (hM) (fun r_878 A_878 h_878 => ?_) (fun E_878 A_x h_878 => ?_)
  rotate_left
  · exact h_878.elim
  obtain ⟨v, rfl, h0, hout, C2, h2⟩ := h_878
  refine mx_R fun hR_1 => ?_
  refine mx_istore 6 d_L_law_881 (Nat.le_of_ble_eq_true rfl) ?_
  refine mx_aload_n 2 d_L_law_883 rfl rfl ?_
  refine mx_callV (kc := 20*n) (ks := 4767*n) (N := n_M_thrown) (as := []) (ci := 7) d_L_law_884 s_L_134 ⟨Nat.le_of_ble_eq_true rfl, Nat.le_of_ble_eq_true rfl⟩ rfl (mj_wt_8 (Nat.le_of_ble_eq_true rfl)) (h2.j.m.M.o) ⟨_, rfl, rfl⟩ (cm_thrown h2.j.m.M) (fun r_884 A_884 h_884 => ?_) (fun E_884 A_x h_884 => ?_)
  rotate_left
  · exact h_884.elim
  obtain ⟨rfl, hA_884⟩ := h_884
  obtain rfl := hA_884.symm
  clear hA_884
  refine mx_R fun hR_2 => ?_
  refine mx_iload 5 d_L_law_887 rfl ?_
  refine mx_icmp_eq 894 d_L_law_889 rfl (by first | assumption | exact hR_2 _ _ | exact hR_1 _ _ | exact hR _ _ | exact r32_mk (by omega) (by omega)) (by first | assumption | exact hR_2 _ _ | exact hR_1 _ _ | exact hR _ _ | exact r32_mk (by omega) (by omega)) (fun c_889 => ?_) (fun c_889 => ?_)
  · refine mx_iload 5 d_L_law_894 rfl ?_
    refine mx_if_ne 911 d_L_law_896 rfl (by first | assumption | exact hR_2 _ _ | exact hR_1 _ _ | exact hR _ _ | exact r32_mk (by omega) (by omega)) (fun c_896 => ?_) (fun c_896 => ?_)
    · refine mx_goto 2565 d_L_law_911 rfl ?_
      exact htail _ _ _ ⟨C2, h2⟩
    · refine mx_aload_n 3 d_L_law_899 rfl rfl ?_
      refine mx_iconst d_L_law_900 ?_
      refine mx_lald d_L_law_901 (h2.j.y.o) (by omega) (by omega) ?_
      refine mx_iload 6 d_L_law_902 rfl ?_
      have hnr := nr_r v
      refine mx_nrm ?_
      refine mx_i2l d_L_law_904 (by first | assumption | exact hR_2 _ _ | exact hR_1 _ _ | exact hR _ _ | exact r32_mk (by omega) (by omega)) ?_
      refine mx_lcmp d_L_law_905 (by first | assumption | exact hR_2 _ _ | exact hR_1 _ _ | exact hR _ _ | exact r32_mk (by omega) (by omega)) (by first | assumption | exact hR_2 _ _ | exact hR_1 _ _ | exact hR _ _ | exact r32_mk (by omega) (by omega)) ?_
      refine mx_if_eq 911 d_L_law_906 rfl (by first | assumption | exact hR_2 _ _ | exact hR_1 _ _ | exact hR _ _ | exact r32_mk (by omega) (by omega)) (fun c_906 => ?_) (fun c_906 => ?_)
      · refine mx_goto 2565 d_L_law_911 rfl ?_
        exact htail _ _ _ ⟨C2, h2⟩
      · exact absurd (by rw [hout (by assumption), if_neg (Int.lt_irrefl _), if_pos rfl]) c_906
  · exact absurd h0 (by assumption)
theorem lw_expose {n : Nat} {X : Int → Int} {i : Int} {Q : mj_Q} {o5 o6 : Option mj_V} (hJ : JE X A) (hi : 0 ≤ i ∧ i + 6 ≤ X (-1)) (hX : X (-1) ≤ 3072) (htail : ∀ A2 o5 o6, JE X A2 → mj_X G n_L_law Q A2 (20 * n) (4767 * n) 2565 [some (mR (some 50)), some (mR (some 100)), some (mR (some 200)), some (mR (some 140)), some (mI i), o5, o6] []) : mj_X G n_L_law Q A (20 * (n + 1)) (4767 * (n + 1)) 914 [some (mR (some 50)), some (mR (some 100)), some (mR (some 200)), some (mR (some 140)), some (mI i), o5, o6] [] := by
  obtain ⟨C, h⟩ := hJ
  have hs := h.s
  have hx := h.x
  have hlen : gI A 50 (-1) = X (-1) := by rw [hx]
  have hns := h.j.m.g.ns
  refine mx_R fun hRA => ?_
  refine mx_less (kc' := 20 * n + 5) (ks' := 4767 * n + 30) (by omega) (by omega) ?_
  refine mx_R fun hR => ?_
  refine mx_aload_n 1 d_L_law_914 rfl rfl ?_
  refine mx_aload_n 0 d_L_law_915 rfl rfl ?_
  refine mx_iload 4 d_L_law_916 rfl ?_
  refine mx_iconst d_L_law_918 ?_
  refine mx_iadd d_L_law_919 ?_
  refine mx_sald d_L_law_920 hs (by omega) (by rw [hlen]; omega) ?_
  refine mx_aload_n 0 d_L_law_921 rfl rfl ?_
  refine mx_iload 4 d_L_law_922 rfl ?_
  refine mx_iconst d_L_law_924 ?_
  refine mx_iadd d_L_law_925 ?_
  refine mx_sald d_L_law_926 hs (by omega) (by rw [hlen]; omega) ?_
  refine mx_aload_n 0 d_L_law_927 rfl rfl ?_
  refine mx_iload 4 d_L_law_928 rfl ?_
  refine mx_iconst d_L_law_930 ?_
  refine mx_iadd d_L_law_931 ?_
  refine mx_sald d_L_law_932 hs (by omega) (by rw [hlen]; omega) ?_
  refine mx_aload_n 0 d_L_law_933 rfl rfl ?_
  refine mx_iload 4 d_L_law_934 rfl ?_
  refine mx_iconst d_L_law_936 ?_
  refine mx_iadd d_L_law_937 ?_
  refine mx_sald d_L_law_938 hs (by omega) (by rw [hlen]; omega) ?_
  refine mx_aload_n 3 d_L_law_939 rfl rfl ?_
  refine mx_callSH (kc := 20 * n) (ks := 4767 * n) (N := n_L_expose) (as := [_, _, _, _, _, _]) d_L_law_940 s_L_171 ⟨Nat.le_of_ble_eq_true rfl, Nat.le_of_ble_eq_true rfl⟩ rfl (mj_wt_8 (Nat.le_of_ble_eq_true rfl)) (js_expose h (hRA 50 _) (hRA 50 _) (hRA 50 _) (hRA 50 _)) (fun r A1 hr => ?_) (fun E A_x h => h.elim)
  obtain ⟨kk, rfl, hkk, ⟨hs1, hx1, hm1⟩, hM⟩ := hr
  have hlen1 : gI A1 50 (-1) = X (-1) := by rw [hx1]
  have hA1x : gI A1 50 = gI A 50 := hx1.trans hx.symm
  refine mx_R fun hR => ?_
  refine mx_istore 5 d_L_law_943 (Nat.le_of_ble_eq_true rfl) ?_
  refine mx_aload_n 2 d_L_law_945 rfl rfl ?_
  refine mx_aload_n 0 d_L_law_946 rfl rfl ?_
  refine mx_iload 4 d_L_law_947 rfl ?_
  refine mx_iconst d_L_law_949 ?_
  refine mx_iadd d_L_law_950 ?_
  refine mx_sald d_L_law_951 hs1 (by omega) (by rw [hlen1]; omega) ?_
  rw [hA1x]
  refine mx_aload_n 0 d_L_law_952 rfl rfl ?_
  refine mx_iload 4 d_L_law_953 rfl ?_
  refine mx_iconst d_L_law_955 ?_
  refine mx_iadd d_L_law_956 ?_
  refine mx_sald d_L_law_957 hs1 (by omega) (by rw [hlen1]; omega) ?_
  rw [hA1x]
  refine mx_aload_n 0 d_L_law_958 rfl rfl ?_
  refine mx_iload 4 d_L_law_959 rfl ?_
  refine mx_iconst d_L_law_961 ?_
  refine mx_iadd d_L_law_962 ?_
  refine mx_sald d_L_law_963 hs1 (by omega) (by rw [hlen1]; omega) ?_
  rw [hA1x]
  refine mx_aload_n 0 d_L_law_964 rfl rfl ?_
  refine mx_iload 4 d_L_law_965 rfl ?_
  refine mx_iconst d_L_law_967 ?_
  refine mx_iadd d_L_law_968 ?_
  refine mx_sald d_L_law_969 hs1 (by omega) (by rw [hlen1]; omega) ?_
  rw [hA1x]
  refine mx_callV (kc := 20*n) (ks := 4767*n) (N := n_M_expose) (as := [_, _, _, _]) (ci := 7) d_L_law_970 s_L_173 ⟨Nat.le_of_ble_eq_true rfl, Nat.le_of_ble_eq_true rfl⟩ rfl (mj_wt_8 (Nat.le_of_ble_eq_true rfl)) (hm1) ⟨_, rfl, rfl⟩ (hM) (fun r_970 A_970 h_970 => ?_) (fun E_970 A_x h_970 => ?_)
  rotate_left
  · exact h_970.elim
  obtain ⟨v, rfl, h0, hout, C2, h2⟩ := h_970
  refine mx_R fun hR_1 => ?_
  refine mx_istore 6 d_L_law_973 (Nat.le_of_ble_eq_true rfl) ?_
  refine mx_aload_n 2 d_L_law_975 rfl rfl ?_
  refine mx_callV (kc := 20*n) (ks := 4767*n) (N := n_M_thrown) (as := []) (ci := 7) d_L_law_976 s_L_134 ⟨Nat.le_of_ble_eq_true rfl, Nat.le_of_ble_eq_true rfl⟩ rfl (mj_wt_8 (Nat.le_of_ble_eq_true rfl)) (h2.j.m.M.o) ⟨_, rfl, rfl⟩ (cm_thrown h2.j.m.M) (fun r_976 A_976 h_976 => ?_) (fun E_976 A_x h_976 => ?_)
  rotate_left
  · exact h_976.elim
  obtain ⟨rfl, hA_976⟩ := h_976
  obtain rfl := hA_976.symm
  clear hA_976
  refine mx_R fun hR_2 => ?_
  refine mx_iload 5 d_L_law_979 rfl ?_
  refine mx_icmp_eq 986 d_L_law_981 rfl (by first | assumption | exact hR_2 _ _ | exact hR_1 _ _ | exact hR _ _ | exact r32_mk (by omega) (by omega)) (by first | assumption | exact hR_2 _ _ | exact hR_1 _ _ | exact hR _ _ | exact r32_mk (by omega) (by omega)) (fun c_981 => ?_) (fun c_981 => ?_)
  · refine mx_iload 5 d_L_law_986 rfl ?_
    refine mx_if_ne 1003 d_L_law_988 rfl (by first | assumption | exact hR_2 _ _ | exact hR_1 _ _ | exact hR _ _ | exact r32_mk (by omega) (by omega)) (fun c_988 => ?_) (fun c_988 => ?_)
    · refine mx_goto 2565 d_L_law_1003 rfl ?_
      exact htail _ _ _ ⟨C2, h2⟩
    · refine mx_aload_n 3 d_L_law_991 rfl rfl ?_
      refine mx_iconst d_L_law_992 ?_
      refine mx_lald d_L_law_993 (h2.j.y.o) (by omega) (by omega) ?_
      refine mx_iload 6 d_L_law_994 rfl ?_
      have hnr := nr_r v
      refine mx_nrm ?_
      refine mx_i2l d_L_law_996 (by first | assumption | exact hR_2 _ _ | exact hR_1 _ _ | exact hR _ _ | exact r32_mk (by omega) (by omega)) ?_
      refine mx_lcmp d_L_law_997 (by first | assumption | exact hR_2 _ _ | exact hR_1 _ _ | exact hR _ _ | exact r32_mk (by omega) (by omega)) (by first | assumption | exact hR_2 _ _ | exact hR_1 _ _ | exact hR _ _ | exact r32_mk (by omega) (by omega)) ?_
      refine mx_if_eq 1003 d_L_law_998 rfl (by first | assumption | exact hR_2 _ _ | exact hR_1 _ _ | exact hR _ _ | exact r32_mk (by omega) (by omega)) (fun c_998 => ?_) (fun c_998 => ?_)
      · refine mx_goto 2565 d_L_law_1003 rfl ?_
        exact htail _ _ _ ⟨C2, h2⟩
      · exact absurd (by rw [hout (by assumption), if_neg (Int.lt_irrefl _), if_pos rfl]) c_998
  · exact absurd h0 (by assumption)
theorem lw_voice {n : Nat} {X : Int → Int} {i : Int} {Q : mj_Q} {o5 o6 : Option mj_V} (hJ : JE X A) (hi : 0 ≤ i ∧ i + 6 ≤ X (-1)) (hX : X (-1) ≤ 3072) (htail : ∀ A2 o5 o6, JE X A2 → mj_X G n_L_law Q A2 (20 * n) (4767 * n) 2565 [some (mR (some 50)), some (mR (some 100)), some (mR (some 200)), some (mR (some 140)), some (mI i), o5, o6] []) : mj_X G n_L_law Q A (20 * (n + 1)) (4767 * (n + 1)) 1006 [some (mR (some 50)), some (mR (some 100)), some (mR (some 200)), some (mR (some 140)), some (mI i), o5, o6] [] := by
  obtain ⟨C, h⟩ := hJ
  have hs := h.s
  have hx := h.x
  have hlen : gI A 50 (-1) = X (-1) := by rw [hx]
  have hns := h.j.m.g.ns
  refine mx_R fun hRA => ?_
  refine mx_less (kc' := 20 * n + 3) (ks' := 4767 * n + 18) (by omega) (by omega) ?_
  refine mx_R fun hR => ?_
  refine mx_aload_n 1 d_L_law_1006 rfl rfl ?_
  refine mx_aload_n 0 d_L_law_1007 rfl rfl ?_
  refine mx_iload 4 d_L_law_1008 rfl ?_
  refine mx_iconst d_L_law_1010 ?_
  refine mx_iadd d_L_law_1011 ?_
  refine mx_sald d_L_law_1012 hs (by omega) (by rw [hlen]; omega) ?_
  refine mx_aload_n 0 d_L_law_1013 rfl rfl ?_
  refine mx_iload 4 d_L_law_1014 rfl ?_
  refine mx_iconst d_L_law_1016 ?_
  refine mx_iadd d_L_law_1017 ?_
  refine mx_sald d_L_law_1018 hs (by omega) (by rw [hlen]; omega) ?_
  refine mx_aload_n 0 d_L_law_1019 rfl rfl ?_
  refine mx_iload 4 d_L_law_1020 rfl ?_
  refine mx_iconst d_L_law_1022 ?_
  refine mx_iadd d_L_law_1023 ?_
  refine mx_sald d_L_law_1024 hs (by omega) (by rw [hlen]; omega) ?_
  refine mx_aload_n 3 d_L_law_1025 rfl rfl ?_
  refine mx_callSH (kc := 20 * n) (ks := 4767 * n) (N := n_L_voice) (as := [_, _, _, _, _]) d_L_law_1026 s_L_174 ⟨Nat.le_of_ble_eq_true rfl, Nat.le_of_ble_eq_true rfl⟩ rfl (mj_wt_8 (Nat.le_of_ble_eq_true rfl)) (js_voice h (hRA 50 _) (hRA 50 _) (hRA 50 _)) (fun r A1 hr => ?_) (fun E A_x h => h.elim)
  obtain ⟨kk, rfl, hkk, ⟨hs1, hx1, hm1⟩, hM⟩ := hr
  have hlen1 : gI A1 50 (-1) = X (-1) := by rw [hx1]
  have hA1x : gI A1 50 = gI A 50 := hx1.trans hx.symm
  refine mx_R fun hR => ?_
  refine mx_istore 5 d_L_law_1029 (Nat.le_of_ble_eq_true rfl) ?_
  refine mx_aload_n 2 d_L_law_1031 rfl rfl ?_
  refine mx_aload_n 0 d_L_law_1032 rfl rfl ?_
  refine mx_iload 4 d_L_law_1033 rfl ?_
  refine mx_iconst d_L_law_1035 ?_
  refine mx_iadd d_L_law_1036 ?_
  refine mx_sald d_L_law_1037 hs1 (by omega) (by rw [hlen1]; omega) ?_
  rw [hA1x]
  refine mx_aload_n 0 d_L_law_1038 rfl rfl ?_
  refine mx_iload 4 d_L_law_1039 rfl ?_
  refine mx_iconst d_L_law_1041 ?_
  refine mx_iadd d_L_law_1042 ?_
  refine mx_sald d_L_law_1043 hs1 (by omega) (by rw [hlen1]; omega) ?_
  rw [hA1x]
  refine mx_aload_n 0 d_L_law_1044 rfl rfl ?_
  refine mx_iload 4 d_L_law_1045 rfl ?_
  refine mx_iconst d_L_law_1047 ?_
  refine mx_iadd d_L_law_1048 ?_
  refine mx_sald d_L_law_1049 hs1 (by omega) (by rw [hlen1]; omega) ?_
  rw [hA1x]
  refine mx_callV (kc := 20*n) (ks := 4767*n) (N := n_M_voice) (as := [_, _, _]) (ci := 7) d_L_law_1050 s_L_176 ⟨Nat.le_of_ble_eq_true rfl, Nat.le_of_ble_eq_true rfl⟩ rfl (mj_wt_8 (Nat.le_of_ble_eq_true rfl)) (hm1) ⟨_, rfl, rfl⟩ (hM) (fun r_1050 A_1050 h_1050 => ?_) (fun E_1050 A_x h_1050 => ?_)
  rotate_left
  · exact h_1050.elim
  obtain ⟨v, rfl, h0, hout, C2, h2⟩ := h_1050
  refine mx_R fun hR_1 => ?_
  refine mx_istore 6 d_L_law_1053 (Nat.le_of_ble_eq_true rfl) ?_
  refine mx_aload_n 2 d_L_law_1055 rfl rfl ?_
  refine mx_callV (kc := 20*n) (ks := 4767*n) (N := n_M_thrown) (as := []) (ci := 7) d_L_law_1056 s_L_134 ⟨Nat.le_of_ble_eq_true rfl, Nat.le_of_ble_eq_true rfl⟩ rfl (mj_wt_8 (Nat.le_of_ble_eq_true rfl)) (h2.j.m.M.o) ⟨_, rfl, rfl⟩ (cm_thrown h2.j.m.M) (fun r_1056 A_1056 h_1056 => ?_) (fun E_1056 A_x h_1056 => ?_)
  rotate_left
  · exact h_1056.elim
  obtain ⟨rfl, hA_1056⟩ := h_1056
  obtain rfl := hA_1056.symm
  clear hA_1056
  refine mx_R fun hR_2 => ?_
  refine mx_iload 5 d_L_law_1059 rfl ?_
  refine mx_icmp_eq 1066 d_L_law_1061 rfl (by first | assumption | exact hR_2 _ _ | exact hR_1 _ _ | exact hR _ _ | exact r32_mk (by omega) (by omega)) (by first | assumption | exact hR_2 _ _ | exact hR_1 _ _ | exact hR _ _ | exact r32_mk (by omega) (by omega)) (fun c_1061 => ?_) (fun c_1061 => ?_)
  · refine mx_iload 5 d_L_law_1066 rfl ?_
    refine mx_if_ne 1083 d_L_law_1068 rfl (by first | assumption | exact hR_2 _ _ | exact hR_1 _ _ | exact hR _ _ | exact r32_mk (by omega) (by omega)) (fun c_1068 => ?_) (fun c_1068 => ?_)
    · refine mx_goto 2565 d_L_law_1083 rfl ?_
      exact htail _ _ _ ⟨C2, h2⟩
    · refine mx_aload_n 3 d_L_law_1071 rfl rfl ?_
      refine mx_iconst d_L_law_1072 ?_
      refine mx_lald d_L_law_1073 (h2.j.y.o) (by omega) (by omega) ?_
      refine mx_iload 6 d_L_law_1074 rfl ?_
      have hnr := nr_r v
      refine mx_nrm ?_
      refine mx_i2l d_L_law_1076 (by first | assumption | exact hR_2 _ _ | exact hR_1 _ _ | exact hR _ _ | exact r32_mk (by omega) (by omega)) ?_
      refine mx_lcmp d_L_law_1077 (by first | assumption | exact hR_2 _ _ | exact hR_1 _ _ | exact hR _ _ | exact r32_mk (by omega) (by omega)) (by first | assumption | exact hR_2 _ _ | exact hR_1 _ _ | exact hR _ _ | exact r32_mk (by omega) (by omega)) ?_
      refine mx_if_eq 1083 d_L_law_1078 rfl (by first | assumption | exact hR_2 _ _ | exact hR_1 _ _ | exact hR _ _ | exact r32_mk (by omega) (by omega)) (fun c_1078 => ?_) (fun c_1078 => ?_)
      · refine mx_goto 2565 d_L_law_1083 rfl ?_
        exact htail _ _ _ ⟨C2, h2⟩
      · exact absurd (by rw [hout (by assumption), if_neg (Int.lt_irrefl _), if_pos rfl]) c_1078
  · exact absurd h0 (by assumption)
theorem lw_mouth {n : Nat} {X : Int → Int} {i : Int} {Q : mj_Q} {o5 o6 : Option mj_V} (hJ : JE X A) (hi : 0 ≤ i ∧ i + 6 ≤ X (-1)) (hX : X (-1) ≤ 3072) (htail : ∀ A2 o5 o6, JE X A2 → mj_X G n_L_law Q A2 (20 * n) (4767 * n) 2565 [some (mR (some 50)), some (mR (some 100)), some (mR (some 200)), some (mR (some 140)), some (mI i), o5, o6] []) : mj_X G n_L_law Q A (20 * (n + 1)) (4767 * (n + 1)) 1086 [some (mR (some 50)), some (mR (some 100)), some (mR (some 200)), some (mR (some 140)), some (mI i), o5, o6] [] := by
  obtain ⟨C, h⟩ := hJ
  have hs := h.s
  have hx := h.x
  have hlen : gI A 50 (-1) = X (-1) := by rw [hx]
  have hns := h.j.m.g.ns
  refine mx_R fun hRA => ?_
  refine mx_less (kc' := 20 * n + 2) (ks' := 4767 * n + 12) (by omega) (by omega) ?_
  refine mx_R fun hR => ?_
  refine mx_aload_n 1 d_L_law_1086 rfl rfl ?_
  refine mx_aload_n 0 d_L_law_1087 rfl rfl ?_
  refine mx_iload 4 d_L_law_1088 rfl ?_
  refine mx_iconst d_L_law_1090 ?_
  refine mx_iadd d_L_law_1091 ?_
  refine mx_sald d_L_law_1092 hs (by omega) (by rw [hlen]; omega) ?_
  refine mx_aload_n 0 d_L_law_1093 rfl rfl ?_
  refine mx_iload 4 d_L_law_1094 rfl ?_
  refine mx_iconst d_L_law_1096 ?_
  refine mx_iadd d_L_law_1097 ?_
  refine mx_sald d_L_law_1098 hs (by omega) (by rw [hlen]; omega) ?_
  refine mx_aload_n 3 d_L_law_1099 rfl rfl ?_
  refine mx_callSH (kc := 20 * n) (ks := 4767 * n) (N := n_L_mouth) (as := [_, _, _, _]) d_L_law_1100 s_L_177 ⟨Nat.le_of_ble_eq_true rfl, Nat.le_of_ble_eq_true rfl⟩ rfl (mj_wt_8 (Nat.le_of_ble_eq_true rfl)) (js_mouth h (hRA 50 _) (hRA 50 _)) (fun r A1 hr => ?_) (fun E A_x h => h.elim)
  obtain ⟨kk, rfl, hkk, ⟨hs1, hx1, hm1⟩, hM⟩ := hr
  have hlen1 : gI A1 50 (-1) = X (-1) := by rw [hx1]
  have hA1x : gI A1 50 = gI A 50 := hx1.trans hx.symm
  refine mx_R fun hR => ?_
  refine mx_istore 5 d_L_law_1103 (Nat.le_of_ble_eq_true rfl) ?_
  refine mx_aload_n 2 d_L_law_1105 rfl rfl ?_
  refine mx_aload_n 0 d_L_law_1106 rfl rfl ?_
  refine mx_iload 4 d_L_law_1107 rfl ?_
  refine mx_iconst d_L_law_1109 ?_
  refine mx_iadd d_L_law_1110 ?_
  refine mx_sald d_L_law_1111 hs1 (by omega) (by rw [hlen1]; omega) ?_
  rw [hA1x]
  refine mx_aload_n 0 d_L_law_1112 rfl rfl ?_
  refine mx_iload 4 d_L_law_1113 rfl ?_
  refine mx_iconst d_L_law_1115 ?_
  refine mx_iadd d_L_law_1116 ?_
  refine mx_sald d_L_law_1117 hs1 (by omega) (by rw [hlen1]; omega) ?_
  rw [hA1x]
  refine mx_callV (kc := 20*n) (ks := 4767*n) (N := n_M_mouth) (as := [_, _]) (ci := 7) d_L_law_1118 s_L_179 ⟨Nat.le_of_ble_eq_true rfl, Nat.le_of_ble_eq_true rfl⟩ rfl (mj_wt_8 (Nat.le_of_ble_eq_true rfl)) (hm1) ⟨_, rfl, rfl⟩ (hM) (fun r_1118 A_1118 h_1118 => ?_) (fun E_1118 A_x h_1118 => ?_)
  rotate_left
  · exact h_1118.elim
  obtain ⟨v, rfl, h0, hout, C2, h2⟩ := h_1118
  refine mx_R fun hR_1 => ?_
  refine mx_istore 6 d_L_law_1121 (Nat.le_of_ble_eq_true rfl) ?_
  refine mx_aload_n 2 d_L_law_1123 rfl rfl ?_
  refine mx_callV (kc := 20*n) (ks := 4767*n) (N := n_M_thrown) (as := []) (ci := 7) d_L_law_1124 s_L_134 ⟨Nat.le_of_ble_eq_true rfl, Nat.le_of_ble_eq_true rfl⟩ rfl (mj_wt_8 (Nat.le_of_ble_eq_true rfl)) (h2.j.m.M.o) ⟨_, rfl, rfl⟩ (cm_thrown h2.j.m.M) (fun r_1124 A_1124 h_1124 => ?_) (fun E_1124 A_x h_1124 => ?_)
  rotate_left
  · exact h_1124.elim
  obtain ⟨rfl, hA_1124⟩ := h_1124
  obtain rfl := hA_1124.symm
  clear hA_1124
  refine mx_R fun hR_2 => ?_
  refine mx_iload 5 d_L_law_1127 rfl ?_
  refine mx_icmp_eq 1134 d_L_law_1129 rfl (by first | assumption | exact hR_2 _ _ | exact hR_1 _ _ | exact hR _ _ | exact r32_mk (by omega) (by omega)) (by first | assumption | exact hR_2 _ _ | exact hR_1 _ _ | exact hR _ _ | exact r32_mk (by omega) (by omega)) (fun c_1129 => ?_) (fun c_1129 => ?_)
  · refine mx_iload 5 d_L_law_1134 rfl ?_
    refine mx_if_ne 1151 d_L_law_1136 rfl (by first | assumption | exact hR_2 _ _ | exact hR_1 _ _ | exact hR _ _ | exact r32_mk (by omega) (by omega)) (fun c_1136 => ?_) (fun c_1136 => ?_)
    · refine mx_goto 2565 d_L_law_1151 rfl ?_
      exact htail _ _ _ ⟨C2, h2⟩
    · refine mx_aload_n 3 d_L_law_1139 rfl rfl ?_
      refine mx_iconst d_L_law_1140 ?_
      refine mx_lald d_L_law_1141 (h2.j.y.o) (by omega) (by omega) ?_
      refine mx_iload 6 d_L_law_1142 rfl ?_
      have hnr := nr_r v
      refine mx_nrm ?_
      refine mx_i2l d_L_law_1144 (by first | assumption | exact hR_2 _ _ | exact hR_1 _ _ | exact hR _ _ | exact r32_mk (by omega) (by omega)) ?_
      refine mx_lcmp d_L_law_1145 (by first | assumption | exact hR_2 _ _ | exact hR_1 _ _ | exact hR _ _ | exact r32_mk (by omega) (by omega)) (by first | assumption | exact hR_2 _ _ | exact hR_1 _ _ | exact hR _ _ | exact r32_mk (by omega) (by omega)) ?_
      refine mx_if_eq 1151 d_L_law_1146 rfl (by first | assumption | exact hR_2 _ _ | exact hR_1 _ _ | exact hR _ _ | exact r32_mk (by omega) (by omega)) (fun c_1146 => ?_) (fun c_1146 => ?_)
      · refine mx_goto 2565 d_L_law_1151 rfl ?_
        exact htail _ _ _ ⟨C2, h2⟩
      · exact absurd (by rw [hout (by assumption), if_neg (Int.lt_irrefl _), if_pos rfl]) c_1146
  · exact absurd h0 (by assumption)
theorem lw_speaks {n : Nat} {X : Int → Int} {i : Int} {Q : mj_Q} {o5 o6 : Option mj_V} (hJ : JE X A) (hi : 0 ≤ i ∧ i + 6 ≤ X (-1)) (hX : X (-1) ≤ 3072) (htail : ∀ A2 o5 o6, JE X A2 → mj_X G n_L_law Q A2 (20 * n) (4767 * n) 2565 [some (mR (some 50)), some (mR (some 100)), some (mR (some 200)), some (mR (some 140)), some (mI i), o5, o6] []) : mj_X G n_L_law Q A (20 * (n + 1)) (4767 * (n + 1)) 1154 [some (mR (some 50)), some (mR (some 100)), some (mR (some 200)), some (mR (some 140)), some (mI i), o5, o6] [] := by
  obtain ⟨C, h⟩ := hJ
  have hs := h.s
  have hx := h.x
  have hlen : gI A 50 (-1) = X (-1) := by rw [hx]
  have hns := h.j.m.g.ns
  refine mx_R fun hRA => ?_
  refine mx_less (kc' := 20 * n + 2) (ks' := 4767 * n + 12) (by omega) (by omega) ?_
  refine mx_R fun hR => ?_
  refine mx_aload_n 1 d_L_law_1154 rfl rfl ?_
  refine mx_aload_n 0 d_L_law_1155 rfl rfl ?_
  refine mx_iload 4 d_L_law_1156 rfl ?_
  refine mx_iconst d_L_law_1158 ?_
  refine mx_iadd d_L_law_1159 ?_
  refine mx_sald d_L_law_1160 hs (by omega) (by rw [hlen]; omega) ?_
  refine mx_aload_n 0 d_L_law_1161 rfl rfl ?_
  refine mx_iload 4 d_L_law_1162 rfl ?_
  refine mx_iconst d_L_law_1164 ?_
  refine mx_iadd d_L_law_1165 ?_
  refine mx_sald d_L_law_1166 hs (by omega) (by rw [hlen]; omega) ?_
  refine mx_aload_n 3 d_L_law_1167 rfl rfl ?_
  refine mx_callSH (kc := 20 * n) (ks := 4767 * n) (N := n_L_speaks) (as := [_, _, _, _]) d_L_law_1168 s_L_180 ⟨Nat.le_of_ble_eq_true rfl, Nat.le_of_ble_eq_true rfl⟩ rfl (mj_wt_8 (Nat.le_of_ble_eq_true rfl)) (js_speaks h (hRA 50 _) (hRA 50 _)) (fun r A1 hr => ?_) (fun E A_x h => h.elim)
  obtain ⟨kk, rfl, hkk, ⟨hs1, hx1, hm1⟩, hM⟩ := hr
  have hlen1 : gI A1 50 (-1) = X (-1) := by rw [hx1]
  have hA1x : gI A1 50 = gI A 50 := hx1.trans hx.symm
  refine mx_R fun hR => ?_
  refine mx_istore 5 d_L_law_1171 (Nat.le_of_ble_eq_true rfl) ?_
  refine mx_aload_n 2 d_L_law_1173 rfl rfl ?_
  refine mx_aload_n 0 d_L_law_1174 rfl rfl ?_
  refine mx_iload 4 d_L_law_1175 rfl ?_
  refine mx_iconst d_L_law_1177 ?_
  refine mx_iadd d_L_law_1178 ?_
  refine mx_sald d_L_law_1179 hs1 (by omega) (by rw [hlen1]; omega) ?_
  rw [hA1x]
  refine mx_aload_n 0 d_L_law_1180 rfl rfl ?_
  refine mx_iload 4 d_L_law_1181 rfl ?_
  refine mx_iconst d_L_law_1183 ?_
  refine mx_iadd d_L_law_1184 ?_
  refine mx_sald d_L_law_1185 hs1 (by omega) (by rw [hlen1]; omega) ?_
  rw [hA1x]
  refine mx_callV (kc := 20*n) (ks := 4767*n) (N := n_M_speaks) (as := [_, _]) (ci := 7) d_L_law_1186 s_L_182 ⟨Nat.le_of_ble_eq_true rfl, Nat.le_of_ble_eq_true rfl⟩ rfl (mj_wt_8 (Nat.le_of_ble_eq_true rfl)) (hm1) ⟨_, rfl, rfl⟩ (hM) (fun r_1186 A_1186 h_1186 => ?_) (fun E_1186 A_x h_1186 => ?_)
  rotate_left
  · exact h_1186.elim
  obtain ⟨v, rfl, h0, hout, C2, h2⟩ := h_1186
  refine mx_R fun hR_1 => ?_
  refine mx_istore 6 d_L_law_1189 (Nat.le_of_ble_eq_true rfl) ?_
  refine mx_aload_n 2 d_L_law_1191 rfl rfl ?_
  refine mx_callV (kc := 20*n) (ks := 4767*n) (N := n_M_thrown) (as := []) (ci := 7) d_L_law_1192 s_L_134 ⟨Nat.le_of_ble_eq_true rfl, Nat.le_of_ble_eq_true rfl⟩ rfl (mj_wt_8 (Nat.le_of_ble_eq_true rfl)) (h2.j.m.M.o) ⟨_, rfl, rfl⟩ (cm_thrown h2.j.m.M) (fun r_1192 A_1192 h_1192 => ?_) (fun E_1192 A_x h_1192 => ?_)
  rotate_left
  · exact h_1192.elim
  obtain ⟨rfl, hA_1192⟩ := h_1192
  obtain rfl := hA_1192.symm
  clear hA_1192
  refine mx_R fun hR_2 => ?_
  refine mx_iload 5 d_L_law_1195 rfl ?_
  refine mx_icmp_eq 1202 d_L_law_1197 rfl (by first | assumption | exact hR_2 _ _ | exact hR_1 _ _ | exact hR _ _ | exact r32_mk (by omega) (by omega)) (by first | assumption | exact hR_2 _ _ | exact hR_1 _ _ | exact hR _ _ | exact r32_mk (by omega) (by omega)) (fun c_1197 => ?_) (fun c_1197 => ?_)
  · refine mx_iload 5 d_L_law_1202 rfl ?_
    refine mx_if_ne 1226 d_L_law_1204 rfl (by first | assumption | exact hR_2 _ _ | exact hR_1 _ _ | exact hR _ _ | exact r32_mk (by omega) (by omega)) (fun c_1204 => ?_) (fun c_1204 => ?_)
    · refine mx_goto 2565 d_L_law_1226 rfl ?_
      exact htail _ _ _ ⟨C2, h2⟩
    · refine mx_aload_n 3 d_L_law_1207 rfl rfl ?_
      refine mx_iconst d_L_law_1208 ?_
      refine mx_lald d_L_law_1209 (h2.j.y.o) (by omega) (by omega) ?_
      refine mx_iload 6 d_L_law_1210 rfl ?_
      have hv01 := (hout (by assumption)).2
      refine mx_if_eq 1219 d_L_law_1212 rfl (r32_01 hv01) (fun c_1212 => ?_) (fun c_1212 => ?_)
      · refine mx_lconst (z := 0) d_L_law_1219 (by decide) ?_
        refine mx_lcmp d_L_law_1220 (by first | assumption | exact hR_2 _ _ | exact hR_1 _ _ | exact hR _ _ | exact r32_mk (by omega) (by omega)) (by first | assumption | exact hR_2 _ _ | exact hR_1 _ _ | exact hR _ _ | exact r32_mk (by omega) (by omega)) ?_
        refine mx_if_eq 1226 d_L_law_1221 rfl (by first | assumption | exact hR_2 _ _ | exact hR_1 _ _ | exact hR _ _ | exact r32_mk (by omega) (by omega)) (fun c_1221 => ?_) (fun c_1221 => ?_)
        · refine mx_goto 2565 d_L_law_1226 rfl ?_
          exact htail _ _ _ ⟨C2, h2⟩
        · exfalso
          have ho := (hout (by assumption)).1
          first
            | (rw [ho, nr_0 (by assumption)] at c_1221; exact absurd (by decide) c_1221)
            | (rw [ho, nr_1 (hv01.resolve_left (by assumption))] at c_1221; exact absurd (by decide) c_1221)
      · refine mx_lconst (z := 1) d_L_law_1215 (by decide) ?_
        refine mx_goto 1220 d_L_law_1216 rfl ?_
        refine mx_lcmp d_L_law_1220 (by first | assumption | exact hR_2 _ _ | exact hR_1 _ _ | exact hR _ _ | exact r32_mk (by omega) (by omega)) (by first | assumption | exact hR_2 _ _ | exact hR_1 _ _ | exact hR _ _ | exact r32_mk (by omega) (by omega)) ?_
        refine mx_if_eq 1226 d_L_law_1221 rfl (by first | assumption | exact hR_2 _ _ | exact hR_1 _ _ | exact hR _ _ | exact r32_mk (by omega) (by omega)) (fun c_1221 => ?_) (fun c_1221 => ?_)
        · refine mx_goto 2565 d_L_law_1226 rfl ?_
          exact htail _ _ _ ⟨C2, h2⟩
        · exfalso
          have ho := (hout (by assumption)).1
          first
            | (rw [ho, nr_0 (by assumption)] at c_1221; exact absurd (by decide) c_1221)
            | (rw [ho, nr_1 (hv01.resolve_left (by assumption))] at c_1221; exact absurd (by decide) c_1221)
  · exact absurd h0 (by assumption)
theorem lw_peg {n : Nat} {X : Int → Int} {i : Int} {Q : mj_Q} {o5 o6 : Option mj_V} (hJ : JE X A) (hi : 0 ≤ i ∧ i + 6 ≤ X (-1)) (hX : X (-1) ≤ 3072) (htail : ∀ A2 o5 o6, JE X A2 → mj_X G n_L_law Q A2 (20 * n) (4767 * n) 2565 [some (mR (some 50)), some (mR (some 100)), some (mR (some 200)), some (mR (some 140)), some (mI i), o5, o6] []) : mj_X G n_L_law Q A (20 * (n + 1)) (4767 * (n + 1)) 1229 [some (mR (some 50)), some (mR (some 100)), some (mR (some 200)), some (mR (some 140)), some (mI i), o5, o6] [] := by
  obtain ⟨C, h⟩ := hJ
  have hs := h.s
  have hx := h.x
  have hlen : gI A 50 (-1) = X (-1) := by rw [hx]
  have hns := h.j.m.g.ns
  refine mx_R fun hRA => ?_
  refine mx_less (kc' := 20 * n + 6) (ks' := 4767 * n + 89) (by omega) (by omega) ?_
  refine mx_R fun hR => ?_
  refine mx_aload_n 1 d_L_law_1229 rfl rfl ?_
  refine mx_aload_n 0 d_L_law_1230 rfl rfl ?_
  refine mx_iload 4 d_L_law_1231 rfl ?_
  refine mx_iconst d_L_law_1233 ?_
  refine mx_iadd d_L_law_1234 ?_
  refine mx_sald d_L_law_1235 hs (by omega) (by rw [hlen]; omega) ?_
  refine mx_aload_n 3 d_L_law_1236 rfl rfl ?_
  refine mx_callSH (kc := 20 * n) (ks := 4767 * n) (N := n_L_peg) (as := [_, _, _]) d_L_law_1237 s_L_183 ⟨Nat.le_of_ble_eq_true rfl, Nat.le_of_ble_eq_true rfl⟩ rfl (mj_wt_8 (Nat.le_of_ble_eq_true rfl)) (js_peg h (hRA 50 _)) (fun r A1 hr => ?_) (fun E A_x h => h.elim)
  obtain ⟨kk, rfl, hkk, ⟨hs1, hx1, hm1⟩, hM⟩ := hr
  have hlen1 : gI A1 50 (-1) = X (-1) := by rw [hx1]
  have hA1x : gI A1 50 = gI A 50 := hx1.trans hx.symm
  refine mx_R fun hR => ?_
  refine mx_istore 5 d_L_law_1240 (Nat.le_of_ble_eq_true rfl) ?_
  refine mx_aload_n 2 d_L_law_1242 rfl rfl ?_
  refine mx_aload_n 0 d_L_law_1243 rfl rfl ?_
  refine mx_iload 4 d_L_law_1244 rfl ?_
  refine mx_iconst d_L_law_1246 ?_
  refine mx_iadd d_L_law_1247 ?_
  refine mx_sald d_L_law_1248 hs1 (by omega) (by rw [hlen1]; omega) ?_
  rw [hA1x]
  refine mx_callV (kc := 20*n) (ks := 4767*n) (N := n_M_peg) (as := [_]) (ci := 7) d_L_law_1249 s_L_185 ⟨Nat.le_of_ble_eq_true rfl, Nat.le_of_ble_eq_true rfl⟩ rfl (mj_wt_8 (Nat.le_of_ble_eq_true rfl)) (hm1) ⟨_, rfl, rfl⟩ (hM) (fun r_1249 A_1249 h_1249 => ?_) (fun E_1249 A_x h_1249 => ?_)
  rotate_left
  · exact h_1249.elim
  obtain ⟨v, rfl, h0, hout, C2, h2⟩ := h_1249
  refine mx_R fun hR_1 => ?_
  refine mx_istore 6 d_L_law_1252 (Nat.le_of_ble_eq_true rfl) ?_
  refine mx_aload_n 2 d_L_law_1254 rfl rfl ?_
  refine mx_callV (kc := 20*n) (ks := 4767*n) (N := n_M_thrown) (as := []) (ci := 7) d_L_law_1255 s_L_134 ⟨Nat.le_of_ble_eq_true rfl, Nat.le_of_ble_eq_true rfl⟩ rfl (mj_wt_8 (Nat.le_of_ble_eq_true rfl)) (h2.j.m.M.o) ⟨_, rfl, rfl⟩ (cm_thrown h2.j.m.M) (fun r_1255 A_1255 h_1255 => ?_) (fun E_1255 A_x h_1255 => ?_)
  rotate_left
  · exact h_1255.elim
  obtain ⟨rfl, hA_1255⟩ := h_1255
  obtain rfl := hA_1255.symm
  clear hA_1255
  refine mx_R fun hR_2 => ?_
  refine mx_iload 5 d_L_law_1258 rfl ?_
  refine mx_icmp_eq 1265 d_L_law_1260 rfl (by first | assumption | exact hR_2 _ _ | exact hR_1 _ _ | exact hR _ _ | exact r32_mk (by omega) (by omega)) (by first | assumption | exact hR_2 _ _ | exact hR_1 _ _ | exact hR _ _ | exact r32_mk (by omega) (by omega)) (fun c_1260 => ?_) (fun c_1260 => ?_)
  · refine mx_iload 5 d_L_law_1265 rfl ?_
    refine mx_if_ne 1282 d_L_law_1267 rfl (by first | assumption | exact hR_2 _ _ | exact hR_1 _ _ | exact hR _ _ | exact r32_mk (by omega) (by omega)) (fun c_1267 => ?_) (fun c_1267 => ?_)
    · refine mx_goto 2565 d_L_law_1282 rfl ?_
      exact htail _ _ _ ⟨C2, h2⟩
    · refine mx_aload_n 3 d_L_law_1270 rfl rfl ?_
      refine mx_iconst d_L_law_1271 ?_
      refine mx_lald d_L_law_1272 (h2.j.y.o) (by omega) (by omega) ?_
      refine mx_iload 6 d_L_law_1273 rfl ?_
      have hnr := nr_r v
      refine mx_nrm ?_
      refine mx_i2l d_L_law_1275 (by first | assumption | exact hR_2 _ _ | exact hR_1 _ _ | exact hR _ _ | exact r32_mk (by omega) (by omega)) ?_
      refine mx_lcmp d_L_law_1276 (by first | assumption | exact hR_2 _ _ | exact hR_1 _ _ | exact hR _ _ | exact r32_mk (by omega) (by omega)) (by first | assumption | exact hR_2 _ _ | exact hR_1 _ _ | exact hR _ _ | exact r32_mk (by omega) (by omega)) ?_
      refine mx_if_eq 1282 d_L_law_1277 rfl (by first | assumption | exact hR_2 _ _ | exact hR_1 _ _ | exact hR _ _ | exact r32_mk (by omega) (by omega)) (fun c_1277 => ?_) (fun c_1277 => ?_)
      · refine mx_goto 2565 d_L_law_1282 rfl ?_
        exact htail _ _ _ ⟨C2, h2⟩
      · exact absurd (by rw [hout (by assumption), if_neg (Int.lt_irrefl _), if_pos rfl]) c_1277
  · exact absurd h0 (by assumption)
theorem lw_move {n : Nat} {X : Int → Int} {i : Int} {Q : mj_Q} {o5 o6 : Option mj_V} (hJ : JE X A) (hi : 0 ≤ i ∧ i + 6 ≤ X (-1)) (hX : X (-1) ≤ 3072) (htail : ∀ A2 o5 o6, JE X A2 → mj_X G n_L_law Q A2 (20 * n) (4767 * n) 2565 [some (mR (some 50)), some (mR (some 100)), some (mR (some 200)), some (mR (some 140)), some (mI i), o5, o6] []) : mj_X G n_L_law Q A (20 * (n + 1)) (4767 * (n + 1)) 1285 [some (mR (some 50)), some (mR (some 100)), some (mR (some 200)), some (mR (some 140)), some (mI i), o5, o6] [] := by
  obtain ⟨C, h⟩ := hJ
  have hs := h.s
  have hx := h.x
  have hlen : gI A 50 (-1) = X (-1) := by rw [hx]
  have hns := h.j.m.g.ns
  refine mx_R fun hRA => ?_
  refine mx_less (kc' := 20 * n + 4) (ks' := 4767 * n + 24) (by omega) (by omega) ?_
  refine mx_R fun hR => ?_
  refine mx_aload_n 1 d_L_law_1285 rfl rfl ?_
  refine mx_aload_n 0 d_L_law_1286 rfl rfl ?_
  refine mx_iload 4 d_L_law_1287 rfl ?_
  refine mx_iconst d_L_law_1289 ?_
  refine mx_iadd d_L_law_1290 ?_
  refine mx_sald d_L_law_1291 hs (by omega) (by rw [hlen]; omega) ?_
  refine mx_aload_n 0 d_L_law_1292 rfl rfl ?_
  refine mx_iload 4 d_L_law_1293 rfl ?_
  refine mx_iconst d_L_law_1295 ?_
  refine mx_iadd d_L_law_1296 ?_
  refine mx_sald d_L_law_1297 hs (by omega) (by rw [hlen]; omega) ?_
  refine mx_aload_n 0 d_L_law_1298 rfl rfl ?_
  refine mx_iload 4 d_L_law_1299 rfl ?_
  refine mx_iconst d_L_law_1301 ?_
  refine mx_iadd d_L_law_1302 ?_
  refine mx_sald d_L_law_1303 hs (by omega) (by rw [hlen]; omega) ?_
  refine mx_aload_n 0 d_L_law_1304 rfl rfl ?_
  refine mx_iload 4 d_L_law_1305 rfl ?_
  refine mx_iconst d_L_law_1307 ?_
  refine mx_iadd d_L_law_1308 ?_
  refine mx_sald d_L_law_1309 hs (by omega) (by rw [hlen]; omega) ?_
  refine mx_aload_n 3 d_L_law_1310 rfl rfl ?_
  refine mx_callSH (kc := 20 * n) (ks := 4767 * n) (N := n_L_move) (as := [_, _, _, _, _, _]) d_L_law_1311 s_L_186 ⟨Nat.le_of_ble_eq_true rfl, Nat.le_of_ble_eq_true rfl⟩ rfl (mj_wt_8 (Nat.le_of_ble_eq_true rfl)) (js_move h (hRA 50 _) (hRA 50 _) (hRA 50 _) (hRA 50 _)) (fun r A1 hr => ?_) (fun E A_x h => h.elim)
  obtain ⟨kk, rfl, hkk, ⟨hs1, hx1, hm1⟩, hM⟩ := hr
  have hlen1 : gI A1 50 (-1) = X (-1) := by rw [hx1]
  have hA1x : gI A1 50 = gI A 50 := hx1.trans hx.symm
  refine mx_R fun hR => ?_
  refine mx_istore 5 d_L_law_1314 (Nat.le_of_ble_eq_true rfl) ?_
  refine mx_aload_n 2 d_L_law_1316 rfl rfl ?_
  refine mx_aload_n 0 d_L_law_1317 rfl rfl ?_
  refine mx_iload 4 d_L_law_1318 rfl ?_
  refine mx_iconst d_L_law_1320 ?_
  refine mx_iadd d_L_law_1321 ?_
  refine mx_sald d_L_law_1322 hs1 (by omega) (by rw [hlen1]; omega) ?_
  rw [hA1x]
  refine mx_aload_n 0 d_L_law_1323 rfl rfl ?_
  refine mx_iload 4 d_L_law_1324 rfl ?_
  refine mx_iconst d_L_law_1326 ?_
  refine mx_iadd d_L_law_1327 ?_
  refine mx_sald d_L_law_1328 hs1 (by omega) (by rw [hlen1]; omega) ?_
  rw [hA1x]
  refine mx_aload_n 0 d_L_law_1329 rfl rfl ?_
  refine mx_iload 4 d_L_law_1330 rfl ?_
  refine mx_iconst d_L_law_1332 ?_
  refine mx_iadd d_L_law_1333 ?_
  refine mx_sald d_L_law_1334 hs1 (by omega) (by rw [hlen1]; omega) ?_
  rw [hA1x]
  refine mx_aload_n 0 d_L_law_1335 rfl rfl ?_
  refine mx_iload 4 d_L_law_1336 rfl ?_
  refine mx_iconst d_L_law_1338 ?_
  refine mx_iadd d_L_law_1339 ?_
  refine mx_sald d_L_law_1340 hs1 (by omega) (by rw [hlen1]; omega) ?_
  rw [hA1x]
  refine mx_callV (kc := 20*n) (ks := 4767*n) (N := n_M_move) (as := [_, _, _, _]) (ci := 7) d_L_law_1341 s_L_188 ⟨Nat.le_of_ble_eq_true rfl, Nat.le_of_ble_eq_true rfl⟩ rfl (mj_wt_8 (Nat.le_of_ble_eq_true rfl)) (hm1) ⟨_, rfl, rfl⟩ (hM) (fun r_1341 A_1341 h_1341 => ?_) (fun E_1341 A_x h_1341 => ?_)
  rotate_left
  · exact h_1341.elim
  obtain ⟨v, rfl, h0, hout, C2, h2⟩ := h_1341
  refine mx_R fun hR_1 => ?_
  refine mx_istore 6 d_L_law_1344 (Nat.le_of_ble_eq_true rfl) ?_
  refine mx_aload_n 2 d_L_law_1346 rfl rfl ?_
  refine mx_callV (kc := 20*n) (ks := 4767*n) (N := n_M_thrown) (as := []) (ci := 7) d_L_law_1347 s_L_134 ⟨Nat.le_of_ble_eq_true rfl, Nat.le_of_ble_eq_true rfl⟩ rfl (mj_wt_8 (Nat.le_of_ble_eq_true rfl)) (h2.j.m.M.o) ⟨_, rfl, rfl⟩ (cm_thrown h2.j.m.M) (fun r_1347 A_1347 h_1347 => ?_) (fun E_1347 A_x h_1347 => ?_)
  rotate_left
  · exact h_1347.elim
  obtain ⟨rfl, hA_1347⟩ := h_1347
  obtain rfl := hA_1347.symm
  clear hA_1347
  refine mx_R fun hR_2 => ?_
  refine mx_iload 5 d_L_law_1350 rfl ?_
  refine mx_icmp_eq 1357 d_L_law_1352 rfl (by first | assumption | exact hR_2 _ _ | exact hR_1 _ _ | exact hR _ _ | exact r32_mk (by omega) (by omega)) (by first | assumption | exact hR_2 _ _ | exact hR_1 _ _ | exact hR _ _ | exact r32_mk (by omega) (by omega)) (fun c_1352 => ?_) (fun c_1352 => ?_)
  · refine mx_iload 5 d_L_law_1357 rfl ?_
    refine mx_if_ne 1374 d_L_law_1359 rfl (by first | assumption | exact hR_2 _ _ | exact hR_1 _ _ | exact hR _ _ | exact r32_mk (by omega) (by omega)) (fun c_1359 => ?_) (fun c_1359 => ?_)
    · refine mx_goto 2565 d_L_law_1374 rfl ?_
      exact htail _ _ _ ⟨C2, h2⟩
    · refine mx_aload_n 3 d_L_law_1362 rfl rfl ?_
      refine mx_iconst d_L_law_1363 ?_
      refine mx_lald d_L_law_1364 (h2.j.y.o) (by omega) (by omega) ?_
      refine mx_iload 6 d_L_law_1365 rfl ?_
      have hnr := nr_r v
      refine mx_nrm ?_
      refine mx_i2l d_L_law_1367 (by first | assumption | exact hR_2 _ _ | exact hR_1 _ _ | exact hR _ _ | exact r32_mk (by omega) (by omega)) ?_
      refine mx_lcmp d_L_law_1368 (by first | assumption | exact hR_2 _ _ | exact hR_1 _ _ | exact hR _ _ | exact r32_mk (by omega) (by omega)) (by first | assumption | exact hR_2 _ _ | exact hR_1 _ _ | exact hR _ _ | exact r32_mk (by omega) (by omega)) ?_
      refine mx_if_eq 1374 d_L_law_1369 rfl (by first | assumption | exact hR_2 _ _ | exact hR_1 _ _ | exact hR _ _ | exact r32_mk (by omega) (by omega)) (fun c_1369 => ?_) (fun c_1369 => ?_)
      · refine mx_goto 2565 d_L_law_1374 rfl ?_
        exact htail _ _ _ ⟨C2, h2⟩
      · exact absurd (by rw [hout (by assumption), if_neg (Int.lt_irrefl _), if_pos rfl]) c_1369
  · exact absurd h0 (by assumption)
theorem lw_hang {n : Nat} {X : Int → Int} {i : Int} {Q : mj_Q} {o5 o6 : Option mj_V} (hJ : JE X A) (hi : 0 ≤ i ∧ i + 6 ≤ X (-1)) (hX : X (-1) ≤ 3072) (htail : ∀ A2 o5 o6, JE X A2 → mj_X G n_L_law Q A2 (20 * n) (4767 * n) 2565 [some (mR (some 50)), some (mR (some 100)), some (mR (some 200)), some (mR (some 140)), some (mI i), o5, o6] []) : mj_X G n_L_law Q A (20 * (n + 1)) (4767 * (n + 1)) 1377 [some (mR (some 50)), some (mR (some 100)), some (mR (some 200)), some (mR (some 140)), some (mI i), o5, o6] [] := by
  obtain ⟨C, h⟩ := hJ
  have hs := h.s
  have hx := h.x
  have hlen : gI A 50 (-1) = X (-1) := by rw [hx]
  have hns := h.j.m.g.ns
  refine mx_R fun hRA => ?_
  refine mx_less (kc' := 20 * n + 4) (ks' := 4767 * n + 24) (by omega) (by omega) ?_
  refine mx_R fun hR => ?_
  refine mx_aload_n 1 d_L_law_1377 rfl rfl ?_
  refine mx_aload_n 0 d_L_law_1378 rfl rfl ?_
  refine mx_iload 4 d_L_law_1379 rfl ?_
  refine mx_iconst d_L_law_1381 ?_
  refine mx_iadd d_L_law_1382 ?_
  refine mx_sald d_L_law_1383 hs (by omega) (by rw [hlen]; omega) ?_
  refine mx_aload_n 0 d_L_law_1384 rfl rfl ?_
  refine mx_iload 4 d_L_law_1385 rfl ?_
  refine mx_iconst d_L_law_1387 ?_
  refine mx_iadd d_L_law_1388 ?_
  refine mx_sald d_L_law_1389 hs (by omega) (by rw [hlen]; omega) ?_
  refine mx_aload_n 0 d_L_law_1390 rfl rfl ?_
  refine mx_iload 4 d_L_law_1391 rfl ?_
  refine mx_iconst d_L_law_1393 ?_
  refine mx_iadd d_L_law_1394 ?_
  refine mx_sald d_L_law_1395 hs (by omega) (by rw [hlen]; omega) ?_
  refine mx_aload_n 0 d_L_law_1396 rfl rfl ?_
  refine mx_iload 4 d_L_law_1397 rfl ?_
  refine mx_iconst d_L_law_1399 ?_
  refine mx_iadd d_L_law_1400 ?_
  refine mx_sald d_L_law_1401 hs (by omega) (by rw [hlen]; omega) ?_
  refine mx_callSH (kc := 20 * n) (ks := 4767 * n) (N := n_L_hang) (as := [_, _, _, _, _]) d_L_law_1402 s_L_189 ⟨Nat.le_of_ble_eq_true rfl, Nat.le_of_ble_eq_true rfl⟩ rfl (mj_wt_8 (Nat.le_of_ble_eq_true rfl)) (js_hang h (hRA 50 _) (hRA 50 _) (hRA 50 _) (hRA 50 _)) (fun r A1 hr => ?_) (fun E A_x h => h.elim)
  obtain ⟨kk, rfl, hkk, ⟨hs1, hx1, hm1⟩, hM⟩ := hr
  have hlen1 : gI A1 50 (-1) = X (-1) := by rw [hx1]
  have hA1x : gI A1 50 = gI A 50 := hx1.trans hx.symm
  refine mx_R fun hR => ?_
  refine mx_istore 5 d_L_law_1405 (Nat.le_of_ble_eq_true rfl) ?_
  refine mx_aload_n 2 d_L_law_1407 rfl rfl ?_
  refine mx_aload_n 0 d_L_law_1408 rfl rfl ?_
  refine mx_iload 4 d_L_law_1409 rfl ?_
  refine mx_iconst d_L_law_1411 ?_
  refine mx_iadd d_L_law_1412 ?_
  refine mx_sald d_L_law_1413 hs1 (by omega) (by rw [hlen1]; omega) ?_
  rw [hA1x]
  refine mx_aload_n 0 d_L_law_1414 rfl rfl ?_
  refine mx_iload 4 d_L_law_1415 rfl ?_
  refine mx_iconst d_L_law_1417 ?_
  refine mx_iadd d_L_law_1418 ?_
  refine mx_sald d_L_law_1419 hs1 (by omega) (by rw [hlen1]; omega) ?_
  rw [hA1x]
  refine mx_aload_n 0 d_L_law_1420 rfl rfl ?_
  refine mx_iload 4 d_L_law_1421 rfl ?_
  refine mx_iconst d_L_law_1423 ?_
  refine mx_iadd d_L_law_1424 ?_
  refine mx_sald d_L_law_1425 hs1 (by omega) (by rw [hlen1]; omega) ?_
  rw [hA1x]
  refine mx_aload_n 0 d_L_law_1426 rfl rfl ?_
  refine mx_iload 4 d_L_law_1427 rfl ?_
  refine mx_iconst d_L_law_1429 ?_
  refine mx_iadd d_L_law_1430 ?_
  refine mx_sald d_L_law_1431 hs1 (by omega) (by rw [hlen1]; omega) ?_
  rw [hA1x]
  refine mx_callV (kc := 20*n) (ks := 4767*n) (N := n_M_hang) (as := [_, _, _, _]) (ci := 7) d_L_law_1432 s_L_192 ⟨Nat.le_of_ble_eq_true rfl, Nat.le_of_ble_eq_true rfl⟩ rfl (mj_wt_8 (Nat.le_of_ble_eq_true rfl)) (hm1) ⟨_, rfl, rfl⟩ (hM) (fun r_1432 A_1432 h_1432 => ?_) (fun E_1432 A_x h_1432 => ?_)
  rotate_left
  · exact h_1432.elim
  obtain ⟨rfl, h0, C2, h2⟩ := h_1432
  refine mx_R fun hR_1 => ?_
  refine mx_aload_n 2 d_L_law_1435 rfl rfl ?_
  refine mx_callV (kc := 20*n) (ks := 4767*n) (N := n_M_thrown) (as := []) (ci := 7) d_L_law_1436 s_L_134 ⟨Nat.le_of_ble_eq_true rfl, Nat.le_of_ble_eq_true rfl⟩ rfl (mj_wt_8 (Nat.le_of_ble_eq_true rfl)) (h2.j.m.M.o) ⟨_, rfl, rfl⟩ (cm_thrown h2.j.m.M) (fun r_1436 A_1436 h_1436 => ?_) (fun E_1436 A_x h_1436 => ?_)
  rotate_left
  · exact h_1436.elim
  obtain ⟨rfl, hA_1436⟩ := h_1436
  obtain rfl := hA_1436.symm
  clear hA_1436
  refine mx_R fun hR_2 => ?_
  refine mx_iload 5 d_L_law_1439 rfl ?_
  refine mx_icmp_eq 1446 d_L_law_1441 rfl (by first | assumption | exact hR_2 _ _ | exact hR_1 _ _ | exact hR _ _ | exact r32_mk (by omega) (by omega)) (by first | assumption | exact hR_2 _ _ | exact hR_1 _ _ | exact hR _ _ | exact r32_mk (by omega) (by omega)) (fun c_1441 => ?_) (fun c_1441 => ?_)
  · refine mx_goto 2565 d_L_law_1446 rfl ?_
    exact htail _ _ _ ⟨C2, h2⟩
  · exact absurd h0 (by assumption)
end LAWC
