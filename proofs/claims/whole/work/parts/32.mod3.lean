/-! THE REFERENCE, 3: keys' strokes, paints, palettes, scenes, sheets -/
section MOD2
variable {G : mj_G} {A : mj_M}
/-- a stroke laid at the row k -/
def st_m (A : mj_M) (k its x y c : Int) : mj_M := sI (sI (sI (sI (sI (sI (sI (sI (sI A 210 k its) 211 k c) 212 (4 * k) (gI A 200 1)) 212 (4 * k + 1) (gI A 200 2)) 212 (4 * k + 2) x) 212 (4 * k + 3) y) 200 1 x) 200 2 y) 200 17 1
abbrev mo_s1 (A : mj_M) (d x y c : Int) : Prop := (0 ≤ d ∧ d < gI A 200 3) ∧ (0 ≤ x ∧ x < 16 ∧ 0 ≤ y ∧ y < 12) ∧ 0 ≤ c ∧ c ≤ 7
theorem mj_stop_stroke {d its x y c : Int} (hM : MS A) (h1 : mo_s1 A d x y c) (h2 : 0 ≤ its ∧ its ≤ 7) (h3 : mo_op A d) (hs1 : 0 ≤ gI A 209 d ∧ gI A 209 d ≤ 8) (hpg1 : (∀ j, 8 * d ≤ j → j < 8 * d + gI A 209 d → gI A 210 j ≠ its) → gI A 209 d < 8) (hn : gI A 200 3 ≤ 16) (hd : r32 d) (hi : r32 its) (hx : r32 x) (hy : r32 y) (hc : r32 c) {P : Option mj_V → mj_M → Prop}
    (hP1 : ∀ k, 8 * d ≤ k → k < 8 * d + gI A 209 d → gI A 210 k = its → (∀ j, 8 * d ≤ j → j < k → gI A 210 j ≠ its) → P (some (mI (gI A 209 d))) (st_m (sI A 200 0 0) k its x y c)) (hP2 : (∀ j, 8 * d ≤ j → j < 8 * d + gI A 209 d → gI A 210 j ≠ its) → P (some (mI (gI A 209 d + 1))) (st_m (sI (sI A 200 0 0) 209 d (gI A 209 d + 1)) (8 * d + gI A 209 d) its x y c)) : mj_X G n_M_stroke (mj_Qm G n_M_stroke P mj_no) (sI A 200 0 0) 0 0 54 [some (mR (some 200)), some (mI d), some (mI its), some (mI x), some (mI y), some (mI c), none] [] := by
  have tail : ∀ (B : mj_M) (k : Int), MS B → 0 ≤ k → k < 128 → gI B 200 1 = gI A 200 1 → gI B 200 2 = gI A 200 2 → P (some (mI (gI B 209 d))) (st_m B k its x y c) → mj_X G n_M_stroke (mj_Qm G n_M_stroke P mj_no) B 0 0 91 [some (mR (some 200)), some (mI d), some (mI its), some (mI x), some (mI y), some (mI c), some (mI k)] [] := by
    intro B k hM hk0 hk1 hb1 hb2 hp
    refine mx_R fun hR => ?_
    refine mx_aload_n 0 d_M_stroke_91 rfl rfl ?_
    refine mx_getPs 10 d_M_stroke_92 f_M_29 rfl rfl (hM.o) (hM.p10) ?_
    refine mx_iload 6 d_M_stroke_95 rfl ?_
    refine mx_iload_n 2 d_M_stroke_97 rfl rfl ?_
    refine mx_iast d_M_stroke_98 (hM.s10) (by omega) (by omega) (by first | assumption | exact hR _ _ | exact r32_mk (by omega) (by omega)) ?_
    refine mx_R fun hR_1 => ?_
    refine mx_aload_n 0 d_M_stroke_99 rfl rfl ?_
    refine mx_getPs 11 d_M_stroke_100 f_M_32 rfl rfl (hM.o) (hM.p11) ?_
    refine mx_iload 6 d_M_stroke_103 rfl ?_
    refine mx_iload 5 d_M_stroke_105 rfl ?_
    refine mx_iast d_M_stroke_107 (hM.s11) (by omega) (by omega) (by first | assumption | exact hR_1 _ _ | exact hR _ _ | exact r32_mk (by omega) (by omega)) ?_
    refine mx_R fun hR_2 => ?_
    refine mx_aload_n 0 d_M_stroke_108 rfl rfl ?_
    refine mx_getPs 12 d_M_stroke_109 f_M_35 rfl rfl (hM.o) (hM.p12) ?_
    refine mx_iconst d_M_stroke_112 ?_
    refine mx_iload 6 d_M_stroke_113 rfl ?_
    refine mx_imul d_M_stroke_115 ?_
    refine mx_aload_n 0 d_M_stroke_116 rfl rfl ?_
    refine mx_getI 1 d_M_stroke_117 f_M_160 rfl rfl (hM.o) ?_
    (try simp only [gI_sI, gI_sF, gI_sP, gI_sN, gP_sI, gP_sF, gP_sP, gP_sN, gS_sI, gS_sF, gS_sP, gS_sN, Int.reduceEq, false_and, and_false, true_and, and_true, eq_self, if_false, if_true, reduceIte, reduceCtorEq])
    refine mx_iast d_M_stroke_120 (hM.s12) (by omega) (by omega) (by first | assumption | exact hR_2 _ _ | exact hR_1 _ _ | exact hR _ _ | exact r32_mk (by omega) (by omega)) ?_
    refine mx_R fun hR_3 => ?_
    refine mx_aload_n 0 d_M_stroke_121 rfl rfl ?_
    refine mx_getPs 12 d_M_stroke_122 f_M_35 rfl rfl (hM.o) (hM.p12) ?_
    refine mx_iconst d_M_stroke_125 ?_
    refine mx_iload 6 d_M_stroke_126 rfl ?_
    refine mx_imul d_M_stroke_128 ?_
    refine mx_iconst d_M_stroke_129 ?_
    refine mx_iadd d_M_stroke_130 ?_
    refine mx_aload_n 0 d_M_stroke_131 rfl rfl ?_
    refine mx_getI 2 d_M_stroke_132 f_M_163 rfl rfl (hM.o) ?_
    (try simp only [gI_sI, gI_sF, gI_sP, gI_sN, gP_sI, gP_sF, gP_sP, gP_sN, gS_sI, gS_sF, gS_sP, gS_sN, Int.reduceEq, false_and, and_false, true_and, and_true, eq_self, if_false, if_true, reduceIte, reduceCtorEq])
    refine mx_iast d_M_stroke_135 (hM.s12) (by omega) (by omega) (by first | assumption | exact hR_3 _ _ | exact hR_2 _ _ | exact hR_1 _ _ | exact hR _ _ | exact r32_mk (by omega) (by omega)) ?_
    refine mx_R fun hR_4 => ?_
    refine mx_aload_n 0 d_M_stroke_136 rfl rfl ?_
    refine mx_getPs 12 d_M_stroke_137 f_M_35 rfl rfl (hM.o) (hM.p12) ?_
    refine mx_iconst d_M_stroke_140 ?_
    refine mx_iload 6 d_M_stroke_141 rfl ?_
    refine mx_imul d_M_stroke_143 ?_
    refine mx_iconst d_M_stroke_144 ?_
    refine mx_iadd d_M_stroke_145 ?_
    refine mx_iload_n 3 d_M_stroke_146 rfl rfl ?_
    refine mx_iast d_M_stroke_147 (hM.s12) (by omega) (by omega) (by first | assumption | exact hR_4 _ _ | exact hR_3 _ _ | exact hR_2 _ _ | exact hR_1 _ _ | exact hR _ _ | exact r32_mk (by omega) (by omega)) ?_
    refine mx_R fun hR_5 => ?_
    refine mx_aload_n 0 d_M_stroke_148 rfl rfl ?_
    refine mx_getPs 12 d_M_stroke_149 f_M_35 rfl rfl (hM.o) (hM.p12) ?_
    refine mx_iconst d_M_stroke_152 ?_
    refine mx_iload 6 d_M_stroke_153 rfl ?_
    refine mx_imul d_M_stroke_155 ?_
    refine mx_iconst d_M_stroke_156 ?_
    refine mx_iadd d_M_stroke_157 ?_
    refine mx_iload 4 d_M_stroke_158 rfl ?_
    refine mx_iast d_M_stroke_160 (hM.s12) (by omega) (by omega) (by first | assumption | exact hR_5 _ _ | exact hR_4 _ _ | exact hR_3 _ _ | exact hR_2 _ _ | exact hR_1 _ _ | exact hR _ _ | exact r32_mk (by omega) (by omega)) ?_
    refine mx_R fun hR_6 => ?_
    refine mx_aload_n 0 d_M_stroke_161 rfl rfl ?_
    refine mx_iload_n 3 d_M_stroke_162 rfl rfl ?_
    refine mx_putI 1 d_M_stroke_163 f_M_160 rfl (hM.o) (Or.inl rfl) (Or.inl rfl) (by first | assumption | exact hR_6 _ _ | exact hR_5 _ _ | exact hR_4 _ _ | exact hR_3 _ _ | exact hR_2 _ _ | exact hR_1 _ _ | exact hR _ _ | exact r32_mk (by omega) (by omega)) ?_
    refine mx_R fun hR_7 => ?_
    refine mx_aload_n 0 d_M_stroke_166 rfl rfl ?_
    refine mx_iload 4 d_M_stroke_167 rfl ?_
    refine mx_putI 2 d_M_stroke_169 f_M_163 rfl (hM.o) (Or.inl rfl) (Or.inl rfl) (by first | assumption | exact hR_7 _ _ | exact hR_6 _ _ | exact hR_5 _ _ | exact hR_4 _ _ | exact hR_3 _ _ | exact hR_2 _ _ | exact hR_1 _ _ | exact hR _ _ | exact r32_mk (by omega) (by omega)) ?_
    refine mx_R fun hR_8 => ?_
    refine mx_aload_n 0 d_M_stroke_172 rfl rfl ?_
    refine mx_iconst d_M_stroke_173 ?_
    refine mx_putI 17 d_M_stroke_174 f_M_134 rfl (hM.o) (Or.inl rfl) (Or.inr ⟨rfl, by first | exact Or.inl rfl | exact Or.inr rfl | omega⟩) (by first | assumption | exact hR_8 _ _ | exact hR_7 _ _ | exact hR_6 _ _ | exact hR_5 _ _ | exact hR_4 _ _ | exact hR_3 _ _ | exact hR_2 _ _ | exact hR_1 _ _ | exact hR _ _ | exact r32_mk (by omega) (by omega)) ?_
    refine mx_R fun hR_9 => ?_
    refine mx_aload_n 0 d_M_stroke_177 rfl rfl ?_
    refine mx_getPs 9 d_M_stroke_178 f_M_26 rfl rfl (hM.o) (hM.p9) ?_
    refine mx_iload_n 1 d_M_stroke_181 rfl rfl ?_
    refine mx_iald d_M_stroke_182 (hM.s9) (by omega) (by omega) ?_
    (try simp only [gI_sI, gI_sF, gI_sP, gI_sN, gP_sI, gP_sF, gP_sP, gP_sN, gS_sI, gS_sF, gS_sP, gS_sN, Int.reduceEq, false_and, and_false, true_and, and_true, eq_self, if_false, if_true, reduceIte, reduceCtorEq])
    refine mx_iret d_M_stroke_183 rfl ?_
    exact hp
  refine mx_R fun hR => ?_
  refine mx_aload_n 0 d_M_stroke_54 rfl rfl ?_
  refine mx_iload_n 1 d_M_stroke_55 rfl rfl ?_
  refine mx_iload_n 2 d_M_stroke_56 rfl rfl ?_
  refine mx_callV (kc := 0) (ks := 0) (N := n_M_strokeOf) (as := [_, _]) (ci := 7) d_M_stroke_57 s_M_156 ⟨Nat.le_of_ble_eq_true rfl, Nat.le_of_ble_eq_true rfl⟩ rfl (mj_wt_8 (Nat.le_of_ble_eq_true rfl)) (hM.o) ⟨_, rfl, rfl⟩ (cm_strokeOf (A := sI A 200 0 0) hM h1.1.1 (by omega) rfl hs1.1 hs1.2 hi) (fun r_57 A_57 h_57 => ?_) (fun E_57 A_x h_57 => ?_)
  rotate_left
  · exact h_57.elim
  obtain ⟨hA_57, hq⟩ := h_57
  obtain rfl := hA_57.symm
  clear hA_57
  refine mx_R fun hR_1 => ?_
  obtain ⟨k, rfl, h4, h5, h6, h7⟩ | ⟨rfl, h4⟩ := hq
  · refine mx_istore 6 d_M_stroke_60 (Nat.le_of_ble_eq_true rfl) ?_
    have h5' : k < 8 * d + gI A 209 d := h5
    refine mx_R fun hR => ?_
    refine mx_iload 6 d_M_stroke_62 rfl ?_
    refine mx_iconst d_M_stroke_64 ?_
    refine mx_icmp_ne 91 d_M_stroke_65 rfl (by first | assumption | exact hR _ _ | exact r32_mk (by omega) (by omega)) (by first | assumption | exact hR _ _ | exact r32_mk (by omega) (by omega)) (fun c_65 => ?_) (fun c_65 => ?_)
    · exact tail _ k hM (by omega) (by omega) rfl rfl (hP1 k h4 h5 h6 h7)
    · exfalso; omega
  refine mx_istore 6 d_M_stroke_60 (Nat.le_of_ble_eq_true rfl) ?_
  refine mx_iload 6 d_M_stroke_62 rfl ?_
  refine mx_iconst d_M_stroke_64 ?_
  refine mx_icmp_ne 91 d_M_stroke_65 rfl (by first | assumption | exact hR_1 _ _ | exact hR _ _ | exact r32_mk (by omega) (by omega)) (by first | assumption | exact hR_1 _ _ | exact hR _ _ | exact r32_mk (by omega) (by omega)) (fun c_65 => ?_) (fun c_65 => ?_)
  · exfalso; omega
  · refine mx_bipush d_M_stroke_68 (by decide) ?_
    refine mx_iload_n 1 d_M_stroke_70 rfl rfl ?_
    refine mx_imul d_M_stroke_71 ?_
    refine mx_aload_n 0 d_M_stroke_72 rfl rfl ?_
    refine mx_getPs 9 d_M_stroke_73 f_M_26 rfl rfl (hM.o) (hM.p9) ?_
    refine mx_iload_n 1 d_M_stroke_76 rfl rfl ?_
    refine mx_iald d_M_stroke_77 (hM.s9) (by omega) (by omega) ?_
    (try simp only [gI_sI, gI_sF, gI_sP, gI_sN, gP_sI, gP_sF, gP_sP, gP_sN, gS_sI, gS_sF, gS_sP, gS_sN, Int.reduceEq, false_and, and_false, true_and, and_true, eq_self, if_false, if_true, reduceIte, reduceCtorEq])
    refine mx_iadd d_M_stroke_78 ?_
    refine mx_istore 6 d_M_stroke_79 (Nat.le_of_ble_eq_true rfl) ?_
    have h8 := hpg1 h4
    refine mx_aload_n 0 d_M_stroke_81 rfl rfl ?_
    refine mx_getPs 9 d_M_stroke_82 f_M_26 rfl rfl (hM.o) (hM.p9) ?_
    refine mx_iload_n 1 d_M_stroke_85 rfl rfl ?_
    refine mx_dup2 d_M_stroke_86 (fun z h => by cases h) (fun z h => by cases h) ?_
    refine mx_iald d_M_stroke_87 (hM.s9) (by omega) (by omega) ?_
    (try simp only [gI_sI, gI_sF, gI_sP, gI_sN, gP_sI, gP_sF, gP_sP, gP_sN, gS_sI, gS_sF, gS_sP, gS_sN, Int.reduceEq, false_and, and_false, true_and, and_true, eq_self, if_false, if_true, reduceIte, reduceCtorEq])
    refine mx_iconst d_M_stroke_88 ?_
    refine mx_iadd d_M_stroke_89 ?_
    refine mx_iast d_M_stroke_90 (hM.s9) (by omega) (by omega) (by first | assumption | exact hR_1 _ _ | exact hR _ _ | exact r32_mk (by omega) (by omega)) ?_
    refine mx_R fun hR_2 => ?_
    exact tail _ _ hM (by omega) (by omega) rfl rfl (by (try simp only [gI_sI, gI_sF, gI_sP, gI_sN, gP_sI, gP_sF, gP_sP, gP_sN, gS_sI, gS_sF, gS_sP, gS_sN, Int.reduceEq, false_and, and_false, true_and, and_true, eq_self, if_false, if_true, reduceIte, reduceCtorEq]); exact hP2 h4)
theorem cm_stroke {d its x y c : Int} (hM : MS A) (hn : 0 ≤ gI A 200 3 ∧ gI A 200 3 ≤ 16) (hd : r32 d) (hi : r32 its) (hx : r32 x) (hy : r32 y) (hc : r32 c) (hs : ∀ d, 0 ≤ d → d < 16 → 0 ≤ gI A 209 d ∧ gI A 209 d ≤ 8) (hpg : 0 ≤ d → d < gI A 200 3 → 0 ≤ its → its ≤ 7 → gI A 204 d = -1 → (∀ j, 8 * d ≤ j → j < 8 * d + gI A 209 d → gI A 210 j ≠ its) → gI A 209 d < 8) :
    mj_Cal G n_M_stroke [mR (some 200), mI d, mI its, mI x, mI y, mI c] A (fun r A' => ((mo_s1 A d x y c ∧ (0 ≤ its ∧ its ≤ 7) ∧ mo_op A d) ∧ ((∃ k, 8 * d ≤ k ∧ k < 8 * d + gI A 209 d ∧ gI A 210 k = its ∧ (∀ j, 8 * d ≤ j → j < k → gI A 210 j ≠ its) ∧ r = some (mI (gI A 209 d)) ∧ A' = st_m (sI A 200 0 0) k its x y c) ∨ ((∀ j, 8 * d ≤ j → j < 8 * d + gI A 209 d → gI A 210 j ≠ its) ∧ r = some (mI (gI A 209 d + 1)) ∧ A' = st_m (sI (sI A 200 0 0) 209 d (gI A 209 d + 1)) (8 * d + gI A 209 d) its x y c))) ∨ (¬ (mo_s1 A d x y c ∧ (0 ≤ its ∧ its ≤ 7) ∧ mo_op A d) ∧ r = some (mI 0) ∧ A' = sI A 200 0 (if mo_s1 A d x y c then (if 0 ≤ its ∧ its ≤ 7 then (if mo_op A d then 0 else 3) else 2) else 1))) mj_no := by
  refine mj_bodyK 0 0 [some (mR (some 200)), some (mI d), some (mI its), some (mI x), some (mI y), some (mI c), none] rfl rfl rfl (by decide +kernel) (Nat.le_of_ble_eq_true rfl) (by simp) rfl ?_
  refine mx_R fun hR => ?_
  refine mx_aload_n 0 d_M_stroke_0 rfl rfl ?_
  refine mj_cutB (mo_s1 A d x y c) 34 ?_ (fun hJ_1 => ?_)
  · refine mx_iload_n 2 d_M_stroke_34 rfl rfl ?_
    refine mx_iconst d_M_stroke_35 ?_
    refine mx_bipush d_M_stroke_36 (by decide) ?_
    refine mx_callS (kc := 0) (ks := 0) (N := n_M_in) (as := [_, _, _]) d_M_stroke_38 s_M_126 ⟨Nat.le_of_ble_eq_true rfl, Nat.le_of_ble_eq_true rfl⟩ rfl (mj_wt_8 (Nat.le_of_ble_eq_true rfl)) (cm_in hi (r32_mk (by omega) (by omega)) (r32_mk (by omega) (by omega))) (fun r_38 A_38 h_38 => ?_) (fun E_38 A_x h_38 => ?_)
    rotate_left
    · exact h_38.elim
    obtain ⟨rfl, hA_38⟩ := h_38
    obtain rfl := hA_38.symm
    clear hA_38
    refine mx_R fun hR_1 => ?_
    refine mx_aload_n 0 d_M_stroke_41 rfl rfl ?_
    refine mx_iload_n 1 d_M_stroke_42 rfl rfl ?_
    refine mx_callV (kc := 0) (ks := 0) (N := n_M_isOpen) (as := [_]) (ci := 7) d_M_stroke_43 s_M_153 ⟨Nat.le_of_ble_eq_true rfl, Nat.le_of_ble_eq_true rfl⟩ rfl (mj_wt_8 (Nat.le_of_ble_eq_true rfl)) (hM.o) ⟨_, rfl, rfl⟩ (cm_isOpen hM hd hn) (fun r_43 A_43 h_43 => ?_) (fun E_43 A_x h_43 => ?_)
    rotate_left
    · exact h_43.elim
    obtain ⟨rfl, hA_43⟩ := h_43
    obtain rfl := hA_43.symm
    clear hA_43
    refine mx_R fun hR_2 => ?_
    refine mx_callV (kc := 0) (ks := 0) (N := n_M_asked3) (as := [_, _, _]) (ci := 7) d_M_stroke_46 s_M_146 ⟨Nat.le_of_ble_eq_true rfl, Nat.le_of_ble_eq_true rfl⟩ rfl (mj_wt_8 (Nat.le_of_ble_eq_true rfl)) (hM.o) ⟨_, rfl, rfl⟩ (cm_asked3 _ _ _ hM) (fun r_46 A_46 h_46 => ?_) (fun E_46 A_x h_46 => ?_)
    rotate_left
    · exact h_46.elim
    obtain ⟨rfl, hA_46⟩ := h_46
    obtain rfl := hA_46.symm
    clear hA_46
    refine mx_R fun hR_3 => ?_
    refine mx_if_ne 54 d_M_stroke_49 rfl (by first | assumption | exact hR_3 _ _ | exact hR_2 _ _ | exact hR_1 _ _ | exact hR _ _ | exact r32_mk (by omega) (by omega)) (fun c_49 => ?_) (fun c_49 => ?_)
    · have hP : mo_s1 A d x y c ∧ (0 ≤ its ∧ its ≤ 7) ∧ mo_op A d := by omega
      rw [if_pos hP.1, if_pos hP.2.1, if_pos hP.2.2]
      obtain ⟨h1, h2, h3⟩ := hP
      have hs1 := hs d h1.1.1 (by omega)
      have hpg1 := hpg h1.1.1 h1.1.2 h2.1 h2.2 h3.2.2.1
      exact mj_stop_stroke hM h1 h2 h3 hs1 hpg1 hn.2 hd hi hx hy hc (fun k a b c d => Or.inl ⟨⟨h1, h2, h3⟩, Or.inl ⟨k, a, b, c, d, rfl, rfl⟩⟩) (fun a => Or.inl ⟨⟨h1, h2, h3⟩, Or.inr ⟨a, rfl, rfl⟩⟩)
    · refine mx_iconst d_M_stroke_52 ?_
      refine mx_iret d_M_stroke_53 rfl ?_
      refine Or.inr ⟨by omega, rfl, rfl⟩
  · refine mx_aload_n 0 d_M_stroke_1 rfl rfl ?_
    refine mx_iload_n 1 d_M_stroke_2 rfl rfl ?_
    refine mx_callV (kc := 0) (ks := 0) (N := n_M_isDrawing) (as := [_]) (ci := 7) d_M_stroke_3 s_M_130 ⟨Nat.le_of_ble_eq_true rfl, Nat.le_of_ble_eq_true rfl⟩ rfl (mj_wt_8 (Nat.le_of_ble_eq_true rfl)) (hM.o) ⟨_, rfl, rfl⟩ (cm_isDrawing hM hd hn) (fun r_3 A_3 h_3 => ?_) (fun E_3 A_x h_3 => ?_)
    rotate_left
    · exact h_3.elim
    obtain ⟨rfl, hA_3⟩ := h_3
    obtain rfl := hA_3.symm
    clear hA_3
    refine mx_R fun hR_4 => ?_
    refine mx_if_eq 33 d_M_stroke_6 rfl (by first | assumption | exact hR_4 _ _ | exact hR _ _ | exact r32_mk (by omega) (by omega)) (fun c_6 => ?_) (fun c_6 => ?_)
    · refine mx_iconst d_M_stroke_33 ?_
      first | exact mj_j1 hJ_1 (by omega) | exact mj_j0 hJ_1 (by omega)
    · refine mx_iload_n 3 d_M_stroke_9 rfl rfl ?_
      refine mx_iload 4 d_M_stroke_10 rfl ?_
      refine mx_callS (kc := 0) (ks := 0) (N := n_M_isPoint) (as := [_, _]) d_M_stroke_12 s_M_149 ⟨Nat.le_of_ble_eq_true rfl, Nat.le_of_ble_eq_true rfl⟩ rfl (mj_wt_8 (Nat.le_of_ble_eq_true rfl)) (cm_isPoint hx hy) (fun r_12 A_12 h_12 => ?_) (fun E_12 A_x h_12 => ?_)
      rotate_left
      · exact h_12.elim
      obtain ⟨rfl, hA_12⟩ := h_12
      obtain rfl := hA_12.symm
      clear hA_12
      refine mx_R fun hR_5 => ?_
      refine mx_if_eq 33 d_M_stroke_15 rfl (by first | assumption | exact hR_5 _ _ | exact hR_4 _ _ | exact hR _ _ | exact r32_mk (by omega) (by omega)) (fun c_15 => ?_) (fun c_15 => ?_)
      · refine mx_iconst d_M_stroke_33 ?_
        first | exact mj_j1 hJ_1 (by omega) | exact mj_j0 hJ_1 (by omega)
      · refine mx_iload 5 d_M_stroke_18 rfl ?_
        refine mx_iconst d_M_stroke_20 ?_
        refine mx_bipush d_M_stroke_21 (by decide) ?_
        refine mx_callS (kc := 0) (ks := 0) (N := n_M_in) (as := [_, _, _]) d_M_stroke_23 s_M_126 ⟨Nat.le_of_ble_eq_true rfl, Nat.le_of_ble_eq_true rfl⟩ rfl (mj_wt_8 (Nat.le_of_ble_eq_true rfl)) (cm_in hc (r32_mk (by omega) (by omega)) (r32_mk (by omega) (by omega))) (fun r_23 A_23 h_23 => ?_) (fun E_23 A_x h_23 => ?_)
        rotate_left
        · exact h_23.elim
        obtain ⟨rfl, hA_23⟩ := h_23
        obtain rfl := hA_23.symm
        clear hA_23
        refine mx_R fun hR_6 => ?_
        refine mx_if_eq 33 d_M_stroke_26 rfl (by first | assumption | exact hR_6 _ _ | exact hR_5 _ _ | exact hR_4 _ _ | exact hR _ _ | exact r32_mk (by omega) (by omega)) (fun c_26 => ?_) (fun c_26 => ?_)
        · refine mx_iconst d_M_stroke_33 ?_
          first | exact mj_j1 hJ_1 (by omega) | exact mj_j0 hJ_1 (by omega)
        · refine mx_iconst d_M_stroke_29 ?_
          refine mx_goto 34 d_M_stroke_30 rfl ?_
          first | exact mj_j1 hJ_1 (by omega) | exact mj_j0 hJ_1 (by omega)
end MOD2
