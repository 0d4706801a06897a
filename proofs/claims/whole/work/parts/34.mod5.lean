/-! THE REFERENCE, 5: scenes, sheets, sounds, mouths -/
section MOD5
variable {G : mj_G} {A : mj_M}
def sc_1 (B : mj_M) (s i : Int) : mj_M := sF B 226 (fun j => if 96 * s ≤ j ∧ j < 96 * s + i then -2 else gI B 226 j)
def sc_2 (B : mj_M) (s i : Int) : mj_M := sF B 227 (fun j => if 24 * s ≤ j ∧ j < 24 * s + i then -2 else gI B 227 j)
def sc_3 (B : mj_M) (s i : Int) : mj_M := sF (sF B 229 (fun j => if 5 * s ≤ j ∧ j < 5 * s + i then -1 else gI B 229 j)) 230 (fun j => if 5 * s ≤ j ∧ j < 5 * s + i then 1 else gI B 230 j)
theorem sc_10 {s : Int} : sc_1 A s 0 = A := by
  unfold sc_1
  exact mj_ext3 (fun _ => rfl) (fun c_ x_ => by simp only [gI_sI, gI_sF]; grind) (fun _ _ => rfl)
theorem sc_20 {s : Int} : sc_2 A s 0 = A := by
  unfold sc_2
  exact mj_ext3 (fun _ => rfl) (fun c_ x_ => by simp only [gI_sI, gI_sF]; grind) (fun _ _ => rfl)
theorem sc_30 {s : Int} : sc_3 A s 0 = A := by
  unfold sc_3
  exact mj_ext3 (fun _ => rfl) (fun c_ x_ => by simp only [gI_sI, gI_sF]; grind) (fun _ _ => rfl)
theorem sc_11 {s i : Int} (h : 0 ≤ i) : sI (sc_1 A s i) 226 (96 * s + i) (-2) = sc_1 A s (i + 1) := by
  unfold sc_1
  exact mj_ext3 (fun _ => rfl) (fun c_ x_ => by simp only [gI_sI, gI_sF]; grind) (fun _ _ => rfl)
theorem sc_21 {s i : Int} (h : 0 ≤ i) : sI (sc_2 A s i) 227 (24 * s + i) (-2) = sc_2 A s (i + 1) := by
  unfold sc_2
  exact mj_ext3 (fun _ => rfl) (fun c_ x_ => by simp only [gI_sI, gI_sF]; grind) (fun _ _ => rfl)
theorem sc_31 {s i : Int} (h : 0 ≤ i) : sI (sI (sc_3 A s i) 229 (5 * s + i) (-1)) 230 (5 * s + i) 1 = sc_3 A s (i + 1) := by
  unfold sc_3
  exact mj_ext3 (fun _ => rfl) (fun c_ x_ => by simp only [gI_sI, gI_sF]; grind) (fun _ _ => rfl)
def sc_m (A : mj_M) (many p : Int) : mj_M := sI (sc_3 (sc_2 (sc_1 (sI (sI A 224 (gI A 200 23) many) 225 (gI A 200 23) p) (gI A 200 23) 96) (gI A 200 23) 24) (gI A 200 23) 5) 200 23 (gI A 200 23 + 1)
theorem cm_scene_t {many p : Int} (hM : MS A) (hs : 0 ≤ gI A 200 23 ∧ gI A 200 23 < 6) (hm : r32 many) (hp : r32 p) {P : Option mj_V → mj_M → Prop} (hP : P (some (mI (gI A 200 23))) (sc_m A many p)) :
    mj_X G n_M_scene (mj_Qm G n_M_scene P mj_no) A 0 0 36 [some (mR (some 200)), some (mI many), some (mI p), none] [] := by
  have h3 : ∀ (B : mj_M) (i : Int), (MS B ∧ gI B 200 23 = gI A 200 23 ∧ P (some (mI (gI A 200 23))) (sI (sc_3 B (gI A 200 23) 5) 200 23 (gI A 200 23 + 1)) ∧ 0 ≤ i ∧ i ≤ 5) → mj_X G n_M_scene (mj_Qm G n_M_scene P mj_no) (sc_3 B (gI A 200 23) i) 0 0 118 [some (mR (some 200)), some (mI many), some (mI p), some (mI i)] [] := by
    intro B
    refine mj_loop _ (fun i => (5 - i).toNat) _ ?_
    intro i ⟨hM, he, hP, h0, h1⟩ ih
    have he' : gI (sc_3 B (gI A 200 23) i) 200 23 = gI A 200 23 := he
    refine mx_R fun hR => ?_
    refine mx_iload_n 3 d_M_scene_118 rfl rfl ?_
    refine mx_iconst d_M_scene_119 ?_
    refine mx_icmp_ge 157 d_M_scene_120 rfl (by first | assumption | exact hR _ _ | exact r32_mk (by omega) (by omega)) (by first | assumption | exact hR _ _ | exact r32_mk (by omega) (by omega)) (fun c_120 => ?_) (fun c_120 => ?_)
    · refine mx_aload_n 0 d_M_scene_157 rfl rfl ?_
      refine mx_dup d_M_scene_158 (fun z h => by cases h) ?_
      refine mx_getI 23 d_M_scene_159 f_M_193 rfl rfl (hM.o) ?_
      rw [he']
      refine mx_iconst d_M_scene_162 ?_
      refine mx_iadd d_M_scene_163 ?_
      refine mx_putI 23 d_M_scene_164 f_M_193 rfl (hM.o) (Or.inl rfl) (Or.inl rfl) (by first | assumption | exact hR _ _ | exact r32_mk (by omega) (by omega)) ?_
      refine mx_R fun hR_1 => ?_
      refine mx_aload_n 0 d_M_scene_167 rfl rfl ?_
      refine mx_getI 23 d_M_scene_168 f_M_193 rfl rfl (hM.o) ?_
      (try simp only [gI_sI, gI_sF, gI_sP, gI_sN, gP_sI, gP_sF, gP_sP, gP_sN, gS_sI, gS_sF, gS_sP, gS_sN, Int.reduceEq, false_and, and_false, true_and, and_true, eq_self, if_false, if_true, reduceIte, reduceCtorEq])
      refine mx_iconst d_M_scene_171 ?_
      refine mx_isub d_M_scene_172 ?_
      refine mx_iret d_M_scene_173 rfl ?_
      have h5 : i = 5 := by omega
      rw [h5, show gI A 200 23 + 1 - 1 = gI A 200 23 by omega]
      exact hP
    · refine mx_aload_n 0 d_M_scene_123 rfl rfl ?_
      refine mx_getPs 29 d_M_scene_124 f_M_80 rfl rfl (hM.o) (hM.p29) ?_
      refine mx_iconst d_M_scene_127 ?_
      refine mx_aload_n 0 d_M_scene_128 rfl rfl ?_
      refine mx_getI 23 d_M_scene_129 f_M_193 rfl rfl (hM.o) ?_
      rw [he']
      refine mx_imul d_M_scene_132 ?_
      refine mx_iload_n 3 d_M_scene_133 rfl rfl ?_
      refine mx_iadd d_M_scene_134 ?_
      refine mx_iconst d_M_scene_135 ?_
      refine mx_iast d_M_scene_136 (hM.s29) (by omega) (by omega) (by first | assumption | exact hR _ _ | exact r32_mk (by omega) (by omega)) ?_
      refine mx_R fun hR_2 => ?_
      refine mx_aload_n 0 d_M_scene_137 rfl rfl ?_
      refine mx_getPs 30 d_M_scene_138 f_M_83 rfl rfl (hM.o) (hM.p30) ?_
      refine mx_iconst d_M_scene_141 ?_
      refine mx_aload_n 0 d_M_scene_142 rfl rfl ?_
      refine mx_getI 23 d_M_scene_143 f_M_193 rfl rfl (hM.o) ?_
      (try simp only [gI_sI, gI_sF, gI_sP, gI_sN, gP_sI, gP_sF, gP_sP, gP_sN, gS_sI, gS_sF, gS_sP, gS_sN, Int.reduceEq, false_and, and_false, true_and, and_true, eq_self, if_false, if_true, reduceIte, reduceCtorEq])
      rw [he']
      refine mx_imul d_M_scene_146 ?_
      refine mx_iload_n 3 d_M_scene_147 rfl rfl ?_
      refine mx_iadd d_M_scene_148 ?_
      refine mx_iconst d_M_scene_149 ?_
      refine mx_iast d_M_scene_150 (hM.s30) (by omega) (by omega) (by first | assumption | exact hR_2 _ _ | exact hR _ _ | exact r32_mk (by omega) (by omega)) ?_
      refine mx_R fun hR_3 => ?_
      rw [sc_31 h0]
      refine mx_iinc 3 d_M_scene_151 rfl (Nat.le_of_ble_eq_true rfl) ?_
      refine mx_goto 118 d_M_scene_154 rfl ?_
      exact ih (i + 1) ⟨hM, he, hP, by omega, by omega⟩ (by omega)
  have h2 : ∀ (B : mj_M) (i : Int), (MS B ∧ gI B 200 23 = gI A 200 23 ∧ P (some (mI (gI A 200 23))) (sI (sc_3 (sc_2 B (gI A 200 23) 24) (gI A 200 23) 5) 200 23 (gI A 200 23 + 1)) ∧ 0 ≤ i ∧ i ≤ 24) → mj_X G n_M_scene (mj_Qm G n_M_scene P mj_no) (sc_2 B (gI A 200 23) i) 0 0 88 [some (mR (some 200)), some (mI many), some (mI p), some (mI i)] [] := by
    intro B
    refine mj_loop _ (fun i => (24 - i).toNat) _ ?_
    intro i ⟨hM, he, hP, h0, h1⟩ ih
    have he' : gI (sc_2 B (gI A 200 23) i) 200 23 = gI A 200 23 := he
    refine mx_R fun hR => ?_
    refine mx_iload_n 3 d_M_scene_88 rfl rfl ?_
    refine mx_bipush d_M_scene_89 (by decide) ?_
    refine mx_icmp_ge 116 d_M_scene_91 rfl (by first | assumption | exact hR _ _ | exact r32_mk (by omega) (by omega)) (by first | assumption | exact hR _ _ | exact r32_mk (by omega) (by omega)) (fun c_91 => ?_) (fun c_91 => ?_)
    · refine mx_iconst d_M_scene_116 ?_
      refine mx_istore_n 3 d_M_scene_117 rfl (Nat.le_of_ble_eq_true rfl) ?_
      have h9 := h3 (sc_2 B (gI A 200 23) 24) 0 ⟨hM, he, hP, by omega, by omega⟩
      rw [sc_30] at h9
      rw [show i = 24 by omega]
      exact h9
    · refine mx_aload_n 0 d_M_scene_94 rfl rfl ?_
      refine mx_getPs 27 d_M_scene_95 f_M_74 rfl rfl (hM.o) (hM.p27) ?_
      refine mx_bipush d_M_scene_98 (by decide) ?_
      refine mx_aload_n 0 d_M_scene_100 rfl rfl ?_
      refine mx_getI 23 d_M_scene_101 f_M_193 rfl rfl (hM.o) ?_
      rw [he']
      refine mx_imul d_M_scene_104 ?_
      refine mx_iload_n 3 d_M_scene_105 rfl rfl ?_
      refine mx_iadd d_M_scene_106 ?_
      refine mx_bipush d_M_scene_107 (by decide) ?_
      refine mx_iast d_M_scene_109 (hM.s27) (by omega) (by omega) (by first | assumption | exact hR _ _ | exact r32_mk (by omega) (by omega)) ?_
      refine mx_R fun hR_1 => ?_
      rw [sc_21 h0]
      refine mx_iinc 3 d_M_scene_110 rfl (Nat.le_of_ble_eq_true rfl) ?_
      refine mx_goto 88 d_M_scene_113 rfl ?_
      exact ih (i + 1) ⟨hM, he, hP, by omega, by omega⟩ (by omega)
  have h1 : ∀ (B : mj_M) (i : Int), (MS B ∧ gI B 200 23 = gI A 200 23 ∧ P (some (mI (gI A 200 23))) (sI (sc_3 (sc_2 (sc_1 B (gI A 200 23) 96) (gI A 200 23) 24) (gI A 200 23) 5) 200 23 (gI A 200 23 + 1)) ∧ 0 ≤ i ∧ i ≤ 96) → mj_X G n_M_scene (mj_Qm G n_M_scene P mj_no) (sc_1 B (gI A 200 23) i) 0 0 58 [some (mR (some 200)), some (mI many), some (mI p), some (mI i)] [] := by
    intro B
    refine mj_loop _ (fun i => (96 - i).toNat) _ ?_
    intro i ⟨hM, he, hP, h0, h1⟩ ih
    have he' : gI (sc_1 B (gI A 200 23) i) 200 23 = gI A 200 23 := he
    refine mx_R fun hR => ?_
    refine mx_iload_n 3 d_M_scene_58 rfl rfl ?_
    refine mx_bipush d_M_scene_59 (by decide) ?_
    refine mx_icmp_ge 86 d_M_scene_61 rfl (by first | assumption | exact hR _ _ | exact r32_mk (by omega) (by omega)) (by first | assumption | exact hR _ _ | exact r32_mk (by omega) (by omega)) (fun c_61 => ?_) (fun c_61 => ?_)
    · refine mx_iconst d_M_scene_86 ?_
      refine mx_istore_n 3 d_M_scene_87 rfl (Nat.le_of_ble_eq_true rfl) ?_
      have h9 := h2 (sc_1 B (gI A 200 23) 96) 0 ⟨hM, he, hP, by omega, by omega⟩
      rw [sc_20] at h9
      rw [show i = 96 by omega]
      exact h9
    · refine mx_aload_n 0 d_M_scene_64 rfl rfl ?_
      refine mx_getPs 26 d_M_scene_65 f_M_71 rfl rfl (hM.o) (hM.p26) ?_
      refine mx_bipush d_M_scene_68 (by decide) ?_
      refine mx_aload_n 0 d_M_scene_70 rfl rfl ?_
      refine mx_getI 23 d_M_scene_71 f_M_193 rfl rfl (hM.o) ?_
      rw [he']
      refine mx_imul d_M_scene_74 ?_
      refine mx_iload_n 3 d_M_scene_75 rfl rfl ?_
      refine mx_iadd d_M_scene_76 ?_
      refine mx_bipush d_M_scene_77 (by decide) ?_
      refine mx_iast d_M_scene_79 (hM.s26) (by omega) (by omega) (by first | assumption | exact hR _ _ | exact r32_mk (by omega) (by omega)) ?_
      refine mx_R fun hR_1 => ?_
      rw [sc_11 h0]
      refine mx_iinc 3 d_M_scene_80 rfl (Nat.le_of_ble_eq_true rfl) ?_
      refine mx_goto 58 d_M_scene_83 rfl ?_
      exact ih (i + 1) ⟨hM, he, hP, by omega, by omega⟩ (by omega)
  refine mx_R fun hR => ?_
  refine mx_aload_n 0 d_M_scene_36 rfl rfl ?_
  refine mx_getPs 24 d_M_scene_37 f_M_65 rfl rfl (hM.o) (hM.p24) ?_
  refine mx_aload_n 0 d_M_scene_40 rfl rfl ?_
  refine mx_getI 23 d_M_scene_41 f_M_193 rfl rfl (hM.o) ?_
  refine mx_iload_n 1 d_M_scene_44 rfl rfl ?_
  refine mx_iast d_M_scene_45 (hM.s24) (by omega) (by omega) (by first | assumption | exact hR _ _ | exact r32_mk (by omega) (by omega)) ?_
  refine mx_R fun hR_1 => ?_
  (try simp only [gI_sI, gI_sF, gI_sP, gI_sN, gP_sI, gP_sF, gP_sP, gP_sN, gS_sI, gS_sF, gS_sP, gS_sN, Int.reduceEq, false_and, and_false, true_and, and_true, eq_self, if_false, if_true, reduceIte, reduceCtorEq])
  refine mx_aload_n 0 d_M_scene_46 rfl rfl ?_
  refine mx_getPs 25 d_M_scene_47 f_M_68 rfl rfl (hM.o) (hM.p25) ?_
  refine mx_aload_n 0 d_M_scene_50 rfl rfl ?_
  refine mx_getI 23 d_M_scene_51 f_M_193 rfl rfl (hM.o) ?_
  (try simp only [gI_sI, gI_sF, gI_sP, gI_sN, gP_sI, gP_sF, gP_sP, gP_sN, gS_sI, gS_sF, gS_sP, gS_sN, Int.reduceEq, false_and, and_false, true_and, and_true, eq_self, if_false, if_true, reduceIte, reduceCtorEq])
  refine mx_iload_n 2 d_M_scene_54 rfl rfl ?_
  refine mx_iast d_M_scene_55 (hM.s25) (by omega) (by omega) (by first | assumption | exact hR_1 _ _ | exact hR _ _ | exact r32_mk (by omega) (by omega)) ?_
  refine mx_R fun hR_2 => ?_
  refine mx_iconst d_M_scene_56 ?_
  refine mx_istore_n 3 d_M_scene_57 rfl (Nat.le_of_ble_eq_true rfl) ?_
  have h9 := h1 (sI (sI A 224 (gI A 200 23) many) 225 (gI A 200 23) p) 0 ⟨hM, rfl, hP, by omega, by omega⟩
  rw [sc_10] at h9
  exact h9
theorem cm_scene {many p : Int} (hM : MS A) (hs : 0 ≤ gI A 200 23 ∧ gI A 200 23 ≤ 6) (hm : r32 many) (hp : r32 p) : mj_Cal G n_M_scene [mR (some 200), mI many, mI p] A (fun r A' => (((0 ≤ p ∧ p ≤ 3) ∧ (1 ≤ many ∧ many ≤ 24) ∧ gI A 200 23 < 6) ∧ r = some (mI (gI A 200 23)) ∧ A' = sc_m (sI A 200 0 0) many p) ∨ (¬ ((0 ≤ p ∧ p ≤ 3) ∧ (1 ≤ many ∧ many ≤ 24) ∧ gI A 200 23 < 6) ∧ r = some (mI 0) ∧ A' = sI A 200 0 (if 0 ≤ p ∧ p ≤ 3 then (if 1 ≤ many ∧ many ≤ 24 then (if gI A 200 23 < 6 then 0 else 3) else 2) else 1))) mj_no := by
  refine mj_bodyK 0 0 [some (mR (some 200)), some (mI many), some (mI p), none] rfl rfl rfl (by decide +kernel) (Nat.le_of_ble_eq_true rfl) (by simp) rfl ?_
  refine mx_R fun hR => ?_
  refine mx_aload_n 0 d_M_scene_0 rfl rfl ?_
  refine mx_iload_n 2 d_M_scene_1 rfl rfl ?_
  refine mx_iconst d_M_scene_2 ?_
  refine mx_iconst d_M_scene_3 ?_
  refine mx_callS (kc := 0) (ks := 0) (N := n_M_in) (as := [_, _, _]) d_M_scene_4 s_M_126 ⟨Nat.le_of_ble_eq_true rfl, Nat.le_of_ble_eq_true rfl⟩ rfl (mj_wt_8 (Nat.le_of_ble_eq_true rfl)) (cm_in hp (r32_mk (by omega) (by omega)) (r32_mk (by omega) (by omega))) (fun r_4 A_4 h_4 => ?_) (fun E_4 A_x h_4 => ?_)
  rotate_left
  · exact h_4.elim
  obtain ⟨rfl, hA_4⟩ := h_4
  obtain rfl := hA_4.symm
  clear hA_4
  refine mx_R fun hR_1 => ?_
  refine mx_iload_n 1 d_M_scene_7 rfl rfl ?_
  refine mx_iconst d_M_scene_8 ?_
  refine mx_bipush d_M_scene_9 (by decide) ?_
  refine mx_callS (kc := 0) (ks := 0) (N := n_M_in) (as := [_, _, _]) d_M_scene_11 s_M_126 ⟨Nat.le_of_ble_eq_true rfl, Nat.le_of_ble_eq_true rfl⟩ rfl (mj_wt_8 (Nat.le_of_ble_eq_true rfl)) (cm_in hm (r32_mk (by omega) (by omega)) (r32_mk (by omega) (by omega))) (fun r_11 A_11 h_11 => ?_) (fun E_11 A_x h_11 => ?_)
  rotate_left
  · exact h_11.elim
  obtain ⟨rfl, hA_11⟩ := h_11
  obtain rfl := hA_11.symm
  clear hA_11
  refine mx_R fun hR_2 => ?_
  refine mj_cutB (gI A 200 23 < 6) 28 ?_ (fun hJ_14 => ?_)
  · refine mx_callV (kc := 0) (ks := 0) (N := n_M_asked3) (as := [_, _, _]) (ci := 7) d_M_scene_28 s_M_146 ⟨Nat.le_of_ble_eq_true rfl, Nat.le_of_ble_eq_true rfl⟩ rfl (mj_wt_8 (Nat.le_of_ble_eq_true rfl)) (hM.o) ⟨_, rfl, rfl⟩ (cm_asked3 _ _ _ hM) (fun r_28 A_28 h_28 => ?_) (fun E_28 A_x h_28 => ?_)
    rotate_left
    · exact h_28.elim
    obtain ⟨rfl, hA_28⟩ := h_28
    obtain rfl := hA_28.symm
    clear hA_28
    refine mx_R fun hR_3 => ?_
    refine mx_if_ne 36 d_M_scene_31 rfl (by first | assumption | exact hR_3 _ _ | exact hR_2 _ _ | exact hR_1 _ _ | exact hR _ _ | exact r32_mk (by omega) (by omega)) (fun c_31 => ?_) (fun c_31 => ?_)
    · have hP : ((0 ≤ p ∧ p ≤ 3) ∧ (1 ≤ many ∧ many ≤ 24) ∧ gI A 200 23 < 6) := by omega
      rw [if_pos hP.1, if_pos hP.2.1, if_pos hP.2.2]
      exact cm_scene_t (A := sI A 200 0 0) hM ⟨hs.1, hP.2.2⟩ hm hp (Or.inl ⟨hP, rfl, rfl⟩)
    · refine mx_iconst d_M_scene_34 ?_
      refine mx_iret d_M_scene_35 rfl ?_
      exact Or.inr ⟨by omega, rfl, rfl⟩
  · refine mx_aload_n 0 d_M_scene_14 rfl rfl ?_
    refine mx_getI 23 d_M_scene_15 f_M_193 rfl rfl (hM.o) ?_
    refine mx_bipush d_M_scene_18 (by decide) ?_
    refine mx_icmp_ge 27 d_M_scene_20 rfl (by first | assumption | exact hR_2 _ _ | exact hR_1 _ _ | exact hR _ _ | exact r32_mk (by omega) (by omega)) (by first | assumption | exact hR_2 _ _ | exact hR_1 _ _ | exact hR _ _ | exact r32_mk (by omega) (by omega)) (fun c_20 => ?_) (fun c_20 => ?_)
    · refine mx_iconst d_M_scene_27 ?_
      first | exact mj_j1 hJ_14 (by omega) | exact mj_j0 hJ_14 (by omega)
    · refine mx_iconst d_M_scene_23 ?_
      refine mx_goto 28 d_M_scene_24 rfl ?_
      first | exact mj_j1 hJ_14 (by omega) | exact mj_j0 hJ_14 (by omega)
theorem cm_isScene {s : Int} (hM : MS A) (hs : r32 s) (hn : 0 ≤ gI A 200 23 ∧ gI A 200 23 ≤ 6) : mj_Cal G n_M_isScene [mR (some 200), mI s] A (fun r A' => r = some (mI (if 0 ≤ s ∧ s < gI A 200 23 then 1 else 0)) ∧ A' = A) mj_no := by
  refine mj_bodyK 0 0 [some (mR (some 200)), some (mI s)] rfl rfl rfl (by decide +kernel) (Nat.le_of_ble_eq_true rfl) (by simp) rfl ?_
  refine mx_R fun hR => ?_
  refine mx_iload_n 1 d_M_isScene_0 rfl rfl ?_
  refine mx_iconst d_M_isScene_1 ?_
  refine mx_aload_n 0 d_M_isScene_2 rfl rfl ?_
  refine mx_getI 23 d_M_isScene_3 f_M_193 rfl rfl (hM.o) ?_
  refine mx_iconst d_M_isScene_6 ?_
  refine mx_isub d_M_isScene_7 ?_
  refine mx_callS (kc := 0) (ks := 0) (N := n_M_in) (as := [_, _, _]) d_M_isScene_8 s_M_126 ⟨Nat.le_of_ble_eq_true rfl, Nat.le_of_ble_eq_true rfl⟩ rfl (mj_wt_8 (Nat.le_of_ble_eq_true rfl)) (cm_in hs (r32_mk (by omega) (by omega)) (r32_mk (by omega) (by omega))) (fun r_8 A_8 h_8 => ?_) (fun E_8 A_x h_8 => ?_)
  rotate_left
  · exact h_8.elim
  obtain ⟨rfl, hA_8⟩ := h_8
  obtain rfl := hA_8.symm
  clear hA_8
  refine mx_R fun hR_1 => ?_
  refine mx_zret d_M_isScene_11 rfl (by first | exact Or.inl rfl | exact Or.inr rfl | omega) ?_
  exact ⟨by congr 3; exact propext ⟨fun h => by omega, fun h => by omega⟩, rfl⟩
theorem cm_isLevel {s l : Int} (hM : MS A) (hs : r32 s) (hl : r32 l) (hn : 0 ≤ gI A 200 23 ∧ gI A 200 23 ≤ 6) : mj_Cal G n_M_isLevel [mR (some 200), mI s, mI l] A (fun r A' => r = some (mI (if 0 ≤ s ∧ s < gI A 200 23 ∧ 0 ≤ l ∧ l ≤ 3 then 1 else 0)) ∧ A' = A) mj_no := by
  refine mj_bodyK 0 0 [some (mR (some 200)), some (mI s), some (mI l)] rfl rfl rfl (by decide +kernel) (Nat.le_of_ble_eq_true rfl) (by simp) rfl ?_
  refine mx_R fun hR => ?_
  refine mx_aload_n 0 d_M_isLevel_0 rfl rfl ?_
  refine mx_iload_n 1 d_M_isLevel_1 rfl rfl ?_
  refine mx_callV (kc := 0) (ks := 0) (N := n_M_isScene) (as := [_]) (ci := 7) d_M_isLevel_2 s_M_196 ⟨Nat.le_of_ble_eq_true rfl, Nat.le_of_ble_eq_true rfl⟩ rfl (mj_wt_8 (Nat.le_of_ble_eq_true rfl)) (hM.o) ⟨_, rfl, rfl⟩ (cm_isScene hM hs hn) (fun r_2 A_2 h_2 => ?_) (fun E_2 A_x h_2 => ?_)
  rotate_left
  · exact h_2.elim
  obtain ⟨rfl, hA_2⟩ := h_2
  obtain rfl := hA_2.symm
  clear hA_2
  refine mx_R fun hR_1 => ?_
  refine mx_if_eq 21 d_M_isLevel_5 rfl (by first | assumption | exact hR_1 _ _ | exact hR _ _ | exact r32_mk (by omega) (by omega)) (fun c_5 => ?_) (fun c_5 => ?_)
  · refine mx_iconst d_M_isLevel_21 ?_
    refine mx_zret d_M_isLevel_22 rfl (by first | exact Or.inl rfl | exact Or.inr rfl | omega) ?_
    first | exact ⟨by rw [if_pos (by omega)], rfl⟩ | exact ⟨by rw [if_neg (by omega)], rfl⟩
  · refine mx_iload_n 2 d_M_isLevel_8 rfl rfl ?_
    refine mx_iconst d_M_isLevel_9 ?_
    refine mx_iconst d_M_isLevel_10 ?_
    refine mx_callS (kc := 0) (ks := 0) (N := n_M_in) (as := [_, _, _]) d_M_isLevel_11 s_M_126 ⟨Nat.le_of_ble_eq_true rfl, Nat.le_of_ble_eq_true rfl⟩ rfl (mj_wt_8 (Nat.le_of_ble_eq_true rfl)) (cm_in hl (r32_mk (by omega) (by omega)) (r32_mk (by omega) (by omega))) (fun r_11 A_11 h_11 => ?_) (fun E_11 A_x h_11 => ?_)
    rotate_left
    · exact h_11.elim
    obtain ⟨rfl, hA_11⟩ := h_11
    obtain rfl := hA_11.symm
    clear hA_11
    refine mx_R fun hR_2 => ?_
    refine mx_if_eq 21 d_M_isLevel_14 rfl (by first | assumption | exact hR_2 _ _ | exact hR_1 _ _ | exact hR _ _ | exact r32_mk (by omega) (by omega)) (fun c_14 => ?_) (fun c_14 => ?_)
    · refine mx_iconst d_M_isLevel_21 ?_
      refine mx_zret d_M_isLevel_22 rfl (by first | exact Or.inl rfl | exact Or.inr rfl | omega) ?_
      first | exact ⟨by rw [if_pos (by omega)], rfl⟩ | exact ⟨by rw [if_neg (by omega)], rfl⟩
    · refine mx_iconst d_M_isLevel_17 ?_
      refine mx_goto 22 d_M_isLevel_18 rfl ?_
      refine mx_zret d_M_isLevel_22 rfl (by first | exact Or.inl rfl | exact Or.inr rfl | omega) ?_
      first | exact ⟨by rw [if_pos (by omega)], rfl⟩ | exact ⟨by rw [if_neg (by omega)], rfl⟩
theorem cm_isFrame {s f : Int} (hM : MS A) (hs : r32 s) (hf : r32 f) (hn : 0 ≤ gI A 200 23 ∧ gI A 200 23 ≤ 6) (hfr : ∀ s, 0 ≤ s → s < gI A 200 23 → 1 ≤ gI A 224 s ∧ gI A 224 s ≤ 24) : mj_Cal G n_M_isFrame [mR (some 200), mI s, mI f] A (fun r A' => r = some (mI (if 0 ≤ s ∧ s < gI A 200 23 ∧ 0 ≤ f ∧ f < gI A 224 s then 1 else 0)) ∧ A' = A) mj_no := by
  refine mj_bodyK 0 0 [some (mR (some 200)), some (mI s), some (mI f)] rfl rfl rfl (by decide +kernel) (Nat.le_of_ble_eq_true rfl) (by simp) rfl ?_
  refine mx_R fun hR => ?_
  refine mx_aload_n 0 d_M_isFrame_0 rfl rfl ?_
  refine mx_iload_n 1 d_M_isFrame_1 rfl rfl ?_
  refine mx_callV (kc := 0) (ks := 0) (N := n_M_isScene) (as := [_]) (ci := 7) d_M_isFrame_2 s_M_196 ⟨Nat.le_of_ble_eq_true rfl, Nat.le_of_ble_eq_true rfl⟩ rfl (mj_wt_8 (Nat.le_of_ble_eq_true rfl)) (hM.o) ⟨_, rfl, rfl⟩ (cm_isScene hM hs hn) (fun r_2 A_2 h_2 => ?_) (fun E_2 A_x h_2 => ?_)
  rotate_left
  · exact h_2.elim
  obtain ⟨rfl, hA_2⟩ := h_2
  obtain rfl := hA_2.symm
  clear hA_2
  refine mx_R fun hR_1 => ?_
  refine mx_if_eq 28 d_M_isFrame_5 rfl (by first | assumption | exact hR_1 _ _ | exact hR _ _ | exact r32_mk (by omega) (by omega)) (fun c_5 => ?_) (fun c_5 => ?_)
  · refine mx_iconst d_M_isFrame_28 ?_
    refine mx_zret d_M_isFrame_29 rfl (by first | exact Or.inl rfl | exact Or.inr rfl | omega) ?_
    first | exact ⟨by rw [if_pos (by omega)], rfl⟩ | exact ⟨by rw [if_neg (by omega)], rfl⟩
  · have hf1 := hfr s (by omega) (by omega)
    refine mx_iload_n 2 d_M_isFrame_8 rfl rfl ?_
    refine mx_iconst d_M_isFrame_9 ?_
    refine mx_aload_n 0 d_M_isFrame_10 rfl rfl ?_
    refine mx_getPs 24 d_M_isFrame_11 f_M_65 rfl rfl (hM.o) (hM.p24) ?_
    refine mx_iload_n 1 d_M_isFrame_14 rfl rfl ?_
    refine mx_iald d_M_isFrame_15 (hM.s24) (by omega) (by omega) ?_
    refine mx_iconst d_M_isFrame_16 ?_
    refine mx_isub d_M_isFrame_17 ?_
    refine mx_callS (kc := 0) (ks := 0) (N := n_M_in) (as := [_, _, _]) d_M_isFrame_18 s_M_126 ⟨Nat.le_of_ble_eq_true rfl, Nat.le_of_ble_eq_true rfl⟩ rfl (mj_wt_8 (Nat.le_of_ble_eq_true rfl)) (cm_in hf (r32_mk (by omega) (by omega)) (r32_mk (by omega) (by omega))) (fun r_18 A_18 h_18 => ?_) (fun E_18 A_x h_18 => ?_)
    rotate_left
    · exact h_18.elim
    obtain ⟨rfl, hA_18⟩ := h_18
    obtain rfl := hA_18.symm
    clear hA_18
    refine mx_R fun hR_2 => ?_
    refine mx_if_eq 28 d_M_isFrame_21 rfl (by first | assumption | exact hR_2 _ _ | exact hR_1 _ _ | exact hR _ _ | exact r32_mk (by omega) (by omega)) (fun c_21 => ?_) (fun c_21 => ?_)
    · refine mx_iconst d_M_isFrame_28 ?_
      refine mx_zret d_M_isFrame_29 rfl (by first | exact Or.inl rfl | exact Or.inr rfl | omega) ?_
      first | exact ⟨by rw [if_pos (by omega)], rfl⟩ | exact ⟨by rw [if_neg (by omega)], rfl⟩
    · refine mx_iconst d_M_isFrame_24 ?_
      refine mx_goto 29 d_M_isFrame_25 rfl ?_
      refine mx_zret d_M_isFrame_29 rfl (by first | exact Or.inl rfl | exact Or.inr rfl | omega) ?_
      first | exact ⟨by rw [if_pos (by omega)], rfl⟩ | exact ⟨by rw [if_neg (by omega)], rfl⟩
end MOD5
