/-! THE REFERENCE, 4: erase, paint, colour, scenes -/
section MOD4
variable {G : mj_G} {A : mj_M}
/-- the rows behind a stroke that goes move up -/
def er_w (B : mj_M) (k i1 i2 e : Int) : mj_M := sF (sF (sF B 210 (fun j => if k ≤ j ∧ j < i1 then gI B 210 (j + 1) else gI B 210 j)) 211 (fun j => if k ≤ j ∧ j < i2 then gI B 211 (j + 1) else gI B 211 j)) 212 (fun j => if 4 * k ≤ j ∧ j < e then gI B 212 (j + 4) else gI B 212 j)
theorem er_w0 {k : Int} : er_w A k k k (4 * k) = A := by
  unfold er_w
  exact mj_ext3 (fun _ => rfl) (fun c_ x_ => by simp only [gI_sI, gI_sF]; grind) (fun _ _ => rfl)
theorem er_w1 {k i e : Int} (h : k ≤ i) : sI (er_w A k i i e) 210 i (gI (er_w A k i i e) 210 (i + 1)) = er_w A k (i + 1) i e := by
  unfold er_w
  exact mj_ext3 (fun _ => rfl) (fun c_ x_ => by simp only [gI_sI, gI_sF]; grind) (fun _ _ => rfl)
theorem er_w2 {k i e : Int} (h : k ≤ i) : sI (er_w A k (i + 1) i e) 211 i (gI (er_w A k (i + 1) i e) 211 (i + 1)) = er_w A k (i + 1) (i + 1) e := by
  unfold er_w
  exact mj_ext3 (fun _ => rfl) (fun c_ x_ => by simp only [gI_sI, gI_sF]; grind) (fun _ _ => rfl)
theorem er_w3 {k i e : Int} (h : 4 * k ≤ e) : sI (er_w A k i i e) 212 e (gI (er_w A k i i e) 212 (e + 4)) = er_w A k i i (e + 1) := by
  unfold er_w
  exact mj_ext3 (fun _ => rfl) (fun c_ x_ => by simp only [gI_sI, gI_sF]; grind) (fun _ _ => rfl)
theorem cm_erase_t {d its k n : Int} (hM : MS A) (hd0 : 0 ≤ d) (hd1 : d < 16) (hn : gI A 209 d + 1 = n) (hn8 : n ≤ 8) (hk : 8 * d ≤ k) (hk1 : k < 8 * d + n) {P : Option mj_V → mj_M → Prop} (hP : P (some (mI 1)) (sI (er_w A k (8 * d + n - 1) (8 * d + n - 1) (4 * (8 * d + n - 1))) 200 17 1)) :
    mj_X G n_M_erase (mj_Qm G n_M_erase P mj_no) A 0 0 50 [some (mR (some 200)), some (mI d), some (mI its), some (mI k), none, none] [] := by
  have hl : ∀ q : Int × Option mj_V, (k ≤ q.1 ∧ q.1 ≤ 8 * d + n - 1) → mj_X G n_M_erase (mj_Qm G n_M_erase P mj_no) (er_w A k q.1 q.1 (4 * q.1)) 0 0 53 [some (mR (some 200)), some (mI d), some (mI its), some (mI k), some (mI q.1), q.2] [] := by
    refine mj_loop _ (fun q => (8 * d + n - q.1).toNat) _ ?_
    intro ⟨i, o⟩ hi ih
    have hi1 : k ≤ i := hi.1
    have hi2 : i ≤ 8 * d + n - 1 := hi.2
    have hin : ∀ j : Int, (0 ≤ j ∧ j ≤ 4 ∧ i < 8 * d + n - 1) → mj_X G n_M_erase (mj_Qm G n_M_erase P mj_no) (er_w A k (i + 1) (i + 1) (4 * i + j)) 0 0 104 [some (mR (some 200)), some (mI d), some (mI its), some (mI k), some (mI i), some (mI j)] [] := by
      refine mj_loop _ (fun j => (4 - j).toNat) _ ?_
      intro j hj ihj
      refine mx_R fun hR => ?_
      refine mx_iload 5 d_M_erase_104 rfl ?_
      refine mx_iconst d_M_erase_106 ?_
      refine mx_icmp_ge 142 d_M_erase_107 rfl (by first | assumption | exact hR _ _ | exact r32_mk (by omega) (by omega)) (by first | assumption | exact hR _ _ | exact r32_mk (by omega) (by omega)) (fun c_107 => ?_) (fun c_107 => ?_)
      · refine mx_iinc 4 d_M_erase_142 rfl (Nat.le_of_ble_eq_true rfl) ?_
        refine mx_goto 53 d_M_erase_145 rfl ?_
        rw [show 4 * i + j = 4 * (i + 1) by omega]
        exact ih (i + 1, some (mI j)) ⟨by show k ≤ i + 1; omega, by show i + 1 ≤ _; omega⟩ (by show (8 * d + n - (i + 1)).toNat < (8 * d + n - i).toNat; omega)
      · refine mx_aload_n 0 d_M_erase_110 rfl rfl ?_
        refine mx_getPs 12 d_M_erase_111 f_M_35 rfl rfl (hM.o) (hM.p12) ?_
        refine mx_iconst d_M_erase_114 ?_
        refine mx_iload 4 d_M_erase_115 rfl ?_
        refine mx_imul d_M_erase_117 ?_
        refine mx_iload 5 d_M_erase_118 rfl ?_
        refine mx_iadd d_M_erase_120 ?_
        refine mx_aload_n 0 d_M_erase_121 rfl rfl ?_
        refine mx_getPs 12 d_M_erase_122 f_M_35 rfl rfl (hM.o) (hM.p12) ?_
        refine mx_iconst d_M_erase_125 ?_
        refine mx_iload 4 d_M_erase_126 rfl ?_
        refine mx_imul d_M_erase_128 ?_
        refine mx_iconst d_M_erase_129 ?_
        refine mx_iadd d_M_erase_130 ?_
        refine mx_iload 5 d_M_erase_131 rfl ?_
        refine mx_iadd d_M_erase_133 ?_
        refine mx_iald d_M_erase_134 (hM.s12) (by omega) (by omega) ?_
        refine mx_iast d_M_erase_135 (hM.s12) (by omega) (by omega) (by first | assumption | exact hR _ _ | exact r32_mk (by omega) (by omega)) ?_
        refine mx_R fun hR_1 => ?_
        rw [show 4 * i + 4 + j = 4 * i + j + 4 by omega, er_w3 (by omega), show 4 * i + j + 1 = 4 * i + (j + 1) by omega]
        refine mx_iinc 5 d_M_erase_136 rfl (Nat.le_of_ble_eq_true rfl) ?_
        refine mx_goto 104 d_M_erase_139 rfl ?_
        exact ihj (j + 1) (by omega) (by omega)
    have hsn : gI (er_w A k i i (4 * i)) 209 d = gI A 209 d := rfl
    show mj_X G n_M_erase (mj_Qm G n_M_erase P mj_no) (er_w A k i i (4 * i)) 0 0 53 [some (mR (some 200)), some (mI d), some (mI its), some (mI k), some (mI i), o] []
    refine mx_R fun hR => ?_
    refine mx_iload 4 d_M_erase_53 rfl ?_
    refine mx_bipush d_M_erase_55 (by decide) ?_
    refine mx_iload_n 1 d_M_erase_57 rfl rfl ?_
    refine mx_imul d_M_erase_58 ?_
    refine mx_aload_n 0 d_M_erase_59 rfl rfl ?_
    refine mx_getPs 9 d_M_erase_60 f_M_26 rfl rfl (hM.o) (hM.p9) ?_
    refine mx_iload_n 1 d_M_erase_63 rfl rfl ?_
    refine mx_iald d_M_erase_64 (hM.s9) (by omega) (by omega) ?_
    refine mx_iadd d_M_erase_65 ?_
    refine mx_icmp_ge 148 d_M_erase_66 rfl (by first | assumption | exact hR _ _ | exact r32_mk (by omega) (by omega)) (by first | assumption | exact hR _ _ | exact r32_mk (by omega) (by omega)) (fun c_66 => ?_) (fun c_66 => ?_)
    · refine mx_aload_n 0 d_M_erase_148 rfl rfl ?_
      refine mx_iconst d_M_erase_149 ?_
      refine mx_putI 17 d_M_erase_150 f_M_134 rfl (hM.o) (Or.inl rfl) (Or.inr ⟨rfl, by first | exact Or.inl rfl | exact Or.inr rfl | omega⟩) (by first | assumption | exact hR _ _ | exact r32_mk (by omega) (by omega)) ?_
      refine mx_R fun hR_1 => ?_
      refine mx_iconst d_M_erase_153 ?_
      refine mx_zret d_M_erase_154 rfl (by first | exact Or.inl rfl | exact Or.inr rfl | omega) ?_
      have h8 : i = 8 * d + n - 1 := by omega
      rw [← h8] at hP
      exact hP
    · refine mx_aload_n 0 d_M_erase_69 rfl rfl ?_
      refine mx_getPs 10 d_M_erase_70 f_M_29 rfl rfl (hM.o) (hM.p10) ?_
      refine mx_iload 4 d_M_erase_73 rfl ?_
      refine mx_aload_n 0 d_M_erase_75 rfl rfl ?_
      refine mx_getPs 10 d_M_erase_76 f_M_29 rfl rfl (hM.o) (hM.p10) ?_
      refine mx_iload 4 d_M_erase_79 rfl ?_
      refine mx_iconst d_M_erase_81 ?_
      refine mx_iadd d_M_erase_82 ?_
      refine mx_iald d_M_erase_83 (hM.s10) (by omega) (by omega) ?_
      refine mx_iast d_M_erase_84 (hM.s10) (by omega) (by omega) (by first | assumption | exact hR _ _ | exact r32_mk (by omega) (by omega)) ?_
      refine mx_R fun hR_2 => ?_
      rw [er_w1 (by omega)]
      refine mx_aload_n 0 d_M_erase_85 rfl rfl ?_
      refine mx_getPs 11 d_M_erase_86 f_M_32 rfl rfl (hM.o) (hM.p11) ?_
      refine mx_iload 4 d_M_erase_89 rfl ?_
      refine mx_aload_n 0 d_M_erase_91 rfl rfl ?_
      refine mx_getPs 11 d_M_erase_92 f_M_32 rfl rfl (hM.o) (hM.p11) ?_
      refine mx_iload 4 d_M_erase_95 rfl ?_
      refine mx_iconst d_M_erase_97 ?_
      refine mx_iadd d_M_erase_98 ?_
      refine mx_iald d_M_erase_99 (hM.s11) (by omega) (by omega) ?_
      refine mx_iast d_M_erase_100 (hM.s11) (by omega) (by omega) (by first | assumption | exact hR_2 _ _ | exact hR _ _ | exact r32_mk (by omega) (by omega)) ?_
      refine mx_R fun hR_3 => ?_
      rw [er_w2 (by omega)]
      refine mx_iconst d_M_erase_101 ?_
      refine mx_istore 5 d_M_erase_102 (Nat.le_of_ble_eq_true rfl) ?_
      have h9 := hin 0 ⟨by omega, by omega, by omega⟩
      rw [show 4 * i + 0 = 4 * i by omega] at h9
      exact h9
  refine mx_R fun hR => ?_
  refine mx_iload_n 3 d_M_erase_50 rfl rfl ?_
  refine mx_istore 4 d_M_erase_51 (Nat.le_of_ble_eq_true rfl) ?_
  have h9 := hl (k, none) ⟨by show k ≤ k; omega, by show k ≤ _; omega⟩
  rw [er_w0] at h9
  exact h9
theorem cm_erase_u {d its : Int} (hM : MS A) (hd0 : 0 ≤ d) (hd1 : d < 16) (hi : r32 its) (hs1 : 0 ≤ gI A 209 d ∧ gI A 209 d ≤ 8) {P : Option mj_V → mj_M → Prop}
    (hP1 : ∀ k, 8 * d ≤ k → k < 8 * d + gI A 209 d → gI A 210 k = its → (∀ j, 8 * d ≤ j → j < k → gI A 210 j ≠ its) → P (some (mI 1)) (sI (er_w (sI A 209 d (gI A 209 d - 1)) k (8 * d + gI A 209 d - 1) (8 * d + gI A 209 d - 1) (4 * (8 * d + gI A 209 d - 1))) 200 17 1))
    (hP2 : (∀ j, 8 * d ≤ j → j < 8 * d + gI A 209 d → gI A 210 j ≠ its) → P (some (mI 0)) A) :
    mj_X G n_M_erase (mj_Qm G n_M_erase P mj_no) A 0 0 26 [some (mR (some 200)), some (mI d), some (mI its), none, none, none] [] := by
  refine mx_R fun hR => ?_
  refine mx_aload_n 0 d_M_erase_26 rfl rfl ?_
  refine mx_iload_n 1 d_M_erase_27 rfl rfl ?_
  refine mx_iload_n 2 d_M_erase_28 rfl rfl ?_
  refine mx_callV (kc := 0) (ks := 0) (N := n_M_strokeOf) (as := [_, _]) (ci := 7) d_M_erase_29 s_M_156 ⟨Nat.le_of_ble_eq_true rfl, Nat.le_of_ble_eq_true rfl⟩ rfl (mj_wt_8 (Nat.le_of_ble_eq_true rfl)) (hM.o) ⟨_, rfl, rfl⟩ (cm_strokeOf hM hd0 hd1 rfl hs1.1 hs1.2 hi) (fun r_29 A_29 h_29 => ?_) (fun E_29 A_x h_29 => ?_)
  rotate_left
  · exact h_29.elim
  obtain ⟨hA_29, hq⟩ := h_29
  obtain rfl := hA_29.symm
  clear hA_29
  refine mx_R fun hR_1 => ?_
  obtain ⟨k, rfl, h4, h5, h6, h7⟩ | ⟨rfl, h4⟩ := hq
  · refine mx_istore_n 3 d_M_erase_32 rfl (Nat.le_of_ble_eq_true rfl) ?_
    refine mx_R fun hR => ?_
    refine mx_iload_n 3 d_M_erase_33 rfl rfl ?_
    refine mx_iconst d_M_erase_34 ?_
    refine mx_icmp_ne 40 d_M_erase_35 rfl (by first | assumption | exact hR _ _ | exact r32_mk (by omega) (by omega)) (by first | assumption | exact hR _ _ | exact r32_mk (by omega) (by omega)) (fun c_35 => ?_) (fun c_35 => ?_)
    · refine mx_aload_n 0 d_M_erase_40 rfl rfl ?_
      refine mx_getPs 9 d_M_erase_41 f_M_26 rfl rfl (hM.o) (hM.p9) ?_
      refine mx_iload_n 1 d_M_erase_44 rfl rfl ?_
      refine mx_dup2 d_M_erase_45 (fun z h => by cases h) (fun z h => by cases h) ?_
      refine mx_iald d_M_erase_46 (hM.s9) (by omega) (by omega) ?_
      refine mx_iconst d_M_erase_47 ?_
      refine mx_isub d_M_erase_48 ?_
      refine mx_iast d_M_erase_49 (hM.s9) (by omega) (by omega) (by first | assumption | exact hR _ _ | exact r32_mk (by omega) (by omega)) ?_
      refine mx_R fun hR_1 => ?_
      (try simp only [gI_sI, gI_sF, gI_sP, gI_sN, gP_sI, gP_sF, gP_sP, gP_sN, gS_sI, gS_sF, gS_sP, gS_sN, Int.reduceEq, false_and, and_false, true_and, and_true, eq_self, if_false, if_true, reduceIte, reduceCtorEq])
      exact cm_erase_t (A := sI A 209 d (gI A 209 d - 1)) (n := gI A 209 d) hM hd0 (by omega) (by (try simp only [gI_sI, gI_sF, gI_sP, gI_sN, gP_sI, gP_sF, gP_sP, gP_sN, gS_sI, gS_sF, gS_sP, gS_sN, Int.reduceEq, false_and, and_false, true_and, and_true, eq_self, if_false, if_true, reduceIte, reduceCtorEq]); omega) hs1.2 h4 h5 (hP1 k h4 h5 h6 h7)
    · exfalso; omega
  refine mx_istore_n 3 d_M_erase_32 rfl (Nat.le_of_ble_eq_true rfl) ?_
  refine mx_iload_n 3 d_M_erase_33 rfl rfl ?_
  refine mx_iconst d_M_erase_34 ?_
  refine mx_icmp_ne 40 d_M_erase_35 rfl (by first | assumption | exact hR_1 _ _ | exact hR _ _ | exact r32_mk (by omega) (by omega)) (by first | assumption | exact hR_1 _ _ | exact hR _ _ | exact r32_mk (by omega) (by omega)) (fun c_35 => ?_) (fun c_35 => ?_)
  · exfalso; omega
  · refine mx_iconst d_M_erase_38 ?_
    refine mx_zret d_M_erase_39 rfl (by first | exact Or.inl rfl | exact Or.inr rfl | omega) ?_
    exact hP2 h4
theorem cm_erase {d its : Int} (hM : MS A) (hn : 0 ≤ gI A 200 3 ∧ gI A 200 3 ≤ 16) (hd : r32 d) (hi : r32 its) (hs : ∀ d, 0 ≤ d → d < 16 → 0 ≤ gI A 209 d ∧ gI A 209 d ≤ 8) : mj_Cal G n_M_erase [mR (some 200), mI d, mI its] A (fun r A' => (((0 ≤ d ∧ d < gI A 200 3) ∧ (0 ≤ its ∧ its ≤ 7) ∧ (0 ≤ d ∧ d < gI A 200 3 ∧ gI A 204 d = -1 ∧ gI A 208 d = 0)) ∧ ((∃ k, 8 * d ≤ k ∧ k < 8 * d + gI A 209 d ∧ gI A 210 k = its ∧ (∀ j, 8 * d ≤ j → j < k → gI A 210 j ≠ its) ∧ r = some (mI 1) ∧ A' = sI (er_w (sI (sI A 200 0 0) 209 d (gI A 209 d - 1)) k (8 * d + gI A 209 d - 1) (8 * d + gI A 209 d - 1) (4 * (8 * d + gI A 209 d - 1))) 200 17 1) ∨ ((∀ j, 8 * d ≤ j → j < 8 * d + gI A 209 d → gI A 210 j ≠ its) ∧ r = some (mI 0) ∧ A' = sI A 200 0 0))) ∨ (¬ ((0 ≤ d ∧ d < gI A 200 3) ∧ (0 ≤ its ∧ its ≤ 7) ∧ (0 ≤ d ∧ d < gI A 200 3 ∧ gI A 204 d = -1 ∧ gI A 208 d = 0)) ∧ r = some (mI 0) ∧ A' = sI A 200 0 (if 0 ≤ d ∧ d < gI A 200 3 then (if 0 ≤ its ∧ its ≤ 7 then (if 0 ≤ d ∧ d < gI A 200 3 ∧ gI A 204 d = -1 ∧ gI A 208 d = 0 then 0 else 3) else 2) else 1))) mj_no := by
  refine mj_bodyK 0 0 [some (mR (some 200)), some (mI d), some (mI its), none, none, none] rfl rfl rfl (by decide +kernel) (Nat.le_of_ble_eq_true rfl) (by simp) rfl ?_
  refine mx_R fun hR => ?_
  refine mx_aload_n 0 d_M_erase_0 rfl rfl ?_
  refine mx_aload_n 0 d_M_erase_1 rfl rfl ?_
  refine mx_iload_n 1 d_M_erase_2 rfl rfl ?_
  refine mx_callV (kc := 0) (ks := 0) (N := n_M_isDrawing) (as := [_]) (ci := 7) d_M_erase_3 s_M_130 ⟨Nat.le_of_ble_eq_true rfl, Nat.le_of_ble_eq_true rfl⟩ rfl (mj_wt_8 (Nat.le_of_ble_eq_true rfl)) (hM.o) ⟨_, rfl, rfl⟩ (cm_isDrawing hM hd hn) (fun r_3 A_3 h_3 => ?_) (fun E_3 A_x h_3 => ?_)
  rotate_left
  · exact h_3.elim
  obtain ⟨rfl, hA_3⟩ := h_3
  obtain rfl := hA_3.symm
  clear hA_3
  refine mx_R fun hR_1 => ?_
  refine mx_iload_n 2 d_M_erase_6 rfl rfl ?_
  refine mx_iconst d_M_erase_7 ?_
  refine mx_bipush d_M_erase_8 (by decide) ?_
  refine mx_callS (kc := 0) (ks := 0) (N := n_M_in) (as := [_, _, _]) d_M_erase_10 s_M_126 ⟨Nat.le_of_ble_eq_true rfl, Nat.le_of_ble_eq_true rfl⟩ rfl (mj_wt_8 (Nat.le_of_ble_eq_true rfl)) (cm_in hi (r32_mk (by omega) (by omega)) (r32_mk (by omega) (by omega))) (fun r_10 A_10 h_10 => ?_) (fun E_10 A_x h_10 => ?_)
  rotate_left
  · exact h_10.elim
  obtain ⟨rfl, hA_10⟩ := h_10
  obtain rfl := hA_10.symm
  clear hA_10
  refine mx_R fun hR_2 => ?_
  refine mx_aload_n 0 d_M_erase_13 rfl rfl ?_
  refine mx_iload_n 1 d_M_erase_14 rfl rfl ?_
  refine mx_callV (kc := 0) (ks := 0) (N := n_M_isOpen) (as := [_]) (ci := 7) d_M_erase_15 s_M_153 ⟨Nat.le_of_ble_eq_true rfl, Nat.le_of_ble_eq_true rfl⟩ rfl (mj_wt_8 (Nat.le_of_ble_eq_true rfl)) (hM.o) ⟨_, rfl, rfl⟩ (cm_isOpen hM hd hn) (fun r_15 A_15 h_15 => ?_) (fun E_15 A_x h_15 => ?_)
  rotate_left
  · exact h_15.elim
  obtain ⟨rfl, hA_15⟩ := h_15
  obtain rfl := hA_15.symm
  clear hA_15
  refine mx_R fun hR_3 => ?_
  refine mx_callV (kc := 0) (ks := 0) (N := n_M_asked3) (as := [_, _, _]) (ci := 7) d_M_erase_18 s_M_146 ⟨Nat.le_of_ble_eq_true rfl, Nat.le_of_ble_eq_true rfl⟩ rfl (mj_wt_8 (Nat.le_of_ble_eq_true rfl)) (hM.o) ⟨_, rfl, rfl⟩ (cm_asked3 _ _ _ hM) (fun r_18 A_18 h_18 => ?_) (fun E_18 A_x h_18 => ?_)
  rotate_left
  · exact h_18.elim
  obtain ⟨rfl, hA_18⟩ := h_18
  obtain rfl := hA_18.symm
  clear hA_18
  refine mx_R fun hR_4 => ?_
  refine mx_if_ne 26 d_M_erase_21 rfl (by first | assumption | exact hR_4 _ _ | exact hR_3 _ _ | exact hR_2 _ _ | exact hR_1 _ _ | exact hR _ _ | exact r32_mk (by omega) (by omega)) (fun c_21 => ?_) (fun c_21 => ?_)
  · have hP : ((0 ≤ d ∧ d < gI A 200 3) ∧ (0 ≤ its ∧ its ≤ 7) ∧ (0 ≤ d ∧ d < gI A 200 3 ∧ gI A 204 d = -1 ∧ gI A 208 d = 0)) := by omega
    rw [if_pos hP.1, if_pos hP.2.1, if_pos hP.2.2]
    exact cm_erase_u (A := sI A 200 0 0) hM hP.1.1 (by omega) hi (hs d hP.1.1 (by omega)) (fun k a b c e => Or.inl ⟨hP, Or.inl ⟨k, a, b, c, e, rfl, rfl⟩⟩) (fun a => Or.inl ⟨hP, Or.inr ⟨a, rfl, rfl⟩⟩)
  · refine mx_iconst d_M_erase_24 ?_
    refine mx_zret d_M_erase_25 rfl (by first | exact Or.inl rfl | exact Or.inr rfl | omega) ?_
    exact Or.inr ⟨by omega, rfl, rfl⟩
def pa_m (A : mj_M) (d c : Int) : mj_M := sI (sI (sI (sI A 214 (6 * d + gI A 213 d) (16 * gI A 200 2 + gI A 200 1)) 215 (6 * d + gI A 213 d) c) 213 d (gI A 213 d + 1)) 200 17 1
theorem cm_paint_t {d c : Int} (hM : MS A) (hd0 : 0 ≤ d) (hd1 : d < 16) (hc : r32 c) (hs1 : 0 ≤ gI A 213 d ∧ gI A 213 d < 6) (hpx : 0 ≤ gI A 200 1 ∧ gI A 200 1 < 16) (hpy : 0 ≤ gI A 200 2 ∧ gI A 200 2 < 12) {P : Option mj_V → mj_M → Prop} (hP : P (some (mI (gI A 213 d + 1))) (pa_m A d c)) :
    mj_X G n_M_paint (mj_Qm G n_M_paint P mj_no) A 0 0 56 [some (mR (some 200)), some (mI d), some (mI c)] [] := by
  refine mx_R fun hR => ?_
  refine mx_aload_n 0 d_M_paint_56 rfl rfl ?_
  refine mx_getPs 14 d_M_paint_57 f_M_41 rfl rfl (hM.o) (hM.p14) ?_
  refine mx_bipush d_M_paint_60 (by decide) ?_
  refine mx_iload_n 1 d_M_paint_62 rfl rfl ?_
  refine mx_imul d_M_paint_63 ?_
  refine mx_aload_n 0 d_M_paint_64 rfl rfl ?_
  refine mx_getPs 13 d_M_paint_65 f_M_38 rfl rfl (hM.o) (hM.p13) ?_
  refine mx_iload_n 1 d_M_paint_68 rfl rfl ?_
  refine mx_iald d_M_paint_69 (hM.s13) (by omega) (by omega) ?_
  refine mx_iadd d_M_paint_70 ?_
  refine mx_bipush d_M_paint_71 (by decide) ?_
  refine mx_aload_n 0 d_M_paint_73 rfl rfl ?_
  refine mx_getI 2 d_M_paint_74 f_M_163 rfl rfl (hM.o) ?_
  refine mx_imul d_M_paint_77 ?_
  refine mx_aload_n 0 d_M_paint_78 rfl rfl ?_
  refine mx_getI 1 d_M_paint_79 f_M_160 rfl rfl (hM.o) ?_
  refine mx_iadd d_M_paint_82 ?_
  refine mx_iast d_M_paint_83 (hM.s14) (by omega) (by omega) (by first | assumption | exact hR _ _ | exact r32_mk (by omega) (by omega)) ?_
  refine mx_R fun hR_1 => ?_
  refine mx_aload_n 0 d_M_paint_84 rfl rfl ?_
  refine mx_getPs 15 d_M_paint_85 f_M_44 rfl rfl (hM.o) (hM.p15) ?_
  refine mx_bipush d_M_paint_88 (by decide) ?_
  refine mx_iload_n 1 d_M_paint_90 rfl rfl ?_
  refine mx_imul d_M_paint_91 ?_
  refine mx_aload_n 0 d_M_paint_92 rfl rfl ?_
  refine mx_getPs 13 d_M_paint_93 f_M_38 rfl rfl (hM.o) (hM.p13) ?_
  refine mx_iload_n 1 d_M_paint_96 rfl rfl ?_
  refine mx_iald d_M_paint_97 (hM.s13) (by omega) (by omega) ?_
  (try simp only [gI_sI, gI_sF, gI_sP, gI_sN, gP_sI, gP_sF, gP_sP, gP_sN, gS_sI, gS_sF, gS_sP, gS_sN, Int.reduceEq, false_and, and_false, true_and, and_true, eq_self, if_false, if_true, reduceIte, reduceCtorEq])
  refine mx_iadd d_M_paint_98 ?_
  refine mx_iload_n 2 d_M_paint_99 rfl rfl ?_
  refine mx_iast d_M_paint_100 (hM.s15) (by omega) (by omega) (by first | assumption | exact hR_1 _ _ | exact hR _ _ | exact r32_mk (by omega) (by omega)) ?_
  refine mx_R fun hR_2 => ?_
  refine mx_aload_n 0 d_M_paint_101 rfl rfl ?_
  refine mx_getPs 13 d_M_paint_102 f_M_38 rfl rfl (hM.o) (hM.p13) ?_
  refine mx_iload_n 1 d_M_paint_105 rfl rfl ?_
  refine mx_dup2 d_M_paint_106 (fun z h => by cases h) (fun z h => by cases h) ?_
  refine mx_iald d_M_paint_107 (hM.s13) (by omega) (by omega) ?_
  (try simp only [gI_sI, gI_sF, gI_sP, gI_sN, gP_sI, gP_sF, gP_sP, gP_sN, gS_sI, gS_sF, gS_sP, gS_sN, Int.reduceEq, false_and, and_false, true_and, and_true, eq_self, if_false, if_true, reduceIte, reduceCtorEq])
  refine mx_iconst d_M_paint_108 ?_
  refine mx_iadd d_M_paint_109 ?_
  refine mx_iast d_M_paint_110 (hM.s13) (by omega) (by omega) (by first | assumption | exact hR_2 _ _ | exact hR_1 _ _ | exact hR _ _ | exact r32_mk (by omega) (by omega)) ?_
  refine mx_R fun hR_3 => ?_
  refine mx_aload_n 0 d_M_paint_111 rfl rfl ?_
  refine mx_iconst d_M_paint_112 ?_
  refine mx_putI 17 d_M_paint_113 f_M_134 rfl (hM.o) (Or.inl rfl) (Or.inr ⟨rfl, by first | exact Or.inl rfl | exact Or.inr rfl | omega⟩) (by first | assumption | exact hR_3 _ _ | exact hR_2 _ _ | exact hR_1 _ _ | exact hR _ _ | exact r32_mk (by omega) (by omega)) ?_
  refine mx_R fun hR_4 => ?_
  refine mx_aload_n 0 d_M_paint_116 rfl rfl ?_
  refine mx_getPs 13 d_M_paint_117 f_M_38 rfl rfl (hM.o) (hM.p13) ?_
  refine mx_iload_n 1 d_M_paint_120 rfl rfl ?_
  refine mx_iald d_M_paint_121 (hM.s13) (by omega) (by omega) ?_
  (try simp only [gI_sI, gI_sF, gI_sP, gI_sN, gP_sI, gP_sF, gP_sP, gP_sN, gS_sI, gS_sF, gS_sP, gS_sN, Int.reduceEq, false_and, and_false, true_and, and_true, eq_self, if_false, if_true, reduceIte, reduceCtorEq])
  refine mx_iret d_M_paint_122 rfl ?_
  exact hP
theorem cm_paint {d c : Int} (hM : MS A) (hn : 0 ≤ gI A 200 3 ∧ gI A 200 3 ≤ 16) (hd : r32 d) (hc : r32 c) (hs : ∀ d, 0 ≤ d → d < 16 → 0 ≤ gI A 213 d ∧ gI A 213 d ≤ 6) (hpx : 0 ≤ gI A 200 1 ∧ gI A 200 1 < 16) (hpy : 0 ≤ gI A 200 2 ∧ gI A 200 2 < 12) : mj_Cal G n_M_paint [mR (some 200), mI d, mI c] A (fun r A' => (((0 ≤ d ∧ d < gI A 200 3 ∧ 0 ≤ c ∧ c ≤ 7) ∧ (0 ≤ d ∧ d < gI A 200 3 ∧ gI A 204 d = -1 ∧ gI A 208 d = 0 ∧ gI A 213 d < 6)) ∧ r = some (mI (gI A 213 d + 1)) ∧ A' = pa_m (sI A 200 0 0) d c) ∨ (¬ ((0 ≤ d ∧ d < gI A 200 3 ∧ 0 ≤ c ∧ c ≤ 7) ∧ (0 ≤ d ∧ d < gI A 200 3 ∧ gI A 204 d = -1 ∧ gI A 208 d = 0 ∧ gI A 213 d < 6)) ∧ r = some (mI 0) ∧ A' = sI A 200 0 (if 0 ≤ d ∧ d < gI A 200 3 ∧ 0 ≤ c ∧ c ≤ 7 then (if 0 ≤ d ∧ d < gI A 200 3 ∧ gI A 204 d = -1 ∧ gI A 208 d = 0 ∧ gI A 213 d < 6 then 0 else 2) else 1))) mj_no := by
  refine mj_bodyK 0 0 [some (mR (some 200)), some (mI d), some (mI c)] rfl rfl rfl (by decide +kernel) (Nat.le_of_ble_eq_true rfl) (by simp) rfl ?_
  refine mx_R fun hR => ?_
  refine mx_aload_n 0 d_M_paint_0 rfl rfl ?_
  refine mj_cutB ((0 ≤ d ∧ d < gI A 200 3 ∧ 0 ≤ c ∧ c ≤ 7)) 24 ?_ (fun hJ_1 => ?_)
  · refine mj_cutB ((0 ≤ d ∧ d < gI A 200 3 ∧ gI A 204 d = -1 ∧ gI A 208 d = 0 ∧ gI A 213 d < 6)) 48 ?_ (fun hJ_24 => ?_)
    · refine mx_callV (kc := 0) (ks := 0) (N := n_M_asked2) (as := [_, _]) (ci := 7) d_M_paint_48 s_M_166 ⟨Nat.le_of_ble_eq_true rfl, Nat.le_of_ble_eq_true rfl⟩ rfl (mj_wt_8 (Nat.le_of_ble_eq_true rfl)) (hM.o) ⟨_, rfl, rfl⟩ (cm_asked2 _ _ hM) (fun r_48 A_48 h_48 => ?_) (fun E_48 A_x h_48 => ?_)
      rotate_left
      · exact h_48.elim
      obtain ⟨rfl, hA_48⟩ := h_48
      obtain rfl := hA_48.symm
      clear hA_48
      refine mx_R fun hR_1 => ?_
      refine mx_if_ne 56 d_M_paint_51 rfl (by first | assumption | exact hR_1 _ _ | exact hR _ _ | exact r32_mk (by omega) (by omega)) (fun c_51 => ?_) (fun c_51 => ?_)
      · have hP : ((0 ≤ d ∧ d < gI A 200 3 ∧ 0 ≤ c ∧ c ≤ 7) ∧ (0 ≤ d ∧ d < gI A 200 3 ∧ gI A 204 d = -1 ∧ gI A 208 d = 0 ∧ gI A 213 d < 6)) := by omega
        rw [if_pos hP.1, if_pos hP.2]
        have hs1 := hs d hP.1.1 (by omega)
        exact cm_paint_t (A := sI A 200 0 0) hM hP.1.1 (by omega) hc ⟨hs1.1, hP.2.2.2.2.2⟩ hpx hpy (Or.inl ⟨hP, rfl, rfl⟩)
      · refine mx_iconst d_M_paint_54 ?_
        refine mx_iret d_M_paint_55 rfl ?_
        exact Or.inr ⟨by omega, rfl, rfl⟩
    · refine mx_aload_n 0 d_M_paint_24 rfl rfl ?_
      refine mx_iload_n 1 d_M_paint_25 rfl rfl ?_
      refine mx_callV (kc := 0) (ks := 0) (N := n_M_isOpen) (as := [_]) (ci := 7) d_M_paint_26 s_M_153 ⟨Nat.le_of_ble_eq_true rfl, Nat.le_of_ble_eq_true rfl⟩ rfl (mj_wt_8 (Nat.le_of_ble_eq_true rfl)) (hM.o) ⟨_, rfl, rfl⟩ (cm_isOpen hM hd hn) (fun r_26 A_26 h_26 => ?_) (fun E_26 A_x h_26 => ?_)
      rotate_left
      · exact h_26.elim
      obtain ⟨rfl, hA_26⟩ := h_26
      obtain rfl := hA_26.symm
      clear hA_26
      refine mx_R fun hR_2 => ?_
      refine mx_if_eq 47 d_M_paint_29 rfl (by first | assumption | exact hR_2 _ _ | exact hR _ _ | exact r32_mk (by omega) (by omega)) (fun c_29 => ?_) (fun c_29 => ?_)
      · refine mx_iconst d_M_paint_47 ?_
        first | exact mj_j1 hJ_24 (by omega) | exact mj_j0 hJ_24 (by omega)
      · refine mx_aload_n 0 d_M_paint_32 rfl rfl ?_
        refine mx_getPs 13 d_M_paint_33 f_M_38 rfl rfl (hM.o) (hM.p13) ?_
        refine mx_iload_n 1 d_M_paint_36 rfl rfl ?_
        refine mx_iald d_M_paint_37 (hM.s13) (by omega) (by omega) ?_
        refine mx_bipush d_M_paint_38 (by decide) ?_
        refine mx_icmp_ge 47 d_M_paint_40 rfl (by first | assumption | exact hR_2 _ _ | exact hR _ _ | exact r32_mk (by omega) (by omega)) (by first | assumption | exact hR_2 _ _ | exact hR _ _ | exact r32_mk (by omega) (by omega)) (fun c_40 => ?_) (fun c_40 => ?_)
        · refine mx_iconst d_M_paint_47 ?_
          first | exact mj_j1 hJ_24 (by omega) | exact mj_j0 hJ_24 (by omega)
        · refine mx_iconst d_M_paint_43 ?_
          refine mx_goto 48 d_M_paint_44 rfl ?_
          first | exact mj_j1 hJ_24 (by omega) | exact mj_j0 hJ_24 (by omega)
  · refine mx_aload_n 0 d_M_paint_1 rfl rfl ?_
    refine mx_iload_n 1 d_M_paint_2 rfl rfl ?_
    refine mx_callV (kc := 0) (ks := 0) (N := n_M_isDrawing) (as := [_]) (ci := 7) d_M_paint_3 s_M_130 ⟨Nat.le_of_ble_eq_true rfl, Nat.le_of_ble_eq_true rfl⟩ rfl (mj_wt_8 (Nat.le_of_ble_eq_true rfl)) (hM.o) ⟨_, rfl, rfl⟩ (cm_isDrawing hM hd hn) (fun r_3 A_3 h_3 => ?_) (fun E_3 A_x h_3 => ?_)
    rotate_left
    · exact h_3.elim
    obtain ⟨rfl, hA_3⟩ := h_3
    obtain rfl := hA_3.symm
    clear hA_3
    refine mx_R fun hR_3 => ?_
    refine mx_if_eq 23 d_M_paint_6 rfl (by first | assumption | exact hR_3 _ _ | exact hR _ _ | exact r32_mk (by omega) (by omega)) (fun c_6 => ?_) (fun c_6 => ?_)
    · refine mx_iconst d_M_paint_23 ?_
      first | exact mj_j1 hJ_1 (by omega) | exact mj_j0 hJ_1 (by omega)
    · refine mx_iload_n 2 d_M_paint_9 rfl rfl ?_
      refine mx_iconst d_M_paint_10 ?_
      refine mx_bipush d_M_paint_11 (by decide) ?_
      refine mx_callS (kc := 0) (ks := 0) (N := n_M_in) (as := [_, _, _]) d_M_paint_13 s_M_126 ⟨Nat.le_of_ble_eq_true rfl, Nat.le_of_ble_eq_true rfl⟩ rfl (mj_wt_8 (Nat.le_of_ble_eq_true rfl)) (cm_in hc (r32_mk (by omega) (by omega)) (r32_mk (by omega) (by omega))) (fun r_13 A_13 h_13 => ?_) (fun E_13 A_x h_13 => ?_)
      rotate_left
      · exact h_13.elim
      obtain ⟨rfl, hA_13⟩ := h_13
      obtain rfl := hA_13.symm
      clear hA_13
      refine mx_R fun hR_4 => ?_
      refine mx_if_eq 23 d_M_paint_16 rfl (by first | assumption | exact hR_4 _ _ | exact hR_3 _ _ | exact hR _ _ | exact r32_mk (by omega) (by omega)) (fun c_16 => ?_) (fun c_16 => ?_)
      · refine mx_iconst d_M_paint_23 ?_
        first | exact mj_j1 hJ_1 (by omega) | exact mj_j0 hJ_1 (by omega)
      · refine mx_iconst d_M_paint_19 ?_
        refine mx_goto 24 d_M_paint_20 rfl ?_
        first | exact mj_j1 hJ_1 (by omega) | exact mj_j0 hJ_1 (by omega)
theorem cm_colour {p its c : Int} (hM : MS A) (hp : r32 p) (hi : r32 its) (hc : r32 c) : mj_Cal G n_M_colour [mR (some 200), mI p, mI its, mI c] A (fun r A' => (((0 ≤ p ∧ p ≤ 3 ∧ 0 ≤ its ∧ its ≤ 7) ∧ (1 ≤ c ∧ c ≤ 99)) ∧ r = some (mI (gI A 222 (8 * p + its))) ∧ A' = sI (sI A 200 0 0) 222 (8 * p + its) c) ∨ (¬ ((0 ≤ p ∧ p ≤ 3 ∧ 0 ≤ its ∧ its ≤ 7) ∧ (1 ≤ c ∧ c ≤ 99)) ∧ r = some (mI 0) ∧ A' = sI A 200 0 (if 0 ≤ p ∧ p ≤ 3 ∧ 0 ≤ its ∧ its ≤ 7 then (if 1 ≤ c ∧ c ≤ 99 then 0 else 2) else 1))) mj_no := by
  refine mj_bodyK 0 0 [some (mR (some 200)), some (mI p), some (mI its), some (mI c), none] rfl rfl rfl (by decide +kernel) (Nat.le_of_ble_eq_true rfl) (by simp) rfl ?_
  refine mx_R fun hR => ?_
  refine mx_aload_n 0 d_M_colour_0 rfl rfl ?_
  refine mj_cutB ((0 ≤ p ∧ p ≤ 3 ∧ 0 ≤ its ∧ its ≤ 7)) 25 ?_ (fun hJ_1 => ?_)
  · refine mx_iload_n 3 d_M_colour_25 rfl rfl ?_
    refine mx_iconst d_M_colour_26 ?_
    refine mx_bipush d_M_colour_27 (by decide) ?_
    refine mx_callS (kc := 0) (ks := 0) (N := n_M_in) (as := [_, _, _]) d_M_colour_29 s_M_126 ⟨Nat.le_of_ble_eq_true rfl, Nat.le_of_ble_eq_true rfl⟩ rfl (mj_wt_8 (Nat.le_of_ble_eq_true rfl)) (cm_in hc (r32_mk (by omega) (by omega)) (r32_mk (by omega) (by omega))) (fun r_29 A_29 h_29 => ?_) (fun E_29 A_x h_29 => ?_)
    rotate_left
    · exact h_29.elim
    obtain ⟨rfl, hA_29⟩ := h_29
    obtain rfl := hA_29.symm
    clear hA_29
    refine mx_R fun hR_1 => ?_
    refine mx_callV (kc := 0) (ks := 0) (N := n_M_asked2) (as := [_, _]) (ci := 7) d_M_colour_32 s_M_166 ⟨Nat.le_of_ble_eq_true rfl, Nat.le_of_ble_eq_true rfl⟩ rfl (mj_wt_8 (Nat.le_of_ble_eq_true rfl)) (hM.o) ⟨_, rfl, rfl⟩ (cm_asked2 _ _ hM) (fun r_32 A_32 h_32 => ?_) (fun E_32 A_x h_32 => ?_)
    rotate_left
    · exact h_32.elim
    obtain ⟨rfl, hA_32⟩ := h_32
    obtain rfl := hA_32.symm
    clear hA_32
    refine mx_R fun hR_2 => ?_
    refine mx_if_ne 40 d_M_colour_35 rfl (by first | assumption | exact hR_2 _ _ | exact hR_1 _ _ | exact hR _ _ | exact r32_mk (by omega) (by omega)) (fun c_35 => ?_) (fun c_35 => ?_)
    · have hP : ((0 ≤ p ∧ p ≤ 3 ∧ 0 ≤ its ∧ its ≤ 7) ∧ (1 ≤ c ∧ c ≤ 99)) := by omega
      rw [if_pos hP.1, if_pos hP.2]
      refine mx_R fun hR => ?_
      refine mx_aload_n 0 d_M_colour_40 rfl rfl ?_
      refine mx_getPs 22 d_M_colour_41 f_M_62 rfl rfl (hM.o) (hM.p22) ?_
      refine mx_bipush d_M_colour_44 (by decide) ?_
      refine mx_iload_n 1 d_M_colour_46 rfl rfl ?_
      refine mx_imul d_M_colour_47 ?_
      refine mx_iload_n 2 d_M_colour_48 rfl rfl ?_
      refine mx_iadd d_M_colour_49 ?_
      refine mx_iald d_M_colour_50 (hM.s22) (by omega) (by omega) ?_
      refine mx_istore 4 d_M_colour_51 (Nat.le_of_ble_eq_true rfl) ?_
      refine mx_aload_n 0 d_M_colour_53 rfl rfl ?_
      refine mx_getPs 22 d_M_colour_54 f_M_62 rfl rfl (hM.o) (hM.p22) ?_
      refine mx_bipush d_M_colour_57 (by decide) ?_
      refine mx_iload_n 1 d_M_colour_59 rfl rfl ?_
      refine mx_imul d_M_colour_60 ?_
      refine mx_iload_n 2 d_M_colour_61 rfl rfl ?_
      refine mx_iadd d_M_colour_62 ?_
      refine mx_iload_n 3 d_M_colour_63 rfl rfl ?_
      refine mx_iast d_M_colour_64 (hM.s22) (by omega) (by omega) (by first | assumption | exact hR _ _ | exact r32_mk (by omega) (by omega)) ?_
      refine mx_R fun hR_1 => ?_
      refine mx_iload 4 d_M_colour_65 rfl ?_
      refine mx_iret d_M_colour_67 rfl ?_
      exact Or.inl ⟨hP, rfl, rfl⟩
    · refine mx_iconst d_M_colour_38 ?_
      refine mx_iret d_M_colour_39 rfl ?_
      exact Or.inr ⟨by omega, rfl, rfl⟩
  · refine mx_iload_n 1 d_M_colour_1 rfl rfl ?_
    refine mx_iconst d_M_colour_2 ?_
    refine mx_iconst d_M_colour_3 ?_
    refine mx_callS (kc := 0) (ks := 0) (N := n_M_in) (as := [_, _, _]) d_M_colour_4 s_M_126 ⟨Nat.le_of_ble_eq_true rfl, Nat.le_of_ble_eq_true rfl⟩ rfl (mj_wt_8 (Nat.le_of_ble_eq_true rfl)) (cm_in hp (r32_mk (by omega) (by omega)) (r32_mk (by omega) (by omega))) (fun r_4 A_4 h_4 => ?_) (fun E_4 A_x h_4 => ?_)
    rotate_left
    · exact h_4.elim
    obtain ⟨rfl, hA_4⟩ := h_4
    obtain rfl := hA_4.symm
    clear hA_4
    refine mx_R fun hR_3 => ?_
    refine mx_if_eq 24 d_M_colour_7 rfl (by first | assumption | exact hR_3 _ _ | exact hR _ _ | exact r32_mk (by omega) (by omega)) (fun c_7 => ?_) (fun c_7 => ?_)
    · refine mx_iconst d_M_colour_24 ?_
      first | exact mj_j1 hJ_1 (by omega) | exact mj_j0 hJ_1 (by omega)
    · refine mx_iload_n 2 d_M_colour_10 rfl rfl ?_
      refine mx_iconst d_M_colour_11 ?_
      refine mx_bipush d_M_colour_12 (by decide) ?_
      refine mx_callS (kc := 0) (ks := 0) (N := n_M_in) (as := [_, _, _]) d_M_colour_14 s_M_126 ⟨Nat.le_of_ble_eq_true rfl, Nat.le_of_ble_eq_true rfl⟩ rfl (mj_wt_8 (Nat.le_of_ble_eq_true rfl)) (cm_in hi (r32_mk (by omega) (by omega)) (r32_mk (by omega) (by omega))) (fun r_14 A_14 h_14 => ?_) (fun E_14 A_x h_14 => ?_)
      rotate_left
      · exact h_14.elim
      obtain ⟨rfl, hA_14⟩ := h_14
      obtain rfl := hA_14.symm
      clear hA_14
      refine mx_R fun hR_4 => ?_
      refine mx_if_eq 24 d_M_colour_17 rfl (by first | assumption | exact hR_4 _ _ | exact hR_3 _ _ | exact hR _ _ | exact r32_mk (by omega) (by omega)) (fun c_17 => ?_) (fun c_17 => ?_)
      · refine mx_iconst d_M_colour_24 ?_
        first | exact mj_j1 hJ_1 (by omega) | exact mj_j0 hJ_1 (by omega)
      · refine mx_iconst d_M_colour_20 ?_
        refine mx_goto 25 d_M_colour_21 rfl ?_
        first | exact mj_j1 hJ_1 (by omega) | exact mj_j0 hJ_1 (by omega)
end MOD4
