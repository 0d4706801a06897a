/-! THE REFERENCE, 2: keys' strokes, paints, palettes, scenes, sheets -/
section MOD2
variable {G : mj_G} {A : mj_M}
theorem cm_pen {x y : Int} (hM : MS A) (hx : r32 x) (hy : r32 y) : mj_Cal G n_M_pen [mR (some 200), mI x, mI y] A (fun r A' => r = none ∧ (((0 ≤ x ∧ x < 16 ∧ 0 ≤ y ∧ y < 12) ∧ A' = sI (sI (sI A 200 0 0) 200 1 x) 200 2 y) ∨ (¬ (0 ≤ x ∧ x < 16 ∧ 0 ≤ y ∧ y < 12) ∧ A' = sI A 200 0 1))) mj_no := by
  refine mj_bodyK 0 0 [some (mR (some 200)), some (mI x), some (mI y)] rfl rfl rfl (by decide +kernel) (Nat.le_of_ble_eq_true rfl) (by simp) rfl ?_
  refine mx_R fun hR => ?_
  refine mx_aload_n 0 d_M_pen_0 rfl rfl ?_
  refine mx_iload_n 1 d_M_pen_1 rfl rfl ?_
  refine mx_iload_n 2 d_M_pen_2 rfl rfl ?_
  refine mx_callS (kc := 0) (ks := 0) (N := n_M_isPoint) (as := [_, _]) d_M_pen_3 s_M_149 ⟨Nat.le_of_ble_eq_true rfl, Nat.le_of_ble_eq_true rfl⟩ rfl (mj_wt_8 (Nat.le_of_ble_eq_true rfl)) (cm_isPoint hx hy) (fun r_3 A_3 h_3 => ?_) (fun E_3 A_x h_3 => ?_)
  rotate_left
  · exact h_3.elim
  obtain ⟨rfl, hA_3⟩ := h_3
  obtain rfl := hA_3.symm
  clear hA_3
  refine mx_R fun hR_1 => ?_
  refine mx_callV (kc := 0) (ks := 0) (N := n_M_asked1) (as := [_]) (ci := 7) d_M_pen_6 s_M_138 ⟨Nat.le_of_ble_eq_true rfl, Nat.le_of_ble_eq_true rfl⟩ rfl (mj_wt_8 (Nat.le_of_ble_eq_true rfl)) (hM.o) ⟨_, rfl, rfl⟩ (cm_asked1 _ hM) (fun r_6 A_6 h_6 => ?_) (fun E_6 A_x h_6 => ?_)
  rotate_left
  · exact h_6.elim
  obtain ⟨rfl, hA_6⟩ := h_6
  obtain rfl := hA_6.symm
  clear hA_6
  refine mx_R fun hR_2 => ?_
  refine mx_if_eq 22 d_M_pen_9 rfl (by first | assumption | exact hR_2 _ _ | exact hR_1 _ _ | exact hR _ _ | exact r32_mk (by omega) (by omega)) (fun c_9 => ?_) (fun c_9 => ?_)
  · refine mx_vret d_M_pen_22 rfl ?_
    first | exact ⟨rfl, Or.inl ⟨by omega, by rw [if_pos (by omega)]⟩⟩ | exact ⟨rfl, Or.inr ⟨by omega, by rw [if_neg (by omega)]⟩⟩
  · refine mx_aload_n 0 d_M_pen_12 rfl rfl ?_
    refine mx_iload_n 1 d_M_pen_13 rfl rfl ?_
    refine mx_putI 1 d_M_pen_14 f_M_160 rfl (hM.o) (Or.inl rfl) (Or.inl rfl) (by first | assumption | exact hR_2 _ _ | exact hR_1 _ _ | exact hR _ _ | exact r32_mk (by omega) (by omega)) ?_
    refine mx_R fun hR_3 => ?_
    refine mx_aload_n 0 d_M_pen_17 rfl rfl ?_
    refine mx_iload_n 2 d_M_pen_18 rfl rfl ?_
    refine mx_putI 2 d_M_pen_19 f_M_163 rfl (hM.o) (Or.inl rfl) (Or.inl rfl) (by first | assumption | exact hR_3 _ _ | exact hR_2 _ _ | exact hR_1 _ _ | exact hR _ _ | exact r32_mk (by omega) (by omega)) ?_
    refine mx_R fun hR_4 => ?_
    refine mx_vret d_M_pen_22 rfl ?_
    first | exact ⟨rfl, Or.inl ⟨by omega, by rw [if_pos (by omega)]⟩⟩ | exact ⟨rfl, Or.inr ⟨by omega, by rw [if_neg (by omega)]⟩⟩
/-- what is open: a key that isn't approved -/
abbrev mo_op (A : mj_M) (d : Int) : Prop := 0 ≤ d ∧ d < gI A 200 3 ∧ gI A 204 d = -1 ∧ gI A 208 d = 0
theorem cm_gaps {d : Int} (hM : MS A) (hn : 0 ≤ gI A 200 3 ∧ gI A 200 3 ≤ 16) (hd : r32 d) (hc : 0 ≤ gI A 216 d ∧ gI A 216 d ≤ 1) : mj_Cal G n_M_gaps [mR (some 200), mI d] A (fun r A' => (mo_op A d ∧ r = some (mI (1 - gI A 216 d)) ∧ A' = sI (sI (sI A 200 0 0) 216 d (1 - gI A 216 d)) 200 17 1) ∨ (¬ mo_op A d ∧ r = some (mI 0) ∧ A' = sI A 200 0 (if 0 ≤ d ∧ d < gI A 200 3 then (if 0 ≤ d ∧ d < gI A 200 3 ∧ gI A 204 d = -1 ∧ gI A 208 d = 0 then 0 else 2) else 1))) mj_no := by
  refine mj_bodyK 0 0 [some (mR (some 200)), some (mI d)] rfl rfl rfl (by decide +kernel) (Nat.le_of_ble_eq_true rfl) (by simp) rfl ?_
  refine mx_R fun hR => ?_
  refine mx_aload_n 0 d_M_gaps_0 rfl rfl ?_
  refine mx_aload_n 0 d_M_gaps_1 rfl rfl ?_
  refine mx_iload_n 1 d_M_gaps_2 rfl rfl ?_
  refine mx_callV (kc := 0) (ks := 0) (N := n_M_isDrawing) (as := [_]) (ci := 7) d_M_gaps_3 s_M_130 ⟨Nat.le_of_ble_eq_true rfl, Nat.le_of_ble_eq_true rfl⟩ rfl (mj_wt_8 (Nat.le_of_ble_eq_true rfl)) (hM.o) ⟨_, rfl, rfl⟩ (cm_isDrawing hM hd hn) (fun r_3 A_3 h_3 => ?_) (fun E_3 A_x h_3 => ?_)
  rotate_left
  · exact h_3.elim
  obtain ⟨rfl, hA_3⟩ := h_3
  obtain rfl := hA_3.symm
  clear hA_3
  refine mx_R fun hR_1 => ?_
  refine mx_aload_n 0 d_M_gaps_6 rfl rfl ?_
  refine mx_iload_n 1 d_M_gaps_7 rfl rfl ?_
  refine mx_callV (kc := 0) (ks := 0) (N := n_M_isOpen) (as := [_]) (ci := 7) d_M_gaps_8 s_M_153 ⟨Nat.le_of_ble_eq_true rfl, Nat.le_of_ble_eq_true rfl⟩ rfl (mj_wt_8 (Nat.le_of_ble_eq_true rfl)) (hM.o) ⟨_, rfl, rfl⟩ (cm_isOpen hM hd hn) (fun r_8 A_8 h_8 => ?_) (fun E_8 A_x h_8 => ?_)
  rotate_left
  · exact h_8.elim
  obtain ⟨rfl, hA_8⟩ := h_8
  obtain rfl := hA_8.symm
  clear hA_8
  refine mx_R fun hR_2 => ?_
  refine mx_callV (kc := 0) (ks := 0) (N := n_M_asked2) (as := [_, _]) (ci := 7) d_M_gaps_11 s_M_166 ⟨Nat.le_of_ble_eq_true rfl, Nat.le_of_ble_eq_true rfl⟩ rfl (mj_wt_8 (Nat.le_of_ble_eq_true rfl)) (hM.o) ⟨_, rfl, rfl⟩ (cm_asked2 _ _ hM) (fun r_11 A_11 h_11 => ?_) (fun E_11 A_x h_11 => ?_)
  rotate_left
  · exact h_11.elim
  obtain ⟨rfl, hA_11⟩ := h_11
  obtain rfl := hA_11.symm
  clear hA_11
  refine mx_R fun hR_3 => ?_
  refine mx_if_ne 19 d_M_gaps_14 rfl (by first | assumption | exact hR_3 _ _ | exact hR_2 _ _ | exact hR_1 _ _ | exact hR _ _ | exact r32_mk (by omega) (by omega)) (fun c_14 => ?_) (fun c_14 => ?_)
  · have hP : (0 ≤ d ∧ d < gI A 200 3) ∧ mo_op A d := by omega
    rw [if_pos hP.1, if_pos hP.2]
    refine mx_R fun hR => ?_
    refine mx_aload_n 0 d_M_gaps_19 rfl rfl ?_
    refine mx_getPs 16 d_M_gaps_20 f_M_47 rfl rfl (hM.o) (hM.p16) ?_
    refine mx_iload_n 1 d_M_gaps_23 rfl rfl ?_
    refine mj_cutI ( 1 - gI A 216 d) 38 ?_ (fun hJ_24 => ?_)
    · refine mx_zast d_M_gaps_38 (hM.s16) (by omega) (by omega) (by omega) ?_
      refine mx_R fun hR_1 => ?_
      (try simp only [gI_sI, gI_sF, gI_sP, gI_sN, gP_sI, gP_sF, gP_sP, gP_sN, gS_sI, gS_sF, gS_sP, gS_sN, Int.reduceEq, false_and, and_false, true_and, and_true, eq_self, if_false, if_true, reduceIte, reduceCtorEq])
      refine mx_aload_n 0 d_M_gaps_39 rfl rfl ?_
      refine mx_iconst d_M_gaps_40 ?_
      refine mx_putI 17 d_M_gaps_41 f_M_134 rfl (hM.o) (Or.inl rfl) (Or.inr ⟨rfl, by first | exact Or.inl rfl | exact Or.inr rfl | omega⟩) (by first | assumption | exact hR_1 _ _ | exact hR _ _ | exact r32_mk (by omega) (by omega)) ?_
      refine mx_R fun hR_2 => ?_
      (try simp only [gI_sI, gI_sF, gI_sP, gI_sN, gP_sI, gP_sF, gP_sP, gP_sN, gS_sI, gS_sF, gS_sP, gS_sN, Int.reduceEq, false_and, and_false, true_and, and_true, eq_self, if_false, if_true, reduceIte, reduceCtorEq])
      refine mx_aload_n 0 d_M_gaps_44 rfl rfl ?_
      refine mx_getPs 16 d_M_gaps_45 f_M_47 rfl rfl (hM.o) (hM.p16) ?_
      refine mx_iload_n 1 d_M_gaps_48 rfl rfl ?_
      refine mx_zald d_M_gaps_49 (hM.s16) (by omega) (by omega) ?_
      (try simp only [gI_sI, gI_sF, gI_sP, gI_sN, gP_sI, gP_sF, gP_sP, gP_sN, gS_sI, gS_sF, gS_sP, gS_sN, Int.reduceEq, false_and, and_false, true_and, and_true, eq_self, if_false, if_true, reduceIte, reduceCtorEq])
      refine mx_zret d_M_gaps_50 rfl (by omega) ?_
      exact Or.inl ⟨hP.2, rfl, rfl⟩
    · refine mx_aload_n 0 d_M_gaps_24 rfl rfl ?_
      refine mx_getPs 16 d_M_gaps_25 f_M_47 rfl rfl (hM.o) (hM.p16) ?_
      refine mx_iload_n 1 d_M_gaps_28 rfl rfl ?_
      refine mx_zald d_M_gaps_29 (hM.s16) (by omega) (by omega) ?_
      refine mx_if_ne 37 d_M_gaps_30 rfl (by first | assumption | exact hR _ _ | exact r32_mk (by omega) (by omega)) (fun c_30 => ?_) (fun c_30 => ?_)
      · refine mx_iconst d_M_gaps_37 ?_
        exact mj_ji hJ_24 (by (have h9 : gI (sI A 200 0 0) 216 d = gI A 216 d := rfl; omega))
      · refine mx_iconst d_M_gaps_33 ?_
        refine mx_goto 38 d_M_gaps_34 rfl ?_
        exact mj_ji hJ_24 (by (have h9 : gI (sI A 200 0 0) 216 d = gI A 216 d := rfl; omega))
  · refine mx_iconst d_M_gaps_17 ?_
    refine mx_zret d_M_gaps_18 rfl (by first | exact Or.inl rfl | exact Or.inr rfl | omega) ?_
    exact Or.inr ⟨by omega, rfl, rfl⟩
theorem cm_strokeOf {d x n : Int} (hM : MS A) (hd0 : 0 ≤ d) (hd1 : d < 16) (hn : gI A 209 d = n) (hn0 : 0 ≤ n) (hn8 : n ≤ 8) (hx : r32 x) : mj_Cal G n_M_strokeOf [mR (some 200), mI d, mI x] A (fun r A' => A' = A ∧ ((∃ k, r = some (mI k) ∧ 8 * d ≤ k ∧ k < 8 * d + n ∧ gI A 210 k = x ∧ ∀ j, 8 * d ≤ j → j < k → gI A 210 j ≠ x) ∨ (r = some (mI (-1)) ∧ ∀ j, 8 * d ≤ j → j < 8 * d + n → gI A 210 j ≠ x))) mj_no := by
  refine mj_bodyK 0 0 [some (mR (some 200)), some (mI d), some (mI x), none] rfl rfl rfl (by decide +kernel) (Nat.le_of_ble_eq_true rfl) (by simp) rfl ?_
  have hl : ∀ i : Int, (8 * d ≤ i ∧ i ≤ 8 * d + n ∧ ∀ j, 8 * d ≤ j → j < i → gI A 210 j ≠ x) → mj_X G n_M_strokeOf (mj_Qm G n_M_strokeOf (fun r A' => A' = A ∧ ((∃ k, r = some (mI k) ∧ 8 * d ≤ k ∧ k < 8 * d + n ∧ gI A 210 k = x ∧ ∀ j, 8 * d ≤ j → j < k → gI A 210 j ≠ x) ∨ (r = some (mI (-1)) ∧ ∀ j, 8 * d ≤ j → j < 8 * d + n → gI A 210 j ≠ x))) mj_no) A 0 0 5 [some (mR (some 200)), some (mI d), some (mI x), some (mI i)] [] := by
    refine mj_loop _ (fun i => (8 * d + n - i).toNat) _ ?_
    intro i hi ih
    refine mx_R fun hR => ?_
    refine mx_iload_n 3 d_M_strokeOf_5 rfl rfl ?_
    refine mx_bipush d_M_strokeOf_6 (by decide) ?_
    refine mx_iload_n 1 d_M_strokeOf_8 rfl rfl ?_
    refine mx_imul d_M_strokeOf_9 ?_
    refine mx_aload_n 0 d_M_strokeOf_10 rfl rfl ?_
    refine mx_getPs 9 d_M_strokeOf_11 f_M_26 rfl rfl (hM.o) (hM.p9) ?_
    refine mx_iload_n 1 d_M_strokeOf_14 rfl rfl ?_
    refine mx_iald d_M_strokeOf_15 (hM.s9) (by omega) (by omega) ?_
    refine mx_iadd d_M_strokeOf_16 ?_
    refine mx_icmp_ge 38 d_M_strokeOf_17 rfl (by first | assumption | exact hR _ _ | exact r32_mk (by omega) (by omega)) (by first | assumption | exact hR _ _ | exact r32_mk (by omega) (by omega)) (fun c_17 => ?_) (fun c_17 => ?_)
    · refine mx_iconst d_M_strokeOf_38 ?_
      refine mx_iret d_M_strokeOf_39 rfl ?_
      exact ⟨rfl, Or.inr ⟨rfl, fun j h0 h1 => hi.2.2 j h0 (by omega)⟩⟩
    · refine mx_aload_n 0 d_M_strokeOf_20 rfl rfl ?_
      refine mx_getPs 10 d_M_strokeOf_21 f_M_29 rfl rfl (hM.o) (hM.p10) ?_
      refine mx_iload_n 3 d_M_strokeOf_24 rfl rfl ?_
      refine mx_iald d_M_strokeOf_25 (hM.s10) (by omega) (by omega) ?_
      refine mx_iload_n 2 d_M_strokeOf_26 rfl rfl ?_
      refine mx_icmp_ne 32 d_M_strokeOf_27 rfl (by first | assumption | exact hR _ _ | exact r32_mk (by omega) (by omega)) (by first | assumption | exact hR _ _ | exact r32_mk (by omega) (by omega)) (fun c_27 => ?_) (fun c_27 => ?_)
      · refine mx_iinc 3 d_M_strokeOf_32 rfl (Nat.le_of_ble_eq_true rfl) ?_
        refine mx_goto 5 d_M_strokeOf_35 rfl ?_
        refine ih (i + 1) ⟨by omega, by omega, fun j h0 h1 => ?_⟩ (by omega)
        by_cases e : j = i
        · rw [e]; exact c_27
        · exact hi.2.2 j h0 (by omega)
      · refine mx_iload_n 3 d_M_strokeOf_30 rfl rfl ?_
        refine mx_iret d_M_strokeOf_31 rfl ?_
        exact ⟨rfl, Or.inl ⟨i, rfl, hi.1, by omega, c_27, hi.2.2⟩⟩
  refine mx_R fun hR => ?_
  refine mx_bipush d_M_strokeOf_0 (by decide) ?_
  refine mx_iload_n 1 d_M_strokeOf_2 rfl rfl ?_
  refine mx_imul d_M_strokeOf_3 ?_
  refine mx_istore_n 3 d_M_strokeOf_4 rfl (Nat.le_of_ble_eq_true rfl) ?_
  exact hl (8 * d) ⟨by omega, by omega, fun j h0 h1 => by omega⟩
end MOD2
