/-! THE REFERENCE, 1: small methods -/
section MOD1
variable {G : mj_G} {A : mj_M}
theorem cm_in {v a b : Int} (hv : r32 v) (ha : r32 a) (hb : r32 b) : mj_Cal G n_M_in [mI v, mI a, mI b] A (fun r A' => r = some (mI (if a ≤ v ∧ v ≤ b then 1 else 0)) ∧ A' = A) mj_no := by
  refine mj_bodyK 0 0 [some (mI v), some (mI a), some (mI b)] rfl rfl rfl (by decide +kernel) (Nat.le_of_ble_eq_true rfl) (by simp) rfl ?_
  refine mx_R fun hR => ?_
  refine mx_iload_n 0 d_M_in_0 rfl rfl ?_
  refine mx_iload_n 1 d_M_in_1 rfl rfl ?_
  refine mx_icmp_lt 14 d_M_in_2 rfl (by first | assumption | exact hR _ _ | exact r32_mk (by omega) (by omega)) (by first | assumption | exact hR _ _ | exact r32_mk (by omega) (by omega)) (fun c_2 => ?_) (fun c_2 => ?_)
  · refine mx_iconst d_M_in_14 ?_
    refine mx_zret d_M_in_15 rfl (by first | exact Or.inl rfl | exact Or.inr rfl | omega) ?_
    first | exact ⟨by rw [if_pos (by omega)], rfl⟩ | exact ⟨by rw [if_neg (by omega)], rfl⟩
  · refine mx_iload_n 0 d_M_in_5 rfl rfl ?_
    refine mx_iload_n 2 d_M_in_6 rfl rfl ?_
    refine mx_icmp_gt 14 d_M_in_7 rfl (by first | assumption | exact hR _ _ | exact r32_mk (by omega) (by omega)) (by first | assumption | exact hR _ _ | exact r32_mk (by omega) (by omega)) (fun c_7 => ?_) (fun c_7 => ?_)
    · refine mx_iconst d_M_in_14 ?_
      refine mx_zret d_M_in_15 rfl (by first | exact Or.inl rfl | exact Or.inr rfl | omega) ?_
      first | exact ⟨by rw [if_pos (by omega)], rfl⟩ | exact ⟨by rw [if_neg (by omega)], rfl⟩
    · refine mx_iconst d_M_in_10 ?_
      refine mx_goto 15 d_M_in_11 rfl ?_
      refine mx_zret d_M_in_15 rfl (by first | exact Or.inl rfl | exact Or.inr rfl | omega) ?_
      first | exact ⟨by rw [if_pos (by omega)], rfl⟩ | exact ⟨by rw [if_neg (by omega)], rfl⟩
theorem cm_isDrawing {d : Int} (hM : MS A) (hd : r32 d) (hn : 0 ≤ gI A 200 3 ∧ gI A 200 3 ≤ 16) : mj_Cal G n_M_isDrawing [mR (some 200), mI d] A (fun r A' => r = some (mI (if 0 ≤ d ∧ d < gI A 200 3 then 1 else 0)) ∧ A' = A) mj_no := by
  refine mj_bodyK 0 0 [some (mR (some 200)), some (mI d)] rfl rfl rfl (by decide +kernel) (Nat.le_of_ble_eq_true rfl) (by simp) rfl ?_
  refine mx_R fun hR => ?_
  refine mx_iload_n 1 d_M_isDrawing_0 rfl rfl ?_
  refine mx_iconst d_M_isDrawing_1 ?_
  refine mx_aload_n 0 d_M_isDrawing_2 rfl rfl ?_
  refine mx_getI 3 d_M_isDrawing_3 f_M_123 rfl rfl (hM.o) ?_
  refine mx_iconst d_M_isDrawing_6 ?_
  refine mx_isub d_M_isDrawing_7 ?_
  refine mx_callS (kc := 0) (ks := 0) (N := n_M_in) (as := [_, _, _]) d_M_isDrawing_8 s_M_126 ⟨Nat.le_of_ble_eq_true rfl, Nat.le_of_ble_eq_true rfl⟩ rfl (mj_wt_8 (Nat.le_of_ble_eq_true rfl)) (cm_in hd (r32_mk (by omega) (by omega)) (r32_mk (by omega) (by omega))) (fun r_8 A_8 h_8 => ?_) (fun E_8 A_x h_8 => ?_)
  rotate_left
  · exact h_8.elim
  obtain ⟨rfl, hA_8⟩ := h_8
  obtain rfl := hA_8.symm
  clear hA_8
  refine mx_R fun hR_1 => ?_
  refine mx_zret d_M_isDrawing_11 rfl (by first | exact Or.inl rfl | exact Or.inr rfl | omega) ?_
  first | exact ⟨by congr 3; exact propext ⟨fun h => by omega, fun h => by omega⟩, rfl⟩
theorem cm_isPoint {x y : Int} (hx : r32 x) (hy : r32 y) : mj_Cal G n_M_isPoint [mI x, mI y] A (fun r A' => r = some (mI (if 0 ≤ x ∧ x < 16 ∧ 0 ≤ y ∧ y < 12 then 1 else 0)) ∧ A' = A) mj_no := by
  refine mj_bodyK 0 0 [some (mI x), some (mI y)] rfl rfl rfl (by decide +kernel) (Nat.le_of_ble_eq_true rfl) (by simp) rfl ?_
  refine mx_R fun hR => ?_
  refine mx_iload_n 0 d_M_isPoint_0 rfl rfl ?_
  refine mx_iconst d_M_isPoint_1 ?_
  refine mx_bipush d_M_isPoint_2 (by decide) ?_
  refine mx_callS (kc := 0) (ks := 0) (N := n_M_in) (as := [_, _, _]) d_M_isPoint_4 s_M_126 ⟨Nat.le_of_ble_eq_true rfl, Nat.le_of_ble_eq_true rfl⟩ rfl (mj_wt_8 (Nat.le_of_ble_eq_true rfl)) (cm_in hx (r32_mk (by omega) (by omega)) (r32_mk (by omega) (by omega))) (fun r_4 A_4 h_4 => ?_) (fun E_4 A_x h_4 => ?_)
  rotate_left
  · exact h_4.elim
  obtain ⟨rfl, hA_4⟩ := h_4
  obtain rfl := hA_4.symm
  clear hA_4
  refine mx_R fun hR_1 => ?_
  refine mx_if_eq 24 d_M_isPoint_7 rfl (by first | assumption | exact hR_1 _ _ | exact hR _ _ | exact r32_mk (by omega) (by omega)) (fun c_7 => ?_) (fun c_7 => ?_)
  · refine mx_iconst d_M_isPoint_24 ?_
    refine mx_zret d_M_isPoint_25 rfl (by first | exact Or.inl rfl | exact Or.inr rfl | omega) ?_
    first | exact ⟨by rw [if_pos (by omega)], rfl⟩ | exact ⟨by rw [if_neg (by omega)], rfl⟩
  · refine mx_iload_n 1 d_M_isPoint_10 rfl rfl ?_
    refine mx_iconst d_M_isPoint_11 ?_
    refine mx_bipush d_M_isPoint_12 (by decide) ?_
    refine mx_callS (kc := 0) (ks := 0) (N := n_M_in) (as := [_, _, _]) d_M_isPoint_14 s_M_126 ⟨Nat.le_of_ble_eq_true rfl, Nat.le_of_ble_eq_true rfl⟩ rfl (mj_wt_8 (Nat.le_of_ble_eq_true rfl)) (cm_in hy (r32_mk (by omega) (by omega)) (r32_mk (by omega) (by omega))) (fun r_14 A_14 h_14 => ?_) (fun E_14 A_x h_14 => ?_)
    rotate_left
    · exact h_14.elim
    obtain ⟨rfl, hA_14⟩ := h_14
    obtain rfl := hA_14.symm
    clear hA_14
    refine mx_R fun hR_2 => ?_
    refine mx_if_eq 24 d_M_isPoint_17 rfl (by first | assumption | exact hR_2 _ _ | exact hR_1 _ _ | exact hR _ _ | exact r32_mk (by omega) (by omega)) (fun c_17 => ?_) (fun c_17 => ?_)
    · refine mx_iconst d_M_isPoint_24 ?_
      refine mx_zret d_M_isPoint_25 rfl (by first | exact Or.inl rfl | exact Or.inr rfl | omega) ?_
      first | exact ⟨by rw [if_pos (by omega)], rfl⟩ | exact ⟨by rw [if_neg (by omega)], rfl⟩
    · refine mx_iconst d_M_isPoint_20 ?_
      refine mx_goto 25 d_M_isPoint_21 rfl ?_
      refine mx_zret d_M_isPoint_25 rfl (by first | exact Or.inl rfl | exact Or.inr rfl | omega) ?_
      first | exact ⟨by rw [if_pos (by omega)], rfl⟩ | exact ⟨by rw [if_neg (by omega)], rfl⟩
theorem cm_isOpen {d : Int} (hM : MS A) (hd : r32 d) (hn : 0 ≤ gI A 200 3 ∧ gI A 200 3 ≤ 16) : mj_Cal G n_M_isOpen [mR (some 200), mI d] A (fun r A' => r = some (mI (if 0 ≤ d ∧ d < gI A 200 3 ∧ gI A 204 d = -1 ∧ gI A 208 d = 0 then 1 else 0)) ∧ A' = A) mj_no := by
  refine mj_bodyK 0 0 [some (mR (some 200)), some (mI d)] rfl rfl rfl (by decide +kernel) (Nat.le_of_ble_eq_true rfl) (by simp) rfl ?_
  refine mx_R fun hR => ?_
  refine mx_aload_n 0 d_M_isOpen_0 rfl rfl ?_
  refine mx_iload_n 1 d_M_isOpen_1 rfl rfl ?_
  refine mx_callV (kc := 0) (ks := 0) (N := n_M_isDrawing) (as := [_]) (ci := 7) d_M_isOpen_2 s_M_130 ⟨Nat.le_of_ble_eq_true rfl, Nat.le_of_ble_eq_true rfl⟩ rfl (mj_wt_8 (Nat.le_of_ble_eq_true rfl)) (hM.o) ⟨_, rfl, rfl⟩ (cm_isDrawing hM hd hn) (fun r_2 A_2 h_2 => ?_) (fun E_2 A_x h_2 => ?_)
  rotate_left
  · exact h_2.elim
  obtain ⟨rfl, hA_2⟩ := h_2
  obtain rfl := hA_2.symm
  clear hA_2
  refine mx_R fun hR_1 => ?_
  refine mx_if_eq 31 d_M_isOpen_5 rfl (by first | assumption | exact hR_1 _ _ | exact hR _ _ | exact r32_mk (by omega) (by omega)) (fun c_5 => ?_) (fun c_5 => ?_)
  · refine mx_iconst d_M_isOpen_31 ?_
    refine mx_zret d_M_isOpen_32 rfl (by first | exact Or.inl rfl | exact Or.inr rfl | omega) ?_
    first | exact ⟨by rw [if_pos (by omega)], rfl⟩ | exact ⟨by rw [if_neg (by omega)], rfl⟩
  · refine mx_aload_n 0 d_M_isOpen_8 rfl rfl ?_
    refine mx_getPs 4 d_M_isOpen_9 f_M_7 rfl rfl (hM.o) (hM.p4) ?_
    refine mx_iload_n 1 d_M_isOpen_12 rfl rfl ?_
    refine mx_iald d_M_isOpen_13 (hM.s4) (by omega) (by omega) ?_
    refine mx_iconst d_M_isOpen_14 ?_
    refine mx_icmp_ne 31 d_M_isOpen_15 rfl (by first | assumption | exact hR_1 _ _ | exact hR _ _ | exact r32_mk (by omega) (by omega)) (by first | assumption | exact hR_1 _ _ | exact hR _ _ | exact r32_mk (by omega) (by omega)) (fun c_15 => ?_) (fun c_15 => ?_)
    · refine mx_iconst d_M_isOpen_31 ?_
      refine mx_zret d_M_isOpen_32 rfl (by first | exact Or.inl rfl | exact Or.inr rfl | omega) ?_
      first | exact ⟨by rw [if_pos (by omega)], rfl⟩ | exact ⟨by rw [if_neg (by omega)], rfl⟩
    · refine mx_aload_n 0 d_M_isOpen_18 rfl rfl ?_
      refine mx_getPs 8 d_M_isOpen_19 f_M_22 rfl rfl (hM.o) (hM.p8) ?_
      refine mx_iload_n 1 d_M_isOpen_22 rfl rfl ?_
      refine mx_zald d_M_isOpen_23 (hM.s8) (by omega) (by omega) ?_
      refine mx_if_ne 31 d_M_isOpen_24 rfl (by first | assumption | exact hR_1 _ _ | exact hR _ _ | exact r32_mk (by omega) (by omega)) (fun c_24 => ?_) (fun c_24 => ?_)
      · refine mx_iconst d_M_isOpen_31 ?_
        refine mx_zret d_M_isOpen_32 rfl (by first | exact Or.inl rfl | exact Or.inr rfl | omega) ?_
        first | exact ⟨by rw [if_pos (by omega)], rfl⟩ | exact ⟨by rw [if_neg (by omega)], rfl⟩
      · refine mx_iconst d_M_isOpen_27 ?_
        refine mx_goto 32 d_M_isOpen_28 rfl ?_
        refine mx_zret d_M_isOpen_32 rfl (by first | exact Or.inl rfl | exact Or.inr rfl | omega) ?_
        first | exact ⟨by rw [if_pos (by omega)], rfl⟩ | exact ⟨by rw [if_neg (by omega)], rfl⟩
theorem cm_asked1 (P : Prop) [Decidable P] (hM : MS A) : mj_Cal G n_M_asked1 [mR (some 200), mI (if P then 1 else 0)] A (fun r A' => r = some (mI (if P then 1 else 0)) ∧ A' = sI A 200 0 (if P then 0 else 1)) mj_no := by
  refine mj_bodyK 0 0 [some (mR (some 200)), some (mI (if P then 1 else 0))] rfl rfl rfl (by decide +kernel) (Nat.le_of_ble_eq_true rfl) (by simp) rfl ?_
  refine mx_R fun hR => ?_
  refine mx_aload_n 0 d_M_asked1_0 rfl rfl ?_
  refine mx_iload_n 1 d_M_asked1_1 rfl rfl ?_
  refine mx_if_eq 9 d_M_asked1_2 rfl (by first | assumption | exact hR _ _ | exact r32_mk (by omega) (by omega)) (fun c_2 => ?_) (fun c_2 => ?_)
  · refine mx_iconst d_M_asked1_9 ?_
    refine mx_putI 0 d_M_asked1_10 f_M_119 rfl (hM.o) (Or.inl rfl) (Or.inl rfl) (by first | assumption | exact hR _ _ | exact r32_mk (by omega) (by omega)) ?_
    refine mx_R fun hR_1 => ?_
    refine mx_iload_n 1 d_M_asked1_13 rfl rfl ?_
    refine mx_zret d_M_asked1_14 rfl (by first | exact Or.inl rfl | exact Or.inr rfl | omega) ?_
    by_cases hP : P <;> simp_all
  · refine mx_iconst d_M_asked1_5 ?_
    refine mx_goto 10 d_M_asked1_6 rfl ?_
    refine mx_putI 0 d_M_asked1_10 f_M_119 rfl (hM.o) (Or.inl rfl) (Or.inl rfl) (by first | assumption | exact hR _ _ | exact r32_mk (by omega) (by omega)) ?_
    refine mx_R fun hR_2 => ?_
    refine mx_iload_n 1 d_M_asked1_13 rfl rfl ?_
    refine mx_zret d_M_asked1_14 rfl (by first | exact Or.inl rfl | exact Or.inr rfl | omega) ?_
    by_cases hP : P <;> simp_all
theorem cm_asked2 (P Q : Prop) [Decidable P] [Decidable Q] (hM : MS A) : mj_Cal G n_M_asked2 [mR (some 200), mI (if P then 1 else 0), mI (if Q then 1 else 0)] A (fun r A' => r = some (mI (if P ∧ Q then 1 else 0)) ∧ A' = sI A 200 0 (if P then (if Q then 0 else 2) else 1)) mj_no := by
  refine mj_bodyK 0 0 [some (mR (some 200)), some (mI (if P then 1 else 0)), some (mI (if Q then 1 else 0))] rfl rfl rfl (by decide +kernel) (Nat.le_of_ble_eq_true rfl) (by simp) rfl ?_
  refine mx_R fun hR => ?_
  refine mx_aload_n 0 d_M_asked2_0 rfl rfl ?_
  refine mx_iload_n 1 d_M_asked2_1 rfl rfl ?_
  refine mx_if_ne 9 d_M_asked2_2 rfl (by first | assumption | exact hR _ _ | exact r32_mk (by omega) (by omega)) (fun c_2 => ?_) (fun c_2 => ?_)
  · refine mx_iload_n 2 d_M_asked2_9 rfl rfl ?_
    refine mx_if_eq 17 d_M_asked2_10 rfl (by first | assumption | exact hR _ _ | exact r32_mk (by omega) (by omega)) (fun c_10 => ?_) (fun c_10 => ?_)
    · refine mx_iconst d_M_asked2_17 ?_
      refine mx_putI 0 d_M_asked2_18 f_M_119 rfl (hM.o) (Or.inl rfl) (Or.inl rfl) (by first | assumption | exact hR _ _ | exact r32_mk (by omega) (by omega)) ?_
      refine mx_R fun hR_1 => ?_
      refine mx_aload_n 0 d_M_asked2_21 rfl rfl ?_
      refine mx_getI 0 d_M_asked2_22 f_M_119 rfl rfl (hM.o) ?_
      (try simp only [gI_sI, gI_sF, gI_sP, gI_sN, gP_sI, gP_sF, gP_sP, gP_sN, gS_sI, gS_sF, gS_sP, gS_sN, Int.reduceEq, false_and, and_false, true_and, and_true, eq_self, if_false, if_true, reduceIte, reduceCtorEq])
      refine mx_if_ne 32 d_M_asked2_25 rfl (by first | assumption | exact hR_1 _ _ | exact hR _ _ | exact r32_mk (by omega) (by omega)) (fun c_25 => ?_) (fun c_25 => ?_)
      · refine mx_iconst d_M_asked2_32 ?_
        refine mx_zret d_M_asked2_33 rfl (by first | exact Or.inl rfl | exact Or.inr rfl | omega) ?_
        by_cases hP : P <;> by_cases hQ : Q <;> simp_all
      · refine mx_iconst d_M_asked2_28 ?_
        refine mx_goto 33 d_M_asked2_29 rfl ?_
        refine mx_zret d_M_asked2_33 rfl (by first | exact Or.inl rfl | exact Or.inr rfl | omega) ?_
        by_cases hP : P <;> by_cases hQ : Q <;> simp_all
    · refine mx_iconst d_M_asked2_13 ?_
      refine mx_goto 18 d_M_asked2_14 rfl ?_
      refine mx_putI 0 d_M_asked2_18 f_M_119 rfl (hM.o) (Or.inl rfl) (Or.inl rfl) (by first | assumption | exact hR _ _ | exact r32_mk (by omega) (by omega)) ?_
      refine mx_R fun hR_2 => ?_
      refine mx_aload_n 0 d_M_asked2_21 rfl rfl ?_
      refine mx_getI 0 d_M_asked2_22 f_M_119 rfl rfl (hM.o) ?_
      (try simp only [gI_sI, gI_sF, gI_sP, gI_sN, gP_sI, gP_sF, gP_sP, gP_sN, gS_sI, gS_sF, gS_sP, gS_sN, Int.reduceEq, false_and, and_false, true_and, and_true, eq_self, if_false, if_true, reduceIte, reduceCtorEq])
      refine mx_if_ne 32 d_M_asked2_25 rfl (by first | assumption | exact hR_2 _ _ | exact hR _ _ | exact r32_mk (by omega) (by omega)) (fun c_25 => ?_) (fun c_25 => ?_)
      · refine mx_iconst d_M_asked2_32 ?_
        refine mx_zret d_M_asked2_33 rfl (by first | exact Or.inl rfl | exact Or.inr rfl | omega) ?_
        by_cases hP : P <;> by_cases hQ : Q <;> simp_all
      · refine mx_iconst d_M_asked2_28 ?_
        refine mx_goto 33 d_M_asked2_29 rfl ?_
        refine mx_zret d_M_asked2_33 rfl (by first | exact Or.inl rfl | exact Or.inr rfl | omega) ?_
        by_cases hP : P <;> by_cases hQ : Q <;> simp_all
  · refine mx_iconst d_M_asked2_5 ?_
    refine mx_goto 18 d_M_asked2_6 rfl ?_
    refine mx_putI 0 d_M_asked2_18 f_M_119 rfl (hM.o) (Or.inl rfl) (Or.inl rfl) (by first | assumption | exact hR _ _ | exact r32_mk (by omega) (by omega)) ?_
    refine mx_R fun hR_3 => ?_
    refine mx_aload_n 0 d_M_asked2_21 rfl rfl ?_
    refine mx_getI 0 d_M_asked2_22 f_M_119 rfl rfl (hM.o) ?_
    (try simp only [gI_sI, gI_sF, gI_sP, gI_sN, gP_sI, gP_sF, gP_sP, gP_sN, gS_sI, gS_sF, gS_sP, gS_sN, Int.reduceEq, false_and, and_false, true_and, and_true, eq_self, if_false, if_true, reduceIte, reduceCtorEq])
    refine mx_if_ne 32 d_M_asked2_25 rfl (by first | assumption | exact hR_3 _ _ | exact hR _ _ | exact r32_mk (by omega) (by omega)) (fun c_25 => ?_) (fun c_25 => ?_)
    · refine mx_iconst d_M_asked2_32 ?_
      refine mx_zret d_M_asked2_33 rfl (by first | exact Or.inl rfl | exact Or.inr rfl | omega) ?_
      by_cases hP : P <;> by_cases hQ : Q <;> simp_all
    · refine mx_iconst d_M_asked2_28 ?_
      refine mx_goto 33 d_M_asked2_29 rfl ?_
      refine mx_zret d_M_asked2_33 rfl (by first | exact Or.inl rfl | exact Or.inr rfl | omega) ?_
      by_cases hP : P <;> by_cases hQ : Q <;> simp_all
theorem cm_asked3 (P Q R : Prop) [Decidable P] [Decidable Q] [Decidable R] (hM : MS A) : mj_Cal G n_M_asked3 [mR (some 200), mI (if P then 1 else 0), mI (if Q then 1 else 0), mI (if R then 1 else 0)] A (fun r A' => r = some (mI (if P ∧ Q ∧ R then 1 else 0)) ∧ A' = sI A 200 0 (if P then (if Q then (if R then 0 else 3) else 2) else 1)) mj_no := by
  refine mj_bodyK 0 0 [some (mR (some 200)), some (mI (if P then 1 else 0)), some (mI (if Q then 1 else 0)), some (mI (if R then 1 else 0))] rfl rfl rfl (by decide +kernel) (Nat.le_of_ble_eq_true rfl) (by simp) rfl ?_
  refine mx_R fun hR => ?_
  refine mx_aload_n 0 d_M_asked3_0 rfl rfl ?_
  refine mx_iload_n 1 d_M_asked3_1 rfl rfl ?_
  refine mx_if_ne 9 d_M_asked3_2 rfl (by first | assumption | exact hR _ _ | exact r32_mk (by omega) (by omega)) (fun c_2 => ?_) (fun c_2 => ?_)
  · refine mx_iload_n 2 d_M_asked3_9 rfl rfl ?_
    refine mx_if_ne 17 d_M_asked3_10 rfl (by first | assumption | exact hR _ _ | exact r32_mk (by omega) (by omega)) (fun c_10 => ?_) (fun c_10 => ?_)
    · refine mx_iload_n 3 d_M_asked3_17 rfl rfl ?_
      refine mx_if_eq 25 d_M_asked3_18 rfl (by first | assumption | exact hR _ _ | exact r32_mk (by omega) (by omega)) (fun c_18 => ?_) (fun c_18 => ?_)
      · refine mx_iconst d_M_asked3_25 ?_
        refine mx_putI 0 d_M_asked3_26 f_M_119 rfl (hM.o) (Or.inl rfl) (Or.inl rfl) (by first | assumption | exact hR _ _ | exact r32_mk (by omega) (by omega)) ?_
        refine mx_R fun hR_1 => ?_
        refine mx_aload_n 0 d_M_asked3_29 rfl rfl ?_
        refine mx_getI 0 d_M_asked3_30 f_M_119 rfl rfl (hM.o) ?_
        (try simp only [gI_sI, gI_sF, gI_sP, gI_sN, gP_sI, gP_sF, gP_sP, gP_sN, gS_sI, gS_sF, gS_sP, gS_sN, Int.reduceEq, false_and, and_false, true_and, and_true, eq_self, if_false, if_true, reduceIte, reduceCtorEq])
        refine mx_if_ne 40 d_M_asked3_33 rfl (by first | assumption | exact hR_1 _ _ | exact hR _ _ | exact r32_mk (by omega) (by omega)) (fun c_33 => ?_) (fun c_33 => ?_)
        · refine mx_iconst d_M_asked3_40 ?_
          refine mx_zret d_M_asked3_41 rfl (by first | exact Or.inl rfl | exact Or.inr rfl | omega) ?_
          by_cases hP : P <;> by_cases hQ : Q <;> by_cases hR : R <;> simp_all
        · refine mx_iconst d_M_asked3_36 ?_
          refine mx_goto 41 d_M_asked3_37 rfl ?_
          refine mx_zret d_M_asked3_41 rfl (by first | exact Or.inl rfl | exact Or.inr rfl | omega) ?_
          by_cases hP : P <;> by_cases hQ : Q <;> by_cases hR : R <;> simp_all
      · refine mx_iconst d_M_asked3_21 ?_
        refine mx_goto 26 d_M_asked3_22 rfl ?_
        refine mx_putI 0 d_M_asked3_26 f_M_119 rfl (hM.o) (Or.inl rfl) (Or.inl rfl) (by first | assumption | exact hR _ _ | exact r32_mk (by omega) (by omega)) ?_
        refine mx_R fun hR_2 => ?_
        refine mx_aload_n 0 d_M_asked3_29 rfl rfl ?_
        refine mx_getI 0 d_M_asked3_30 f_M_119 rfl rfl (hM.o) ?_
        (try simp only [gI_sI, gI_sF, gI_sP, gI_sN, gP_sI, gP_sF, gP_sP, gP_sN, gS_sI, gS_sF, gS_sP, gS_sN, Int.reduceEq, false_and, and_false, true_and, and_true, eq_self, if_false, if_true, reduceIte, reduceCtorEq])
        refine mx_if_ne 40 d_M_asked3_33 rfl (by first | assumption | exact hR_2 _ _ | exact hR _ _ | exact r32_mk (by omega) (by omega)) (fun c_33 => ?_) (fun c_33 => ?_)
        · refine mx_iconst d_M_asked3_40 ?_
          refine mx_zret d_M_asked3_41 rfl (by first | exact Or.inl rfl | exact Or.inr rfl | omega) ?_
          by_cases hP : P <;> by_cases hQ : Q <;> by_cases hR : R <;> simp_all
        · refine mx_iconst d_M_asked3_36 ?_
          refine mx_goto 41 d_M_asked3_37 rfl ?_
          refine mx_zret d_M_asked3_41 rfl (by first | exact Or.inl rfl | exact Or.inr rfl | omega) ?_
          by_cases hP : P <;> by_cases hQ : Q <;> by_cases hR : R <;> simp_all
    · refine mx_iconst d_M_asked3_13 ?_
      refine mx_goto 26 d_M_asked3_14 rfl ?_
      refine mx_putI 0 d_M_asked3_26 f_M_119 rfl (hM.o) (Or.inl rfl) (Or.inl rfl) (by first | assumption | exact hR _ _ | exact r32_mk (by omega) (by omega)) ?_
      refine mx_R fun hR_3 => ?_
      refine mx_aload_n 0 d_M_asked3_29 rfl rfl ?_
      refine mx_getI 0 d_M_asked3_30 f_M_119 rfl rfl (hM.o) ?_
      (try simp only [gI_sI, gI_sF, gI_sP, gI_sN, gP_sI, gP_sF, gP_sP, gP_sN, gS_sI, gS_sF, gS_sP, gS_sN, Int.reduceEq, false_and, and_false, true_and, and_true, eq_self, if_false, if_true, reduceIte, reduceCtorEq])
      refine mx_if_ne 40 d_M_asked3_33 rfl (by first | assumption | exact hR_3 _ _ | exact hR _ _ | exact r32_mk (by omega) (by omega)) (fun c_33 => ?_) (fun c_33 => ?_)
      · refine mx_iconst d_M_asked3_40 ?_
        refine mx_zret d_M_asked3_41 rfl (by first | exact Or.inl rfl | exact Or.inr rfl | omega) ?_
        by_cases hP : P <;> by_cases hQ : Q <;> by_cases hR : R <;> simp_all
      · refine mx_iconst d_M_asked3_36 ?_
        refine mx_goto 41 d_M_asked3_37 rfl ?_
        refine mx_zret d_M_asked3_41 rfl (by first | exact Or.inl rfl | exact Or.inr rfl | omega) ?_
        by_cases hP : P <;> by_cases hQ : Q <;> by_cases hR : R <;> simp_all
  · refine mx_iconst d_M_asked3_5 ?_
    refine mx_goto 26 d_M_asked3_6 rfl ?_
    refine mx_putI 0 d_M_asked3_26 f_M_119 rfl (hM.o) (Or.inl rfl) (Or.inl rfl) (by first | assumption | exact hR _ _ | exact r32_mk (by omega) (by omega)) ?_
    refine mx_R fun hR_4 => ?_
    refine mx_aload_n 0 d_M_asked3_29 rfl rfl ?_
    refine mx_getI 0 d_M_asked3_30 f_M_119 rfl rfl (hM.o) ?_
    (try simp only [gI_sI, gI_sF, gI_sP, gI_sN, gP_sI, gP_sF, gP_sP, gP_sN, gS_sI, gS_sF, gS_sP, gS_sN, Int.reduceEq, false_and, and_false, true_and, and_true, eq_self, if_false, if_true, reduceIte, reduceCtorEq])
    refine mx_if_ne 40 d_M_asked3_33 rfl (by first | assumption | exact hR_4 _ _ | exact hR _ _ | exact r32_mk (by omega) (by omega)) (fun c_33 => ?_) (fun c_33 => ?_)
    · refine mx_iconst d_M_asked3_40 ?_
      refine mx_zret d_M_asked3_41 rfl (by first | exact Or.inl rfl | exact Or.inr rfl | omega) ?_
      by_cases hP : P <;> by_cases hQ : Q <;> by_cases hR : R <;> simp_all
    · refine mx_iconst d_M_asked3_36 ?_
      refine mx_goto 41 d_M_asked3_37 rfl ?_
      refine mx_zret d_M_asked3_41 rfl (by first | exact Or.inl rfl | exact Or.inr rfl | omega) ?_
      by_cases hP : P <;> by_cases hQ : Q <;> by_cases hR : R <;> simp_all
theorem cm_thrown (hM : MS A) : mj_Cal G n_M_thrown [mR (some 200)] A (fun r A' => r = some (mI (gI A 200 0)) ∧ A' = A) mj_no := by
  refine mj_bodyK 0 0 [some (mR (some 200))] rfl rfl rfl (by decide +kernel) (Nat.le_of_ble_eq_true rfl) (by simp) rfl ?_
  refine mx_R fun hR => ?_
  refine mx_aload_n 0 d_M_thrown_0 rfl rfl ?_
  refine mx_getI 0 d_M_thrown_1 f_M_119 rfl rfl (hM.o) ?_
  refine mx_iret d_M_thrown_4 rfl ?_
  exact ⟨rfl, rfl⟩
/-- a new drawing's rows -/
def mk_m (A : mj_M) (a b n d : Int) : mj_M := sI (sI (sI (sI (sI (sI A 204 (gI A 200 3) a) 205 (gI A 200 3) b) 206 (gI A 200 3) n) 207 (gI A 200 3) d) 200 17 1) 200 3 (gI A 200 3 + 1)
theorem cm_makes {a b n d : Int} (hM : MS A) (hn : 0 ≤ gI A 200 3 ∧ gI A 200 3 < 16) (ha : r32 a) (hb : r32 b) (hn2 : r32 n) (hd : r32 d) : mj_Cal G n_M_makes [mR (some 200), mI a, mI b, mI n, mI d] A (fun r A' => r = some (mI (gI A 200 3)) ∧ A' = mk_m A a b n d) mj_no := by
  refine mj_bodyK 0 0 [some (mR (some 200)), some (mI a), some (mI b), some (mI n), some (mI d)] rfl rfl rfl (by decide +kernel) (Nat.le_of_ble_eq_true rfl) (by simp) rfl ?_
  refine mx_R fun hR => ?_
  refine mx_aload_n 0 d_M_makes_0 rfl rfl ?_
  refine mx_getPs 4 d_M_makes_1 f_M_7 rfl rfl (hM.o) (hM.p4) ?_
  refine mx_aload_n 0 d_M_makes_4 rfl rfl ?_
  refine mx_getI 3 d_M_makes_5 f_M_123 rfl rfl (hM.o) ?_
  refine mx_iload_n 1 d_M_makes_8 rfl rfl ?_
  refine mx_iast d_M_makes_9 (hM.s4) (by omega) (by omega) (by first | assumption | exact hR _ _ | exact r32_mk (by omega) (by omega)) ?_
  refine mx_R fun hR_1 => ?_
  refine mx_aload_n 0 d_M_makes_10 rfl rfl ?_
  refine mx_getPs 5 d_M_makes_11 f_M_13 rfl rfl (hM.o) (hM.p5) ?_
  refine mx_aload_n 0 d_M_makes_14 rfl rfl ?_
  refine mx_getI 3 d_M_makes_15 f_M_123 rfl rfl (hM.o) ?_
  (try simp only [gI_sI, gI_sF, gI_sP, gI_sN, gP_sI, gP_sF, gP_sP, gP_sN, gS_sI, gS_sF, gS_sP, gS_sN, Int.reduceEq, false_and, and_false, true_and, and_true, eq_self, if_false, if_true, reduceIte, reduceCtorEq])
  refine mx_iload_n 2 d_M_makes_18 rfl rfl ?_
  refine mx_iast d_M_makes_19 (hM.s5) (by omega) (by omega) (by first | assumption | exact hR_1 _ _ | exact hR _ _ | exact r32_mk (by omega) (by omega)) ?_
  refine mx_R fun hR_2 => ?_
  refine mx_aload_n 0 d_M_makes_20 rfl rfl ?_
  refine mx_getPs 6 d_M_makes_21 f_M_16 rfl rfl (hM.o) (hM.p6) ?_
  refine mx_aload_n 0 d_M_makes_24 rfl rfl ?_
  refine mx_getI 3 d_M_makes_25 f_M_123 rfl rfl (hM.o) ?_
  (try simp only [gI_sI, gI_sF, gI_sP, gI_sN, gP_sI, gP_sF, gP_sP, gP_sN, gS_sI, gS_sF, gS_sP, gS_sN, Int.reduceEq, false_and, and_false, true_and, and_true, eq_self, if_false, if_true, reduceIte, reduceCtorEq])
  refine mx_iload_n 3 d_M_makes_28 rfl rfl ?_
  refine mx_iast d_M_makes_29 (hM.s6) (by omega) (by omega) (by first | assumption | exact hR_2 _ _ | exact hR_1 _ _ | exact hR _ _ | exact r32_mk (by omega) (by omega)) ?_
  refine mx_R fun hR_3 => ?_
  refine mx_aload_n 0 d_M_makes_30 rfl rfl ?_
  refine mx_getPs 7 d_M_makes_31 f_M_19 rfl rfl (hM.o) (hM.p7) ?_
  refine mx_aload_n 0 d_M_makes_34 rfl rfl ?_
  refine mx_getI 3 d_M_makes_35 f_M_123 rfl rfl (hM.o) ?_
  (try simp only [gI_sI, gI_sF, gI_sP, gI_sN, gP_sI, gP_sF, gP_sP, gP_sN, gS_sI, gS_sF, gS_sP, gS_sN, Int.reduceEq, false_and, and_false, true_and, and_true, eq_self, if_false, if_true, reduceIte, reduceCtorEq])
  refine mx_iload 4 d_M_makes_38 rfl ?_
  refine mx_iast d_M_makes_40 (hM.s7) (by omega) (by omega) (by first | assumption | exact hR_3 _ _ | exact hR_2 _ _ | exact hR_1 _ _ | exact hR _ _ | exact r32_mk (by omega) (by omega)) ?_
  refine mx_R fun hR_4 => ?_
  refine mx_aload_n 0 d_M_makes_41 rfl rfl ?_
  refine mx_iconst d_M_makes_42 ?_
  refine mx_putI 17 d_M_makes_43 f_M_134 rfl (hM.o) (Or.inl rfl) (Or.inr ⟨rfl, by first | exact Or.inl rfl | exact Or.inr rfl | omega⟩) (by first | assumption | exact hR_4 _ _ | exact hR_3 _ _ | exact hR_2 _ _ | exact hR_1 _ _ | exact hR _ _ | exact r32_mk (by omega) (by omega)) ?_
  refine mx_R fun hR_5 => ?_
  refine mx_aload_n 0 d_M_makes_46 rfl rfl ?_
  refine mx_dup d_M_makes_47 (fun z h => by cases h) ?_
  refine mx_getI 3 d_M_makes_48 f_M_123 rfl rfl (hM.o) ?_
  (try simp only [gI_sI, gI_sF, gI_sP, gI_sN, gP_sI, gP_sF, gP_sP, gP_sN, gS_sI, gS_sF, gS_sP, gS_sN, Int.reduceEq, false_and, and_false, true_and, and_true, eq_self, if_false, if_true, reduceIte, reduceCtorEq])
  refine mx_iconst d_M_makes_51 ?_
  refine mx_iadd d_M_makes_52 ?_
  refine mx_putI 3 d_M_makes_53 f_M_123 rfl (hM.o) (Or.inl rfl) (Or.inl rfl) (by first | assumption | exact hR_5 _ _ | exact hR_4 _ _ | exact hR_3 _ _ | exact hR_2 _ _ | exact hR_1 _ _ | exact hR _ _ | exact r32_mk (by omega) (by omega)) ?_
  refine mx_R fun hR_6 => ?_
  refine mx_aload_n 0 d_M_makes_56 rfl rfl ?_
  refine mx_getI 3 d_M_makes_57 f_M_123 rfl rfl (hM.o) ?_
  (try simp only [gI_sI, gI_sF, gI_sP, gI_sN, gP_sI, gP_sF, gP_sP, gP_sN, gS_sI, gS_sF, gS_sP, gS_sN, Int.reduceEq, false_and, and_false, true_and, and_true, eq_self, if_false, if_true, reduceIte, reduceCtorEq])
  refine mx_iconst d_M_makes_60 ?_
  refine mx_isub d_M_makes_61 ?_
  refine mx_iret d_M_makes_62 rfl ?_
  exact ⟨by rw [show gI A 200 3 + 1 - 1 = gI A 200 3 by omega], rfl⟩
theorem cm_key (hM : MS A) (hn : 0 ≤ gI A 200 3 ∧ gI A 200 3 ≤ 16) : mj_Cal G n_M_key [mR (some 200)] A (fun r A' => (gI A 200 3 < 16 ∧ r = some (mI (gI A 200 3)) ∧ A' = mk_m (sI A 200 0 0) (-1) (-1) 0 1) ∨ (16 ≤ gI A 200 3 ∧ r = some (mI 0) ∧ A' = sI A 200 0 1)) mj_no := by
  refine mj_bodyK 0 0 [some (mR (some 200))] rfl rfl rfl (by decide +kernel) (Nat.le_of_ble_eq_true rfl) (by simp) rfl ?_
  refine mx_R fun hR => ?_
  refine mx_aload_n 0 d_M_key_0 rfl rfl ?_
  refine mj_cutB (gI A 200 3 < 16) 15 ?_ (fun hJ_1 => ?_)
  · refine mx_callV (kc := 0) (ks := 0) (N := n_M_asked1) (as := [_]) (ci := 7) d_M_key_15 s_M_138 ⟨Nat.le_of_ble_eq_true rfl, Nat.le_of_ble_eq_true rfl⟩ rfl (mj_wt_8 (Nat.le_of_ble_eq_true rfl)) (hM.o) ⟨_, rfl, rfl⟩ (cm_asked1 _ hM) (fun r_15 A_15 h_15 => ?_) (fun E_15 A_x h_15 => ?_)
    rotate_left
    · exact h_15.elim
    obtain ⟨rfl, hA_15⟩ := h_15
    obtain rfl := hA_15.symm
    clear hA_15
    refine mx_R fun hR_1 => ?_
    refine mx_if_eq 32 d_M_key_18 rfl (by first | assumption | exact hR_1 _ _ | exact hR _ _ | exact r32_mk (by omega) (by omega)) (fun c_18 => ?_) (fun c_18 => ?_)
    · refine mx_iconst d_M_key_32 ?_
      refine mx_iret d_M_key_33 rfl ?_
      first | exact Or.inl ⟨by omega, by (try simp only [gI_sI, gI_sF, gI_sP, gI_sN, gP_sI, gP_sF, gP_sP, gP_sN, gS_sI, gS_sF, gS_sP, gS_sN, Int.reduceEq, false_and, and_false, true_and, and_true, eq_self, if_false, if_true, reduceIte, reduceCtorEq]), by rw [if_pos (by omega)]⟩ | exact Or.inr ⟨by omega, rfl, by rw [if_neg (by omega)]⟩
    · refine mx_aload_n 0 d_M_key_21 rfl rfl ?_
      refine mx_iconst d_M_key_22 ?_
      refine mx_iconst d_M_key_23 ?_
      refine mx_iconst d_M_key_24 ?_
      refine mx_iconst d_M_key_25 ?_
      refine mx_callV (kc := 0) (ks := 0) (N := n_M_makes) (as := [_, _, _, _]) (ci := 7) d_M_key_26 s_M_142 ⟨Nat.le_of_ble_eq_true rfl, Nat.le_of_ble_eq_true rfl⟩ rfl (mj_wt_8 (Nat.le_of_ble_eq_true rfl)) (hM.o) ⟨_, rfl, rfl⟩ (cm_makes (A := sI A 200 0 _) hM (by (try simp only [gI_sI, gI_sF, gI_sP, gI_sN, gP_sI, gP_sF, gP_sP, gP_sN, gS_sI, gS_sF, gS_sP, gS_sN, Int.reduceEq, false_and, and_false, true_and, and_true, eq_self, if_false, if_true, reduceIte, reduceCtorEq]); omega) (r32_mk (by omega) (by omega)) (r32_mk (by omega) (by omega)) (r32_mk (by omega) (by omega)) (r32_mk (by omega) (by omega))) (fun r_26 A_26 h_26 => ?_) (fun E_26 A_x h_26 => ?_)
      rotate_left
      · exact h_26.elim
      obtain ⟨rfl, hA_26⟩ := h_26
      obtain rfl := hA_26.symm
      clear hA_26
      refine mx_R fun hR_2 => ?_
      refine mx_goto 33 d_M_key_29 rfl ?_
      refine mx_iret d_M_key_33 rfl ?_
      first | exact Or.inl ⟨by omega, by (try simp only [gI_sI, gI_sF, gI_sP, gI_sN, gP_sI, gP_sF, gP_sP, gP_sN, gS_sI, gS_sF, gS_sP, gS_sN, Int.reduceEq, false_and, and_false, true_and, and_true, eq_self, if_false, if_true, reduceIte, reduceCtorEq]), by rw [if_pos (by omega)]⟩ | exact Or.inr ⟨by omega, rfl, by rw [if_neg (by omega)]⟩
  · refine mx_aload_n 0 d_M_key_1 rfl rfl ?_
    refine mx_getI 3 d_M_key_2 f_M_123 rfl rfl (hM.o) ?_
    refine mx_bipush d_M_key_5 (by decide) ?_
    refine mx_icmp_ge 14 d_M_key_7 rfl (by first | assumption | exact hR _ _ | exact r32_mk (by omega) (by omega)) (by first | assumption | exact hR _ _ | exact r32_mk (by omega) (by omega)) (fun c_7 => ?_) (fun c_7 => ?_)
    · refine mx_iconst d_M_key_14 ?_
      first | exact mj_j1 hJ_1 (by omega) | exact mj_j0 hJ_1 (by omega)
    · refine mx_iconst d_M_key_10 ?_
      refine mx_goto 15 d_M_key_11 rfl ?_
      first | exact mj_j1 hJ_1 (by omega) | exact mj_j0 hJ_1 (by omega)
theorem cm_between {a b n d : Int} (hM : MS A) (hn : 0 ≤ gI A 200 3 ∧ gI A 200 3 ≤ 16) (ha : r32 a) (hb : r32 b) (hn2 : r32 n) (hd : r32 d) : mj_Cal G n_M_between [mR (some 200), mI a, mI b, mI n, mI d] A (fun r A' => (((0 ≤ a ∧ a < gI A 200 3 ∧ 0 ≤ b ∧ b < gI A 200 3) ∧ (1 ≤ d ∧ d ≤ 24 ∧ 0 ≤ n ∧ n ≤ d) ∧ gI A 200 3 < 16) ∧ r = some (mI (gI A 200 3)) ∧ A' = mk_m (sI A 200 0 0) a b n d) ∨ (¬ ((0 ≤ a ∧ a < gI A 200 3 ∧ 0 ≤ b ∧ b < gI A 200 3) ∧ (1 ≤ d ∧ d ≤ 24 ∧ 0 ≤ n ∧ n ≤ d) ∧ gI A 200 3 < 16) ∧ r = some (mI 0) ∧ A' = sI A 200 0 (if (0 ≤ a ∧ a < gI A 200 3 ∧ 0 ≤ b ∧ b < gI A 200 3) then (if (1 ≤ d ∧ d ≤ 24 ∧ 0 ≤ n ∧ n ≤ d) then (if gI A 200 3 < 16 then 0 else 3) else 2) else 1))) mj_no := by
  refine mj_bodyK 0 0 [some (mR (some 200)), some (mI a), some (mI b), some (mI n), some (mI d)] rfl rfl rfl (by decide +kernel) (Nat.le_of_ble_eq_true rfl) (by simp) rfl ?_
  refine mx_R fun hR => ?_
  refine mx_aload_n 0 d_M_between_0 rfl rfl ?_
  refine mj_cutB ((0 ≤ a ∧ a < gI A 200 3 ∧ 0 ≤ b ∧ b < gI A 200 3)) 22 ?_ (fun hJ_1 => ?_)
  · refine mj_cutB ((1 ≤ d ∧ d ≤ 24 ∧ 0 ≤ n ∧ n ≤ d)) 48 ?_ (fun hJ_22 => ?_)
    · refine mj_cutB (gI A 200 3 < 16) 62 ?_ (fun hJ_48 => ?_)
      · refine mx_callV (kc := 0) (ks := 0) (N := n_M_asked3) (as := [_, _, _]) (ci := 7) d_M_between_62 s_M_146 ⟨Nat.le_of_ble_eq_true rfl, Nat.le_of_ble_eq_true rfl⟩ rfl (mj_wt_8 (Nat.le_of_ble_eq_true rfl)) (hM.o) ⟨_, rfl, rfl⟩ (cm_asked3 _ _ _ hM) (fun r_62 A_62 h_62 => ?_) (fun E_62 A_x h_62 => ?_)
        rotate_left
        · exact h_62.elim
        obtain ⟨rfl, hA_62⟩ := h_62
        obtain rfl := hA_62.symm
        clear hA_62
        refine mx_R fun hR_1 => ?_
        refine mx_if_ne 70 d_M_between_65 rfl (by first | assumption | exact hR_1 _ _ | exact hR _ _ | exact r32_mk (by omega) (by omega)) (fun c_65 => ?_) (fun c_65 => ?_)
        · refine mx_aload_n 0 d_M_between_70 rfl rfl ?_
          refine mx_iload_n 1 d_M_between_71 rfl rfl ?_
          refine mx_iload_n 2 d_M_between_72 rfl rfl ?_
          refine mx_iload_n 3 d_M_between_73 rfl rfl ?_
          refine mx_iload 4 d_M_between_74 rfl ?_
          refine mx_callV (kc := 0) (ks := 0) (N := n_M_makes) (as := [_, _, _, _]) (ci := 7) d_M_between_76 s_M_142 ⟨Nat.le_of_ble_eq_true rfl, Nat.le_of_ble_eq_true rfl⟩ rfl (mj_wt_8 (Nat.le_of_ble_eq_true rfl)) (hM.o) ⟨_, rfl, rfl⟩ (cm_makes (A := sI A 200 0 _) hM (by (try simp only [gI_sI, gI_sF, gI_sP, gI_sN, gP_sI, gP_sF, gP_sP, gP_sN, gS_sI, gS_sF, gS_sP, gS_sN, Int.reduceEq, false_and, and_false, true_and, and_true, eq_self, if_false, if_true, reduceIte, reduceCtorEq]); omega) ha hb hn2 hd) (fun r_76 A_76 h_76 => ?_) (fun E_76 A_x h_76 => ?_)
          rotate_left
          · exact h_76.elim
          obtain ⟨rfl, hA_76⟩ := h_76
          obtain rfl := hA_76.symm
          clear hA_76
          refine mx_R fun hR_2 => ?_
          refine mx_iret d_M_between_79 rfl ?_
          refine Or.inl ⟨by omega, by (try simp only [gI_sI, gI_sF, gI_sP, gI_sN, gP_sI, gP_sF, gP_sP, gP_sN, gS_sI, gS_sF, gS_sP, gS_sN, Int.reduceEq, false_and, and_false, true_and, and_true, eq_self, if_false, if_true, reduceIte, reduceCtorEq]), ?_⟩
          rw [if_pos (by omega), if_pos (by omega), if_pos (by omega)]
        · refine mx_iconst d_M_between_68 ?_
          refine mx_iret d_M_between_69 rfl ?_
          exact Or.inr ⟨by omega, rfl, rfl⟩
      · refine mx_aload_n 0 d_M_between_48 rfl rfl ?_
        refine mx_getI 3 d_M_between_49 f_M_123 rfl rfl (hM.o) ?_
        refine mx_bipush d_M_between_52 (by decide) ?_
        refine mx_icmp_ge 61 d_M_between_54 rfl (by first | assumption | exact hR _ _ | exact r32_mk (by omega) (by omega)) (by first | assumption | exact hR _ _ | exact r32_mk (by omega) (by omega)) (fun c_54 => ?_) (fun c_54 => ?_)
        · refine mx_iconst d_M_between_61 ?_
          first | exact mj_j1 hJ_48 (by omega) | exact mj_j0 hJ_48 (by omega)
        · refine mx_iconst d_M_between_57 ?_
          refine mx_goto 62 d_M_between_58 rfl ?_
          first | exact mj_j1 hJ_48 (by omega) | exact mj_j0 hJ_48 (by omega)
    · refine mx_iload 4 d_M_between_22 rfl ?_
      refine mx_iconst d_M_between_24 ?_
      refine mx_bipush d_M_between_25 (by decide) ?_
      refine mx_callS (kc := 0) (ks := 0) (N := n_M_in) (as := [_, _, _]) d_M_between_27 s_M_126 ⟨Nat.le_of_ble_eq_true rfl, Nat.le_of_ble_eq_true rfl⟩ rfl (mj_wt_8 (Nat.le_of_ble_eq_true rfl)) (cm_in hd (r32_mk (by omega) (by omega)) (r32_mk (by omega) (by omega))) (fun r_27 A_27 h_27 => ?_) (fun E_27 A_x h_27 => ?_)
      rotate_left
      · exact h_27.elim
      obtain ⟨rfl, hA_27⟩ := h_27
      obtain rfl := hA_27.symm
      clear hA_27
      refine mx_R fun hR_3 => ?_
      refine mx_if_eq 47 d_M_between_30 rfl (by first | assumption | exact hR_3 _ _ | exact hR _ _ | exact r32_mk (by omega) (by omega)) (fun c_30 => ?_) (fun c_30 => ?_)
      · refine mx_iconst d_M_between_47 ?_
        first | exact mj_j1 hJ_22 (by omega) | exact mj_j0 hJ_22 (by omega)
      · refine mx_iload_n 3 d_M_between_33 rfl rfl ?_
        refine mx_iconst d_M_between_34 ?_
        refine mx_iload 4 d_M_between_35 rfl ?_
        refine mx_callS (kc := 0) (ks := 0) (N := n_M_in) (as := [_, _, _]) d_M_between_37 s_M_126 ⟨Nat.le_of_ble_eq_true rfl, Nat.le_of_ble_eq_true rfl⟩ rfl (mj_wt_8 (Nat.le_of_ble_eq_true rfl)) (cm_in hn2 (r32_mk (by omega) (by omega)) hd) (fun r_37 A_37 h_37 => ?_) (fun E_37 A_x h_37 => ?_)
        rotate_left
        · exact h_37.elim
        obtain ⟨rfl, hA_37⟩ := h_37
        obtain rfl := hA_37.symm
        clear hA_37
        refine mx_R fun hR_4 => ?_
        refine mx_if_eq 47 d_M_between_40 rfl (by first | assumption | exact hR_4 _ _ | exact hR_3 _ _ | exact hR _ _ | exact r32_mk (by omega) (by omega)) (fun c_40 => ?_) (fun c_40 => ?_)
        · refine mx_iconst d_M_between_47 ?_
          first | exact mj_j1 hJ_22 (by omega) | exact mj_j0 hJ_22 (by omega)
        · refine mx_iconst d_M_between_43 ?_
          refine mx_goto 48 d_M_between_44 rfl ?_
          first | exact mj_j1 hJ_22 (by omega) | exact mj_j0 hJ_22 (by omega)
  · refine mx_aload_n 0 d_M_between_1 rfl rfl ?_
    refine mx_iload_n 1 d_M_between_2 rfl rfl ?_
    refine mx_callV (kc := 0) (ks := 0) (N := n_M_isDrawing) (as := [_]) (ci := 7) d_M_between_3 s_M_130 ⟨Nat.le_of_ble_eq_true rfl, Nat.le_of_ble_eq_true rfl⟩ rfl (mj_wt_8 (Nat.le_of_ble_eq_true rfl)) (hM.o) ⟨_, rfl, rfl⟩ (cm_isDrawing hM ha hn) (fun r_3 A_3 h_3 => ?_) (fun E_3 A_x h_3 => ?_)
    rotate_left
    · exact h_3.elim
    obtain ⟨rfl, hA_3⟩ := h_3
    obtain rfl := hA_3.symm
    clear hA_3
    refine mx_R fun hR_5 => ?_
    refine mx_if_eq 21 d_M_between_6 rfl (by first | assumption | exact hR_5 _ _ | exact hR _ _ | exact r32_mk (by omega) (by omega)) (fun c_6 => ?_) (fun c_6 => ?_)
    · refine mx_iconst d_M_between_21 ?_
      first | exact mj_j1 hJ_1 (by omega) | exact mj_j0 hJ_1 (by omega)
    · refine mx_aload_n 0 d_M_between_9 rfl rfl ?_
      refine mx_iload_n 2 d_M_between_10 rfl rfl ?_
      refine mx_callV (kc := 0) (ks := 0) (N := n_M_isDrawing) (as := [_]) (ci := 7) d_M_between_11 s_M_130 ⟨Nat.le_of_ble_eq_true rfl, Nat.le_of_ble_eq_true rfl⟩ rfl (mj_wt_8 (Nat.le_of_ble_eq_true rfl)) (hM.o) ⟨_, rfl, rfl⟩ (cm_isDrawing hM hb hn) (fun r_11 A_11 h_11 => ?_) (fun E_11 A_x h_11 => ?_)
      rotate_left
      · exact h_11.elim
      obtain ⟨rfl, hA_11⟩ := h_11
      obtain rfl := hA_11.symm
      clear hA_11
      refine mx_R fun hR_6 => ?_
      refine mx_if_eq 21 d_M_between_14 rfl (by first | assumption | exact hR_6 _ _ | exact hR_5 _ _ | exact hR _ _ | exact r32_mk (by omega) (by omega)) (fun c_14 => ?_) (fun c_14 => ?_)
      · refine mx_iconst d_M_between_21 ?_
        first | exact mj_j1 hJ_1 (by omega) | exact mj_j0 hJ_1 (by omega)
      · refine mx_iconst d_M_between_17 ?_
        refine mx_goto 22 d_M_between_18 rfl ?_
        first | exact mj_j1 hJ_1 (by omega) | exact mj_j0 hJ_1 (by omega)
end MOD1
