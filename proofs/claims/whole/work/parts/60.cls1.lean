/-! THE HOUSE, 1: strokes -/
section CLS1
variable {G : mj_G} {A : mj_M}
theorem ct_set {t a b c d e : Int} (hs : gS A t = some (.inl 5)) (ha : r32 a) (hb : r32 b) (hc : r32 c) (hd : r32 d) (he : r32 e) : mj_Cal G n_K_set [mR (some t), mI a, mI b, mI c, mI d, mI e] A (fun r A' => r = none ∧ A' = sI (sI (sI (sI (sI A t 1 a) t 2 b) t 3 c) t 4 d) t 5 e) mj_no := by
  refine mj_bodyK 0 0 [some (mR (some t)), some (mI a), some (mI b), some (mI c), some (mI d), some (mI e)] rfl rfl rfl (by decide +kernel) (Nat.le_of_ble_eq_true rfl) (by simp) rfl ?_
  refine mx_R fun hR => ?_
  refine mx_aload_n 0 d_K_set_0 rfl rfl ?_
  refine mx_iload_n 1 d_K_set_1 rfl rfl ?_
  refine mx_putI 1 d_K_set_2 f_K_7 rfl (hs) (Or.inl rfl) (Or.inl rfl) (by first | assumption | exact hR _ _ | exact r32_mk (by omega) (by omega)) ?_
  refine mx_R fun hR_1 => ?_
  refine mx_aload_n 0 d_K_set_5 rfl rfl ?_
  refine mx_iload_n 2 d_K_set_6 rfl rfl ?_
  refine mx_putI 2 d_K_set_7 f_K_13 rfl (hs) (Or.inl rfl) (Or.inl rfl) (by first | assumption | exact hR_1 _ _ | exact hR _ _ | exact r32_mk (by omega) (by omega)) ?_
  refine mx_R fun hR_2 => ?_
  refine mx_aload_n 0 d_K_set_10 rfl rfl ?_
  refine mx_iload_n 3 d_K_set_11 rfl rfl ?_
  refine mx_putI 3 d_K_set_12 f_K_16 rfl (hs) (Or.inl rfl) (Or.inl rfl) (by first | assumption | exact hR_2 _ _ | exact hR_1 _ _ | exact hR _ _ | exact r32_mk (by omega) (by omega)) ?_
  refine mx_R fun hR_3 => ?_
  refine mx_aload_n 0 d_K_set_15 rfl rfl ?_
  refine mx_iload 4 d_K_set_16 rfl ?_
  refine mx_putI 4 d_K_set_18 f_K_19 rfl (hs) (Or.inl rfl) (Or.inl rfl) (by first | assumption | exact hR_3 _ _ | exact hR_2 _ _ | exact hR_1 _ _ | exact hR _ _ | exact r32_mk (by omega) (by omega)) ?_
  refine mx_R fun hR_4 => ?_
  refine mx_aload_n 0 d_K_set_21 rfl rfl ?_
  refine mx_iload 5 d_K_set_22 rfl ?_
  refine mx_putI 5 d_K_set_24 f_K_22 rfl (hs) (Or.inl rfl) (Or.inl rfl) (by first | assumption | exact hR_4 _ _ | exact hR_3 _ _ | exact hR_2 _ _ | exact hR_1 _ _ | exact hR _ _ | exact r32_mk (by omega) (by omega)) ?_
  refine mx_R fun hR_5 => ?_
  refine mx_vret d_K_set_27 rfl ?_
  exact ⟨rfl, rfl⟩
/-- the ends of a stroke are in the field -/
def sr (A : mj_M) (t : Int) : Prop := (0 ≤ gI A t 1 ∧ gI A t 1 < 16) ∧ (0 ≤ gI A t 2 ∧ gI A t 2 < 12) ∧ (0 ≤ gI A t 3 ∧ gI A t 3 < 16) ∧ (0 ≤ gI A t 4 ∧ gI A t 4 < 12)
def sb_m (A : mj_M) (t a b n d : Int) : mj_M := sI (sI (sI (sI (sI A t 1 (mj_pw (gI A a 1) (gI A b 1) n d)) t 2 (mj_pw (gI A a 2) (gI A b 2) n d)) t 3 (mj_pw (gI A a 3) (gI A b 3) n d)) t 4 (mj_pw (gI A a 4) (gI A b 4) n d)) t 5 (gI A a 5)
theorem pw_m {a b n : Int} (ha : 0 ≤ a ∧ a < 16) (hb : 0 ≤ b ∧ b < 16) (hn : 0 ≤ n ∧ n ≤ 24) : r32 (n * (b - a)) := by
  have h := mo_mulr (a := n) (b := b - a) (by omega) (by omega)
  exact r32_mk (by omega) (by omega)
theorem ct_setBetween {t a b n d : Int} (ht : gS A t = some (.inl 5)) (ha : gS A a = some (.inl 5)) (hb : gS A b = some (.inl 5)) (hn : 0 ≤ n ∧ n ≤ d) (hd : 1 ≤ d ∧ d ≤ 24) (ra : sr A a) (rb : sr A b) : mj_Cal G n_K_setBetween [mR (some t), mR (some a), mR (some b), mI n, mI d] A (fun r A' => r = none ∧ A' = sb_m A t a b n d) mj_no := by
  refine mj_bodyK 0 0 [some (mR (some t)), some (mR (some a)), some (mR (some b)), some (mI n), some (mI d)] rfl rfl rfl (by decide +kernel) (Nat.le_of_ble_eq_true rfl) (by simp) rfl ?_
  unfold sr at ra rb
  have w1 := pc_pw_r (lo := 0) (hi := 15) hn (a := gI A a 1) (b := gI A b 1) (by omega) (by omega)
  have w2 := pc_pw_r (lo := 0) (hi := 15) hn (a := gI A a 2) (b := gI A b 2) (by omega) (by omega)
  have w3 := pc_pw_r (lo := 0) (hi := 15) hn (a := gI A a 3) (b := gI A b 3) (by omega) (by omega)
  have w4 := pc_pw_r (lo := 0) (hi := 15) hn (a := gI A a 4) (b := gI A b 4) (by omega) (by omega)
  refine mx_R fun hR => ?_
  refine mx_aload_n 0 d_K_setBetween_0 rfl rfl ?_
  refine mx_aload_n 1 d_K_setBetween_1 rfl rfl ?_
  refine mx_getI 1 d_K_setBetween_2 f_K_7 rfl rfl (ha) ?_
  refine mx_aload_n 2 d_K_setBetween_5 rfl rfl ?_
  refine mx_getI 1 d_K_setBetween_6 f_K_7 rfl rfl (hb) ?_
  refine mx_iload_n 3 d_K_setBetween_9 rfl rfl ?_
  refine mx_iload 4 d_K_setBetween_10 rfl ?_
  refine mx_callSN (kc := 0) (ks := 0) (N := n_H_partWay) (as := [_, _, _, _]) d_K_setBetween_12 s_K_25 ⟨Nat.le_of_ble_eq_true rfl, Nat.le_of_ble_eq_true rfl⟩ rfl (mj_wt_8 (Nat.le_of_ble_eq_true rfl)) (ct_partWay (r32_mk (by omega) (by omega)) (pw_m (by omega) (by omega) (by omega))) (fun r_12 A_12 h_12 => ?_)
  obtain ⟨rfl, hA_12⟩ := h_12
  obtain rfl := hA_12.symm
  clear hA_12
  refine mx_R fun hR_1 => ?_
  refine mx_putI 1 d_K_setBetween_15 f_K_7 rfl (ht) (Or.inl rfl) (Or.inl rfl) (by first | assumption | exact hR_1 _ _ | exact hR _ _ | exact r32_mk (by omega) (by omega)) ?_
  refine mx_R fun hR_2 => ?_
  refine mx_aload_n 0 d_K_setBetween_18 rfl rfl ?_
  refine mx_aload_n 1 d_K_setBetween_19 rfl rfl ?_
  refine mx_getI 2 d_K_setBetween_20 f_K_13 rfl rfl (ha) ?_
  (try simp only [gI_sI, gI_sF, gI_sP, gI_sN, gP_sI, gP_sF, gP_sP, gP_sN, gS_sI, gS_sF, gS_sP, gS_sN, Int.reduceEq, false_and, and_false, true_and, and_true, eq_self, if_false, if_true, reduceIte, reduceCtorEq])
  refine mx_aload_n 2 d_K_setBetween_23 rfl rfl ?_
  refine mx_getI 2 d_K_setBetween_24 f_K_13 rfl rfl (hb) ?_
  (try simp only [gI_sI, gI_sF, gI_sP, gI_sN, gP_sI, gP_sF, gP_sP, gP_sN, gS_sI, gS_sF, gS_sP, gS_sN, Int.reduceEq, false_and, and_false, true_and, and_true, eq_self, if_false, if_true, reduceIte, reduceCtorEq])
  refine mx_iload_n 3 d_K_setBetween_27 rfl rfl ?_
  refine mx_iload 4 d_K_setBetween_28 rfl ?_
  refine mx_callSN (kc := 0) (ks := 0) (N := n_H_partWay) (as := [_, _, _, _]) d_K_setBetween_30 s_K_25 ⟨Nat.le_of_ble_eq_true rfl, Nat.le_of_ble_eq_true rfl⟩ rfl (mj_wt_8 (Nat.le_of_ble_eq_true rfl)) (ct_partWay (r32_mk (by omega) (by omega)) (pw_m (by omega) (by omega) (by omega))) (fun r_30 A_30 h_30 => ?_)
  obtain ⟨rfl, hA_30⟩ := h_30
  obtain rfl := hA_30.symm
  clear hA_30
  refine mx_R fun hR_3 => ?_
  refine mx_putI 2 d_K_setBetween_33 f_K_13 rfl (ht) (Or.inl rfl) (Or.inl rfl) (by first | assumption | exact hR_3 _ _ | exact hR_2 _ _ | exact hR_1 _ _ | exact hR _ _ | exact r32_mk (by omega) (by omega)) ?_
  refine mx_R fun hR_4 => ?_
  refine mx_aload_n 0 d_K_setBetween_36 rfl rfl ?_
  refine mx_aload_n 1 d_K_setBetween_37 rfl rfl ?_
  refine mx_getI 3 d_K_setBetween_38 f_K_16 rfl rfl (ha) ?_
  (try simp only [gI_sI, gI_sF, gI_sP, gI_sN, gP_sI, gP_sF, gP_sP, gP_sN, gS_sI, gS_sF, gS_sP, gS_sN, Int.reduceEq, false_and, and_false, true_and, and_true, eq_self, if_false, if_true, reduceIte, reduceCtorEq])
  refine mx_aload_n 2 d_K_setBetween_41 rfl rfl ?_
  refine mx_getI 3 d_K_setBetween_42 f_K_16 rfl rfl (hb) ?_
  (try simp only [gI_sI, gI_sF, gI_sP, gI_sN, gP_sI, gP_sF, gP_sP, gP_sN, gS_sI, gS_sF, gS_sP, gS_sN, Int.reduceEq, false_and, and_false, true_and, and_true, eq_self, if_false, if_true, reduceIte, reduceCtorEq])
  refine mx_iload_n 3 d_K_setBetween_45 rfl rfl ?_
  refine mx_iload 4 d_K_setBetween_46 rfl ?_
  refine mx_callSN (kc := 0) (ks := 0) (N := n_H_partWay) (as := [_, _, _, _]) d_K_setBetween_48 s_K_25 ⟨Nat.le_of_ble_eq_true rfl, Nat.le_of_ble_eq_true rfl⟩ rfl (mj_wt_8 (Nat.le_of_ble_eq_true rfl)) (ct_partWay (r32_mk (by omega) (by omega)) (pw_m (by omega) (by omega) (by omega))) (fun r_48 A_48 h_48 => ?_)
  obtain ⟨rfl, hA_48⟩ := h_48
  obtain rfl := hA_48.symm
  clear hA_48
  refine mx_R fun hR_5 => ?_
  refine mx_putI 3 d_K_setBetween_51 f_K_16 rfl (ht) (Or.inl rfl) (Or.inl rfl) (by first | assumption | exact hR_5 _ _ | exact hR_4 _ _ | exact hR_3 _ _ | exact hR_2 _ _ | exact hR_1 _ _ | exact hR _ _ | exact r32_mk (by omega) (by omega)) ?_
  refine mx_R fun hR_6 => ?_
  refine mx_aload_n 0 d_K_setBetween_54 rfl rfl ?_
  refine mx_aload_n 1 d_K_setBetween_55 rfl rfl ?_
  refine mx_getI 4 d_K_setBetween_56 f_K_19 rfl rfl (ha) ?_
  (try simp only [gI_sI, gI_sF, gI_sP, gI_sN, gP_sI, gP_sF, gP_sP, gP_sN, gS_sI, gS_sF, gS_sP, gS_sN, Int.reduceEq, false_and, and_false, true_and, and_true, eq_self, if_false, if_true, reduceIte, reduceCtorEq])
  refine mx_aload_n 2 d_K_setBetween_59 rfl rfl ?_
  refine mx_getI 4 d_K_setBetween_60 f_K_19 rfl rfl (hb) ?_
  (try simp only [gI_sI, gI_sF, gI_sP, gI_sN, gP_sI, gP_sF, gP_sP, gP_sN, gS_sI, gS_sF, gS_sP, gS_sN, Int.reduceEq, false_and, and_false, true_and, and_true, eq_self, if_false, if_true, reduceIte, reduceCtorEq])
  refine mx_iload_n 3 d_K_setBetween_63 rfl rfl ?_
  refine mx_iload 4 d_K_setBetween_64 rfl ?_
  refine mx_callSN (kc := 0) (ks := 0) (N := n_H_partWay) (as := [_, _, _, _]) d_K_setBetween_66 s_K_25 ⟨Nat.le_of_ble_eq_true rfl, Nat.le_of_ble_eq_true rfl⟩ rfl (mj_wt_8 (Nat.le_of_ble_eq_true rfl)) (ct_partWay (r32_mk (by omega) (by omega)) (pw_m (by omega) (by omega) (by omega))) (fun r_66 A_66 h_66 => ?_)
  obtain ⟨rfl, hA_66⟩ := h_66
  obtain rfl := hA_66.symm
  clear hA_66
  refine mx_R fun hR_7 => ?_
  refine mx_putI 4 d_K_setBetween_69 f_K_19 rfl (ht) (Or.inl rfl) (Or.inl rfl) (by first | assumption | exact hR_7 _ _ | exact hR_6 _ _ | exact hR_5 _ _ | exact hR_4 _ _ | exact hR_3 _ _ | exact hR_2 _ _ | exact hR_1 _ _ | exact hR _ _ | exact r32_mk (by omega) (by omega)) ?_
  refine mx_R fun hR_8 => ?_
  refine mx_aload_n 0 d_K_setBetween_72 rfl rfl ?_
  refine mx_aload_n 1 d_K_setBetween_73 rfl rfl ?_
  refine mx_getI 5 d_K_setBetween_74 f_K_22 rfl rfl (ha) ?_
  (try simp only [gI_sI, gI_sF, gI_sP, gI_sN, gP_sI, gP_sF, gP_sP, gP_sN, gS_sI, gS_sF, gS_sP, gS_sN, Int.reduceEq, false_and, and_false, true_and, and_true, eq_self, if_false, if_true, reduceIte, reduceCtorEq])
  refine mx_putI 5 d_K_setBetween_77 f_K_22 rfl (ht) (Or.inl rfl) (Or.inl rfl) (by first | assumption | exact hR_8 _ _ | exact hR_7 _ _ | exact hR_6 _ _ | exact hR_5 _ _ | exact hR_4 _ _ | exact hR_3 _ _ | exact hR_2 _ _ | exact hR_1 _ _ | exact hR _ _ | exact r32_mk (by omega) (by omega)) ?_
  refine mx_R fun hR_9 => ?_
  refine mx_vret d_K_setBetween_80 rfl ?_
  exact ⟨rfl, rfl⟩
theorem ct_steps {t : Int} (hs : gS A t = some (.inl 5)) (hr : sr A t) : mj_Cal G n_K_steps [mR (some t)] A (fun r A' => r = some (mI (pc_m (gI A t 1) (gI A t 2) (gI A t 3) (gI A t 4))) ∧ A' = A) mj_no := by
  refine mj_bodyK 0 0 [some (mR (some t))] rfl rfl rfl (by decide +kernel) (Nat.le_of_ble_eq_true rfl) (by simp) rfl ?_
  unfold sr at hr
  refine mx_R fun hR => ?_
  refine mx_aload_n 0 d_K_steps_0 rfl rfl ?_
  refine mx_getI 3 d_K_steps_1 f_K_16 rfl rfl (hs) ?_
  refine mx_aload_n 0 d_K_steps_4 rfl rfl ?_
  refine mx_getI 1 d_K_steps_5 f_K_7 rfl rfl (hs) ?_
  refine mx_isub d_K_steps_8 ?_
  refine mx_abs d_K_steps_9 s_K_31 (Nat.le_of_ble_eq_true rfl) (mj_wt_13 (Nat.le_of_ble_eq_true rfl)) (by first | assumption | exact hR _ _ | exact r32_mk (by omega) (by omega)) ?_
  refine mx_aload_n 0 d_K_steps_12 rfl rfl ?_
  refine mx_getI 4 d_K_steps_13 f_K_19 rfl rfl (hs) ?_
  refine mx_aload_n 0 d_K_steps_16 rfl rfl ?_
  refine mx_getI 2 d_K_steps_17 f_K_13 rfl rfl (hs) ?_
  refine mx_isub d_K_steps_20 ?_
  refine mx_abs d_K_steps_21 s_K_31 (Nat.le_of_ble_eq_true rfl) (mj_wt_13 (Nat.le_of_ble_eq_true rfl)) (by first | assumption | exact hR _ _ | exact r32_mk (by omega) (by omega)) ?_
  refine mx_max d_K_steps_24 s_K_37 (Nat.le_of_ble_eq_true rfl) (mj_wt_13 (Nat.le_of_ble_eq_true rfl)) (by first | assumption | exact hR _ _ | exact r32_mk (by omega) (by omega)) (by first | assumption | exact hR _ _ | exact r32_mk (by omega) (by omega)) ?_
  refine mx_iret d_K_steps_27 rfl ?_
  refine ⟨congrArg (fun z => some (mI z)) ?_, rfl⟩
  unfold pc_m pc_ab
  grind
theorem pc_p_iff {a b c e x y j : Int} (h1 : 0 ≤ a ∧ a < 16) (h3 : 0 ≤ c ∧ c < 16) (hj : 0 ≤ j ∧ j ≤ pc_m a b c e) (hx : 0 ≤ x ∧ x < 16) : pc_p a b c e j = 16 * y + x ↔ mj_pw a c j (pc_m a b c e) = x ∧ mj_pw b e j (pc_m a b c e) = y := by
  have e1 := pc_pw_r (lo := 0) (hi := 15) hj (a := a) (b := c) (by omega) (by omega)
  unfold pc_p
  omega
theorem pc_m_b {a b c e : Int} (h1 : 0 ≤ a ∧ a < 16) (h2 : 0 ≤ b ∧ b < 12) (h3 : 0 ≤ c ∧ c < 16) (h4 : 0 ≤ e ∧ e < 12) : 0 ≤ pc_m a b c e ∧ pc_m a b c e ≤ 15 := by
  unfold pc_m pc_ab
  grind
theorem ct_covers {t x y : Int} (hs : gS A t = some (.inl 5)) (hr : sr A t) (hx : 0 ≤ x ∧ x < 16) (hy : 0 ≤ y ∧ y < 12) : mj_Cal G n_K_covers [mR (some t), mI x, mI y] A (fun r A' => r = some (mI (if (pc_cov (gI A t 1) (gI A t 2) (gI A t 3) (gI A t 4) (16 * y + x)) = true then 1 else 0)) ∧ A' = A) mj_no := by
  refine mj_bodyK 0 0 [some (mR (some t)), some (mI x), some (mI y), none, none] rfl rfl rfl (by decide +kernel) (Nat.le_of_ble_eq_true rfl) (by simp) rfl ?_
  have hr0 := hr
  unfold sr at hr
  have hm := pc_m_b hr.1 hr.2.1 hr.2.2.1 hr.2.2.2
  have hl : ∀ q : Int, ((0 ≤ q ∧ q ≤ (pc_m (gI A t 1) (gI A t 2) (gI A t 3) (gI A t 4)) + 1) ∧ ∀ i, 0 ≤ i → i < q → pc_p (gI A t 1) (gI A t 2) (gI A t 3) (gI A t 4) i ≠ 16 * y + x) → mj_X G n_K_covers (mj_Qm G n_K_covers (fun r A' => r = some (mI (if (pc_cov (gI A t 1) (gI A t 2) (gI A t 3) (gI A t 4) (16 * y + x)) = true then 1 else 0)) ∧ A' = A) mj_no) A 0 0 8 [some (mR (some t)), some (mI x), some (mI y), some (mI (pc_m (gI A t 1) (gI A t 2) (gI A t 3) (gI A t 4))), some (mI q)] [] := by
    refine mj_loop _ (fun q => (17 - q).toNat) _ ?_
    intro q ⟨hq, hi⟩ ih
    have hpi : q ≤ (pc_m (gI A t 1) (gI A t 2) (gI A t 3) (gI A t 4)) → (pc_p (gI A t 1) (gI A t 2) (gI A t 3) (gI A t 4) q = 16 * y + x ↔ _) := fun h => pc_p_iff hr.1 hr.2.2.1 ⟨hq.1, h⟩ hx
    have w1 : q ≤ (pc_m (gI A t 1) (gI A t 2) (gI A t 3) (gI A t 4)) → _ := fun h => pc_pw_r (lo := 0) (hi := 15) (n := q) (d := (pc_m (gI A t 1) (gI A t 2) (gI A t 3) (gI A t 4))) ⟨hq.1, h⟩ (a := gI A t 1) (b := gI A t 3) (by omega) (by omega)
    have w2 : q ≤ (pc_m (gI A t 1) (gI A t 2) (gI A t 3) (gI A t 4)) → _ := fun h => pc_pw_r (lo := 0) (hi := 15) (n := q) (d := (pc_m (gI A t 1) (gI A t 2) (gI A t 3) (gI A t 4))) ⟨hq.1, h⟩ (a := gI A t 2) (b := gI A t 4) (by omega) (by omega)
    have nx : q ≤ (pc_m (gI A t 1) (gI A t 2) (gI A t 3) (gI A t 4)) → ¬ (mj_pw (gI A t 1) (gI A t 3) q (pc_m (gI A t 1) (gI A t 2) (gI A t 3) (gI A t 4)) = x ∧ mj_pw (gI A t 2) (gI A t 4) q (pc_m (gI A t 1) (gI A t 2) (gI A t 3) (gI A t 4)) = y) → mj_X G n_K_covers (mj_Qm G n_K_covers (fun r A' => r = some (mI (if (pc_cov (gI A t 1) (gI A t 2) (gI A t 3) (gI A t 4) (16 * y + x)) = true then 1 else 0)) ∧ A' = A) mj_no) A 0 0 8 [some (mR (some t)), some (mI x), some (mI y), some (mI (pc_m (gI A t 1) (gI A t 2) (gI A t 3) (gI A t 4))), some (mI (q + 1))] [] := fun h1 h2 => ih (q + 1) ⟨⟨by omega, by omega⟩, fun i i0 i1 => by
      by_cases e : i = q
      · rw [e]
        exact fun h3 => h2 ((hpi h1).mp h3)
      · exact hi i i0 (by omega)⟩ (by omega)
    refine mx_R fun hR => ?_
    refine mx_iload 4 d_K_covers_8 rfl ?_
    refine mx_iload_n 3 d_K_covers_10 rfl rfl ?_
    refine mx_icmp_gt 58 d_K_covers_11 rfl (by first | assumption | exact hR _ _ | exact r32_mk (by omega) (by omega)) (by first | assumption | exact hR _ _ | exact r32_mk (by omega) (by omega)) (fun c_11 => ?_) (fun c_11 => ?_)
    · refine mx_iconst d_K_covers_58 ?_
      refine mx_zret d_K_covers_59 rfl (by first | exact Or.inl rfl | exact Or.inr rfl | omega) ?_
      have h9 : ¬ (pc_cov (gI A t 1) (gI A t 2) (gI A t 3) (gI A t 4) (16 * y + x)) = true := fun h => by
        obtain ⟨i, i0, i1, i2⟩ := (mj_any_iff _).mp h
        rw [decide_eq_true_iff] at i2
        exact hi i i0 (by omega) i2
      rw [if_neg h9]
      exact ⟨rfl, rfl⟩
    · have w1 := w1 (by omega)
      have w2 := w2 (by omega)
      refine mx_aload_n 0 d_K_covers_14 rfl rfl ?_
      refine mx_getI 1 d_K_covers_15 f_K_7 rfl rfl (hs) ?_
      refine mx_aload_n 0 d_K_covers_18 rfl rfl ?_
      refine mx_getI 3 d_K_covers_19 f_K_16 rfl rfl (hs) ?_
      refine mx_iload 4 d_K_covers_22 rfl ?_
      refine mx_iload_n 3 d_K_covers_24 rfl rfl ?_
      refine mx_callSN (kc := 0) (ks := 0) (N := n_H_partWay) (as := [_, _, _, _]) d_K_covers_25 s_K_25 ⟨Nat.le_of_ble_eq_true rfl, Nat.le_of_ble_eq_true rfl⟩ rfl (mj_wt_8 (Nat.le_of_ble_eq_true rfl)) (ct_partWay (r32_mk (by omega) (by omega)) (pw_m (by omega) (by omega) (by omega))) (fun r_25 A_25 h_25 => ?_)
      obtain ⟨rfl, hA_25⟩ := h_25
      obtain rfl := hA_25.symm
      clear hA_25
      refine mx_R fun hR_1 => ?_
      refine mx_iload_n 1 d_K_covers_28 rfl rfl ?_
      refine mx_icmp_ne 52 d_K_covers_29 rfl (by first | assumption | exact hR_1 _ _ | exact hR _ _ | exact r32_mk (by omega) (by omega)) (by first | assumption | exact hR_1 _ _ | exact hR _ _ | exact r32_mk (by omega) (by omega)) (fun c_29 => ?_) (fun c_29 => ?_)
      · refine mx_iinc 4 d_K_covers_52 rfl (Nat.le_of_ble_eq_true rfl) ?_
        refine mx_goto 8 d_K_covers_55 rfl ?_
        exact nx (by omega) (by omega)
      · refine mx_aload_n 0 d_K_covers_32 rfl rfl ?_
        refine mx_getI 2 d_K_covers_33 f_K_13 rfl rfl (hs) ?_
        refine mx_aload_n 0 d_K_covers_36 rfl rfl ?_
        refine mx_getI 4 d_K_covers_37 f_K_19 rfl rfl (hs) ?_
        refine mx_iload 4 d_K_covers_40 rfl ?_
        refine mx_iload_n 3 d_K_covers_42 rfl rfl ?_
        refine mx_callSN (kc := 0) (ks := 0) (N := n_H_partWay) (as := [_, _, _, _]) d_K_covers_43 s_K_25 ⟨Nat.le_of_ble_eq_true rfl, Nat.le_of_ble_eq_true rfl⟩ rfl (mj_wt_8 (Nat.le_of_ble_eq_true rfl)) (ct_partWay (r32_mk (by omega) (by omega)) (pw_m (by omega) (by omega) (by omega))) (fun r_43 A_43 h_43 => ?_)
        obtain ⟨rfl, hA_43⟩ := h_43
        obtain rfl := hA_43.symm
        clear hA_43
        refine mx_R fun hR_2 => ?_
        refine mx_iload_n 2 d_K_covers_46 rfl rfl ?_
        refine mx_icmp_ne 52 d_K_covers_47 rfl (by first | assumption | exact hR_2 _ _ | exact hR_1 _ _ | exact hR _ _ | exact r32_mk (by omega) (by omega)) (by first | assumption | exact hR_2 _ _ | exact hR_1 _ _ | exact hR _ _ | exact r32_mk (by omega) (by omega)) (fun c_47 => ?_) (fun c_47 => ?_)
        · refine mx_iinc 4 d_K_covers_52 rfl (Nat.le_of_ble_eq_true rfl) ?_
          refine mx_goto 8 d_K_covers_55 rfl ?_
          exact nx (by omega) (by omega)
        · refine mx_iconst d_K_covers_50 ?_
          refine mx_zret d_K_covers_51 rfl (by first | exact Or.inl rfl | exact Or.inr rfl | omega) ?_
          have h9 : (pc_cov (gI A t 1) (gI A t 2) (gI A t 3) (gI A t 4) (16 * y + x)) = true := (mj_any_iff _).mpr ⟨q, hq.1, by omega, by rw [decide_eq_true_iff]; exact (hpi (by omega)).mpr ⟨by assumption, by assumption⟩⟩
          rw [if_pos h9]
          exact ⟨rfl, rfl⟩
  refine mx_R fun hR => ?_
  refine mx_aload_n 0 d_K_covers_0 rfl rfl ?_
  refine mx_callV (kc := 0) (ks := 0) (N := n_K_steps) (as := []) (ci := 5) d_K_covers_1 s_K_41 ⟨Nat.le_of_ble_eq_true rfl, Nat.le_of_ble_eq_true rfl⟩ rfl (mj_wt_8 (Nat.le_of_ble_eq_true rfl)) (hs) ⟨_, rfl, rfl⟩ (ct_steps hs hr0) (fun r_1 A_1 h_1 => ?_) (fun E_1 A_x h_1 => ?_)
  rotate_left
  · exact h_1.elim
  obtain ⟨rfl, hA_1⟩ := h_1
  obtain rfl := hA_1.symm
  clear hA_1
  refine mx_R fun hR_1 => ?_
  refine mx_istore_n 3 d_K_covers_4 rfl (Nat.le_of_ble_eq_true rfl) ?_
  refine mx_iconst d_K_covers_5 ?_
  refine mx_istore 4 d_K_covers_6 (Nat.le_of_ble_eq_true rfl) ?_
  exact hl 0 ⟨⟨by omega, by omega⟩, fun i i0 i1 => by omega⟩
end CLS1
