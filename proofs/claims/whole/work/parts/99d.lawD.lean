/-! THE LAW, 10: its cases -/
section LAWD
variable {G : mj_G} {A : mj_M}
theorem lw_shoot {n : Nat} {X : Int → Int} {i : Int} {Q : mj_Q} {o5 o6 : Option mj_V} (hJ : JE X A) (hi : 0 ≤ i ∧ i + 6 ≤ X (-1)) (hX : X (-1) ≤ 3072) (htail : ∀ A2 o5 o6, JE X A2 → mj_X G n_L_law Q A2 (20 * n) (4767 * n) 2565 [some (mR (some 50)), some (mR (some 100)), some (mR (some 200)), some (mR (some 140)), some (mI i), o5, o6] []) : mj_X G n_L_law Q A (20 * (n + 1)) (4767 * (n + 1)) 1449 [some (mR (some 50)), some (mR (some 100)), some (mR (some 200)), some (mR (some 140)), some (mI i), o5, o6] [] := by
  obtain ⟨C, h⟩ := hJ
  have hs := h.s
  have hx := h.x
  have hlen : gI A 50 (-1) = X (-1) := by rw [hx]
  have hns := h.j.m.g.ns
  refine mx_R fun hRA => ?_
  refine mx_less (kc' := 20 * n + 1) (ks' := 4767 * n + 6) (by omega) (by omega) ?_
  refine mx_R fun hR => ?_
  refine mx_aload_n 1 d_L_law_1449 rfl rfl ?_
  refine mx_aload_n 0 d_L_law_1450 rfl rfl ?_
  refine mx_iload 4 d_L_law_1451 rfl ?_
  refine mx_iconst d_L_law_1453 ?_
  refine mx_iadd d_L_law_1454 ?_
  refine mx_sald d_L_law_1455 hs (by omega) (by rw [hlen]; omega) ?_
  refine mx_aload_n 3 d_L_law_1456 rfl rfl ?_
  refine mx_callSH (kc := 20 * n) (ks := 4767 * n) (N := n_L_shoot) (as := [_, _, _]) d_L_law_1457 s_L_193 ⟨Nat.le_of_ble_eq_true rfl, Nat.le_of_ble_eq_true rfl⟩ rfl (mj_wt_8 (Nat.le_of_ble_eq_true rfl)) (js_shoot h (hRA 50 _)) (fun r A1 hr => ?_) (fun E A_x h => h.elim)
  obtain ⟨kk, rfl, hkk, ⟨hs1, hx1, hm1⟩, hM⟩ := hr
  have hlen1 : gI A1 50 (-1) = X (-1) := by rw [hx1]
  have hA1x : gI A1 50 = gI A 50 := hx1.trans hx.symm
  refine mx_R fun hR => ?_
  refine mx_istore 5 d_L_law_1460 (Nat.le_of_ble_eq_true rfl) ?_
  refine mx_aload_n 2 d_L_law_1462 rfl rfl ?_
  refine mx_aload_n 0 d_L_law_1463 rfl rfl ?_
  refine mx_iload 4 d_L_law_1464 rfl ?_
  refine mx_iconst d_L_law_1466 ?_
  refine mx_iadd d_L_law_1467 ?_
  refine mx_sald d_L_law_1468 hs1 (by omega) (by rw [hlen1]; omega) ?_
  rw [hA1x]
  refine mx_callV (kc := 20*n) (ks := 4767*n) (N := n_M_shoot) (as := [_]) (ci := 7) d_L_law_1469 s_L_195 ⟨Nat.le_of_ble_eq_true rfl, Nat.le_of_ble_eq_true rfl⟩ rfl (mj_wt_8 (Nat.le_of_ble_eq_true rfl)) (hm1) ⟨_, rfl, rfl⟩ (hM) (fun r_1469 A_1469 h_1469 => ?_) (fun E_1469 A_x h_1469 => ?_)
  rotate_left
  · exact h_1469.elim
  obtain ⟨v, rfl, h0, hout, C2, h2⟩ := h_1469
  refine mx_R fun hR_1 => ?_
  refine mx_istore 6 d_L_law_1472 (Nat.le_of_ble_eq_true rfl) ?_
  refine mx_aload_n 2 d_L_law_1474 rfl rfl ?_
  refine mx_callV (kc := 20*n) (ks := 4767*n) (N := n_M_thrown) (as := []) (ci := 7) d_L_law_1475 s_L_134 ⟨Nat.le_of_ble_eq_true rfl, Nat.le_of_ble_eq_true rfl⟩ rfl (mj_wt_8 (Nat.le_of_ble_eq_true rfl)) (h2.j.m.M.o) ⟨_, rfl, rfl⟩ (cm_thrown h2.j.m.M) (fun r_1475 A_1475 h_1475 => ?_) (fun E_1475 A_x h_1475 => ?_)
  rotate_left
  · exact h_1475.elim
  obtain ⟨rfl, hA_1475⟩ := h_1475
  obtain rfl := hA_1475.symm
  clear hA_1475
  refine mx_R fun hR_2 => ?_
  refine mx_iload 5 d_L_law_1478 rfl ?_
  refine mx_icmp_eq 1485 d_L_law_1480 rfl (by first | assumption | exact hR_2 _ _ | exact hR_1 _ _ | exact hR _ _ | exact r32_mk (by omega) (by omega)) (by first | assumption | exact hR_2 _ _ | exact hR_1 _ _ | exact hR _ _ | exact r32_mk (by omega) (by omega)) (fun c_1480 => ?_) (fun c_1480 => ?_)
  · refine mx_iload 5 d_L_law_1485 rfl ?_
    refine mx_if_ne 1502 d_L_law_1487 rfl (by first | assumption | exact hR_2 _ _ | exact hR_1 _ _ | exact hR _ _ | exact r32_mk (by omega) (by omega)) (fun c_1487 => ?_) (fun c_1487 => ?_)
    · refine mx_goto 2565 d_L_law_1502 rfl ?_
      exact htail _ _ _ ⟨C2, h2⟩
    · refine mx_aload_n 3 d_L_law_1490 rfl rfl ?_
      refine mx_iconst d_L_law_1491 ?_
      refine mx_lald d_L_law_1492 (h2.j.y.o) (by omega) (by omega) ?_
      refine mx_iload 6 d_L_law_1493 rfl ?_
      have hnr := nr_r v
      refine mx_nrm ?_
      refine mx_i2l d_L_law_1495 (by first | assumption | exact hR_2 _ _ | exact hR_1 _ _ | exact hR _ _ | exact r32_mk (by omega) (by omega)) ?_
      refine mx_lcmp d_L_law_1496 (by first | assumption | exact hR_2 _ _ | exact hR_1 _ _ | exact hR _ _ | exact r32_mk (by omega) (by omega)) (by first | assumption | exact hR_2 _ _ | exact hR_1 _ _ | exact hR _ _ | exact r32_mk (by omega) (by omega)) ?_
      refine mx_if_eq 1502 d_L_law_1497 rfl (by first | assumption | exact hR_2 _ _ | exact hR_1 _ _ | exact hR _ _ | exact r32_mk (by omega) (by omega)) (fun c_1497 => ?_) (fun c_1497 => ?_)
      · refine mx_goto 2565 d_L_law_1502 rfl ?_
        exact htail _ _ _ ⟨C2, h2⟩
      · exact absurd (by rw [hout (by assumption), if_neg (Int.lt_irrefl _), if_pos rfl]) c_1497
  · exact absurd h0 (by assumption)
theorem lw_hand {n : Nat} {X : Int → Int} {i : Int} {Q : mj_Q} {o5 o6 : Option mj_V} (hJ : JE X A) (hi : 0 ≤ i ∧ i + 6 ≤ X (-1)) (hX : X (-1) ≤ 3072) (htail : ∀ A2 o5 o6, JE X A2 → mj_X G n_L_law Q A2 (20 * n) (4767 * n) 2565 [some (mR (some 50)), some (mR (some 100)), some (mR (some 200)), some (mR (some 140)), some (mI i), o5, o6] []) : mj_X G n_L_law Q A (20 * (n + 1)) (4767 * (n + 1)) 1505 [some (mR (some 50)), some (mR (some 100)), some (mR (some 200)), some (mR (some 140)), some (mI i), o5, o6] [] := by
  obtain ⟨C, h⟩ := hJ
  have hs := h.s
  have hx := h.x
  have hlen : gI A 50 (-1) = X (-1) := by rw [hx]
  have hns := h.j.m.g.ns
  refine mx_R fun hRA => ?_
  refine mx_less (kc' := 20 * n + 2) (ks' := 4767 * n + 12) (by omega) (by omega) ?_
  refine mx_R fun hR => ?_
  refine mx_aload_n 1 d_L_law_1505 rfl rfl ?_
  refine mx_aload_n 0 d_L_law_1506 rfl rfl ?_
  refine mx_iload 4 d_L_law_1507 rfl ?_
  refine mx_iconst d_L_law_1509 ?_
  refine mx_iadd d_L_law_1510 ?_
  refine mx_sald d_L_law_1511 hs (by omega) (by rw [hlen]; omega) ?_
  refine mx_aload_n 3 d_L_law_1512 rfl rfl ?_
  refine mx_callSH (kc := 20 * n) (ks := 4767 * n) (N := n_L_hand) (as := [_, _, _]) d_L_law_1513 s_L_196 ⟨Nat.le_of_ble_eq_true rfl, Nat.le_of_ble_eq_true rfl⟩ rfl (mj_wt_8 (Nat.le_of_ble_eq_true rfl)) (js_hand h (hRA 50 _)) (fun r A1 hr => ?_) (fun E A_x h => h.elim)
  obtain ⟨kk, rfl, hkk, ⟨hs1, hx1, hm1⟩, hM⟩ := hr
  have hlen1 : gI A1 50 (-1) = X (-1) := by rw [hx1]
  have hA1x : gI A1 50 = gI A 50 := hx1.trans hx.symm
  refine mx_R fun hR => ?_
  refine mx_istore 5 d_L_law_1516 (Nat.le_of_ble_eq_true rfl) ?_
  refine mx_aload_n 2 d_L_law_1518 rfl rfl ?_
  refine mx_aload_n 0 d_L_law_1519 rfl rfl ?_
  refine mx_iload 4 d_L_law_1520 rfl ?_
  refine mx_iconst d_L_law_1522 ?_
  refine mx_iadd d_L_law_1523 ?_
  refine mx_sald d_L_law_1524 hs1 (by omega) (by rw [hlen1]; omega) ?_
  rw [hA1x]
  refine mx_callV (kc := 20*n) (ks := 4767*n) (N := n_M_hand) (as := [_]) (ci := 7) d_L_law_1525 s_L_198 ⟨Nat.le_of_ble_eq_true rfl, Nat.le_of_ble_eq_true rfl⟩ rfl (mj_wt_8 (Nat.le_of_ble_eq_true rfl)) (hm1) ⟨_, rfl, rfl⟩ (hM) (fun r_1525 A_1525 h_1525 => ?_) (fun E_1525 A_x h_1525 => ?_)
  rotate_left
  · exact h_1525.elim
  obtain ⟨v, rfl, h0, hout, C2, h2⟩ := h_1525
  refine mx_R fun hR_1 => ?_
  refine mx_istore 6 d_L_law_1528 (Nat.le_of_ble_eq_true rfl) ?_
  refine mx_aload_n 2 d_L_law_1530 rfl rfl ?_
  refine mx_callV (kc := 20*n) (ks := 4767*n) (N := n_M_thrown) (as := []) (ci := 7) d_L_law_1531 s_L_134 ⟨Nat.le_of_ble_eq_true rfl, Nat.le_of_ble_eq_true rfl⟩ rfl (mj_wt_8 (Nat.le_of_ble_eq_true rfl)) (h2.j.m.M.o) ⟨_, rfl, rfl⟩ (cm_thrown h2.j.m.M) (fun r_1531 A_1531 h_1531 => ?_) (fun E_1531 A_x h_1531 => ?_)
  rotate_left
  · exact h_1531.elim
  obtain ⟨rfl, hA_1531⟩ := h_1531
  obtain rfl := hA_1531.symm
  clear hA_1531
  refine mx_R fun hR_2 => ?_
  refine mx_iload 5 d_L_law_1534 rfl ?_
  refine mx_icmp_eq 1541 d_L_law_1536 rfl (by first | assumption | exact hR_2 _ _ | exact hR_1 _ _ | exact hR _ _ | exact r32_mk (by omega) (by omega)) (by first | assumption | exact hR_2 _ _ | exact hR_1 _ _ | exact hR _ _ | exact r32_mk (by omega) (by omega)) (fun c_1536 => ?_) (fun c_1536 => ?_)
  · refine mx_iload 5 d_L_law_1541 rfl ?_
    refine mx_if_ne 1558 d_L_law_1543 rfl (by first | assumption | exact hR_2 _ _ | exact hR_1 _ _ | exact hR _ _ | exact r32_mk (by omega) (by omega)) (fun c_1543 => ?_) (fun c_1543 => ?_)
    · refine mx_goto 2565 d_L_law_1558 rfl ?_
      exact htail _ _ _ ⟨C2, h2⟩
    · refine mx_aload_n 3 d_L_law_1546 rfl rfl ?_
      refine mx_iconst d_L_law_1547 ?_
      refine mx_lald d_L_law_1548 (h2.j.y.o) (by omega) (by omega) ?_
      refine mx_iload 6 d_L_law_1549 rfl ?_
      have hnr := nr_r v
      refine mx_nrm ?_
      refine mx_i2l d_L_law_1551 (by first | assumption | exact hR_2 _ _ | exact hR_1 _ _ | exact hR _ _ | exact r32_mk (by omega) (by omega)) ?_
      refine mx_lcmp d_L_law_1552 (by first | assumption | exact hR_2 _ _ | exact hR_1 _ _ | exact hR _ _ | exact r32_mk (by omega) (by omega)) (by first | assumption | exact hR_2 _ _ | exact hR_1 _ _ | exact hR _ _ | exact r32_mk (by omega) (by omega)) ?_
      refine mx_if_eq 1558 d_L_law_1553 rfl (by first | assumption | exact hR_2 _ _ | exact hR_1 _ _ | exact hR _ _ | exact r32_mk (by omega) (by omega)) (fun c_1553 => ?_) (fun c_1553 => ?_)
      · refine mx_goto 2565 d_L_law_1558 rfl ?_
        exact htail _ _ _ ⟨C2, h2⟩
      · exact absurd (by rw [hout (by assumption), if_neg (Int.lt_irrefl _), if_pos rfl]) c_1553
  · exact absurd h0 (by assumption)
theorem lw_splice {n : Nat} {X : Int → Int} {i : Int} {Q : mj_Q} {o5 o6 : Option mj_V} (hJ : JE X A) (hi : 0 ≤ i ∧ i + 6 ≤ X (-1)) (hX : X (-1) ≤ 3072) (htail : ∀ A2 o5 o6, JE X A2 → mj_X G n_L_law Q A2 (20 * n) (4767 * n) 2565 [some (mR (some 50)), some (mR (some 100)), some (mR (some 200)), some (mR (some 140)), some (mI i), o5, o6] []) : mj_X G n_L_law Q A (20 * (n + 1)) (4767 * (n + 1)) 1561 [some (mR (some 50)), some (mR (some 100)), some (mR (some 200)), some (mR (some 140)), some (mI i), o5, o6] [] := by
  obtain ⟨C, h⟩ := hJ
  have hs := h.s
  have hx := h.x
  have hlen : gI A 50 (-1) = X (-1) := by rw [hx]
  have hns := h.j.m.g.ns
  refine mx_R fun hRA => ?_
  refine mx_less (kc' := 20 * n + 2) (ks' := 4767 * n + 12) (by omega) (by omega) ?_
  refine mx_R fun hR => ?_
  refine mx_aload_n 1 d_L_law_1561 rfl rfl ?_
  refine mx_aload_n 0 d_L_law_1562 rfl rfl ?_
  refine mx_iload 4 d_L_law_1563 rfl ?_
  refine mx_iconst d_L_law_1565 ?_
  refine mx_iadd d_L_law_1566 ?_
  refine mx_sald d_L_law_1567 hs (by omega) (by rw [hlen]; omega) ?_
  refine mx_aload_n 3 d_L_law_1568 rfl rfl ?_
  refine mx_callSH (kc := 20 * n) (ks := 4767 * n) (N := n_L_splice) (as := [_, _, _]) d_L_law_1569 s_L_199 ⟨Nat.le_of_ble_eq_true rfl, Nat.le_of_ble_eq_true rfl⟩ rfl (mj_wt_8 (Nat.le_of_ble_eq_true rfl)) (js_splice h (hRA 50 _)) (fun r A1 hr => ?_) (fun E A_x h => h.elim)
  obtain ⟨kk, rfl, hkk, ⟨hs1, hx1, hm1⟩, hM⟩ := hr
  have hlen1 : gI A1 50 (-1) = X (-1) := by rw [hx1]
  have hA1x : gI A1 50 = gI A 50 := hx1.trans hx.symm
  refine mx_R fun hR => ?_
  refine mx_istore 5 d_L_law_1572 (Nat.le_of_ble_eq_true rfl) ?_
  refine mx_aload_n 2 d_L_law_1574 rfl rfl ?_
  refine mx_aload_n 0 d_L_law_1575 rfl rfl ?_
  refine mx_iload 4 d_L_law_1576 rfl ?_
  refine mx_iconst d_L_law_1578 ?_
  refine mx_iadd d_L_law_1579 ?_
  refine mx_sald d_L_law_1580 hs1 (by omega) (by rw [hlen1]; omega) ?_
  rw [hA1x]
  refine mx_callV (kc := 20*n) (ks := 4767*n) (N := n_M_splice) (as := [_]) (ci := 7) d_L_law_1581 s_L_201 ⟨Nat.le_of_ble_eq_true rfl, Nat.le_of_ble_eq_true rfl⟩ rfl (mj_wt_8 (Nat.le_of_ble_eq_true rfl)) (hm1) ⟨_, rfl, rfl⟩ (hM) (fun r_1581 A_1581 h_1581 => ?_) (fun E_1581 A_x h_1581 => ?_)
  rotate_left
  · exact h_1581.elim
  obtain ⟨v, rfl, h0, hout, C2, h2⟩ := h_1581
  refine mx_R fun hR_1 => ?_
  refine mx_istore 6 d_L_law_1584 (Nat.le_of_ble_eq_true rfl) ?_
  refine mx_aload_n 2 d_L_law_1586 rfl rfl ?_
  refine mx_callV (kc := 20*n) (ks := 4767*n) (N := n_M_thrown) (as := []) (ci := 7) d_L_law_1587 s_L_134 ⟨Nat.le_of_ble_eq_true rfl, Nat.le_of_ble_eq_true rfl⟩ rfl (mj_wt_8 (Nat.le_of_ble_eq_true rfl)) (h2.j.m.M.o) ⟨_, rfl, rfl⟩ (cm_thrown h2.j.m.M) (fun r_1587 A_1587 h_1587 => ?_) (fun E_1587 A_x h_1587 => ?_)
  rotate_left
  · exact h_1587.elim
  obtain ⟨rfl, hA_1587⟩ := h_1587
  obtain rfl := hA_1587.symm
  clear hA_1587
  refine mx_R fun hR_2 => ?_
  refine mx_iload 5 d_L_law_1590 rfl ?_
  refine mx_icmp_eq 1597 d_L_law_1592 rfl (by first | assumption | exact hR_2 _ _ | exact hR_1 _ _ | exact hR _ _ | exact r32_mk (by omega) (by omega)) (by first | assumption | exact hR_2 _ _ | exact hR_1 _ _ | exact hR _ _ | exact r32_mk (by omega) (by omega)) (fun c_1592 => ?_) (fun c_1592 => ?_)
  · refine mx_iload 5 d_L_law_1597 rfl ?_
    refine mx_if_ne 1614 d_L_law_1599 rfl (by first | assumption | exact hR_2 _ _ | exact hR_1 _ _ | exact hR _ _ | exact r32_mk (by omega) (by omega)) (fun c_1599 => ?_) (fun c_1599 => ?_)
    · refine mx_goto 2565 d_L_law_1614 rfl ?_
      exact htail _ _ _ ⟨C2, h2⟩
    · refine mx_aload_n 3 d_L_law_1602 rfl rfl ?_
      refine mx_iconst d_L_law_1603 ?_
      refine mx_lald d_L_law_1604 (h2.j.y.o) (by omega) (by omega) ?_
      refine mx_iload 6 d_L_law_1605 rfl ?_
      have hnr := nr_r v
      refine mx_nrm ?_
      refine mx_i2l d_L_law_1607 (by first | assumption | exact hR_2 _ _ | exact hR_1 _ _ | exact hR _ _ | exact r32_mk (by omega) (by omega)) ?_
      refine mx_lcmp d_L_law_1608 (by first | assumption | exact hR_2 _ _ | exact hR_1 _ _ | exact hR _ _ | exact r32_mk (by omega) (by omega)) (by first | assumption | exact hR_2 _ _ | exact hR_1 _ _ | exact hR _ _ | exact r32_mk (by omega) (by omega)) ?_
      refine mx_if_eq 1614 d_L_law_1609 rfl (by first | assumption | exact hR_2 _ _ | exact hR_1 _ _ | exact hR _ _ | exact r32_mk (by omega) (by omega)) (fun c_1609 => ?_) (fun c_1609 => ?_)
      · refine mx_goto 2565 d_L_law_1614 rfl ?_
        exact htail _ _ _ ⟨C2, h2⟩
      · exact absurd (by rw [hout (by assumption), if_neg (Int.lt_irrefl _), if_pos rfl]) c_1609
  · exact absurd h0 (by assumption)
theorem lw_cut {n : Nat} {X : Int → Int} {i : Int} {Q : mj_Q} {o5 o6 : Option mj_V} (hJ : JE X A) (hi : 0 ≤ i ∧ i + 6 ≤ X (-1)) (hX : X (-1) ≤ 3072) (htail : ∀ A2 o5 o6, JE X A2 → mj_X G n_L_law Q A2 (20 * n) (4767 * n) 2565 [some (mR (some 50)), some (mR (some 100)), some (mR (some 200)), some (mR (some 140)), some (mI i), o5, o6] []) : mj_X G n_L_law Q A (20 * (n + 1)) (4767 * (n + 1)) 1617 [some (mR (some 50)), some (mR (some 100)), some (mR (some 200)), some (mR (some 140)), some (mI i), o5, o6] [] := by
  obtain ⟨C, h⟩ := hJ
  have hs := h.s
  have hx := h.x
  have hlen : gI A 50 (-1) = X (-1) := by rw [hx]
  have hns := h.j.m.g.ns
  refine mx_R fun hRA => ?_
  refine mx_less (kc' := 20 * n + 0) (ks' := 4767 * n + 0) (by omega) (by omega) ?_
  refine mx_R fun hR => ?_
  refine mx_aload_n 1 d_L_law_1617 rfl rfl ?_
  refine mx_callV (kc := 20*n) (ks := 4767*n) (N := n_H_cut) (as := []) (ci := 6) d_L_law_1618 s_L_202 ⟨Nat.le_of_ble_eq_true rfl, Nat.le_of_ble_eq_true rfl⟩ rfl (mj_wt_8 (Nat.le_of_ble_eq_true rfl)) (h.j.x.H.o) ⟨_, rfl, rfl⟩ (ct_cut h.j) (fun r_1618 A_1618 h_1618 => ?_) (fun E_1618 A_x h_1618 => ?_)
  rotate_left
  · exact h_1618.elim
  obtain ⟨rfl, hA_1618⟩ := h_1618
  obtain rfl := hA_1618.symm
  clear hA_1618
  refine mx_R fun hR_1 => ?_
  have hn1 := nr_r (mo_fl A)
  refine mx_nrm ?_
  refine mx_aload_n 2 d_L_law_1621 rfl rfl ?_
  refine mx_callV (kc := 20*n) (ks := 4767*n) (N := n_M_cut) (as := []) (ci := 7) d_L_law_1622 s_L_205 ⟨Nat.le_of_ble_eq_true rfl, Nat.le_of_ble_eq_true rfl⟩ rfl (mj_wt_8 (Nat.le_of_ble_eq_true rfl)) (h.j.m.M.o) ⟨_, rfl, rfl⟩ (cm_cut (A := sI A 100 13 0) h.j.m.M h.j.m.g h.j.m.nf h.j.m.rl) (fun r_1622 A_1622 h_1622 => ?_) (fun E_1622 A_x h_1622 => ?_)
  rotate_left
  · exact h_1622.elim
  obtain ⟨rfl, hA2⟩ := h_1622
  refine mx_R fun hR_2 => ?_
  rw [show mo_fl (sI A 100 13 0) = mo_fl A from rfl]
  refine mx_nrm ?_
  refine mx_icmp_eq 2565 d_L_law_1625 rfl (by first | assumption | exact hR_2 _ _ | exact hR_1 _ _ | exact hR _ _ | exact r32_mk (by omega) (by omega)) (by first | assumption | exact hR_2 _ _ | exact hR_1 _ _ | exact hR _ _ | exact r32_mk (by omega) (by omega)) (fun c_1625 => ?_) (fun c_1625 => ?_)
  · exact htail _ _ _ ⟨C, jt_cut h (fun c => by rw [hA2]; rfl) (fun c i => by rw [hA2]; rfl) (fun c i hc => by rw [hA2]; simp only [gI_sI]; (repeat (first | rw [if_neg (by omega)] | rw [if_pos (by omega)]))) (by rw [hA2]; rfl) (by rw [hA2]; rfl)⟩
  · exact absurd rfl (by assumption)
theorem lw_of {n : Nat} {X : Int → Int} {i : Int} {Q : mj_Q} {o5 o6 : Option mj_V} (hJ : JE X A) (hi : 0 ≤ i ∧ i + 6 ≤ X (-1)) (hX : X (-1) ≤ 3072) (htail : ∀ A2 o5 o6, JE X A2 → mj_X G n_L_law Q A2 (20 * n) (4767 * n) 2565 [some (mR (some 50)), some (mR (some 100)), some (mR (some 200)), some (mR (some 140)), some (mI i), o5, o6] []) : mj_X G n_L_law Q A (20 * (n + 1)) (4767 * (n + 1)) 1630 [some (mR (some 50)), some (mR (some 100)), some (mR (some 200)), some (mR (some 140)), some (mI i), o5, o6] [] := by
  obtain ⟨C, h⟩ := hJ
  have hs := h.s
  have hx := h.x
  have hlen : gI A 50 (-1) = X (-1) := by rw [hx]
  have hns := h.j.m.g.ns
  refine mx_R fun hRA => ?_
  refine mx_less (kc' := 20 * n + 2) (ks' := 4767 * n + 12) (by omega) (by omega) ?_
  refine mx_R fun hR => ?_
  refine mx_aload_n 1 d_L_law_1630 rfl rfl ?_
  refine mx_aload_n 0 d_L_law_1631 rfl rfl ?_
  refine mx_iload 4 d_L_law_1632 rfl ?_
  refine mx_iconst d_L_law_1634 ?_
  refine mx_iadd d_L_law_1635 ?_
  refine mx_sald d_L_law_1636 hs (by omega) (by rw [hlen]; omega) ?_
  refine mx_aload_n 0 d_L_law_1637 rfl rfl ?_
  refine mx_iload 4 d_L_law_1638 rfl ?_
  refine mx_iconst d_L_law_1640 ?_
  refine mx_iadd d_L_law_1641 ?_
  refine mx_sald d_L_law_1642 hs (by omega) (by rw [hlen]; omega) ?_
  refine mx_aload_n 3 d_L_law_1643 rfl rfl ?_
  refine mx_callSH (kc := 20 * n) (ks := 4767 * n) (N := n_L_of) (as := [_, _, _, _]) d_L_law_1644 s_L_206 ⟨Nat.le_of_ble_eq_true rfl, Nat.le_of_ble_eq_true rfl⟩ rfl (mj_wt_8 (Nat.le_of_ble_eq_true rfl)) (js_of h (hRA 50 _) (hRA 50 _)) (fun r A1 hr => ?_) (fun E A_x h => h.elim)
  obtain ⟨kk, rfl, hkk, ⟨hs1, hx1, hm1⟩, hM⟩ := hr
  have hlen1 : gI A1 50 (-1) = X (-1) := by rw [hx1]
  have hA1x : gI A1 50 = gI A 50 := hx1.trans hx.symm
  refine mx_R fun hR => ?_
  refine mx_istore 5 d_L_law_1647 (Nat.le_of_ble_eq_true rfl) ?_
  refine mx_aload_n 2 d_L_law_1649 rfl rfl ?_
  refine mx_aload_n 0 d_L_law_1650 rfl rfl ?_
  refine mx_iload 4 d_L_law_1651 rfl ?_
  refine mx_iconst d_L_law_1653 ?_
  refine mx_iadd d_L_law_1654 ?_
  refine mx_sald d_L_law_1655 hs1 (by omega) (by rw [hlen1]; omega) ?_
  rw [hA1x]
  refine mx_aload_n 0 d_L_law_1656 rfl rfl ?_
  refine mx_iload 4 d_L_law_1657 rfl ?_
  refine mx_iconst d_L_law_1659 ?_
  refine mx_iadd d_L_law_1660 ?_
  refine mx_sald d_L_law_1661 hs1 (by omega) (by rw [hlen1]; omega) ?_
  rw [hA1x]
  refine mx_callV (kc := 20*n) (ks := 4767*n) (N := n_M_of) (as := [_, _]) (ci := 7) d_L_law_1662 s_L_208 ⟨Nat.le_of_ble_eq_true rfl, Nat.le_of_ble_eq_true rfl⟩ rfl (mj_wt_8 (Nat.le_of_ble_eq_true rfl)) (hm1) ⟨_, rfl, rfl⟩ (hM) (fun r_1662 A_1662 h_1662 => ?_) (fun E_1662 A_x h_1662 => ?_)
  rotate_left
  · exact h_1662.elim
  obtain ⟨v, rfl, h0, hout, C2, h2⟩ := h_1662
  refine mx_R fun hR_1 => ?_
  refine mx_istore 6 d_L_law_1665 (Nat.le_of_ble_eq_true rfl) ?_
  refine mx_aload_n 2 d_L_law_1667 rfl rfl ?_
  refine mx_callV (kc := 20*n) (ks := 4767*n) (N := n_M_thrown) (as := []) (ci := 7) d_L_law_1668 s_L_134 ⟨Nat.le_of_ble_eq_true rfl, Nat.le_of_ble_eq_true rfl⟩ rfl (mj_wt_8 (Nat.le_of_ble_eq_true rfl)) (h2.j.m.M.o) ⟨_, rfl, rfl⟩ (cm_thrown h2.j.m.M) (fun r_1668 A_1668 h_1668 => ?_) (fun E_1668 A_x h_1668 => ?_)
  rotate_left
  · exact h_1668.elim
  obtain ⟨rfl, hA_1668⟩ := h_1668
  obtain rfl := hA_1668.symm
  clear hA_1668
  refine mx_R fun hR_2 => ?_
  refine mx_iload 5 d_L_law_1671 rfl ?_
  refine mx_icmp_eq 1678 d_L_law_1673 rfl (by first | assumption | exact hR_2 _ _ | exact hR_1 _ _ | exact hR _ _ | exact r32_mk (by omega) (by omega)) (by first | assumption | exact hR_2 _ _ | exact hR_1 _ _ | exact hR _ _ | exact r32_mk (by omega) (by omega)) (fun c_1673 => ?_) (fun c_1673 => ?_)
  · refine mx_iload 5 d_L_law_1678 rfl ?_
    refine mx_if_ne 1695 d_L_law_1680 rfl (by first | assumption | exact hR_2 _ _ | exact hR_1 _ _ | exact hR _ _ | exact r32_mk (by omega) (by omega)) (fun c_1680 => ?_) (fun c_1680 => ?_)
    · refine mx_goto 2565 d_L_law_1695 rfl ?_
      exact htail _ _ _ ⟨C2, h2⟩
    · refine mx_aload_n 3 d_L_law_1683 rfl rfl ?_
      refine mx_iconst d_L_law_1684 ?_
      refine mx_lald d_L_law_1685 (h2.j.y.o) (by omega) (by omega) ?_
      refine mx_iload 6 d_L_law_1686 rfl ?_
      have hnr := nr_r v
      refine mx_nrm ?_
      refine mx_i2l d_L_law_1688 (by first | assumption | exact hR_2 _ _ | exact hR_1 _ _ | exact hR _ _ | exact r32_mk (by omega) (by omega)) ?_
      refine mx_lcmp d_L_law_1689 (by first | assumption | exact hR_2 _ _ | exact hR_1 _ _ | exact hR _ _ | exact r32_mk (by omega) (by omega)) (by first | assumption | exact hR_2 _ _ | exact hR_1 _ _ | exact hR _ _ | exact r32_mk (by omega) (by omega)) ?_
      refine mx_if_eq 1695 d_L_law_1690 rfl (by first | assumption | exact hR_2 _ _ | exact hR_1 _ _ | exact hR _ _ | exact r32_mk (by omega) (by omega)) (fun c_1690 => ?_) (fun c_1690 => ?_)
      · refine mx_goto 2565 d_L_law_1695 rfl ?_
        exact htail _ _ _ ⟨C2, h2⟩
      · exact absurd (by rw [hout (by assumption), if_neg (Int.lt_irrefl _), if_pos rfl]) c_1690
  · exact absurd h0 (by assumption)
theorem lw_point {n : Nat} {X : Int → Int} {i : Int} {Q : mj_Q} {o5 o6 : Option mj_V} (hJ : JE X A) (hi : 0 ≤ i ∧ i + 6 ≤ X (-1)) (hX : X (-1) ≤ 3072) (htail : ∀ A2 o5 o6, JE X A2 → mj_X G n_L_law Q A2 (20 * n) (4767 * n) 2565 [some (mR (some 50)), some (mR (some 100)), some (mR (some 200)), some (mR (some 140)), some (mI i), o5, o6] []) : mj_X G n_L_law Q A (20 * (n + 1)) (4767 * (n + 1)) 1698 [some (mR (some 50)), some (mR (some 100)), some (mR (some 200)), some (mR (some 140)), some (mI i), o5, o6] [] := by
  obtain ⟨C, h⟩ := hJ
  have hs := h.s
  have hx := h.x
  have hlen : gI A 50 (-1) = X (-1) := by rw [hx]
  have hns := h.j.m.g.ns
  refine mx_R fun hRA => ?_
  refine mx_less (kc' := 20 * n + 2) (ks' := 4767 * n + 12) (by omega) (by omega) ?_
  refine mx_R fun hR => ?_
  refine mx_aload_n 1 d_L_law_1698 rfl rfl ?_
  refine mx_aload_n 0 d_L_law_1699 rfl rfl ?_
  refine mx_iload 4 d_L_law_1700 rfl ?_
  refine mx_iconst d_L_law_1702 ?_
  refine mx_iadd d_L_law_1703 ?_
  refine mx_sald d_L_law_1704 hs (by omega) (by rw [hlen]; omega) ?_
  refine mx_aload_n 0 d_L_law_1705 rfl rfl ?_
  refine mx_iload 4 d_L_law_1706 rfl ?_
  refine mx_iconst d_L_law_1708 ?_
  refine mx_iadd d_L_law_1709 ?_
  refine mx_sald d_L_law_1710 hs (by omega) (by rw [hlen]; omega) ?_
  refine mx_aload_n 0 d_L_law_1711 rfl rfl ?_
  refine mx_iload 4 d_L_law_1712 rfl ?_
  refine mx_iconst d_L_law_1714 ?_
  refine mx_iadd d_L_law_1715 ?_
  refine mx_sald d_L_law_1716 hs (by omega) (by rw [hlen]; omega) ?_
  refine mx_aload_n 3 d_L_law_1717 rfl rfl ?_
  refine mx_callSH (kc := 20 * n) (ks := 4767 * n) (N := n_L_point) (as := [_, _, _, _, _]) d_L_law_1718 s_L_209 ⟨Nat.le_of_ble_eq_true rfl, Nat.le_of_ble_eq_true rfl⟩ rfl (mj_wt_8 (Nat.le_of_ble_eq_true rfl)) (js_point h (hRA 50 _) (hRA 50 _) (hRA 50 _)) (fun r A1 hr => ?_) (fun E A_x h => h.elim)
  obtain ⟨kk, rfl, hkk, ⟨hs1, hx1, hm1⟩, hM⟩ := hr
  have hlen1 : gI A1 50 (-1) = X (-1) := by rw [hx1]
  have hA1x : gI A1 50 = gI A 50 := hx1.trans hx.symm
  refine mx_R fun hR => ?_
  refine mx_istore 5 d_L_law_1721 (Nat.le_of_ble_eq_true rfl) ?_
  refine mx_aload_n 2 d_L_law_1723 rfl rfl ?_
  refine mx_aload_n 0 d_L_law_1724 rfl rfl ?_
  refine mx_iload 4 d_L_law_1725 rfl ?_
  refine mx_iconst d_L_law_1727 ?_
  refine mx_iadd d_L_law_1728 ?_
  refine mx_sald d_L_law_1729 hs1 (by omega) (by rw [hlen1]; omega) ?_
  rw [hA1x]
  refine mx_aload_n 0 d_L_law_1730 rfl rfl ?_
  refine mx_iload 4 d_L_law_1731 rfl ?_
  refine mx_iconst d_L_law_1733 ?_
  refine mx_iadd d_L_law_1734 ?_
  refine mx_sald d_L_law_1735 hs1 (by omega) (by rw [hlen1]; omega) ?_
  rw [hA1x]
  refine mx_aload_n 0 d_L_law_1736 rfl rfl ?_
  refine mx_iload 4 d_L_law_1737 rfl ?_
  refine mx_iconst d_L_law_1739 ?_
  refine mx_iadd d_L_law_1740 ?_
  refine mx_sald d_L_law_1741 hs1 (by omega) (by rw [hlen1]; omega) ?_
  rw [hA1x]
  refine mx_callV (kc := 20*n) (ks := 4767*n) (N := n_M_point) (as := [_, _, _]) (ci := 7) d_L_law_1742 s_L_211 ⟨Nat.le_of_ble_eq_true rfl, Nat.le_of_ble_eq_true rfl⟩ rfl (mj_wt_8 (Nat.le_of_ble_eq_true rfl)) (hm1) ⟨_, rfl, rfl⟩ (hM) (fun r_1742 A_1742 h_1742 => ?_) (fun E_1742 A_x h_1742 => ?_)
  rotate_left
  · exact h_1742.elim
  obtain ⟨v, rfl, h0, hout, C2, h2⟩ := h_1742
  refine mx_R fun hR_1 => ?_
  refine mx_istore 6 d_L_law_1745 (Nat.le_of_ble_eq_true rfl) ?_
  refine mx_aload_n 2 d_L_law_1747 rfl rfl ?_
  refine mx_callV (kc := 20*n) (ks := 4767*n) (N := n_M_thrown) (as := []) (ci := 7) d_L_law_1748 s_L_134 ⟨Nat.le_of_ble_eq_true rfl, Nat.le_of_ble_eq_true rfl⟩ rfl (mj_wt_8 (Nat.le_of_ble_eq_true rfl)) (h2.j.m.M.o) ⟨_, rfl, rfl⟩ (cm_thrown h2.j.m.M) (fun r_1748 A_1748 h_1748 => ?_) (fun E_1748 A_x h_1748 => ?_)
  rotate_left
  · exact h_1748.elim
  obtain ⟨rfl, hA_1748⟩ := h_1748
  obtain rfl := hA_1748.symm
  clear hA_1748
  refine mx_R fun hR_2 => ?_
  refine mx_iload 5 d_L_law_1751 rfl ?_
  refine mx_icmp_eq 1758 d_L_law_1753 rfl (by first | assumption | exact hR_2 _ _ | exact hR_1 _ _ | exact hR _ _ | exact r32_mk (by omega) (by omega)) (by first | assumption | exact hR_2 _ _ | exact hR_1 _ _ | exact hR _ _ | exact r32_mk (by omega) (by omega)) (fun c_1753 => ?_) (fun c_1753 => ?_)
  · refine mx_iload 5 d_L_law_1758 rfl ?_
    refine mx_if_ne 1775 d_L_law_1760 rfl (by first | assumption | exact hR_2 _ _ | exact hR_1 _ _ | exact hR _ _ | exact r32_mk (by omega) (by omega)) (fun c_1760 => ?_) (fun c_1760 => ?_)
    · refine mx_goto 2565 d_L_law_1775 rfl ?_
      exact htail _ _ _ ⟨C2, h2⟩
    · refine mx_aload_n 3 d_L_law_1763 rfl rfl ?_
      refine mx_iconst d_L_law_1764 ?_
      refine mx_lald d_L_law_1765 (h2.j.y.o) (by omega) (by omega) ?_
      refine mx_iload 6 d_L_law_1766 rfl ?_
      have hnr := nr_r v
      refine mx_nrm ?_
      refine mx_i2l d_L_law_1768 (by first | assumption | exact hR_2 _ _ | exact hR_1 _ _ | exact hR _ _ | exact r32_mk (by omega) (by omega)) ?_
      refine mx_lcmp d_L_law_1769 (by first | assumption | exact hR_2 _ _ | exact hR_1 _ _ | exact hR _ _ | exact r32_mk (by omega) (by omega)) (by first | assumption | exact hR_2 _ _ | exact hR_1 _ _ | exact hR _ _ | exact r32_mk (by omega) (by omega)) ?_
      refine mx_if_eq 1775 d_L_law_1770 rfl (by first | assumption | exact hR_2 _ _ | exact hR_1 _ _ | exact hR _ _ | exact r32_mk (by omega) (by omega)) (fun c_1770 => ?_) (fun c_1770 => ?_)
      · refine mx_goto 2565 d_L_law_1775 rfl ?_
        exact htail _ _ _ ⟨C2, h2⟩
      · exact absurd (by rw [hout (by assumption), if_neg (Int.lt_irrefl _), if_pos rfl]) c_1770
  · exact absurd h0 (by assumption)
theorem lw_has {n : Nat} {X : Int → Int} {i : Int} {Q : mj_Q} {o5 o6 : Option mj_V} (hJ : JE X A) (hi : 0 ≤ i ∧ i + 6 ≤ X (-1)) (hX : X (-1) ≤ 3072) (htail : ∀ A2 o5 o6, JE X A2 → mj_X G n_L_law Q A2 (20 * n) (4767 * n) 2565 [some (mR (some 50)), some (mR (some 100)), some (mR (some 200)), some (mR (some 140)), some (mI i), o5, o6] []) : mj_X G n_L_law Q A (20 * (n + 1)) (4767 * (n + 1)) 1778 [some (mR (some 50)), some (mR (some 100)), some (mR (some 200)), some (mR (some 140)), some (mI i), o5, o6] [] := by
  obtain ⟨C, h⟩ := hJ
  have hs := h.s
  have hx := h.x
  have hlen : gI A 50 (-1) = X (-1) := by rw [hx]
  have hns := h.j.m.g.ns
  refine mx_R fun hRA => ?_
  refine mx_less (kc' := 20 * n + 3) (ks' := 4767 * n + 18) (by omega) (by omega) ?_
  refine mx_R fun hR => ?_
  refine mx_aload_n 1 d_L_law_1778 rfl rfl ?_
  refine mx_aload_n 0 d_L_law_1779 rfl rfl ?_
  refine mx_iload 4 d_L_law_1780 rfl ?_
  refine mx_iconst d_L_law_1782 ?_
  refine mx_iadd d_L_law_1783 ?_
  refine mx_sald d_L_law_1784 hs (by omega) (by rw [hlen]; omega) ?_
  refine mx_aload_n 0 d_L_law_1785 rfl rfl ?_
  refine mx_iload 4 d_L_law_1786 rfl ?_
  refine mx_iconst d_L_law_1788 ?_
  refine mx_iadd d_L_law_1789 ?_
  refine mx_sald d_L_law_1790 hs (by omega) (by rw [hlen]; omega) ?_
  refine mx_aload_n 0 d_L_law_1791 rfl rfl ?_
  refine mx_iload 4 d_L_law_1792 rfl ?_
  refine mx_iconst d_L_law_1794 ?_
  refine mx_iadd d_L_law_1795 ?_
  refine mx_sald d_L_law_1796 hs (by omega) (by rw [hlen]; omega) ?_
  refine mx_aload_n 3 d_L_law_1797 rfl rfl ?_
  refine mx_callSH (kc := 20 * n) (ks := 4767 * n) (N := n_L_has) (as := [_, _, _, _, _]) d_L_law_1798 s_L_212 ⟨Nat.le_of_ble_eq_true rfl, Nat.le_of_ble_eq_true rfl⟩ rfl (mj_wt_8 (Nat.le_of_ble_eq_true rfl)) (js_has h (hRA 50 _) (hRA 50 _) (hRA 50 _)) (fun r A1 hr => ?_) (fun E A_x h => h.elim)
  obtain ⟨kk, rfl, hkk, ⟨hs1, hx1, hm1⟩, hM⟩ := hr
  have hlen1 : gI A1 50 (-1) = X (-1) := by rw [hx1]
  have hA1x : gI A1 50 = gI A 50 := hx1.trans hx.symm
  refine mx_R fun hR => ?_
  refine mx_istore 5 d_L_law_1801 (Nat.le_of_ble_eq_true rfl) ?_
  refine mx_aload_n 2 d_L_law_1803 rfl rfl ?_
  refine mx_aload_n 0 d_L_law_1804 rfl rfl ?_
  refine mx_iload 4 d_L_law_1805 rfl ?_
  refine mx_iconst d_L_law_1807 ?_
  refine mx_iadd d_L_law_1808 ?_
  refine mx_sald d_L_law_1809 hs1 (by omega) (by rw [hlen1]; omega) ?_
  rw [hA1x]
  refine mx_aload_n 0 d_L_law_1810 rfl rfl ?_
  refine mx_iload 4 d_L_law_1811 rfl ?_
  refine mx_iconst d_L_law_1813 ?_
  refine mx_iadd d_L_law_1814 ?_
  refine mx_sald d_L_law_1815 hs1 (by omega) (by rw [hlen1]; omega) ?_
  rw [hA1x]
  refine mx_aload_n 0 d_L_law_1816 rfl rfl ?_
  refine mx_iload 4 d_L_law_1817 rfl ?_
  refine mx_iconst d_L_law_1819 ?_
  refine mx_iadd d_L_law_1820 ?_
  refine mx_sald d_L_law_1821 hs1 (by omega) (by rw [hlen1]; omega) ?_
  rw [hA1x]
  refine mx_callV (kc := 20*n) (ks := 4767*n) (N := n_M_has) (as := [_, _, _]) (ci := 7) d_L_law_1822 s_L_214 ⟨Nat.le_of_ble_eq_true rfl, Nat.le_of_ble_eq_true rfl⟩ rfl (mj_wt_8 (Nat.le_of_ble_eq_true rfl)) (hm1) ⟨_, rfl, rfl⟩ (hM) (fun r_1822 A_1822 h_1822 => ?_) (fun E_1822 A_x h_1822 => ?_)
  rotate_left
  · exact h_1822.elim
  obtain ⟨v, rfl, h0, hout, C2, h2⟩ := h_1822
  refine mx_R fun hR_1 => ?_
  refine mx_istore 6 d_L_law_1825 (Nat.le_of_ble_eq_true rfl) ?_
  refine mx_aload_n 2 d_L_law_1827 rfl rfl ?_
  refine mx_callV (kc := 20*n) (ks := 4767*n) (N := n_M_thrown) (as := []) (ci := 7) d_L_law_1828 s_L_134 ⟨Nat.le_of_ble_eq_true rfl, Nat.le_of_ble_eq_true rfl⟩ rfl (mj_wt_8 (Nat.le_of_ble_eq_true rfl)) (h2.j.m.M.o) ⟨_, rfl, rfl⟩ (cm_thrown h2.j.m.M) (fun r_1828 A_1828 h_1828 => ?_) (fun E_1828 A_x h_1828 => ?_)
  rotate_left
  · exact h_1828.elim
  obtain ⟨rfl, hA_1828⟩ := h_1828
  obtain rfl := hA_1828.symm
  clear hA_1828
  refine mx_R fun hR_2 => ?_
  refine mx_iload 5 d_L_law_1831 rfl ?_
  refine mx_icmp_eq 1838 d_L_law_1833 rfl (by first | assumption | exact hR_2 _ _ | exact hR_1 _ _ | exact hR _ _ | exact r32_mk (by omega) (by omega)) (by first | assumption | exact hR_2 _ _ | exact hR_1 _ _ | exact hR _ _ | exact r32_mk (by omega) (by omega)) (fun c_1833 => ?_) (fun c_1833 => ?_)
  · refine mx_iload 5 d_L_law_1838 rfl ?_
    refine mx_if_ne 1855 d_L_law_1840 rfl (by first | assumption | exact hR_2 _ _ | exact hR_1 _ _ | exact hR _ _ | exact r32_mk (by omega) (by omega)) (fun c_1840 => ?_) (fun c_1840 => ?_)
    · refine mx_goto 2565 d_L_law_1855 rfl ?_
      exact htail _ _ _ ⟨C2, h2⟩
    · refine mx_aload_n 3 d_L_law_1843 rfl rfl ?_
      refine mx_iconst d_L_law_1844 ?_
      refine mx_lald d_L_law_1845 (h2.j.y.o) (by omega) (by omega) ?_
      refine mx_iload 6 d_L_law_1846 rfl ?_
      have hnr := nr_r v
      refine mx_nrm ?_
      refine mx_i2l d_L_law_1848 (by first | assumption | exact hR_2 _ _ | exact hR_1 _ _ | exact hR _ _ | exact r32_mk (by omega) (by omega)) ?_
      refine mx_lcmp d_L_law_1849 (by first | assumption | exact hR_2 _ _ | exact hR_1 _ _ | exact hR _ _ | exact r32_mk (by omega) (by omega)) (by first | assumption | exact hR_2 _ _ | exact hR_1 _ _ | exact hR _ _ | exact r32_mk (by omega) (by omega)) ?_
      refine mx_if_eq 1855 d_L_law_1850 rfl (by first | assumption | exact hR_2 _ _ | exact hR_1 _ _ | exact hR _ _ | exact r32_mk (by omega) (by omega)) (fun c_1850 => ?_) (fun c_1850 => ?_)
      · refine mx_goto 2565 d_L_law_1855 rfl ?_
        exact htail _ _ _ ⟨C2, h2⟩
      · exact absurd (by rw [hout (by assumption), if_neg (Int.lt_irrefl _), if_pos rfl]) c_1850
  · exact absurd h0 (by assumption)
theorem lw_moved {n : Nat} {X : Int → Int} {i : Int} {Q : mj_Q} {o5 o6 : Option mj_V} (hJ : JE X A) (hi : 0 ≤ i ∧ i + 6 ≤ X (-1)) (hX : X (-1) ≤ 3072) (htail : ∀ A2 o5 o6, JE X A2 → mj_X G n_L_law Q A2 (20 * n) (4767 * n) 2565 [some (mR (some 50)), some (mR (some 100)), some (mR (some 200)), some (mR (some 140)), some (mI i), o5, o6] []) : mj_X G n_L_law Q A (20 * (n + 1)) (4767 * (n + 1)) 1858 [some (mR (some 50)), some (mR (some 100)), some (mR (some 200)), some (mR (some 140)), some (mI i), o5, o6] [] := by
  obtain ⟨C, h⟩ := hJ
  have hs := h.s
  have hx := h.x
  have hlen : gI A 50 (-1) = X (-1) := by rw [hx]
  have hns := h.j.m.g.ns
  refine mx_R fun hRA => ?_
  refine mx_less (kc' := 20 * n + 3) (ks' := 4767 * n + 18) (by omega) (by omega) ?_
  refine mx_R fun hR => ?_
  refine mx_aload_n 1 d_L_law_1858 rfl rfl ?_
  refine mx_aload_n 0 d_L_law_1859 rfl rfl ?_
  refine mx_iload 4 d_L_law_1860 rfl ?_
  refine mx_iconst d_L_law_1862 ?_
  refine mx_iadd d_L_law_1863 ?_
  refine mx_sald d_L_law_1864 hs (by omega) (by rw [hlen]; omega) ?_
  refine mx_aload_n 0 d_L_law_1865 rfl rfl ?_
  refine mx_iload 4 d_L_law_1866 rfl ?_
  refine mx_iconst d_L_law_1868 ?_
  refine mx_iadd d_L_law_1869 ?_
  refine mx_sald d_L_law_1870 hs (by omega) (by rw [hlen]; omega) ?_
  refine mx_aload_n 0 d_L_law_1871 rfl rfl ?_
  refine mx_iload 4 d_L_law_1872 rfl ?_
  refine mx_iconst d_L_law_1874 ?_
  refine mx_iadd d_L_law_1875 ?_
  refine mx_sald d_L_law_1876 hs (by omega) (by rw [hlen]; omega) ?_
  refine mj_cutB (¬ gI A 50 (i + 4) = 0) 1891 ?_ (fun hJ_1877 => ?_)
  · refine mx_aload_n 3 d_L_law_1891 rfl rfl ?_
    refine mx_callSH (kc := 20 * n) (ks := 4767 * n) (N := n_L_moved) (as := [_, _, _, _, _, _]) d_L_law_1892 s_L_215 ⟨Nat.le_of_ble_eq_true rfl, Nat.le_of_ble_eq_true rfl⟩ rfl (mj_wt_8 (Nat.le_of_ble_eq_true rfl)) (js_moved h (hRA 50 _) (hRA 50 _) (hRA 50 _) (by split; exact Or.inr rfl; exact Or.inl rfl)) (fun r A1 hr => ?_) (fun E A_x h => h.elim)
    obtain ⟨kk, rfl, hkk, ⟨hs1, hx1, hm1⟩, hM⟩ := hr
    have hlen1 : gI A1 50 (-1) = X (-1) := by rw [hx1]
    have hA1x : gI A1 50 = gI A 50 := hx1.trans hx.symm
    refine mx_R fun hR => ?_
    refine mx_istore 5 d_L_law_1895 (Nat.le_of_ble_eq_true rfl) ?_
    refine mx_aload_n 2 d_L_law_1897 rfl rfl ?_
    refine mx_aload_n 0 d_L_law_1898 rfl rfl ?_
    refine mx_iload 4 d_L_law_1899 rfl ?_
    refine mx_iconst d_L_law_1901 ?_
    refine mx_iadd d_L_law_1902 ?_
    refine mx_sald d_L_law_1903 hs1 (by omega) (by rw [hlen1]; omega) ?_
    rw [hA1x]
    refine mx_aload_n 0 d_L_law_1904 rfl rfl ?_
    refine mx_iload 4 d_L_law_1905 rfl ?_
    refine mx_iconst d_L_law_1907 ?_
    refine mx_iadd d_L_law_1908 ?_
    refine mx_sald d_L_law_1909 hs1 (by omega) (by rw [hlen1]; omega) ?_
    rw [hA1x]
    refine mx_aload_n 0 d_L_law_1910 rfl rfl ?_
    refine mx_iload 4 d_L_law_1911 rfl ?_
    refine mx_iconst d_L_law_1913 ?_
    refine mx_iadd d_L_law_1914 ?_
    refine mx_sald d_L_law_1915 hs1 (by omega) (by rw [hlen1]; omega) ?_
    rw [hA1x]
    refine mj_cutB (¬ gI A 50 (i + 4) = 0) 1930 ?_ (fun hJ_1916 => ?_)
    · refine mx_callV (kc := 20*n) (ks := 4767*n) (N := n_M_moved) (as := [_, _, _, _]) (ci := 7) d_L_law_1930 s_L_218 ⟨Nat.le_of_ble_eq_true rfl, Nat.le_of_ble_eq_true rfl⟩ rfl (mj_wt_8 (Nat.le_of_ble_eq_true rfl)) (hm1) ⟨_, rfl, rfl⟩ (hM) (fun r_1930 A_1930 h_1930 => ?_) (fun E_1930 A_x h_1930 => ?_)
      rotate_left
      · exact h_1930.elim
      obtain ⟨v, rfl, h0, hout, C2, h2⟩ := h_1930
      refine mx_R fun hR_1 => ?_
      refine mx_istore 6 d_L_law_1933 (Nat.le_of_ble_eq_true rfl) ?_
      refine mx_aload_n 2 d_L_law_1935 rfl rfl ?_
      refine mx_callV (kc := 20*n) (ks := 4767*n) (N := n_M_thrown) (as := []) (ci := 7) d_L_law_1936 s_L_134 ⟨Nat.le_of_ble_eq_true rfl, Nat.le_of_ble_eq_true rfl⟩ rfl (mj_wt_8 (Nat.le_of_ble_eq_true rfl)) (h2.j.m.M.o) ⟨_, rfl, rfl⟩ (cm_thrown h2.j.m.M) (fun r_1936 A_1936 h_1936 => ?_) (fun E_1936 A_x h_1936 => ?_)
      rotate_left
      · exact h_1936.elim
      obtain ⟨rfl, hA_1936⟩ := h_1936
      obtain rfl := hA_1936.symm
      clear hA_1936
      refine mx_R fun hR_2 => ?_
      refine mx_iload 5 d_L_law_1939 rfl ?_
      refine mx_icmp_eq 1946 d_L_law_1941 rfl (by first | assumption | exact hR_2 _ _ | exact hR_1 _ _ | exact hR _ _ | exact r32_mk (by omega) (by omega)) (by first | assumption | exact hR_2 _ _ | exact hR_1 _ _ | exact hR _ _ | exact r32_mk (by omega) (by omega)) (fun c_1941 => ?_) (fun c_1941 => ?_)
      · refine mx_iload 5 d_L_law_1946 rfl ?_
        refine mx_if_ne 1963 d_L_law_1948 rfl (by first | assumption | exact hR_2 _ _ | exact hR_1 _ _ | exact hR _ _ | exact r32_mk (by omega) (by omega)) (fun c_1948 => ?_) (fun c_1948 => ?_)
        · refine mx_goto 2565 d_L_law_1963 rfl ?_
          exact htail _ _ _ ⟨C2, h2⟩
        · refine mx_aload_n 3 d_L_law_1951 rfl rfl ?_
          refine mx_iconst d_L_law_1952 ?_
          refine mx_lald d_L_law_1953 (h2.j.y.o) (by omega) (by omega) ?_
          refine mx_iload 6 d_L_law_1954 rfl ?_
          have hnr := nr_r v
          refine mx_nrm ?_
          refine mx_i2l d_L_law_1956 (by first | assumption | exact hR_2 _ _ | exact hR_1 _ _ | exact hR _ _ | exact r32_mk (by omega) (by omega)) ?_
          refine mx_lcmp d_L_law_1957 (by first | assumption | exact hR_2 _ _ | exact hR_1 _ _ | exact hR _ _ | exact r32_mk (by omega) (by omega)) (by first | assumption | exact hR_2 _ _ | exact hR_1 _ _ | exact hR _ _ | exact r32_mk (by omega) (by omega)) ?_
          refine mx_if_eq 1963 d_L_law_1958 rfl (by first | assumption | exact hR_2 _ _ | exact hR_1 _ _ | exact hR _ _ | exact r32_mk (by omega) (by omega)) (fun c_1958 => ?_) (fun c_1958 => ?_)
          · refine mx_goto 2565 d_L_law_1963 rfl ?_
            exact htail _ _ _ ⟨C2, h2⟩
          · exact absurd (by rw [hout (by assumption), if_neg (Int.lt_irrefl _), if_pos rfl]) c_1958
      · exact absurd h0 (by assumption)
    · refine mx_aload_n 0 d_L_law_1916 rfl rfl ?_
      refine mx_iload 4 d_L_law_1917 rfl ?_
      refine mx_iconst d_L_law_1919 ?_
      refine mx_iadd d_L_law_1920 ?_
      refine mx_sald d_L_law_1921 hs1 (by omega) (by rw [hlen1]; omega) ?_
      rw [hA1x]
      refine mx_if_eq 1929 d_L_law_1922 rfl (hRA 50 _) (fun c_1922 => ?_) (fun c_1922 => ?_)
      · refine mx_iconst d_L_law_1929 ?_
        first | exact mj_j1 hJ_1916 (by omega) | exact mj_j0 hJ_1916 (by omega)
      · refine mx_iconst d_L_law_1925 ?_
        refine mx_goto 1930 d_L_law_1926 rfl ?_
        first | exact mj_j1 hJ_1916 (by omega) | exact mj_j0 hJ_1916 (by omega)
  · refine mx_aload_n 0 d_L_law_1877 rfl rfl ?_
    refine mx_iload 4 d_L_law_1878 rfl ?_
    refine mx_iconst d_L_law_1880 ?_
    refine mx_iadd d_L_law_1881 ?_
    refine mx_sald d_L_law_1882 hs (by omega) (by rw [hlen]; omega) ?_
    refine mx_if_eq 1890 d_L_law_1883 rfl (hRA 50 _) (fun c_1883 => ?_) (fun c_1883 => ?_)
    · refine mx_iconst d_L_law_1890 ?_
      first | exact mj_j1 hJ_1877 (by omega) | exact mj_j0 hJ_1877 (by omega)
    · refine mx_iconst d_L_law_1886 ?_
      refine mx_goto 1891 d_L_law_1887 rfl ?_
      first | exact mj_j1 hJ_1877 (by omega) | exact mj_j0 hJ_1877 (by omega)
end LAWD
