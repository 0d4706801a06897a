/-! THE HOUSE, 17: calls that ask -/
section CLSI
variable {G : mj_G} {A : mj_M}
theorem ct_has {C : Int → cT} {s l f : Int} (hj : JJ C A) (hs : r32 s) (hl : r32 l) (hf : r32 f) : mj_Cal G n_H_has [mR (some 100), mI s, mI l, mI f] A (fun r A' => ((0 ≤ s ∧ s < gI A 200 23 ∧ 0 ≤ l ∧ l ≤ 3) ∧ (0 ≤ s ∧ s < gI A 200 23 ∧ 0 ≤ f ∧ f < gI A 224 s)) ∧ r = some (mI (mo_ha A s l f)) ∧ A' = A) (px1 A xI ((0 ≤ s ∧ s < gI A 200 23 ∧ 0 ≤ l ∧ l ≤ 3) ∧ (0 ≤ s ∧ s < gI A 200 23 ∧ 0 ≤ f ∧ f < gI A 224 s))) := by
  refine mj_bodyK 3 18 [some (mR (some 100)), some (mI s), some (mI l), some (mI f)] rfl rfl rfl (by decide +kernel) (Nat.le_of_ble_eq_true rfl) (by simp) rfl ?_
  have hH := hj.x.H
  have hS := hj.s.S
  have hns := hj.m.g.ns
  refine mx_R fun hR => ?_
  refine mx_aload_n 0 d_H_has_0 rfl rfl ?_
  refine mx_iload_n 1 d_H_has_1 rfl rfl ?_
  refine mx_callV (kc := 2) (ks := 12) (N := n_H_needScene) (as := [_]) (ci := 6) d_H_has_2 s_H_173 ⟨Nat.le_of_ble_eq_true rfl, Nat.le_of_ble_eq_true rfl⟩ rfl (mj_wt_8 (Nat.le_of_ble_eq_true rfl)) (hH.o) ⟨_, rfl, rfl⟩ (ct_needScene hj hs) (fun r_2 A_2 h_2 => ?_) (fun E_2 A_x h_2 => ?_)
  rotate_left
  · exact mt_n h_2 rfl fun hn => ⟨rfl, rfl, by omega⟩
  obtain ⟨rfl, h1, hA_2⟩ := h_2
  obtain rfl := hA_2.symm
  clear hA_2
  refine mx_R fun hR_1 => ?_
  refine mx_iload_n 2 d_H_has_5 rfl rfl ?_
  refine mx_callS (kc := 1) (ks := 6) (N := n_H_needLevel) (as := [_]) d_H_has_6 s_H_176 ⟨Nat.le_of_ble_eq_true rfl, Nat.le_of_ble_eq_true rfl⟩ rfl (mj_wt_8 (Nat.le_of_ble_eq_true rfl)) (ct_needLevel hl) (fun r_6 A_6 h_6 => ?_) (fun E_6 A_x h_6 => ?_)
  rotate_left
  · exact mt_n h_6 rfl fun hn => ⟨rfl, rfl, by omega⟩
  obtain ⟨rfl, h2, hA_6⟩ := h_6
  obtain rfl := hA_6.symm
  clear hA_6
  refine mx_R fun hR_2 => ?_
  refine mx_aload_n 0 d_H_has_9 rfl rfl ?_
  refine mx_iload_n 1 d_H_has_10 rfl rfl ?_
  refine mx_iload_n 3 d_H_has_11 rfl rfl ?_
  refine mx_callV (kc := 0) (ks := 0) (N := n_H_needFrame) (as := [_, _]) (ci := 6) d_H_has_12 s_H_179 ⟨Nat.le_of_ble_eq_true rfl, Nat.le_of_ble_eq_true rfl⟩ rfl (mj_wt_8 (Nat.le_of_ble_eq_true rfl)) (hH.o) ⟨_, rfl, rfl⟩ (ct_needFrame hj h1 hf) (fun r_12 A_12 h_12 => ?_) (fun E_12 A_x h_12 => ?_)
  rotate_left
  · exact mt_n h_12 rfl fun hn => ⟨rfl, rfl, by omega⟩
  obtain ⟨rfl, h3, hA_12⟩ := h_12
  obtain rfl := hA_12.symm
  clear hA_12
  refine mx_R fun hR_3 => ?_
  refine mx_aload_n 0 d_H_has_15 rfl rfl ?_
  refine mx_aload_n 0 d_H_has_16 rfl rfl ?_
  refine mx_getPs 5 d_H_has_17 f_H_21 rfl rfl (hH.o) (hH.p5) ?_
  refine mx_iload_n 1 d_H_has_20 rfl rfl ?_
  refine mx_aalds d_H_has_21 (hH.s5) (by decide) (by omega) (by omega) (hj.s.r s h1.1 h1.2) ?_
  refine mx_iload_n 2 d_H_has_22 rfl rfl ?_
  refine mx_iload_n 3 d_H_has_23 rfl rfl ?_
  refine mx_callV (kc := 0) (ks := 0) (N := n_H_drawingAt) (as := [_, _, _]) (ci := 6) d_H_has_24 s_H_286 ⟨Nat.le_of_ble_eq_true rfl, Nat.le_of_ble_eq_true rfl⟩ rfl (mj_wt_8 (Nat.le_of_ble_eq_true rfl)) (hH.o) ⟨_, rfl, rfl⟩ (ct_drawingAt hH hj.s hj.m.g h1 h2 h3) (fun r_24 A_24 h_24 => ?_) (fun E_24 A_x h_24 => ?_)
  rotate_left
  · exact h_24.elim
  obtain ⟨rfl, hA_24⟩ := h_24
  obtain rfl := hA_24.symm
  clear hA_24
  refine mx_R fun hR_4 => ?_
  refine mx_iret d_H_has_27 rfl ?_
  exact ⟨by omega, rfl, rfl⟩
theorem ct_moved {C : Int → cT} {s l f z : Int} (hj : JJ C A) (hs : r32 s) (hl : r32 l) (hf : r32 f) (hz : z = 0 ∨ z = 1) : mj_Cal G n_H_moved [mR (some 100), mI s, mI l, mI f, mI z] A (fun r A' => ((0 ≤ s ∧ s < gI A 200 23 ∧ 0 ≤ l ∧ l ≤ 3) ∧ (0 ≤ s ∧ s < gI A 200 23 ∧ 0 ≤ f ∧ f < gI A 224 s)) ∧ r = some (mI (mo_mv A s l f z)) ∧ A' = A) (px1 A xI ((0 ≤ s ∧ s < gI A 200 23 ∧ 0 ≤ l ∧ l ≤ 3) ∧ (0 ≤ s ∧ s < gI A 200 23 ∧ 0 ≤ f ∧ f < gI A 224 s))) := by
  refine mj_bodyK 3 18 [some (mR (some 100)), some (mI s), some (mI l), some (mI f), some (mI z)] rfl rfl rfl (by decide +kernel) (Nat.le_of_ble_eq_true rfl) (by simp) rfl ?_
  have hH := hj.x.H
  have hS := hj.s.S
  have hns := hj.m.g.ns
  refine mx_R fun hR => ?_
  refine mx_aload_n 0 d_H_moved_0 rfl rfl ?_
  refine mx_iload_n 1 d_H_moved_1 rfl rfl ?_
  refine mx_callV (kc := 2) (ks := 12) (N := n_H_needScene) (as := [_]) (ci := 6) d_H_moved_2 s_H_173 ⟨Nat.le_of_ble_eq_true rfl, Nat.le_of_ble_eq_true rfl⟩ rfl (mj_wt_8 (Nat.le_of_ble_eq_true rfl)) (hH.o) ⟨_, rfl, rfl⟩ (ct_needScene hj hs) (fun r_2 A_2 h_2 => ?_) (fun E_2 A_x h_2 => ?_)
  rotate_left
  · exact mt_n h_2 rfl fun hn => ⟨rfl, rfl, by omega⟩
  obtain ⟨rfl, h1, hA_2⟩ := h_2
  obtain rfl := hA_2.symm
  clear hA_2
  refine mx_R fun hR_1 => ?_
  refine mx_iload_n 2 d_H_moved_5 rfl rfl ?_
  refine mx_callS (kc := 1) (ks := 6) (N := n_H_needLevel) (as := [_]) d_H_moved_6 s_H_176 ⟨Nat.le_of_ble_eq_true rfl, Nat.le_of_ble_eq_true rfl⟩ rfl (mj_wt_8 (Nat.le_of_ble_eq_true rfl)) (ct_needLevel hl) (fun r_6 A_6 h_6 => ?_) (fun E_6 A_x h_6 => ?_)
  rotate_left
  · exact mt_n h_6 rfl fun hn => ⟨rfl, rfl, by omega⟩
  obtain ⟨rfl, h2, hA_6⟩ := h_6
  obtain rfl := hA_6.symm
  clear hA_6
  refine mx_R fun hR_2 => ?_
  refine mx_aload_n 0 d_H_moved_9 rfl rfl ?_
  refine mx_iload_n 1 d_H_moved_10 rfl rfl ?_
  refine mx_iload_n 3 d_H_moved_11 rfl rfl ?_
  refine mx_callV (kc := 0) (ks := 0) (N := n_H_needFrame) (as := [_, _]) (ci := 6) d_H_moved_12 s_H_179 ⟨Nat.le_of_ble_eq_true rfl, Nat.le_of_ble_eq_true rfl⟩ rfl (mj_wt_8 (Nat.le_of_ble_eq_true rfl)) (hH.o) ⟨_, rfl, rfl⟩ (ct_needFrame hj h1 hf) (fun r_12 A_12 h_12 => ?_) (fun E_12 A_x h_12 => ?_)
  rotate_left
  · exact mt_n h_12 rfl fun hn => ⟨rfl, rfl, by omega⟩
  obtain ⟨rfl, h3, hA_12⟩ := h_12
  obtain rfl := hA_12.symm
  clear hA_12
  refine mx_R fun hR_3 => ?_
  have hfr := hj.m.g.fr s h1.1 h1.2
  refine mx_aload_n 0 d_H_moved_15 rfl rfl ?_
  refine mx_getPs 5 d_H_moved_16 f_H_21 rfl rfl (hH.o) (hH.p5) ?_
  refine mx_iload_n 1 d_H_moved_19 rfl rfl ?_
  refine mx_aalds d_H_moved_20 (hH.s5) (by decide) (by omega) (by omega) (hj.s.r s h1.1 h1.2) ?_
  refine mx_iload_n 2 d_H_moved_21 rfl rfl ?_
  refine mx_iload_n 3 d_H_moved_22 rfl rfl ?_
  refine mx_iload 4 d_H_moved_23 rfl ?_
  refine mx_callV (kc := 0) (ks := 0) (N := n_S_shiftOf) (as := [_, _, _]) (ci := 4) d_H_moved_25 s_H_290 ⟨Nat.le_of_ble_eq_true rfl, Nat.le_of_ble_eq_true rfl⟩ rfl (mj_wt_8 (Nat.le_of_ble_eq_true rfl)) (hS.o _ (by omega) (by omega)) ⟨_, rfl, rfl⟩ (ct_shiftOf hj.s hj.m.g h1 hj.p hj.m.p hj.m.h h2 ⟨h3.1, by omega⟩ hz) (fun r_25 A_25 h_25 => ?_) (fun E_25 A_x h_25 => ?_)
  rotate_left
  · exact h_25.elim
  obtain ⟨rfl, hA_25⟩ := h_25
  obtain rfl := hA_25.symm
  clear hA_25
  refine mx_R fun hR_4 => ?_
  refine mx_iret d_H_moved_28 rfl ?_
  exact ⟨by omega, rfl, rfl⟩
theorem ct_seen {C : Int → cT} {s f x y : Int} (hj : JJ C A) (hs : r32 s) (hf : r32 f) (hx : r32 x) (hy : r32 y) : mj_Cal G n_H_seen [mR (some 100), mI s, mI f, mI x, mI y] A (fun r A' => ((0 ≤ s ∧ s < gI A 200 23 ∧ 0 ≤ f ∧ f < gI A 224 s) ∧ (0 ≤ x ∧ x < 16 ∧ 0 ≤ y ∧ y < 12)) ∧ r = some (mI (mo_se (vi C A) s f x y)) ∧ cq C A A') (px1 A xI ((0 ≤ s ∧ s < gI A 200 23 ∧ 0 ≤ f ∧ f < gI A 224 s) ∧ (0 ≤ x ∧ x < 16 ∧ 0 ≤ y ∧ y < 12))) := by
  refine mj_bodyK 3 18 [some (mR (some 100)), some (mI s), some (mI f), some (mI x), some (mI y)] rfl rfl rfl (by decide +kernel) (Nat.le_of_ble_eq_true rfl) (by simp) rfl ?_
  have hH := hj.x.H
  have hS := hj.s.S
  have hns := hj.m.g.ns
  refine mx_R fun hR => ?_
  refine mx_aload_n 0 d_H_seen_0 rfl rfl ?_
  refine mx_iload_n 1 d_H_seen_1 rfl rfl ?_
  refine mx_callV (kc := 2) (ks := 12) (N := n_H_needScene) (as := [_]) (ci := 6) d_H_seen_2 s_H_173 ⟨Nat.le_of_ble_eq_true rfl, Nat.le_of_ble_eq_true rfl⟩ rfl (mj_wt_8 (Nat.le_of_ble_eq_true rfl)) (hH.o) ⟨_, rfl, rfl⟩ (ct_needScene hj hs) (fun r_2 A_2 h_2 => ?_) (fun E_2 A_x h_2 => ?_)
  rotate_left
  · exact mt_n h_2 rfl fun hn => ⟨rfl, rfl, by omega⟩
  obtain ⟨rfl, h1, hA_2⟩ := h_2
  obtain rfl := hA_2.symm
  clear hA_2
  refine mx_R fun hR_1 => ?_
  refine mx_aload_n 0 d_H_seen_5 rfl rfl ?_
  refine mx_iload_n 1 d_H_seen_6 rfl rfl ?_
  refine mx_iload_n 2 d_H_seen_7 rfl rfl ?_
  refine mx_callV (kc := 1) (ks := 6) (N := n_H_needFrame) (as := [_, _]) (ci := 6) d_H_seen_8 s_H_179 ⟨Nat.le_of_ble_eq_true rfl, Nat.le_of_ble_eq_true rfl⟩ rfl (mj_wt_8 (Nat.le_of_ble_eq_true rfl)) (hH.o) ⟨_, rfl, rfl⟩ (ct_needFrame hj h1 hf) (fun r_8 A_8 h_8 => ?_) (fun E_8 A_x h_8 => ?_)
  rotate_left
  · exact mt_n h_8 rfl fun hn => ⟨rfl, rfl, by omega⟩
  obtain ⟨rfl, h3, hA_8⟩ := h_8
  obtain rfl := hA_8.symm
  clear hA_8
  refine mx_R fun hR_2 => ?_
  refine mx_iload_n 3 d_H_seen_11 rfl rfl ?_
  refine mx_iload 4 d_H_seen_12 rfl ?_
  refine mx_callS (kc := 0) (ks := 0) (N := n_H_needPoint) (as := [_, _]) d_H_seen_14 s_H_92 ⟨Nat.le_of_ble_eq_true rfl, Nat.le_of_ble_eq_true rfl⟩ rfl (mj_wt_8 (Nat.le_of_ble_eq_true rfl)) (ct_needPoint hx hy) (fun r_14 A_14 h_14 => ?_) (fun E_14 A_x h_14 => ?_)
  rotate_left
  · exact mt_n h_14 rfl fun hn => ⟨rfl, rfl, fun h => hn h.2⟩
  obtain ⟨rfl, h4, hA_14⟩ := h_14
  obtain rfl := hA_14.symm
  clear hA_14
  refine mx_R fun hR_3 => ?_
  refine mx_aload_n 0 d_H_seen_17 rfl rfl ?_
  refine mx_aload_n 0 d_H_seen_18 rfl rfl ?_
  refine mx_getPs 5 d_H_seen_19 f_H_21 rfl rfl (hH.o) (hH.p5) ?_
  refine mx_iload_n 1 d_H_seen_22 rfl rfl ?_
  refine mx_aalds d_H_seen_23 (hH.s5) (by decide) (by omega) (by omega) (hj.s.r s h1.1 h1.2) ?_
  refine mx_iload_n 2 d_H_seen_24 rfl rfl ?_
  refine mx_callV (kc := 0) (ks := 0) (N := n_H_compose) (as := [_, _]) (ci := 6) d_H_seen_25 s_H_240 ⟨Nat.le_of_ble_eq_true rfl, Nat.le_of_ble_eq_true rfl⟩ rfl (mj_wt_8 (Nat.le_of_ble_eq_true rfl)) (hH.o) ⟨_, rfl, rfl⟩ (ct_compose hj h1 h3) (fun r_25 A_25 h_25 => ?_) (fun E_25 A_x h_25 => ?_)
  rotate_left
  · exact h_25.elim
  obtain ⟨rfl, hq, hco⟩ := h_25
  refine mx_R fun hR_4 => ?_
  have hH := hq.j.x.H
  have hip := h4
  unfold mo_ip at hip
  refine mx_aload_n 0 d_H_seen_28 rfl rfl ?_
  refine mx_getPs 14 d_H_seen_29 f_H_49 rfl rfl (hH.o) (hH.p14) ?_
  refine mx_iload_n 3 d_H_seen_32 rfl rfl ?_
  refine mx_iload 4 d_H_seen_33 rfl ?_
  refine mx_callS (kc := 0) (ks := 0) (N := n_H_placeOf) (as := [_, _]) d_H_seen_35 s_H_139 ⟨Nat.le_of_ble_eq_true rfl, Nat.le_of_ble_eq_true rfl⟩ rfl (mj_wt_8 (Nat.le_of_ble_eq_true rfl)) (ct_placeOf) (fun r_35 A_35 h_35 => ?_) (fun E_35 A_x h_35 => ?_)
  rotate_left
  · exact h_35.elim
  obtain ⟨rfl, hA_35⟩ := h_35
  obtain rfl := hA_35.symm
  clear hA_35
  refine mx_R fun hR_5 => ?_
  rw [show y * 16 + x = 16 * y + x by omega]
  refine mx_iald d_H_seen_38 (hH.s14) (by omega) (by omega) ?_
  rw [hco x y h4]
  refine mx_iret d_H_seen_39 rfl ?_
  exact ⟨⟨by omega, hip⟩, rfl, hq⟩
theorem ct_shot {C : Int → cT} {s f x y : Int} (hj : JJ C A) (hst : ST A) (hs : r32 s) (hf : r32 f) (hx : r32 x) (hy : r32 y) : mj_Cal G n_H_shot [mR (some 100), mI s, mI f, mI x, mI y] A (fun r A' => ((0 ≤ s ∧ s < gI A 200 23 ∧ 0 ≤ f ∧ f < gI A 224 s) ∧ (0 ≤ x ∧ x < 16 ∧ 0 ≤ y ∧ y < 12)) ∧ r = some (mI (if gI A 238 (24 * s + f) = 0 then -1 else gI A 239 (192 * (24 * s + f) + 16 * y + x))) ∧ A' = A) (px1 A xI ((0 ≤ s ∧ s < gI A 200 23 ∧ 0 ≤ f ∧ f < gI A 224 s) ∧ (0 ≤ x ∧ x < 16 ∧ 0 ≤ y ∧ y < 12))) := by
  refine mj_bodyK 3 18 [some (mR (some 100)), some (mI s), some (mI f), some (mI x), some (mI y)] rfl rfl rfl (by decide +kernel) (Nat.le_of_ble_eq_true rfl) (by simp) rfl ?_
  have hH := hj.x.H
  have hS := hj.s.S
  have hns := hj.m.g.ns
  refine mx_R fun hR => ?_
  refine mx_aload_n 0 d_H_shot_0 rfl rfl ?_
  refine mx_iload_n 1 d_H_shot_1 rfl rfl ?_
  refine mx_callV (kc := 2) (ks := 12) (N := n_H_needScene) (as := [_]) (ci := 6) d_H_shot_2 s_H_173 ⟨Nat.le_of_ble_eq_true rfl, Nat.le_of_ble_eq_true rfl⟩ rfl (mj_wt_8 (Nat.le_of_ble_eq_true rfl)) (hH.o) ⟨_, rfl, rfl⟩ (ct_needScene hj hs) (fun r_2 A_2 h_2 => ?_) (fun E_2 A_x h_2 => ?_)
  rotate_left
  · exact mt_n h_2 rfl fun hn => ⟨rfl, rfl, by omega⟩
  obtain ⟨rfl, h1, hA_2⟩ := h_2
  obtain rfl := hA_2.symm
  clear hA_2
  refine mx_R fun hR_1 => ?_
  refine mx_aload_n 0 d_H_shot_5 rfl rfl ?_
  refine mx_iload_n 1 d_H_shot_6 rfl rfl ?_
  refine mx_iload_n 2 d_H_shot_7 rfl rfl ?_
  refine mx_callV (kc := 1) (ks := 6) (N := n_H_needFrame) (as := [_, _]) (ci := 6) d_H_shot_8 s_H_179 ⟨Nat.le_of_ble_eq_true rfl, Nat.le_of_ble_eq_true rfl⟩ rfl (mj_wt_8 (Nat.le_of_ble_eq_true rfl)) (hH.o) ⟨_, rfl, rfl⟩ (ct_needFrame hj h1 hf) (fun r_8 A_8 h_8 => ?_) (fun E_8 A_x h_8 => ?_)
  rotate_left
  · exact mt_n h_8 rfl fun hn => ⟨rfl, rfl, by omega⟩
  obtain ⟨rfl, h3, hA_8⟩ := h_8
  obtain rfl := hA_8.symm
  clear hA_8
  refine mx_R fun hR_2 => ?_
  refine mx_iload_n 3 d_H_shot_11 rfl rfl ?_
  refine mx_iload 4 d_H_shot_12 rfl ?_
  refine mx_callS (kc := 0) (ks := 0) (N := n_H_needPoint) (as := [_, _]) d_H_shot_14 s_H_92 ⟨Nat.le_of_ble_eq_true rfl, Nat.le_of_ble_eq_true rfl⟩ rfl (mj_wt_8 (Nat.le_of_ble_eq_true rfl)) (ct_needPoint hx hy) (fun r_14 A_14 h_14 => ?_) (fun E_14 A_x h_14 => ?_)
  rotate_left
  · exact mt_n h_14 rfl fun hn => ⟨rfl, rfl, fun h => hn h.2⟩
  obtain ⟨rfl, h4, hA_14⟩ := h_14
  obtain rfl := hA_14.symm
  clear hA_14
  refine mx_R fun hR_3 => ?_
  have hip := h4
  unfold mo_ip at hip
  have hfr0 := hj.s.fr s h1.1 h1.2
  refine mx_aload_n 0 d_H_shot_17 rfl rfl ?_
  refine mx_getPs 5 d_H_shot_18 f_H_21 rfl rfl (hH.o) (hH.p5) ?_
  refine mx_iload_n 1 d_H_shot_21 rfl rfl ?_
  refine mx_aalds d_H_shot_22 (hH.s5) (by decide) (by omega) (by omega) (hj.s.r s h1.1 h1.2) ?_
  refine mx_getPs 8 d_H_shot_23 f_H_301 rfl rfl (hS.o _ (by omega) (by omega)) (hS.p8 _ (by omega) (by omega)) ?_
  refine mx_iload_n 2 d_H_shot_26 rfl rfl ?_
  refine mx_sipush d_H_shot_27 (by decide) ?_
  refine mx_imul d_H_shot_30 ?_
  refine mx_iload_n 3 d_H_shot_31 rfl rfl ?_
  refine mx_iload 4 d_H_shot_32 rfl ?_
  refine mx_callS (kc := 0) (ks := 0) (N := n_H_placeOf) (as := [_, _]) d_H_shot_34 s_H_139 ⟨Nat.le_of_ble_eq_true rfl, Nat.le_of_ble_eq_true rfl⟩ rfl (mj_wt_8 (Nat.le_of_ble_eq_true rfl)) (ct_placeOf) (fun r_34 A_34 h_34 => ?_) (fun E_34 A_x h_34 => ?_)
  rotate_left
  · exact h_34.elim
  obtain ⟨rfl, hA_34⟩ := h_34
  obtain rfl := hA_34.symm
  clear hA_34
  refine mx_R fun hR_4 => ?_
  refine mx_iadd d_H_shot_37 ?_
  rw [show f * 192 + (y * 16 + x) = 192 * f + (16 * y + x) by omega]
  refine mx_iald d_H_shot_38 (hS.s8 _ (by omega) (by omega)) (by omega) (by rw [hfr0]; omega) ?_
  rw [hst s h1.1 h1.2 f (16 * y + x) h3.1 h3.2 (by omega) (by omega), show 192 * (24 * s + f) + (16 * y + x) = 192 * (24 * s + f) + 16 * y + x by omega]
  refine mx_iret d_H_shot_39 rfl ?_
  exact ⟨⟨by omega, hip⟩, rfl, rfl⟩
theorem ct_hangs {C : Int → cT} {s f d : Int} (hj : JJ C A) (hs : r32 s) (hf : r32 f) (hd : r32 d) : mj_Cal G n_H_hangs [mR (some 100), mI s, mI f, mI d] A (fun r A' => ((0 ≤ s ∧ s < gI A 200 23 ∧ 0 ≤ f ∧ f < gI A 224 s) ∧ (0 ≤ d ∧ d < gI A 200 3)) ∧ r = some (mI (if mo_hn A s f d 4 = true then 1 else 0)) ∧ A' = A) (px1 A xI ((0 ≤ s ∧ s < gI A 200 23 ∧ 0 ≤ f ∧ f < gI A 224 s) ∧ (0 ≤ d ∧ d < gI A 200 3))) := by
  refine mj_bodyK 3 18 [some (mR (some 100)), some (mI s), some (mI f), some (mI d)] rfl rfl rfl (by decide +kernel) (Nat.le_of_ble_eq_true rfl) (by simp) rfl ?_
  have hH := hj.x.H
  have hS := hj.s.S
  have hns := hj.m.g.ns
  refine mx_R fun hR => ?_
  refine mx_aload_n 0 d_H_hangs_0 rfl rfl ?_
  refine mx_iload_n 1 d_H_hangs_1 rfl rfl ?_
  refine mx_callV (kc := 2) (ks := 12) (N := n_H_needScene) (as := [_]) (ci := 6) d_H_hangs_2 s_H_173 ⟨Nat.le_of_ble_eq_true rfl, Nat.le_of_ble_eq_true rfl⟩ rfl (mj_wt_8 (Nat.le_of_ble_eq_true rfl)) (hH.o) ⟨_, rfl, rfl⟩ (ct_needScene hj hs) (fun r_2 A_2 h_2 => ?_) (fun E_2 A_x h_2 => ?_)
  rotate_left
  · exact mt_n h_2 rfl fun hn => ⟨rfl, rfl, by omega⟩
  obtain ⟨rfl, h1, hA_2⟩ := h_2
  obtain rfl := hA_2.symm
  clear hA_2
  refine mx_R fun hR_1 => ?_
  refine mx_aload_n 0 d_H_hangs_5 rfl rfl ?_
  refine mx_iload_n 1 d_H_hangs_6 rfl rfl ?_
  refine mx_iload_n 2 d_H_hangs_7 rfl rfl ?_
  refine mx_callV (kc := 1) (ks := 6) (N := n_H_needFrame) (as := [_, _]) (ci := 6) d_H_hangs_8 s_H_179 ⟨Nat.le_of_ble_eq_true rfl, Nat.le_of_ble_eq_true rfl⟩ rfl (mj_wt_8 (Nat.le_of_ble_eq_true rfl)) (hH.o) ⟨_, rfl, rfl⟩ (ct_needFrame hj h1 hf) (fun r_8 A_8 h_8 => ?_) (fun E_8 A_x h_8 => ?_)
  rotate_left
  · exact mt_n h_8 rfl fun hn => ⟨rfl, rfl, by omega⟩
  obtain ⟨rfl, h3, hA_8⟩ := h_8
  obtain rfl := hA_8.symm
  clear hA_8
  refine mx_R fun hR_2 => ?_
  refine mx_aload_n 0 d_H_hangs_11 rfl rfl ?_
  refine mx_iload_n 3 d_H_hangs_12 rfl rfl ?_
  refine mx_callV (kc := 0) (ks := 0) (N := n_H_needDrawing) (as := [_]) (ci := 6) d_H_hangs_13 s_H_75 ⟨Nat.le_of_ble_eq_true rfl, Nat.le_of_ble_eq_true rfl⟩ rfl (mj_wt_8 (Nat.le_of_ble_eq_true rfl)) (hH.o) ⟨_, rfl, rfl⟩ (ct_needDrawing hj hd) (fun r_13 A_13 h_13 => ?_) (fun E_13 A_x h_13 => ?_)
  rotate_left
  · exact mt_n h_13 rfl fun hn => ⟨rfl, rfl, by omega⟩
  obtain ⟨rfl, h4, hA_13⟩ := h_13
  obtain rfl := hA_13.symm
  clear hA_13
  refine mx_R fun hR_3 => ?_
  refine mx_aload_n 0 d_H_hangs_16 rfl rfl ?_
  refine mx_aload_n 0 d_H_hangs_17 rfl rfl ?_
  refine mx_getPs 5 d_H_hangs_18 f_H_21 rfl rfl (hH.o) (hH.p5) ?_
  refine mx_iload_n 1 d_H_hangs_21 rfl rfl ?_
  refine mx_aalds d_H_hangs_22 (hH.s5) (by decide) (by omega) (by omega) (hj.s.r s h1.1 h1.2) ?_
  refine mx_iload_n 2 d_H_hangs_23 rfl rfl ?_
  refine mx_iload_n 3 d_H_hangs_24 rfl rfl ?_
  refine mx_callV (kc := 0) (ks := 0) (N := n_H_frameHangsOn) (as := [_, _, _]) (ci := 6) d_H_hangs_25 s_H_304 ⟨Nat.le_of_ble_eq_true rfl, Nat.le_of_ble_eq_true rfl⟩ rfl (mj_wt_8 (Nat.le_of_ble_eq_true rfl)) (hH.o) ⟨_, rfl, rfl⟩ (ct_frameHangsOn hj.x hj.s hj.m.g h1 h3 h4) (fun r_25 A_25 h_25 => ?_) (fun E_25 A_x h_25 => ?_)
  rotate_left
  · exact h_25.elim
  obtain ⟨rfl, hA_25⟩ := h_25
  obtain rfl := hA_25.symm
  clear hA_25
  refine mx_R fun hR_4 => ?_
  refine mx_zret d_H_hangs_28 rfl (mj_01) ?_
  exact ⟨by omega, rfl, rfl⟩
/-- what is composed is seen -/
theorem co_all {C : Int → cT} {W : mj_M} {s f : Int} (hco : ∀ x y, mo_ip x y → gI W 115 (16 * y + x) = mo_sl (vi C A) s f x y 4) {p : Int} (p0 : 0 ≤ p) (p1 : p < 192) : gI W 115 p = mo_se (vi C A) s f (p.tmod 16) (p.tdiv 16) := by
  have hip := mo_ip_p ⟨p0, p1⟩
  have h := hco _ _ hip
  rw [Int.tmod_eq_emod_of_nonneg p0, Int.tdiv_eq_ediv_of_nonneg p0] at h ⊢
  rw [show 16 * (p / 16) + p % 16 = p by omega] at h
  exact h
theorem vi_b {C : Int → cT} (hj : JJ C A) {s f x y : Int} : 0 ≤ mo_se (vi C A) s f x y ∧ mo_se (vi C A) s f x y ≤ 99 := mo_sl_b (by rw [vi_fn (by omega)]; exact hj.m.co) 4
theorem ct_faults {C : Int → cT} {s f : Int} (hj : JJ C A) (hs : r32 s) (hf : r32 f) : mj_Cal G n_H_faults [mR (some 100), mI s, mI f] A (fun r A' => (0 ≤ s ∧ s < gI A 200 23 ∧ 0 ≤ f ∧ f < gI A 224 s) ∧ r = some (mI (mo_fa C A s f)) ∧ cq C A A') (px1 A xI (0 ≤ s ∧ s < gI A 200 23 ∧ 0 ≤ f ∧ f < gI A 224 s)) := by
  refine mj_bodyK 2 12 [some (mR (some 100)), some (mI s), some (mI f), none, none] rfl rfl rfl (by decide +kernel) (Nat.le_of_ble_eq_true rfl) (by simp) rfl ?_
  have hH := hj.x.H
  have hS := hj.s.S
  have hns := hj.m.g.ns
  refine mx_R fun hR => ?_
  refine mx_aload_n 0 d_H_faults_0 rfl rfl ?_
  refine mx_iload_n 1 d_H_faults_1 rfl rfl ?_
  refine mx_callV (kc := 1) (ks := 6) (N := n_H_needScene) (as := [_]) (ci := 6) d_H_faults_2 s_H_173 ⟨Nat.le_of_ble_eq_true rfl, Nat.le_of_ble_eq_true rfl⟩ rfl (mj_wt_8 (Nat.le_of_ble_eq_true rfl)) (hH.o) ⟨_, rfl, rfl⟩ (ct_needScene hj hs) (fun r_2 A_2 h_2 => ?_) (fun E_2 A_x h_2 => ?_)
  rotate_left
  · exact mt_n h_2 rfl fun hn => ⟨rfl, rfl, by omega⟩
  obtain ⟨rfl, h1, hA_2⟩ := h_2
  obtain rfl := hA_2.symm
  clear hA_2
  refine mx_R fun hR_1 => ?_
  refine mx_aload_n 0 d_H_faults_5 rfl rfl ?_
  refine mx_iload_n 1 d_H_faults_6 rfl rfl ?_
  refine mx_iload_n 2 d_H_faults_7 rfl rfl ?_
  refine mx_callV (kc := 0) (ks := 0) (N := n_H_needFrame) (as := [_, _]) (ci := 6) d_H_faults_8 s_H_179 ⟨Nat.le_of_ble_eq_true rfl, Nat.le_of_ble_eq_true rfl⟩ rfl (mj_wt_8 (Nat.le_of_ble_eq_true rfl)) (hH.o) ⟨_, rfl, rfl⟩ (ct_needFrame hj h1 hf) (fun r_8 A_8 h_8 => ?_) (fun E_8 A_x h_8 => ?_)
  rotate_left
  · exact mt_n h_8 rfl fun hn => ⟨rfl, rfl, by omega⟩
  obtain ⟨rfl, h3, hA_8⟩ := h_8
  obtain rfl := hA_8.symm
  clear hA_8
  refine mx_R fun hR_2 => ?_
  refine mx_aload_n 0 d_H_faults_11 rfl rfl ?_
  refine mx_getPs 5 d_H_faults_12 f_H_21 rfl rfl (hH.o) (hH.p5) ?_
  refine mx_iload_n 1 d_H_faults_15 rfl rfl ?_
  refine mx_aalds d_H_faults_16 (hH.s5) (by decide) (by omega) (by omega) (hj.s.r s h1.1 h1.2) ?_
  refine mx_astore_n 3 d_H_faults_17 rfl (Nat.le_of_ble_eq_true rfl) ?_
  refine mx_iconst d_H_faults_18 ?_
  refine mx_istore 4 d_H_faults_19 (Nat.le_of_ble_eq_true rfl) ?_
  refine mx_aload_n 0 d_H_faults_21 rfl rfl ?_
  refine mx_aload_n 3 d_H_faults_22 rfl rfl ?_
  refine mx_iload_n 2 d_H_faults_23 rfl rfl ?_
  refine mx_callV (kc := 0) (ks := 0) (N := n_H_hasEmptyDrawing) (as := [_, _]) (ci := 6) d_H_faults_24 s_H_308 ⟨Nat.le_of_ble_eq_true rfl, Nat.le_of_ble_eq_true rfl⟩ rfl (mj_wt_8 (Nat.le_of_ble_eq_true rfl)) (hH.o) ⟨_, rfl, rfl⟩ (ct_hasEmpty hj h1 h3) (fun r_24 A_24 h_24 => ?_) (fun E_24 A_x h_24 => ?_)
  rotate_left
  · exact h_24.elim
  obtain ⟨rfl, hA_24⟩ := h_24
  obtain rfl := hA_24.symm
  clear hA_24
  refine mx_R fun hR_3 => ?_
  refine mx_if_eq 33 d_H_faults_27 rfl (by first | assumption | exact hR_3 _ _ | exact hR_2 _ _ | exact hR_1 _ _ | exact hR _ _ | exact r32_mk (by omega) (by omega)) (fun c_27 => ?_) (fun c_27 => ?_)
  · refine mx_aload_n 0 d_H_faults_33 rfl rfl ?_
    refine mx_aload_n 3 d_H_faults_34 rfl rfl ?_
    refine mx_iload_n 2 d_H_faults_35 rfl rfl ?_
    refine mx_callV (kc := 0) (ks := 0) (N := n_H_hasFlash) (as := [_, _]) (ci := 6) d_H_faults_36 s_H_312 ⟨Nat.le_of_ble_eq_true rfl, Nat.le_of_ble_eq_true rfl⟩ rfl (mj_wt_8 (Nat.le_of_ble_eq_true rfl)) (hH.o) ⟨_, rfl, rfl⟩ (ct_hasFlash hj h1 h3) (fun r_36 A_36 h_36 => ?_) (fun E_36 A_x h_36 => ?_)
    rotate_left
    · exact h_36.elim
    obtain ⟨rfl, hA_36⟩ := h_36
    obtain rfl := hA_36.symm
    clear hA_36
    refine mx_R fun hR_4 => ?_
    refine mx_if_eq 45 d_H_faults_39 rfl (by first | assumption | exact hR_4 _ _ | exact hR_3 _ _ | exact hR_2 _ _ | exact hR_1 _ _ | exact hR _ _ | exact r32_mk (by omega) (by omega)) (fun c_39 => ?_) (fun c_39 => ?_)
    · refine mx_aload_n 0 d_H_faults_45 rfl rfl ?_
      refine mx_aload_n 3 d_H_faults_46 rfl rfl ?_
      refine mx_iload_n 2 d_H_faults_47 rfl rfl ?_
      refine mx_callV (kc := 0) (ks := 0) (N := n_H_compose) (as := [_, _]) (ci := 6) d_H_faults_48 s_H_240 ⟨Nat.le_of_ble_eq_true rfl, Nat.le_of_ble_eq_true rfl⟩ rfl (mj_wt_8 (Nat.le_of_ble_eq_true rfl)) (hH.o) ⟨_, rfl, rfl⟩ (ct_compose hj h1 h3) (fun r_48 A_48 h_48 => ?_) (fun E_48 A_x h_48 => ?_)
      rotate_left
      · exact h_48.elim
      obtain ⟨rfl, hq, hco⟩ := h_48
      refine mx_R fun hR_5 => ?_
      have hH := hq.j.x.H
      have hall : mj_all (fun p => decide (gI A_48 115 p = 0)) 192 = true ↔ mo_fe (vi C A) s f 192 = true := by
        unfold mo_fe
        rw [mj_all_iff, mj_all_iff]
        constructor
        · intro h i i0 i1
          have h9 := h i i0 i1
          rw [decide_eq_true_iff] at h9 ⊢
          rw [← co_all hco i0 (by omega)]
          exact h9
        · intro h i i0 i1
          have h9 := h i i0 i1
          rw [decide_eq_true_iff] at h9 ⊢
          rw [co_all hco i0 (by omega)]
          exact h9
      refine mx_aload_n 0 d_H_faults_51 rfl rfl ?_
      refine mx_callV (kc := 0) (ks := 0) (N := n_H_isComposedEmpty) (as := []) (ci := 6) d_H_faults_52 s_H_315 ⟨Nat.le_of_ble_eq_true rfl, Nat.le_of_ble_eq_true rfl⟩ rfl (mj_wt_8 (Nat.le_of_ble_eq_true rfl)) (hH.o) ⟨_, rfl, rfl⟩ (ct_isComposedEmpty (A := A_48) hH) (fun r_52 A_52 h_52 => ?_) (fun E_52 A_x h_52 => ?_)
      rotate_left
      · exact h_52.elim
      obtain ⟨rfl, hA_52⟩ := h_52
      obtain rfl := hA_52.symm
      clear hA_52
      refine mx_R fun hR_6 => ?_
      refine mx_if_eq 61 d_H_faults_55 rfl (by split <;> exact r32_mk (by omega) (by omega)) (fun c_55 => ?_) (fun c_55 => ?_)
      · refine mx_iload 4 d_H_faults_61 rfl ?_
        refine mx_iret d_H_faults_63 rfl ?_
        refine ⟨by omega, ?_, hq⟩
        unfold mo_fa
        rw [mj_ic hall] at c_55
        refine congrArg (fun z => some (mI z)) ?_
        by_cases b1 : mo_fb C A s f 4 = true <;> by_cases b2 : mo_fj A s f 4 = true <;> by_cases b3 : mo_fe (vi C A) s f 192 = true <;> simp_all
      · refine mx_iinc 4 d_H_faults_58 rfl (Nat.le_of_ble_eq_true rfl) ?_
        refine mx_iload 4 d_H_faults_61 rfl ?_
        refine mx_iret d_H_faults_63 rfl ?_
        refine ⟨by omega, ?_, hq⟩
        unfold mo_fa
        rw [mj_ic hall] at c_55
        refine congrArg (fun z => some (mI z)) ?_
        by_cases b1 : mo_fb C A s f 4 = true <;> by_cases b2 : mo_fj A s f 4 = true <;> by_cases b3 : mo_fe (vi C A) s f 192 = true <;> simp_all
    · refine mx_iinc 4 d_H_faults_42 rfl (Nat.le_of_ble_eq_true rfl) ?_
      refine mx_aload_n 0 d_H_faults_45 rfl rfl ?_
      refine mx_aload_n 3 d_H_faults_46 rfl rfl ?_
      refine mx_iload_n 2 d_H_faults_47 rfl rfl ?_
      refine mx_callV (kc := 0) (ks := 0) (N := n_H_compose) (as := [_, _]) (ci := 6) d_H_faults_48 s_H_240 ⟨Nat.le_of_ble_eq_true rfl, Nat.le_of_ble_eq_true rfl⟩ rfl (mj_wt_8 (Nat.le_of_ble_eq_true rfl)) (hH.o) ⟨_, rfl, rfl⟩ (ct_compose hj h1 h3) (fun r_48 A_48 h_48 => ?_) (fun E_48 A_x h_48 => ?_)
      rotate_left
      · exact h_48.elim
      obtain ⟨rfl, hq, hco⟩ := h_48
      refine mx_R fun hR_7 => ?_
      have hH := hq.j.x.H
      have hall : mj_all (fun p => decide (gI A_48 115 p = 0)) 192 = true ↔ mo_fe (vi C A) s f 192 = true := by
        unfold mo_fe
        rw [mj_all_iff, mj_all_iff]
        constructor
        · intro h i i0 i1
          have h9 := h i i0 i1
          rw [decide_eq_true_iff] at h9 ⊢
          rw [← co_all hco i0 (by omega)]
          exact h9
        · intro h i i0 i1
          have h9 := h i i0 i1
          rw [decide_eq_true_iff] at h9 ⊢
          rw [co_all hco i0 (by omega)]
          exact h9
      refine mx_aload_n 0 d_H_faults_51 rfl rfl ?_
      refine mx_callV (kc := 0) (ks := 0) (N := n_H_isComposedEmpty) (as := []) (ci := 6) d_H_faults_52 s_H_315 ⟨Nat.le_of_ble_eq_true rfl, Nat.le_of_ble_eq_true rfl⟩ rfl (mj_wt_8 (Nat.le_of_ble_eq_true rfl)) (hH.o) ⟨_, rfl, rfl⟩ (ct_isComposedEmpty (A := A_48) hH) (fun r_52 A_52 h_52 => ?_) (fun E_52 A_x h_52 => ?_)
      rotate_left
      · exact h_52.elim
      obtain ⟨rfl, hA_52⟩ := h_52
      obtain rfl := hA_52.symm
      clear hA_52
      refine mx_R fun hR_8 => ?_
      refine mx_if_eq 61 d_H_faults_55 rfl (by split <;> exact r32_mk (by omega) (by omega)) (fun c_55 => ?_) (fun c_55 => ?_)
      · refine mx_iload 4 d_H_faults_61 rfl ?_
        refine mx_iret d_H_faults_63 rfl ?_
        refine ⟨by omega, ?_, hq⟩
        unfold mo_fa
        rw [mj_ic hall] at c_55
        refine congrArg (fun z => some (mI z)) ?_
        by_cases b1 : mo_fb C A s f 4 = true <;> by_cases b2 : mo_fj A s f 4 = true <;> by_cases b3 : mo_fe (vi C A) s f 192 = true <;> simp_all
      · refine mx_iinc 4 d_H_faults_58 rfl (Nat.le_of_ble_eq_true rfl) ?_
        refine mx_iload 4 d_H_faults_61 rfl ?_
        refine mx_iret d_H_faults_63 rfl ?_
        refine ⟨by omega, ?_, hq⟩
        unfold mo_fa
        rw [mj_ic hall] at c_55
        refine congrArg (fun z => some (mI z)) ?_
        by_cases b1 : mo_fb C A s f 4 = true <;> by_cases b2 : mo_fj A s f 4 = true <;> by_cases b3 : mo_fe (vi C A) s f 192 = true <;> simp_all
  · refine mx_iinc 4 d_H_faults_30 rfl (Nat.le_of_ble_eq_true rfl) ?_
    refine mx_aload_n 0 d_H_faults_33 rfl rfl ?_
    refine mx_aload_n 3 d_H_faults_34 rfl rfl ?_
    refine mx_iload_n 2 d_H_faults_35 rfl rfl ?_
    refine mx_callV (kc := 0) (ks := 0) (N := n_H_hasFlash) (as := [_, _]) (ci := 6) d_H_faults_36 s_H_312 ⟨Nat.le_of_ble_eq_true rfl, Nat.le_of_ble_eq_true rfl⟩ rfl (mj_wt_8 (Nat.le_of_ble_eq_true rfl)) (hH.o) ⟨_, rfl, rfl⟩ (ct_hasFlash hj h1 h3) (fun r_36 A_36 h_36 => ?_) (fun E_36 A_x h_36 => ?_)
    rotate_left
    · exact h_36.elim
    obtain ⟨rfl, hA_36⟩ := h_36
    obtain rfl := hA_36.symm
    clear hA_36
    refine mx_R fun hR_9 => ?_
    refine mx_if_eq 45 d_H_faults_39 rfl (by first | assumption | exact hR_9 _ _ | exact hR_3 _ _ | exact hR_2 _ _ | exact hR_1 _ _ | exact hR _ _ | exact r32_mk (by omega) (by omega)) (fun c_39 => ?_) (fun c_39 => ?_)
    · refine mx_aload_n 0 d_H_faults_45 rfl rfl ?_
      refine mx_aload_n 3 d_H_faults_46 rfl rfl ?_
      refine mx_iload_n 2 d_H_faults_47 rfl rfl ?_
      refine mx_callV (kc := 0) (ks := 0) (N := n_H_compose) (as := [_, _]) (ci := 6) d_H_faults_48 s_H_240 ⟨Nat.le_of_ble_eq_true rfl, Nat.le_of_ble_eq_true rfl⟩ rfl (mj_wt_8 (Nat.le_of_ble_eq_true rfl)) (hH.o) ⟨_, rfl, rfl⟩ (ct_compose hj h1 h3) (fun r_48 A_48 h_48 => ?_) (fun E_48 A_x h_48 => ?_)
      rotate_left
      · exact h_48.elim
      obtain ⟨rfl, hq, hco⟩ := h_48
      refine mx_R fun hR_10 => ?_
      have hH := hq.j.x.H
      have hall : mj_all (fun p => decide (gI A_48 115 p = 0)) 192 = true ↔ mo_fe (vi C A) s f 192 = true := by
        unfold mo_fe
        rw [mj_all_iff, mj_all_iff]
        constructor
        · intro h i i0 i1
          have h9 := h i i0 i1
          rw [decide_eq_true_iff] at h9 ⊢
          rw [← co_all hco i0 (by omega)]
          exact h9
        · intro h i i0 i1
          have h9 := h i i0 i1
          rw [decide_eq_true_iff] at h9 ⊢
          rw [co_all hco i0 (by omega)]
          exact h9
      refine mx_aload_n 0 d_H_faults_51 rfl rfl ?_
      refine mx_callV (kc := 0) (ks := 0) (N := n_H_isComposedEmpty) (as := []) (ci := 6) d_H_faults_52 s_H_315 ⟨Nat.le_of_ble_eq_true rfl, Nat.le_of_ble_eq_true rfl⟩ rfl (mj_wt_8 (Nat.le_of_ble_eq_true rfl)) (hH.o) ⟨_, rfl, rfl⟩ (ct_isComposedEmpty (A := A_48) hH) (fun r_52 A_52 h_52 => ?_) (fun E_52 A_x h_52 => ?_)
      rotate_left
      · exact h_52.elim
      obtain ⟨rfl, hA_52⟩ := h_52
      obtain rfl := hA_52.symm
      clear hA_52
      refine mx_R fun hR_11 => ?_
      refine mx_if_eq 61 d_H_faults_55 rfl (by split <;> exact r32_mk (by omega) (by omega)) (fun c_55 => ?_) (fun c_55 => ?_)
      · refine mx_iload 4 d_H_faults_61 rfl ?_
        refine mx_iret d_H_faults_63 rfl ?_
        refine ⟨by omega, ?_, hq⟩
        unfold mo_fa
        rw [mj_ic hall] at c_55
        refine congrArg (fun z => some (mI z)) ?_
        by_cases b1 : mo_fb C A s f 4 = true <;> by_cases b2 : mo_fj A s f 4 = true <;> by_cases b3 : mo_fe (vi C A) s f 192 = true <;> simp_all
      · refine mx_iinc 4 d_H_faults_58 rfl (Nat.le_of_ble_eq_true rfl) ?_
        refine mx_iload 4 d_H_faults_61 rfl ?_
        refine mx_iret d_H_faults_63 rfl ?_
        refine ⟨by omega, ?_, hq⟩
        unfold mo_fa
        rw [mj_ic hall] at c_55
        refine congrArg (fun z => some (mI z)) ?_
        by_cases b1 : mo_fb C A s f 4 = true <;> by_cases b2 : mo_fj A s f 4 = true <;> by_cases b3 : mo_fe (vi C A) s f 192 = true <;> simp_all
    · refine mx_iinc 4 d_H_faults_42 rfl (Nat.le_of_ble_eq_true rfl) ?_
      refine mx_aload_n 0 d_H_faults_45 rfl rfl ?_
      refine mx_aload_n 3 d_H_faults_46 rfl rfl ?_
      refine mx_iload_n 2 d_H_faults_47 rfl rfl ?_
      refine mx_callV (kc := 0) (ks := 0) (N := n_H_compose) (as := [_, _]) (ci := 6) d_H_faults_48 s_H_240 ⟨Nat.le_of_ble_eq_true rfl, Nat.le_of_ble_eq_true rfl⟩ rfl (mj_wt_8 (Nat.le_of_ble_eq_true rfl)) (hH.o) ⟨_, rfl, rfl⟩ (ct_compose hj h1 h3) (fun r_48 A_48 h_48 => ?_) (fun E_48 A_x h_48 => ?_)
      rotate_left
      · exact h_48.elim
      obtain ⟨rfl, hq, hco⟩ := h_48
      refine mx_R fun hR_12 => ?_
      have hH := hq.j.x.H
      have hall : mj_all (fun p => decide (gI A_48 115 p = 0)) 192 = true ↔ mo_fe (vi C A) s f 192 = true := by
        unfold mo_fe
        rw [mj_all_iff, mj_all_iff]
        constructor
        · intro h i i0 i1
          have h9 := h i i0 i1
          rw [decide_eq_true_iff] at h9 ⊢
          rw [← co_all hco i0 (by omega)]
          exact h9
        · intro h i i0 i1
          have h9 := h i i0 i1
          rw [decide_eq_true_iff] at h9 ⊢
          rw [co_all hco i0 (by omega)]
          exact h9
      refine mx_aload_n 0 d_H_faults_51 rfl rfl ?_
      refine mx_callV (kc := 0) (ks := 0) (N := n_H_isComposedEmpty) (as := []) (ci := 6) d_H_faults_52 s_H_315 ⟨Nat.le_of_ble_eq_true rfl, Nat.le_of_ble_eq_true rfl⟩ rfl (mj_wt_8 (Nat.le_of_ble_eq_true rfl)) (hH.o) ⟨_, rfl, rfl⟩ (ct_isComposedEmpty (A := A_48) hH) (fun r_52 A_52 h_52 => ?_) (fun E_52 A_x h_52 => ?_)
      rotate_left
      · exact h_52.elim
      obtain ⟨rfl, hA_52⟩ := h_52
      obtain rfl := hA_52.symm
      clear hA_52
      refine mx_R fun hR_13 => ?_
      refine mx_if_eq 61 d_H_faults_55 rfl (by split <;> exact r32_mk (by omega) (by omega)) (fun c_55 => ?_) (fun c_55 => ?_)
      · refine mx_iload 4 d_H_faults_61 rfl ?_
        refine mx_iret d_H_faults_63 rfl ?_
        refine ⟨by omega, ?_, hq⟩
        unfold mo_fa
        rw [mj_ic hall] at c_55
        refine congrArg (fun z => some (mI z)) ?_
        by_cases b1 : mo_fb C A s f 4 = true <;> by_cases b2 : mo_fj A s f 4 = true <;> by_cases b3 : mo_fe (vi C A) s f 192 = true <;> simp_all
      · refine mx_iinc 4 d_H_faults_58 rfl (Nat.le_of_ble_eq_true rfl) ?_
        refine mx_iload 4 d_H_faults_61 rfl ?_
        refine mx_iret d_H_faults_63 rfl ?_
        refine ⟨by omega, ?_, hq⟩
        unfold mo_fa
        rw [mj_ic hall] at c_55
        refine congrArg (fun z => some (mI z)) ?_
        by_cases b1 : mo_fb C A s f 4 = true <;> by_cases b2 : mo_fj A s f 4 = true <;> by_cases b3 : mo_fe (vi C A) s f 192 = true <;> simp_all
theorem sf_st {C : Int → cT} {W : mj_M} {s f : Int} (hj : JJ C A) (hst : ST A) (hl : lh A W) (hs : 0 ≤ s ∧ s < gI A 200 23) (hf : 0 ≤ f ∧ f < gI A 224 s) (hco : ∀ x y, mo_ip x y → gI W 115 (16 * y + x) = mo_sl (vi C A) s f x y 4) : mj_all (fun p => decide (gI W ((4000 + 100 * s) + 6) (192 * f + p) = gI W 115 p)) 192 = true ↔ ¬ mo_st (vi C A) s f := by
  have hns := hj.m.g.ns
  have e38 : gI (vi C A) 238 = gI A 238 := vi_fn (by omega)
  have e39 : gI (vi C A) 239 = gI A 239 := vi_fn (by omega)
  rw [mj_all_iff]
  unfold mo_st
  rw [e38, e39]
  constructor
  · intro h hx
    have h0 := h 0 (by omega) (by omega)
    rw [decide_eq_true_iff, hl.I _ _ (by omega), hst s hs.1 hs.2 f 0 hf.1 hf.2 (by omega) (by omega), co_all hco (by omega) (by omega)] at h0
    have hb := vi_b hj (s := s) (f := f) (x := Int.tmod 0 16) (y := Int.tdiv 0 16)
    rcases hx with hx | ⟨p, p0, p1, hp⟩
    · rw [if_pos hx] at h0
      omega
    · have hz : ¬ gI A 238 (24 * s + f) = 0 := fun e => by
        rw [if_pos e] at h0
        omega
      have h1 := h p p0 (by omega)
      rw [decide_eq_true_iff, hl.I _ _ (by omega), hst s hs.1 hs.2 f p hf.1 hf.2 p0 p1, if_neg hz, co_all hco p0 p1] at h1
      exact hp h1
  · intro h p p0 p1
    rw [decide_eq_true_iff, hl.I _ _ (by omega), hst s hs.1 hs.2 f p hf.1 hf.2 p0 (by omega), if_neg (fun e => h (Or.inl e)), co_all hco p0 (by omega)]
    by_cases e : gI A 239 (192 * (24 * s + f) + p) = mo_se (vi C A) s f (p.tmod 16) (p.tdiv 16)
    · exact e
    · exact absurd (Or.inr ⟨p, p0, by omega, e⟩) h
theorem lh_vi {C : Int → cT} {W : mj_M} (h : lh A W) : ∀ c, 222 ≤ c → c ≤ 237 → gI (vi C W) c = gI (vi C A) c := fun c h0 h1 => by
  rw [vi_fn (by omega), vi_fn (by omega)]
  exact funext fun i => h.I c i (by omega)
theorem lh_se {C : Int → cT} {W : mj_M} (h : lh A W) {s f x y : Int} : mo_se (vi C W) s f x y = mo_se (vi C A) s f x y := mo_se_c (lh_vi h) rfl
theorem lh_sb {C : Int → cT} {W : mj_M} (h : lh A W) {s f : Int} : mo_sb (vi C W) s f = mo_sb (vi C A) s f := mo_sb_c (mo_st_c (by rw [vi_fn (by omega), vi_fn (by omega)]; exact h.I _ _ (by omega)) (fun p _ _ => by rw [vi_fn (by omega), vi_fn (by omega)]; exact h.I _ _ (by omega)) (fun x y => lh_se h))
theorem ct_stale {C : Int → cT} {s : Int} (hj : JJ C A) (hst : ST A) (hs : r32 s) : mj_Cal G n_H_stale [mR (some 100), mI s] A (fun r A' => (0 ≤ s ∧ s < gI A 200 23) ∧ r = some (mI (mj_sum (fun f => mo_sb (vi C A) s f) (gI A 224 s).toNat)) ∧ cq C A A') (px1 A xI (0 ≤ s ∧ s < gI A 200 23)) := by
  refine mj_bodyK 1 6 [some (mR (some 100)), some (mI s), none, none, none] rfl rfl rfl (by decide +kernel) (Nat.le_of_ble_eq_true rfl) (by simp) rfl ?_
  have hH := hj.x.H
  have hns := hj.m.g.ns
  have hS := hj.s.S
  refine mx_R fun hR => ?_
  refine mx_aload_n 0 d_H_stale_0 rfl rfl ?_
  refine mx_iload_n 1 d_H_stale_1 rfl rfl ?_
  refine mx_callV (kc := 0) (ks := 0) (N := n_H_needScene) (as := [_]) (ci := 6) d_H_stale_2 s_H_173 ⟨Nat.le_of_ble_eq_true rfl, Nat.le_of_ble_eq_true rfl⟩ rfl (mj_wt_8 (Nat.le_of_ble_eq_true rfl)) (hH.o) ⟨_, rfl, rfl⟩ (ct_needScene hj hs) (fun r_2 A_2 h_2 => ?_) (fun E_2 A_x h_2 => ?_)
  rotate_left
  · exact mt_n h_2 rfl fun hn => ⟨rfl, rfl, hn⟩
  obtain ⟨rfl, h1, hA_2⟩ := h_2
  obtain rfl := hA_2.symm
  clear hA_2
  refine mx_R fun hR_1 => ?_
  refine mx_aload_n 0 d_H_stale_5 rfl rfl ?_
  refine mx_getPs 5 d_H_stale_6 f_H_21 rfl rfl (hH.o) (hH.p5) ?_
  refine mx_iload_n 1 d_H_stale_9 rfl rfl ?_
  refine mx_aalds d_H_stale_10 (hH.s5) (by decide) (by omega) (by omega) (hj.s.r s h1.1 h1.2) ?_
  refine mx_astore_n 2 d_H_stale_11 rfl (Nat.le_of_ble_eq_true rfl) ?_
  refine mx_iconst d_H_stale_12 ?_
  refine mx_istore_n 3 d_H_stale_13 rfl (Nat.le_of_ble_eq_true rfl) ?_
  refine mx_iconst d_H_stale_14 ?_
  refine mx_istore 4 d_H_stale_15 (Nat.le_of_ble_eq_true rfl) ?_
  have hfr := hj.m.g.fr s h1.1 h1.2
  have hl : ∀ q : Nat × mj_M, ((q.1 : Int) ≤ gI A 224 s ∧ cq C A q.2) → mj_X G n_H_stale (mj_Qm G n_H_stale (fun r A' => (0 ≤ s ∧ s < gI A 200 23) ∧ r = some (mI (mj_sum (fun f => mo_sb (vi C A) s f) (gI A 224 s).toNat)) ∧ cq C A A') (px1 A xI (0 ≤ s ∧ s < gI A 200 23))) q.2 0 0 17 [some (mR (some 100)), some (mI s), some (mR (some (4000 + 100 * s))), some (mI (mj_sum (fun f => mo_sb (vi C A) s f) q.1)), some (mI (q.1 : Int))] [] := by
    refine mj_loop _ (fun q => 25 - q.1) _ ?_
    intro ⟨k, W⟩ ⟨hk, hq⟩ ih
    replace hk : (k : Int) ≤ gI A 224 s := hk
    replace hq : cq C A W := hq
    show mj_X G n_H_stale (mj_Qm G n_H_stale (fun r A' => (0 ≤ s ∧ s < gI A 200 23) ∧ r = some (mI (mj_sum (fun f => mo_sb (vi C A) s f) (gI A 224 s).toNat)) ∧ cq C A A') (px1 A xI (0 ≤ s ∧ s < gI A 200 23))) W 0 0 17 [some (mR (some 100)), some (mI s), some (mR (some (4000 + 100 * s))), some (mI (mj_sum (fun f => mo_sb (vi C A) s f) k)), some (mI (k : Int))] []
    have hw := hq.j
    have hlw := hq.l
    have hH := hw.x.H
    have e23 : gI W 200 23 = gI A 200 23 := hlw.I _ _ (by omega)
    have e24 : gI W 224 s = gI A 224 s := hlw.I _ _ (by omega)
    have hs' : 0 ≤ s ∧ s < gI W 200 23 := by rw [e23]; exact h1
    have hS := hw.s.S
    have hfr0 := (hw.s.fr s hs'.1 hs'.2).trans e24
    have e9 : mj_sum (fun f => mo_sb (vi C A) s f) (k + 1) = mj_sum (fun f => mo_sb (vi C A) s f) k + mo_sb (vi C A) s k := rfl
    have esb := lh_sb (C := C) hlw (s := s) (f := k)
    refine mx_R fun hR => ?_
    refine mx_iload 4 d_H_stale_17 rfl ?_
    refine mx_aload_n 2 d_H_stale_19 rfl rfl ?_
    refine mx_getI 0 d_H_stale_20 f_H_184 rfl rfl (hS.o s hs'.1 hs'.2) ?_
    rw [hfr0]
    refine mx_icmp_ge 55 d_H_stale_23 rfl (by first | assumption | exact hR _ _ | exact r32_mk (by omega) (by omega)) (by first | assumption | exact hR _ _ | exact r32_mk (by omega) (by omega)) (fun c_23 => ?_) (fun c_23 => ?_)
    · refine mx_iload_n 3 d_H_stale_55 rfl rfl ?_
      refine mx_iret d_H_stale_56 rfl ?_
      refine ⟨h1, ?_, hq⟩
      rw [show (gI A 224 s).toNat = k by omega]
    · refine mx_aload_n 0 d_H_stale_26 rfl rfl ?_
      refine mx_aload_n 2 d_H_stale_27 rfl rfl ?_
      refine mx_iload 4 d_H_stale_28 rfl ?_
      refine mx_callV (kc := 0) (ks := 0) (N := n_H_compose) (as := [_, _]) (ci := 6) d_H_stale_30 s_H_240 ⟨Nat.le_of_ble_eq_true rfl, Nat.le_of_ble_eq_true rfl⟩ rfl (mj_wt_8 (Nat.le_of_ble_eq_true rfl)) (hH.o) ⟨_, rfl, rfl⟩ (ct_compose (f := (k : Int)) hw hs' (by rw [e24]; exact ⟨by omega, by omega⟩)) (fun r_30 A_30 h_30 => ?_) (fun E_30 A_x h_30 => ?_)
      rotate_left
      · exact h_30.elim
      obtain ⟨rfl, hq2, hco⟩ := h_30
      refine mx_R fun hR_1 => ?_
      have hw2 := hq2.j
      have hl2 := hq2.l
      have hH := hw2.x.H
      have e23' : gI A_30 200 23 = gI A 200 23 := (hl2.I _ _ (by omega)).trans e23
      have e24' : gI A_30 224 s = gI A 224 s := (hl2.I _ _ (by omega)).trans e24
      have hs2 : 0 ≤ s ∧ s < gI A_30 200 23 := by rw [e23']; exact h1
      have hS := hw2.s.S
      have hall := sf_st (f := (k : Int)) hw (ST_ag (A := A) hns (fun c i hc => hlw.I c i (by omega)) hst) hl2 hs' (by rw [e24]; exact ⟨by omega, by omega⟩) hco
      have hq3 : cq C A A_30 := ⟨hw2, lh_tr hlw hl2⟩
      refine mx_aload_n 2 d_H_stale_33 rfl rfl ?_
      refine mx_iload 4 d_H_stale_34 rfl ?_
      refine mx_aload_n 0 d_H_stale_36 rfl rfl ?_
      refine mx_getPs 14 d_H_stale_37 f_H_49 rfl rfl (hH.o) (hH.p14) ?_
      refine mx_callV (kc := 0) (ks := 0) (N := n_S_isAsShot) (as := [_, _]) (ci := 4) d_H_stale_40 s_H_244 ⟨Nat.le_of_ble_eq_true rfl, Nat.le_of_ble_eq_true rfl⟩ rfl (mj_wt_8 (Nat.le_of_ble_eq_true rfl)) (hS.o s hs2.1 hs2.2) ⟨_, rfl, rfl⟩ (ct_isAsShot (A := A_30) (f := (k : Int)) hw2.s hw2.m.g hs2 (by rw [e24']; exact ⟨by omega, by omega⟩) hH.s14) (fun r_40 A_40 h_40 => ?_) (fun E_40 A_x h_40 => ?_)
      rotate_left
      · exact h_40.elim
      obtain ⟨rfl, hA_40⟩ := h_40
      obtain rfl := hA_40.symm
      clear hA_40
      refine mx_R fun hR_2 => ?_
      refine mx_if_ne 49 d_H_stale_43 rfl (by split <;> exact r32_mk (by omega) (by omega)) (fun c_43 => ?_) (fun c_43 => ?_)
      · refine mx_iinc 4 d_H_stale_49 rfl (Nat.le_of_ble_eq_true rfl) ?_
        refine mx_goto 17 d_H_stale_52 rfl ?_
        have h9 := ih (k + 1, A_30) ⟨by show ((k + 1 : Nat) : Int) ≤ _; omega, hq3⟩ (by show 25 - (k + 1) < 25 - k; omega)
        replace h9 : mj_X G n_H_stale (mj_Qm G n_H_stale (fun r A' => (0 ≤ s ∧ s < gI A 200 23) ∧ r = some (mI (mj_sum (fun f => mo_sb (vi C A) s f) (gI A 224 s).toNat)) ∧ cq C A A') (px1 A xI (0 ≤ s ∧ s < gI A 200 23))) A_30 0 0 17 [some (mR (some 100)), some (mI s), some (mR (some (4000 + 100 * s))), some (mI (mj_sum (fun f => mo_sb (vi C A) s f) (k + 1))), some (mI ((k + 1 : Nat) : Int))] [] := h9
        rw [show ((k + 1 : Nat) : Int) = (k : Int) + 1 by omega, e9, ← esb] at h9
        first
          | (rw [mo_sb_0 (hall.mp (mj_if1 c_43)), Int.add_zero] at h9
             exact h9)
          | (have hst : mo_st (vi C W) s k := Classical.byContradiction fun hx => mj_if0 c_43 (hall.mpr hx)
             rw [mo_sb_1 hst] at h9
             exact h9)
      · refine mx_iinc 3 d_H_stale_46 rfl (Nat.le_of_ble_eq_true rfl) ?_
        refine mx_iinc 4 d_H_stale_49 rfl (Nat.le_of_ble_eq_true rfl) ?_
        refine mx_goto 17 d_H_stale_52 rfl ?_
        have h9 := ih (k + 1, A_30) ⟨by show ((k + 1 : Nat) : Int) ≤ _; omega, hq3⟩ (by show 25 - (k + 1) < 25 - k; omega)
        replace h9 : mj_X G n_H_stale (mj_Qm G n_H_stale (fun r A' => (0 ≤ s ∧ s < gI A 200 23) ∧ r = some (mI (mj_sum (fun f => mo_sb (vi C A) s f) (gI A 224 s).toNat)) ∧ cq C A A') (px1 A xI (0 ≤ s ∧ s < gI A 200 23))) A_30 0 0 17 [some (mR (some 100)), some (mI s), some (mR (some (4000 + 100 * s))), some (mI (mj_sum (fun f => mo_sb (vi C A) s f) (k + 1))), some (mI ((k + 1 : Nat) : Int))] [] := h9
        rw [show ((k + 1 : Nat) : Int) = (k : Int) + 1 by omega, e9, ← esb] at h9
        first
          | (rw [mo_sb_0 (hall.mp (mj_if1 c_43)), Int.add_zero] at h9
             exact h9)
          | (have hst : mo_st (vi C W) s k := Classical.byContradiction fun hx => mj_if0 c_43 (hall.mpr hx)
             rw [mo_sb_1 hst] at h9
             exact h9)
  exact hl (0, A) ⟨by show ((0 : Nat) : Int) ≤ _; omega, hj, lh_rf⟩
theorem of_l {c : cT} (h : cr c) {p : Int} : c_l c p ≠ -1 ↔ c_mk c p = 1 := by
  have h1 := c_lL h p
  unfold c_mk pc_mk
  by_cases h2 : c_L c p = true
  · rw [if_pos h2]
    exact ⟨fun _ => rfl, fun _ h3 => h1.mp h3 h2⟩
  · rw [if_neg h2]
    constructor
    · intro h3; exact absurd (h1.mpr h2) h3
    · intro h3
      exfalso
      split at h3 <;> omega
theorem ct_of {C : Int → cT} {d w : Int} (hj : JJ C A) (hd : r32 d) (hw : r32 w) : mj_Cal G n_H_of [mR (some 100), mI d, mI w] A (fun r A' => ((0 ≤ d ∧ d < gI A 200 3) ∧ (0 ≤ w ∧ w ≤ 5)) ∧ r = some (mI (of_v (C d) w (gI A 208 d))) ∧ cq C A A') (px2 A xI xA (0 ≤ d ∧ d < gI A 200 3) (0 ≤ w ∧ w ≤ 5)) := by
  refine mj_bodyK 2 12 [some (mR (some 100)), some (mI d), some (mI w), none] rfl rfl rfl (by decide +kernel) (Nat.le_of_ble_eq_true rfl) (by simp) rfl ?_
  have hH := hj.x.H
  have hD := hj.D
  have hxn := hj.x.n
  have hnd := hj.m.g.nd
  have pic : 0 ≤ d ∧ d < gI A 200 3 → mj_Cal G n_H_pictureOf [mR (some 100), mR (some (1000 + 100 * d))] A (fun r A' => r = some (mR (some ((1000 + 100 * d) + 12))) ∧ cq C A A' ∧ CS A' ((1000 + 100 * d) + 12) ((1000 + 100 * d) + 13) ((1000 + 100 * d) + 14) ((1000 + 100 * d) + 15) ∧ ∀ p, 0 ≤ p → p < 192 → gI A' ((1000 + 100 * d) + 13) p = c_l (C d) p ∧ gI A' ((1000 + 100 * d) + 14) p = (if c_mk (C d) p = 2 then 1 else 0) ∧ gI A' ((1000 + 100 * d) + 15) p = c_pf (C d) p) mj_no := by
    intro hd2
    refine (ct_pictureOf hH hD hd2 hnd.2 (hj.cr d hd2.1 hd2.2) hj.h.z (hj.h.v d hd2.1 hd2.2)).mono (fun r A' h => ?_) (fun _ _ h => h)
    obtain ⟨hr, hl1, hpv, h13, hz1, ho1⟩ := h
    have hw1 : JJ C A' := JJ_lh hj hl1 (fun e e0 e1 => by
      by_cases ed : e = d
      · rw [ed]; exact Or.inr ⟨h13, hpv⟩
      · rw [ho1 _ _ (by omega)]
        rcases hj.h.v e e0 e1 with h9 | ⟨h9, h8⟩
        · exact Or.inl h9
        · exact Or.inr ⟨h9, pv_e (lh_ce hl1 hD ⟨e0, e1⟩ (hj.cr e e0 e1)) (fun c i h0 h1 => ho1 c i (by omega)) h8⟩) hz1
    have hcs := hD.cs d hd2.1 hd2.2
    have hce := hw1.h.e d hd2.1 (by rw [hl1.I _ _ (by omega)]; exact hd2.2)
    refine ⟨hr, ⟨hw1, hl1⟩, ?_, fun p p0 p1 => ?_⟩
    · unfold CS at hcs ⊢
      rw [hl1.S, hl1.S, hl1.S, hl1.S, hl1.P, hl1.P, hl1.P]
      exact hcs
    · rw [c_l_e hce, c_mk_e hce, c_pf_e hce]
      exact hpv p p0 p1
  refine mx_R fun hR => ?_
  refine mx_aload_n 0 d_H_of_0 rfl rfl ?_
  refine mx_iload_n 1 d_H_of_1 rfl rfl ?_
  refine mx_callV (kc := 1) (ks := 6) (N := n_H_needDrawing) (as := [_]) (ci := 6) d_H_of_2 s_H_75 ⟨Nat.le_of_ble_eq_true rfl, Nat.le_of_ble_eq_true rfl⟩ rfl (mj_wt_8 (Nat.le_of_ble_eq_true rfl)) (hH.o) ⟨_, rfl, rfl⟩ (ct_needDrawing hj hd) (fun r_2 A_2 h_2 => ?_) (fun E_2 A_x h_2 => ?_)
  rotate_left
  · exact mt_n h_2 rfl fun hn => ⟨rfl, Or.inl ⟨rfl, hn⟩⟩
  obtain ⟨rfl, h1, hA_2⟩ := h_2
  obtain rfl := hA_2.symm
  clear hA_2
  refine mx_R fun hR_1 => ?_
  refine mx_aload_n 0 d_H_of_5 rfl rfl ?_
  refine mx_getPs 0 d_H_of_6 f_H_11 rfl rfl (hH.o) (hH.p0) ?_
  refine mx_iload_n 1 d_H_of_9 rfl rfl ?_
  refine mx_aalds d_H_of_10 (hH.s0) (by decide) (by omega) (by omega) (hj.x.r d h1.1 (by omega)) ?_
  refine mx_astore_n 3 d_H_of_11 rfl (Nat.le_of_ble_eq_true rfl) ?_
  have hce := hj.h.e d h1.1 h1.2
  have hcr := hj.m.cr d h1.1 h1.2
  have en : gI A (1000 + 100 * d) 6 = c_n (C d) := hce.n.symm
  have ep : gI A (1000 + 100 * d) 9 = c_p (C d) := hce.p.symm
  have ea : gI A (1000 + 100 * d) 11 = gI A 208 d := hj.h.ap d h1.1 h1.2
  have pic := pic h1
  refine mx_iload_n 2 d_H_of_12 rfl rfl ?_
  by_cases w0 : w = 0
  · refine mx_tableIn 52 d_H_of_13 hw (by omega) (by omega) (off := 39) (by rw [w0]; rfl) rfl ?_
    refine mx_R fun hR => ?_
    refine mx_aload_n 3 d_H_of_52 rfl rfl ?_
    refine mx_getI 6 d_H_of_53 f_H_124 rfl rfl (hD.o d h1.1 h1.2) ?_
    rw [en]
    refine mx_iret d_H_of_56 rfl ?_
    exact ⟨⟨h1, by omega⟩, by unfold of_v; rw [if_pos w0], hj, lh_rf⟩
  by_cases w1 : w = 1
  · refine mx_tableIn 57 d_H_of_13 hw (by omega) (by omega) (off := 44) (by rw [w1]; rfl) rfl ?_
    refine mx_R fun hR => ?_
    refine mx_aload_n 3 d_H_of_57 rfl rfl ?_
    refine mx_getI 9 d_H_of_58 f_H_131 rfl rfl (hD.o d h1.1 h1.2) ?_
    rw [ep]
    refine mx_iret d_H_of_61 rfl ?_
    exact ⟨⟨h1, by omega⟩, by unfold of_v; rw [if_neg w0, if_pos w1], hj, lh_rf⟩
  by_cases w2 : w = 2
  · refine mx_tableIn 62 d_H_of_13 hw (by omega) (by omega) (off := 49) (by rw [w2]; rfl) rfl ?_
    refine mx_R fun hR => ?_
    refine mx_aload_n 3 d_H_of_62 rfl rfl ?_
    refine mx_getI 11 d_H_of_63 f_H_150 rfl rfl (hD.o d h1.1 h1.2) ?_
    rw [ea]
    refine mx_if_eq 73 d_H_of_66 rfl (by rw [← ea]; exact hR _ _) (fun c_66 => ?_) (fun c_66 => ?_)
    · refine mx_iconst d_H_of_73 ?_
      refine mx_iret d_H_of_74 rfl ?_
      refine ⟨⟨h1, by omega⟩, ?_, hj, lh_rf⟩
      unfold of_v
      first
        | rw [if_neg w0, if_neg w1, if_pos w2, if_pos (by assumption)]
        | rw [if_neg w0, if_neg w1, if_pos w2, if_neg (by assumption)]
    · refine mx_iconst d_H_of_69 ?_
      refine mx_goto 74 d_H_of_70 rfl ?_
      refine mx_iret d_H_of_74 rfl ?_
      refine ⟨⟨h1, by omega⟩, ?_, hj, lh_rf⟩
      unfold of_v
      first
        | rw [if_neg w0, if_neg w1, if_pos w2, if_pos (by assumption)]
        | rw [if_neg w0, if_neg w1, if_pos w2, if_neg (by assumption)]
  by_cases w3 : w = 3
  · refine mx_tableIn 75 d_H_of_13 hw (by omega) (by omega) (off := 62) (by rw [w3]; rfl) rfl ?_
    refine mx_R fun hR => ?_
    refine mx_aload_n 0 d_H_of_75 rfl rfl ?_
    refine mx_aload_n 3 d_H_of_76 rfl rfl ?_
    refine mx_callV (kc := 1) (ks := 6) (N := n_H_pictureOf) (as := [_]) (ci := 6) d_H_of_77 s_H_268 ⟨Nat.le_of_ble_eq_true rfl, Nat.le_of_ble_eq_true rfl⟩ rfl (mj_wt_8 (Nat.le_of_ble_eq_true rfl)) (hH.o) ⟨_, rfl, rfl⟩ (pic) (fun r_77 A_77 h_77 => ?_) (fun E_77 A_x h_77 => ?_)
    rotate_left
    · exact h_77.elim
    obtain ⟨rfl, hq, hcs, hpp⟩ := h_77
    refine mx_R fun hR_1 => ?_
    refine mx_callV (kc := 1) (ks := 6) (N := n_C_countPainted) (as := []) (ci := 3) d_H_of_80 s_H_272 ⟨Nat.le_of_ble_eq_true rfl, Nat.le_of_ble_eq_true rfl⟩ rfl (mj_wt_8 (Nat.le_of_ble_eq_true rfl)) (hcs.o) ⟨_, rfl, rfl⟩ (ct_countPainted hcs) (fun r_80 A_80 h_80 => ?_) (fun E_80 A_x h_80 => ?_)
    rotate_left
    · exact h_80.elim
    obtain ⟨rfl, hA_80⟩ := h_80
    obtain rfl := hA_80.symm
    clear hA_80
    refine mx_R fun hR_2 => ?_
    refine mx_iret d_H_of_83 rfl ?_
    refine ⟨⟨h1, by omega⟩, ?_, hq⟩
    unfold of_v
    rw [if_neg w0, if_neg w1, if_neg w2]
    refine congrArg (fun z => some (mI z)) (mj_sum_congr 192 fun p p0 p1 => mj_ic ?_)
    rw [(hpp p p0 (by omega)).2.2]
    constructor
    · intro h; exact Or.inl ⟨w3, h⟩
    · rintro (h | h | h)
      · exact h.2
      · omega
      · omega
  by_cases w4 : w = 4
  · refine mx_tableIn 84 d_H_of_13 hw (by omega) (by omega) (off := 71) (by rw [w4]; rfl) rfl ?_
    refine mx_R fun hR => ?_
    refine mx_aload_n 0 d_H_of_84 rfl rfl ?_
    refine mx_aload_n 3 d_H_of_85 rfl rfl ?_
    refine mx_callV (kc := 1) (ks := 6) (N := n_H_pictureOf) (as := [_]) (ci := 6) d_H_of_86 s_H_268 ⟨Nat.le_of_ble_eq_true rfl, Nat.le_of_ble_eq_true rfl⟩ rfl (mj_wt_8 (Nat.le_of_ble_eq_true rfl)) (hH.o) ⟨_, rfl, rfl⟩ (pic) (fun r_86 A_86 h_86 => ?_) (fun E_86 A_x h_86 => ?_)
    rotate_left
    · exact h_86.elim
    obtain ⟨rfl, hq, hcs, hpp⟩ := h_86
    refine mx_R fun hR_1 => ?_
    refine mx_callV (kc := 1) (ks := 6) (N := n_C_countLines) (as := []) (ci := 3) d_H_of_89 s_H_275 ⟨Nat.le_of_ble_eq_true rfl, Nat.le_of_ble_eq_true rfl⟩ rfl (mj_wt_8 (Nat.le_of_ble_eq_true rfl)) (hcs.o) ⟨_, rfl, rfl⟩ (ct_countLines hcs) (fun r_89 A_89 h_89 => ?_) (fun E_89 A_x h_89 => ?_)
    rotate_left
    · exact h_89.elim
    obtain ⟨rfl, hA_89⟩ := h_89
    obtain rfl := hA_89.symm
    clear hA_89
    refine mx_R fun hR_2 => ?_
    refine mx_iret d_H_of_92 rfl ?_
    refine ⟨⟨h1, by omega⟩, ?_, hq⟩
    unfold of_v
    rw [if_neg w0, if_neg w1, if_neg w2]
    refine congrArg (fun z => some (mI z)) (mj_sum_congr 192 fun p p0 p1 => mj_ic ?_)
    rw [(hpp p p0 (by omega)).1, of_l hcr]
    constructor
    · intro h; exact Or.inr (Or.inl ⟨w4, h⟩)
    · rintro (h | h | h)
      · omega
      · exact h.2
      · omega
  by_cases w5 : w = 5
  · refine mx_tableIn 93 d_H_of_13 hw (by omega) (by omega) (off := 80) (by rw [w5]; rfl) rfl ?_
    refine mx_R fun hR => ?_
    refine mx_aload_n 0 d_H_of_93 rfl rfl ?_
    refine mx_aload_n 3 d_H_of_94 rfl rfl ?_
    refine mx_callV (kc := 1) (ks := 6) (N := n_H_pictureOf) (as := [_]) (ci := 6) d_H_of_95 s_H_268 ⟨Nat.le_of_ble_eq_true rfl, Nat.le_of_ble_eq_true rfl⟩ rfl (mj_wt_8 (Nat.le_of_ble_eq_true rfl)) (hH.o) ⟨_, rfl, rfl⟩ (pic) (fun r_95 A_95 h_95 => ?_) (fun E_95 A_x h_95 => ?_)
    rotate_left
    · exact h_95.elim
    obtain ⟨rfl, hq, hcs, hpp⟩ := h_95
    refine mx_R fun hR_1 => ?_
    refine mx_callV (kc := 1) (ks := 6) (N := n_C_countWalls) (as := []) (ci := 3) d_H_of_98 s_H_278 ⟨Nat.le_of_ble_eq_true rfl, Nat.le_of_ble_eq_true rfl⟩ rfl (mj_wt_8 (Nat.le_of_ble_eq_true rfl)) (hcs.o) ⟨_, rfl, rfl⟩ (ct_countWalls hcs) (fun r_98 A_98 h_98 => ?_) (fun E_98 A_x h_98 => ?_)
    rotate_left
    · exact h_98.elim
    obtain ⟨rfl, hA_98⟩ := h_98
    obtain rfl := hA_98.symm
    clear hA_98
    refine mx_R fun hR_2 => ?_
    refine mx_iret d_H_of_101 rfl ?_
    refine ⟨⟨h1, by omega⟩, ?_, hq⟩
    unfold of_v
    rw [if_neg w0, if_neg w1, if_neg w2]
    refine congrArg (fun z => some (mI z)) (mj_sum_congr 192 fun p p0 p1 => ?_)
    rw [(hpp p p0 (by omega)).2.1]
    refine mj_ic ?_
    constructor
    · intro h; exact Or.inr (Or.inr ⟨w5, h⟩)
    · rintro (h | h | h)
      · omega
      · omega
      · exact h.2
  · refine mx_tableOut 102 d_H_of_13 hw (by omega) rfl ?_
    refine mx_R fun hR => ?_
    refine mx_throwW (text := "what is 0 to 5") t_H_79_83 (by decide) rfl (Nat.le_of_ble_eq_true rfl) (Nat.le_of_ble_eq_true rfl) d_H_of_102 d_H_of_105 d_H_of_106 d_H_of_109 d_H_of_112 ?_
    exact ⟨rfl, Or.inr ⟨rfl, h1, by omega⟩⟩
theorem ct_point {C : Int → cT} {d x y : Int} (hj : JJ C A) (hd : r32 d) (hx : r32 x) (hy : r32 y) : mj_Cal G n_H_point [mR (some 100), mI d, mI x, mI y] A (fun r A' => (0 ≤ d ∧ d < gI A 200 3 ∧ 0 ≤ x ∧ x < 16 ∧ 0 ≤ y ∧ y < 12) ∧ r = some (mI (c_pf (C d) (16 * y + x))) ∧ cq C A A') (px1 A xI (0 ≤ d ∧ d < gI A 200 3 ∧ 0 ≤ x ∧ x < 16 ∧ 0 ≤ y ∧ y < 12)) := by
  refine mj_bodyK 2 12 [some (mR (some 100)), some (mI d), some (mI x), some (mI y)] rfl rfl rfl (by decide +kernel) (Nat.le_of_ble_eq_true rfl) (by simp) rfl ?_
  have hH := hj.x.H
  have hD := hj.D
  have hxn := hj.x.n
  have hnd := hj.m.g.nd
  refine mx_R fun hR => ?_
  refine mx_aload_n 0 d_H_point_0 rfl rfl ?_
  refine mx_iload_n 1 d_H_point_1 rfl rfl ?_
  refine mx_callV (kc := 1) (ks := 6) (N := n_H_needDrawing) (as := [_]) (ci := 6) d_H_point_2 s_H_75 ⟨Nat.le_of_ble_eq_true rfl, Nat.le_of_ble_eq_true rfl⟩ rfl (mj_wt_8 (Nat.le_of_ble_eq_true rfl)) (hH.o) ⟨_, rfl, rfl⟩ (ct_needDrawing hj hd) (fun r_2 A_2 h_2 => ?_) (fun E_2 A_x h_2 => ?_)
  rotate_left
  · exact mt_n h_2 rfl fun hn => ⟨rfl, rfl, by omega⟩
  obtain ⟨rfl, h1, hA_2⟩ := h_2
  obtain rfl := hA_2.symm
  clear hA_2
  refine mx_R fun hR_1 => ?_
  refine mx_iload_n 2 d_H_point_5 rfl rfl ?_
  refine mx_iload_n 3 d_H_point_6 rfl rfl ?_
  refine mx_callS (kc := 0) (ks := 0) (N := n_H_needPoint) (as := [_, _]) d_H_point_7 s_H_92 ⟨Nat.le_of_ble_eq_true rfl, Nat.le_of_ble_eq_true rfl⟩ rfl (mj_wt_8 (Nat.le_of_ble_eq_true rfl)) (ct_needPoint hx hy) (fun r_7 A_7 h_7 => ?_) (fun E_7 A_x h_7 => ?_)
  rotate_left
  · exact mt_n h_7 rfl fun hn => ⟨rfl, rfl, fun h => hn h.2.2⟩
  obtain ⟨rfl, h4, hA_7⟩ := h_7
  obtain rfl := hA_7.symm
  clear hA_7
  refine mx_R fun hR_2 => ?_
  refine mx_aload_n 0 d_H_point_10 rfl rfl ?_
  refine mx_aload_n 0 d_H_point_11 rfl rfl ?_
  refine mx_getPs 0 d_H_point_12 f_H_11 rfl rfl (hH.o) (hH.p0) ?_
  refine mx_iload_n 1 d_H_point_15 rfl rfl ?_
  refine mx_aalds d_H_point_16 (hH.s0) (by decide) (by omega) (by omega) (hj.x.r d h1.1 (by omega)) ?_
  refine mx_callV (kc := 0) (ks := 0) (N := n_H_pictureOf) (as := [_]) (ci := 6) d_H_point_17 s_H_268 ⟨Nat.le_of_ble_eq_true rfl, Nat.le_of_ble_eq_true rfl⟩ rfl (mj_wt_8 (Nat.le_of_ble_eq_true rfl)) (hH.o) ⟨_, rfl, rfl⟩ (ct_pictureOf hH hD h1 hnd.2 (hj.cr d h1.1 h1.2) hj.h.z (hj.h.v d h1.1 h1.2)) (fun r_17 A_17 h_17 => ?_) (fun E_17 A_x h_17 => ?_)
  rotate_left
  · exact h_17.elim
  obtain ⟨rfl, hl1, hpv, h13, hz1, ho1⟩ := h_17
  refine mx_R fun hR_3 => ?_
  have hip := h4
  unfold mo_ip at hip
  have hw1 : JJ C A_17 := JJ_lh hj hl1 (fun e e0 e1 => by
    by_cases ed : e = d
    · rw [ed]; exact Or.inr ⟨h13, hpv⟩
    · rw [ho1 _ _ (by omega)]
      rcases hj.h.v e e0 e1 with h9 | ⟨h9, h8⟩
      · exact Or.inl h9
      · exact Or.inr ⟨h9, pv_e (lh_ce hl1 hD ⟨e0, e1⟩ (hj.cr e e0 e1)) (fun c i h0 h1 => ho1 c i (by omega)) h8⟩) hz1
  have hcs := hD.cs d h1.1 h1.2
  have hcs1 : CS A_17 ((1000 + 100 * d) + 12) ((1000 + 100 * d) + 13) ((1000 + 100 * d) + 14) ((1000 + 100 * d) + 15) := by
    unfold CS at hcs ⊢
    rw [hl1.S, hl1.S, hl1.S, hl1.S, hl1.P, hl1.P, hl1.P]
    exact hcs
  have hce := hw1.h.e d h1.1 (by rw [hl1.I _ _ (by omega)]; exact h1.2)
  refine mx_getPs 2 d_H_point_20 f_H_283 rfl rfl (hcs1.o) (hcs1.p2) ?_
  refine mx_iload_n 2 d_H_point_23 rfl rfl ?_
  refine mx_iload_n 3 d_H_point_24 rfl rfl ?_
  refine mx_callS (kc := 0) (ks := 0) (N := n_H_placeOf) (as := [_, _]) d_H_point_25 s_H_139 ⟨Nat.le_of_ble_eq_true rfl, Nat.le_of_ble_eq_true rfl⟩ rfl (mj_wt_8 (Nat.le_of_ble_eq_true rfl)) (ct_placeOf) (fun r_25 A_25 h_25 => ?_) (fun E_25 A_x h_25 => ?_)
  rotate_left
  · exact h_25.elim
  obtain ⟨rfl, hA_25⟩ := h_25
  obtain rfl := hA_25.symm
  clear hA_25
  refine mx_R fun hR_4 => ?_
  rw [show y * 16 + x = 16 * y + x by omega]
  refine mx_iald d_H_point_28 (hcs1.s2) (by omega) (by omega) ?_
  rw [(hpv _ (by omega) (by omega)).2.2, ← c_pf_e hce]
  refine mx_iret d_H_point_29 rfl ?_
  exact ⟨⟨h1.1, h1.2, hip⟩, rfl, hw1, hl1⟩
end CLSI
