/-! THE LAW, 2: its wrappers -/
section LWRB
variable {G : mj_G} {A : mj_M}
theorem lx_hang {X : Int → Int} {C : Int → cT} {s l p e : Int} (h : JT X C A) (rs : r32 s) (rl : r32 l) (rp : r32 p) (re : r32 e) : mj_Cal G n_L_hang [mR (some 100), mI s, mI l, mI p, mI e] A (fun r A1 => ((((0 ≤ s ∧ s < gI A 200 23) ∧ (0 ≤ l ∧ l ≤ 4) ∧ (p = -1 ∨ (0 ≤ p ∧ p < gI A 200 32))) ∧ (l = 4 ∨ (1 ≤ e ∧ e ≤ 4))) ∧ r = some (mI 0) ∧ ∃ W, (W = hg_m A s l p e) ∧ A1 = W) ∨ (¬ (((0 ≤ s ∧ s < gI A 200 23) ∧ (0 ≤ l ∧ l ≤ 4) ∧ (p = -1 ∨ (0 ≤ p ∧ p < gI A 200 32))) ∧ (l = 4 ∨ (1 ≤ e ∧ e ≤ 4))) ∧ r = some (mI (if ((0 ≤ s ∧ s < gI A 200 23) ∧ (0 ≤ l ∧ l ≤ 4) ∧ (p = -1 ∨ (0 ≤ p ∧ p < gI A 200 32))) then (if (l = 4 ∨ (1 ≤ e ∧ e ≤ 4)) then 0 else 2) else 1)) ∧ A1 = A)) mj_no := by
  refine mj_bodyHK 4 24 [some (mR (some 100)), some (mI s), some (mI l), some (mI p), some (mI e), none] rfl rfl (by decide) (by decide +kernel) (Nat.le_of_ble_eq_true rfl) (by simp) rfl ?_
  have hj := h.j
  have ht := h.t
  have hO := hj.y.o
  have hH := hj.x.H
  refine mx_R fun hR => ?_
  refine mx_aload_n 0 d_L_hang_0 rfl rfl ?_
  refine mx_iload_n 1 d_L_hang_1 rfl rfl ?_
  refine mx_iload_n 2 d_L_hang_2 rfl rfl ?_
  refine mx_iload_n 3 d_L_hang_3 rfl rfl ?_
  refine mx_iload 4 d_L_hang_4 rfl ?_
  refine mx_callV (kc := 0) (ks := 0) (N := n_H_hang) (as := [_, _, _, _]) (ci := 6) d_L_hang_6 s_L_73 ⟨Nat.le_of_ble_eq_true rfl, Nat.le_of_ble_eq_true rfl⟩ rfl (mj_wt_8 (Nat.le_of_ble_eq_true rfl)) (hH.o) ⟨_, rfl, rfl⟩ (ct_hang hj rs rl rp re) (fun r_6 A_6 h_6 => ?_) (fun E_6 A_x h_6 => ?_)
  rotate_left
  · refine mt_px2 h_6 (fun hn => ?_) (fun hi0 hn => ?_)
    · refine mt_catch (name := "java/lang/IndexOutOfBoundsException") [] (0, 9, 12, 19) [(0, 9, 16, 21)] rfl (fun z hz => absurd hz List.not_mem_nil) rfl (by decide) mj_lc_19 mj_ca_IndexOutOfBoundsException (i := 5) (Or.inr ⟨d_L_hang_12, ?_⟩) (by decide)
      refine mx_R fun hR => ?_
      refine mx_iconst d_L_hang_14 ?_
      refine mx_iret d_L_hang_15 rfl ?_
      exact Or.inr ⟨fun hc => hn hc.1, by rw [if_neg hn], rfl⟩
    · refine mt_catch (name := "java/lang/IllegalArgumentException") [(0, 9, 12, 19)] (0, 9, 16, 21) [] rfl (mt_ps1 _ mj_lc_19 (by decide)) rfl (by decide) mj_lc_21 mj_ca_IllegalArgumentException (i := 5) (Or.inr ⟨d_L_hang_16, ?_⟩) (by decide)
      refine mx_R fun hR => ?_
      refine mx_iconst d_L_hang_18 ?_
      refine mx_iret d_L_hang_19 rfl ?_
      exact Or.inr ⟨fun hc => hn hc.2, by rw [if_pos hi0, if_neg hn], rfl⟩
  obtain ⟨rfl, hc, hw⟩ := h_6
  refine mx_R fun hR_1 => ?_
  refine mx_goto 20 d_L_hang_9 rfl ?_
  refine mx_iconst d_L_hang_20 ?_
  refine mx_iret d_L_hang_21 rfl ?_
  exact Or.inl ⟨hc, rfl, A_6, hw, rfl⟩
theorem lx_shoot {X : Int → Int} {C : Int → cT} {s : Int} (h : JT X C A) (rs : r32 s) : mj_Cal G n_L_shoot [mR (some 100), mI s, mR (some 140)] A (fun r A1 => (((0 ≤ s ∧ s < gI A 200 23)) ∧ r = some (mI 0) ∧ ∃ W, (shq C A s (gI A 224 s) W) ∧ A1 = sI W 140 0 (nrm (mj_sum (fun f => mo_sb (vi C A) s f) (gI A 224 s).toNat))) ∨ (¬ ((0 ≤ s ∧ s < gI A 200 23)) ∧ r = some (mI (if (0 ≤ s ∧ s < gI A 200 23) then 0 else 1)) ∧ A1 = A)) mj_no := by
  refine mj_bodyHK 1 6 [some (mR (some 100)), some (mI s), some (mR (some 140)), none] rfl rfl (by decide) (by decide +kernel) (Nat.le_of_ble_eq_true rfl) (by simp) rfl ?_
  have hj := h.j
  have ht := h.t
  have hO := hj.y.o
  have hH := hj.x.H
  refine mx_R fun hR => ?_
  refine mx_aload_n 2 d_L_shoot_0 rfl rfl ?_
  refine mx_iconst d_L_shoot_1 ?_
  refine mx_aload_n 0 d_L_shoot_2 rfl rfl ?_
  refine mx_iload_n 1 d_L_shoot_3 rfl rfl ?_
  refine mx_callV (kc := 0) (ks := 0) (N := n_H_shoot) (as := [_]) (ci := 6) d_L_shoot_4 s_L_77 ⟨Nat.le_of_ble_eq_true rfl, Nat.le_of_ble_eq_true rfl⟩ rfl (mj_wt_8 (Nat.le_of_ble_eq_true rfl)) (hH.o) ⟨_, rfl, rfl⟩ (ct_shoot hj ht rs) (fun r_4 A_4 h_4 => ?_) (fun E_4 A_x h_4 => ?_)
  rotate_left
  · refine mt_px1 h_4 (fun hn => ?_)
    · refine mt_catch (name := "java/lang/IndexOutOfBoundsException") [] (0, 9, 12, 19) [] rfl (fun z hz => absurd hz List.not_mem_nil) rfl (by decide) mj_lc_19 mj_ca_IndexOutOfBoundsException (i := 3) (Or.inl ⟨3, rfl, d_L_shoot_12, ?_⟩) (by decide)
      refine mx_R fun hR => ?_
      refine mx_iconst d_L_shoot_13 ?_
      refine mx_iret d_L_shoot_14 rfl ?_
      exact Or.inr ⟨fun hc => hn hc, by rw [if_neg hn], rfl⟩
  obtain ⟨hc, rfl, hw⟩ := h_4
  refine mx_R fun hR_1 => ?_
  have hO2 : gS A_4 140 = some (.inr (2, 1)) := Eq.trans (b := gS A 140) (hw.l.S 140) hO
  have hnr := nr_r (mj_sum (fun f => mo_sb (vi C A) s f) (gI A 224 s).toNat)
  refine mx_nrm ?_
  refine mx_i2l d_L_shoot_7 (by first | assumption | exact hR_1 _ _ | exact hR _ _ | exact r32_mk (by omega) (by omega)) ?_
  refine mx_last d_L_shoot_8 (hO2) (by omega) (by omega) (by first | assumption | exact hR_1 _ _ | exact hR _ _ | exact r32_mk (by omega) (by omega)) ?_
  refine mx_R fun hR_2 => ?_
  refine mx_goto 15 d_L_shoot_9 rfl ?_
  refine mx_iconst d_L_shoot_15 ?_
  refine mx_iret d_L_shoot_16 rfl ?_
  exact Or.inl ⟨hc, rfl, A_4, hw, rfl⟩
theorem lx_hand {X : Int → Int} {C : Int → cT} {w : Int} (h : JT X C A) (rw : r32 w) : mj_Cal G n_L_hand [mR (some 100), mI w, mR (some 140)] A (fun r A1 => (((1 ≤ w ∧ w ≤ 9) ∧ (gI A 200 40 < 4)) ∧ r = some (mI 0) ∧ ∃ W, (W = sI (sI A 111 (gI A 200 40) w) 100 11 (gI A 200 40 + 1)) ∧ A1 = sI W 140 0 (nrm (gI A 200 40))) ∨ (¬ ((1 ≤ w ∧ w ≤ 9) ∧ (gI A 200 40 < 4)) ∧ r = some (mI (if (1 ≤ w ∧ w ≤ 9) then (if (gI A 200 40 < 4) then 0 else 2) else 1)) ∧ A1 = A)) mj_no := by
  refine mj_bodyHK 2 12 [some (mR (some 100)), some (mI w), some (mR (some 140)), none] rfl rfl (by decide) (by decide +kernel) (Nat.le_of_ble_eq_true rfl) (by simp) rfl ?_
  have hj := h.j
  have ht := h.t
  have hO := hj.y.o
  have hH := hj.x.H
  refine mx_R fun hR => ?_
  refine mx_aload_n 2 d_L_hand_0 rfl rfl ?_
  refine mx_iconst d_L_hand_1 ?_
  refine mx_aload_n 0 d_L_hand_2 rfl rfl ?_
  refine mx_iload_n 1 d_L_hand_3 rfl rfl ?_
  refine mx_callV (kc := 0) (ks := 0) (N := n_H_hand) (as := [_]) (ci := 6) d_L_hand_4 s_L_80 ⟨Nat.le_of_ble_eq_true rfl, Nat.le_of_ble_eq_true rfl⟩ rfl (mj_wt_8 (Nat.le_of_ble_eq_true rfl)) (hH.o) ⟨_, rfl, rfl⟩ (ct_hand hj rw) (fun r_4 A_4 h_4 => ?_) (fun E_4 A_x h_4 => ?_)
  rotate_left
  · refine mt_px2 h_4 (fun hn => ?_) (fun hi0 hn => ?_)
    · refine mt_catch (name := "java/lang/IllegalArgumentException") [] (0, 9, 12, 21) [(0, 9, 15, 13)] rfl (fun z hz => absurd hz List.not_mem_nil) rfl (by decide) mj_lc_21 mj_ca_IllegalArgumentException (i := 3) (Or.inl ⟨3, rfl, d_L_hand_12, ?_⟩) (by decide)
      refine mx_R fun hR => ?_
      refine mx_iconst d_L_hand_13 ?_
      refine mx_iret d_L_hand_14 rfl ?_
      exact Or.inr ⟨fun hc => hn hc.1, by rw [if_neg hn], rfl⟩
    · refine mt_catch (name := "java/lang/IllegalStateException") [(0, 9, 12, 21)] (0, 9, 15, 13) [] rfl (mt_ps1 _ mj_lc_21 (by decide)) rfl (by decide) mj_lc_13 mj_ca_IllegalStateException (i := 3) (Or.inl ⟨3, rfl, d_L_hand_15, ?_⟩) (by decide)
      refine mx_R fun hR => ?_
      refine mx_iconst d_L_hand_16 ?_
      refine mx_iret d_L_hand_17 rfl ?_
      exact Or.inr ⟨fun hc => hn hc.2, by rw [if_pos hi0, if_neg hn], rfl⟩
  obtain ⟨hc, rfl, hw⟩ := h_4
  refine mx_R fun hR_1 => ?_
  have hO2 : gS A_4 140 = some (.inr (2, 1)) := Eq.trans (b := gS A 140) (by rw [hw]; rfl) hO
  have hnr := nr_r (gI A 200 40)
  refine mx_nrm ?_
  refine mx_i2l d_L_hand_7 (by first | assumption | exact hR_1 _ _ | exact hR _ _ | exact r32_mk (by omega) (by omega)) ?_
  refine mx_last d_L_hand_8 (hO2) (by omega) (by omega) (by first | assumption | exact hR_1 _ _ | exact hR _ _ | exact r32_mk (by omega) (by omega)) ?_
  refine mx_R fun hR_2 => ?_
  refine mx_goto 18 d_L_hand_9 rfl ?_
  refine mx_iconst d_L_hand_18 ?_
  refine mx_iret d_L_hand_19 rfl ?_
  exact Or.inl ⟨hc, rfl, A_4, hw, rfl⟩
theorem lx_splice {X : Int → Int} {C : Int → cT} {s : Int} (h : JT X C A) (rs : r32 s) : mj_Cal G n_L_splice [mR (some 100), mI s, mR (some 140)] A (fun r A1 => (((0 ≤ s ∧ s < gI A 200 23) ∧ (gI A 200 43 < 10)) ∧ r = some (mI 0) ∧ ∃ W, (W = sI (sI A 113 (gI A 200 43) s) 100 13 (gI A 200 43 + 1)) ∧ A1 = sI W 140 0 (nrm (mo_fl A + gI A 224 s))) ∨ (¬ ((0 ≤ s ∧ s < gI A 200 23) ∧ (gI A 200 43 < 10)) ∧ r = some (mI (if (0 ≤ s ∧ s < gI A 200 23) then (if (gI A 200 43 < 10) then 0 else 2) else 1)) ∧ A1 = A)) mj_no := by
  refine mj_bodyHK 2 12 [some (mR (some 100)), some (mI s), some (mR (some 140)), none] rfl rfl (by decide) (by decide +kernel) (Nat.le_of_ble_eq_true rfl) (by simp) rfl ?_
  have hj := h.j
  have ht := h.t
  have hO := hj.y.o
  have hH := hj.x.H
  refine mx_R fun hR => ?_
  refine mx_aload_n 2 d_L_splice_0 rfl rfl ?_
  refine mx_iconst d_L_splice_1 ?_
  refine mx_aload_n 0 d_L_splice_2 rfl rfl ?_
  refine mx_iload_n 1 d_L_splice_3 rfl rfl ?_
  refine mx_callV (kc := 0) (ks := 0) (N := n_H_splice) (as := [_]) (ci := 6) d_L_splice_4 s_L_83 ⟨Nat.le_of_ble_eq_true rfl, Nat.le_of_ble_eq_true rfl⟩ rfl (mj_wt_8 (Nat.le_of_ble_eq_true rfl)) (hH.o) ⟨_, rfl, rfl⟩ (ct_splice hj rs) (fun r_4 A_4 h_4 => ?_) (fun E_4 A_x h_4 => ?_)
  rotate_left
  · refine mt_px2 h_4 (fun hn => ?_) (fun hi0 hn => ?_)
    · refine mt_catch (name := "java/lang/IndexOutOfBoundsException") [] (0, 9, 12, 19) [(0, 9, 15, 13)] rfl (fun z hz => absurd hz List.not_mem_nil) rfl (by decide) mj_lc_19 mj_ca_IndexOutOfBoundsException (i := 3) (Or.inl ⟨3, rfl, d_L_splice_12, ?_⟩) (by decide)
      refine mx_R fun hR => ?_
      refine mx_iconst d_L_splice_13 ?_
      refine mx_iret d_L_splice_14 rfl ?_
      exact Or.inr ⟨fun hc => hn hc.1, by rw [if_neg hn], rfl⟩
    · refine mt_catch (name := "java/lang/IllegalStateException") [(0, 9, 12, 19)] (0, 9, 15, 13) [] rfl (mt_ps1 _ mj_lc_19 (by decide)) rfl (by decide) mj_lc_13 mj_ca_IllegalStateException (i := 3) (Or.inl ⟨3, rfl, d_L_splice_15, ?_⟩) (by decide)
      refine mx_R fun hR => ?_
      refine mx_iconst d_L_splice_16 ?_
      refine mx_iret d_L_splice_17 rfl ?_
      exact Or.inr ⟨fun hc => hn hc.2, by rw [if_pos hi0, if_neg hn], rfl⟩
  obtain ⟨hc, rfl, hw⟩ := h_4
  refine mx_R fun hR_1 => ?_
  have hO2 : gS A_4 140 = some (.inr (2, 1)) := Eq.trans (b := gS A 140) (by rw [hw]; rfl) hO
  have hnr := nr_r (mo_fl A + gI A 224 s)
  refine mx_nrm ?_
  refine mx_i2l d_L_splice_7 (by first | assumption | exact hR_1 _ _ | exact hR _ _ | exact r32_mk (by omega) (by omega)) ?_
  refine mx_last d_L_splice_8 (hO2) (by omega) (by omega) (by first | assumption | exact hR_1 _ _ | exact hR _ _ | exact r32_mk (by omega) (by omega)) ?_
  refine mx_R fun hR_2 => ?_
  refine mx_goto 18 d_L_splice_9 rfl ?_
  refine mx_iconst d_L_splice_18 ?_
  refine mx_iret d_L_splice_19 rfl ?_
  exact Or.inl ⟨hc, rfl, A_4, hw, rfl⟩
theorem lx_of {X : Int → Int} {C : Int → cT} {d w : Int} (h : JT X C A) (rd : r32 d) (rw : r32 w) : mj_Cal G n_L_of [mR (some 100), mI d, mI w, mR (some 140)] A (fun r A1 => (((0 ≤ d ∧ d < gI A 200 3) ∧ (0 ≤ w ∧ w ≤ 5)) ∧ r = some (mI 0) ∧ ∃ W, (cq C A W) ∧ A1 = sI W 140 0 (nrm (of_v (C d) w (gI A 208 d)))) ∨ (¬ ((0 ≤ d ∧ d < gI A 200 3) ∧ (0 ≤ w ∧ w ≤ 5)) ∧ r = some (mI (if (0 ≤ d ∧ d < gI A 200 3) then (if (0 ≤ w ∧ w ≤ 5) then 0 else 2) else 1)) ∧ A1 = A)) mj_no := by
  refine mj_bodyHK 2 12 [some (mR (some 100)), some (mI d), some (mI w), some (mR (some 140)), none] rfl rfl (by decide) (by decide +kernel) (Nat.le_of_ble_eq_true rfl) (by simp) rfl ?_
  have hj := h.j
  have ht := h.t
  have hO := hj.y.o
  have hH := hj.x.H
  refine mx_R fun hR => ?_
  refine mx_aload_n 3 d_L_of_0 rfl rfl ?_
  refine mx_iconst d_L_of_1 ?_
  refine mx_aload_n 0 d_L_of_2 rfl rfl ?_
  refine mx_iload_n 1 d_L_of_3 rfl rfl ?_
  refine mx_iload_n 2 d_L_of_4 rfl rfl ?_
  refine mx_callV (kc := 0) (ks := 0) (N := n_H_of) (as := [_, _]) (ci := 6) d_L_of_5 s_L_86 ⟨Nat.le_of_ble_eq_true rfl, Nat.le_of_ble_eq_true rfl⟩ rfl (mj_wt_8 (Nat.le_of_ble_eq_true rfl)) (hH.o) ⟨_, rfl, rfl⟩ (ct_of hj rd rw) (fun r_5 A_5 h_5 => ?_) (fun E_5 A_x h_5 => ?_)
  rotate_left
  · refine mt_px2 h_5 (fun hn => ?_) (fun hi0 hn => ?_)
    · refine mt_catch (name := "java/lang/IndexOutOfBoundsException") [] (0, 10, 13, 19) [(0, 10, 17, 21)] rfl (fun z hz => absurd hz List.not_mem_nil) rfl (by decide) mj_lc_19 mj_ca_IndexOutOfBoundsException (i := 4) (Or.inr ⟨d_L_of_13, ?_⟩) (by decide)
      refine mx_R fun hR => ?_
      refine mx_iconst d_L_of_15 ?_
      refine mx_iret d_L_of_16 rfl ?_
      exact Or.inr ⟨fun hc => hn hc.1, by rw [if_neg hn], rfl⟩
    · refine mt_catch (name := "java/lang/IllegalArgumentException") [(0, 10, 13, 19)] (0, 10, 17, 21) [] rfl (mt_ps1 _ mj_lc_19 (by decide)) rfl (by decide) mj_lc_21 mj_ca_IllegalArgumentException (i := 4) (Or.inr ⟨d_L_of_17, ?_⟩) (by decide)
      refine mx_R fun hR => ?_
      refine mx_iconst d_L_of_19 ?_
      refine mx_iret d_L_of_20 rfl ?_
      exact Or.inr ⟨fun hc => hn hc.2, by rw [if_pos hi0, if_neg hn], rfl⟩
  obtain ⟨hc, rfl, hw⟩ := h_5
  refine mx_R fun hR_1 => ?_
  have hO2 : gS A_5 140 = some (.inr (2, 1)) := Eq.trans (b := gS A 140) (hw.l.S 140) hO
  have hnr := nr_r (of_v (C d) w (gI A 208 d))
  refine mx_nrm ?_
  refine mx_i2l d_L_of_8 (by first | assumption | exact hR_1 _ _ | exact hR _ _ | exact r32_mk (by omega) (by omega)) ?_
  refine mx_last d_L_of_9 (hO2) (by omega) (by omega) (by first | assumption | exact hR_1 _ _ | exact hR _ _ | exact r32_mk (by omega) (by omega)) ?_
  refine mx_R fun hR_2 => ?_
  refine mx_goto 21 d_L_of_10 rfl ?_
  refine mx_iconst d_L_of_21 ?_
  refine mx_iret d_L_of_22 rfl ?_
  exact Or.inl ⟨hc, rfl, A_5, hw, rfl⟩
theorem lx_point {X : Int → Int} {C : Int → cT} {d x y : Int} (h : JT X C A) (rd : r32 d) (rx : r32 x) (ry : r32 y) : mj_Cal G n_L_point [mR (some 100), mI d, mI x, mI y, mR (some 140)] A (fun r A1 => (((0 ≤ d ∧ d < gI A 200 3 ∧ 0 ≤ x ∧ x < 16 ∧ 0 ≤ y ∧ y < 12)) ∧ r = some (mI 0) ∧ ∃ W, (cq C A W) ∧ A1 = sI W 140 0 (nrm (c_pf (C d) (16 * y + x)))) ∨ (¬ ((0 ≤ d ∧ d < gI A 200 3 ∧ 0 ≤ x ∧ x < 16 ∧ 0 ≤ y ∧ y < 12)) ∧ r = some (mI (if (0 ≤ d ∧ d < gI A 200 3 ∧ 0 ≤ x ∧ x < 16 ∧ 0 ≤ y ∧ y < 12) then 0 else 1)) ∧ A1 = A)) mj_no := by
  refine mj_bodyHK 2 12 [some (mR (some 100)), some (mI d), some (mI x), some (mI y), some (mR (some 140)), none] rfl rfl (by decide) (by decide +kernel) (Nat.le_of_ble_eq_true rfl) (by simp) rfl ?_
  have hj := h.j
  have ht := h.t
  have hO := hj.y.o
  have hH := hj.x.H
  refine mx_R fun hR => ?_
  refine mx_aload 4 d_L_point_0 rfl ?_
  refine mx_iconst d_L_point_2 ?_
  refine mx_aload_n 0 d_L_point_3 rfl rfl ?_
  refine mx_iload_n 1 d_L_point_4 rfl rfl ?_
  refine mx_iload_n 2 d_L_point_5 rfl rfl ?_
  refine mx_iload_n 3 d_L_point_6 rfl rfl ?_
  refine mx_callV (kc := 0) (ks := 0) (N := n_H_point) (as := [_, _, _]) (ci := 6) d_L_point_7 s_L_89 ⟨Nat.le_of_ble_eq_true rfl, Nat.le_of_ble_eq_true rfl⟩ rfl (mj_wt_8 (Nat.le_of_ble_eq_true rfl)) (hH.o) ⟨_, rfl, rfl⟩ (ct_point hj rd rx ry) (fun r_7 A_7 h_7 => ?_) (fun E_7 A_x h_7 => ?_)
  rotate_left
  · refine mt_px1 h_7 (fun hn => ?_)
    · refine mt_catch (name := "java/lang/IndexOutOfBoundsException") [] (0, 12, 15, 19) [] rfl (fun z hz => absurd hz List.not_mem_nil) rfl (by decide) mj_lc_19 mj_ca_IndexOutOfBoundsException (i := 5) (Or.inr ⟨d_L_point_15, ?_⟩) (by decide)
      refine mx_R fun hR => ?_
      refine mx_iconst d_L_point_17 ?_
      refine mx_iret d_L_point_18 rfl ?_
      exact Or.inr ⟨fun hc => hn hc, by rw [if_neg hn], rfl⟩
  obtain ⟨hc, rfl, hw⟩ := h_7
  refine mx_R fun hR_1 => ?_
  have hO2 : gS A_7 140 = some (.inr (2, 1)) := Eq.trans (b := gS A 140) (hw.l.S 140) hO
  have hnr := nr_r (c_pf (C d) (16 * y + x))
  refine mx_nrm ?_
  refine mx_i2l d_L_point_10 (by first | assumption | exact hR_1 _ _ | exact hR _ _ | exact r32_mk (by omega) (by omega)) ?_
  refine mx_last d_L_point_11 (hO2) (by omega) (by omega) (by first | assumption | exact hR_1 _ _ | exact hR _ _ | exact r32_mk (by omega) (by omega)) ?_
  refine mx_R fun hR_2 => ?_
  refine mx_goto 19 d_L_point_12 rfl ?_
  refine mx_iconst d_L_point_19 ?_
  refine mx_iret d_L_point_20 rfl ?_
  exact Or.inl ⟨hc, rfl, A_7, hw, rfl⟩
theorem lx_has {X : Int → Int} {C : Int → cT} {s l f : Int} (h : JT X C A) (rs : r32 s) (rl : r32 l) (rf : r32 f) : mj_Cal G n_L_has [mR (some 100), mI s, mI l, mI f, mR (some 140)] A (fun r A1 => ((((0 ≤ s ∧ s < gI A 200 23 ∧ 0 ≤ l ∧ l ≤ 3) ∧ (0 ≤ s ∧ s < gI A 200 23 ∧ 0 ≤ f ∧ f < gI A 224 s))) ∧ r = some (mI 0) ∧ ∃ W, (W = A) ∧ A1 = sI W 140 0 (nrm (mo_ha A s l f))) ∨ (¬ (((0 ≤ s ∧ s < gI A 200 23 ∧ 0 ≤ l ∧ l ≤ 3) ∧ (0 ≤ s ∧ s < gI A 200 23 ∧ 0 ≤ f ∧ f < gI A 224 s))) ∧ r = some (mI (if ((0 ≤ s ∧ s < gI A 200 23 ∧ 0 ≤ l ∧ l ≤ 3) ∧ (0 ≤ s ∧ s < gI A 200 23 ∧ 0 ≤ f ∧ f < gI A 224 s)) then 0 else 1)) ∧ A1 = A)) mj_no := by
  refine mj_bodyHK 3 18 [some (mR (some 100)), some (mI s), some (mI l), some (mI f), some (mR (some 140)), none] rfl rfl (by decide) (by decide +kernel) (Nat.le_of_ble_eq_true rfl) (by simp) rfl ?_
  have hj := h.j
  have ht := h.t
  have hO := hj.y.o
  have hH := hj.x.H
  refine mx_R fun hR => ?_
  refine mx_aload 4 d_L_has_0 rfl ?_
  refine mx_iconst d_L_has_2 ?_
  refine mx_aload_n 0 d_L_has_3 rfl rfl ?_
  refine mx_iload_n 1 d_L_has_4 rfl rfl ?_
  refine mx_iload_n 2 d_L_has_5 rfl rfl ?_
  refine mx_iload_n 3 d_L_has_6 rfl rfl ?_
  refine mx_callV (kc := 0) (ks := 0) (N := n_H_has) (as := [_, _, _]) (ci := 6) d_L_has_7 s_L_92 ⟨Nat.le_of_ble_eq_true rfl, Nat.le_of_ble_eq_true rfl⟩ rfl (mj_wt_8 (Nat.le_of_ble_eq_true rfl)) (hH.o) ⟨_, rfl, rfl⟩ (ct_has hj rs rl rf) (fun r_7 A_7 h_7 => ?_) (fun E_7 A_x h_7 => ?_)
  rotate_left
  · refine mt_px1 h_7 (fun hn => ?_)
    · refine mt_catch (name := "java/lang/IndexOutOfBoundsException") [] (0, 12, 15, 19) [] rfl (fun z hz => absurd hz List.not_mem_nil) rfl (by decide) mj_lc_19 mj_ca_IndexOutOfBoundsException (i := 5) (Or.inr ⟨d_L_has_15, ?_⟩) (by decide)
      refine mx_R fun hR => ?_
      refine mx_iconst d_L_has_17 ?_
      refine mx_iret d_L_has_18 rfl ?_
      exact Or.inr ⟨fun hc => hn hc, by rw [if_neg hn], rfl⟩
  obtain ⟨hc, rfl, hw⟩ := h_7
  refine mx_R fun hR_1 => ?_
  have hO2 : gS A_7 140 = some (.inr (2, 1)) := Eq.trans (b := gS A 140) (by rw [hw]) hO
  have hnr := nr_r (mo_ha A s l f)
  refine mx_nrm ?_
  refine mx_i2l d_L_has_10 (by first | assumption | exact hR_1 _ _ | exact hR _ _ | exact r32_mk (by omega) (by omega)) ?_
  refine mx_last d_L_has_11 (hO2) (by omega) (by omega) (by first | assumption | exact hR_1 _ _ | exact hR _ _ | exact r32_mk (by omega) (by omega)) ?_
  refine mx_R fun hR_2 => ?_
  refine mx_goto 19 d_L_has_12 rfl ?_
  refine mx_iconst d_L_has_19 ?_
  refine mx_iret d_L_has_20 rfl ?_
  exact Or.inl ⟨hc, rfl, A_7, hw, rfl⟩
theorem lx_moved {X : Int → Int} {C : Int → cT} {s l f z : Int} (h : JT X C A) (rs : r32 s) (rl : r32 l) (rf : r32 f) (hz : z = 0 ∨ z = 1) : mj_Cal G n_L_moved [mR (some 100), mI s, mI l, mI f, mI z, mR (some 140)] A (fun r A1 => ((((0 ≤ s ∧ s < gI A 200 23 ∧ 0 ≤ l ∧ l ≤ 3) ∧ (0 ≤ s ∧ s < gI A 200 23 ∧ 0 ≤ f ∧ f < gI A 224 s))) ∧ r = some (mI 0) ∧ ∃ W, (W = A) ∧ A1 = sI W 140 0 (nrm (mo_mv A s l f z))) ∨ (¬ (((0 ≤ s ∧ s < gI A 200 23 ∧ 0 ≤ l ∧ l ≤ 3) ∧ (0 ≤ s ∧ s < gI A 200 23 ∧ 0 ≤ f ∧ f < gI A 224 s))) ∧ r = some (mI (if ((0 ≤ s ∧ s < gI A 200 23 ∧ 0 ≤ l ∧ l ≤ 3) ∧ (0 ≤ s ∧ s < gI A 200 23 ∧ 0 ≤ f ∧ f < gI A 224 s)) then 0 else 1)) ∧ A1 = A)) mj_no := by
  refine mj_bodyHK 3 18 [some (mR (some 100)), some (mI s), some (mI l), some (mI f), some (mI z), some (mR (some 140)), none] rfl rfl (by decide) (by decide +kernel) (Nat.le_of_ble_eq_true rfl) (by simp) rfl ?_
  have hj := h.j
  have ht := h.t
  have hO := hj.y.o
  have hH := hj.x.H
  refine mx_R fun hR => ?_
  refine mx_aload 5 d_L_moved_0 rfl ?_
  refine mx_iconst d_L_moved_2 ?_
  refine mx_aload_n 0 d_L_moved_3 rfl rfl ?_
  refine mx_iload_n 1 d_L_moved_4 rfl rfl ?_
  refine mx_iload_n 2 d_L_moved_5 rfl rfl ?_
  refine mx_iload_n 3 d_L_moved_6 rfl rfl ?_
  refine mx_iload 4 d_L_moved_7 rfl ?_
  refine mx_callV (kc := 0) (ks := 0) (N := n_H_moved) (as := [_, _, _, _]) (ci := 6) d_L_moved_9 s_L_95 ⟨Nat.le_of_ble_eq_true rfl, Nat.le_of_ble_eq_true rfl⟩ rfl (mj_wt_8 (Nat.le_of_ble_eq_true rfl)) (hH.o) ⟨_, rfl, rfl⟩ (ct_moved hj rs rl rf hz) (fun r_9 A_9 h_9 => ?_) (fun E_9 A_x h_9 => ?_)
  rotate_left
  · refine mt_px1 h_9 (fun hn => ?_)
    · refine mt_catch (name := "java/lang/IndexOutOfBoundsException") [] (0, 14, 17, 19) [] rfl (fun z hz => absurd hz List.not_mem_nil) rfl (by decide) mj_lc_19 mj_ca_IndexOutOfBoundsException (i := 6) (Or.inr ⟨d_L_moved_17, ?_⟩) (by decide)
      refine mx_R fun hR => ?_
      refine mx_iconst d_L_moved_19 ?_
      refine mx_iret d_L_moved_20 rfl ?_
      exact Or.inr ⟨fun hc => hn hc, by rw [if_neg hn], rfl⟩
  obtain ⟨hc, rfl, hw⟩ := h_9
  refine mx_R fun hR_1 => ?_
  have hO2 : gS A_9 140 = some (.inr (2, 1)) := Eq.trans (b := gS A 140) (by rw [hw]) hO
  have hnr := nr_r (mo_mv A s l f z)
  refine mx_nrm ?_
  refine mx_i2l d_L_moved_12 (by first | assumption | exact hR_1 _ _ | exact hR _ _ | exact r32_mk (by omega) (by omega)) ?_
  refine mx_last d_L_moved_13 (hO2) (by omega) (by omega) (by first | assumption | exact hR_1 _ _ | exact hR _ _ | exact r32_mk (by omega) (by omega)) ?_
  refine mx_R fun hR_2 => ?_
  refine mx_goto 21 d_L_moved_14 rfl ?_
  refine mx_iconst d_L_moved_21 ?_
  refine mx_iret d_L_moved_22 rfl ?_
  exact Or.inl ⟨hc, rfl, A_9, hw, rfl⟩
theorem lx_seen {X : Int → Int} {C : Int → cT} {s f x y : Int} (h : JT X C A) (rs : r32 s) (rf : r32 f) (rx : r32 x) (ry : r32 y) : mj_Cal G n_L_seen [mR (some 100), mI s, mI f, mI x, mI y, mR (some 140)] A (fun r A1 => ((((0 ≤ s ∧ s < gI A 200 23 ∧ 0 ≤ f ∧ f < gI A 224 s) ∧ (0 ≤ x ∧ x < 16 ∧ 0 ≤ y ∧ y < 12))) ∧ r = some (mI 0) ∧ ∃ W, (cq C A W) ∧ A1 = sI W 140 0 (nrm (mo_se (vi C A) s f x y))) ∨ (¬ (((0 ≤ s ∧ s < gI A 200 23 ∧ 0 ≤ f ∧ f < gI A 224 s) ∧ (0 ≤ x ∧ x < 16 ∧ 0 ≤ y ∧ y < 12))) ∧ r = some (mI (if ((0 ≤ s ∧ s < gI A 200 23 ∧ 0 ≤ f ∧ f < gI A 224 s) ∧ (0 ≤ x ∧ x < 16 ∧ 0 ≤ y ∧ y < 12)) then 0 else 1)) ∧ A1 = A)) mj_no := by
  refine mj_bodyHK 3 18 [some (mR (some 100)), some (mI s), some (mI f), some (mI x), some (mI y), some (mR (some 140)), none] rfl rfl (by decide) (by decide +kernel) (Nat.le_of_ble_eq_true rfl) (by simp) rfl ?_
  have hj := h.j
  have ht := h.t
  have hO := hj.y.o
  have hH := hj.x.H
  refine mx_R fun hR => ?_
  refine mx_aload 5 d_L_seen_0 rfl ?_
  refine mx_iconst d_L_seen_2 ?_
  refine mx_aload_n 0 d_L_seen_3 rfl rfl ?_
  refine mx_iload_n 1 d_L_seen_4 rfl rfl ?_
  refine mx_iload_n 2 d_L_seen_5 rfl rfl ?_
  refine mx_iload_n 3 d_L_seen_6 rfl rfl ?_
  refine mx_iload 4 d_L_seen_7 rfl ?_
  refine mx_callV (kc := 0) (ks := 0) (N := n_H_seen) (as := [_, _, _, _]) (ci := 6) d_L_seen_9 s_L_99 ⟨Nat.le_of_ble_eq_true rfl, Nat.le_of_ble_eq_true rfl⟩ rfl (mj_wt_8 (Nat.le_of_ble_eq_true rfl)) (hH.o) ⟨_, rfl, rfl⟩ (ct_seen hj rs rf rx ry) (fun r_9 A_9 h_9 => ?_) (fun E_9 A_x h_9 => ?_)
  rotate_left
  · refine mt_px1 h_9 (fun hn => ?_)
    · refine mt_catch (name := "java/lang/IndexOutOfBoundsException") [] (0, 14, 17, 19) [] rfl (fun z hz => absurd hz List.not_mem_nil) rfl (by decide) mj_lc_19 mj_ca_IndexOutOfBoundsException (i := 6) (Or.inr ⟨d_L_seen_17, ?_⟩) (by decide)
      refine mx_R fun hR => ?_
      refine mx_iconst d_L_seen_19 ?_
      refine mx_iret d_L_seen_20 rfl ?_
      exact Or.inr ⟨fun hc => hn hc, by rw [if_neg hn], rfl⟩
  obtain ⟨hc, rfl, hw⟩ := h_9
  refine mx_R fun hR_1 => ?_
  have hO2 : gS A_9 140 = some (.inr (2, 1)) := Eq.trans (b := gS A 140) (hw.l.S 140) hO
  have hnr := nr_r (mo_se (vi C A) s f x y)
  refine mx_nrm ?_
  refine mx_i2l d_L_seen_12 (by first | assumption | exact hR_1 _ _ | exact hR _ _ | exact r32_mk (by omega) (by omega)) ?_
  refine mx_last d_L_seen_13 (hO2) (by omega) (by omega) (by first | assumption | exact hR_1 _ _ | exact hR _ _ | exact r32_mk (by omega) (by omega)) ?_
  refine mx_R fun hR_2 => ?_
  refine mx_goto 21 d_L_seen_14 rfl ?_
  refine mx_iconst d_L_seen_21 ?_
  refine mx_iret d_L_seen_22 rfl ?_
  exact Or.inl ⟨hc, rfl, A_9, hw, rfl⟩
theorem lx_seenAnew {X : Int → Int} {C : Int → cT} {s f x y : Int} (h : JT X C A) (rs : r32 s) (rf : r32 f) (rx : r32 x) (ry : r32 y) : mj_Cal G n_L_seenAnew [mR (some 100), mI s, mI f, mI x, mI y, mR (some 140)] A (fun r A1 => ((((0 ≤ s ∧ s < gI A 200 23 ∧ 0 ≤ f ∧ f < gI A 224 s) ∧ (0 ≤ x ∧ x < 16 ∧ 0 ≤ y ∧ y < 12))) ∧ r = some (mI 0) ∧ ∃ W, (cq C A W) ∧ A1 = sI W 140 0 (nrm (mo_se (vi C A) s f x y))) ∨ (¬ (((0 ≤ s ∧ s < gI A 200 23 ∧ 0 ≤ f ∧ f < gI A 224 s) ∧ (0 ≤ x ∧ x < 16 ∧ 0 ≤ y ∧ y < 12))) ∧ r = some (mI (if ((0 ≤ s ∧ s < gI A 200 23 ∧ 0 ≤ f ∧ f < gI A 224 s) ∧ (0 ≤ x ∧ x < 16 ∧ 0 ≤ y ∧ y < 12)) then 0 else 1)) ∧ A1 = A)) mj_no := by
  refine mj_bodyHK 3 18 [some (mR (some 100)), some (mI s), some (mI f), some (mI x), some (mI y), some (mR (some 140)), none] rfl rfl (by decide) (by decide +kernel) (Nat.le_of_ble_eq_true rfl) (by simp) rfl ?_
  have hj := h.j
  have ht := h.t
  have hO := hj.y.o
  have hH := hj.x.H
  refine mx_R fun hR => ?_
  refine mx_aload 5 d_L_seenAnew_0 rfl ?_
  refine mx_iconst d_L_seenAnew_2 ?_
  refine mx_aload_n 0 d_L_seenAnew_3 rfl rfl ?_
  refine mx_iload_n 1 d_L_seenAnew_4 rfl rfl ?_
  refine mx_iload_n 2 d_L_seenAnew_5 rfl rfl ?_
  refine mx_iload_n 3 d_L_seenAnew_6 rfl rfl ?_
  refine mx_iload 4 d_L_seenAnew_7 rfl ?_
  refine mx_callV (kc := 0) (ks := 0) (N := n_H_seenAnew) (as := [_, _, _, _]) (ci := 6) d_L_seenAnew_9 s_L_102 ⟨Nat.le_of_ble_eq_true rfl, Nat.le_of_ble_eq_true rfl⟩ rfl (mj_wt_8 (Nat.le_of_ble_eq_true rfl)) (hH.o) ⟨_, rfl, rfl⟩ (ct_seenAnew hj rs rf rx ry) (fun r_9 A_9 h_9 => ?_) (fun E_9 A_x h_9 => ?_)
  rotate_left
  · refine mt_px1 h_9 (fun hn => ?_)
    · refine mt_catch (name := "java/lang/IndexOutOfBoundsException") [] (0, 14, 17, 19) [] rfl (fun z hz => absurd hz List.not_mem_nil) rfl (by decide) mj_lc_19 mj_ca_IndexOutOfBoundsException (i := 6) (Or.inr ⟨d_L_seenAnew_17, ?_⟩) (by decide)
      refine mx_R fun hR => ?_
      refine mx_iconst d_L_seenAnew_19 ?_
      refine mx_iret d_L_seenAnew_20 rfl ?_
      exact Or.inr ⟨fun hc => hn hc, by rw [if_neg hn], rfl⟩
  obtain ⟨hc, rfl, hw⟩ := h_9
  refine mx_R fun hR_1 => ?_
  have hO2 : gS A_9 140 = some (.inr (2, 1)) := Eq.trans (b := gS A 140) (hw.l.S 140) hO
  have hnr := nr_r (mo_se (vi C A) s f x y)
  refine mx_nrm ?_
  refine mx_i2l d_L_seenAnew_12 (by first | assumption | exact hR_1 _ _ | exact hR _ _ | exact r32_mk (by omega) (by omega)) ?_
  refine mx_last d_L_seenAnew_13 (hO2) (by omega) (by omega) (by first | assumption | exact hR_1 _ _ | exact hR _ _ | exact r32_mk (by omega) (by omega)) ?_
  refine mx_R fun hR_2 => ?_
  refine mx_goto 21 d_L_seenAnew_14 rfl ?_
  refine mx_iconst d_L_seenAnew_21 ?_
  refine mx_iret d_L_seenAnew_22 rfl ?_
  exact Or.inl ⟨hc, rfl, A_9, hw, rfl⟩
theorem lx_shot {X : Int → Int} {C : Int → cT} {s f x y : Int} (h : JT X C A) (rs : r32 s) (rf : r32 f) (rx : r32 x) (ry : r32 y) : mj_Cal G n_L_shot [mR (some 100), mI s, mI f, mI x, mI y, mR (some 140)] A (fun r A1 => ((((0 ≤ s ∧ s < gI A 200 23 ∧ 0 ≤ f ∧ f < gI A 224 s) ∧ (0 ≤ x ∧ x < 16 ∧ 0 ≤ y ∧ y < 12))) ∧ r = some (mI 0) ∧ ∃ W, (W = A) ∧ A1 = sI W 140 0 (nrm (if gI A 238 (24 * s + f) = 0 then -1 else gI A 239 (192 * (24 * s + f) + 16 * y + x)))) ∨ (¬ (((0 ≤ s ∧ s < gI A 200 23 ∧ 0 ≤ f ∧ f < gI A 224 s) ∧ (0 ≤ x ∧ x < 16 ∧ 0 ≤ y ∧ y < 12))) ∧ r = some (mI (if ((0 ≤ s ∧ s < gI A 200 23 ∧ 0 ≤ f ∧ f < gI A 224 s) ∧ (0 ≤ x ∧ x < 16 ∧ 0 ≤ y ∧ y < 12)) then 0 else 1)) ∧ A1 = A)) mj_no := by
  refine mj_bodyHK 3 18 [some (mR (some 100)), some (mI s), some (mI f), some (mI x), some (mI y), some (mR (some 140)), none] rfl rfl (by decide) (by decide +kernel) (Nat.le_of_ble_eq_true rfl) (by simp) rfl ?_
  have hj := h.j
  have ht := h.t
  have hO := hj.y.o
  have hH := hj.x.H
  refine mx_R fun hR => ?_
  refine mx_aload 5 d_L_shot_0 rfl ?_
  refine mx_iconst d_L_shot_2 ?_
  refine mx_aload_n 0 d_L_shot_3 rfl rfl ?_
  refine mx_iload_n 1 d_L_shot_4 rfl rfl ?_
  refine mx_iload_n 2 d_L_shot_5 rfl rfl ?_
  refine mx_iload_n 3 d_L_shot_6 rfl rfl ?_
  refine mx_iload 4 d_L_shot_7 rfl ?_
  refine mx_callV (kc := 0) (ks := 0) (N := n_H_shot) (as := [_, _, _, _]) (ci := 6) d_L_shot_9 s_L_105 ⟨Nat.le_of_ble_eq_true rfl, Nat.le_of_ble_eq_true rfl⟩ rfl (mj_wt_8 (Nat.le_of_ble_eq_true rfl)) (hH.o) ⟨_, rfl, rfl⟩ (ct_shot hj ht rs rf rx ry) (fun r_9 A_9 h_9 => ?_) (fun E_9 A_x h_9 => ?_)
  rotate_left
  · refine mt_px1 h_9 (fun hn => ?_)
    · refine mt_catch (name := "java/lang/IndexOutOfBoundsException") [] (0, 14, 17, 19) [] rfl (fun z hz => absurd hz List.not_mem_nil) rfl (by decide) mj_lc_19 mj_ca_IndexOutOfBoundsException (i := 6) (Or.inr ⟨d_L_shot_17, ?_⟩) (by decide)
      refine mx_R fun hR => ?_
      refine mx_iconst d_L_shot_19 ?_
      refine mx_iret d_L_shot_20 rfl ?_
      exact Or.inr ⟨fun hc => hn hc, by rw [if_neg hn], rfl⟩
  obtain ⟨hc, rfl, hw⟩ := h_9
  refine mx_R fun hR_1 => ?_
  have hO2 : gS A_9 140 = some (.inr (2, 1)) := Eq.trans (b := gS A 140) (by rw [hw]) hO
  have hnr := nr_r (if gI A 238 (24 * s + f) = 0 then -1 else gI A 239 (192 * (24 * s + f) + 16 * y + x))
  refine mx_nrm ?_
  refine mx_i2l d_L_shot_12 (by first | assumption | exact hR_1 _ _ | exact hR _ _ | exact r32_mk (by omega) (by omega)) ?_
  refine mx_last d_L_shot_13 (hO2) (by omega) (by omega) (by first | assumption | exact hR_1 _ _ | exact hR _ _ | exact r32_mk (by omega) (by omega)) ?_
  refine mx_R fun hR_2 => ?_
  refine mx_goto 21 d_L_shot_14 rfl ?_
  refine mx_iconst d_L_shot_21 ?_
  refine mx_iret d_L_shot_22 rfl ?_
  exact Or.inl ⟨hc, rfl, A_9, hw, rfl⟩
theorem lx_stale {X : Int → Int} {C : Int → cT} {s : Int} (h : JT X C A) (rs : r32 s) : mj_Cal G n_L_stale [mR (some 100), mI s, mR (some 140)] A (fun r A1 => (((0 ≤ s ∧ s < gI A 200 23)) ∧ r = some (mI 0) ∧ ∃ W, (cq C A W) ∧ A1 = sI W 140 0 (nrm (mj_sum (fun f => mo_sb (vi C A) s f) (gI A 224 s).toNat))) ∨ (¬ ((0 ≤ s ∧ s < gI A 200 23)) ∧ r = some (mI (if (0 ≤ s ∧ s < gI A 200 23) then 0 else 1)) ∧ A1 = A)) mj_no := by
  refine mj_bodyHK 1 6 [some (mR (some 100)), some (mI s), some (mR (some 140)), none] rfl rfl (by decide) (by decide +kernel) (Nat.le_of_ble_eq_true rfl) (by simp) rfl ?_
  have hj := h.j
  have ht := h.t
  have hO := hj.y.o
  have hH := hj.x.H
  refine mx_R fun hR => ?_
  refine mx_aload_n 2 d_L_stale_0 rfl rfl ?_
  refine mx_iconst d_L_stale_1 ?_
  refine mx_aload_n 0 d_L_stale_2 rfl rfl ?_
  refine mx_iload_n 1 d_L_stale_3 rfl rfl ?_
  refine mx_callV (kc := 0) (ks := 0) (N := n_H_stale) (as := [_]) (ci := 6) d_L_stale_4 s_L_108 ⟨Nat.le_of_ble_eq_true rfl, Nat.le_of_ble_eq_true rfl⟩ rfl (mj_wt_8 (Nat.le_of_ble_eq_true rfl)) (hH.o) ⟨_, rfl, rfl⟩ (ct_stale hj ht rs) (fun r_4 A_4 h_4 => ?_) (fun E_4 A_x h_4 => ?_)
  rotate_left
  · refine mt_px1 h_4 (fun hn => ?_)
    · refine mt_catch (name := "java/lang/IndexOutOfBoundsException") [] (0, 9, 12, 19) [] rfl (fun z hz => absurd hz List.not_mem_nil) rfl (by decide) mj_lc_19 mj_ca_IndexOutOfBoundsException (i := 3) (Or.inl ⟨3, rfl, d_L_stale_12, ?_⟩) (by decide)
      refine mx_R fun hR => ?_
      refine mx_iconst d_L_stale_13 ?_
      refine mx_iret d_L_stale_14 rfl ?_
      exact Or.inr ⟨fun hc => hn hc, by rw [if_neg hn], rfl⟩
  obtain ⟨hc, rfl, hw⟩ := h_4
  refine mx_R fun hR_1 => ?_
  have hO2 : gS A_4 140 = some (.inr (2, 1)) := Eq.trans (b := gS A 140) (hw.l.S 140) hO
  have hnr := nr_r (mj_sum (fun f => mo_sb (vi C A) s f) (gI A 224 s).toNat)
  refine mx_nrm ?_
  refine mx_i2l d_L_stale_7 (by first | assumption | exact hR_1 _ _ | exact hR _ _ | exact r32_mk (by omega) (by omega)) ?_
  refine mx_last d_L_stale_8 (hO2) (by omega) (by omega) (by first | assumption | exact hR_1 _ _ | exact hR _ _ | exact r32_mk (by omega) (by omega)) ?_
  refine mx_R fun hR_2 => ?_
  refine mx_goto 15 d_L_stale_9 rfl ?_
  refine mx_iconst d_L_stale_15 ?_
  refine mx_iret d_L_stale_16 rfl ?_
  exact Or.inl ⟨hc, rfl, A_4, hw, rfl⟩
theorem lx_hangs {X : Int → Int} {C : Int → cT} {s f d : Int} (h : JT X C A) (rs : r32 s) (rf : r32 f) (rd : r32 d) : mj_Cal G n_L_hangs [mR (some 100), mI s, mI f, mI d, mR (some 140)] A (fun r A1 => ((((0 ≤ s ∧ s < gI A 200 23 ∧ 0 ≤ f ∧ f < gI A 224 s) ∧ (0 ≤ d ∧ d < gI A 200 3))) ∧ r = some (mI 0) ∧ ∃ W, (W = A) ∧ A1 = sI W 140 0 (nrm (if mo_hn A s f d 4 = true then 1 else 0))) ∨ (¬ (((0 ≤ s ∧ s < gI A 200 23 ∧ 0 ≤ f ∧ f < gI A 224 s) ∧ (0 ≤ d ∧ d < gI A 200 3))) ∧ r = some (mI (if ((0 ≤ s ∧ s < gI A 200 23 ∧ 0 ≤ f ∧ f < gI A 224 s) ∧ (0 ≤ d ∧ d < gI A 200 3)) then 0 else 1)) ∧ A1 = A)) mj_no := by
  refine mj_bodyHK 3 18 [some (mR (some 100)), some (mI s), some (mI f), some (mI d), some (mR (some 140)), none] rfl rfl (by decide) (by decide +kernel) (Nat.le_of_ble_eq_true rfl) (by simp) rfl ?_
  have hj := h.j
  have ht := h.t
  have hO := hj.y.o
  have hH := hj.x.H
  have h01 : ((if mo_hn A s f d 4 = true then 1 else 0) : Int) = 0 ∨ ((if mo_hn A s f d 4 = true then 1 else 0) : Int) = 1 := by
    split
    · exact Or.inr rfl
    · exact Or.inl rfl
  refine mx_R fun hR => ?_
  refine mx_aload 4 d_L_hangs_0 rfl ?_
  refine mx_iconst d_L_hangs_2 ?_
  refine mx_aload_n 0 d_L_hangs_3 rfl rfl ?_
  refine mx_iload_n 1 d_L_hangs_4 rfl rfl ?_
  refine mx_iload_n 2 d_L_hangs_5 rfl rfl ?_
  refine mx_iload_n 3 d_L_hangs_6 rfl rfl ?_
  refine mx_callV (kc := 0) (ks := 0) (N := n_H_hangs) (as := [_, _, _]) (ci := 6) d_L_hangs_7 s_L_111 ⟨Nat.le_of_ble_eq_true rfl, Nat.le_of_ble_eq_true rfl⟩ rfl (mj_wt_8 (Nat.le_of_ble_eq_true rfl)) (hH.o) ⟨_, rfl, rfl⟩ (ct_hangs hj rs rf rd) (fun r_7 A_7 h_7 => ?_) (fun E_7 A_x h_7 => ?_)
  rotate_left
  · refine mt_px1 h_7 (fun hn => ?_)
    · refine mt_catch (name := "java/lang/IndexOutOfBoundsException") [] (0, 19, 22, 19) [] rfl (fun z hz => absurd hz List.not_mem_nil) rfl (by decide) mj_lc_19 mj_ca_IndexOutOfBoundsException (i := 5) (Or.inr ⟨d_L_hangs_22, ?_⟩) (by decide)
      refine mx_R fun hR => ?_
      refine mx_iconst d_L_hangs_24 ?_
      refine mx_iret d_L_hangs_25 rfl ?_
      exact Or.inr ⟨fun hc => hn hc, by rw [if_neg hn], rfl⟩
  obtain ⟨hc, rfl, hw⟩ := h_7
  refine mx_R fun hR_1 => ?_
  have hO2 : gS A_7 140 = some (.inr (2, 1)) := Eq.trans (b := gS A 140) (by rw [hw]) hO
  refine mx_if_eq 17 d_L_hangs_10 rfl (r32_01 h01) (fun c_10 => ?_) (fun c_10 => ?_)
  · refine mx_lconst (z := 0) d_L_hangs_17 (by decide) ?_
    refine mx_last d_L_hangs_18 (hO2) (by omega) (by omega) (by first | assumption | exact hR_1 _ _ | exact hR _ _ | exact r32_mk (by omega) (by omega)) ?_
    refine mx_R fun hR_2 => ?_
    refine mx_goto 26 d_L_hangs_19 rfl ?_
    refine mx_iconst d_L_hangs_26 ?_
    refine mx_iret d_L_hangs_27 rfl ?_
    refine Or.inl ⟨hc, rfl, A_7, hw, ?_⟩
    first
      | (rw [nr_0 (by assumption)])
      | (rw [nr_1 (h01.resolve_left (by assumption))])
  · refine mx_lconst (z := 1) d_L_hangs_13 (by decide) ?_
    refine mx_goto 18 d_L_hangs_14 rfl ?_
    refine mx_last d_L_hangs_18 (hO2) (by omega) (by omega) (by first | assumption | exact hR_1 _ _ | exact hR _ _ | exact r32_mk (by omega) (by omega)) ?_
    refine mx_R fun hR_3 => ?_
    refine mx_goto 26 d_L_hangs_19 rfl ?_
    refine mx_iconst d_L_hangs_26 ?_
    refine mx_iret d_L_hangs_27 rfl ?_
    refine Or.inl ⟨hc, rfl, A_7, hw, ?_⟩
    first
      | (rw [nr_0 (by assumption)])
      | (rw [nr_1 (h01.resolve_left (by assumption))])
theorem lx_faults {X : Int → Int} {C : Int → cT} {s f : Int} (h : JT X C A) (rs : r32 s) (rf : r32 f) : mj_Cal G n_L_faults [mR (some 100), mI s, mI f, mR (some 140)] A (fun r A1 => (((0 ≤ s ∧ s < gI A 200 23 ∧ 0 ≤ f ∧ f < gI A 224 s)) ∧ r = some (mI 0) ∧ ∃ W, (cq C A W) ∧ A1 = sI W 140 0 (nrm (mo_fa C A s f))) ∨ (¬ ((0 ≤ s ∧ s < gI A 200 23 ∧ 0 ≤ f ∧ f < gI A 224 s)) ∧ r = some (mI (if (0 ≤ s ∧ s < gI A 200 23 ∧ 0 ≤ f ∧ f < gI A 224 s) then 0 else 1)) ∧ A1 = A)) mj_no := by
  refine mj_bodyHK 2 12 [some (mR (some 100)), some (mI s), some (mI f), some (mR (some 140)), none] rfl rfl (by decide) (by decide +kernel) (Nat.le_of_ble_eq_true rfl) (by simp) rfl ?_
  have hj := h.j
  have ht := h.t
  have hO := hj.y.o
  have hH := hj.x.H
  refine mx_R fun hR => ?_
  refine mx_aload_n 3 d_L_faults_0 rfl rfl ?_
  refine mx_iconst d_L_faults_1 ?_
  refine mx_aload_n 0 d_L_faults_2 rfl rfl ?_
  refine mx_iload_n 1 d_L_faults_3 rfl rfl ?_
  refine mx_iload_n 2 d_L_faults_4 rfl rfl ?_
  refine mx_callV (kc := 0) (ks := 0) (N := n_H_faults) (as := [_, _]) (ci := 6) d_L_faults_5 s_L_115 ⟨Nat.le_of_ble_eq_true rfl, Nat.le_of_ble_eq_true rfl⟩ rfl (mj_wt_8 (Nat.le_of_ble_eq_true rfl)) (hH.o) ⟨_, rfl, rfl⟩ (ct_faults hj rs rf) (fun r_5 A_5 h_5 => ?_) (fun E_5 A_x h_5 => ?_)
  rotate_left
  · refine mt_px1 h_5 (fun hn => ?_)
    · refine mt_catch (name := "java/lang/IndexOutOfBoundsException") [] (0, 10, 13, 19) [] rfl (fun z hz => absurd hz List.not_mem_nil) rfl (by decide) mj_lc_19 mj_ca_IndexOutOfBoundsException (i := 4) (Or.inr ⟨d_L_faults_13, ?_⟩) (by decide)
      refine mx_R fun hR => ?_
      refine mx_iconst d_L_faults_15 ?_
      refine mx_iret d_L_faults_16 rfl ?_
      exact Or.inr ⟨fun hc => hn hc, by rw [if_neg hn], rfl⟩
  obtain ⟨hc, rfl, hw⟩ := h_5
  refine mx_R fun hR_1 => ?_
  have hO2 : gS A_5 140 = some (.inr (2, 1)) := Eq.trans (b := gS A 140) (hw.l.S 140) hO
  have hnr := nr_r (mo_fa C A s f)
  refine mx_nrm ?_
  refine mx_i2l d_L_faults_8 (by first | assumption | exact hR_1 _ _ | exact hR _ _ | exact r32_mk (by omega) (by omega)) ?_
  refine mx_last d_L_faults_9 (hO2) (by omega) (by omega) (by first | assumption | exact hR_1 _ _ | exact hR _ _ | exact r32_mk (by omega) (by omega)) ?_
  refine mx_R fun hR_2 => ?_
  refine mx_goto 17 d_L_faults_10 rfl ?_
  refine mx_iconst d_L_faults_17 ?_
  refine mx_iret d_L_faults_18 rfl ?_
  exact Or.inl ⟨hc, rfl, A_5, hw, rfl⟩
theorem lx_hours {X : Int → Int} {C : Int → cT} {q : Int} (h : JT X C A) (rq : r32 q) : mj_Cal G n_L_hours [mR (some 100), mI q, mR (some 140)] A (fun r A1 => (((0 ≤ q ∧ q < gI A 200 40)) ∧ r = some (mI 0) ∧ ∃ W, (∃ g, W = sF A 118 g) ∧ A1 = sI W 140 0 (nrm ((hr (mo_w A) (gI A 241) (gI A 200 40 - 1).toNat) (gI A 200 3).toNat q))) ∨ (¬ ((0 ≤ q ∧ q < gI A 200 40)) ∧ r = some (mI (if (0 ≤ q ∧ q < gI A 200 40) then 0 else 1)) ∧ A1 = A)) mj_no := by
  refine mj_bodyHK 1 6 [some (mR (some 100)), some (mI q), some (mR (some 140)), none] rfl rfl (by decide) (by decide +kernel) (Nat.le_of_ble_eq_true rfl) (by simp) rfl ?_
  have hj := h.j
  have ht := h.t
  have hO := hj.y.o
  have hH := hj.x.H
  refine mx_R fun hR => ?_
  refine mx_aload_n 2 d_L_hours_0 rfl rfl ?_
  refine mx_iconst d_L_hours_1 ?_
  refine mx_aload_n 0 d_L_hours_2 rfl rfl ?_
  refine mx_iload_n 1 d_L_hours_3 rfl rfl ?_
  refine mx_callV (kc := 0) (ks := 0) (N := n_H_hours) (as := [_]) (ci := 6) d_L_hours_4 s_L_118 ⟨Nat.le_of_ble_eq_true rfl, Nat.le_of_ble_eq_true rfl⟩ rfl (mj_wt_8 (Nat.le_of_ble_eq_true rfl)) (hH.o) ⟨_, rfl, rfl⟩ (ct_hours hj rq) (fun r_4 A_4 h_4 => ?_) (fun E_4 A_x h_4 => ?_)
  rotate_left
  · refine mt_px1 h_4 (fun hn => ?_)
    · refine mt_catch (name := "java/lang/IndexOutOfBoundsException") [] (0, 9, 12, 19) [] rfl (fun z hz => absurd hz List.not_mem_nil) rfl (by decide) mj_lc_19 mj_ca_IndexOutOfBoundsException (i := 3) (Or.inl ⟨3, rfl, d_L_hours_12, ?_⟩) (by decide)
      refine mx_R fun hR => ?_
      refine mx_iconst d_L_hours_13 ?_
      refine mx_iret d_L_hours_14 rfl ?_
      exact Or.inr ⟨fun hc => hn hc, by rw [if_neg hn], rfl⟩
  obtain ⟨hc, rfl, hw⟩ := h_4
  refine mx_R fun hR_1 => ?_
  have hO2 : gS A_4 140 = some (.inr (2, 1)) := Eq.trans (b := gS A 140) (by
    obtain ⟨g, hw⟩ := hw
    rw [hw]; rfl) hO
  have hnr := nr_r ((hr (mo_w A) (gI A 241) (gI A 200 40 - 1).toNat) (gI A 200 3).toNat q)
  refine mx_nrm ?_
  refine mx_i2l d_L_hours_7 (by first | assumption | exact hR_1 _ _ | exact hR _ _ | exact r32_mk (by omega) (by omega)) ?_
  refine mx_last d_L_hours_8 (hO2) (by omega) (by omega) (by first | assumption | exact hR_1 _ _ | exact hR _ _ | exact r32_mk (by omega) (by omega)) ?_
  refine mx_R fun hR_2 => ?_
  refine mx_goto 15 d_L_hours_9 rfl ?_
  refine mx_iconst d_L_hours_15 ?_
  refine mx_iret d_L_hours_16 rfl ?_
  exact Or.inl ⟨hc, rfl, A_4, hw, rfl⟩
theorem lx_film {X : Int → Int} {C : Int → cT} {f : Int} (h : JT X C A) (rf : r32 f) : mj_Cal G n_L_film [mR (some 100), mI f, mR (some 140)] A (fun r A1 => (((0 ≤ f ∧ f < mo_fl A)) ∧ r = some (mI 0) ∧ ∃ W, (W = A) ∧ A1 = sI W 140 0 (nrm (100 * gI A 244 (mo_fm (fun k => gI A 224 (gI A 244 k)) 10 0 f).1 + (mo_fm (fun k => gI A 224 (gI A 244 k)) 10 0 f).2))) ∨ (¬ ((0 ≤ f ∧ f < mo_fl A)) ∧ r = some (mI (if (0 ≤ f ∧ f < mo_fl A) then 0 else 1)) ∧ A1 = A)) mj_no := by
  refine mj_bodyHK 1 6 [some (mR (some 100)), some (mI f), some (mR (some 140)), none] rfl rfl (by decide) (by decide +kernel) (Nat.le_of_ble_eq_true rfl) (by simp) rfl ?_
  have hj := h.j
  have ht := h.t
  have hO := hj.y.o
  have hH := hj.x.H
  refine mx_R fun hR => ?_
  refine mx_aload_n 2 d_L_film_0 rfl rfl ?_
  refine mx_iconst d_L_film_1 ?_
  refine mx_aload_n 0 d_L_film_2 rfl rfl ?_
  refine mx_iload_n 1 d_L_film_3 rfl rfl ?_
  refine mx_callV (kc := 0) (ks := 0) (N := n_H_film) (as := [_]) (ci := 6) d_L_film_4 s_L_121 ⟨Nat.le_of_ble_eq_true rfl, Nat.le_of_ble_eq_true rfl⟩ rfl (mj_wt_8 (Nat.le_of_ble_eq_true rfl)) (hH.o) ⟨_, rfl, rfl⟩ (ct_film hj rf) (fun r_4 A_4 h_4 => ?_) (fun E_4 A_x h_4 => ?_)
  rotate_left
  · refine mt_px1 h_4 (fun hn => ?_)
    · refine mt_catch (name := "java/lang/IndexOutOfBoundsException") [] (0, 9, 12, 19) [] rfl (fun z hz => absurd hz List.not_mem_nil) rfl (by decide) mj_lc_19 mj_ca_IndexOutOfBoundsException (i := 3) (Or.inl ⟨3, rfl, d_L_film_12, ?_⟩) (by decide)
      refine mx_R fun hR => ?_
      refine mx_iconst d_L_film_13 ?_
      refine mx_iret d_L_film_14 rfl ?_
      exact Or.inr ⟨fun hc => hn hc, by rw [if_neg hn], rfl⟩
  obtain ⟨hc, rfl, hw⟩ := h_4
  refine mx_R fun hR_1 => ?_
  have hO2 : gS A_4 140 = some (.inr (2, 1)) := Eq.trans (b := gS A 140) (by rw [hw]) hO
  have hnr := nr_r (100 * gI A 244 (mo_fm (fun k => gI A 224 (gI A 244 k)) 10 0 f).1 + (mo_fm (fun k => gI A 224 (gI A 244 k)) 10 0 f).2)
  refine mx_nrm ?_
  refine mx_i2l d_L_film_7 (by first | assumption | exact hR_1 _ _ | exact hR _ _ | exact r32_mk (by omega) (by omega)) ?_
  refine mx_last d_L_film_8 (hO2) (by omega) (by omega) (by first | assumption | exact hR_1 _ _ | exact hR _ _ | exact r32_mk (by omega) (by omega)) ?_
  refine mx_R fun hR_2 => ?_
  refine mx_goto 15 d_L_film_9 rfl ?_
  refine mx_iconst d_L_film_15 ?_
  refine mx_iret d_L_film_16 rfl ?_
  exact Or.inl ⟨hc, rfl, A_4, hw, rfl⟩
end LWRB
