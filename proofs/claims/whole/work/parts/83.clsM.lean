/-! THE HOUSE, 21: erase, paint, gaps -/
section CLSM
variable {G : mj_G} {A : mj_M}
theorem tk_P {m d i j : Int} (hD : DS A m) (hd : 0 ≤ d ∧ d < m) (hn : 0 ≤ gI A (1000 + 100 * d) 6 ∧ gI A (1000 + 100 * d) 6 ≤ 8) (hi : 0 ≤ i ∧ i < gI A (1000 + 100 * d) 6) (hj : 0 ≤ j ∧ j < 8) : gP (tk_m A d i) ((1000 + 100 * d) + 1) j = some (sk A d (if j = gI A (1000 + 100 * d) 6 - 1 then i else if i ≤ j ∧ j < gI A (1000 + 100 * d) 6 - 1 then j + 1 else j)) := by
  unfold tk_m
  rw [gP_sPF, if_pos rfl]
  by_cases e1 : j = gI A (1000 + 100 * d) 6 - 1
  · rw [if_pos e1, if_pos e1]
  · rw [if_neg e1, if_neg e1]
    by_cases e2 : i ≤ j ∧ j < gI A (1000 + 100 * d) 6 - 1
    · rw [if_pos e2, if_pos e2]
      exact hD.e5 d hd.1 hd.2 (j + 1) (by omega) (by omega)
    · rw [if_neg e2, if_neg e2]
      exact hD.e5 d hd.1 hd.2 j (by omega) (by omega)
theorem tk_I {d i c j : Int} : gI (tk_m A d i) c j = if c = (1000 + 100 * d) ∧ j = 6 then gI A (1000 + 100 * d) 6 - 1 else gI A c j := rfl
theorem ck_tk {C : Int → cT} {d its i : Int} (hj : JJ C A) (hd : 0 ≤ d ∧ d < gI A 200 3) (hf : c_f (ch_c A d) its = i ∧ i ≠ -1) : ck A d (tk_m A d i) ∧ de (ch_c A d) (ch_c (tk_m A d i) d) its i := by
  have hcr := hj.cr d hd.1 hd.2
  have hn := hcr.n
  replace hn : 0 ≤ gI A (1000 + 100 * d) 6 ∧ gI A (1000 + 100 * d) 6 ≤ 8 := hn
  have r := c_f_r (c := ch_c A d) its
  have hi : 0 ≤ i ∧ i < gI A (1000 + 100 * d) 6 := by
    rcases r with r | r
    · omega
    · have h2 : c_f (ch_c A d) its < gI A (1000 + 100 * d) 6 := r.2.1
      omega
  have hD := hj.D
  have hP := fun (j : Int) (j0 : 0 ≤ j) (j1 : j < 8) => tk_P (A := A) hD hd hn hi ⟨j0, j1⟩
  have hPo : ∀ c j, c ≠ (1000 + 100 * d) + 1 → gP (tk_m A d i) c j = gP A c j := fun c j hc => by
    unfold tk_m
    rw [gP_sPF, if_neg hc]
    rfl
  have hek := fun (j : Int) (j0 : 0 ≤ j) (j1 : j < 8) => hD.ek d hd.1 hd.2 j j0 j1
  have hd1 := hD d hd.1 hd.2
  have esk : ∀ j, 0 ≤ j → j < gI A (1000 + 100 * d) 6 - 1 → sk (tk_m A d i) d j = sk A d (dj i j) := fun j j0 j1 => by
    unfold sk
    rw [hP j j0 (by omega)]
    show sk A d (if j = gI A (1000 + 100 * d) 6 - 1 then i else if i ≤ j ∧ j < gI A (1000 + 100 * d) 6 - 1 then j + 1 else j) = sk A d (dj i j)
    congr 1
    unfold dj
    omega
  have eI : ∀ c j, ¬ (c = (1000 + 100 * d) ∧ j = 6) → gI (tk_m A d i) c j = gI A c j := fun c j hc => by rw [tk_I, if_neg hc]
  have hde : de (ch_c A d) (ch_c (tk_m A d i) d) its i := by
    have en : c_n (ch_c (tk_m A d i) d) = gI A (1000 + 100 * d) 6 - 1 := by
      show gI (tk_m A d i) (1000 + 100 * d) 6 = _
      rw [tk_I, if_pos ⟨rfl, rfl⟩]
    have hdj : ∀ j, dj i j = j ∨ dj i j = j + 1 := fun j => by unfold dj; omega
    refine ⟨hf, en, fun j j0 j1 => ?_, fun j j0 j1 => ?_, fun j q j0 j1 q0 q1 => ?_, eI _ _ (by omega), fun j j0 j1 => eI _ _ (by omega), fun j j0 j1 => eI _ _ (by omega), eI _ _ (by omega)⟩
    · have h9 := hek (dj i j) (by have := hdj j; omega) (by have := hdj j; omega)
      show gI (tk_m A d i) (sk (tk_m A d i) d j) 0 = gI A (sk A d (dj i j)) 0
      rw [esk j j0 (by omega), eI _ _ (by omega)]
    · have h9 := hek (dj i j) (by have := hdj j; omega) (by have := hdj j; omega)
      show gI (tk_m A d i) (sk (tk_m A d i) d j) 5 = gI A (sk A d (dj i j)) 5
      rw [esk j j0 (by omega), eI _ _ (by omega)]
    · have h9 := hek (dj i j) (by have := hdj j; omega) (by have := hdj j; omega)
      rw [ch_E1 ⟨q0, q1⟩, ch_E1 ⟨q0, q1⟩, esk j j0 (by omega), eI _ _ (by omega)]
  refine ⟨⟨fun _ => rfl, hPo, fun c j h1 h2 h3 => eI c j (by omega), ?_, de_r hcr hde⟩, hde⟩
  obtain ⟨a1, ⟨p1, p2, p3, p4⟩, ⟨s1, s2, s3⟩, ⟨c1, ⟨c2, c3, c4⟩, c5, c6, c7⟩, h5, h6, h7⟩ := hd1
  refine ⟨a1, ⟨(hPo _ _ (by omega)).trans p1, (hPo _ _ (by omega)).trans p2, (hPo _ _ (by omega)).trans p3, (hPo _ _ (by omega)).trans p4⟩, ⟨s1, s2, s3⟩, ⟨c1, ⟨(hPo _ _ (by omega)).trans c2, (hPo _ _ (by omega)).trans c3, (hPo _ _ (by omega)).trans c4⟩, c5, c6, c7⟩, h5, fun j j0 j1 => ?_, fun j l j0 j1 l0 l1 e => ?_⟩
  · rw [hP j j0 j1]
    have h9 := hek (if j = gI A (1000 + 100 * d) 6 - 1 then i else if i ≤ j ∧ j < gI A (1000 + 100 * d) 6 - 1 then j + 1 else j) (by omega) (by omega)
    exact ⟨sk A d (if j = gI A (1000 + 100 * d) 6 - 1 then i else if i ≤ j ∧ j < gI A (1000 + 100 * d) 6 - 1 then j + 1 else j) - ((1000 + 100 * d) + 2), by congr 1; omega, by omega, by omega⟩
  · rw [hP j j0 j1, hP l l0 l1] at e
    have h9 := hD.ij d hd.1 hd.2 (by omega) (by omega) (by omega) (by omega) (Option.some.inj e)
    omega
theorem ck_rf {C : Int → cT} {d : Int} (hj : JJ C A) (hd : 0 ≤ d ∧ d < gI A 200 3) : ck A d A := ⟨fun _ => rfl, fun _ _ _ => rfl, fun _ _ _ _ _ => rfl, hj.D d hd.1 hd.2, hj.cr d hd.1 hd.2⟩
theorem ct_erase {C : Int → cT} {d its : Int} (hj : JJ C A) (hd : r32 d) (hi : r32 its) : mj_Cal G n_H_erase [mR (some 100), mI d, mI its] A (fun r A' => ((0 ≤ d ∧ d < gI A 200 3) ∧ (0 ≤ its ∧ its ≤ 7) ∧ (0 ≤ d ∧ d < gI A 200 3 ∧ gI A 204 d = -1 ∧ gI A 208 d = 0)) ∧ ((c_f (ch_c A d) its ≠ -1 ∧ r = some (mI 1) ∧ ∃ B i, ck A d B ∧ kf C A d B A' ∧ de (ch_c A d) (ch_c B d) its i ∧ gI B 100 2 = gI A 100 2 ∧ gI B 100 3 = gI A 100 3) ∨ (c_f (ch_c A d) its = -1 ∧ r = some (mI 0) ∧ kf C A d A A'))) (px3 A xI xA xS (0 ≤ d ∧ d < gI A 200 3) (0 ≤ its ∧ its ≤ 7) (0 ≤ d ∧ d < gI A 200 3 ∧ gI A 204 d = -1 ∧ gI A 208 d = 0)) := by
  refine mj_bodyK 3 18 [some (mR (some 100)), some (mI d), some (mI its), none] rfl rfl rfl (by decide +kernel) (Nat.le_of_ble_eq_true rfl) (by simp) rfl ?_
  have hH := hj.x.H
  have hD := hj.D
  have hxn := hj.x.n
  have hnd := hj.m.g.nd
  refine mx_R fun hR => ?_
  refine mx_aload_n 0 d_H_erase_0 rfl rfl ?_
  refine mx_iload_n 1 d_H_erase_1 rfl rfl ?_
  refine mx_callV (kc := 2) (ks := 12) (N := n_H_needDrawing) (as := [_]) (ci := 6) d_H_erase_2 s_H_75 ⟨Nat.le_of_ble_eq_true rfl, Nat.le_of_ble_eq_true rfl⟩ rfl (mj_wt_8 (Nat.le_of_ble_eq_true rfl)) (hH.o) ⟨_, rfl, rfl⟩ (ct_needDrawing hj hd) (fun r_2 A_2 h_2 => ?_) (fun E_2 A_x h_2 => ?_)
  rotate_left
  · exact mt_n h_2 rfl fun hn => ⟨rfl, Or.inl ⟨rfl, hn⟩⟩
  obtain ⟨rfl, h1, hA_2⟩ := h_2
  obtain rfl := hA_2.symm
  clear hA_2
  refine mx_R fun hR_1 => ?_
  refine mx_iload_n 2 d_H_erase_5 rfl rfl ?_
  refine mx_callS (kc := 1) (ks := 6) (N := n_H_needStrokeName) (as := [_]) d_H_erase_6 s_H_99 ⟨Nat.le_of_ble_eq_true rfl, Nat.le_of_ble_eq_true rfl⟩ rfl (mj_wt_8 (Nat.le_of_ble_eq_true rfl)) (ct_needStrokeName hi) (fun r_6 A_6 h_6 => ?_) (fun E_6 A_x h_6 => ?_)
  rotate_left
  · exact mt_n h_6 rfl fun hn => ⟨rfl, Or.inr (Or.inl ⟨rfl, h1, hn⟩)⟩
  obtain ⟨rfl, h4, hA_6⟩ := h_6
  obtain rfl := hA_6.symm
  clear hA_6
  refine mx_R fun hR_2 => ?_
  refine mx_aload_n 0 d_H_erase_9 rfl rfl ?_
  refine mx_iload_n 1 d_H_erase_10 rfl rfl ?_
  refine mx_callV (kc := 0) (ks := 0) (N := n_H_needChangeable) (as := [_]) (ci := 6) d_H_erase_11 s_H_102 ⟨Nat.le_of_ble_eq_true rfl, Nat.le_of_ble_eq_true rfl⟩ rfl (mj_wt_8 (Nat.le_of_ble_eq_true rfl)) (hH.o) ⟨_, rfl, rfl⟩ (ct_needChangeable hj h1) (fun r_11 A_11 h_11 => ?_) (fun E_11 A_x h_11 => ?_)
  rotate_left
  · exact mt_n h_11 rfl fun hn => ⟨rfl, Or.inr (Or.inr ⟨rfl, h1, h4, fun h => hn h.2.2⟩)⟩
  obtain ⟨rfl, h5, hA_11⟩ := h_11
  obtain rfl := hA_11.symm
  clear hA_11
  refine mx_R fun hR_3 => ?_
  have hK : (0 ≤ d ∧ d < gI A 200 3 ∧ gI A 204 d = -1 ∧ gI A 208 d = 0) := ⟨h1.1, h1.2, h5.1, h5.2⟩
  have hcr := hj.cr d h1.1 h1.2
  refine mx_aload_n 0 d_H_erase_14 rfl rfl ?_
  refine mx_getPs 0 d_H_erase_15 f_H_11 rfl rfl (hH.o) (hH.p0) ?_
  refine mx_iload_n 1 d_H_erase_18 rfl rfl ?_
  refine mx_aalds d_H_erase_19 (hH.s0) (by decide) (by omega) (by omega) (hj.x.r d h1.1 (by omega)) ?_
  refine mx_iload_n 2 d_H_erase_20 rfl rfl ?_
  refine mx_callV (kc := 0) (ks := 0) (N := n_D_takeStroke) (as := [_]) (ci := 0) d_H_erase_21 s_H_127 ⟨Nat.le_of_ble_eq_true rfl, Nat.le_of_ble_eq_true rfl⟩ rfl (mj_wt_8 (Nat.le_of_ble_eq_true rfl)) (hD.o _ (by omega) (by omega)) ⟨_, rfl, rfl⟩ (ct_takeStroke hD h1 hcr.n hi) (fun r_21 A_21 h_21 => ?_) (fun E_21 A_x h_21 => ?_)
  rotate_left
  · exact h_21.elim
  refine mx_R fun hR_4 => ?_
  rcases h_21 with ⟨q1, rfl, rfl⟩ | ⟨q1, rfl, rfl⟩
  · refine mx_istore_n 3 d_H_erase_24 rfl (Nat.le_of_ble_eq_true rfl) ?_
    have hck := ck_tk hj h1 ⟨rfl, q1⟩
    have hH := (ck_CX hj h1 hck.1).H
    refine mx_R fun hR => ?_
    refine mx_aload_n 0 d_H_erase_25 rfl rfl ?_
    refine mx_iload_n 1 d_H_erase_26 rfl rfl ?_
    refine mx_callV (kc := 0) (ks := 0) (N := n_H_letAllFollow) (as := [_]) (ci := 6) d_H_erase_27 s_H_121 ⟨Nat.le_of_ble_eq_true rfl, Nat.le_of_ble_eq_true rfl⟩ rfl (mj_wt_8 (Nat.le_of_ble_eq_true rfl)) (hH.o) ⟨_, rfl, rfl⟩ (ct_lf (B := tk_m A d (c_f (ch_c A d) its)) hj h1 h5.1 hck.1) (fun r_27 A_27 h_27 => ?_) (fun E_27 A_x h_27 => ?_)
    rotate_left
    · exact h_27.elim
    obtain ⟨rfl, hkf⟩ := h_27
    refine mx_R fun hR_1 => ?_
    refine mx_iload_n 3 d_H_erase_30 rfl rfl ?_
    refine mx_zret d_H_erase_31 rfl (Or.inr rfl) ?_
    exact ⟨⟨h1, h4, hK⟩, Or.inl ⟨q1, rfl, _, _, hck.1, hkf, hck.2, by rw [tk_I, if_neg (by omega)], by rw [tk_I, if_neg (by omega)]⟩⟩
  refine mx_istore_n 3 d_H_erase_24 rfl (Nat.le_of_ble_eq_true rfl) ?_
  refine mx_aload_n 0 d_H_erase_25 rfl rfl ?_
  refine mx_iload_n 1 d_H_erase_26 rfl rfl ?_
  refine mx_callV (kc := 0) (ks := 0) (N := n_H_letAllFollow) (as := [_]) (ci := 6) d_H_erase_27 s_H_121 ⟨Nat.le_of_ble_eq_true rfl, Nat.le_of_ble_eq_true rfl⟩ rfl (mj_wt_8 (Nat.le_of_ble_eq_true rfl)) (hH.o) ⟨_, rfl, rfl⟩ (ct_lf hj h1 h5.1 (ck_rf hj h1)) (fun r_27 A_27 h_27 => ?_) (fun E_27 A_x h_27 => ?_)
  rotate_left
  · exact h_27.elim
  obtain ⟨rfl, hkf⟩ := h_27
  refine mx_R fun hR_5 => ?_
  refine mx_iload_n 3 d_H_erase_30 rfl rfl ?_
  refine mx_zret d_H_erase_31 rfl (Or.inl rfl) ?_
  exact ⟨⟨h1, h4, hK⟩, Or.inr ⟨q1, rfl, hkf⟩⟩
theorem ck_pa {C : Int → cT} {d p c : Int} (hj : JJ C A) (hd : 0 ≤ d ∧ d < gI A 200 3) (h6 : gI A (1000 + 100 * d) 9 < 6) (hp : 0 ≤ p ∧ p < 192) (hc : 0 ≤ c ∧ c ≤ 7) : ck A d (sI (sI (sI A ((1000 + 100 * d) + 10) (gI A (1000 + 100 * d) 9) p) ((1000 + 100 * d) + 11) (gI A (1000 + 100 * d) 9) c) (1000 + 100 * d) 9 (gI A (1000 + 100 * d) 9 + 1)) ∧ pn1 (ch_c A d) (ch_c (sI (sI (sI A ((1000 + 100 * d) + 10) (gI A (1000 + 100 * d) 9) p) ((1000 + 100 * d) + 11) (gI A (1000 + 100 * d) 9) c) (1000 + 100 * d) 9 (gI A (1000 + 100 * d) 9 + 1)) d) p c := by
  have hcr := hj.cr d hd.1 hd.2
  have hn := hcr.n
  have hp9 := hcr.p
  have hD := hj.D
  have eI : ∀ k j, gI (sI (sI (sI A ((1000 + 100 * d) + 10) (gI A (1000 + 100 * d) 9) p) ((1000 + 100 * d) + 11) (gI A (1000 + 100 * d) 9) c) (1000 + 100 * d) 9 (gI A (1000 + 100 * d) 9 + 1)) k j = if k = (1000 + 100 * d) ∧ j = 9 then gI A (1000 + 100 * d) 9 + 1 else if k = (1000 + 100 * d) + 11 ∧ j = gI A (1000 + 100 * d) 9 then c else if k = (1000 + 100 * d) + 10 ∧ j = gI A (1000 + 100 * d) 9 then p else gI A k j := fun k j => rfl
  have eO : ∀ k j, ¬ (k = (1000 + 100 * d) ∧ j = 9) → ¬ ((1000 + 100 * d) + 10 ≤ k ∧ k ≤ (1000 + 100 * d) + 11) → gI (sI (sI (sI A ((1000 + 100 * d) + 10) (gI A (1000 + 100 * d) 9) p) ((1000 + 100 * d) + 11) (gI A (1000 + 100 * d) 9) c) (1000 + 100 * d) 9 (gI A (1000 + 100 * d) 9 + 1)) k j = gI A k j := fun k j h1 h2 => by
    rw [eI, if_neg h1, if_neg (by omega), if_neg (by omega)]
  have hek := fun (j : Int) (j0 : 0 ≤ j) (j1 : j < 8) => hD.ek d hd.1 hd.2 j j0 j1
  have hpn : pn1 (ch_c A d) (ch_c (sI (sI (sI A ((1000 + 100 * d) + 10) (gI A (1000 + 100 * d) 9) p) ((1000 + 100 * d) + 11) (gI A (1000 + 100 * d) 9) c) (1000 + 100 * d) 9 (gI A (1000 + 100 * d) 9 + 1)) d) p c := by
    have ep : c_p (ch_c (sI (sI (sI A ((1000 + 100 * d) + 10) (gI A (1000 + 100 * d) 9) p) ((1000 + 100 * d) + 11) (gI A (1000 + 100 * d) 9) c) (1000 + 100 * d) 9 (gI A (1000 + 100 * d) 9 + 1)) d) = gI A (1000 + 100 * d) 9 + 1 := by
      show gI (sI (sI (sI A ((1000 + 100 * d) + 10) (gI A (1000 + 100 * d) 9) p) ((1000 + 100 * d) + 11) (gI A (1000 + 100 * d) 9) c) (1000 + 100 * d) 9 (gI A (1000 + 100 * d) 9 + 1)) (1000 + 100 * d) 9 = _
      rw [eI, if_pos ⟨rfl, rfl⟩]
    refine ⟨eO _ _ (by omega) (by omega), fun j j0 j1 => ?_, fun j j0 j1 => ?_, fun q q0 q1 => ?_, ep, fun j j0 j1 => ?_, fun j j0 j1 => ?_, eO _ _ (by omega) (by omega)⟩
    · have h9 := hek j j0 (by omega)
      exact eO (sk A d j) 0 (by omega) (by omega)
    · have h9 := hek j j0 (by omega)
      exact eO (sk A d j) 5 (by omega) (by omega)
    · have h9 := hek (q / 4) (by omega) (by omega)
      exact eO (sk A d (q / 4)) (q % 4 + 1) (by omega) (by omega)
    · show gI (sI (sI (sI A ((1000 + 100 * d) + 10) (gI A (1000 + 100 * d) 9) p) ((1000 + 100 * d) + 11) (gI A (1000 + 100 * d) 9) c) (1000 + 100 * d) 9 (gI A (1000 + 100 * d) 9 + 1)) ((1000 + 100 * d) + 10) j = if j = gI A (1000 + 100 * d) 9 then p else gI A ((1000 + 100 * d) + 10) j
      rw [eI, if_neg (by omega), if_neg (by omega)]
      exact mj_ic ⟨fun h => h.2, fun h => ⟨rfl, h⟩⟩
    · show gI (sI (sI (sI A ((1000 + 100 * d) + 10) (gI A (1000 + 100 * d) 9) p) ((1000 + 100 * d) + 11) (gI A (1000 + 100 * d) 9) c) (1000 + 100 * d) 9 (gI A (1000 + 100 * d) 9 + 1)) ((1000 + 100 * d) + 11) j = if j = gI A (1000 + 100 * d) 9 then c else gI A ((1000 + 100 * d) + 11) j
      rw [eI, if_neg (by omega)]
      by_cases e : j = gI A (1000 + 100 * d) 9
      · rw [if_pos ⟨rfl, e⟩, if_pos e]
      · rw [if_neg (fun h => e h.2), if_neg (by omega), if_neg e]
  exact ⟨⟨fun _ => rfl, fun _ _ _ => rfl, fun k j h1 h2 h3 => eO k j (by omega) (by omega), hD d hd.1 hd.2, pn_r hcr hpn h6 hp hc⟩, hpn⟩
theorem ct_paint {C : Int → cT} {d c : Int} (hj : JJ C A) (hd : r32 d) (hc : r32 c) : mj_Cal G n_H_paint [mR (some 100), mI d, mI c] A (fun r A' => ((0 ≤ d ∧ d < gI A 200 3 ∧ 0 ≤ c ∧ c ≤ 7) ∧ (0 ≤ d ∧ d < gI A 200 3 ∧ gI A 204 d = -1 ∧ gI A 208 d = 0 ∧ gI A 213 d < 6)) ∧ r = some (mI (gI A 213 d + 1)) ∧ ∃ B, ck A d B ∧ kf C A d B A' ∧ pn1 (ch_c A d) (ch_c B d) (16 * gI A 200 2 + gI A 200 1) c ∧ gI B 100 2 = gI A 100 2 ∧ gI B 100 3 = gI A 100 3) (px2 A xI xS (0 ≤ d ∧ d < gI A 200 3 ∧ 0 ≤ c ∧ c ≤ 7) (0 ≤ d ∧ d < gI A 200 3 ∧ gI A 204 d = -1 ∧ gI A 208 d = 0 ∧ gI A 213 d < 6)) := by
  refine mj_bodyK 4 24 [some (mR (some 100)), some (mI d), some (mI c), none] rfl rfl rfl (by decide +kernel) (Nat.le_of_ble_eq_true rfl) (by simp) rfl ?_
  have hH := hj.x.H
  have hD := hj.D
  have hxn := hj.x.n
  have hnd := hj.m.g.nd
  have hpx := hj.m.px
  have hpn := hj.h.pn
  refine mx_R fun hR => ?_
  refine mx_aload_n 0 d_H_paint_0 rfl rfl ?_
  refine mx_iload_n 1 d_H_paint_1 rfl rfl ?_
  refine mx_callV (kc := 3) (ks := 18) (N := n_H_needDrawing) (as := [_]) (ci := 6) d_H_paint_2 s_H_75 ⟨Nat.le_of_ble_eq_true rfl, Nat.le_of_ble_eq_true rfl⟩ rfl (mj_wt_8 (Nat.le_of_ble_eq_true rfl)) (hH.o) ⟨_, rfl, rfl⟩ (ct_needDrawing hj hd) (fun r_2 A_2 h_2 => ?_) (fun E_2 A_x h_2 => ?_)
  rotate_left
  · exact mt_n h_2 rfl fun hn => ⟨rfl, Or.inl ⟨rfl, fun h => hn ⟨h.1, h.2.1⟩⟩⟩
  obtain ⟨rfl, h1, hA_2⟩ := h_2
  obtain rfl := hA_2.symm
  clear hA_2
  refine mx_R fun hR_1 => ?_
  refine mx_iload_n 2 d_H_paint_5 rfl rfl ?_
  refine mx_callS (kc := 2) (ks := 12) (N := n_H_needColourName) (as := [_]) d_H_paint_6 s_H_96 ⟨Nat.le_of_ble_eq_true rfl, Nat.le_of_ble_eq_true rfl⟩ rfl (mj_wt_8 (Nat.le_of_ble_eq_true rfl)) (ct_needColourName hc) (fun r_6 A_6 h_6 => ?_) (fun E_6 A_x h_6 => ?_)
  rotate_left
  · exact mt_n h_6 rfl fun hn => ⟨rfl, Or.inl ⟨rfl, fun h => hn h.2.2⟩⟩
  obtain ⟨rfl, h3, hA_6⟩ := h_6
  obtain rfl := hA_6.symm
  clear hA_6
  refine mx_R fun hR_2 => ?_
  have hI : (0 ≤ d ∧ d < gI A 200 3 ∧ 0 ≤ c ∧ c ≤ 7) := ⟨h1.1, h1.2, h3.1, h3.2⟩
  refine mx_aload_n 0 d_H_paint_9 rfl rfl ?_
  refine mx_iload_n 1 d_H_paint_10 rfl rfl ?_
  refine mx_callV (kc := 1) (ks := 6) (N := n_H_needChangeable) (as := [_]) (ci := 6) d_H_paint_11 s_H_102 ⟨Nat.le_of_ble_eq_true rfl, Nat.le_of_ble_eq_true rfl⟩ rfl (mj_wt_8 (Nat.le_of_ble_eq_true rfl)) (hH.o) ⟨_, rfl, rfl⟩ (ct_needChangeable hj h1) (fun r_11 A_11 h_11 => ?_) (fun E_11 A_x h_11 => ?_)
  rotate_left
  · exact mt_n h_11 rfl fun hn => ⟨rfl, Or.inr ⟨rfl, hI, fun h => hn ⟨h.2.2.1, h.2.2.2.1⟩⟩⟩
  obtain ⟨rfl, h5, hA_11⟩ := h_11
  obtain rfl := hA_11.symm
  clear hA_11
  refine mx_R fun hR_3 => ?_
  have hcr := hj.cr d h1.1 h1.2
  have e9 : gI A (1000 + 100 * d) 9 = gI A 213 d := (hj.h.e d h1.1 h1.2).p.symm.trans (hj.m.C.k d h1.1 h1.2 h5.1).p
  have hp9 := hcr.p
  replace hp9 : 0 ≤ gI A (1000 + 100 * d) 9 ∧ gI A (1000 + 100 * d) 9 ≤ 6 := hp9
  refine mx_aload_n 0 d_H_paint_14 rfl rfl ?_
  refine mx_getPs 0 d_H_paint_15 f_H_11 rfl rfl (hH.o) (hH.p0) ?_
  refine mx_iload_n 1 d_H_paint_18 rfl rfl ?_
  refine mx_aalds d_H_paint_19 (hH.s0) (by decide) (by omega) (by omega) (hj.x.r d h1.1 (by omega)) ?_
  refine mx_astore_n 3 d_H_paint_20 rfl (Nat.le_of_ble_eq_true rfl) ?_
  refine mx_aload_n 3 d_H_paint_21 rfl rfl ?_
  refine mx_getI 9 d_H_paint_22 f_H_131 rfl rfl (hD.o d h1.1 h1.2) ?_
  refine mx_bipush d_H_paint_25 (by decide) ?_
  refine mx_icmp_lt 40 d_H_paint_27 rfl (by first | assumption | exact hR_3 _ _ | exact hR_2 _ _ | exact hR_1 _ _ | exact hR _ _ | exact r32_mk (by omega) (by omega)) (by first | assumption | exact hR_3 _ _ | exact hR_2 _ _ | exact hR_1 _ _ | exact hR _ _ | exact r32_mk (by omega) (by omega)) (fun c_27 => ?_) (fun c_27 => ?_)
  · have hck := ck_pa (p := 16 * gI A 200 2 + gI A 200 1) (c := c) hj h1 (by omega) (by omega) h3
    refine mx_aload_n 3 d_H_paint_40 rfl rfl ?_
    refine mx_aload_n 0 d_H_paint_41 rfl rfl ?_
    refine mx_getI 2 d_H_paint_42 f_H_109 rfl rfl (hH.o) ?_
    rw [hpn.1]
    refine mx_aload_n 0 d_H_paint_45 rfl rfl ?_
    refine mx_getI 3 d_H_paint_46 f_H_112 rfl rfl (hH.o) ?_
    rw [hpn.2]
    refine mx_callS (kc := 1) (ks := 6) (N := n_H_placeOf) (as := [_, _]) d_H_paint_49 s_H_139 ⟨Nat.le_of_ble_eq_true rfl, Nat.le_of_ble_eq_true rfl⟩ rfl (mj_wt_8 (Nat.le_of_ble_eq_true rfl)) (ct_placeOf) (fun r_49 A_49 h_49 => ?_) (fun E_49 A_x h_49 => ?_)
    rotate_left
    · exact h_49.elim
    obtain ⟨rfl, hA_49⟩ := h_49
    obtain rfl := hA_49.symm
    clear hA_49
    refine mx_R fun hR_4 => ?_
    rw [show gI A 200 2 * 16 + gI A 200 1 = 16 * gI A 200 2 + gI A 200 1 by omega]
    refine mx_iload_n 2 d_H_paint_52 rfl rfl ?_
    refine mx_callV (kc := 1) (ks := 6) (N := n_D_addPaint) (as := [_, _]) (ci := 0) d_H_paint_53 s_H_143 ⟨Nat.le_of_ble_eq_true rfl, Nat.le_of_ble_eq_true rfl⟩ rfl (mj_wt_8 (Nat.le_of_ble_eq_true rfl)) (hD.o d h1.1 h1.2) ⟨_, rfl, rfl⟩ (ct_addPaint hD h1 ⟨by omega, by omega⟩ (r32_mk (by omega) (by omega)) hc) (fun r_53 A_53 h_53 => ?_) (fun E_53 A_x h_53 => ?_)
    rotate_left
    · exact h_53.elim
    obtain ⟨rfl, hA_53⟩ := h_53
    obtain rfl := hA_53.symm
    clear hA_53
    refine mx_R fun hR_5 => ?_
    refine mx_aload_n 0 d_H_paint_56 rfl rfl ?_
    refine mx_iload_n 1 d_H_paint_57 rfl rfl ?_
    refine mx_callV (kc := 1) (ks := 6) (N := n_H_letAllFollow) (as := [_]) (ci := 6) d_H_paint_58 s_H_121 ⟨Nat.le_of_ble_eq_true rfl, Nat.le_of_ble_eq_true rfl⟩ rfl (mj_wt_8 (Nat.le_of_ble_eq_true rfl)) (hH.o) ⟨_, rfl, rfl⟩ (ct_lf (B := sI (sI (sI A ((1000 + 100 * d) + 10) (gI A (1000 + 100 * d) 9) (16 * gI A 200 2 + gI A 200 1)) ((1000 + 100 * d) + 11) (gI A (1000 + 100 * d) 9) c) (1000 + 100 * d) 9 (gI A (1000 + 100 * d) 9 + 1)) hj h1 h5.1 hck.1) (fun r_58 A_58 h_58 => ?_) (fun E_58 A_x h_58 => ?_)
    rotate_left
    · exact h_58.elim
    obtain ⟨rfl, hkf⟩ := h_58
    refine mx_R fun hR_6 => ?_
    have hD2 := hkf.x.D
    have e1' : gI A_58 100 1 = gI A 100 1 := hkf.I _ _ (by omega) (by omega)
    have ep : gI A_58 (1000 + 100 * d) 9 = gI A 213 d + 1 := hkf.k.p.symm.trans (hck.2.p.trans (by rw [← e9]))
    refine mx_aload_n 3 d_H_paint_61 rfl rfl ?_
    refine mx_getI 9 d_H_paint_62 f_H_131 rfl rfl (hD2.o d h1.1 (by rw [e1']; omega)) ?_
    rw [ep]
    refine mx_iret d_H_paint_65 rfl ?_
    exact ⟨⟨hI, h1.1, h1.2, h5.1, h5.2, by omega⟩, rfl, _, hck.1, hkf, hck.2, by rw [gI_sI, if_neg (by omega), gI_sI, if_neg (by omega), gI_sI, if_neg (by omega)]; exact hpn.1, by rw [gI_sI, if_neg (by omega), gI_sI, if_neg (by omega), gI_sI, if_neg (by omega)]; exact hpn.2⟩
  · refine mx_throw (text := "it has 6 paints") t_H_134_138 (by decide) rfl (Nat.le_of_ble_eq_true rfl) (Nat.le_of_ble_eq_true rfl) d_H_paint_30 d_H_paint_33 d_H_paint_34 d_H_paint_36 d_H_paint_39 ?_
    exact ⟨rfl, Or.inr ⟨rfl, hI, fun h => by omega⟩⟩
theorem ck_ga {C : Int → cT} {d : Int} (hj : JJ C A) (hd : 0 ≤ d ∧ d < gI A 200 3) : ck A d (sI A (1000 + 100 * d) 10 (1 - gI A (1000 + 100 * d) 10)) ∧ gp1 (ch_c A d) (ch_c (sI A (1000 + 100 * d) 10 (1 - gI A (1000 + 100 * d) 10)) d) := by
  have hcr := hj.cr d hd.1 hd.2
  have hn := hcr.n
  have hD := hj.D
  have eO : ∀ k j, ¬ (k = (1000 + 100 * d) ∧ j = 10) → gI (sI A (1000 + 100 * d) 10 (1 - gI A (1000 + 100 * d) 10)) k j = gI A k j := fun k j h1 => by rw [gI_sI, if_neg h1]
  have hek := fun (j : Int) (j0 : 0 ≤ j) (j1 : j < 8) => hD.ek d hd.1 hd.2 j j0 j1
  have hgp : gp1 (ch_c A d) (ch_c (sI A (1000 + 100 * d) 10 (1 - gI A (1000 + 100 * d) 10)) d) := by
    refine ⟨eO _ _ (by omega), fun j j0 j1 => ?_, fun j j0 j1 => ?_, fun q q0 q1 => ?_, eO _ _ (by omega), fun j j0 j1 => eO _ _ (by omega), fun j j0 j1 => eO _ _ (by omega), ?_⟩
    · have h9 := hek j j0 (by omega)
      exact eO (sk A d j) 0 (by omega)
    · have h9 := hek j j0 (by omega)
      exact eO (sk A d j) 5 (by omega)
    · have h9 := hek (q / 4) (by omega) (by omega)
      exact eO (sk A d (q / 4)) (q % 4 + 1) (by omega)
    · show gI (sI A (1000 + 100 * d) 10 (1 - gI A (1000 + 100 * d) 10)) (1000 + 100 * d) 10 = 1 - gI A (1000 + 100 * d) 10
      rw [gI_sIs]
  exact ⟨⟨fun _ => rfl, fun _ _ _ => rfl, fun k j h1 h2 h3 => eO k j (by omega), hD d hd.1 hd.2, gp_r hcr hgp⟩, hgp⟩
theorem ct_gaps {C : Int → cT} {d : Int} (hj : JJ C A) (hd : r32 d) : mj_Cal G n_H_gaps [mR (some 100), mI d] A (fun r A' => ((0 ≤ d ∧ d < gI A 200 3) ∧ (0 ≤ d ∧ d < gI A 200 3 ∧ gI A 204 d = -1 ∧ gI A 208 d = 0)) ∧ r = some (mI (1 - gI A 216 d)) ∧ ∃ B, ck A d B ∧ kf C A d B A' ∧ gp1 (ch_c A d) (ch_c B d) ∧ gI B 100 2 = gI A 100 2 ∧ gI B 100 3 = gI A 100 3) (px2 A xI xS (0 ≤ d ∧ d < gI A 200 3) (0 ≤ d ∧ d < gI A 200 3 ∧ gI A 204 d = -1 ∧ gI A 208 d = 0)) := by
  refine mj_bodyK 2 12 [some (mR (some 100)), some (mI d), none] rfl rfl rfl (by decide +kernel) (Nat.le_of_ble_eq_true rfl) (by simp) rfl ?_
  have hH := hj.x.H
  have hD := hj.D
  have hxn := hj.x.n
  have hnd := hj.m.g.nd
  refine mx_R fun hR => ?_
  refine mx_aload_n 0 d_H_gaps_0 rfl rfl ?_
  refine mx_iload_n 1 d_H_gaps_1 rfl rfl ?_
  refine mx_callV (kc := 1) (ks := 6) (N := n_H_needDrawing) (as := [_]) (ci := 6) d_H_gaps_2 s_H_75 ⟨Nat.le_of_ble_eq_true rfl, Nat.le_of_ble_eq_true rfl⟩ rfl (mj_wt_8 (Nat.le_of_ble_eq_true rfl)) (hH.o) ⟨_, rfl, rfl⟩ (ct_needDrawing hj hd) (fun r_2 A_2 h_2 => ?_) (fun E_2 A_x h_2 => ?_)
  rotate_left
  · exact mt_n h_2 rfl fun hn => ⟨rfl, Or.inl ⟨rfl, hn⟩⟩
  obtain ⟨rfl, h1, hA_2⟩ := h_2
  obtain rfl := hA_2.symm
  clear hA_2
  refine mx_R fun hR_1 => ?_
  refine mx_aload_n 0 d_H_gaps_5 rfl rfl ?_
  refine mx_iload_n 1 d_H_gaps_6 rfl rfl ?_
  refine mx_callV (kc := 0) (ks := 0) (N := n_H_needChangeable) (as := [_]) (ci := 6) d_H_gaps_7 s_H_102 ⟨Nat.le_of_ble_eq_true rfl, Nat.le_of_ble_eq_true rfl⟩ rfl (mj_wt_8 (Nat.le_of_ble_eq_true rfl)) (hH.o) ⟨_, rfl, rfl⟩ (ct_needChangeable hj h1) (fun r_7 A_7 h_7 => ?_) (fun E_7 A_x h_7 => ?_)
  rotate_left
  · exact mt_n h_7 rfl fun hn => ⟨rfl, Or.inr ⟨rfl, h1, fun h => hn h.2.2⟩⟩
  obtain ⟨rfl, h5, hA_7⟩ := h_7
  obtain rfl := hA_7.symm
  clear hA_7
  refine mx_R fun hR_2 => ?_
  have hcr := hj.cr d h1.1 h1.2
  have hcc : gI A (1000 + 100 * d) 10 = 0 ∨ gI A (1000 + 100 * d) 10 = 1 := hcr.c
  have e10 : gI A (1000 + 100 * d) 10 = gI A 216 d := (hj.h.e d h1.1 h1.2).c.symm.trans (hj.m.C.k d h1.1 h1.2 h5.1).c
  have hck := ck_ga hj h1
  refine mx_aload_n 0 d_H_gaps_10 rfl rfl ?_
  refine mx_getPs 0 d_H_gaps_11 f_H_11 rfl rfl (hH.o) (hH.p0) ?_
  refine mx_iload_n 1 d_H_gaps_14 rfl rfl ?_
  refine mx_aalds d_H_gaps_15 (hH.s0) (by decide) (by omega) (by omega) (hj.x.r d h1.1 (by omega)) ?_
  refine mx_astore_n 2 d_H_gaps_16 rfl (Nat.le_of_ble_eq_true rfl) ?_
  refine mx_aload_n 2 d_H_gaps_17 rfl rfl ?_
  refine mj_cutI ( 1 - gI A (1000 + 100 * d) 10) 30 ?_ (fun hJ_18 => ?_)
  · refine mx_putI 10 d_H_gaps_30 f_H_146 rfl (hD.o d h1.1 h1.2) (Or.inl rfl) (Or.inr ⟨rfl, by omega⟩) (by first | assumption | exact hR_2 _ _ | exact hR_1 _ _ | exact hR _ _ | exact r32_mk (by omega) (by omega)) ?_
    refine mx_R fun hR_3 => ?_
    refine mx_aload_n 0 d_H_gaps_33 rfl rfl ?_
    refine mx_iload_n 1 d_H_gaps_34 rfl rfl ?_
    refine mx_callV (kc := 0) (ks := 0) (N := n_H_letAllFollow) (as := [_]) (ci := 6) d_H_gaps_35 s_H_121 ⟨Nat.le_of_ble_eq_true rfl, Nat.le_of_ble_eq_true rfl⟩ rfl (mj_wt_8 (Nat.le_of_ble_eq_true rfl)) (hH.o) ⟨_, rfl, rfl⟩ (ct_lf (B := (sI A (1000 + 100 * d) 10 (1 - gI A (1000 + 100 * d) 10))) hj h1 h5.1 hck.1) (fun r_35 A_35 h_35 => ?_) (fun E_35 A_x h_35 => ?_)
    rotate_left
    · exact h_35.elim
    obtain ⟨rfl, hkf⟩ := h_35
    refine mx_R fun hR_4 => ?_
    have hD2 := hkf.x.D
    have e1' : gI A_35 100 1 = gI A 100 1 := hkf.I _ _ (by omega) (by omega)
    have ep : gI A_35 (1000 + 100 * d) 10 = 1 - gI A 216 d := hkf.k.c.symm.trans (hck.2.c.trans (by rw [← e10]))
    refine mx_aload_n 2 d_H_gaps_38 rfl rfl ?_
    refine mx_getI 10 d_H_gaps_39 f_H_146 rfl rfl (hD2.o d h1.1 (by rw [e1']; omega)) ?_
    rw [ep]
    refine mx_zret d_H_gaps_42 rfl (by omega) ?_
    exact ⟨⟨h1, h1.1, h1.2, h5.1, h5.2⟩, rfl, _, hck.1, hkf, hck.2, by rw [gI_sI, if_neg (by omega)], by rw [gI_sI, if_neg (by omega)]⟩
  · refine mx_aload_n 2 d_H_gaps_18 rfl rfl ?_
    refine mx_getI 10 d_H_gaps_19 f_H_146 rfl rfl (hD.o d h1.1 h1.2) ?_
    refine mx_if_ne 29 d_H_gaps_22 rfl (by first | assumption | exact hR_2 _ _ | exact hR_1 _ _ | exact hR _ _ | exact r32_mk (by omega) (by omega)) (fun c_22 => ?_) (fun c_22 => ?_)
    · refine mx_iconst d_H_gaps_29 ?_
      exact mj_ji hJ_18 (by omega)
    · refine mx_iconst d_H_gaps_25 ?_
      refine mx_goto 30 d_H_gaps_26 rfl ?_
      exact mj_ji hJ_18 (by omega)
end CLSM
