/-! THE REFERENCE, 9: splice, film, what is asked of sheets and pegs, what hangs on a drawing -/
theorem mo_fl_1 {A : mj_M} {s : Int} (hn : 0 ≤ gI A 200 43) : mo_fl (sI (sI A 244 (gI A 200 43) s) 200 43 (gI A 200 43 + 1)) = mo_fl A + gI A 224 s := by
  unfold mo_fl
  rw [show gI (sI (sI A 244 (gI A 200 43) s) 200 43 (gI A 200 43 + 1)) 200 43 = gI A 200 43 + 1 by (try simp only [gI_sI, gI_sF, gI_sP, gI_sN, gP_sI, gP_sF, gP_sP, gP_sN, gS_sI, gS_sF, gS_sP, gS_sN, Int.reduceEq, false_and, and_false, true_and, and_true, eq_self, if_false, if_true, reduceIte, reduceCtorEq]), show (gI A 200 43 + 1).toNat = (gI A 200 43).toNat + 1 by omega, mj_sum]
  rw [mj_sum_congr (g := fun k => gI A 224 (gI A 244 k)) (gI A 200 43).toNat (fun i h0 h1 => by
    (try simp only [gI_sI, gI_sF, gI_sP, gI_sN, gP_sI, gP_sF, gP_sP, gP_sN, gS_sI, gS_sF, gS_sP, gS_sN, Int.reduceEq, false_and, and_false, true_and, and_true, eq_self, if_false, if_true, reduceIte, reduceCtorEq])
    rw [if_neg (by omega)])]
  congr 1
  (try simp only [gI_sI, gI_sF, gI_sP, gI_sN, gP_sI, gP_sF, gP_sP, gP_sN, gS_sI, gS_sF, gS_sP, gS_sN, Int.reduceEq, false_and, and_false, true_and, and_true, eq_self, if_false, if_true, reduceIte, reduceCtorEq])
  rw [if_pos (by omega)]
/-- what speaks of the same rows -/
theorem mo_r0 {A : mj_M} {i v c : Int} (hc : c ≠ 200) : gI (sI A 200 i v) c = gI A c := funext fun k => by rw [gI_sI, if_neg (fun h => hc h.1)]
theorem mo_po_c {A B : mj_M} {p f z : Int} (h : ∀ c, 222 ≤ c → c ≤ 237 → gI B c = gI A c) : mo_po B p f z = mo_po A p f z := by
  have hx : gI B (mo_xr z) = gI A (mo_xr z) := by
    unfold mo_xr
    split
    · exact h _ (by omega) (by omega)
    · exact h _ (by omega) (by omega)
  unfold mo_po
  rw [hx, h 233 (by omega) (by omega), h 234 (by omega) (by omega), h 235 (by omega) (by omega)]
theorem mo_mv_c {A B : mj_M} {s l f z : Int} (h : ∀ c, 222 ≤ c → c ≤ 237 → gI B c = gI A c) : mo_mv B s l f z = mo_mv A s l f z := by
  unfold mo_mv
  rw [mo_po_c h, mo_po_c h, h 229 (by omega) (by omega), h 230 (by omega) (by omega)]
theorem mo_ha_c {A B : mj_M} {s l f : Int} (h : ∀ c, 222 ≤ c → c ≤ 237 → gI B c = gI A c) : mo_ha B s l f = mo_ha A s l f := by
  unfold mo_ha
  rw [h 228 (by omega) (by omega), h 227 (by omega) (by omega), h 224 (by omega) (by omega), h 231 (by omega) (by omega), h 226 (by omega) (by omega)]
theorem mo_sl_c {A B : mj_M} {s f x y : Int} (h : ∀ c, 222 ≤ c → c ≤ 237 → gI B c = gI A c) (h18 : gI B 218 = gI A 218) : ∀ n : Nat, mo_sl B s f x y n = mo_sl A s f x y n
  | 0 => rfl
  | n + 1 => by
    rw [mo_sl, mo_sl, mo_sl_c h h18 n, mo_ha_c h, mo_mv_c h, mo_mv_c h, h18, h 222 (by omega) (by omega), h 225 (by omega) (by omega)]
theorem mo_se_c {A B : mj_M} {s f x y : Int} (h : ∀ c, 222 ≤ c → c ≤ 237 → gI B c = gI A c) (h18 : gI B 218 = gI A 218) : mo_se B s f x y = mo_se A s f x y := mo_sl_c h h18 4
section MOD9
variable {G : mj_G} {A : mj_M}
theorem cm_splice_t {s : Int} (hM : MS A) (hg : mo_rg A) (hn : 0 ≤ gI A 200 43 ∧ gI A 200 43 ≤ 10) (hr : ∀ k, 0 ≤ k → k < gI A 200 43 → 0 ≤ gI A 244 k ∧ gI A 244 k < gI A 200 23) (hs : 0 ≤ s ∧ s < gI A 200 23) (h10 : gI A 200 43 < 10) {P : Option mj_V → mj_M → Prop} (hP : P (some (mI (mo_fl A + gI A 224 s))) (sI (sI A 244 (gI A 200 43) s) 200 43 (gI A 200 43 + 1))) :
    mj_X G n_M_splice (mj_Qm G n_M_splice P mj_no) A 0 0 28 [some (mR (some 200)), some (mI s)] [] := by
  have hns := hg.ns
  refine mx_R fun hR => ?_
  refine mx_aload_n 0 d_M_splice_28 rfl rfl ?_
  refine mx_getPs 44 d_M_splice_29 f_M_116 rfl rfl (hM.o) (hM.p44) ?_
  refine mx_aload_n 0 d_M_splice_32 rfl rfl ?_
  refine mx_getI 43 d_M_splice_33 f_M_244 rfl rfl (hM.o) ?_
  refine mx_iload_n 1 d_M_splice_36 rfl rfl ?_
  refine mx_iast d_M_splice_37 (hM.s44) (by omega) (by omega) (by first | assumption | exact hR _ _ | exact r32_mk (by omega) (by omega)) ?_
  refine mx_R fun hR_1 => ?_
  refine mx_aload_n 0 d_M_splice_38 rfl rfl ?_
  refine mx_dup d_M_splice_39 (fun z h => by cases h) ?_
  refine mx_getI 43 d_M_splice_40 f_M_244 rfl rfl (hM.o) ?_
  (try simp only [gI_sI, gI_sF, gI_sP, gI_sN, gP_sI, gP_sF, gP_sP, gP_sN, gS_sI, gS_sF, gS_sP, gS_sN, Int.reduceEq, false_and, and_false, true_and, and_true, eq_self, if_false, if_true, reduceIte, reduceCtorEq])
  refine mx_iconst d_M_splice_43 ?_
  refine mx_iadd d_M_splice_44 ?_
  refine mx_putI 43 d_M_splice_45 f_M_244 rfl (hM.o) (Or.inl rfl) (Or.inl rfl) (by first | assumption | exact hR_1 _ _ | exact hR _ _ | exact r32_mk (by omega) (by omega)) ?_
  refine mx_R fun hR_2 => ?_
  refine mx_aload_n 0 d_M_splice_48 rfl rfl ?_
  refine mx_callV (kc := 0) (ks := 0) (N := n_M_filmed) (as := []) (ci := 7) d_M_splice_49 s_M_247 ⟨Nat.le_of_ble_eq_true rfl, Nat.le_of_ble_eq_true rfl⟩ rfl (mj_wt_8 (Nat.le_of_ble_eq_true rfl)) (hM.o) ⟨_, rfl, rfl⟩ (cm_filmed (A := sI (sI A 244 (gI A 200 43) s) 200 43 (gI A 200 43 + 1)) hM hg (by (try simp only [gI_sI, gI_sF, gI_sP, gI_sN, gP_sI, gP_sF, gP_sP, gP_sN, gS_sI, gS_sF, gS_sP, gS_sN, Int.reduceEq, false_and, and_false, true_and, and_true, eq_self, if_false, if_true, reduceIte, reduceCtorEq]); omega) (fun k h0 h1 => by
replace h1 : k < gI A 200 43 + 1 := h1
(try simp only [gI_sI, gI_sF, gI_sP, gI_sN, gP_sI, gP_sF, gP_sP, gP_sN, gS_sI, gS_sF, gS_sP, gS_sN, Int.reduceEq, false_and, and_false, true_and, and_true, eq_self, if_false, if_true, reduceIte, reduceCtorEq])
by_cases e : k = gI A 200 43
· rw [if_pos e]; exact hs
· rw [if_neg e]; exact hr k h0 (by omega))) (fun r_49 A_49 h_49 => ?_) (fun E_49 A_x h_49 => ?_)
  rotate_left
  · exact h_49.elim
  obtain ⟨rfl, hA_49⟩ := h_49
  obtain rfl := hA_49.symm
  clear hA_49
  refine mx_R fun hR_3 => ?_
  refine mx_iret d_M_splice_52 rfl ?_
  rw [mo_fl_1 hn.1]
  exact hP
theorem cm_splice {s : Int} (hM : MS A) (hg : mo_rg A) (hn : 0 ≤ gI A 200 43 ∧ gI A 200 43 ≤ 10) (hr : ∀ k, 0 ≤ k → k < gI A 200 43 → 0 ≤ gI A 244 k ∧ gI A 244 k < gI A 200 23) (hs : r32 s) : mj_Cal G n_M_splice [mR (some 200), mI s] A (fun r A' => (((0 ≤ s ∧ s < gI A 200 23) ∧ gI A 200 43 < 10) ∧ r = some (mI (mo_fl A + gI A 224 s)) ∧ A' = sI (sI (sI A 200 0 0) 244 (gI A 200 43) s) 200 43 (gI A 200 43 + 1)) ∨ (¬ ((0 ≤ s ∧ s < gI A 200 23) ∧ gI A 200 43 < 10) ∧ r = some (mI 0) ∧ A' = sI A 200 0 (if 0 ≤ s ∧ s < gI A 200 23 then (if gI A 200 43 < 10 then 0 else 2) else 1))) mj_no := by
  refine mj_bodyK 0 0 [some (mR (some 200)), some (mI s)] rfl rfl rfl (by decide +kernel) (Nat.le_of_ble_eq_true rfl) (by simp) rfl ?_
  refine mx_R fun hR => ?_
  refine mx_aload_n 0 d_M_splice_0 rfl rfl ?_
  refine mx_aload_n 0 d_M_splice_1 rfl rfl ?_
  refine mx_iload_n 1 d_M_splice_2 rfl rfl ?_
  refine mx_callV (kc := 0) (ks := 0) (N := n_M_isScene) (as := [_]) (ci := 7) d_M_splice_3 s_M_196 ⟨Nat.le_of_ble_eq_true rfl, Nat.le_of_ble_eq_true rfl⟩ rfl (mj_wt_8 (Nat.le_of_ble_eq_true rfl)) (hM.o) ⟨_, rfl, rfl⟩ (cm_isScene hM hs hg.ns) (fun r_3 A_3 h_3 => ?_) (fun E_3 A_x h_3 => ?_)
  rotate_left
  · exact h_3.elim
  obtain ⟨rfl, hA_3⟩ := h_3
  obtain rfl := hA_3.symm
  clear hA_3
  refine mx_R fun hR_1 => ?_
  refine mj_cutB (gI A 200 43 < 10) 20 ?_ (fun hJ_6 => ?_)
  · refine mx_callV (kc := 0) (ks := 0) (N := n_M_asked2) (as := [_, _]) (ci := 7) d_M_splice_20 s_M_166 ⟨Nat.le_of_ble_eq_true rfl, Nat.le_of_ble_eq_true rfl⟩ rfl (mj_wt_8 (Nat.le_of_ble_eq_true rfl)) (hM.o) ⟨_, rfl, rfl⟩ (cm_asked2 _ _ hM) (fun r_20 A_20 h_20 => ?_) (fun E_20 A_x h_20 => ?_)
    rotate_left
    · exact h_20.elim
    obtain ⟨rfl, hA_20⟩ := h_20
    obtain rfl := hA_20.symm
    clear hA_20
    refine mx_R fun hR_2 => ?_
    refine mx_if_ne 28 d_M_splice_23 rfl (by first | assumption | exact hR_2 _ _ | exact hR_1 _ _ | exact hR _ _ | exact r32_mk (by omega) (by omega)) (fun c_23 => ?_) (fun c_23 => ?_)
    · have hP : ((0 ≤ s ∧ s < gI A 200 23) ∧ gI A 200 43 < 10) := by omega
      rw [if_pos hP.1, if_pos hP.2]
      exact cm_splice_t (A := sI A 200 0 0) hM hg hn hr hP.1 hP.2 (Or.inl ⟨hP, rfl, rfl⟩)
    · refine mx_iconst d_M_splice_26 ?_
      refine mx_iret d_M_splice_27 rfl ?_
      exact Or.inr ⟨by omega, rfl, rfl⟩
  · refine mx_aload_n 0 d_M_splice_6 rfl rfl ?_
    refine mx_getI 43 d_M_splice_7 f_M_244 rfl rfl (hM.o) ?_
    refine mx_bipush d_M_splice_10 (by decide) ?_
    refine mx_icmp_ge 19 d_M_splice_12 rfl (by first | assumption | exact hR_1 _ _ | exact hR _ _ | exact r32_mk (by omega) (by omega)) (by first | assumption | exact hR_1 _ _ | exact hR _ _ | exact r32_mk (by omega) (by omega)) (fun c_12 => ?_) (fun c_12 => ?_)
    · refine mx_iconst d_M_splice_19 ?_
      first | exact mj_j1 hJ_6 (by omega) | exact mj_j0 hJ_6 (by omega)
    · refine mx_iconst d_M_splice_15 ?_
      refine mx_goto 20 d_M_splice_16 rfl ?_
      first | exact mj_j1 hJ_6 (by omega) | exact mj_j0 hJ_6 (by omega)
theorem cm_has {s l f : Int} (hM : MS A) (hg : mo_rg A) (hs : r32 s) (hl : r32 l) (hf : r32 f) : mj_Cal G n_M_has [mR (some 200), mI s, mI l, mI f] A (fun r A' => (((0 ≤ s ∧ s < gI A 200 23 ∧ 0 ≤ l ∧ l ≤ 3) ∧ (0 ≤ s ∧ s < gI A 200 23 ∧ 0 ≤ f ∧ f < gI A 224 s)) ∧ r = some (mI (mo_ha A s l f)) ∧ A' = sI A 200 0 0) ∨ (¬ ((0 ≤ s ∧ s < gI A 200 23 ∧ 0 ≤ l ∧ l ≤ 3) ∧ (0 ≤ s ∧ s < gI A 200 23 ∧ 0 ≤ f ∧ f < gI A 224 s)) ∧ r = some (mI 0) ∧ A' = sI A 200 0 (if ((0 ≤ s ∧ s < gI A 200 23 ∧ 0 ≤ l ∧ l ≤ 3) ∧ (0 ≤ s ∧ s < gI A 200 23 ∧ 0 ≤ f ∧ f < gI A 224 s)) then 0 else 1))) mj_no := by
  refine mj_bodyK 0 0 [some (mR (some 200)), some (mI s), some (mI l), some (mI f)] rfl rfl rfl (by decide +kernel) (Nat.le_of_ble_eq_true rfl) (by simp) rfl ?_
  refine mx_R fun hR => ?_
  refine mx_aload_n 0 d_M_has_0 rfl rfl ?_
  refine mj_cutB (((0 ≤ s ∧ s < gI A 200 23 ∧ 0 ≤ l ∧ l ≤ 3) ∧ (0 ≤ s ∧ s < gI A 200 23 ∧ 0 ≤ f ∧ f < gI A 224 s))) 24 ?_ (fun hJ_1 => ?_)
  · refine mx_callV (kc := 0) (ks := 0) (N := n_M_asked1) (as := [_]) (ci := 7) d_M_has_24 s_M_138 ⟨Nat.le_of_ble_eq_true rfl, Nat.le_of_ble_eq_true rfl⟩ rfl (mj_wt_8 (Nat.le_of_ble_eq_true rfl)) (hM.o) ⟨_, rfl, rfl⟩ (cm_asked1 _ hM) (fun r_24 A_24 h_24 => ?_) (fun E_24 A_x h_24 => ?_)
    rotate_left
    · exact h_24.elim
    obtain ⟨rfl, hA_24⟩ := h_24
    obtain rfl := hA_24.symm
    clear hA_24
    refine mx_R fun hR_1 => ?_
    refine mx_if_eq 40 d_M_has_27 rfl (by first | assumption | exact hR_1 _ _ | exact hR _ _ | exact r32_mk (by omega) (by omega)) (fun c_27 => ?_) (fun c_27 => ?_)
    · refine mx_iconst d_M_has_40 ?_
      refine mx_iret d_M_has_41 rfl ?_
      exact Or.inr ⟨by omega, rfl, rfl⟩
    · have hP : ((0 ≤ s ∧ s < gI A 200 23 ∧ 0 ≤ l ∧ l ≤ 3) ∧ (0 ≤ s ∧ s < gI A 200 23 ∧ 0 ≤ f ∧ f < gI A 224 s)) := by omega
      rw [if_pos hP]
      refine mx_R fun hR => ?_
      refine mx_aload_n 0 d_M_has_30 rfl rfl ?_
      refine mx_iload_n 1 d_M_has_31 rfl rfl ?_
      refine mx_iload_n 2 d_M_has_32 rfl rfl ?_
      refine mx_iload_n 3 d_M_has_33 rfl rfl ?_
      refine mx_callV (kc := 0) (ks := 0) (N := n_M_hasAt) (as := [_, _, _]) (ci := 7) d_M_has_34 s_M_218 ⟨Nat.le_of_ble_eq_true rfl, Nat.le_of_ble_eq_true rfl⟩ rfl (mj_wt_8 (Nat.le_of_ble_eq_true rfl)) (hM.o) ⟨_, rfl, rfl⟩ (cm_hasAt (A := sI A 200 0 0) hM hg ⟨hP.1.1, hP.1.2.1⟩ hP.1.2.2 hP.2.2.2) (fun r_34 A_34 h_34 => ?_) (fun E_34 A_x h_34 => ?_)
      rotate_left
      · exact h_34.elim
      obtain ⟨rfl, hA_34⟩ := h_34
      obtain rfl := hA_34.symm
      clear hA_34
      refine mx_R fun hR_1 => ?_
      refine mx_goto 41 d_M_has_37 rfl ?_
      refine mx_iret d_M_has_41 rfl ?_
      exact Or.inl ⟨hP, rfl, rfl⟩
  · refine mx_aload_n 0 d_M_has_1 rfl rfl ?_
    refine mx_iload_n 1 d_M_has_2 rfl rfl ?_
    refine mx_iload_n 2 d_M_has_3 rfl rfl ?_
    refine mx_callV (kc := 0) (ks := 0) (N := n_M_isLevel) (as := [_, _]) (ci := 7) d_M_has_4 s_M_199 ⟨Nat.le_of_ble_eq_true rfl, Nat.le_of_ble_eq_true rfl⟩ rfl (mj_wt_8 (Nat.le_of_ble_eq_true rfl)) (hM.o) ⟨_, rfl, rfl⟩ (cm_isLevel hM hs hl hg.ns) (fun r_4 A_4 h_4 => ?_) (fun E_4 A_x h_4 => ?_)
    rotate_left
    · exact h_4.elim
    obtain ⟨rfl, hA_4⟩ := h_4
    obtain rfl := hA_4.symm
    clear hA_4
    refine mx_R fun hR_2 => ?_
    refine mx_if_eq 23 d_M_has_7 rfl (by first | assumption | exact hR_2 _ _ | exact hR _ _ | exact r32_mk (by omega) (by omega)) (fun c_7 => ?_) (fun c_7 => ?_)
    · refine mx_iconst d_M_has_23 ?_
      first | exact mj_j1 hJ_1 (by omega) | exact mj_j0 hJ_1 (by omega)
    · refine mx_aload_n 0 d_M_has_10 rfl rfl ?_
      refine mx_iload_n 1 d_M_has_11 rfl rfl ?_
      refine mx_iload_n 3 d_M_has_12 rfl rfl ?_
      refine mx_callV (kc := 0) (ks := 0) (N := n_M_isFrame) (as := [_, _]) (ci := 7) d_M_has_13 s_M_202 ⟨Nat.le_of_ble_eq_true rfl, Nat.le_of_ble_eq_true rfl⟩ rfl (mj_wt_8 (Nat.le_of_ble_eq_true rfl)) (hM.o) ⟨_, rfl, rfl⟩ (cm_isFrame hM hs hf hg.ns hg.fr) (fun r_13 A_13 h_13 => ?_) (fun E_13 A_x h_13 => ?_)
      rotate_left
      · exact h_13.elim
      obtain ⟨rfl, hA_13⟩ := h_13
      obtain rfl := hA_13.symm
      clear hA_13
      refine mx_R fun hR_3 => ?_
      refine mx_if_eq 23 d_M_has_16 rfl (by first | assumption | exact hR_3 _ _ | exact hR_2 _ _ | exact hR _ _ | exact r32_mk (by omega) (by omega)) (fun c_16 => ?_) (fun c_16 => ?_)
      · refine mx_iconst d_M_has_23 ?_
        first | exact mj_j1 hJ_1 (by omega) | exact mj_j0 hJ_1 (by omega)
      · refine mx_iconst d_M_has_19 ?_
        refine mx_goto 24 d_M_has_20 rfl ?_
        first | exact mj_j1 hJ_1 (by omega) | exact mj_j0 hJ_1 (by omega)
theorem cm_moved {s l f z : Int} (hM : MS A) (hg : mo_rg A) (hp : mo_pg A) (hh : mo_hg A) (hs : r32 s) (hl : r32 l) (hf : r32 f) (hz : z = 0 ∨ z = 1) : mj_Cal G n_M_moved [mR (some 200), mI s, mI l, mI f, mI z] A (fun r A' => (((0 ≤ s ∧ s < gI A 200 23 ∧ 0 ≤ l ∧ l ≤ 3) ∧ (0 ≤ s ∧ s < gI A 200 23 ∧ 0 ≤ f ∧ f < gI A 224 s)) ∧ r = some (mI (mo_mv A s l f z)) ∧ A' = sI A 200 0 0) ∨ (¬ ((0 ≤ s ∧ s < gI A 200 23 ∧ 0 ≤ l ∧ l ≤ 3) ∧ (0 ≤ s ∧ s < gI A 200 23 ∧ 0 ≤ f ∧ f < gI A 224 s)) ∧ r = some (mI 0) ∧ A' = sI A 200 0 (if ((0 ≤ s ∧ s < gI A 200 23 ∧ 0 ≤ l ∧ l ≤ 3) ∧ (0 ≤ s ∧ s < gI A 200 23 ∧ 0 ≤ f ∧ f < gI A 224 s)) then 0 else 1))) mj_no := by
  refine mj_bodyK 0 0 [some (mR (some 200)), some (mI s), some (mI l), some (mI f), some (mI z)] rfl rfl rfl (by decide +kernel) (Nat.le_of_ble_eq_true rfl) (by simp) rfl ?_
  refine mx_R fun hR => ?_
  refine mx_aload_n 0 d_M_moved_0 rfl rfl ?_
  refine mj_cutB (((0 ≤ s ∧ s < gI A 200 23 ∧ 0 ≤ l ∧ l ≤ 3) ∧ (0 ≤ s ∧ s < gI A 200 23 ∧ 0 ≤ f ∧ f < gI A 224 s))) 24 ?_ (fun hJ_1 => ?_)
  · refine mx_callV (kc := 0) (ks := 0) (N := n_M_asked1) (as := [_]) (ci := 7) d_M_moved_24 s_M_138 ⟨Nat.le_of_ble_eq_true rfl, Nat.le_of_ble_eq_true rfl⟩ rfl (mj_wt_8 (Nat.le_of_ble_eq_true rfl)) (hM.o) ⟨_, rfl, rfl⟩ (cm_asked1 _ hM) (fun r_24 A_24 h_24 => ?_) (fun E_24 A_x h_24 => ?_)
    rotate_left
    · exact h_24.elim
    obtain ⟨rfl, hA_24⟩ := h_24
    obtain rfl := hA_24.symm
    clear hA_24
    refine mx_R fun hR_1 => ?_
    refine mx_if_eq 42 d_M_moved_27 rfl (by first | assumption | exact hR_1 _ _ | exact hR _ _ | exact r32_mk (by omega) (by omega)) (fun c_27 => ?_) (fun c_27 => ?_)
    · refine mx_iconst d_M_moved_42 ?_
      refine mx_iret d_M_moved_43 rfl ?_
      exact Or.inr ⟨by omega, rfl, rfl⟩
    · have hP : ((0 ≤ s ∧ s < gI A 200 23 ∧ 0 ≤ l ∧ l ≤ 3) ∧ (0 ≤ s ∧ s < gI A 200 23 ∧ 0 ≤ f ∧ f < gI A 224 s)) := by omega
      rw [if_pos hP]
      have hfr := hg.fr s hP.1.1 hP.1.2.1
      refine mx_R fun hR => ?_
      refine mx_aload_n 0 d_M_moved_30 rfl rfl ?_
      refine mx_iload_n 1 d_M_moved_31 rfl rfl ?_
      refine mx_iload_n 2 d_M_moved_32 rfl rfl ?_
      refine mx_iload_n 3 d_M_moved_33 rfl rfl ?_
      refine mx_iload 4 d_M_moved_34 rfl ?_
      refine mx_callV (kc := 0) (ks := 0) (N := n_M_movedBy) (as := [_, _, _, _]) (ci := 7) d_M_moved_36 s_M_222 ⟨Nat.le_of_ble_eq_true rfl, Nat.le_of_ble_eq_true rfl⟩ rfl (mj_wt_8 (Nat.le_of_ble_eq_true rfl)) (hM.o) ⟨_, rfl, rfl⟩ (cm_movedBy (A := sI A 200 0 0) hM hp hh hg.ns ⟨hP.1.1, hP.1.2.1⟩ hP.1.2.2 ⟨hP.2.2.2.1, by omega⟩ hz) (fun r_36 A_36 h_36 => ?_) (fun E_36 A_x h_36 => ?_)
      rotate_left
      · exact h_36.elim
      obtain ⟨rfl, hA_36⟩ := h_36
      obtain rfl := hA_36.symm
      clear hA_36
      refine mx_R fun hR_1 => ?_
      refine mx_goto 43 d_M_moved_39 rfl ?_
      refine mx_iret d_M_moved_43 rfl ?_
      exact Or.inl ⟨hP, by rw [mo_mv_c fun c h1 h2 => mo_r0 (by omega)], rfl⟩
  · refine mx_aload_n 0 d_M_moved_1 rfl rfl ?_
    refine mx_iload_n 1 d_M_moved_2 rfl rfl ?_
    refine mx_iload_n 2 d_M_moved_3 rfl rfl ?_
    refine mx_callV (kc := 0) (ks := 0) (N := n_M_isLevel) (as := [_, _]) (ci := 7) d_M_moved_4 s_M_199 ⟨Nat.le_of_ble_eq_true rfl, Nat.le_of_ble_eq_true rfl⟩ rfl (mj_wt_8 (Nat.le_of_ble_eq_true rfl)) (hM.o) ⟨_, rfl, rfl⟩ (cm_isLevel hM hs hl hg.ns) (fun r_4 A_4 h_4 => ?_) (fun E_4 A_x h_4 => ?_)
    rotate_left
    · exact h_4.elim
    obtain ⟨rfl, hA_4⟩ := h_4
    obtain rfl := hA_4.symm
    clear hA_4
    refine mx_R fun hR_2 => ?_
    refine mx_if_eq 23 d_M_moved_7 rfl (by first | assumption | exact hR_2 _ _ | exact hR _ _ | exact r32_mk (by omega) (by omega)) (fun c_7 => ?_) (fun c_7 => ?_)
    · refine mx_iconst d_M_moved_23 ?_
      first | exact mj_j1 hJ_1 (by omega) | exact mj_j0 hJ_1 (by omega)
    · refine mx_aload_n 0 d_M_moved_10 rfl rfl ?_
      refine mx_iload_n 1 d_M_moved_11 rfl rfl ?_
      refine mx_iload_n 3 d_M_moved_12 rfl rfl ?_
      refine mx_callV (kc := 0) (ks := 0) (N := n_M_isFrame) (as := [_, _]) (ci := 7) d_M_moved_13 s_M_202 ⟨Nat.le_of_ble_eq_true rfl, Nat.le_of_ble_eq_true rfl⟩ rfl (mj_wt_8 (Nat.le_of_ble_eq_true rfl)) (hM.o) ⟨_, rfl, rfl⟩ (cm_isFrame hM hs hf hg.ns hg.fr) (fun r_13 A_13 h_13 => ?_) (fun E_13 A_x h_13 => ?_)
      rotate_left
      · exact h_13.elim
      obtain ⟨rfl, hA_13⟩ := h_13
      obtain rfl := hA_13.symm
      clear hA_13
      refine mx_R fun hR_3 => ?_
      refine mx_if_eq 23 d_M_moved_16 rfl (by first | assumption | exact hR_3 _ _ | exact hR_2 _ _ | exact hR _ _ | exact r32_mk (by omega) (by omega)) (fun c_16 => ?_) (fun c_16 => ?_)
      · refine mx_iconst d_M_moved_23 ?_
        first | exact mj_j1 hJ_1 (by omega) | exact mj_j0 hJ_1 (by omega)
      · refine mx_iconst d_M_moved_19 ?_
        refine mx_goto 24 d_M_moved_20 rfl ?_
        first | exact mj_j1 hJ_1 (by omega) | exact mj_j0 hJ_1 (by omega)
theorem cm_shot {s f x y : Int} (hM : MS A) (hg : mo_rg A) (hs : r32 s) (hf : r32 f) (hx : r32 x) (hy : r32 y) : mj_Cal G n_M_shot [mR (some 200), mI s, mI f, mI x, mI y] A (fun r A' => (((0 ≤ s ∧ s < gI A 200 23 ∧ 0 ≤ f ∧ f < gI A 224 s) ∧ (0 ≤ x ∧ x < 16 ∧ 0 ≤ y ∧ y < 12)) ∧ r = some (mI (if gI A 238 (24 * s + f) = 0 then -1 else gI A 239 (192 * (24 * s + f) + 16 * y + x))) ∧ A' = sI A 200 0 0) ∨ (¬ ((0 ≤ s ∧ s < gI A 200 23 ∧ 0 ≤ f ∧ f < gI A 224 s) ∧ (0 ≤ x ∧ x < 16 ∧ 0 ≤ y ∧ y < 12)) ∧ r = some (mI 0) ∧ A' = sI A 200 0 (if ((0 ≤ s ∧ s < gI A 200 23 ∧ 0 ≤ f ∧ f < gI A 224 s) ∧ (0 ≤ x ∧ x < 16 ∧ 0 ≤ y ∧ y < 12)) then 0 else 1))) mj_no := by
  refine mj_bodyK 0 0 [some (mR (some 200)), some (mI s), some (mI f), some (mI x), some (mI y)] rfl rfl rfl (by decide +kernel) (Nat.le_of_ble_eq_true rfl) (by simp) rfl ?_
  have hns := hg.ns
  refine mx_R fun hR => ?_
  refine mx_aload_n 0 d_M_shot_0 rfl rfl ?_
  refine mj_cutB (((0 ≤ s ∧ s < gI A 200 23 ∧ 0 ≤ f ∧ f < gI A 224 s) ∧ (0 ≤ x ∧ x < 16 ∧ 0 ≤ y ∧ y < 12))) 24 ?_ (fun hJ_1 => ?_)
  · refine mx_callV (kc := 0) (ks := 0) (N := n_M_asked1) (as := [_]) (ci := 7) d_M_shot_24 s_M_138 ⟨Nat.le_of_ble_eq_true rfl, Nat.le_of_ble_eq_true rfl⟩ rfl (mj_wt_8 (Nat.le_of_ble_eq_true rfl)) (hM.o) ⟨_, rfl, rfl⟩ (cm_asked1 _ hM) (fun r_24 A_24 h_24 => ?_) (fun E_24 A_x h_24 => ?_)
    rotate_left
    · exact h_24.elim
    obtain ⟨rfl, hA_24⟩ := h_24
    obtain rfl := hA_24.symm
    clear hA_24
    refine mx_R fun hR_1 => ?_
    refine mx_if_ne 32 d_M_shot_27 rfl (by first | assumption | exact hR_1 _ _ | exact hR _ _ | exact r32_mk (by omega) (by omega)) (fun c_27 => ?_) (fun c_27 => ?_)
    · have hP : ((0 ≤ s ∧ s < gI A 200 23 ∧ 0 ≤ f ∧ f < gI A 224 s) ∧ (0 ≤ x ∧ x < 16 ∧ 0 ≤ y ∧ y < 12)) := by omega
      rw [if_pos hP]
      have hfr := hg.fr s hP.1.1 hP.1.2.1
      refine mx_R fun hR => ?_
      refine mx_aload_n 0 d_M_shot_32 rfl rfl ?_
      refine mx_getPs 38 d_M_shot_33 f_M_104 rfl rfl (hM.o) (hM.p38) ?_
      refine mx_bipush d_M_shot_36 (by decide) ?_
      refine mx_iload_n 1 d_M_shot_38 rfl rfl ?_
      refine mx_imul d_M_shot_39 ?_
      refine mx_iload_n 2 d_M_shot_40 rfl rfl ?_
      refine mx_iadd d_M_shot_41 ?_
      refine mx_zald d_M_shot_42 (hM.s38) (by omega) (by omega) ?_
      refine mx_if_eq 72 d_M_shot_43 rfl (by first | assumption | exact hR _ _ | exact r32_mk (by omega) (by omega)) (fun c_43 => ?_) (fun c_43 => ?_)
      · refine mx_iconst d_M_shot_72 ?_
        refine mx_iret d_M_shot_73 rfl ?_
        refine Or.inl ⟨hP, ?_, rfl⟩
        first | exact (congrArg (fun v => some (mI v)) (if_pos c_43)).symm | exact (congrArg (fun v => some (mI v)) (if_neg c_43)).symm
      · refine mx_aload_n 0 d_M_shot_46 rfl rfl ?_
        refine mx_getPs 39 d_M_shot_47 f_M_107 rfl rfl (hM.o) (hM.p39) ?_
        refine mx_sipush d_M_shot_50 (by decide) ?_
        refine mx_bipush d_M_shot_53 (by decide) ?_
        refine mx_iload_n 1 d_M_shot_55 rfl rfl ?_
        refine mx_imul d_M_shot_56 ?_
        refine mx_iload_n 2 d_M_shot_57 rfl rfl ?_
        refine mx_iadd d_M_shot_58 ?_
        refine mx_imul d_M_shot_59 ?_
        refine mx_bipush d_M_shot_60 (by decide) ?_
        refine mx_iload 4 d_M_shot_62 rfl ?_
        refine mx_imul d_M_shot_64 ?_
        refine mx_iadd d_M_shot_65 ?_
        refine mx_iload_n 3 d_M_shot_66 rfl rfl ?_
        refine mx_iadd d_M_shot_67 ?_
        refine mx_iald d_M_shot_68 (hM.s39) (by omega) (by omega) ?_
        refine mx_goto 73 d_M_shot_69 rfl ?_
        refine mx_iret d_M_shot_73 rfl ?_
        refine Or.inl ⟨hP, ?_, rfl⟩
        first | exact (congrArg (fun v => some (mI v)) (if_pos c_43)).symm | exact (congrArg (fun v => some (mI v)) (if_neg c_43)).symm
    · refine mx_iconst d_M_shot_30 ?_
      refine mx_iret d_M_shot_31 rfl ?_
      exact Or.inr ⟨by omega, rfl, rfl⟩
  · refine mx_aload_n 0 d_M_shot_1 rfl rfl ?_
    refine mx_iload_n 1 d_M_shot_2 rfl rfl ?_
    refine mx_iload_n 2 d_M_shot_3 rfl rfl ?_
    refine mx_callV (kc := 0) (ks := 0) (N := n_M_isFrame) (as := [_, _]) (ci := 7) d_M_shot_4 s_M_202 ⟨Nat.le_of_ble_eq_true rfl, Nat.le_of_ble_eq_true rfl⟩ rfl (mj_wt_8 (Nat.le_of_ble_eq_true rfl)) (hM.o) ⟨_, rfl, rfl⟩ (cm_isFrame hM hs hf hg.ns hg.fr) (fun r_4 A_4 h_4 => ?_) (fun E_4 A_x h_4 => ?_)
    rotate_left
    · exact h_4.elim
    obtain ⟨rfl, hA_4⟩ := h_4
    obtain rfl := hA_4.symm
    clear hA_4
    refine mx_R fun hR_2 => ?_
    refine mx_if_eq 23 d_M_shot_7 rfl (by first | assumption | exact hR_2 _ _ | exact hR _ _ | exact r32_mk (by omega) (by omega)) (fun c_7 => ?_) (fun c_7 => ?_)
    · refine mx_iconst d_M_shot_23 ?_
      first | exact mj_j1 hJ_1 (by omega) | exact mj_j0 hJ_1 (by omega)
    · refine mx_iload_n 3 d_M_shot_10 rfl rfl ?_
      refine mx_iload 4 d_M_shot_11 rfl ?_
      refine mx_callS (kc := 0) (ks := 0) (N := n_M_isPoint) (as := [_, _]) d_M_shot_13 s_M_149 ⟨Nat.le_of_ble_eq_true rfl, Nat.le_of_ble_eq_true rfl⟩ rfl (mj_wt_8 (Nat.le_of_ble_eq_true rfl)) (cm_isPoint hx hy) (fun r_13 A_13 h_13 => ?_) (fun E_13 A_x h_13 => ?_)
      rotate_left
      · exact h_13.elim
      obtain ⟨rfl, hA_13⟩ := h_13
      obtain rfl := hA_13.symm
      clear hA_13
      refine mx_R fun hR_3 => ?_
      refine mx_if_eq 23 d_M_shot_16 rfl (by first | assumption | exact hR_3 _ _ | exact hR_2 _ _ | exact hR _ _ | exact r32_mk (by omega) (by omega)) (fun c_16 => ?_) (fun c_16 => ?_)
      · refine mx_iconst d_M_shot_23 ?_
        first | exact mj_j1 hJ_1 (by omega) | exact mj_j0 hJ_1 (by omega)
      · refine mx_iconst d_M_shot_19 ?_
        refine mx_goto 24 d_M_shot_20 rfl ?_
        first | exact mj_j1 hJ_1 (by omega) | exact mj_j0 hJ_1 (by omega)
/-- where a frame of the film lies -/
def mo_fm (v : Int → Int) : Nat → Int → Int → Int × Int
  | 0, k, a => (k, a)
  | n + 1, k, a => if v k ≤ a then mo_fm v n (k + 1) (a - v k) else (k, a)
theorem mj_sum_0 {f : Int → Int} : mj_sum f 0 = 0 := rfl
theorem mj_sum_1 {f : Int → Int} {k n : Nat} (hk : k ≤ n) (h : ∀ i : Int, 0 ≤ i → i < n → 0 ≤ f i) : mj_sum f k ≤ mj_sum f n := by
  induction n with
  | zero => rw [show k = 0 by omega]; exact Int.le_refl _
  | succ n ih =>
    by_cases e : k = n + 1
    · rw [e]; exact Int.le_refl _
    · have h1 := ih (by omega) (fun i h0 h1 => h i h0 (by omega))
      have h2 := h n (by omega) (by omega)
      rw [mj_sum]
      omega
theorem cm_film {f : Int} (hM : MS A) (hg : mo_rg A) (hn : 0 ≤ gI A 200 43 ∧ gI A 200 43 ≤ 10) (hr : ∀ k, 0 ≤ k → k < gI A 200 43 → 0 ≤ gI A 244 k ∧ gI A 244 k < gI A 200 23) (hf : r32 f) : mj_Cal G n_M_film [mR (some 200), mI f] A (fun r A' => ((0 ≤ f ∧ f < mo_fl A) ∧ r = some (mI (100 * gI A 244 (mo_fm (fun k => gI A 224 (gI A 244 k)) 10 0 f).1 + (mo_fm (fun k => gI A 224 (gI A 244 k)) 10 0 f).2)) ∧ A' = sI A 200 0 0) ∨ (¬ (0 ≤ f ∧ f < mo_fl A) ∧ r = some (mI 0) ∧ A' = sI A 200 0 (if 0 ≤ f ∧ f < mo_fl A then 0 else 1))) mj_no := by
  refine mj_bodyK 0 0 [some (mR (some 200)), some (mI f), none, none] rfl rfl rfl (by decide +kernel) (Nat.le_of_ble_eq_true rfl) (by simp) rfl ?_
  have hb := mo_fl_b hg hn hr
  have hns := hg.ns
  have tail : ∀ {P : Option mj_V → mj_M → Prop} {B : mj_M}, MS B → mo_rg B → (0 ≤ gI B 200 43 ∧ gI B 200 43 ≤ 10) → (∀ k, 0 ≤ k → k < gI B 200 43 → 0 ≤ gI B 244 k ∧ gI B 244 k < gI B 200 23) → f < mo_fl B → P (some (mI (100 * gI B 244 (mo_fm (fun k => gI B 224 (gI B 244 k)) 10 0 f).1 + (mo_fm (fun k => gI B 224 (gI B 244 k)) 10 0 f).2))) B → ∀ q : Nat × Nat × Int, (q.1 + q.2.1 = 10 ∧ q.2.1 < gI B 200 43 ∧ q.2.2 + mj_sum (fun k => gI B 224 (gI B 244 k)) q.2.1 = f ∧ r32 q.2.2 ∧ mo_fm (fun k => gI B 224 (gI B 244 k)) q.1 q.2.1 q.2.2 = mo_fm (fun k => gI B 224 (gI B 244 k)) 10 0 f) → mj_X G n_M_film (mj_Qm G n_M_film P mj_no) B 0 0 24 [some (mR (some 200)), some (mI f), some (mI q.2.2), some (mI q.2.1)] [] := by
    intro P B hM hg hn hr hfl hP
    refine mj_loop _ (fun q => q.1) _ ?_
    intro ⟨n, k, a⟩ ⟨h1, h2, h3, h4, h5⟩ ih
    replace h1 : n + k = 10 := h1
    replace h2 : (k : Int) < gI B 200 43 := h2
    replace h3 : a + mj_sum (fun k => gI B 224 (gI B 244 k)) k = f := h3
    replace h4 : r32 a := h4
    replace h5 : mo_fm (fun k => gI B 224 (gI B 244 k)) n k a = mo_fm (fun k => gI B 224 (gI B 244 k)) 10 0 f := h5
    have hr1 := hr k (by omega) h2
    have hns := hg.ns
    have hfr1 := hg.fr _ hr1.1 hr1.2
    show mj_X G n_M_film _ B 0 0 24 [some (mR (some 200)), some (mI f), some (mI a), some (mI k)] []
    refine mx_R fun hR => ?_
    refine mx_iload_n 2 d_M_film_24 rfl rfl ?_
    refine mx_aload_n 0 d_M_film_25 rfl rfl ?_
    refine mx_getPs 24 d_M_film_26 f_M_65 rfl rfl (hM.o) (hM.p24) ?_
    refine mx_aload_n 0 d_M_film_29 rfl rfl ?_
    refine mx_getPs 44 d_M_film_30 f_M_116 rfl rfl (hM.o) (hM.p44) ?_
    refine mx_iload_n 3 d_M_film_33 rfl rfl ?_
    refine mx_iald d_M_film_34 (hM.s44) (by omega) (by omega) ?_
    refine mx_iald d_M_film_35 (hM.s24) (by omega) (by omega) ?_
    refine mx_icmp_lt 59 d_M_film_36 rfl (by first | assumption | exact hR _ _ | exact r32_mk (by omega) (by omega)) (by first | assumption | exact hR _ _ | exact r32_mk (by omega) (by omega)) (fun c_36 => ?_) (fun c_36 => ?_)
    · refine mx_bipush d_M_film_59 (by decide) ?_
      refine mx_aload_n 0 d_M_film_61 rfl rfl ?_
      refine mx_getPs 44 d_M_film_62 f_M_116 rfl rfl (hM.o) (hM.p44) ?_
      refine mx_iload_n 3 d_M_film_65 rfl rfl ?_
      refine mx_iald d_M_film_66 (hM.s44) (by omega) (by omega) ?_
      refine mx_imul d_M_film_67 ?_
      refine mx_iload_n 2 d_M_film_68 rfl rfl ?_
      refine mx_iadd d_M_film_69 ?_
      refine mx_iret d_M_film_70 rfl ?_
      have e : mo_fm (fun k => gI B 224 (gI B 244 k)) n k a = ((k : Int), a) := by
        cases n with
        | zero => rfl
        | succ n => rw [mo_fm, if_neg (by show ¬ gI B 224 (gI B 244 k) ≤ a; omega)]
      rw [← h5, e] at hP
      exact hP
    · refine mx_iload_n 2 d_M_film_39 rfl rfl ?_
      refine mx_aload_n 0 d_M_film_40 rfl rfl ?_
      refine mx_getPs 24 d_M_film_41 f_M_65 rfl rfl (hM.o) (hM.p24) ?_
      refine mx_aload_n 0 d_M_film_44 rfl rfl ?_
      refine mx_getPs 44 d_M_film_45 f_M_116 rfl rfl (hM.o) (hM.p44) ?_
      refine mx_iload_n 3 d_M_film_48 rfl rfl ?_
      refine mx_iald d_M_film_49 (hM.s44) (by omega) (by omega) ?_
      refine mx_iald d_M_film_50 (hM.s24) (by omega) (by omega) ?_
      refine mx_isub d_M_film_51 ?_
      refine mx_istore_n 2 d_M_film_52 rfl (Nat.le_of_ble_eq_true rfl) ?_
      refine mx_iinc 3 d_M_film_53 rfl (Nat.le_of_ble_eq_true rfl) ?_
      refine mx_goto 24 d_M_film_56 rfl ?_
      have hk : (k : Int) + 1 < gI B 200 43 := by
        refine Decidable.byContradiction fun hc => ?_
        unfold mo_fl at hfl
        rw [show (gI B 200 43).toNat = k + 1 by omega, mj_sum] at hfl
        have hfl' : f < mj_sum (fun k => gI B 224 (gI B 244 k)) k + gI B 224 (gI B 244 k) := hfl
        omega
      obtain ⟨m, rfl⟩ : ∃ m, n = m + 1 := ⟨n - 1, by omega⟩
      have h9 := ih (m, k + 1, a - gI B 224 (gI B 244 k)) ⟨by show m + (k + 1) = 10; omega, by show ((k + 1 : Nat) : Int) < _; omega, ?_, ?_, ?_⟩ (by show m < m + 1; omega)
      · exact h9
      · show a - gI B 224 (gI B 244 k) + mj_sum _ (k + 1) = f
        rw [mj_sum]
        show a - gI B 224 (gI B 244 k) + (mj_sum _ k + gI B 224 (gI B 244 k)) = f
        omega
      · show r32 (a - gI B 224 (gI B 244 k))
        exact r32_mk (by omega) (by have := h4.2; omega)
      · rw [← h5]
        show mo_fm _ m (((k + 1 : Nat)) : Int) (a - gI B 224 (gI B 244 k)) = mo_fm _ (m + 1) k a
        rw [mo_fm, if_pos (by show gI B 224 (gI B 244 k) ≤ a; omega)]
        rfl
  refine mx_R fun hR => ?_
  refine mx_aload_n 0 d_M_film_0 rfl rfl ?_
  refine mx_iload_n 1 d_M_film_1 rfl rfl ?_
  refine mx_iconst d_M_film_2 ?_
  refine mx_aload_n 0 d_M_film_3 rfl rfl ?_
  refine mx_callV (kc := 0) (ks := 0) (N := n_M_filmed) (as := []) (ci := 7) d_M_film_4 s_M_247 ⟨Nat.le_of_ble_eq_true rfl, Nat.le_of_ble_eq_true rfl⟩ rfl (mj_wt_8 (Nat.le_of_ble_eq_true rfl)) (hM.o) ⟨_, rfl, rfl⟩ (cm_filmed hM hg hn hr) (fun r_4 A_4 h_4 => ?_) (fun E_4 A_x h_4 => ?_)
  rotate_left
  · exact h_4.elim
  obtain ⟨rfl, hA_4⟩ := h_4
  obtain rfl := hA_4.symm
  clear hA_4
  refine mx_R fun hR_1 => ?_
  refine mx_iconst d_M_film_7 ?_
  refine mx_isub d_M_film_8 ?_
  refine mx_callS (kc := 0) (ks := 0) (N := n_M_in) (as := [_, _, _]) d_M_film_9 s_M_126 ⟨Nat.le_of_ble_eq_true rfl, Nat.le_of_ble_eq_true rfl⟩ rfl (mj_wt_8 (Nat.le_of_ble_eq_true rfl)) (cm_in hf (r32_mk (by omega) (by omega)) (r32_mk (by omega) (by omega))) (fun r_9 A_9 h_9 => ?_) (fun E_9 A_x h_9 => ?_)
  rotate_left
  · exact h_9.elim
  obtain ⟨rfl, hA_9⟩ := h_9
  obtain rfl := hA_9.symm
  clear hA_9
  refine mx_R fun hR_2 => ?_
  rw [show (if 0 ≤ f ∧ f ≤ mo_fl A - 1 then (1 : Int) else 0) = (if 0 ≤ f ∧ f < mo_fl A then 1 else 0) by congr 1; exact propext ⟨fun h => by omega, fun h => by omega⟩]
  refine mx_callV (kc := 0) (ks := 0) (N := n_M_asked1) (as := [_]) (ci := 7) d_M_film_12 s_M_138 ⟨Nat.le_of_ble_eq_true rfl, Nat.le_of_ble_eq_true rfl⟩ rfl (mj_wt_8 (Nat.le_of_ble_eq_true rfl)) (hM.o) ⟨_, rfl, rfl⟩ (cm_asked1 _ hM) (fun r_12 A_12 h_12 => ?_) (fun E_12 A_x h_12 => ?_)
  rotate_left
  · exact h_12.elim
  obtain ⟨rfl, hA_12⟩ := h_12
  obtain rfl := hA_12.symm
  clear hA_12
  refine mx_R fun hR_3 => ?_
  refine mx_if_ne 20 d_M_film_15 rfl (by first | assumption | exact hR_3 _ _ | exact hR_2 _ _ | exact hR_1 _ _ | exact hR _ _ | exact r32_mk (by omega) (by omega)) (fun c_15 => ?_) (fun c_15 => ?_)
  · refine mx_iload_n 1 d_M_film_20 rfl rfl ?_
    refine mx_istore_n 2 d_M_film_21 rfl (Nat.le_of_ble_eq_true rfl) ?_
    refine mx_iconst d_M_film_22 ?_
    refine mx_istore_n 3 d_M_film_23 rfl (Nat.le_of_ble_eq_true rfl) ?_
    have hP : 0 ≤ f ∧ f < mo_fl A := by omega
    rw [if_pos hP]
    have hn1 : 0 < gI A 200 43 := by
      refine Decidable.byContradiction fun hc => ?_
      unfold mo_fl at hP
      rw [show (gI A 200 43).toNat = 0 by omega, mj_sum_0] at hP
      omega
    exact tail (B := sI A 200 0 0) hM hg hn hr hP.2 (Or.inl ⟨hP, rfl, rfl⟩) (10, 0, f) ⟨rfl, hn1, by show f + 0 = f; omega, hf, rfl⟩
  · refine mx_iconst d_M_film_18 ?_
    refine mx_iret d_M_film_19 rfl ?_
    exact Or.inr ⟨by omega, rfl, rfl⟩
end MOD9
