/-! THE HOUSE, 15: what is refused -/
abbrev xI : String := "java/lang/IndexOutOfBoundsException"
abbrev xA : String := "java/lang/IllegalArgumentException"
abbrev xS : String := "java/lang/IllegalStateException"
theorem pd_0 {a : Int} (h : pd a = none) : a = -1 := by
  by_cases e : a = -1
  · exact e
  · rw [show pd a = some (1000 + 100 * a) from if_neg e] at h; cases h
section CLSG
variable {G : mj_G} {A : mj_M}
/-- refused with E0 unless P -/
abbrev xn (A : mj_M) (E0 : String) (P : Prop) : String → mj_M → Prop := fun E A' => E = E0 ∧ ¬ P ∧ A' = A
abbrev xr (A : mj_M) (P : Prop) : Option mj_V → mj_M → Prop := fun r A' => r = none ∧ P ∧ A' = A
theorem ct_needRoom {C : Int → cT} (hj : JJ C A) : mj_Cal G n_H_needRoomForDrawing [mR (some 100)] A (xr A (gI A 200 3 < 16)) (xn A xS (gI A 200 3 < 16)) := by
  refine mj_bodyK 1 6 [some (mR (some 100))] rfl rfl rfl (by decide +kernel) (Nat.le_of_ble_eq_true rfl) (by simp) rfl ?_
  have hH := hj.x.H
  have hn := hj.x.n
  refine mx_R fun hR => ?_
  refine mx_aload_n 0 d_H_needRoomForDrawing_0 rfl rfl ?_
  refine mx_getI 1 d_H_needRoomForDrawing_1 f_H_68 rfl rfl (hH.o) ?_
  refine mx_bipush d_H_needRoomForDrawing_4 (by decide) ?_
  refine mx_icmp_lt 20 d_H_needRoomForDrawing_6 rfl (by first | assumption | exact hR _ _ | exact r32_mk (by omega) (by omega)) (by first | assumption | exact hR _ _ | exact r32_mk (by omega) (by omega)) (fun c_6 => ?_) (fun c_6 => ?_)
  · refine mx_vret d_H_needRoomForDrawing_20 rfl ?_
    exact ⟨rfl, by omega, rfl⟩
  · refine mx_throwW (text := "there are 16 drawings") t_H_134_138 (by decide) rfl (Nat.le_of_ble_eq_true rfl) (Nat.le_of_ble_eq_true rfl) d_H_needRoomForDrawing_9 d_H_needRoomForDrawing_12 d_H_needRoomForDrawing_13 d_H_needRoomForDrawing_16 d_H_needRoomForDrawing_19 ?_
    exact ⟨rfl, by omega, rfl⟩
theorem ct_needDrawing {C : Int → cT} {d : Int} (hj : JJ C A) (hd : r32 d) : mj_Cal G n_H_needDrawing [mR (some 100), mI d] A (xr A (0 ≤ d ∧ d < gI A 200 3)) (xn A xI (0 ≤ d ∧ d < gI A 200 3)) := by
  refine mj_bodyK 1 6 [some (mR (some 100)), some (mI d)] rfl rfl rfl (by decide +kernel) (Nat.le_of_ble_eq_true rfl) (by simp) rfl ?_
  have hH := hj.x.H
  have hn := hj.x.n
  refine mx_R fun hR => ?_
  refine mx_iload_n 1 d_H_needDrawing_0 rfl rfl ?_
  refine mx_if_lt 12 d_H_needDrawing_1 rfl (by first | assumption | exact hR _ _ | exact r32_mk (by omega) (by omega)) (fun c_1 => ?_) (fun c_1 => ?_)
  · refine mx_throwW (text := "no such drawing") t_H_319_323 (by decide) rfl (Nat.le_of_ble_eq_true rfl) (Nat.le_of_ble_eq_true rfl) d_H_needDrawing_12 d_H_needDrawing_15 d_H_needDrawing_16 d_H_needDrawing_19 d_H_needDrawing_22 ?_
    exact ⟨rfl, by omega, rfl⟩
  · refine mx_iload_n 1 d_H_needDrawing_4 rfl rfl ?_
    refine mx_aload_n 0 d_H_needDrawing_5 rfl rfl ?_
    refine mx_getI 1 d_H_needDrawing_6 f_H_68 rfl rfl (hH.o) ?_
    refine mx_icmp_lt 23 d_H_needDrawing_9 rfl (by first | assumption | exact hR _ _ | exact r32_mk (by omega) (by omega)) (by first | assumption | exact hR _ _ | exact r32_mk (by omega) (by omega)) (fun c_9 => ?_) (fun c_9 => ?_)
    · refine mx_vret d_H_needDrawing_23 rfl ?_
      exact ⟨rfl, by omega, rfl⟩
    · refine mx_throwW (text := "no such drawing") t_H_319_323 (by decide) rfl (Nat.le_of_ble_eq_true rfl) (Nat.le_of_ble_eq_true rfl) d_H_needDrawing_12 d_H_needDrawing_15 d_H_needDrawing_16 d_H_needDrawing_19 d_H_needDrawing_22 ?_
      exact ⟨rfl, by omega, rfl⟩
theorem ct_needChangeable {C : Int → cT} {d : Int} (hj : JJ C A) (hd : 0 ≤ d ∧ d < gI A 200 3) : mj_Cal G n_H_needChangeable [mR (some 100), mI d] A (xr A (gI A 204 d = -1 ∧ gI A 208 d = 0)) (xn A xS (gI A 204 d = -1 ∧ gI A 208 d = 0)) := by
  refine mj_bodyK 1 6 [some (mR (some 100)), some (mI d)] rfl rfl rfl (by decide +kernel) (Nat.le_of_ble_eq_true rfl) (by simp) rfl ?_
  have hH := hj.x.H
  have hn := hj.x.n
  have hnd := hj.m.g.nd
  have hD := hj.D
  have ha := hj.x.a d hd.1 (by omega)
  have hap := hj.h.ap d hd.1 hd.2
  refine mx_R fun hR => ?_
  refine mx_aload_n 0 d_H_needChangeable_0 rfl rfl ?_
  refine mx_getPs 0 d_H_needChangeable_1 f_H_11 rfl rfl (hH.o) (hH.p0) ?_
  refine mx_iload_n 1 d_H_needChangeable_4 rfl rfl ?_
  refine mx_aalds d_H_needChangeable_5 (hH.s0) (by decide) (by omega) (by omega) (hj.x.r d hd.1 (by omega)) ?_
  refine mx_callV (kc := 1) (ks := 6) (N := n_D_isKey) (as := []) (ci := 0) d_H_needChangeable_6 s_H_324 ⟨Nat.le_of_ble_eq_true rfl, Nat.le_of_ble_eq_true rfl⟩ rfl (mj_wt_8 (Nat.le_of_ble_eq_true rfl)) (hD.o _ (by omega) (by omega)) ⟨_, rfl, rfl⟩ (ct_isKey (hD.o d hd.1 hd.2)) (fun r_6 A_6 h_6 => ?_) (fun E_6 A_x h_6 => ?_)
  rotate_left
  · exact h_6.elim
  obtain ⟨rfl, hA_6⟩ := h_6
  obtain rfl := hA_6.symm
  clear hA_6
  refine mx_R fun hR_1 => ?_
  refine mx_if_eq 24 d_H_needChangeable_9 rfl (by first | assumption | exact hR_1 _ _ | exact hR _ _ | exact r32_mk (by omega) (by omega)) (fun c_9 => ?_) (fun c_9 => ?_)
  · refine mx_throwW (text := "an in-between, or approved") t_H_134_138 (by decide) rfl (Nat.le_of_ble_eq_true rfl) (Nat.le_of_ble_eq_true rfl) d_H_needChangeable_24 d_H_needChangeable_27 d_H_needChangeable_28 d_H_needChangeable_31 d_H_needChangeable_34 ?_
    first
    | exact ⟨rfl, fun h => mj_if0 (by assumption) (by rw [ha]; exact if_pos h.1), rfl⟩
    | exact ⟨rfl, fun h => absurd h.2 (by assumption), rfl⟩
  · refine mx_aload_n 0 d_H_needChangeable_12 rfl rfl ?_
    refine mx_getPs 0 d_H_needChangeable_13 f_H_11 rfl rfl (hH.o) (hH.p0) ?_
    refine mx_iload_n 1 d_H_needChangeable_16 rfl rfl ?_
    refine mx_aalds d_H_needChangeable_17 (hH.s0) (by decide) (by omega) (by omega) (hj.x.r d hd.1 (by omega)) ?_
    refine mx_getI 11 d_H_needChangeable_18 f_H_150 rfl rfl (hD.o _ (by omega) (by omega)) ?_
    rw [hap]
    refine mx_if_eq 35 d_H_needChangeable_21 rfl (by rw [← hap]; exact hR _ _) (fun c_21 => ?_) (fun c_21 => ?_)
    · refine mx_vret d_H_needChangeable_35 rfl ?_
      exact ⟨rfl, ⟨pd_0 (ha.symm.trans (mj_if1 (by assumption))), by assumption⟩, rfl⟩
    · refine mx_throwW (text := "an in-between, or approved") t_H_134_138 (by decide) rfl (Nat.le_of_ble_eq_true rfl) (Nat.le_of_ble_eq_true rfl) d_H_needChangeable_24 d_H_needChangeable_27 d_H_needChangeable_28 d_H_needChangeable_31 d_H_needChangeable_34 ?_
      first
      | exact ⟨rfl, fun h => mj_if0 (by assumption) (by rw [ha]; exact if_pos h.1), rfl⟩
      | exact ⟨rfl, fun h => absurd h.2 (by assumption), rfl⟩
theorem ct_needPoint {x y : Int} (hx : r32 x) (hy : r32 y) : mj_Cal G n_H_needPoint [mI x, mI y] A (xr A (mo_ip x y)) (xn A xI (mo_ip x y)) := by
  refine mj_bodyK 1 6 [some (mI x), some (mI y)] rfl rfl rfl (by decide +kernel) (Nat.le_of_ble_eq_true rfl) (by simp) rfl ?_
  refine mx_R fun hR => ?_
  refine mx_iload_n 0 d_H_needPoint_0 rfl rfl ?_
  refine mx_iload_n 1 d_H_needPoint_1 rfl rfl ?_
  refine mx_callS (kc := 1) (ks := 6) (N := n_H_isPoint) (as := [_, _]) d_H_needPoint_2 s_H_343 ⟨Nat.le_of_ble_eq_true rfl, Nat.le_of_ble_eq_true rfl⟩ rfl (mj_wt_8 (Nat.le_of_ble_eq_true rfl)) (ct_isPoint hx hy) (fun r_2 A_2 h_2 => ?_) (fun E_2 A_x h_2 => ?_)
  rotate_left
  · exact h_2.elim
  obtain ⟨rfl, hA_2⟩ := h_2
  obtain rfl := hA_2.symm
  clear hA_2
  refine mx_R fun hR_1 => ?_
  refine mx_if_ne 19 d_H_needPoint_5 rfl (by first | assumption | exact hR_1 _ _ | exact hR _ _ | exact r32_mk (by omega) (by omega)) (fun c_5 => ?_) (fun c_5 => ?_)
  · refine mx_vret d_H_needPoint_19 rfl ?_
    exact ⟨rfl, mj_if1 (by assumption), rfl⟩
  · refine mx_throwW (text := "no such point") t_H_319_323 (by decide) rfl (Nat.le_of_ble_eq_true rfl) (Nat.le_of_ble_eq_true rfl) d_H_needPoint_8 d_H_needPoint_11 d_H_needPoint_12 d_H_needPoint_15 d_H_needPoint_18 ?_
    exact ⟨rfl, mj_if0 (by assumption), rfl⟩
theorem ct_needColourName {x : Int} (hx : r32 x) : mj_Cal G n_H_needColourName [mI x] A (xr A (0 ≤ x ∧ x ≤ 7)) (xn A xI (0 ≤ x ∧ x ≤ 7)) := by
  refine mj_bodyK 1 6 [some (mI x)] rfl rfl rfl (by decide +kernel) (Nat.le_of_ble_eq_true rfl) (by simp) rfl ?_
  refine mx_R fun hR => ?_
  refine mx_iload_n 0 d_H_needColourName_0 rfl rfl ?_
  refine mx_if_lt 10 d_H_needColourName_1 rfl (by first | assumption | exact hR _ _ | exact r32_mk (by omega) (by omega)) (fun c_1 => ?_) (fun c_1 => ?_)
  · refine mx_throwW (text := "no such colour name") t_H_319_323 (by decide) rfl (Nat.le_of_ble_eq_true rfl) (Nat.le_of_ble_eq_true rfl) d_H_needColourName_10 d_H_needColourName_13 d_H_needColourName_14 d_H_needColourName_17 d_H_needColourName_20 ?_
    exact ⟨rfl, by omega, rfl⟩
  · refine mx_iload_n 0 d_H_needColourName_4 rfl rfl ?_
    refine mx_bipush d_H_needColourName_5 (by decide) ?_
    refine mx_icmp_lt 21 d_H_needColourName_7 rfl (by first | assumption | exact hR _ _ | exact r32_mk (by omega) (by omega)) (by first | assumption | exact hR _ _ | exact r32_mk (by omega) (by omega)) (fun c_7 => ?_) (fun c_7 => ?_)
    · refine mx_vret d_H_needColourName_21 rfl ?_
      exact ⟨rfl, by omega, rfl⟩
    · refine mx_throwW (text := "no such colour name") t_H_319_323 (by decide) rfl (Nat.le_of_ble_eq_true rfl) (Nat.le_of_ble_eq_true rfl) d_H_needColourName_10 d_H_needColourName_13 d_H_needColourName_14 d_H_needColourName_17 d_H_needColourName_20 ?_
      exact ⟨rfl, by omega, rfl⟩
theorem ct_needStrokeName {x : Int} (hx : r32 x) : mj_Cal G n_H_needStrokeName [mI x] A (xr A (0 ≤ x ∧ x ≤ 7)) (xn A xA (0 ≤ x ∧ x ≤ 7)) := by
  refine mj_bodyK 1 6 [some (mI x)] rfl rfl rfl (by decide +kernel) (Nat.le_of_ble_eq_true rfl) (by simp) rfl ?_
  refine mx_R fun hR => ?_
  refine mx_iload_n 0 d_H_needStrokeName_0 rfl rfl ?_
  refine mx_if_lt 10 d_H_needStrokeName_1 rfl (by first | assumption | exact hR _ _ | exact r32_mk (by omega) (by omega)) (fun c_1 => ?_) (fun c_1 => ?_)
  · refine mx_throwW (text := "a name is 0 to 7") t_H_79_83 (by decide) rfl (Nat.le_of_ble_eq_true rfl) (Nat.le_of_ble_eq_true rfl) d_H_needStrokeName_10 d_H_needStrokeName_13 d_H_needStrokeName_14 d_H_needStrokeName_17 d_H_needStrokeName_20 ?_
    exact ⟨rfl, by omega, rfl⟩
  · refine mx_iload_n 0 d_H_needStrokeName_4 rfl rfl ?_
    refine mx_bipush d_H_needStrokeName_5 (by decide) ?_
    refine mx_icmp_lt 21 d_H_needStrokeName_7 rfl (by first | assumption | exact hR _ _ | exact r32_mk (by omega) (by omega)) (by first | assumption | exact hR _ _ | exact r32_mk (by omega) (by omega)) (fun c_7 => ?_) (fun c_7 => ?_)
    · refine mx_vret d_H_needStrokeName_21 rfl ?_
      exact ⟨rfl, by omega, rfl⟩
    · refine mx_throwW (text := "a name is 0 to 7") t_H_79_83 (by decide) rfl (Nat.le_of_ble_eq_true rfl) (Nat.le_of_ble_eq_true rfl) d_H_needStrokeName_10 d_H_needStrokeName_13 d_H_needStrokeName_14 d_H_needStrokeName_17 d_H_needStrokeName_20 ?_
      exact ⟨rfl, by omega, rfl⟩
theorem ct_needPalette {x : Int} (hx : r32 x) : mj_Cal G n_H_needPalette [mI x] A (xr A (0 ≤ x ∧ x ≤ 3)) (xn A xI (0 ≤ x ∧ x ≤ 3)) := by
  refine mj_bodyK 1 6 [some (mI x)] rfl rfl rfl (by decide +kernel) (Nat.le_of_ble_eq_true rfl) (by simp) rfl ?_
  refine mx_R fun hR => ?_
  refine mx_iload_n 0 d_H_needPalette_0 rfl rfl ?_
  refine mx_if_lt 9 d_H_needPalette_1 rfl (by first | assumption | exact hR _ _ | exact r32_mk (by omega) (by omega)) (fun c_1 => ?_) (fun c_1 => ?_)
  · refine mx_throwW (text := "no such palette") t_H_319_323 (by decide) rfl (Nat.le_of_ble_eq_true rfl) (Nat.le_of_ble_eq_true rfl) d_H_needPalette_9 d_H_needPalette_12 d_H_needPalette_13 d_H_needPalette_16 d_H_needPalette_19 ?_
    exact ⟨rfl, by omega, rfl⟩
  · refine mx_iload_n 0 d_H_needPalette_4 rfl rfl ?_
    refine mx_iconst d_H_needPalette_5 ?_
    refine mx_icmp_lt 20 d_H_needPalette_6 rfl (by first | assumption | exact hR _ _ | exact r32_mk (by omega) (by omega)) (by first | assumption | exact hR _ _ | exact r32_mk (by omega) (by omega)) (fun c_6 => ?_) (fun c_6 => ?_)
    · refine mx_vret d_H_needPalette_20 rfl ?_
      exact ⟨rfl, by omega, rfl⟩
    · refine mx_throwW (text := "no such palette") t_H_319_323 (by decide) rfl (Nat.le_of_ble_eq_true rfl) (Nat.le_of_ble_eq_true rfl) d_H_needPalette_9 d_H_needPalette_12 d_H_needPalette_13 d_H_needPalette_16 d_H_needPalette_19 ?_
      exact ⟨rfl, by omega, rfl⟩
theorem ct_needScene {C : Int → cT} {s : Int} (hj : JJ C A) (hs : r32 s) : mj_Cal G n_H_needScene [mR (some 100), mI s] A (xr A (0 ≤ s ∧ s < gI A 200 23)) (xn A xI (0 ≤ s ∧ s < gI A 200 23)) := by
  refine mj_bodyK 1 6 [some (mR (some 100)), some (mI s)] rfl rfl rfl (by decide +kernel) (Nat.le_of_ble_eq_true rfl) (by simp) rfl ?_
  have hH := hj.x.H
  have hn := hj.s.n
  refine mx_R fun hR => ?_
  refine mx_iload_n 1 d_H_needScene_0 rfl rfl ?_
  refine mx_if_lt 12 d_H_needScene_1 rfl (by first | assumption | exact hR _ _ | exact r32_mk (by omega) (by omega)) (fun c_1 => ?_) (fun c_1 => ?_)
  · refine mx_throwW (text := "no such scene") t_H_319_323 (by decide) rfl (Nat.le_of_ble_eq_true rfl) (Nat.le_of_ble_eq_true rfl) d_H_needScene_12 d_H_needScene_15 d_H_needScene_16 d_H_needScene_19 d_H_needScene_22 ?_
    exact ⟨rfl, by omega, rfl⟩
  · refine mx_iload_n 1 d_H_needScene_4 rfl rfl ?_
    refine mx_aload_n 0 d_H_needScene_5 rfl rfl ?_
    refine mx_getI 6 d_H_needScene_6 f_H_166 rfl rfl (hH.o) ?_
    refine mx_icmp_lt 23 d_H_needScene_9 rfl (by first | assumption | exact hR _ _ | exact r32_mk (by omega) (by omega)) (by first | assumption | exact hR _ _ | exact r32_mk (by omega) (by omega)) (fun c_9 => ?_) (fun c_9 => ?_)
    · refine mx_vret d_H_needScene_23 rfl ?_
      exact ⟨rfl, by omega, rfl⟩
    · refine mx_throwW (text := "no such scene") t_H_319_323 (by decide) rfl (Nat.le_of_ble_eq_true rfl) (Nat.le_of_ble_eq_true rfl) d_H_needScene_12 d_H_needScene_15 d_H_needScene_16 d_H_needScene_19 d_H_needScene_22 ?_
      exact ⟨rfl, by omega, rfl⟩
theorem ct_needLevel {x : Int} (hx : r32 x) : mj_Cal G n_H_needLevel [mI x] A (xr A (0 ≤ x ∧ x ≤ 3)) (xn A xI (0 ≤ x ∧ x ≤ 3)) := by
  refine mj_bodyK 1 6 [some (mI x)] rfl rfl rfl (by decide +kernel) (Nat.le_of_ble_eq_true rfl) (by simp) rfl ?_
  refine mx_R fun hR => ?_
  refine mx_iload_n 0 d_H_needLevel_0 rfl rfl ?_
  refine mx_if_lt 9 d_H_needLevel_1 rfl (by first | assumption | exact hR _ _ | exact r32_mk (by omega) (by omega)) (fun c_1 => ?_) (fun c_1 => ?_)
  · refine mx_throwW (text := "no such level") t_H_319_323 (by decide) rfl (Nat.le_of_ble_eq_true rfl) (Nat.le_of_ble_eq_true rfl) d_H_needLevel_9 d_H_needLevel_12 d_H_needLevel_13 d_H_needLevel_16 d_H_needLevel_19 ?_
    exact ⟨rfl, by omega, rfl⟩
  · refine mx_iload_n 0 d_H_needLevel_4 rfl rfl ?_
    refine mx_iconst d_H_needLevel_5 ?_
    refine mx_icmp_lt 20 d_H_needLevel_6 rfl (by first | assumption | exact hR _ _ | exact r32_mk (by omega) (by omega)) (by first | assumption | exact hR _ _ | exact r32_mk (by omega) (by omega)) (fun c_6 => ?_) (fun c_6 => ?_)
    · refine mx_vret d_H_needLevel_20 rfl ?_
      exact ⟨rfl, by omega, rfl⟩
    · refine mx_throwW (text := "no such level") t_H_319_323 (by decide) rfl (Nat.le_of_ble_eq_true rfl) (Nat.le_of_ble_eq_true rfl) d_H_needLevel_9 d_H_needLevel_12 d_H_needLevel_13 d_H_needLevel_16 d_H_needLevel_19 ?_
      exact ⟨rfl, by omega, rfl⟩
theorem ct_needFrame {C : Int → cT} {s f : Int} (hj : JJ C A) (hs : 0 ≤ s ∧ s < gI A 200 23) (hf : r32 f) : mj_Cal G n_H_needFrame [mR (some 100), mI s, mI f] A (xr A (0 ≤ f ∧ f < gI A 224 s)) (xn A xI (0 ≤ f ∧ f < gI A 224 s)) := by
  refine mj_bodyK 1 6 [some (mR (some 100)), some (mI s), some (mI f)] rfl rfl rfl (by decide +kernel) (Nat.le_of_ble_eq_true rfl) (by simp) rfl ?_
  have hH := hj.x.H
  have hns := hj.m.g.ns
  have hS := hj.s.S
  have hfr := hj.s.fr s hs.1 hs.2
  refine mx_R fun hR => ?_
  refine mx_iload_n 2 d_H_needFrame_0 rfl rfl ?_
  refine mx_if_lt 17 d_H_needFrame_1 rfl (by first | assumption | exact hR _ _ | exact r32_mk (by omega) (by omega)) (fun c_1 => ?_) (fun c_1 => ?_)
  · refine mx_throwW (text := "no such frame") t_H_319_323 (by decide) rfl (Nat.le_of_ble_eq_true rfl) (Nat.le_of_ble_eq_true rfl) d_H_needFrame_17 d_H_needFrame_20 d_H_needFrame_21 d_H_needFrame_24 d_H_needFrame_27 ?_
    exact ⟨rfl, by omega, rfl⟩
  · refine mx_iload_n 2 d_H_needFrame_4 rfl rfl ?_
    refine mx_aload_n 0 d_H_needFrame_5 rfl rfl ?_
    refine mx_getPs 5 d_H_needFrame_6 f_H_21 rfl rfl (hH.o) (hH.p5) ?_
    refine mx_iload_n 1 d_H_needFrame_9 rfl rfl ?_
    refine mx_aalds d_H_needFrame_10 (hH.s5) (by decide) (by omega) (by omega) (hj.s.r s hs.1 hs.2) ?_
    refine mx_getI 0 d_H_needFrame_11 f_H_184 rfl rfl (hS.o _ (by omega) (by omega)) ?_
    refine mx_icmp_lt 28 d_H_needFrame_14 rfl (by first | assumption | exact hR _ _ | exact r32_mk (by omega) (by omega)) (by first | assumption | exact hR _ _ | exact r32_mk (by omega) (by omega)) (fun c_14 => ?_) (fun c_14 => ?_)
    · refine mx_vret d_H_needFrame_28 rfl ?_
      exact ⟨rfl, by omega, rfl⟩
    · refine mx_throwW (text := "no such frame") t_H_319_323 (by decide) rfl (Nat.le_of_ble_eq_true rfl) (Nat.le_of_ble_eq_true rfl) d_H_needFrame_17 d_H_needFrame_20 d_H_needFrame_21 d_H_needFrame_24 d_H_needFrame_27 ?_
      exact ⟨rfl, by omega, rfl⟩
theorem ct_needSound {x : Int} (hx : r32 x) : mj_Cal G n_H_needSound [mI x] A (xr A (0 ≤ x ∧ x ≤ 7)) (xn A xI (0 ≤ x ∧ x ≤ 7)) := by
  refine mj_bodyK 1 6 [some (mI x)] rfl rfl rfl (by decide +kernel) (Nat.le_of_ble_eq_true rfl) (by simp) rfl ?_
  refine mx_R fun hR => ?_
  refine mx_iload_n 0 d_H_needSound_0 rfl rfl ?_
  refine mx_if_lt 10 d_H_needSound_1 rfl (by first | assumption | exact hR _ _ | exact r32_mk (by omega) (by omega)) (fun c_1 => ?_) (fun c_1 => ?_)
  · refine mx_throwW (text := "no such sound") t_H_319_323 (by decide) rfl (Nat.le_of_ble_eq_true rfl) (Nat.le_of_ble_eq_true rfl) d_H_needSound_10 d_H_needSound_13 d_H_needSound_14 d_H_needSound_17 d_H_needSound_20 ?_
    exact ⟨rfl, by omega, rfl⟩
  · refine mx_iload_n 0 d_H_needSound_4 rfl rfl ?_
    refine mx_bipush d_H_needSound_5 (by decide) ?_
    refine mx_icmp_lt 21 d_H_needSound_7 rfl (by first | assumption | exact hR _ _ | exact r32_mk (by omega) (by omega)) (by first | assumption | exact hR _ _ | exact r32_mk (by omega) (by omega)) (fun c_7 => ?_) (fun c_7 => ?_)
    · refine mx_vret d_H_needSound_21 rfl ?_
      exact ⟨rfl, by omega, rfl⟩
    · refine mx_throwW (text := "no such sound") t_H_319_323 (by decide) rfl (Nat.le_of_ble_eq_true rfl) (Nat.le_of_ble_eq_true rfl) d_H_needSound_10 d_H_needSound_13 d_H_needSound_14 d_H_needSound_17 d_H_needSound_20 ?_
      exact ⟨rfl, by omega, rfl⟩
theorem ct_needPeg {C : Int → cT} {p : Int} (hj : JJ C A) (hp : r32 p) : mj_Cal G n_H_needPeg [mR (some 100), mI p] A (xr A (0 ≤ p ∧ p < gI A 200 32)) (xn A xI (0 ≤ p ∧ p < gI A 200 32)) := by
  refine mj_bodyK 1 6 [some (mR (some 100)), some (mI p)] rfl rfl rfl (by decide +kernel) (Nat.le_of_ble_eq_true rfl) (by simp) rfl ?_
  have hH := hj.x.H
  have hn := hj.p.np
  refine mx_R fun hR => ?_
  refine mx_iload_n 1 d_H_needPeg_0 rfl rfl ?_
  refine mx_if_lt 12 d_H_needPeg_1 rfl (by first | assumption | exact hR _ _ | exact r32_mk (by omega) (by omega)) (fun c_1 => ?_) (fun c_1 => ?_)
  · refine mx_throwW (text := "no such peg") t_H_319_323 (by decide) rfl (Nat.le_of_ble_eq_true rfl) (Nat.le_of_ble_eq_true rfl) d_H_needPeg_12 d_H_needPeg_15 d_H_needPeg_16 d_H_needPeg_19 d_H_needPeg_22 ?_
    exact ⟨rfl, by omega, rfl⟩
  · refine mx_iload_n 1 d_H_needPeg_4 rfl rfl ?_
    refine mx_aload_n 0 d_H_needPeg_5 rfl rfl ?_
    refine mx_getI 9 d_H_needPeg_6 f_H_206 rfl rfl (hH.o) ?_
    refine mx_icmp_lt 23 d_H_needPeg_9 rfl (by first | assumption | exact hR _ _ | exact r32_mk (by omega) (by omega)) (by first | assumption | exact hR _ _ | exact r32_mk (by omega) (by omega)) (fun c_9 => ?_) (fun c_9 => ?_)
    · refine mx_vret d_H_needPeg_23 rfl ?_
      exact ⟨rfl, by omega, rfl⟩
    · refine mx_throwW (text := "no such peg") t_H_319_323 (by decide) rfl (Nat.le_of_ble_eq_true rfl) (Nat.le_of_ble_eq_true rfl) d_H_needPeg_12 d_H_needPeg_15 d_H_needPeg_16 d_H_needPeg_19 d_H_needPeg_22 ?_
      exact ⟨rfl, by omega, rfl⟩
end CLSG
