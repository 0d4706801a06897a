/-! THE HOUSE, 23: scenes and pegs are made; THE REFERENCE: move -/
section CLSO
variable {G : mj_G} {A : mj_M}
section SCW
variable {t fr pa : Int}
theorem scw_So {c : Int} (h : ¬ (t + 1 ≤ c ∧ c ≤ t + 6)) : gS (sc_i A t fr pa) c = gS A c := by
  unfold sc_i
  rw [sc_S4, sc_S3, sc_S2, sc_S1]
  ((try simp only [true_and, and_true, if_true, and_self]); repeat (first | rw [if_pos (by omega)] | rw [if_neg (by omega)]))
theorem scw_I1 {c i : Int} : gI (sc_i1 A t fr pa) c i = if c = t + 1 then (if 0 ≤ i ∧ i < 4 * fr then -2 else 0) else if c = t ∧ i = 1 then pa else if c = t ∧ i = 0 then fr else gI A c i := by
  unfold sc_i1
  rw [gI_sF]
  by_cases e : c = t + 1
  · rw [if_pos e, if_pos e, gI_sP, gI_sN, if_pos rfl]
  · rw [if_neg e, if_neg e, gI_sP, gI_sN, if_neg e, gI_sI, gI_sI]
theorem scw_I2 {B : mj_M} {c i : Int} : gI (sc_i2 B t fr) c i = if c = t + 2 then (if 0 ≤ i ∧ i < fr then -3 else 0) else gI B c i := by
  unfold sc_i2
  rw [gI_sF]
  by_cases e : c = t + 2
  · rw [if_pos e, if_pos e, gI_sP, gI_sN, if_pos rfl]
  · rw [if_neg e, if_neg e, gI_sP, gI_sN, if_neg e]
theorem scw_I3 {B : mj_M} {c i : Int} : gI (sc_i3 B t) c i = if c = t + 5 then (if 0 ≤ i ∧ i < 4 then 1 else 0) else if c = t + 4 ∨ c = t + 3 then 0 else gI B c i := by
  unfold sc_i3
  rw [gI_sF]
  by_cases e : c = t + 5
  · rw [if_pos e, if_pos e, gI_sP, gI_sN, if_pos rfl]
  · rw [if_neg e, if_neg e, gI_sP, gI_sN, if_neg e, gI_sP, gI_sN]
    by_cases e4 : c = t + 4
    · rw [if_pos e4, if_pos (Or.inl e4)]
    · rw [if_neg e4, gI_sP, gI_sN]
      by_cases e3 : c = t + 3
      · rw [if_pos e3, if_pos (Or.inr e3)]
      · rw [if_neg e3, if_neg (fun h => h.elim e4 e3)]
theorem scw_I4 {B : mj_M} {c i : Int} : gI (sc_i4 B t fr) c i = if c = t + 6 then (if 0 ≤ i ∧ i < fr * 192 then -1 else 0) else gI B c i := by
  unfold sc_i4
  rw [gI_sF]
  by_cases e : c = t + 6
  · rw [if_pos e, if_pos e, gI_sP, gI_sN, if_pos rfl]
  · rw [if_neg e, if_neg e, gI_sP, gI_sN, if_neg e]
theorem scw_I {c i : Int} : gI (sc_i A t fr pa) c i = if c = t + 6 then (if 0 ≤ i ∧ i < fr * 192 then -1 else 0) else if c = t + 5 then (if 0 ≤ i ∧ i < 4 then 1 else 0) else if c = t + 4 ∨ c = t + 3 then 0 else if c = t + 2 then (if 0 ≤ i ∧ i < fr then -3 else 0) else if c = t + 1 then (if 0 ≤ i ∧ i < 4 * fr then -2 else 0) else if c = t ∧ i = 1 then pa else if c = t ∧ i = 0 then fr else gI A c i := by
  unfold sc_i
  rw [scw_I4, scw_I3, scw_I2, scw_I1]
theorem scw_P {c i : Int} : gP (sc_i A t fr pa) c i = if c = t ∧ i = 8 then some (t + 6) else if c = t + 6 then none else if c = t ∧ i = 6 then some (t + 5) else if c = t + 5 then none else if c = t ∧ i = 5 then some (t + 4) else if c = t + 4 then none else if c = t ∧ i = 4 then some (t + 3) else if c = t + 3 then none else if c = t ∧ i = 3 then some (t + 2) else if c = t + 2 then none else if c = t ∧ i = 2 then some (t + 1) else if c = t + 1 then none else gP A c i := by
  unfold sc_i sc_i4 sc_i3 sc_i2 sc_i1
  simp only [gP_sP, gP_sN, gP_sI, gP_sF]
theorem scw_SS {s : Int} (ht : gS A (4000 + 100 * s) = some (.inl 4)) : SS1 (sc_i A (4000 + 100 * s) fr pa) s := by
  have e0 : gI (sc_i A (4000 + 100 * s) fr pa) (4000 + 100 * s) 0 = fr := by
    rw [scw_I]
    ((try simp only [true_and, and_true, if_true, and_self]); repeat (first | rw [if_pos (by omega)] | rw [if_neg (by omega)]))
  refine ⟨(scw_So (by omega)).trans ht, ⟨?_, ?_, ?_, ?_, ?_, ?_⟩, ?_, ?_, ?_, ?_, ?_, ?_⟩
  · rw [scw_P]; ((try simp only [true_and, and_true, if_true, and_self]); repeat (first | rw [if_pos (by omega)] | rw [if_neg (by omega)]))
  · rw [scw_P]; ((try simp only [true_and, and_true, if_true, and_self]); repeat (first | rw [if_pos (by omega)] | rw [if_neg (by omega)]))
  · rw [scw_P]; ((try simp only [true_and, and_true, if_true, and_self]); repeat (first | rw [if_pos (by omega)] | rw [if_neg (by omega)]))
  · rw [scw_P]; ((try simp only [true_and, and_true, if_true, and_self]); repeat (first | rw [if_pos (by omega)] | rw [if_neg (by omega)]))
  · rw [scw_P]; ((try simp only [true_and, and_true, if_true, and_self]); repeat (first | rw [if_pos (by omega)] | rw [if_neg (by omega)]))
  · rw [scw_P]; ((try simp only [true_and, and_true, if_true, and_self]); repeat (first | rw [if_pos (by omega)] | rw [if_neg (by omega)]))
  · rw [e0]
    unfold sc_i
    rw [sc_S4, sc_S3, sc_S2, sc_S1]
    ((try simp only [true_and, and_true, if_true, and_self]); repeat (first | rw [if_pos (by omega)] | rw [if_neg (by omega)]))
  · rw [e0]
    unfold sc_i
    rw [sc_S4, sc_S3, sc_S2, sc_S1]
    ((try simp only [true_and, and_true, if_true, and_self]); repeat (first | rw [if_pos (by omega)] | rw [if_neg (by omega)]))
  · unfold sc_i
    rw [sc_S4, sc_S3, sc_S2, sc_S1]
    ((try simp only [true_and, and_true, if_true, and_self]); repeat (first | rw [if_pos (by omega)] | rw [if_neg (by omega)]))
  · unfold sc_i
    rw [sc_S4, sc_S3, sc_S2, sc_S1]
    ((try simp only [true_and, and_true, if_true, and_self]); repeat (first | rw [if_pos (by omega)] | rw [if_neg (by omega)]))
  · unfold sc_i
    rw [sc_S4, sc_S3, sc_S2, sc_S1]
    ((try simp only [true_and, and_true, if_true, and_self]); repeat (first | rw [if_pos (by omega)] | rw [if_neg (by omega)]))
  · rw [e0, show 192 * fr = fr * 192 by omega]
    unfold sc_i
    rw [sc_S4, sc_S3, sc_S2, sc_S1]
    ((try simp only [true_and, and_true, if_true, and_self]); repeat (first | rw [if_pos (by omega)] | rw [if_neg (by omega)]))
end SCW
def ns_m (A : mj_M) (n fr pa : Int) : mj_M := sI (sP (sc_i (sN A (4000 + 100 * n) (.inl 4)) (4000 + 100 * n) fr pa) 106 n (some (4000 + 100 * n))) 100 6 (n + 1)
theorem ct_scene {C : Int → cT} {fr p : Int} (hj : JJ C A) (hf : r32 fr) (hp : r32 p) : mj_Cal G n_H_scene [mR (some 100), mI fr, mI p] A (fun r A' => ((0 ≤ p ∧ p ≤ 3) ∧ (1 ≤ fr ∧ fr ≤ 24) ∧ (gI A 200 23 < 6)) ∧ r = some (mI (gI A 200 23)) ∧ A' = ns_m A (gI A 200 23) fr p) (px3 A xI xA xS (0 ≤ p ∧ p ≤ 3) (1 ≤ fr ∧ fr ≤ 24) (gI A 200 23 < 6)) := by
  refine mj_bodyK 10 4767 [some (mR (some 100)), some (mI fr), some (mI p)] rfl rfl rfl (by decide +kernel) (Nat.le_of_ble_eq_true rfl) (by simp) rfl ?_
  have hH := hj.x.H
  have hns := hj.m.g.ns
  have hn0 := hj.s.n
  refine mx_R fun hR => ?_
  refine mx_iload_n 2 d_H_scene_0 rfl rfl ?_
  refine mx_callS (kc := 9) (ks := 4761) (N := n_H_needPalette) (as := [_]) d_H_scene_1 s_H_159 ⟨Nat.le_of_ble_eq_true rfl, Nat.le_of_ble_eq_true rfl⟩ rfl (mj_wt_8 (Nat.le_of_ble_eq_true rfl)) (ct_needPalette hp) (fun r_1 A_1 h_1 => ?_) (fun E_1 A_x h_1 => ?_)
  rotate_left
  · exact mt_n h_1 rfl fun hn => ⟨rfl, Or.inl ⟨rfl, hn⟩⟩
  obtain ⟨rfl, h1, hA_1⟩ := h_1
  obtain rfl := hA_1.symm
  clear hA_1
  refine mx_R fun hR_1 => ?_
  refine mx_iload_n 1 d_H_scene_4 rfl rfl ?_
  refine mx_iconst d_H_scene_5 ?_
  refine mx_icmp_lt 15 d_H_scene_6 rfl (by first | assumption | exact hR_1 _ _ | exact hR _ _ | exact r32_mk (by omega) (by omega)) (by first | assumption | exact hR_1 _ _ | exact hR _ _ | exact r32_mk (by omega) (by omega)) (fun c_6 => ?_) (fun c_6 => ?_)
  · refine mx_throw (text := "a scene has 1 to 24 frames") t_H_79_83 (by decide) rfl (Nat.le_of_ble_eq_true rfl) (Nat.le_of_ble_eq_true rfl) d_H_scene_15 d_H_scene_18 d_H_scene_19 d_H_scene_21 d_H_scene_24 ?_
    exact ⟨rfl, Or.inr (Or.inl ⟨rfl, h1, by omega⟩)⟩
  · refine mx_iload_n 1 d_H_scene_9 rfl rfl ?_
    refine mx_bipush d_H_scene_10 (by decide) ?_
    refine mx_icmp_le 25 d_H_scene_12 rfl (by first | assumption | exact hR_1 _ _ | exact hR _ _ | exact r32_mk (by omega) (by omega)) (by first | assumption | exact hR_1 _ _ | exact hR _ _ | exact r32_mk (by omega) (by omega)) (fun c_12 => ?_) (fun c_12 => ?_)
    · refine mx_aload_n 0 d_H_scene_25 rfl rfl ?_
      refine mx_getI 6 d_H_scene_26 f_H_166 rfl rfl (hH.o) ?_
      refine mx_bipush d_H_scene_29 (by decide) ?_
      refine mx_icmp_lt 44 d_H_scene_31 rfl (by first | assumption | exact hR_1 _ _ | exact hR _ _ | exact r32_mk (by omega) (by omega)) (by first | assumption | exact hR_1 _ _ | exact hR _ _ | exact r32_mk (by omega) (by omega)) (fun c_31 => ?_) (fun c_31 => ?_)
      · refine mx_aload_n 0 d_H_scene_44 rfl rfl ?_
        refine mx_getPs 5 d_H_scene_45 f_H_21 rfl rfl (hH.o) (hH.p5) ?_
        refine mx_aload_n 0 d_H_scene_48 rfl rfl ?_
        refine mx_getI 6 d_H_scene_49 f_H_166 rfl rfl (hH.o) ?_
        rw [hn0]
        refine mx_new (kc := 8) (ks := 4752) (n := 9) ((4000 + 100 * gI A 200 23)) d_H_scene_52 w_H_19 (by have h9 := hj.s.f (gI A 200 23) (by omega) (by omega) 0 (by omega) (by omega); rw [Int.add_zero] at h9; exact h9) ?_
        refine mx_R fun hR_2 => ?_
        refine mx_dup d_H_scene_55 (fun z h => by cases h) ?_
        refine mx_iload_n 1 d_H_scene_56 rfl rfl ?_
        refine mx_iload_n 2 d_H_scene_57 rfl rfl ?_
        refine mx_callI (kc := 2) (ks := 12) (N := n_S_init) (as := [_, _]) d_H_scene_58 s_H_171 ⟨Nat.le_of_ble_eq_true rfl, Nat.le_of_ble_eq_true rfl⟩ rfl (mj_wt_8 (Nat.le_of_ble_eq_true rfl)) (ct_S_init (A := sN A (4000 + 100 * gI A 200 23) (.inl 4)) (t := (4000 + 100 * gI A 200 23)) (by rw [gS_sN, if_pos rfl]) (fun j j0 j1 => by rw [gS_sN, if_neg (by omega)]; exact hj.s.f (gI A 200 23) (by omega) (by omega) j (by omega) j1) (by omega) hp) (fun r_58 A_58 h_58 => ?_)
        obtain ⟨rfl, hA_58⟩ := h_58
        obtain rfl := hA_58.symm
        clear hA_58
        refine mx_R fun hR_3 => ?_
        refine mx_aast d_H_scene_61 ((by rw [scw_So (by omega), gS_sN, if_neg (by omega)]; exact hH.s5)) (by decide) (by omega) (by omega) ((by rw [scw_So (by omega), gS_sN, if_pos rfl]; rfl)) ?_
        refine mx_R fun hR_4 => ?_
        refine mx_aload_n 0 d_H_scene_62 rfl rfl ?_
        refine mx_dup d_H_scene_63 (fun z h => by cases h) ?_
        refine mx_getI 6 d_H_scene_64 f_H_166 rfl rfl ((by rw [gS_sP, scw_So (by omega), gS_sN, if_neg (by omega)]; exact hH.o)) ?_
        rw [gI_sP, scw_I, if_neg (by omega), if_neg (by omega), if_neg (by omega), if_neg (by omega), if_neg (by omega), if_neg (by omega), if_neg (by omega), gI_sN, if_neg (by omega), hn0]
        refine mx_dup_x1 d_H_scene_67 (fun z h => by cases h) (fun z h => by cases h) ?_
        refine mx_iconst d_H_scene_68 ?_
        refine mx_iadd d_H_scene_69 ?_
        refine mx_putI 6 d_H_scene_70 f_H_166 rfl ((by rw [gS_sP, scw_So (by omega), gS_sN, if_neg (by omega)]; exact hH.o)) (Or.inl rfl) (Or.inl rfl) (by first | assumption | exact hR_4 _ _ | exact hR_3 _ _ | exact hR_2 _ _ | exact hR_1 _ _ | exact hR _ _ | exact r32_mk (by omega) (by omega)) ?_
        refine mx_R fun hR_5 => ?_
        refine mx_iret d_H_scene_73 rfl ?_
        exact ⟨⟨h1, by omega, by omega⟩, rfl, rfl⟩
      · refine mx_throw (text := "there are 6 scenes") t_H_134_138 (by decide) rfl (Nat.le_of_ble_eq_true rfl) (Nat.le_of_ble_eq_true rfl) d_H_scene_34 d_H_scene_37 d_H_scene_38 d_H_scene_40 d_H_scene_43 ?_
        exact ⟨rfl, Or.inr (Or.inr ⟨rfl, h1, by omega, by omega⟩)⟩
    · refine mx_throw (text := "a scene has 1 to 24 frames") t_H_79_83 (by decide) rfl (Nat.le_of_ble_eq_true rfl) (Nat.le_of_ble_eq_true rfl) d_H_scene_15 d_H_scene_18 d_H_scene_19 d_H_scene_21 d_H_scene_24 ?_
      exact ⟨rfl, Or.inr (Or.inl ⟨rfl, h1, by omega⟩)⟩
section PGW
variable {t : Int} {v : Option Int}
theorem pgw_S {c : Int} : gS (pg_m A t v) c = if c = t + 3 then some (.inr (0, 24)) else if c = t + 2 then some (.inr (0, 24)) else if c = t + 1 then some (.inr (1, 24)) else gS A c := rfl
theorem pgw_I {c i : Int} : gI (pg_m A t v) c i = if c = t + 3 then 0 else if c = t + 2 then 0 else if c = t + 1 then 0 else gI A c i := rfl
theorem pgw_P {c i : Int} : gP (pg_m A t v) c i = if c = t ∧ i = 3 then some (t + 3) else if c = t + 3 then none else if c = t ∧ i = 2 then some (t + 2) else if c = t + 2 then none else if c = t ∧ i = 1 then some (t + 1) else if c = t + 1 then none else if c = t ∧ i = 0 then v else gP A c i := rfl
end PGW
def np_m (A : mj_M) (n w : Int) : mj_M := sI (sP (pg_m (sN A (6000 + 100 * n) (.inl 2)) (6000 + 100 * n) (pp w)) 109 n (some (6000 + 100 * n))) 100 9 (n + 1)
theorem ct_peg {C : Int → cT} {w : Int} (hj : JJ C A) (hw : r32 w) : mj_Cal G n_H_peg [mR (some 100), mI w] A (fun r A' => ((w = -1 ∨ (0 ≤ w ∧ w < gI A 200 32)) ∧ (gI A 200 32 < 6)) ∧ r = some (mI (gI A 200 32)) ∧ A' = np_m A (gI A 200 32) w) (px2 A xI xS (w = -1 ∨ (0 ≤ w ∧ w < gI A 200 32)) (gI A 200 32 < 6)) := by
  refine mj_bodyK 6 89 [some (mR (some 100)), some (mI w)] rfl rfl rfl (by decide +kernel) (Nat.le_of_ble_eq_true rfl) (by simp) rfl ?_
  have hH := hj.x.H
  have hnp := hj.m.p.np
  have hn0 := hj.p.np
  have tail : ∀ v : Option Int, v = pp w → (w = -1 ∨ (0 ≤ w ∧ w < gI A 200 32)) → (gI A 200 32 < 6) → mj_X G n_H_peg (mj_Qm G n_H_peg (fun r A' => ((w = -1 ∨ (0 ≤ w ∧ w < gI A 200 32)) ∧ (gI A 200 32 < 6)) ∧ r = some (mI (gI A 200 32)) ∧ A' = np_m A (gI A 200 32) w) (px2 A xI xS (w = -1 ∨ (0 ≤ w ∧ w < gI A 200 32)) (gI A 200 32 < 6))) (sN A (6000 + 100 * gI A 200 32) (.inl 2)) 3 72 56 [some (mR (some 100)), some (mI w)] [mR v, mR (some (6000 + 100 * gI A 200 32)), mR (some (6000 + 100 * gI A 200 32)), mI (gI A 200 32), mR (some 109)] := by
    intro v hv hI hJ
    refine mx_R fun hR => ?_
    refine mx_callI (kc := 0) (ks := 0) (N := n_P_init) (as := [_]) d_H_peg_56 s_H_211 ⟨Nat.le_of_ble_eq_true rfl, Nat.le_of_ble_eq_true rfl⟩ rfl (mj_wt_8 (Nat.le_of_ble_eq_true rfl)) (ct_P_init (A := sN A (6000 + 100 * gI A 200 32) (.inl 2)) (t := (6000 + 100 * gI A 200 32)) (v := v) (by rw [gS_sN, if_pos rfl]) (fun j j0 j1 => by rw [gS_sN, if_neg (by omega)]; exact (hj.p.f (gI A 200 32) (by omega) (by omega)).1 j (by omega) j1)) (fun r_56 A_56 h_56 => ?_)
    obtain ⟨rfl, hA_56⟩ := h_56
    obtain rfl := hA_56.symm
    clear hA_56
    refine mx_R fun hR_1 => ?_
    refine mx_aast d_H_peg_59 ((by rw [pgw_S, if_neg (by omega), if_neg (by omega), if_neg (by omega), gS_sN, if_neg (by omega)]; exact hH.s8)) (by decide) (by omega) (by omega) ((by rw [pgw_S, if_neg (by omega), if_neg (by omega), if_neg (by omega), gS_sN, if_pos rfl]; rfl)) ?_
    refine mx_R fun hR_2 => ?_
    refine mx_aload_n 0 d_H_peg_60 rfl rfl ?_
    refine mx_dup d_H_peg_61 (fun z h => by cases h) ?_
    refine mx_getI 9 d_H_peg_62 f_H_206 rfl rfl ((by rw [gS_sP, pgw_S, if_neg (by omega), if_neg (by omega), if_neg (by omega), gS_sN, if_neg (by omega)]; exact hH.o)) ?_
    rw [gI_sP, pgw_I, if_neg (by omega), if_neg (by omega), if_neg (by omega), gI_sN, if_neg (by omega), hn0]
    refine mx_dup_x1 d_H_peg_65 (fun z h => by cases h) (fun z h => by cases h) ?_
    refine mx_iconst d_H_peg_66 ?_
    refine mx_iadd d_H_peg_67 ?_
    refine mx_putI 9 d_H_peg_68 f_H_206 rfl ((by rw [gS_sP, pgw_S, if_neg (by omega), if_neg (by omega), if_neg (by omega), gS_sN, if_neg (by omega)]; exact hH.o)) (Or.inl rfl) (Or.inl rfl) (by first | assumption | exact hR_2 _ _ | exact hR_1 _ _ | exact hR _ _ | exact r32_mk (by omega) (by omega)) ?_
    refine mx_R fun hR_3 => ?_
    refine mx_iret d_H_peg_71 rfl ?_
    exact ⟨⟨hI, hJ⟩, rfl, by rw [hv]; rfl⟩
  refine mx_R fun hR => ?_
  refine mx_iload_n 1 d_H_peg_0 rfl rfl ?_
  refine mx_iconst d_H_peg_1 ?_
  refine mx_icmp_eq 10 d_H_peg_2 rfl (by first | assumption | exact hR _ _ | exact r32_mk (by omega) (by omega)) (by first | assumption | exact hR _ _ | exact r32_mk (by omega) (by omega)) (fun c_2 => ?_) (fun c_2 => ?_)
  · have hI : (w = -1 ∨ (0 ≤ w ∧ w < gI A 200 32)) := by omega
    refine mx_less (kc' := 5) (ks' := 83) (by decide) (by decide) ?_
    refine mx_R fun hR => ?_
    refine mx_aload_n 0 d_H_peg_10 rfl rfl ?_
    refine mx_getI 9 d_H_peg_11 f_H_206 rfl rfl (hH.o) ?_
    refine mx_bipush d_H_peg_14 (by decide) ?_
    refine mx_icmp_lt 29 d_H_peg_16 rfl (by first | assumption | exact hR _ _ | exact r32_mk (by omega) (by omega)) (by first | assumption | exact hR _ _ | exact r32_mk (by omega) (by omega)) (fun c_16 => ?_) (fun c_16 => ?_)
    · refine mx_aload_n 0 d_H_peg_29 rfl rfl ?_
      refine mx_getPs 8 d_H_peg_30 f_H_36 rfl rfl (hH.o) (hH.p8) ?_
      refine mx_aload_n 0 d_H_peg_33 rfl rfl ?_
      refine mx_getI 9 d_H_peg_34 f_H_206 rfl rfl (hH.o) ?_
      rw [hn0]
      refine mx_new (kc := 4) (ks := 78) (n := 5) ((6000 + 100 * gI A 200 32)) d_H_peg_37 w_H_34 (by have h9 := (hj.p.f (gI A 200 32) (by omega) (by omega)).1 0 (by omega) (by omega); rw [Int.add_zero] at h9; exact h9) ?_
      refine mx_R fun hR_1 => ?_
      refine mx_dup d_H_peg_40 (fun z h => by cases h) ?_
      refine mx_iload_n 1 d_H_peg_41 rfl rfl ?_
      refine mx_iconst d_H_peg_42 ?_
      refine mx_icmp_ne 50 d_H_peg_43 rfl (by first | assumption | exact hR_1 _ _ | exact hR _ _ | exact r32_mk (by omega) (by omega)) (by first | assumption | exact hR_1 _ _ | exact hR _ _ | exact r32_mk (by omega) (by omega)) (fun c_43 => ?_) (fun c_43 => ?_)
      · refine mx_aload_n 0 d_H_peg_50 rfl rfl ?_
        refine mx_getPs 8 d_H_peg_51 f_H_36 rfl rfl ((by rw [gS_sN, if_neg (by omega)]; exact hH.o)) ((by rw [gP_sN, if_neg (by omega)]; exact hH.p8)) ?_
        refine mx_iload_n 1 d_H_peg_54 rfl rfl ?_
        refine mx_aalds d_H_peg_55 ((by rw [gS_sN, if_neg (by omega)]; exact hH.s8)) (by decide) (by omega) (by omega) ((by rw [gP_sN, if_neg (by omega)]; exact hj.p.r w (by omega) (by omega))) ?_
        refine mx_less (kc' := 3) (ks' := 72) (by decide) (by decide) ?_
        first
          | exact tail _ (if_pos (by assumption)).symm hI (by omega)
          | exact tail _ (pp_s (by assumption)).symm hI (by omega)
      · refine mx_null d_H_peg_46 ?_
        refine mx_goto 56 d_H_peg_47 rfl ?_
        refine mx_less (kc' := 3) (ks' := 72) (by decide) (by decide) ?_
        first
          | exact tail _ (if_pos (by assumption)).symm hI (by omega)
          | exact tail _ (pp_s (by assumption)).symm hI (by omega)
    · refine mx_throw (text := "there are 6 pegs") t_H_134_138 (by decide) rfl (Nat.le_of_ble_eq_true rfl) (Nat.le_of_ble_eq_true rfl) d_H_peg_19 d_H_peg_22 d_H_peg_23 d_H_peg_25 d_H_peg_28 ?_
      exact ⟨rfl, Or.inr ⟨rfl, hI, by omega⟩⟩
  · refine mx_aload_n 0 d_H_peg_5 rfl rfl ?_
    refine mx_iload_n 1 d_H_peg_6 rfl rfl ?_
    refine mx_callV (kc := 5) (ks := 83) (N := n_H_needPeg) (as := [_]) (ci := 6) d_H_peg_7 s_H_203 ⟨Nat.le_of_ble_eq_true rfl, Nat.le_of_ble_eq_true rfl⟩ rfl (mj_wt_8 (Nat.le_of_ble_eq_true rfl)) (hH.o) ⟨_, rfl, rfl⟩ (ct_needPeg hj hw) (fun r_7 A_7 h_7 => ?_) (fun E_7 A_x h_7 => ?_)
    rotate_left
    · exact mt_n h_7 rfl fun hn => ⟨rfl, Or.inl ⟨rfl, by omega⟩⟩
    obtain ⟨rfl, h1, hA_7⟩ := h_7
    obtain rfl := hA_7.symm
    clear hA_7
    refine mx_R fun hR_1 => ?_
    have hI : (w = -1 ∨ (0 ≤ w ∧ w < gI A 200 32)) := by omega
    refine mx_less (kc' := 5) (ks' := 83) (by decide) (by decide) ?_
    refine mx_R fun hR => ?_
    refine mx_aload_n 0 d_H_peg_10 rfl rfl ?_
    refine mx_getI 9 d_H_peg_11 f_H_206 rfl rfl (hH.o) ?_
    refine mx_bipush d_H_peg_14 (by decide) ?_
    refine mx_icmp_lt 29 d_H_peg_16 rfl (by first | assumption | exact hR _ _ | exact r32_mk (by omega) (by omega)) (by first | assumption | exact hR _ _ | exact r32_mk (by omega) (by omega)) (fun c_16 => ?_) (fun c_16 => ?_)
    · refine mx_aload_n 0 d_H_peg_29 rfl rfl ?_
      refine mx_getPs 8 d_H_peg_30 f_H_36 rfl rfl (hH.o) (hH.p8) ?_
      refine mx_aload_n 0 d_H_peg_33 rfl rfl ?_
      refine mx_getI 9 d_H_peg_34 f_H_206 rfl rfl (hH.o) ?_
      rw [hn0]
      refine mx_new (kc := 4) (ks := 78) (n := 5) ((6000 + 100 * gI A 200 32)) d_H_peg_37 w_H_34 (by have h9 := (hj.p.f (gI A 200 32) (by omega) (by omega)).1 0 (by omega) (by omega); rw [Int.add_zero] at h9; exact h9) ?_
      refine mx_R fun hR_1 => ?_
      refine mx_dup d_H_peg_40 (fun z h => by cases h) ?_
      refine mx_iload_n 1 d_H_peg_41 rfl rfl ?_
      refine mx_iconst d_H_peg_42 ?_
      refine mx_icmp_ne 50 d_H_peg_43 rfl (by first | assumption | exact hR_1 _ _ | exact hR _ _ | exact r32_mk (by omega) (by omega)) (by first | assumption | exact hR_1 _ _ | exact hR _ _ | exact r32_mk (by omega) (by omega)) (fun c_43 => ?_) (fun c_43 => ?_)
      · refine mx_aload_n 0 d_H_peg_50 rfl rfl ?_
        refine mx_getPs 8 d_H_peg_51 f_H_36 rfl rfl ((by rw [gS_sN, if_neg (by omega)]; exact hH.o)) ((by rw [gP_sN, if_neg (by omega)]; exact hH.p8)) ?_
        refine mx_iload_n 1 d_H_peg_54 rfl rfl ?_
        refine mx_aalds d_H_peg_55 ((by rw [gS_sN, if_neg (by omega)]; exact hH.s8)) (by decide) (by omega) (by omega) ((by rw [gP_sN, if_neg (by omega)]; exact hj.p.r w (by omega) (by omega))) ?_
        refine mx_less (kc' := 3) (ks' := 72) (by decide) (by decide) ?_
        first
          | exact tail _ (if_pos (by assumption)).symm hI (by omega)
          | exact tail _ (pp_s (by assumption)).symm hI (by omega)
      · refine mx_null d_H_peg_46 ?_
        refine mx_goto 56 d_H_peg_47 rfl ?_
        refine mx_less (kc' := 3) (ks' := 72) (by decide) (by decide) ?_
        first
          | exact tail _ (if_pos (by assumption)).symm hI (by omega)
          | exact tail _ (pp_s (by assumption)).symm hI (by omega)
    · refine mx_throw (text := "there are 6 pegs") t_H_134_138 (by decide) rfl (Nat.le_of_ble_eq_true rfl) (Nat.le_of_ble_eq_true rfl) d_H_peg_19 d_H_peg_22 d_H_peg_23 d_H_peg_25 d_H_peg_28 ?_
      exact ⟨rfl, Or.inr ⟨rfl, hI, by omega⟩⟩
def mo_m (B : mj_M) (p f x y k : Int) : mj_M := sI (sI (sI B 235 (6 * p + k) f) 236 (6 * p + k) x) 237 (6 * p + k) y
theorem cm_move_e {p f x y k : Int} {B : mj_M} (hM : MS B) (hp : 0 ≤ p ∧ p < 6) (hk : 0 ≤ k ∧ k < 6) (hf : r32 f) (hx : r32 x) (hy : r32 y) {l5 l7 : Option mj_V} {P : Option mj_V → mj_M → Prop} (hP : P (some (mI (gI B 234 p))) (mo_m B p f x y k)) : mj_X G n_M_move (mj_Qm G n_M_move P mj_no) B 0 0 166 [some (mR (some 200)), some (mI p), some (mI f), some (mI x), some (mI y), l5, some (mI k), l7] [] := by
  refine mx_R fun hR => ?_
  refine mx_aload_n 0 d_M_move_166 rfl rfl ?_
  refine mx_getPs 35 d_M_move_167 f_M_95 rfl rfl (hM.o) (hM.p35) ?_
  refine mx_bipush d_M_move_170 (by decide) ?_
  refine mx_iload_n 1 d_M_move_172 rfl rfl ?_
  refine mx_imul d_M_move_173 ?_
  refine mx_iload 6 d_M_move_174 rfl ?_
  refine mx_iadd d_M_move_176 ?_
  refine mx_iload_n 2 d_M_move_177 rfl rfl ?_
  refine mx_iast d_M_move_178 (hM.s35) (by omega) (by omega) (by first | assumption | exact hR _ _ | exact r32_mk (by omega) (by omega)) ?_
  refine mx_R fun hR_1 => ?_
  refine mx_aload_n 0 d_M_move_179 rfl rfl ?_
  refine mx_getPs 36 d_M_move_180 f_M_98 rfl rfl (hM.o) (hM.p36) ?_
  refine mx_bipush d_M_move_183 (by decide) ?_
  refine mx_iload_n 1 d_M_move_185 rfl rfl ?_
  refine mx_imul d_M_move_186 ?_
  refine mx_iload 6 d_M_move_187 rfl ?_
  refine mx_iadd d_M_move_189 ?_
  refine mx_iload_n 3 d_M_move_190 rfl rfl ?_
  refine mx_iast d_M_move_191 (hM.s36) (by omega) (by omega) (by first | assumption | exact hR_1 _ _ | exact hR _ _ | exact r32_mk (by omega) (by omega)) ?_
  refine mx_R fun hR_2 => ?_
  refine mx_aload_n 0 d_M_move_192 rfl rfl ?_
  refine mx_getPs 37 d_M_move_193 f_M_101 rfl rfl (hM.o) (hM.p37) ?_
  refine mx_bipush d_M_move_196 (by decide) ?_
  refine mx_iload_n 1 d_M_move_198 rfl rfl ?_
  refine mx_imul d_M_move_199 ?_
  refine mx_iload 6 d_M_move_200 rfl ?_
  refine mx_iadd d_M_move_202 ?_
  refine mx_iload 4 d_M_move_203 rfl ?_
  refine mx_iast d_M_move_205 (hM.s37) (by omega) (by omega) (by first | assumption | exact hR_2 _ _ | exact hR_1 _ _ | exact hR _ _ | exact r32_mk (by omega) (by omega)) ?_
  refine mx_R fun hR_3 => ?_
  refine mx_aload_n 0 d_M_move_206 rfl rfl ?_
  refine mx_getPs 34 d_M_move_207 f_M_92 rfl rfl (hM.o) (hM.p34) ?_
  refine mx_iload_n 1 d_M_move_210 rfl rfl ?_
  refine mx_iald d_M_move_211 (hM.s34) (by omega) (by omega) ?_
  refine mx_iret d_M_move_212 rfl ?_
  exact hP
theorem cm_move_t {p f x y : Int} {l7 : Option mj_V} (hM : MS A) (hg : mo_pg A) (hp : r32 p) (hf : r32 f) (hx : r32 x) (hy : r32 y) {at_ : Int} (hat : (0 ≤ p ∧ p < gI A 200 32) → at_ = (mv_k (gI A 235) p f (gI A 234 p).toNat)) (hatr : -1 ≤ at_ ∧ at_ < 6) : mj_X G n_M_move (mj_Qm G n_M_move (fun r A' => (((0 ≤ p ∧ p < gI A 200 32) ∧ (0 ≤ f ∧ f ≤ 23 ∧ -20 ≤ x ∧ x ≤ 20 ∧ -20 ≤ y ∧ y ≤ 20) ∧ ((0 ≤ p ∧ p < gI A 200 32) ∧ (mv_k (gI A 235) p f (gI A 234 p).toNat ≠ -1 ∨ gI A 234 p < 6))) ∧ r = some (mI (if (mv_k (gI A 235) p f (gI A 234 p).toNat) = -1 then gI A 234 p + 1 else gI A 234 p)) ∧ A' = (if (mv_k (gI A 235) p f (gI A 234 p).toNat) = -1 then mo_m (sI (sI A 200 0 0) 234 p (gI A 234 p + 1)) p f x y (gI A 234 p) else mo_m (sI A 200 0 0) p f x y (mv_k (gI A 235) p f (gI A 234 p).toNat))) ∨ (¬ ((0 ≤ p ∧ p < gI A 200 32) ∧ (0 ≤ f ∧ f ≤ 23 ∧ -20 ≤ x ∧ x ≤ 20 ∧ -20 ≤ y ∧ y ≤ 20) ∧ ((0 ≤ p ∧ p < gI A 200 32) ∧ (mv_k (gI A 235) p f (gI A 234 p).toNat ≠ -1 ∨ gI A 234 p < 6))) ∧ r = some (mI 0) ∧ A' = sI A 200 0 (if (0 ≤ p ∧ p < gI A 200 32) then (if (0 ≤ f ∧ f ≤ 23 ∧ -20 ≤ x ∧ x ≤ 20 ∧ -20 ≤ y ∧ y ≤ 20) then (if ((0 ≤ p ∧ p < gI A 200 32) ∧ (mv_k (gI A 235) p f (gI A 234 p).toNat ≠ -1 ∨ gI A 234 p < 6)) then 0 else 3) else 2) else 1))) mj_no) A 0 0 66 [some (mR (some 200)), some (mI p), some (mI f), some (mI x), some (mI y), some (mI (if (0 ≤ p ∧ p < gI A 200 32) then 1 else 0)), some (mI at_), l7] [] := by
  have hnp := hg.np
  have htn : (0 ≤ p ∧ p < gI A 200 32) → _ := fun h => hg.tn p h.1 h.2
  have hmr := mv_k_r (t := gI A 235) (p := p) (f := f) (gI A 234 p).toNat
  refine mx_R fun hR => ?_
  refine mx_aload_n 0 d_M_move_66 rfl rfl ?_
  refine mx_iload 5 d_M_move_67 rfl ?_
  refine mj_cutB ((0 ≤ f ∧ f ≤ 23 ∧ -20 ≤ x ∧ x ≤ 20 ∧ -20 ≤ y ∧ y ≤ 20)) 107 ?_ (fun hJ_69 => ?_)
  · refine mj_cutB (((0 ≤ p ∧ p < gI A 200 32) ∧ (mv_k (gI A 235) p f (gI A 234 p).toNat ≠ -1 ∨ gI A 234 p < 6))) 134 ?_ (fun hJ_107 => ?_)
    · refine mx_callV (kc := 0) (ks := 0) (N := n_M_asked3) (as := [_, _, _]) (ci := 7) d_M_move_134 s_M_146 ⟨Nat.le_of_ble_eq_true rfl, Nat.le_of_ble_eq_true rfl⟩ rfl (mj_wt_8 (Nat.le_of_ble_eq_true rfl)) (hM.o) ⟨_, rfl, rfl⟩ (cm_asked3 _ _ _ hM) (fun r_134 A_134 h_134 => ?_) (fun E_134 A_x h_134 => ?_)
      rotate_left
      · exact h_134.elim
      obtain ⟨rfl, hA_134⟩ := h_134
      obtain rfl := hA_134.symm
      clear hA_134
      refine mx_R fun hR_1 => ?_
      refine mx_if_ne 142 d_M_move_137 rfl (by first | assumption | exact hR_1 _ _ | exact hR _ _ | exact r32_mk (by omega) (by omega)) (fun c_137 => ?_) (fun c_137 => ?_)
      · have hP : (0 ≤ p ∧ p < gI A 200 32) ∧ (0 ≤ f ∧ f ≤ 23 ∧ -20 ≤ x ∧ x ≤ 20 ∧ -20 ≤ y ∧ y ≤ 20) ∧ ((0 ≤ p ∧ p < gI A 200 32) ∧ (mv_k (gI A 235) p f (gI A 234 p).toNat ≠ -1 ∨ gI A 234 p < 6)) := by omega
        have hq := hat hP.1
        have htn := htn hP.1
        refine mj_Xeq (A' := sI A 200 0 0) (by rw [if_pos hP.1, if_pos hP.2.1, if_pos hP.2.2]) ?_
        refine mx_R fun hR => ?_
        refine mx_iload 6 d_M_move_142 rfl ?_
        refine mx_iconst d_M_move_144 ?_
        refine mx_icmp_ne 166 d_M_move_145 rfl (by first | assumption | exact hR _ _ | exact r32_mk (by omega) (by omega)) (by first | assumption | exact hR _ _ | exact r32_mk (by omega) (by omega)) (fun c_145 => ?_) (fun c_145 => ?_)
        · first
          | (have hne : ¬ (mv_k (gI A 235) p f (gI A 234 p).toNat) = -1 := by omega
             refine cm_move_e (B := sI A 200 0 0) (k := at_) hM ⟨hP.1.1, by omega⟩ ⟨by omega, by omega⟩ hf hx hy (Or.inl ⟨hP, ?_, ?_⟩)
             · rw [if_neg hne]; rfl
             · rw [if_neg hne, hq])
          | (have he : (mv_k (gI A 235) p f (gI A 234 p).toNat) = -1 := by omega
             refine cm_move_e (B := sI (sI A 200 0 0) 234 p (gI A 234 p + 1)) (k := gI A 234 p) hM ⟨hP.1.1, by omega⟩ ⟨by omega, by omega⟩ hf hx hy (Or.inl ⟨hP, ?_, ?_⟩)
             · rw [if_pos he, gI_sIs]
             · rw [if_pos he])
        · refine mx_aload_n 0 d_M_move_148 rfl rfl ?_
          refine mx_getPs 34 d_M_move_149 f_M_92 rfl rfl (hM.o) (hM.p34) ?_
          refine mx_iload_n 1 d_M_move_152 rfl rfl ?_
          refine mx_iald d_M_move_153 (hM.s34) (by omega) (by omega) ?_
          rw [show gI (sI A 200 0 0) 234 p = gI A 234 p from rfl]
          refine mx_istore 6 d_M_move_154 (Nat.le_of_ble_eq_true rfl) ?_
          refine mx_aload_n 0 d_M_move_156 rfl rfl ?_
          refine mx_getPs 34 d_M_move_157 f_M_92 rfl rfl (hM.o) (hM.p34) ?_
          refine mx_iload_n 1 d_M_move_160 rfl rfl ?_
          refine mx_dup2 d_M_move_161 (fun z h => by cases h) (fun z h => by cases h) ?_
          refine mx_iald d_M_move_162 (hM.s34) (by omega) (by omega) ?_
          rw [show gI (sI A 200 0 0) 234 p = gI A 234 p from rfl]
          refine mx_iconst d_M_move_163 ?_
          refine mx_iadd d_M_move_164 ?_
          refine mx_iast d_M_move_165 (hM.s34) (by omega) (by omega) (by first | assumption | exact hR _ _ | exact r32_mk (by omega) (by omega)) ?_
          refine mx_R fun hR_1 => ?_
          first
          | (have hne : ¬ (mv_k (gI A 235) p f (gI A 234 p).toNat) = -1 := by omega
             refine cm_move_e (B := sI A 200 0 0) (k := at_) hM ⟨hP.1.1, by omega⟩ ⟨by omega, by omega⟩ hf hx hy (Or.inl ⟨hP, ?_, ?_⟩)
             · rw [if_neg hne]; rfl
             · rw [if_neg hne, hq])
          | (have he : (mv_k (gI A 235) p f (gI A 234 p).toNat) = -1 := by omega
             refine cm_move_e (B := sI (sI A 200 0 0) 234 p (gI A 234 p + 1)) (k := gI A 234 p) hM ⟨hP.1.1, by omega⟩ ⟨by omega, by omega⟩ hf hx hy (Or.inl ⟨hP, ?_, ?_⟩)
             · rw [if_pos he, gI_sIs]
             · rw [if_pos he])
      · refine mx_iconst d_M_move_140 ?_
        refine mx_iret d_M_move_141 rfl ?_
        exact Or.inr ⟨by omega, rfl, rfl⟩
    · refine mx_iload 5 d_M_move_107 rfl ?_
      refine mx_if_eq 133 d_M_move_109 rfl (by split <;> exact r32_mk (by omega) (by omega)) (fun c_109 => ?_) (fun c_109 => ?_)
      · refine mx_iconst d_M_move_133 ?_
        first | exact mj_j1 hJ_107 (by (first | (have hI9 := mj_if1 c_109; have hq := hat hI9; have h9 := htn hI9; omega) | (have hI9 := mj_if0 c_109; exact fun h => hI9 h.1))) | exact mj_j0 hJ_107 (by (first | (have hI9 := mj_if1 c_109; have hq := hat hI9; have h9 := htn hI9; omega) | (have hI9 := mj_if0 c_109; exact fun h => hI9 h.1)))
      · refine mx_iload 6 d_M_move_112 rfl ?_
        refine mx_iconst d_M_move_114 ?_
        refine mx_icmp_ne 129 d_M_move_115 rfl (by first | assumption | exact hR _ _ | exact r32_mk (by omega) (by omega)) (by first | assumption | exact hR _ _ | exact r32_mk (by omega) (by omega)) (fun c_115 => ?_) (fun c_115 => ?_)
        · refine mx_iconst d_M_move_129 ?_
          refine mx_goto 134 d_M_move_130 rfl ?_
          first | exact mj_j1 hJ_107 (by (first | (have hI9 := mj_if1 c_109; have hq := hat hI9; have h9 := htn hI9; omega) | (have hI9 := mj_if0 c_109; exact fun h => hI9 h.1))) | exact mj_j0 hJ_107 (by (first | (have hI9 := mj_if1 c_109; have hq := hat hI9; have h9 := htn hI9; omega) | (have hI9 := mj_if0 c_109; exact fun h => hI9 h.1)))
        · have hI9 := mj_if1 c_109
          have h9 := htn hI9
          refine mx_aload_n 0 d_M_move_118 rfl rfl ?_
          refine mx_getPs 34 d_M_move_119 f_M_92 rfl rfl (hM.o) (hM.p34) ?_
          refine mx_iload_n 1 d_M_move_122 rfl rfl ?_
          refine mx_iald d_M_move_123 (hM.s34) (by omega) (by omega) ?_
          refine mx_bipush d_M_move_124 (by decide) ?_
          refine mx_icmp_ge 133 d_M_move_126 rfl (by first | assumption | exact hR _ _ | exact r32_mk (by omega) (by omega)) (by first | assumption | exact hR _ _ | exact r32_mk (by omega) (by omega)) (fun c_126 => ?_) (fun c_126 => ?_)
          · refine mx_iconst d_M_move_133 ?_
            first | exact mj_j1 hJ_107 (by (first | (have hI9 := mj_if1 c_109; have hq := hat hI9; have h9 := htn hI9; omega) | (have hI9 := mj_if0 c_109; exact fun h => hI9 h.1))) | exact mj_j0 hJ_107 (by (first | (have hI9 := mj_if1 c_109; have hq := hat hI9; have h9 := htn hI9; omega) | (have hI9 := mj_if0 c_109; exact fun h => hI9 h.1)))
          · refine mx_iconst d_M_move_129 ?_
            refine mx_goto 134 d_M_move_130 rfl ?_
            first | exact mj_j1 hJ_107 (by (first | (have hI9 := mj_if1 c_109; have hq := hat hI9; have h9 := htn hI9; omega) | (have hI9 := mj_if0 c_109; exact fun h => hI9 h.1))) | exact mj_j0 hJ_107 (by (first | (have hI9 := mj_if1 c_109; have hq := hat hI9; have h9 := htn hI9; omega) | (have hI9 := mj_if0 c_109; exact fun h => hI9 h.1)))
  · refine mx_iload_n 2 d_M_move_69 rfl rfl ?_
    refine mx_iconst d_M_move_70 ?_
    refine mx_bipush d_M_move_71 (by decide) ?_
    refine mx_callS (kc := 0) (ks := 0) (N := n_M_in) (as := [_, _, _]) d_M_move_73 s_M_126 ⟨Nat.le_of_ble_eq_true rfl, Nat.le_of_ble_eq_true rfl⟩ rfl (mj_wt_8 (Nat.le_of_ble_eq_true rfl)) (cm_in hf (r32_mk (by omega) (by omega)) (r32_mk (by omega) (by omega))) (fun r_73 A_73 h_73 => ?_) (fun E_73 A_x h_73 => ?_)
    rotate_left
    · exact h_73.elim
    obtain ⟨rfl, hA_73⟩ := h_73
    obtain rfl := hA_73.symm
    clear hA_73
    refine mx_R fun hR_2 => ?_
    refine mx_if_eq 106 d_M_move_76 rfl (by first | assumption | exact hR_2 _ _ | exact hR _ _ | exact r32_mk (by omega) (by omega)) (fun c_76 => ?_) (fun c_76 => ?_)
    · refine mx_iconst d_M_move_106 ?_
      first | exact mj_j1 hJ_69 (by omega) | exact mj_j0 hJ_69 (by omega)
    · refine mx_iload_n 3 d_M_move_79 rfl rfl ?_
      refine mx_bipush d_M_move_80 (by decide) ?_
      refine mx_bipush d_M_move_82 (by decide) ?_
      refine mx_callS (kc := 0) (ks := 0) (N := n_M_in) (as := [_, _, _]) d_M_move_84 s_M_126 ⟨Nat.le_of_ble_eq_true rfl, Nat.le_of_ble_eq_true rfl⟩ rfl (mj_wt_8 (Nat.le_of_ble_eq_true rfl)) (cm_in hx (r32_mk (by omega) (by omega)) (r32_mk (by omega) (by omega))) (fun r_84 A_84 h_84 => ?_) (fun E_84 A_x h_84 => ?_)
      rotate_left
      · exact h_84.elim
      obtain ⟨rfl, hA_84⟩ := h_84
      obtain rfl := hA_84.symm
      clear hA_84
      refine mx_R fun hR_3 => ?_
      refine mx_if_eq 106 d_M_move_87 rfl (by first | assumption | exact hR_3 _ _ | exact hR_2 _ _ | exact hR _ _ | exact r32_mk (by omega) (by omega)) (fun c_87 => ?_) (fun c_87 => ?_)
      · refine mx_iconst d_M_move_106 ?_
        first | exact mj_j1 hJ_69 (by omega) | exact mj_j0 hJ_69 (by omega)
      · refine mx_iload 4 d_M_move_90 rfl ?_
        refine mx_bipush d_M_move_92 (by decide) ?_
        refine mx_bipush d_M_move_94 (by decide) ?_
        refine mx_callS (kc := 0) (ks := 0) (N := n_M_in) (as := [_, _, _]) d_M_move_96 s_M_126 ⟨Nat.le_of_ble_eq_true rfl, Nat.le_of_ble_eq_true rfl⟩ rfl (mj_wt_8 (Nat.le_of_ble_eq_true rfl)) (cm_in hy (r32_mk (by omega) (by omega)) (r32_mk (by omega) (by omega))) (fun r_96 A_96 h_96 => ?_) (fun E_96 A_x h_96 => ?_)
        rotate_left
        · exact h_96.elim
        obtain ⟨rfl, hA_96⟩ := h_96
        obtain rfl := hA_96.symm
        clear hA_96
        refine mx_R fun hR_4 => ?_
        refine mx_if_eq 106 d_M_move_99 rfl (by first | assumption | exact hR_4 _ _ | exact hR_3 _ _ | exact hR_2 _ _ | exact hR _ _ | exact r32_mk (by omega) (by omega)) (fun c_99 => ?_) (fun c_99 => ?_)
        · refine mx_iconst d_M_move_106 ?_
          first | exact mj_j1 hJ_69 (by omega) | exact mj_j0 hJ_69 (by omega)
        · refine mx_iconst d_M_move_102 ?_
          refine mx_goto 107 d_M_move_103 rfl ?_
          first | exact mj_j1 hJ_69 (by omega) | exact mj_j0 hJ_69 (by omega)
theorem cm_move {p f x y : Int} (hM : MS A) (hg : mo_pg A) (hp : r32 p) (hf : r32 f) (hx : r32 x) (hy : r32 y) : mj_Cal G n_M_move [mR (some 200), mI p, mI f, mI x, mI y] A (fun r A' => (((0 ≤ p ∧ p < gI A 200 32) ∧ (0 ≤ f ∧ f ≤ 23 ∧ -20 ≤ x ∧ x ≤ 20 ∧ -20 ≤ y ∧ y ≤ 20) ∧ ((0 ≤ p ∧ p < gI A 200 32) ∧ (mv_k (gI A 235) p f (gI A 234 p).toNat ≠ -1 ∨ gI A 234 p < 6))) ∧ r = some (mI (if (mv_k (gI A 235) p f (gI A 234 p).toNat) = -1 then gI A 234 p + 1 else gI A 234 p)) ∧ A' = (if (mv_k (gI A 235) p f (gI A 234 p).toNat) = -1 then mo_m (sI (sI A 200 0 0) 234 p (gI A 234 p + 1)) p f x y (gI A 234 p) else mo_m (sI A 200 0 0) p f x y (mv_k (gI A 235) p f (gI A 234 p).toNat))) ∨ (¬ ((0 ≤ p ∧ p < gI A 200 32) ∧ (0 ≤ f ∧ f ≤ 23 ∧ -20 ≤ x ∧ x ≤ 20 ∧ -20 ≤ y ∧ y ≤ 20) ∧ ((0 ≤ p ∧ p < gI A 200 32) ∧ (mv_k (gI A 235) p f (gI A 234 p).toNat ≠ -1 ∨ gI A 234 p < 6))) ∧ r = some (mI 0) ∧ A' = sI A 200 0 (if (0 ≤ p ∧ p < gI A 200 32) then (if (0 ≤ f ∧ f ≤ 23 ∧ -20 ≤ x ∧ x ≤ 20 ∧ -20 ≤ y ∧ y ≤ 20) then (if ((0 ≤ p ∧ p < gI A 200 32) ∧ (mv_k (gI A 235) p f (gI A 234 p).toNat ≠ -1 ∨ gI A 234 p < 6)) then 0 else 3) else 2) else 1))) mj_no := by
  refine mj_bodyK 0 0 [some (mR (some 200)), some (mI p), some (mI f), some (mI x), some (mI y), none, none, none] rfl rfl rfl (by decide +kernel) (Nat.le_of_ble_eq_true rfl) (by simp) rfl ?_
  have hnp := hg.np
  have hl : ∀ q : Nat, (((0 ≤ p ∧ p < gI A 200 32) → (q : Int) ≤ gI A 234 p) ∧ (¬ (0 ≤ p ∧ p < gI A 200 32) → q = 0)) → mj_X G n_M_move (mj_Qm G n_M_move (fun r A' => (((0 ≤ p ∧ p < gI A 200 32) ∧ (0 ≤ f ∧ f ≤ 23 ∧ -20 ≤ x ∧ x ≤ 20 ∧ -20 ≤ y ∧ y ≤ 20) ∧ ((0 ≤ p ∧ p < gI A 200 32) ∧ (mv_k (gI A 235) p f (gI A 234 p).toNat ≠ -1 ∨ gI A 234 p < 6))) ∧ r = some (mI (if (mv_k (gI A 235) p f (gI A 234 p).toNat) = -1 then gI A 234 p + 1 else gI A 234 p)) ∧ A' = (if (mv_k (gI A 235) p f (gI A 234 p).toNat) = -1 then mo_m (sI (sI A 200 0 0) 234 p (gI A 234 p + 1)) p f x y (gI A 234 p) else mo_m (sI A 200 0 0) p f x y (mv_k (gI A 235) p f (gI A 234 p).toNat))) ∨ (¬ ((0 ≤ p ∧ p < gI A 200 32) ∧ (0 ≤ f ∧ f ≤ 23 ∧ -20 ≤ x ∧ x ≤ 20 ∧ -20 ≤ y ∧ y ≤ 20) ∧ ((0 ≤ p ∧ p < gI A 200 32) ∧ (mv_k (gI A 235) p f (gI A 234 p).toNat ≠ -1 ∨ gI A 234 p < 6))) ∧ r = some (mI 0) ∧ A' = sI A 200 0 (if (0 ≤ p ∧ p < gI A 200 32) then (if (0 ≤ f ∧ f ≤ 23 ∧ -20 ≤ x ∧ x ≤ 20 ∧ -20 ≤ y ∧ y ≤ 20) then (if ((0 ≤ p ∧ p < gI A 200 32) ∧ (mv_k (gI A 235) p f (gI A 234 p).toNat ≠ -1 ∨ gI A 234 p < 6)) then 0 else 3) else 2) else 1))) mj_no) A 0 0 19 [some (mR (some 200)), some (mI p), some (mI f), some (mI x), some (mI y), some (mI (if (0 ≤ p ∧ p < gI A 200 32) then 1 else 0)), some (mI (mv_k (gI A 235) p f q)), some (mI (q : Int))] [] := by
    refine mj_loop _ (fun q => 7 - q) _ ?_
    intro q ⟨hq1, hq2⟩ ih
    have hmr := mv_k_r (t := gI A 235) (p := p) (f := f) q
    have htn : (0 ≤ p ∧ p < gI A 200 32) → _ := fun h => hg.tn p h.1 h.2
    refine mx_R fun hR => ?_
    refine mx_iload 5 d_M_move_19 rfl ?_
    refine mx_if_eq 66 d_M_move_21 rfl (by split <;> exact r32_mk (by omega) (by omega)) (fun c_21 => ?_) (fun c_21 => ?_)
    · first
      | (have hI9 := mj_if0 c_21
         have hq0 := hq2 hI9
         exact cm_move_t hM hg hp hf hx hy (fun h => absurd h hI9) (by rw [hq0]; show -1 ≤ (-1 : Int) ∧ (-1 : Int) < 6; omega))
      | exact cm_move_t hM hg hp hf hx hy (fun h => by rw [show (gI A 234 p).toNat = q by omega]) (by omega)
    · have hI := mj_if1 (by assumption)
      have htn := htn hI
      have hq1 := hq1 hI
      refine mx_iload 7 d_M_move_24 rfl ?_
      refine mx_aload_n 0 d_M_move_26 rfl rfl ?_
      refine mx_getPs 34 d_M_move_27 f_M_92 rfl rfl (hM.o) (hM.p34) ?_
      refine mx_iload_n 1 d_M_move_30 rfl rfl ?_
      refine mx_iald d_M_move_31 (hM.s34) (by omega) (by omega) ?_
      refine mx_icmp_ge 66 d_M_move_32 rfl (by first | assumption | exact hR _ _ | exact r32_mk (by omega) (by omega)) (by first | assumption | exact hR _ _ | exact r32_mk (by omega) (by omega)) (fun c_32 => ?_) (fun c_32 => ?_)
      · first
        | (have hI9 := mj_if0 c_21
           have hq0 := hq2 hI9
           exact cm_move_t hM hg hp hf hx hy (fun h => absurd h hI9) (by rw [hq0]; show -1 ≤ (-1 : Int) ∧ (-1 : Int) < 6; omega))
        | exact cm_move_t hM hg hp hf hx hy (fun h => by rw [show (gI A 234 p).toNat = q by omega]) (by omega)
      · refine mj_cutI ( mv_k (gI A 235) p f (q + 1)) 58 ?_ (fun hJ_35 => ?_)
        · refine mx_istore 6 d_M_move_58 (Nat.le_of_ble_eq_true rfl) ?_
          refine mx_iinc 7 d_M_move_60 rfl (Nat.le_of_ble_eq_true rfl) ?_
          refine mx_goto 19 d_M_move_63 rfl ?_
          have h9 := ih (q + 1) ⟨fun _ => by omega, fun h => absurd hI h⟩ (by omega)
          rw [show ((q + 1 : Nat) : Int) = (q : Int) + 1 by omega] at h9
          exact h9
        · refine mx_aload_n 0 d_M_move_35 rfl rfl ?_
          refine mx_getPs 35 d_M_move_36 f_M_95 rfl rfl (hM.o) (hM.p35) ?_
          refine mx_bipush d_M_move_39 (by decide) ?_
          refine mx_iload_n 1 d_M_move_41 rfl rfl ?_
          refine mx_imul d_M_move_42 ?_
          refine mx_iload 7 d_M_move_43 rfl ?_
          refine mx_iadd d_M_move_45 ?_
          refine mx_iald d_M_move_46 (hM.s35) (by omega) (by omega) ?_
          refine mx_iload_n 2 d_M_move_47 rfl rfl ?_
          refine mx_icmp_ne 56 d_M_move_48 rfl (by first | assumption | exact hR _ _ | exact r32_mk (by omega) (by omega)) (by first | assumption | exact hR _ _ | exact r32_mk (by omega) (by omega)) (fun c_48 => ?_) (fun c_48 => ?_)
          · refine mx_iload 6 d_M_move_56 rfl ?_
            exact mj_ji hJ_35 (by (rw [mv_k]; first | rw [if_pos (by assumption)] | rw [if_neg (by assumption)]))
          · refine mx_iload 7 d_M_move_51 rfl ?_
            refine mx_goto 58 d_M_move_53 rfl ?_
            exact mj_ji hJ_35 (by (rw [mv_k]; first | rw [if_pos (by assumption)] | rw [if_neg (by assumption)]))
  refine mx_R fun hR => ?_
  refine mx_iload_n 1 d_M_move_0 rfl rfl ?_
  refine mx_iconst d_M_move_1 ?_
  refine mx_aload_n 0 d_M_move_2 rfl rfl ?_
  refine mx_getI 32 d_M_move_3 f_M_208 rfl rfl (hM.o) ?_
  refine mx_iconst d_M_move_6 ?_
  refine mx_isub d_M_move_7 ?_
  refine mx_callS (kc := 0) (ks := 0) (N := n_M_in) (as := [_, _, _]) d_M_move_8 s_M_126 ⟨Nat.le_of_ble_eq_true rfl, Nat.le_of_ble_eq_true rfl⟩ rfl (mj_wt_8 (Nat.le_of_ble_eq_true rfl)) (cm_in hp (r32_mk (by omega) (by omega)) (r32_mk (by omega) (by omega))) (fun r_8 A_8 h_8 => ?_) (fun E_8 A_x h_8 => ?_)
  rotate_left
  · exact h_8.elim
  obtain ⟨rfl, hA_8⟩ := h_8
  obtain rfl := hA_8.symm
  clear hA_8
  refine mx_R fun hR_1 => ?_
  rw [show (if 0 ≤ p ∧ p ≤ gI A 200 32 - 1 then (1 : Int) else 0) = (if (0 ≤ p ∧ p < gI A 200 32) then 1 else 0) from mj_ic (by omega)]
  refine mx_istore 5 d_M_move_11 (Nat.le_of_ble_eq_true rfl) ?_
  refine mx_iconst d_M_move_13 ?_
  refine mx_istore 6 d_M_move_14 (Nat.le_of_ble_eq_true rfl) ?_
  refine mx_iconst d_M_move_16 ?_
  refine mx_istore 7 d_M_move_17 (Nat.le_of_ble_eq_true rfl) ?_
  exact hl 0 ⟨fun h => by have := hg.tn p h.1 h.2; omega, fun _ => rfl⟩
end CLSO
