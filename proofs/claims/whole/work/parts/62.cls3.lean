/-! THE HOUSE, 3: outlines of drawings, fillings -/
theorem ln_cv {E I : Int → Int} {p : Int} : ∀ n : Nat, (∀ i : Int, 0 ≤ i → i < n → 0 ≤ I i) → (pc_ln E I n p ≠ -1 ↔ pc_cv E n p = true)
  | 0, _ => ⟨fun h => absurd rfl h, fun h => by cases h⟩
  | n + 1, h => by
    have h1 := ln_cv (E := E) (I := I) (p := p) n (fun i h0 h1 => h i h0 (by omega))
    have h2 := h n (by omega) (by omega)
    rw [pc_ln, pc_cv, Bool.or_eq_true]
    by_cases e : pc_cs E n p = true
    · rw [if_pos e]
      exact ⟨fun _ => Or.inr e, fun _ => by omega⟩
    · rw [if_neg e, h1]
      exact ⟨Or.inl, fun k => k.resolve_right e⟩
theorem pc_il_c {L L' : Int → Bool} (h : ∀ p, 0 ≤ p → p < 192 → L p = L' p) (x y : Int) : pc_il L x y = pc_il L' x y := by
  unfold pc_il
  by_cases e : 0 ≤ x ∧ x < 16 ∧ 0 ≤ y ∧ y < 12
  · rw [h _ (by omega) (by omega)]
  · rw [decide_eq_false e, Bool.false_and, Bool.false_and]
theorem pc_gp_c {L L' : Int → Bool} (h : ∀ p, 0 ≤ p → p < 192 → L p = L' p) (p : Int) : pc_gp L p = pc_gp L' p := by
  unfold pc_gp
  rw [pc_il_c h, pc_il_c h, pc_il_c h, pc_il_c h]
section CLS3
variable {G : mj_G} {A : mj_M}
/-- rows of pictures are no others -/
abbrev pcc (l w q : Int) : Prop := (l = 120 ∧ w = 121 ∧ q = 122) ∨ (1000 ≤ l ∧ l % 100 = 13 ∧ w = l + 1 ∧ q = l + 2)
theorem sr_sF {l k : Int} {f : Int → Int} (h : k ≠ l) (hr : sr A k) : sr (sF A l f) k := by
  unfold sr at hr ⊢
  rw [gI_sF, if_neg h, gI_sF, if_neg h, gI_sF, if_neg h, gI_sF, if_neg h]
  exact hr
/-- the outline of drawing d in the rows l and w -/
def ol_m (A : mj_M) (d l w : Int) : mj_M := sF (sF A l (fun p => if 0 ≤ p ∧ p < 192 then c_l (ch_c A d) p else gI A l p)) w (fun p => if 0 ≤ p ∧ p < 192 then (if c_mk (ch_c A d) p = 2 then 1 else 0) else gI A w p)
theorem ct_outline_w {t l w q n d : Int} (hC : CS A t l w q) (hpc : pcc l w q) (hD : DS A n) (hd : 0 ≤ d ∧ d < n) (hcr : cr (ch_c A d)) {l2 : Option mj_V} :
    mj_X G n_C_drawOutline (mj_Qm G n_C_drawOutline (fun r A' => r = none ∧ A' = ol_m A d l w) mj_no) (sF A l (fun p => if 0 ≤ p ∧ p < 192 then c_l (ch_c A d) p else gI A l p)) 0 0 34 [some (mR (some t)), some (mR (some (1000 + 100 * d))), l2] [] := by
  have h10 : ∀ f g, gI (sF (sF A l f) w g) (1000 + 100 * d) 10 = gI A (1000 + 100 * d) 10 := fun f g => by rw [gI_sF, if_neg (by omega), gI_sF, if_neg (by omega)]
  have hwl : ∀ f p, gI (sF A l f) w p = gI A w p := fun f p => by rw [gI_sF, if_neg (by omega)]
  have hcc := hcr.c
  replace hcc : gI A (1000 + 100 * d) 10 = 0 ∨ gI A (1000 + 100 * d) 10 = 1 := hcc
  have hI : ∀ i : Int, 0 ≤ i → i < (c_n (ch_c A d)).toNat → 0 ≤ c_I (ch_c A d) i := fun i i0 i1 => by
    have := hcr.n
    exact (hcr.I i i0 (by omega)).1
  refine mx_R fun hR => ?_
  refine mx_aload_n 0 d_C_drawOutline_34 rfl rfl ?_
  refine mx_getPs 1 d_C_drawOutline_35 f_C_15 rfl rfl (hC.o) (hC.p1) ?_
  refine mx_iconst d_C_drawOutline_38 ?_
  refine mx_callS (kc := 0) (ks := 0) (N := n_J_fill) (as := [_, _]) d_C_drawOutline_39 s_C_29 ⟨Nat.le_of_ble_eq_true rfl, Nat.le_of_ble_eq_true rfl⟩ rfl (mj_wt_8 (Nat.le_of_ble_eq_true rfl)) (ct_fill (A := (sF A l (fun p => if 0 ≤ p ∧ p < 192 then c_l (ch_c A d) p else gI A l p))) hC.s1 (by omega) (by omega) (r32_mk (by omega) (by omega))) (fun r_39 A_39 h_39 => ?_) (fun E_39 A_x h_39 => ?_)
  rotate_left
  · exact h_39.elim
  obtain ⟨rfl, hA_39⟩ := h_39
  obtain rfl := hA_39.symm
  clear hA_39
  refine mx_R fun hR_1 => ?_
  refine mx_aload_n 1 d_C_drawOutline_42 rfl rfl ?_
  refine mx_getI 10 d_C_drawOutline_43 f_C_49 rfl rfl (hD.o _ (by omega) (by omega)) ?_
  rw [h10]
  refine mx_if_eq 53 d_C_drawOutline_46 rfl (by first | assumption | exact hR_1 _ _ | exact hR _ _ | exact r32_mk (by omega) (by omega)) (fun c_46 => ?_) (fun c_46 => ?_)
  · refine mx_vret d_C_drawOutline_53 rfl ?_
    first
    | (have h0 : gI A (1000 + 100 * d) 10 = 0 := by assumption
       refine ⟨rfl, ?_⟩
       unfold ol_m
       refine sF_congr fun p => ?_
       rw [hwl]
       by_cases hp : 0 ≤ p ∧ p < 192
       · rw [if_pos hp, if_pos hp, if_neg]
         unfold c_mk pc_mk
         rw [show c_c (ch_c A d) = 0 from h0]
         split
         · omega
         · rw [if_neg (fun k => k.1 rfl)]; omega
       · rw [if_neg hp, if_neg hp])
    | exact ⟨rfl, hq_50⟩
  · refine mx_aload_n 0 d_C_drawOutline_49 rfl rfl ?_
    refine mx_callV (kc := 0) (ks := 0) (N := n_C_closeGaps) (as := []) (ci := 3) d_C_drawOutline_50 s_C_53 ⟨Nat.le_of_ble_eq_true rfl, Nat.le_of_ble_eq_true rfl⟩ rfl (mj_wt_8 (Nat.le_of_ble_eq_true rfl)) (hC.o) ⟨_, rfl, rfl⟩ (ct_closeGaps (A := sF (sF A l (fun p => if 0 ≤ p ∧ p < 192 then c_l (ch_c A d) p else gI A l p)) w (fun j => if 0 ≤ j ∧ j < 192 then 0 else gI (sF A l (fun p => if 0 ≤ p ∧ p < 192 then c_l (ch_c A d) p else gI A l p)) w j)) hC (by omega)) (fun r_50 A_50 h_50 => ?_) (fun E_50 A_x h_50 => ?_)
    rotate_left
    · exact h_50.elim
    obtain ⟨rfl, hA50⟩ := h_50
    refine mx_R fun hR_2 => ?_
    have h1 : gI A (1000 + 100 * d) 10 = 1 := by omega
    have hq_50 : A_50 = ol_m A d l w := by
      rw [hA50]
      unfold ol_m
      rw [sF_sF]
      refine sF_congr fun p => ?_
      have eL : ∀ p, 0 ≤ p → p < 192 → lL (sF (sF A l (fun p => if 0 ≤ p ∧ p < 192 then c_l (ch_c A d) p else gI A l p)) w (fun j => if 0 ≤ j ∧ j < 192 then 0 else gI (sF A l (fun p => if 0 ≤ p ∧ p < 192 then c_l (ch_c A d) p else gI A l p)) w j)) l p = c_L (ch_c A d) p := fun p p0 p1 => by
        show decide (gI (sF (sF A l (fun p => if 0 ≤ p ∧ p < 192 then c_l (ch_c A d) p else gI A l p)) w _) l p ≠ -1) = _
        rw [gI_sF, if_neg (by omega), gI_sF, if_pos rfl, if_pos ⟨p0, p1⟩]
        have h2 := ln_cv (E := c_E (ch_c A d)) (I := c_I (ch_c A d)) (p := p) (c_n (ch_c A d)).toNat hI
        by_cases h3 : c_L (ch_c A d) p = true
        · rw [h3, decide_eq_true_iff]
          exact h2.mpr h3
        · rw [Bool.not_eq_true] at h3
          rw [h3, decide_eq_false_iff_not]
          exact fun h4 => by
            have h5 : c_L (ch_c A d) p = true := h2.mp h4
            rw [h3] at h5
            cases h5
      show (if 0 ≤ p ∧ p < 192 ∧ pc_gp (lL _ l) p = true ∧ ¬ lL _ l p = true then (1 : Int) else gI (sF _ w _) w p) = _
      rw [pc_gp_c eL]
      by_cases hp : 0 ≤ p ∧ p < 192
      · rw [eL p hp.1 hp.2, if_pos hp, gI_sF, if_pos rfl, if_pos hp]
        unfold c_mk pc_mk
        rw [show c_c (ch_c A d) = 1 from h1]
        by_cases h4 : c_L (ch_c A d) p = true
        · simp [h4]
        · by_cases h5 : pc_gp (c_L (ch_c A d)) p = true
          · simp [h4, h5, hp]
          · simp [h4, h5]
      · rw [if_neg (fun k => hp ⟨k.1, k.2.1⟩), if_neg hp, gI_sF, if_pos rfl, if_neg hp, hwl]
    refine mx_vret d_C_drawOutline_53 rfl ?_
    first
    | (have h0 : gI A (1000 + 100 * d) 10 = 0 := by assumption
       refine ⟨rfl, ?_⟩
       unfold ol_m
       refine sF_congr fun p => ?_
       rw [hwl]
       by_cases hp : 0 ≤ p ∧ p < 192
       · rw [if_pos hp, if_pos hp, if_neg]
         unfold c_mk pc_mk
         rw [show c_c (ch_c A d) = 0 from h0]
         split
         · omega
         · rw [if_neg (fun k => k.1 rfl)]; omega
       · rw [if_neg hp, if_neg hp])
    | exact ⟨rfl, hq_50⟩
theorem ct_drawOutline {t l w q n d : Int} (hC : CS A t l w q) (hpc : pcc l w q) (hD : DS A n) (hd : 0 ≤ d ∧ d < n) (hcr : cr (ch_c A d)) : mj_Cal G n_C_drawOutline [mR (some t), mR (some (1000 + 100 * d))] A (fun r A' => r = none ∧ A' = ol_m A d l w) mj_no := by
  refine mj_bodyK 0 0 [some (mR (some t)), some (mR (some (1000 + 100 * d))), none] rfl rfl rfl (by decide +kernel) (Nat.le_of_ble_eq_true rfl) (by simp) rfl ?_
  have hn := hcr.n
  replace hn : 0 ≤ gI A (1000 + 100 * d) 6 ∧ gI A (1000 + 100 * d) 6 ≤ 8 := hn
  have hl : ∀ i : Nat, (i : Int) ≤ gI A (1000 + 100 * d) 6 → mj_X G n_C_drawOutline (mj_Qm G n_C_drawOutline (fun r A' => r = none ∧ A' = ol_m A d l w) mj_no) (sF A l (fun p => if 0 ≤ p ∧ p < 192 then pc_ln (c_E (ch_c A d)) (c_I (ch_c A d)) i p else gI A l p)) 0 0 10 [some (mR (some t)), some (mR (some (1000 + 100 * d))), some (mI (i : Int))] [] := by
    refine mj_loop _ (fun i => 9 - i) _ ?_
    intro i hi ih
    have h6 : gI (sF A l (fun p => if 0 ≤ p ∧ p < 192 then pc_ln (c_E (ch_c A d)) (c_I (ch_c A d)) i p else gI A l p)) (1000 + 100 * d) 6 = gI A (1000 + 100 * d) 6 := by rw [gI_sF, if_neg (by omega)]
    have hDB : DS (sF A l (fun p => if 0 ≤ p ∧ p < 192 then pc_ln (c_E (ch_c A d)) (c_I (ch_c A d)) i p else gI A l p)) n := hD
    have hCB : CS (sF A l (fun p => if 0 ≤ p ∧ p < 192 then pc_ln (c_E (ch_c A d)) (c_I (ch_c A d)) i p else gI A l p)) t l w q := hC
    refine mx_R fun hR => ?_
    refine mx_iload_n 2 d_C_drawOutline_10 rfl rfl ?_
    refine mx_aload_n 1 d_C_drawOutline_11 rfl rfl ?_
    refine mx_getI 6 d_C_drawOutline_12 f_C_35 rfl rfl (hD.o _ (by omega) (by omega)) ?_
    rw [h6]
    refine mx_icmp_ge 34 d_C_drawOutline_15 rfl (by first | assumption | exact hR _ _ | exact r32_mk (by omega) (by omega)) (by first | assumption | exact hR _ _ | exact r32_mk (by omega) (by omega)) (fun c_15 => ?_) (fun c_15 => ?_)
    · have h9 := ct_outline_w (G := G) hC hpc hD hd hcr (l2 := some (mI (i : Int)))
      have e9 : (c_n (ch_c A d)).toNat = i := by show (gI A (1000 + 100 * d) 6).toNat = i; omega
      have h8 : (fun p => if 0 ≤ p ∧ p < 192 then c_l (ch_c A d) p else gI A l p) = (fun p => if 0 ≤ p ∧ p < 192 then pc_ln (c_E (ch_c A d)) (c_I (ch_c A d)) i p else gI A l p) := by
        funext p
        show (if 0 ≤ p ∧ p < 192 then pc_ln (c_E (ch_c A d)) (c_I (ch_c A d)) (c_n (ch_c A d)).toNat p else gI A l p) = _
        rw [e9]
      rw [h8] at h9
      exact h9
    · refine mx_aload_n 0 d_C_drawOutline_18 rfl rfl ?_
      have hek := hD.ek d hd.1 hd.2 i (by omega) (by omega)
      have hsr := ch_sr hcr (i := i) (by omega) (by omega)
      have hkl : sk A d i ≠ l := by omega
      refine mx_aload_n 1 d_C_drawOutline_19 rfl rfl ?_
      refine mx_getPs 5 d_C_drawOutline_20 f_C_41 rfl rfl (hD.o _ (by omega) (by omega)) (hD.p5 _ (by omega) (by omega)) ?_
      refine mx_iload_n 2 d_C_drawOutline_23 rfl rfl ?_
      refine mx_aalds d_C_drawOutline_24 (hD.s5 _ (by omega) (by omega)) (by decide) (by omega) (by omega) (hD.e5 d hd.1 hd.2 i (by omega) (by omega)) ?_
      refine mx_callV (kc := 0) (ks := 0) (N := n_C_drawLine) (as := [_]) (ci := 3) d_C_drawOutline_25 s_C_45 ⟨Nat.le_of_ble_eq_true rfl, Nat.le_of_ble_eq_true rfl⟩ rfl (mj_wt_8 (Nat.le_of_ble_eq_true rfl)) (hC.o) ⟨_, rfl, rfl⟩ (ct_drawLine (A := sF A l (fun p => if 0 ≤ p ∧ p < 192 then pc_ln (c_E (ch_c A d)) (c_I (ch_c A d)) i p else gI A l p)) hCB (hD.ks d hd.1 hd.2 i (by omega) (by omega)) (sr_sF hkl hsr) hkl) (fun r_25 A_25 h_25 => ?_) (fun E_25 A_x h_25 => ?_)
      rotate_left
      · exact h_25.elim
      obtain ⟨rfl, hA_25⟩ := h_25
      obtain rfl := hA_25.symm
      clear hA_25
      refine mx_R fun hR_1 => ?_
      refine mx_iinc 2 d_C_drawOutline_28 rfl (Nat.le_of_ble_eq_true rfl) ?_
      refine mx_goto 10 d_C_drawOutline_31 rfl ?_
      have h9 := ih (i + 1) (by omega) (by omega)
      rw [show ((i + 1 : Nat) : Int) = (i : Int) + 1 by omega] at h9
      refine mj_Xeq ?_ h9
      rw [sF_sF]
      refine sF_congr fun p => ?_
      have ek : ∀ j, gI (sF A l (fun p => if 0 ≤ p ∧ p < 192 then pc_ln (c_E (ch_c A d)) (c_I (ch_c A d)) i p else gI A l p)) (sk A d i) j = gI A (sk A d i) j := fun j => by rw [gI_sF, if_neg hkl]
      have el : gI (sF A l (fun p => if 0 ≤ p ∧ p < 192 then pc_ln (c_E (ch_c A d)) (c_I (ch_c A d)) i p else gI A l p)) l p = (fun p => if 0 ≤ p ∧ p < 192 then pc_ln (c_E (ch_c A d)) (c_I (ch_c A d)) i p else gI A l p) p := by rw [gI_sF, if_pos rfl]
      rw [ek, ek, ek, ek, ek, el]
      show (if _ then _ else (if 0 ≤ p ∧ p < 192 then pc_ln (c_E (ch_c A d)) (c_I (ch_c A d)) i p else gI A l p)) = if 0 ≤ p ∧ p < 192 then pc_ln (c_E (ch_c A d)) (c_I (ch_c A d)) (i + 1) p else gI A l p
      rw [pc_ln, ch_cs]
      unfold sr at hsr
      by_cases hp : 0 ≤ p ∧ p < 192
      · rw [if_pos hp, if_pos hp]
      · rw [if_neg hp, if_neg hp, if_neg (fun k => hp (pc_cov_r hsr.1 hsr.2.1 hsr.2.2.1 hsr.2.2.2 k))]
  refine mx_R fun hR => ?_
  refine mx_aload_n 0 d_C_drawOutline_0 rfl rfl ?_
  refine mx_getPs 0 d_C_drawOutline_1 f_C_9 rfl rfl (hC.o) (hC.p0) ?_
  refine mx_iconst d_C_drawOutline_4 ?_
  refine mx_callS (kc := 0) (ks := 0) (N := n_J_fill) (as := [_, _]) d_C_drawOutline_5 s_C_29 ⟨Nat.le_of_ble_eq_true rfl, Nat.le_of_ble_eq_true rfl⟩ rfl (mj_wt_8 (Nat.le_of_ble_eq_true rfl)) (ct_fill hC.s0 (by omega) (by omega) (r32_mk (by omega) (by omega))) (fun r_5 A_5 h_5 => ?_) (fun E_5 A_x h_5 => ?_)
  rotate_left
  · exact h_5.elim
  obtain ⟨rfl, hA_5⟩ := h_5
  obtain rfl := hA_5.symm
  clear hA_5
  refine mx_R fun hR_1 => ?_
  refine mx_iconst d_C_drawOutline_8 ?_
  refine mx_istore_n 2 d_C_drawOutline_9 rfl (Nat.le_of_ble_eq_true rfl) ?_
  exact hl 0 (by omega)
abbrev ho (A : mj_M) (l w q : Int) : Prop := (0 ≤ q ∧ q < 192) ∧ gI A l q = -1 ∧ gI A w q = 0
theorem ct_reach {t l w q p : Int} (hF : FS A) (hC : CS A t l w q) (hp : 0 ≤ p ∧ p < 192) (hn : (gI A 124 p = 0 ∧ gI A l p = -1 ∧ gI A w p = 0) → 0 ≤ gI A 117 2 ∧ gI A 117 2 < 192) : mj_Cal G n_F_reach [mR (some 117), mR (some t), mI p] A (fun r A' => r = none ∧ (((gI A 124 p = 0 ∧ gI A l p = -1 ∧ gI A w p = 0) ∧ A' = sI (sI (sI A 124 p 1) 123 (gI A 117 2) p) 117 2 (gI A 117 2 + 1)) ∨ (¬ (gI A 124 p = 0 ∧ gI A l p = -1 ∧ gI A w p = 0) ∧ A' = A))) mj_no := by
  refine mj_bodyK 0 0 [some (mR (some 117)), some (mR (some t)), some (mI p)] rfl rfl rfl (by decide +kernel) (Nat.le_of_ble_eq_true rfl) (by simp) rfl ?_
  refine mx_R fun hR => ?_
  refine mx_aload_n 0 d_F_reach_0 rfl rfl ?_
  refine mx_getPs 1 d_F_reach_1 f_F_15 rfl rfl (hF.o) (hF.p1) ?_
  refine mx_iload_n 2 d_F_reach_4 rfl rfl ?_
  refine mx_iald d_F_reach_5 (hF.s1) (by omega) (by omega) ?_
  refine mx_if_ne 54 d_F_reach_6 rfl (by first | assumption | exact hR _ _ | exact r32_mk (by omega) (by omega)) (fun c_6 => ?_) (fun c_6 => ?_)
  · refine mx_vret d_F_reach_54 rfl ?_
    exact ⟨rfl, Or.inr ⟨fun hC => by have h1 := hC.1; have h2 := hC.2.1; have h3 := hC.2.2; first | omega | (have := hn hC; omega), rfl⟩⟩
  · refine mx_aload_n 1 d_F_reach_9 rfl rfl ?_
    refine mx_iload_n 2 d_F_reach_10 rfl rfl ?_
    refine mx_callV (kc := 0) (ks := 0) (N := n_C_isOpen) (as := [_]) (ci := 3) d_F_reach_11 s_F_32 ⟨Nat.le_of_ble_eq_true rfl, Nat.le_of_ble_eq_true rfl⟩ rfl (mj_wt_8 (Nat.le_of_ble_eq_true rfl)) (hC.o) ⟨_, rfl, rfl⟩ (ct_isOpen hC hp) (fun r_11 A_11 h_11 => ?_) (fun E_11 A_x h_11 => ?_)
    rotate_left
    · exact h_11.elim
    obtain ⟨rfl, hA_11⟩ := h_11
    obtain rfl := hA_11.symm
    clear hA_11
    refine mx_R fun hR_1 => ?_
    refine mx_if_eq 54 d_F_reach_14 rfl (by first | assumption | exact hR_1 _ _ | exact hR _ _ | exact r32_mk (by omega) (by omega)) (fun c_14 => ?_) (fun c_14 => ?_)
    · refine mx_vret d_F_reach_54 rfl ?_
      exact ⟨rfl, Or.inr ⟨fun hC => by have h1 := hC.1; have h2 := hC.2.1; have h3 := hC.2.2; first | omega | (have := hn hC; omega), rfl⟩⟩
    · refine mx_aload_n 0 d_F_reach_17 rfl rfl ?_
      refine mx_getI 2 d_F_reach_18 f_F_24 rfl rfl (hF.o) ?_
      refine mx_sipush d_F_reach_21 (by decide) ?_
      refine mx_icmp_ge 54 d_F_reach_24 rfl (by first | assumption | exact hR_1 _ _ | exact hR _ _ | exact r32_mk (by omega) (by omega)) (by first | assumption | exact hR_1 _ _ | exact hR _ _ | exact r32_mk (by omega) (by omega)) (fun c_24 => ?_) (fun c_24 => ?_)
      · refine mx_vret d_F_reach_54 rfl ?_
        exact ⟨rfl, Or.inr ⟨fun hC => by have h1 := hC.1; have h2 := hC.2.1; have h3 := hC.2.2; first | omega | (have := hn hC; omega), rfl⟩⟩
      · have hC9 : (gI A 124 p = 0 ∧ gI A l p = -1 ∧ gI A w p = 0) := ⟨by assumption, by omega, by omega⟩
        have hn' := hn hC9
        refine mx_R fun hR => ?_
        refine mx_aload_n 0 d_F_reach_27 rfl rfl ?_
        refine mx_getPs 1 d_F_reach_28 f_F_15 rfl rfl (hF.o) (hF.p1) ?_
        refine mx_iload_n 2 d_F_reach_31 rfl rfl ?_
        refine mx_iconst d_F_reach_32 ?_
        refine mx_iast d_F_reach_33 (hF.s1) (by omega) (by omega) (by first | assumption | exact hR _ _ | exact r32_mk (by omega) (by omega)) ?_
        refine mx_R fun hR_1 => ?_
        refine mx_aload_n 0 d_F_reach_34 rfl rfl ?_
        refine mx_getPs 0 d_F_reach_35 f_F_9 rfl rfl (hF.o) (hF.p0) ?_
        refine mx_aload_n 0 d_F_reach_38 rfl rfl ?_
        refine mx_getI 2 d_F_reach_39 f_F_24 rfl rfl (hF.o) ?_
        (try simp only [gI_sI, gI_sF, gI_sP, gI_sN, gP_sI, gP_sF, gP_sP, gP_sN, gS_sI, gS_sF, gS_sP, gS_sN, Int.reduceEq, false_and, and_false, true_and, and_true, eq_self, if_false, if_true, reduceIte, reduceCtorEq])
        refine mx_iload_n 2 d_F_reach_42 rfl rfl ?_
        refine mx_iast d_F_reach_43 (hF.s0) (by omega) (by omega) (by first | assumption | exact hR_1 _ _ | exact hR _ _ | exact r32_mk (by omega) (by omega)) ?_
        refine mx_R fun hR_2 => ?_
        refine mx_aload_n 0 d_F_reach_44 rfl rfl ?_
        refine mx_dup d_F_reach_45 (fun z h => by cases h) ?_
        refine mx_getI 2 d_F_reach_46 f_F_24 rfl rfl (hF.o) ?_
        (try simp only [gI_sI, gI_sF, gI_sP, gI_sN, gP_sI, gP_sF, gP_sP, gP_sN, gS_sI, gS_sF, gS_sP, gS_sN, Int.reduceEq, false_and, and_false, true_and, and_true, eq_self, if_false, if_true, reduceIte, reduceCtorEq])
        refine mx_iconst d_F_reach_49 ?_
        refine mx_iadd d_F_reach_50 ?_
        refine mx_putI 2 d_F_reach_51 f_F_24 rfl (hF.o) (Or.inl rfl) (Or.inl rfl) (by first | assumption | exact hR_2 _ _ | exact hR_1 _ _ | exact hR _ _ | exact r32_mk (by omega) (by omega)) ?_
        refine mx_R fun hR_3 => ?_
        refine mx_vret d_F_reach_54 rfl ?_
        exact ⟨rfl, Or.inl ⟨hC9, rfl⟩⟩
def fl_m (B : mj_M) (c u : Int → Int) (n : Int) : mj_M := sI (sF (sF B 123 u) 124 c) 117 2 n
theorem fl_m1 {B : mj_M} {c u : Int → Int} {n p : Int} : sI (sI (sI (fl_m B c u n) 124 p 1) 123 n p) 117 2 (n + 1) = fl_m B (fun q => if q = p then 1 else c q) (fun i => if i = n then p else u i) (n + 1) := by
  unfold fl_m
  exact mj_ext3 (fun _ => rfl) (fun c_ x_ => by simp only [gI_sI, gI_sF]; grind) (fun _ _ => rfl)
theorem fl_mo {B : mj_M} {c u : Int → Int} {n k i : Int} (h : ¬ (k = 123 ∨ k = 124 ∨ k = 117)) : gI (fl_m B c u n) k i = gI B k i := by
  unfold fl_m
  rw [gI_sI, if_neg (by omega), gI_sF, if_neg (by omega), gI_sF, if_neg (by omega)]
theorem ct_reach_f {B : mj_M} {c u : Int → Int} {n k a t l w q p : Int} (hF : FS B) (hC : CS B t l w q) (hpc : pcc l w q) (hp : 0 ≤ p ∧ p < 192) (hb : bf_ok (ho B l w) a c u n k) (hk : k ≤ n) (hr : ho B l w p → bf_re (ho B l w) a p) :
    mj_Cal G n_F_reach [mR (some 117), mR (some t), mI p] (fl_m B c u n) (fun r A' => r = none ∧ ∃ c' u' n', A' = fl_m B c' u' n' ∧ bf_ok (ho B l w) a c' u' n' k ∧ n ≤ n' ∧ (∀ q, c q = 1 → c' q = 1) ∧ (∀ i, 0 ≤ i → i < n → u' i = u i) ∧ (ho B l w p → c' p = 1)) mj_no := by
  have e1 : gI (fl_m B c u n) 117 2 = n := rfl
  have e2 : ∀ q, gI (fl_m B c u n) 124 q = c q := fun q => rfl
  have e3 : ∀ q, gI (fl_m B c u n) l q = gI B l q := fun q => fl_mo (by omega)
  have e4 : ∀ q, gI (fl_m B c u n) w q = gI B w q := fun q => fl_mo (by omega)
  have hn0 := bf_n hb
  refine (ct_reach (A := fl_m B c u n) hF hC hp fun hC => ?_).mono (fun r A' h => ?_) (fun _ _ h => h)
  · have := bf_n1 hb hp (show c p = 0 from hC.1)
    rw [e1]
    exact ⟨hn0.1, this⟩
  · obtain ⟨hr0, h⟩ := h
    refine ⟨hr0, ?_⟩
    rw [e1, e2, e3, e4] at h
    rcases h with ⟨hC, rfl⟩ | ⟨hC, rfl⟩
    · have h4 : ho B l w p := ⟨hp, hC.2⟩
      rw [fl_m1]
      refine ⟨_, _, _, rfl, bf_add hb hk hp hC.1 (hr h4), by omega, fun q hq => ?_, fun i i0 i1 => if_neg (by omega), fun _ => if_pos rfl⟩
      show (if q = p then 1 else c q) = 1
      split
      · rfl
      · exact hq
    · refine ⟨c, u, n, rfl, hb, Int.le_refl n, fun q hq => hq, fun i _ _ => rfl, fun h4 => ?_⟩
      rcases hb.2.1 p with h5 | h5
      · exact absurd ⟨h5, h4.2⟩ hC
      · exact h5
end CLS3
