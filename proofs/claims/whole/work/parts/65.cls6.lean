/-! THE HOUSE, 6: a drawing's picture; one point alone -/
section CLS6
variable {G : mj_G} {A : mj_M}
/-- the picture is laid -/
def pv (A : mj_M) (d : Int) : Prop := ∀ p, 0 ≤ p → p < 192 → gI A ((1000 + 100 * d) + 13) p = c_l (ch_c A d) p ∧ gI A ((1000 + 100 * d) + 14) p = (if c_mk (ch_c A d) p = 2 then 1 else 0) ∧ gI A ((1000 + 100 * d) + 15) p = c_pf (ch_c A d) p
/-- what a call that asks may change: what is composed, the sketch, the fill, kept pictures -/
def lh (A : mj_M) (A' : mj_M) : Prop := (∀ c, gS A' c = gS A c) ∧ (∀ c i, gP A' c i = gP A c i) ∧ (∀ c i, ¬ (c = 115 ∨ (120 ≤ c ∧ c ≤ 124) ∨ (c = 117 ∧ i = 2) ∨ (1000 ≤ c ∧ c < 2600 ∧ (13 ≤ c % 100 ∧ c % 100 ≤ 15 ∨ c % 100 = 0 ∧ i = 13))) → gI A' c i = gI A c i)
theorem lh.S {A : mj_M} {A' : mj_M} (h : lh A A') : ∀ c, gS A' c = gS A c := h.1
theorem lh.P {A : mj_M} {A' : mj_M} (h : lh A A') : ∀ c i, gP A' c i = gP A c i := h.2.1
theorem lh.I {A : mj_M} {A' : mj_M} (h : lh A A') : ∀ c i, ¬ (c = 115 ∨ (120 ≤ c ∧ c ≤ 124) ∨ (c = 117 ∧ i = 2) ∨ (1000 ≤ c ∧ c < 2600 ∧ (13 ≤ c % 100 ∧ c % 100 ≤ 15 ∨ c % 100 = 0 ∧ i = 13))) → gI A' c i = gI A c i := h.2.2
theorem lh_rf : lh A A := ⟨fun _ => rfl, fun _ _ => rfl, fun _ _ _ => rfl⟩
theorem lh_tr {A' A'' : mj_M} (h : lh A A') (k : lh A' A'') : lh A A'' := ⟨fun c => (k.S c).trans (h.S c), fun c i => (k.P c i).trans (h.P c i), fun c i h1 => (k.I c i h1).trans (h.I c i h1)⟩
theorem sk_e {A' : mj_M} {d : Int} (hP : ∀ c i, gP A' c i = gP A c i) (i : Int) : sk A' d i = sk A d i := by
  unfold sk
  rw [hP]
theorem ch_ce {A' : mj_M} {d m : Int} (hD : DS A m) (hd : 0 ≤ d ∧ d < m) (hcr : cr (ch_c A d)) (hP : ∀ c i, gP A' c i = gP A c i) (h : ∀ c i, (1000 + 100 * d) ≤ c → c ≤ (1000 + 100 * d) + 11 → ¬ (c = (1000 + 100 * d) ∧ i = 13) → gI A' c i = gI A c i) : ce (ch_c A d) (ch_c A' d) := by
  have hn := hcr.n
  have ek := fun i i0 i1 => hD.ek d hd.1 hd.2 i i0 i1
  refine ce_mk (h (1000 + 100 * d) 6 (by omega) (by omega) (by omega)).symm (fun i h0 h1 => ?_) (fun i h0 h1 => ?_) (fun q h0 h1 => ?_) (h (1000 + 100 * d) 9 (by omega) (by omega) (by omega)).symm (fun i h0 h1 => ?_) (fun i h0 h1 => ?_) (h (1000 + 100 * d) 10 (by omega) (by omega) (by omega)).symm
  · have k := ek i h0 (by omega)
    show gI A (sk A d i) 0 = gI A' (sk A' d i) 0
    rw [sk_e hP, h _ _ (by omega) (by omega) (by omega)]
  · have k := ek i h0 (by omega)
    show gI A (sk A d i) 5 = gI A' (sk A' d i) 5
    rw [sk_e hP, h _ _ (by omega) (by omega) (by omega)]
  · have k := ek (q / 4) (by omega) (by omega)
    show gI A (sk A d (q / 4)) (q % 4 + 1) = gI A' (sk A' d (q / 4)) (q % 4 + 1)
    rw [sk_e hP, h _ _ (by omega) (by omega) (by omega)]
  · exact (h ((1000 + 100 * d) + 10) i (by omega) (by omega) (by omega)).symm
  · exact (h ((1000 + 100 * d) + 11) i (by omega) (by omega) (by omega)).symm
theorem pv_e {A' : mj_M} {d : Int} (hc : ce (ch_c A d) (ch_c A' d)) (h : ∀ c i, (1000 + 100 * d) + 13 ≤ c → c ≤ (1000 + 100 * d) + 15 → gI A' c i = gI A c i) (k : pv A d) : pv A' d := fun p p0 p1 => by
  rw [h ((1000 + 100 * d) + 13) p (by omega) (by omega), h ((1000 + 100 * d) + 14) p (by omega) (by omega), h ((1000 + 100 * d) + 15) p (by omega) (by omega), ← c_l_e hc, ← c_mk_e hc, ← c_pf_e hc]
  exact k p p0 p1
theorem lh_ce {A' : mj_M} {d m : Int} (h : lh A A') (hD : DS A m) (hd : 0 ≤ d ∧ d < m) (hcr : cr (ch_c A d)) : ce (ch_c A d) (ch_c A' d) := ch_ce hD hd hcr h.P (fun c i h0 h1 h2 => h.I c i (by omega))
theorem c_lL {c : cT} (h : cr c) (p : Int) : c_l c p = -1 ↔ ¬ c_L c p = true := by
  have hn := h.n
  have k := ln_cv (E := c_E c) (I := c_I c) (p := p) (c_n c).toNat (fun i i0 i1 => (h.I i i0 (by omega)).1)
  constructor
  · intro e h2
    exact (k.mpr h2) e
  · intro h2
    by_cases e : c_l c p = -1
    · exact e
    · exact absurd (k.mp e) h2
theorem ol_op {d l w q : Int} (hpc : pcc l w q) (hcr : cr (ch_c A d)) : ho (ol_m A d l w) l w = c_op (ch_c A d) := by
  funext p
  apply propext
  have hl := c_lL hcr p
  show ((0 ≤ p ∧ p < 192) ∧ gI (ol_m A d l w) l p = -1 ∧ gI (ol_m A d l w) w p = 0) ↔ (0 ≤ p ∧ p < 192) ∧ c_mk (ch_c A d) p = 0
  unfold ol_m
  rw [gI_sF, if_neg (by omega), gI_sF, if_pos rfl, gI_sF, if_pos rfl]
  by_cases hp : 0 ≤ p ∧ p < 192
  · rw [if_pos hp, if_pos hp, hl]
    unfold c_mk pc_mk
    by_cases h1 : c_L (ch_c A d) p = true
    · rw [if_pos h1]
      constructor
      · intro h; exact absurd h1 h.2.1
      · intro h; exact absurd h.2 (by omega)
    · rw [if_neg h1]
      by_cases h2 : c_c (ch_c A d) ≠ 0 ∧ pc_gp (c_L (ch_c A d)) p = true
      · rw [if_pos h2]
        constructor
        · intro h; exact absurd h.2.2 (by decide)
        · intro h; exact absurd h.2 (by omega)
      · rw [if_neg h2]
        exact ⟨fun h => ⟨h.1, rfl⟩, fun h => ⟨h.1, h1, rfl⟩⟩
  · exact ⟨fun h => absurd h.1 hp, fun h => absurd h.1 hp⟩
theorem ct_pictureOf {m d : Int} (hH : HS A) (hD : DS A m) (hd : 0 ≤ d ∧ d < m) (hm : m ≤ 16) (hcr : cr (ch_c A d)) (hz : ∀ p, ¬ (0 ≤ p ∧ p < 192) → gI A 124 p = 0) (hv : gI A (1000 + 100 * d) 13 = 0 ∨ (gI A (1000 + 100 * d) 13 = 1 ∧ pv A d)) : mj_Cal G n_H_pictureOf [mR (some 100), mR (some (1000 + 100 * d))] A (fun r A' => r = some (mR (some ((1000 + 100 * d) + 12))) ∧ lh A A' ∧ pv A' d ∧ gI A' (1000 + 100 * d) 13 = 1 ∧ (∀ p, ¬ (0 ≤ p ∧ p < 192) → gI A' 124 p = 0) ∧ ∀ c i, ¬ ((1000 + 100 * d) ≤ c ∧ c ≤ (1000 + 100 * d) + 15 ∨ 117 ≤ c ∧ c ≤ 124) → gI A' c i = gI A c i) mj_no := by
  refine mj_bodyK 0 0 [some (mR (some 100)), some (mR (some (1000 + 100 * d)))] rfl rfl rfl (by decide +kernel) (Nat.le_of_ble_eq_true rfl) (by simp) rfl ?_
  have hC := hD.cs d hd.1 hd.2
  have hpc : pcc ((1000 + 100 * d) + 13) ((1000 + 100 * d) + 14) ((1000 + 100 * d) + 15) := Or.inr ⟨by omega, by omega, by omega, by omega⟩
  have e13 : ∀ c i, ¬ ((1000 + 100 * d) + 13 ≤ c ∧ c ≤ (1000 + 100 * d) + 15) → gI (ol_m A d ((1000 + 100 * d) + 13) ((1000 + 100 * d) + 14)) c i = gI A c i := fun c i h => by
    unfold ol_m
    rw [gI_sF, if_neg (by omega), gI_sF, if_neg (by omega)]
  have hce : ce (ch_c A d) (ch_c (ol_m A d ((1000 + 100 * d) + 13) ((1000 + 100 * d) + 14)) d) := ch_ce hD hd hcr (fun _ _ => rfl) (fun c i h0 h1 _ => e13 c i (by omega))
  refine mx_R fun hR => ?_
  refine mx_aload_n 1 d_H_pictureOf_0 rfl rfl ?_
  refine mx_getI 13 d_H_pictureOf_1 f_H_365 rfl rfl (hD.o _ (by omega) (by omega)) ?_
  refine mx_if_ne 32 d_H_pictureOf_4 rfl (by first | assumption | exact hR _ _ | exact r32_mk (by omega) (by omega)) (fun c_4 => ?_) (fun c_4 => ?_)
  · first
    | (have h1 : gI A (1000 + 100 * d) 13 = 1 ∧ pv A d := by
         rcases hv with h | h
         · exact absurd h (by assumption)
         · exact h
       refine mx_R fun hR => ?_
       refine mx_aload_n 1 d_H_pictureOf_32 rfl rfl ?_
       refine mx_getPs 12 d_H_pictureOf_33 f_H_371 rfl rfl (hD.o _ (by omega) (by omega)) (hD.p12 _ (by omega) (by omega)) ?_
       refine mx_aret d_H_pictureOf_36 rfl ?_
       exact ⟨rfl, lh_rf, h1.2, h1.1, hz, fun _ _ _ => rfl⟩)
    | (skip
       refine mx_R fun hR => ?_
       refine mx_aload_n 1 d_H_pictureOf_32 rfl rfl ?_
       refine mx_getPs 12 d_H_pictureOf_33 f_H_371 rfl rfl (hD.o _ (by omega) (by omega)) (hD.p12 _ (by omega) (by omega)) ?_
       refine mx_aret d_H_pictureOf_36 rfl ?_
       exact hfin)
  · refine mx_aload_n 1 d_H_pictureOf_7 rfl rfl ?_
    refine mx_getPs 12 d_H_pictureOf_8 f_H_371 rfl rfl (hD.o _ (by omega) (by omega)) (hD.p12 _ (by omega) (by omega)) ?_
    refine mx_aload_n 1 d_H_pictureOf_11 rfl rfl ?_
    refine mx_callV (kc := 0) (ks := 0) (N := n_C_drawOutline) (as := [_]) (ci := 3) d_H_pictureOf_12 s_H_374 ⟨Nat.le_of_ble_eq_true rfl, Nat.le_of_ble_eq_true rfl⟩ rfl (mj_wt_8 (Nat.le_of_ble_eq_true rfl)) (hC.o) ⟨_, rfl, rfl⟩ (ct_drawOutline hC hpc hD hd hcr) (fun r_12 A_12 h_12 => ?_) (fun E_12 A_x h_12 => ?_)
    rotate_left
    · exact h_12.elim
    obtain ⟨rfl, hA_12⟩ := h_12
    obtain rfl := hA_12.symm
    clear hA_12
    refine mx_R fun hR_1 => ?_
    refine mx_aload_n 1 d_H_pictureOf_15 rfl rfl ?_
    refine mx_getPs 12 d_H_pictureOf_16 f_H_371 rfl rfl (hD.o _ (by omega) (by omega)) (hD.p12 _ (by omega) (by omega)) ?_
    refine mx_aload_n 1 d_H_pictureOf_19 rfl rfl ?_
    refine mx_aload_n 0 d_H_pictureOf_20 rfl rfl ?_
    refine mx_getPs 16 d_H_pictureOf_21 f_H_62 rfl rfl (hH.o) (hH.p16) ?_
    refine mx_callV (kc := 0) (ks := 0) (N := n_C_paintAll) (as := [_, _]) (ci := 3) d_H_pictureOf_24 s_H_378 ⟨Nat.le_of_ble_eq_true rfl, Nat.le_of_ble_eq_true rfl⟩ rfl (mj_wt_8 (Nat.le_of_ble_eq_true rfl)) (hC.o) ⟨_, rfl, rfl⟩ (ct_paintAll (A := ol_m A d ((1000 + 100 * d) + 13) ((1000 + 100 * d) + 14)) hH.fs hC hpc hD hd (cr_e hce hcr) ((ol_op hpc hcr).trans (c_op_e hce)) (by intro p hp; rw [e13 124 p (by omega)]; exact hz p hp)) (fun r_24 A_24 h_24 => ?_) (fun E_24 A_x h_24 => ?_)
    rotate_left
    · exact h_24.elim
    obtain ⟨rfl, h, c, u, n, hA_24, hdn, hcz⟩ := h_24
    obtain rfl := hA_24.symm
    clear hA_24
    refine mx_R fun hR_2 => ?_
    refine mx_aload_n 1 d_H_pictureOf_27 rfl rfl ?_
    refine mx_iconst d_H_pictureOf_28 ?_
    refine mx_putI 13 d_H_pictureOf_29 f_H_365 rfl (hD.o _ (by omega) (by omega)) (Or.inl rfl) (Or.inr ⟨rfl, by first | exact Or.inl rfl | exact Or.inr rfl | omega⟩) (by first | assumption | exact hR_2 _ _ | exact hR_1 _ _ | exact hR _ _ | exact r32_mk (by omega) (by omega)) ?_
    refine mx_R fun hR_3 => ?_
    have hfin : (fun r A' => r = some (mR (some ((1000 + 100 * d) + 12))) ∧ lh A A' ∧ pv A' d ∧ gI A' (1000 + 100 * d) 13 = 1 ∧ (∀ p, ¬ (0 ≤ p ∧ p < 192) → gI A' 124 p = 0) ∧ ∀ c i, ¬ ((1000 + 100 * d) ≤ c ∧ c ≤ (1000 + 100 * d) + 15 ∨ 117 ≤ c ∧ c ≤ 124) → gI A' c i = gI A c i) (some (mR (some ((1000 + 100 * d) + 12)))) (sI (fl_m (sF (ol_m A d ((1000 + 100 * d) + 13) ((1000 + 100 * d) + 14)) ((1000 + 100 * d) + 15) h) c u n) (1000 + 100 * d) 13 1) := by
      have e1 : ∀ k i, ¬ ((1000 + 100 * d) + 13 ≤ k ∧ k ≤ (1000 + 100 * d) + 15) → ¬ (k = 123 ∨ k = 124 ∨ k = 117) → ¬ (k = (1000 + 100 * d) ∧ i = 13) → gI (sI (fl_m (sF (ol_m A d ((1000 + 100 * d) + 13) ((1000 + 100 * d) + 14)) ((1000 + 100 * d) + 15) h) c u n) (1000 + 100 * d) 13 1) k i = gI A k i := fun k i h1 h2 h3 => by
        rw [gI_sI, if_neg h3, fl_mo (by omega), gI_sF, if_neg (by omega), e13 k i h1]
      have e17 : ∀ i, i ≠ 2 → gI (sI (fl_m (sF (ol_m A d ((1000 + 100 * d) + 13) ((1000 + 100 * d) + 14)) ((1000 + 100 * d) + 15) h) c u n) (1000 + 100 * d) 13 1) 117 i = gI A 117 i := fun i hi => by
        rw [gI_sI, if_neg (by omega)]
        unfold fl_m
        rw [gI_sI, if_neg (by omega), gI_sF, if_neg (by omega), gI_sF, if_neg (by omega), gI_sF, if_neg (by omega), e13 117 i (by omega)]
      have hce2 : ce (ch_c A d) (ch_c (sI (fl_m (sF (ol_m A d ((1000 + 100 * d) + 13) ((1000 + 100 * d) + 14)) ((1000 + 100 * d) + 15) h) c u n) (1000 + 100 * d) 13 1) d) := ch_ce hD hd hcr (fun _ _ => rfl) (fun k i h0 h1 h2 => e1 k i (by omega) (by omega) h2)
      have hp9 := hcr.p
      refine ⟨rfl, ⟨fun _ => rfl, fun _ _ => rfl, fun k i hk => ?_⟩, fun p p0 p1 => ?_, by rw [gI_sI, if_pos ⟨rfl, rfl⟩], fun p hp => ?_, fun k i hk => e1 k i (by omega) (by omega) (by omega)⟩
      · by_cases h17 : k = 117
        · rw [h17]; exact e17 i (by omega)
        · exact e1 k i (by omega) (by omega) (by omega)
      · rw [← c_l_e hce2, ← c_mk_e hce2, ← c_pf_e hce2]
        refine ⟨?_, ?_, ?_⟩
        · rw [gI_sI, if_neg (by omega), fl_mo (by omega), gI_sF, if_neg (by omega)]
          unfold ol_m
          rw [gI_sF, if_neg (by omega), gI_sF, if_pos rfl, if_pos ⟨p0, p1⟩]
        · rw [gI_sI, if_neg (by omega), fl_mo (by omega), gI_sF, if_neg (by omega)]
          unfold ol_m
          rw [gI_sF, if_pos rfl, if_pos ⟨p0, p1⟩]
        · have hq := dn_pf (p := p) (by rw [e13 (1000 + 100 * d) 9 (by omega)]; exact hp9.1) hdn ⟨p0, p1⟩
          rw [gI_sI, if_neg (by omega), fl_mo (by omega), gI_sF, if_pos rfl, hq, c_pf_e hce]
          refine pc_pf_c ?_ _ (fun i i0 i1 => ⟨rfl, rfl⟩)
          show gI (ol_m A d ((1000 + 100 * d) + 13) ((1000 + 100 * d) + 14)) ((1000 + 100 * d) + 13) p = _
          rw [← c_l_e hce]
          unfold ol_m
          rw [gI_sF, if_neg (by omega), gI_sF, if_pos rfl, if_pos ⟨p0, p1⟩]
      · rw [gI_sI, if_neg (by omega)]
        exact hcz p hp
    first
    | (have h1 : gI A (1000 + 100 * d) 13 = 1 ∧ pv A d := by
         rcases hv with h | h
         · exact absurd h (by assumption)
         · exact h
       refine mx_R fun hR => ?_
       refine mx_aload_n 1 d_H_pictureOf_32 rfl rfl ?_
       refine mx_getPs 12 d_H_pictureOf_33 f_H_371 rfl rfl (hD.o _ (by omega) (by omega)) (hD.p12 _ (by omega) (by omega)) ?_
       refine mx_aret d_H_pictureOf_36 rfl ?_
       exact ⟨rfl, lh_rf, h1.2, h1.1, hz, fun _ _ _ => rfl⟩)
    | (skip
       refine mx_R fun hR => ?_
       refine mx_aload_n 1 d_H_pictureOf_32 rfl rfl ?_
       refine mx_getPs 12 d_H_pictureOf_33 f_H_371 rfl rfl (hD.o _ (by omega) (by omega)) (hD.p12 _ (by omega) (by omega)) ?_
       refine mx_aret d_H_pictureOf_36 rfl ?_
       exact hfin)
end CLS6
