/-! THE HOUSE, 7: one point alone, counts -/
theorem pc_ln_top {E I : Int → Int} {p : Int} {q : Nat} : ∀ n : Nat, q ≤ n → (∀ k : Int, q ≤ k → k < n → ¬ pc_cs E k p = true) → pc_ln E I n p = pc_ln E I q p
  | 0, h, _ => by rw [show q = 0 by omega]
  | n + 1, h, hk => by
    by_cases e : q = n + 1
    · rw [e]
    · rw [pc_ln, if_neg (hk n (by omega) (by omega)), pc_ln_top n (by omega) (fun k h0 h1 => hk k h0 (by omega))]
theorem c_pf_l {c : cT} (h : cr c) {p : Int} (hl : c_l c p ≠ -1) : c_pf c p = c_l c p := by
  refine pc_pf_0 _ fun k h0 h1 hk => ?_
  have h2 := (bf_op hk).2.2
  unfold pc_mk at h2
  by_cases h3 : c_L c p = true
  · rw [if_pos h3] at h2
    omega
  · exact hl ((c_lL h p).mpr h3)
section CLS7
variable {G : mj_G} {A : mj_M}
theorem ct_plain_p {m d x y : Int} (hH : HS A) (hD : DS A m) (hd : 0 ≤ d ∧ d < m) (hm : m ≤ 16) (hcr : cr (ch_c A d)) (hz : ∀ p, ¬ (0 ≤ p ∧ p < 192) → gI A 124 p = 0) (hp : mo_ip x y) (hln : c_l (ch_c A d) (16 * y + x) = -1) {l4 : Option mj_V} : mj_X G n_H_plainPoint (mj_Qm G n_H_plainPoint (fun r A' => r = some (mI (if mo_ip x y then c_pf (ch_c A d) (16 * y + x) else -1)) ∧ lh A A' ∧ (∀ p, ¬ (0 ≤ p ∧ p < 192) → gI A' 124 p = 0) ∧ ∀ c i, ¬ (117 ≤ c ∧ c ≤ 124) → gI A' c i = gI A c i) mj_no) A 0 0 64 [some (mR (some 100)), some (mR (some (1000 + 100 * d))), some (mI x), some (mI y), l4] [] := by
  have hpp : 0 ≤ (16 * y + x) ∧ (16 * y + x) < 192 := by unfold mo_ip at hp; omega
  have hN := hcr.p
  replace hN : 0 ≤ gI A (1000 + 100 * d) 9 ∧ gI A (1000 + 100 * d) 9 ≤ 6 := hN
  have e1 : ∀ c i, ¬ (120 ≤ c ∧ c ≤ 121) → gI (ol_m A d 120 121) c i = gI A c i := fun c i h => by
    unfold ol_m
    rw [gI_sF, if_neg (by omega), gI_sF, if_neg (by omega)]
  have hor : ∀ p, c_op (ch_c A d) p → 0 ≤ p ∧ p < 192 := fun p hp => hp.1
  have hC := hH.cs
  have hF := hH.fs
  refine mx_R fun hR => ?_
  refine mx_aload_n 0 d_H_plainPoint_64 rfl rfl ?_
  refine mx_getPs 15 d_H_plainPoint_65 f_H_55 rfl rfl (hH.o) (hH.p15) ?_
  refine mx_aload_n 1 d_H_plainPoint_68 rfl rfl ?_
  refine mx_callV (kc := 0) (ks := 0) (N := n_C_drawOutline) (as := [_]) (ci := 3) d_H_plainPoint_69 s_H_374 ⟨Nat.le_of_ble_eq_true rfl, Nat.le_of_ble_eq_true rfl⟩ rfl (mj_wt_8 (Nat.le_of_ble_eq_true rfl)) (hC.o) ⟨_, rfl, rfl⟩ (ct_drawOutline hH.cs (Or.inl ⟨rfl, rfl, rfl⟩) hD hd hcr) (fun r_69 A_69 h_69 => ?_) (fun E_69 A_x h_69 => ?_)
  rotate_left
  · exact h_69.elim
  obtain ⟨rfl, hA_69⟩ := h_69
  obtain rfl := hA_69.symm
  clear hA_69
  refine mx_R fun hR_1 => ?_
  refine mx_aload_n 0 d_H_plainPoint_72 rfl rfl ?_
  refine mx_getPs 16 d_H_plainPoint_73 f_H_62 rfl rfl (hH.o) (hH.p16) ?_
  refine mx_aload_n 0 d_H_plainPoint_76 rfl rfl ?_
  refine mx_getPs 15 d_H_plainPoint_77 f_H_55 rfl rfl (hH.o) (hH.p15) ?_
  refine mx_iload_n 2 d_H_plainPoint_80 rfl rfl ?_
  refine mx_iload_n 3 d_H_plainPoint_81 rfl rfl ?_
  refine mx_callS (kc := 0) (ks := 0) (N := n_H_placeOf) (as := [_, _]) d_H_plainPoint_82 s_H_139 ⟨Nat.le_of_ble_eq_true rfl, Nat.le_of_ble_eq_true rfl⟩ rfl (mj_wt_8 (Nat.le_of_ble_eq_true rfl)) (ct_placeOf) (fun r_82 A_82 h_82 => ?_) (fun E_82 A_x h_82 => ?_)
  rotate_left
  · exact h_82.elim
  obtain ⟨rfl, hA_82⟩ := h_82
  obtain rfl := hA_82.symm
  clear hA_82
  refine mx_R fun hR_2 => ?_
  rw [show y * 16 + x = (16 * y + x) by omega]
  refine mx_callV (kc := 0) (ks := 0) (N := n_F_spread) (as := [_, _]) (ci := 1) d_H_plainPoint_85 s_H_392 ⟨Nat.le_of_ble_eq_true rfl, Nat.le_of_ble_eq_true rfl⟩ rfl (mj_wt_8 (Nat.le_of_ble_eq_true rfl)) (hF.o) ⟨_, rfl, rfl⟩ (ct_spread (A := ol_m A d 120 121) hH.fs hH.cs (Or.inl ⟨rfl, rfl, rfl⟩) hpp (by intro p hp; rw [e1 124 p (by omega)]; exact hz p hp)) (fun r_85 A_85 h_85 => ?_) (fun E_85 A_x h_85 => ?_)
  rotate_left
  · exact h_85.elim
  obtain ⟨rfl, c, u, n, hA_85, hb, hcz⟩ := h_85
  obtain rfl := hA_85.symm
  clear hA_85
  refine mx_R fun hR_3 => ?_
  rw [ol_op (Or.inl ⟨rfl, rfl, rfl⟩ : pcc 120 121 122) hcr] at hb
  have hend := bf_end hb
  have e2 : ∀ k i, ¬ (117 ≤ k ∧ k ≤ 124) → gI (fl_m (ol_m A d 120 121) c u n) k i = gI A k i := fun k i h => by
    rw [fl_mo (by omega), e1 k i (by omega)]
  have e24 : ∀ i, gI (fl_m (ol_m A d 120 121) c u n) 124 i = c i := fun i => rfl
  have hlh : lh A (fl_m (ol_m A d 120 121) c u n) := ⟨fun _ => rfl, fun _ _ => rfl, fun k i hk => by
    by_cases h17 : k = 117
    · rw [h17]
      unfold fl_m
      rw [gI_sI, if_neg (by omega), gI_sF, if_neg (by omega), gI_sF, if_neg (by omega), e1 117 i (by omega)]
    · by_cases h118 : 117 ≤ k ∧ k ≤ 119
      · rw [fl_mo (by omega), e1 k i (by omega)]
      · exact e2 k i (by omega)⟩
  refine mx_aload_n 1 d_H_plainPoint_88 rfl rfl ?_
  refine mx_getI 9 d_H_plainPoint_89 f_H_131 rfl rfl (hD.o _ (by omega) (by omega)) ?_
  rw [e2 _ _ (by omega)]
  refine mx_iconst d_H_plainPoint_92 ?_
  refine mx_isub d_H_plainPoint_93 ?_
  refine mx_istore 4 d_H_plainPoint_94 (Nat.le_of_ble_eq_true rfl) ?_
  have hl : ∀ q : Nat, ((q : Int) ≤ gI A (1000 + 100 * d) 9 ∧ ∀ k, (q : Int) ≤ k → k < gI A (1000 + 100 * d) 9 → ¬ bf_re (c_op (ch_c A d)) (gI A ((1000 + 100 * d) + 10) k) (16 * y + x)) → mj_X G n_H_plainPoint (mj_Qm G n_H_plainPoint (fun r A' => r = some (mI (if mo_ip x y then c_pf (ch_c A d) (16 * y + x) else -1)) ∧ lh A A' ∧ (∀ p, ¬ (0 ≤ p ∧ p < 192) → gI A' 124 p = 0) ∧ ∀ c i, ¬ (117 ≤ c ∧ c ≤ 124) → gI A' c i = gI A c i) mj_no) (fl_m (ol_m A d 120 121) c u n) 0 0 96 [some (mR (some 100)), some (mR (some (1000 + 100 * d))), some (mI x), some (mI y), some (mI ((q : Int) - 1))] [] := by
    refine mj_loop _ (fun q => q) _ ?_
    intro q ⟨hq, hk⟩ ih
    refine mx_R fun hR => ?_
    refine mx_iload 4 d_H_plainPoint_96 rfl ?_
    refine mx_if_lt 134 d_H_plainPoint_98 rfl (by first | assumption | exact hR _ _ | exact r32_mk (by omega) (by omega)) (fun c_98 => ?_) (fun c_98 => ?_)
    · refine mx_iconst d_H_plainPoint_134 ?_
      refine mx_iret d_H_plainPoint_135 rfl ?_
      refine ⟨?_, hlh, hcz, e2⟩
      rw [if_pos hp, show c_pf (ch_c A d) (16 * y + x) = c_l (ch_c A d) (16 * y + x) from pc_pf_0 _ (fun k k0 k1 => hk k (by omega) (by
        have e : (c_p (ch_c A d)) = gI A (1000 + 100 * d) 9 := rfl
        omega)), hln]
    · have hS := hcr.S ((q : Int) - 1) (by omega) (by show (q : Int) - 1 < gI A (1000 + 100 * d) 9; omega)
      replace hS : 0 ≤ gI A ((1000 + 100 * d) + 10) ((q : Int) - 1) ∧ gI A ((1000 + 100 * d) + 10) ((q : Int) - 1) < 192 := hS
      refine mx_aload_n 0 d_H_plainPoint_101 rfl rfl ?_
      refine mx_getPs 16 d_H_plainPoint_102 f_H_62 rfl rfl (hH.o) (hH.p16) ?_
      refine mx_getPs 1 d_H_plainPoint_105 f_H_396 rfl rfl (hF.o) (hF.p1) ?_
      refine mx_aload_n 1 d_H_plainPoint_108 rfl rfl ?_
      refine mx_getPs 7 d_H_plainPoint_109 f_H_399 rfl rfl (hD.o _ (by omega) (by omega)) (hD.p7 _ (by omega) (by omega)) ?_
      refine mx_iload 4 d_H_plainPoint_112 rfl ?_
      refine mx_iald d_H_plainPoint_114 (hD.s7 _ (by omega) (by omega)) (by omega) (by omega) ?_
      rw [e2 _ _ (by omega)]
      refine mx_iald d_H_plainPoint_115 (hF.s1) (by omega) (by omega) ?_
      rw [e24]
      refine mx_iconst d_H_plainPoint_116 ?_
      refine mx_icmp_ne 128 d_H_plainPoint_117 rfl (by rw [← e24]; exact hR _ _) ((r32_mk (by omega) (by omega))) (fun c_117 => ?_) (fun c_117 => ?_)
      · refine mx_iinc 4 d_H_plainPoint_128 rfl (Nat.le_of_ble_eq_true rfl) ?_
        refine mx_goto 96 d_H_plainPoint_131 rfl ?_
        have h9 := ih (q - 1) ⟨by omega, fun k k0 k1 hb => by
          by_cases e : k = (q : Int) - 1
          · rw [e] at hb
            have h3 := (hend (gI A ((1000 + 100 * d) + 10) ((q : Int) - 1))).mpr (bf_symm hor hb)
            omega
          · exact hk k (by omega) k1 hb⟩ (by omega)
        rw [show ((q - 1 : Nat) : Int) - 1 = (q : Int) - 1 + -1 by omega] at h9
        exact h9
      · refine mx_aload_n 1 d_H_plainPoint_120 rfl rfl ?_
        refine mx_getPs 8 d_H_plainPoint_121 f_H_402 rfl rfl (hD.o _ (by omega) (by omega)) (hD.p8 _ (by omega) (by omega)) ?_
        refine mx_iload 4 d_H_plainPoint_124 rfl ?_
        refine mx_iald d_H_plainPoint_126 (hD.s8 _ (by omega) (by omega)) (by omega) (by omega) ?_
        rw [e2 _ _ (by omega)]
        refine mx_iret d_H_plainPoint_127 rfl ?_
        refine ⟨?_, hlh, hcz, e2⟩
        have h3 := bf_symm hor ((hend (gI A ((1000 + 100 * d) + 10) ((q : Int) - 1))).mp (by assumption))
        rw [if_pos hp, show c_pf (ch_c A d) (16 * y + x) = gI A ((1000 + 100 * d) + 11) ((q : Int) - 1) from pc_pf_1 (F := c_F (ch_c A d)) (S := c_S (ch_c A d)) (k := (q : Int) - 1) (by omega) h3 _ (by
          have e : (c_p (ch_c A d)) = gI A (1000 + 100 * d) 9 := rfl
          omega) (fun j j0 j1 => hk j (by omega) (by
          have e : (c_p (ch_c A d)) = gI A (1000 + 100 * d) 9 := rfl
          omega))]
  have h9 := hl (gI A (1000 + 100 * d) 9).toNat ⟨by omega, fun k k0 k1 => by omega⟩
  rw [show (((gI A (1000 + 100 * d) 9).toNat : Nat) : Int) - 1 = gI A (1000 + 100 * d) 9 - 1 by omega] at h9
  exact h9
theorem ct_plainPoint {m d x y : Int} (hH : HS A) (hD : DS A m) (hd : 0 ≤ d ∧ d < m) (hm : m ≤ 16) (hcr : cr (ch_c A d)) (hz : ∀ p, ¬ (0 ≤ p ∧ p < 192) → gI A 124 p = 0) (hx : r32 x) (hy : r32 y) : mj_Cal G n_H_plainPoint [mR (some 100), mR (some (1000 + 100 * d)), mI x, mI y] A (fun r A' => r = some (mI (if mo_ip x y then c_pf (ch_c A d) (16 * y + x) else -1)) ∧ lh A A' ∧ (∀ p, ¬ (0 ≤ p ∧ p < 192) → gI A' 124 p = 0) ∧ ∀ c i, ¬ (117 ≤ c ∧ c ≤ 124) → gI A' c i = gI A c i) mj_no := by
  refine mj_bodyK 0 0 [some (mR (some 100)), some (mR (some (1000 + 100 * d))), some (mI x), some (mI y), none] rfl rfl rfl (by decide +kernel) (Nat.le_of_ble_eq_true rfl) (by simp) rfl ?_
  have hn := hcr.n
  replace hn : 0 ≤ gI A (1000 + 100 * d) 6 ∧ gI A (1000 + 100 * d) 6 ≤ 8 := hn
  have en : c_n (ch_c A d) = gI A (1000 + 100 * d) 6 := rfl
  have hl : mo_ip x y → ∀ q : Nat, ((q : Int) ≤ gI A (1000 + 100 * d) 6 ∧ ∀ k : Int, q ≤ k → k < (c_n (ch_c A d)).toNat → ¬ pc_cs (c_E (ch_c A d)) k (16 * y + x) = true) → mj_X G n_H_plainPoint (mj_Qm G n_H_plainPoint (fun r A' => r = some (mI (if mo_ip x y then c_pf (ch_c A d) (16 * y + x) else -1)) ∧ lh A A' ∧ (∀ p, ¬ (0 ≤ p ∧ p < 192) → gI A' 124 p = 0) ∧ ∀ c i, ¬ (117 ≤ c ∧ c ≤ 124) → gI A' c i = gI A c i) mj_no) A 0 0 18 [some (mR (some 100)), some (mR (some (1000 + 100 * d))), some (mI x), some (mI y), some (mI ((q : Int) - 1))] [] := by
    intro hp
    refine mj_loop _ (fun q => q) _ ?_
    intro q ⟨hq, hk⟩ ih
    have htop := pc_ln_top (I := c_I (ch_c A d)) (c_n (ch_c A d)).toNat (by omega) hk
    refine mx_R fun hR => ?_
    refine mx_iload 4 d_H_plainPoint_18 rfl ?_
    refine mx_if_lt 55 d_H_plainPoint_20 rfl (by first | assumption | exact hR _ _ | exact r32_mk (by omega) (by omega)) (fun c_20 => ?_) (fun c_20 => ?_)
    · have e0 : q = 0 := by omega
      subst e0
      have hln : c_l (ch_c A d) (16 * y + x) = -1 := htop
      refine mx_R fun hR => ?_
      refine mx_aload_n 1 d_H_plainPoint_55 rfl rfl ?_
      refine mx_getI 9 d_H_plainPoint_56 f_H_131 rfl rfl (hD.o _ (by omega) (by omega)) ?_
      refine mx_if_ne 64 d_H_plainPoint_59 rfl (by first | assumption | exact hR _ _ | exact r32_mk (by omega) (by omega)) (fun c_59 => ?_) (fun c_59 => ?_)
      · exact ct_plain_p hH hD hd hm hcr hz hp hln
      · refine mx_iconst d_H_plainPoint_62 ?_
        refine mx_iret d_H_plainPoint_63 rfl ?_
        refine ⟨?_, lh_rf, hz, fun _ _ _ => rfl⟩
        rw [if_pos hp, show c_pf (ch_c A d) (16 * y + x) = c_l (ch_c A d) (16 * y + x) from pc_pf_0 _ (fun k k0 k1 => by
          have e : (c_p (ch_c A d)) = gI A (1000 + 100 * d) 9 := rfl
          omega), hln]
    · have hkk := hD.ks d hd.1 hd.2 ((q : Int) - 1) (by omega) (by omega)
      have hsr := ch_sr hcr (i := (q : Int) - 1) (by omega) (by omega)
      have hii := hcr.I ((q : Int) - 1) (by omega) (by omega)
      replace hii : 0 ≤ gI A (sk A d ((q : Int) - 1)) 5 ∧ gI A (sk A d ((q : Int) - 1)) 5 ≤ 7 := hii
      refine mx_aload_n 1 d_H_plainPoint_23 rfl rfl ?_
      refine mx_getPs 5 d_H_plainPoint_24 f_H_382 rfl rfl (hD.o _ (by omega) (by omega)) (hD.p5 _ (by omega) (by omega)) ?_
      refine mx_iload 4 d_H_plainPoint_27 rfl ?_
      refine mx_aalds d_H_plainPoint_29 (hD.s5 _ (by omega) (by omega)) (by decide) (by omega) (by omega) (hD.e5 d hd.1 hd.2 _ (by omega) (by omega)) ?_
      refine mx_iload_n 2 d_H_plainPoint_30 rfl rfl ?_
      refine mx_iload_n 3 d_H_plainPoint_31 rfl rfl ?_
      refine mx_callV (kc := 0) (ks := 0) (N := n_K_covers) (as := [_, _]) (ci := 5) d_H_plainPoint_32 s_H_386 ⟨Nat.le_of_ble_eq_true rfl, Nat.le_of_ble_eq_true rfl⟩ rfl (mj_wt_8 (Nat.le_of_ble_eq_true rfl)) (hkk) ⟨_, rfl, rfl⟩ (ct_covers hkk hsr ⟨hp.1, hp.2.1⟩ hp.2.2) (fun r_32 A_32 h_32 => ?_) (fun E_32 A_x h_32 => ?_)
      rotate_left
      · exact h_32.elim
      obtain ⟨rfl, hA_32⟩ := h_32
      obtain rfl := hA_32.symm
      clear hA_32
      refine mx_R fun hR_1 => ?_
      rw [← ch_cs]
      refine mx_if_eq 49 d_H_plainPoint_35 rfl (by first | assumption | exact hR_1 _ _ | exact hR _ _ | exact r32_mk (by omega) (by omega)) (fun c_35 => ?_) (fun c_35 => ?_)
      · refine mx_iinc 4 d_H_plainPoint_49 rfl (Nat.le_of_ble_eq_true rfl) ?_
        refine mx_goto 18 d_H_plainPoint_52 rfl ?_
        have hcs := mj_if0 c_35
        have h9 := ih (q - 1) ⟨by omega, fun k k0 k1 => by
          by_cases e : k = (q : Int) - 1
          · rw [e]; exact hcs
          · exact hk k (by omega) k1⟩ (by omega)
        rw [show ((q - 1 : Nat) : Int) - 1 = (q : Int) - 1 + -1 by omega] at h9
        exact h9
      · refine mx_aload_n 1 d_H_plainPoint_38 rfl rfl ?_
        refine mx_getPs 5 d_H_plainPoint_39 f_H_382 rfl rfl (hD.o _ (by omega) (by omega)) (hD.p5 _ (by omega) (by omega)) ?_
        refine mx_iload 4 d_H_plainPoint_42 rfl ?_
        refine mx_aalds d_H_plainPoint_44 (hD.s5 _ (by omega) (by omega)) (by decide) (by omega) (by omega) (hD.e5 d hd.1 hd.2 _ (by omega) (by omega)) ?_
        refine mx_getI 5 d_H_plainPoint_45 f_H_389 rfl rfl (hkk) ?_
        refine mx_iret d_H_plainPoint_48 rfl ?_
        have hcs := mj_if1 c_35
        have h4 : c_l (ch_c A d) (16 * y + x) = gI A (sk A d ((q : Int) - 1)) 5 := by
          show pc_ln (c_E (ch_c A d)) (c_I (ch_c A d)) (c_n (ch_c A d)).toNat (16 * y + x) = _
          rw [htop]
          obtain ⟨q', rfl⟩ : ∃ q', q = q' + 1 := ⟨q - 1, by omega⟩
          rw [show (((q' + 1 : Nat) : Int) - 1) = (q' : Int) by omega] at hcs ⊢
          rw [pc_ln, if_pos hcs]
        refine ⟨?_, lh_rf, hz, fun _ _ _ => rfl⟩
        rw [if_pos hp, c_pf_l hcr (by omega), h4]
  refine mx_R fun hR => ?_
  refine mx_iload_n 2 d_H_plainPoint_0 rfl rfl ?_
  refine mx_iload_n 3 d_H_plainPoint_1 rfl rfl ?_
  refine mx_callS (kc := 0) (ks := 0) (N := n_H_isPoint) (as := [_, _]) d_H_plainPoint_2 s_H_343 ⟨Nat.le_of_ble_eq_true rfl, Nat.le_of_ble_eq_true rfl⟩ rfl (mj_wt_8 (Nat.le_of_ble_eq_true rfl)) (ct_isPoint hx hy) (fun r_2 A_2 h_2 => ?_) (fun E_2 A_x h_2 => ?_)
  rotate_left
  · exact h_2.elim
  obtain ⟨rfl, hA_2⟩ := h_2
  obtain rfl := hA_2.symm
  clear hA_2
  refine mx_R fun hR_1 => ?_
  refine mx_if_ne 10 d_H_plainPoint_5 rfl (by first | assumption | exact hR_1 _ _ | exact hR _ _ | exact r32_mk (by omega) (by omega)) (fun c_5 => ?_) (fun c_5 => ?_)
  · refine mx_aload_n 1 d_H_plainPoint_10 rfl rfl ?_
    refine mx_getI 6 d_H_plainPoint_11 f_H_124 rfl rfl (hD.o _ (by omega) (by omega)) ?_
    refine mx_iconst d_H_plainPoint_14 ?_
    refine mx_isub d_H_plainPoint_15 ?_
    refine mx_istore 4 d_H_plainPoint_16 (Nat.le_of_ble_eq_true rfl) ?_
    have hp : mo_ip x y := mj_if1 (by assumption)
    have h9 := hl hp (gI A (1000 + 100 * d) 6).toNat ⟨by omega, fun k k0 k1 => by omega⟩
    rw [show (((gI A (1000 + 100 * d) 6).toNat : Nat) : Int) - 1 = gI A (1000 + 100 * d) 6 - 1 by omega] at h9
    exact h9
  · refine mx_iconst d_H_plainPoint_8 ?_
    refine mx_iret d_H_plainPoint_9 rfl ?_
    exact ⟨by rw [if_neg (mj_if0 c_5)], lh_rf, hz, fun _ _ _ => rfl⟩
theorem ct_countPainted {t l w q : Int} (hC : CS A t l w q) : mj_Cal G n_C_countPainted [mR (some t)] A (fun r A' => r = some (mI (mj_sum (fun p => if gI A q p ≠ -1 then 1 else 0) 192)) ∧ A' = A) mj_no := by
  refine mj_bodyK 0 0 [some (mR (some t)), none, none] rfl rfl rfl (by decide +kernel) (Nat.le_of_ble_eq_true rfl) (by simp) rfl ?_
  have hl : ∀ k : Nat, k ≤ 192 → mj_X G n_C_countPainted (mj_Qm G n_C_countPainted (fun r A' => r = some (mI (mj_sum (fun p => if gI A q p ≠ -1 then 1 else 0) 192)) ∧ A' = A) mj_no) A 0 0 4 [some (mR (some t)), some (mI (mj_sum (fun p => if gI A q p ≠ -1 then 1 else 0) k)), some (mI (k : Int))] [] := by
    refine mj_loop _ (fun k => 193 - k) _ ?_
    intro k hk ih
    refine mx_R fun hR => ?_
    refine mx_iload_n 2 d_C_countPainted_4 rfl rfl ?_
    refine mx_sipush d_C_countPainted_5 (by decide) ?_
    refine mx_icmp_ge 35 d_C_countPainted_8 rfl (by first | assumption | exact hR _ _ | exact r32_mk (by omega) (by omega)) (by first | assumption | exact hR _ _ | exact r32_mk (by omega) (by omega)) (fun c_8 => ?_) (fun c_8 => ?_)
    · refine mx_iload_n 1 d_C_countPainted_35 rfl rfl ?_
      refine mx_iret d_C_countPainted_36 rfl ?_
      rw [show k = 192 by omega]
      exact ⟨rfl, rfl⟩
    · refine mx_iload_n 1 d_C_countPainted_11 rfl rfl ?_
      refine mj_cutB (gI A q k ≠ -1) 27 ?_ (fun hJ_12 => ?_)
      · refine mx_iadd d_C_countPainted_27 ?_
        refine mx_istore_n 1 d_C_countPainted_28 rfl (Nat.le_of_ble_eq_true rfl) ?_
        refine mx_iinc 2 d_C_countPainted_29 rfl (Nat.le_of_ble_eq_true rfl) ?_
        refine mx_goto 4 d_C_countPainted_32 rfl ?_
        have h9 := ih (k + 1) (by omega) (by omega)
        rw [show ((k + 1 : Nat) : Int) = (k : Int) + 1 by omega] at h9
        exact h9
      · refine mx_aload_n 0 d_C_countPainted_12 rfl rfl ?_
        refine mx_getPs 2 d_C_countPainted_13 f_C_18 rfl rfl (hC.o) (hC.p2) ?_
        refine mx_iload_n 2 d_C_countPainted_16 rfl rfl ?_
        refine mx_iald d_C_countPainted_17 (hC.s2) (by omega) (by omega) ?_
        refine mx_iconst d_C_countPainted_18 ?_
        refine mx_icmp_ne 26 d_C_countPainted_19 rfl (by first | assumption | exact hR _ _ | exact r32_mk (by omega) (by omega)) (by first | assumption | exact hR _ _ | exact r32_mk (by omega) (by omega)) (fun c_19 => ?_) (fun c_19 => ?_)
        · refine mx_iconst d_C_countPainted_26 ?_
          first | exact mj_j1 hJ_12 (by omega) | exact mj_j0 hJ_12 (by omega)
        · refine mx_iconst d_C_countPainted_22 ?_
          refine mx_goto 27 d_C_countPainted_23 rfl ?_
          first | exact mj_j1 hJ_12 (by omega) | exact mj_j0 hJ_12 (by omega)
  refine mx_R fun hR => ?_
  refine mx_iconst d_C_countPainted_0 ?_
  refine mx_istore_n 1 d_C_countPainted_1 rfl (Nat.le_of_ble_eq_true rfl) ?_
  refine mx_iconst d_C_countPainted_2 ?_
  refine mx_istore_n 2 d_C_countPainted_3 rfl (Nat.le_of_ble_eq_true rfl) ?_
  exact hl 0 (by omega)
theorem ct_countLines {t l w q : Int} (hC : CS A t l w q) : mj_Cal G n_C_countLines [mR (some t)] A (fun r A' => r = some (mI (mj_sum (fun p => if gI A l p ≠ -1 then 1 else 0) 192)) ∧ A' = A) mj_no := by
  refine mj_bodyK 0 0 [some (mR (some t)), none, none] rfl rfl rfl (by decide +kernel) (Nat.le_of_ble_eq_true rfl) (by simp) rfl ?_
  have hl : ∀ k : Nat, k ≤ 192 → mj_X G n_C_countLines (mj_Qm G n_C_countLines (fun r A' => r = some (mI (mj_sum (fun p => if gI A l p ≠ -1 then 1 else 0) 192)) ∧ A' = A) mj_no) A 0 0 4 [some (mR (some t)), some (mI (mj_sum (fun p => if gI A l p ≠ -1 then 1 else 0) k)), some (mI (k : Int))] [] := by
    refine mj_loop _ (fun k => 193 - k) _ ?_
    intro k hk ih
    refine mx_R fun hR => ?_
    refine mx_iload_n 2 d_C_countLines_4 rfl rfl ?_
    refine mx_sipush d_C_countLines_5 (by decide) ?_
    refine mx_icmp_ge 35 d_C_countLines_8 rfl (by first | assumption | exact hR _ _ | exact r32_mk (by omega) (by omega)) (by first | assumption | exact hR _ _ | exact r32_mk (by omega) (by omega)) (fun c_8 => ?_) (fun c_8 => ?_)
    · refine mx_iload_n 1 d_C_countLines_35 rfl rfl ?_
      refine mx_iret d_C_countLines_36 rfl ?_
      rw [show k = 192 by omega]
      exact ⟨rfl, rfl⟩
    · refine mx_iload_n 1 d_C_countLines_11 rfl rfl ?_
      refine mj_cutB (gI A l k ≠ -1) 27 ?_ (fun hJ_12 => ?_)
      · refine mx_iadd d_C_countLines_27 ?_
        refine mx_istore_n 1 d_C_countLines_28 rfl (Nat.le_of_ble_eq_true rfl) ?_
        refine mx_iinc 2 d_C_countLines_29 rfl (Nat.le_of_ble_eq_true rfl) ?_
        refine mx_goto 4 d_C_countLines_32 rfl ?_
        have h9 := ih (k + 1) (by omega) (by omega)
        rw [show ((k + 1 : Nat) : Int) = (k : Int) + 1 by omega] at h9
        exact h9
      · refine mx_aload_n 0 d_C_countLines_12 rfl rfl ?_
        refine mx_getPs 0 d_C_countLines_13 f_C_9 rfl rfl (hC.o) (hC.p0) ?_
        refine mx_iload_n 2 d_C_countLines_16 rfl rfl ?_
        refine mx_iald d_C_countLines_17 (hC.s0) (by omega) (by omega) ?_
        refine mx_iconst d_C_countLines_18 ?_
        refine mx_icmp_ne 26 d_C_countLines_19 rfl (by first | assumption | exact hR _ _ | exact r32_mk (by omega) (by omega)) (by first | assumption | exact hR _ _ | exact r32_mk (by omega) (by omega)) (fun c_19 => ?_) (fun c_19 => ?_)
        · refine mx_iconst d_C_countLines_26 ?_
          first | exact mj_j1 hJ_12 (by omega) | exact mj_j0 hJ_12 (by omega)
        · refine mx_iconst d_C_countLines_22 ?_
          refine mx_goto 27 d_C_countLines_23 rfl ?_
          first | exact mj_j1 hJ_12 (by omega) | exact mj_j0 hJ_12 (by omega)
  refine mx_R fun hR => ?_
  refine mx_iconst d_C_countLines_0 ?_
  refine mx_istore_n 1 d_C_countLines_1 rfl (Nat.le_of_ble_eq_true rfl) ?_
  refine mx_iconst d_C_countLines_2 ?_
  refine mx_istore_n 2 d_C_countLines_3 rfl (Nat.le_of_ble_eq_true rfl) ?_
  exact hl 0 (by omega)
theorem ct_countWalls {t l w q : Int} (hC : CS A t l w q) : mj_Cal G n_C_countWalls [mR (some t)] A (fun r A' => r = some (mI (mj_sum (fun p => gI A w p) 192)) ∧ A' = A) mj_no := by
  refine mj_bodyK 0 0 [some (mR (some t)), none, none] rfl rfl rfl (by decide +kernel) (Nat.le_of_ble_eq_true rfl) (by simp) rfl ?_
  have hl : ∀ k : Nat, k ≤ 192 → mj_X G n_C_countWalls (mj_Qm G n_C_countWalls (fun r A' => r = some (mI (mj_sum (fun p => gI A w p) 192)) ∧ A' = A) mj_no) A 0 0 4 [some (mR (some t)), some (mI (mj_sum (fun p => gI A w p) k)), some (mI (k : Int))] [] := by
    refine mj_loop _ (fun k => 193 - k) _ ?_
    intro k hk ih
    refine mx_R fun hR => ?_
    refine mx_iload_n 2 d_C_countWalls_4 rfl rfl ?_
    refine mx_sipush d_C_countWalls_5 (by decide) ?_
    refine mx_icmp_ge 26 d_C_countWalls_8 rfl (by first | assumption | exact hR _ _ | exact r32_mk (by omega) (by omega)) (by first | assumption | exact hR _ _ | exact r32_mk (by omega) (by omega)) (fun c_8 => ?_) (fun c_8 => ?_)
    · refine mx_iload_n 1 d_C_countWalls_26 rfl rfl ?_
      refine mx_iret d_C_countWalls_27 rfl ?_
      rw [show k = 192 by omega]
      exact ⟨rfl, rfl⟩
    · refine mx_iload_n 1 d_C_countWalls_11 rfl rfl ?_
      refine mx_aload_n 0 d_C_countWalls_12 rfl rfl ?_
      refine mx_getPs 1 d_C_countWalls_13 f_C_15 rfl rfl (hC.o) (hC.p1) ?_
      refine mx_iload_n 2 d_C_countWalls_16 rfl rfl ?_
      refine mx_iald d_C_countWalls_17 (hC.s1) (by omega) (by omega) ?_
      refine mx_iadd d_C_countWalls_18 ?_
      refine mx_istore_n 1 d_C_countWalls_19 rfl (Nat.le_of_ble_eq_true rfl) ?_
      refine mx_iinc 2 d_C_countWalls_20 rfl (Nat.le_of_ble_eq_true rfl) ?_
      refine mx_goto 4 d_C_countWalls_23 rfl ?_
      have h9 := ih (k + 1) (by omega) (by omega)
      rw [show ((k + 1 : Nat) : Int) = (k : Int) + 1 by omega] at h9
      exact h9
  refine mx_R fun hR => ?_
  refine mx_iconst d_C_countWalls_0 ?_
  refine mx_istore_n 1 d_C_countWalls_1 rfl (Nat.le_of_ble_eq_true rfl) ?_
  refine mx_iconst d_C_countWalls_2 ?_
  refine mx_istore_n 2 d_C_countWalls_3 rfl (Nat.le_of_ble_eq_true rfl) ?_
  exact hl 0 (by omega)
end CLS7
