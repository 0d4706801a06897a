/-! THE HOUSE, 18: seen anew, the film, hours, shots -/
section CLSJ
variable {G : mj_G} {A : mj_M}
theorem ct_anew_l {C : Int → cT} {s f x y : Int} (hj : JJ C A) (h1 : 0 ≤ s ∧ s < gI A 200 23) (h3 : 0 ≤ f ∧ f < gI A 224 s) (h4 : mo_ip x y) {PX : String → mj_M → Prop} :
    ∀ q : Nat × mj_M × Option mj_V × Option mj_V × Option mj_V × Option mj_V, (q.1 ≤ 4 ∧ cq C A q.2.1 ∧ mo_se (vi C A) s f x y = mo_sl (vi C A) s f x y q.1) → mj_X G n_H_seenAnew (mj_Qm G n_H_seenAnew (fun r A' => ((0 ≤ s ∧ s < gI A 200 23 ∧ 0 ≤ f ∧ f < gI A 224 s) ∧ (0 ≤ x ∧ x < 16 ∧ 0 ≤ y ∧ y < 12)) ∧ r = some (mI (mo_se (vi C A) s f x y)) ∧ cq C A A') PX) q.2.1 0 0 28 [some (mR (some 100)), some (mI s), some (mI f), some (mI x), some (mI y), some (mR (some (4000 + 100 * s))), some (mI ((q.1 : Int) - 1)), q.2.2.1, q.2.2.2.1, q.2.2.2.2.1, q.2.2.2.2.2] [] := by
  have hns := hj.m.g.ns
  have hnd := hj.m.g.nd
  have hfr := hj.m.g.fr s h1.1 h1.2
  have hpal := hj.m.g.pal s h1.1 h1.2
  have hip := h4
  unfold mo_ip at hip
  refine mj_loop _ (fun q => q.1) _ ?_
  intro ⟨n, W, l7, l8, l9, l10⟩ ⟨hn, hq, he⟩ ih
  replace hn : n ≤ 4 := hn
  replace hq : cq C A W := hq
  replace he : mo_se (vi C A) s f x y = mo_sl (vi C A) s f x y n := he
  have hw := hq.j
  have hlh := hq.l
  show mj_X G n_H_seenAnew (mj_Qm G n_H_seenAnew (fun r A' => ((0 ≤ s ∧ s < gI A 200 23 ∧ 0 ≤ f ∧ f < gI A 224 s) ∧ (0 ≤ x ∧ x < 16 ∧ 0 ≤ y ∧ y < 12)) ∧ r = some (mI (mo_se (vi C A) s f x y)) ∧ cq C A A') PX) W 0 0 28 [some (mR (some 100)), some (mI s), some (mI f), some (mI x), some (mI y), some (mR (some (4000 + 100 * s))), some (mI ((n : Int) - 1)), l7, l8, l9, l10] []
  have hH := hw.x.H
  have hS := hw.s.S
  have e23 : gI W 200 23 = gI A 200 23 := hlh.I _ _ (by omega)
  have e3 : gI W 200 3 = gI A 200 3 := hlh.I _ _ (by omega)
  have e24 : gI W 224 s = gI A 224 s := hlh.I _ _ (by omega)
  have e25 : gI W 225 s = gI A 225 s := hlh.I _ _ (by omega)
  have hrv : ∀ c, 222 ≤ c → c ≤ 237 → gI W c = gI A c := fun c h0 h1 => funext fun i => hlh.I c i (by omega)
  have hvr : ∀ c, 222 ≤ c → c ≤ 237 → gI (vi C A) c = gI A c := fun c h0 h1 => vi_fn (by omega)
  have hs' : 0 ≤ s ∧ s < gI W 200 23 := by rw [e23]; exact h1
  have hf' : 0 ≤ f ∧ f < gI W 224 s := by rw [e24]; exact h3
  have hpal0 := (hw.s.pal s hs'.1 hs'.2).trans e25
  cases n with
  | zero =>
    refine mx_R fun hR => ?_
    refine mx_iload 6 d_H_seenAnew_28 rfl ?_
    refine mx_if_lt 127 d_H_seenAnew_30 rfl (by first | assumption | exact hR _ _ | exact r32_mk (by omega) (by omega)) (fun c_30 => ?_) (fun c_30 => ?_)
    · refine mx_iconst d_H_seenAnew_127 ?_
      refine mx_iret d_H_seenAnew_128 rfl ?_
      exact ⟨⟨by omega, hip⟩, by rw [he]; rfl, hq⟩
    · exfalso; omega
  | succ n =>
    have e9 : (((n + 1 : Nat) : Int) - 1) = (n : Int) := by omega
    rw [e9]
    have hha := mo_ha_r hj.m.g (l := n) h1 ⟨by omega, by omega⟩ h3
    have hm1 := mo_mv_b hj.m.p (s := s) (l := n) (f := f) (z := 1) ⟨h3.1, by omega⟩
    have hm0 := mo_mv_b hj.m.p (s := s) (l := n) (f := f) (z := 0) ⟨h3.1, by omega⟩
    rw [mo_sl, mo_ha_c hvr, mo_mv_c hvr, mo_mv_c hvr, hvr 222 (by omega) (by omega), hvr 225 (by omega) (by omega)] at he
    have nx : mo_se (vi C A) s f x y = mo_sl (vi C A) s f x y n → ∀ W' a b c d, cq C A W' → mj_X G n_H_seenAnew (mj_Qm G n_H_seenAnew (fun r A' => ((0 ≤ s ∧ s < gI A 200 23 ∧ 0 ≤ f ∧ f < gI A 224 s) ∧ (0 ≤ x ∧ x < 16 ∧ 0 ≤ y ∧ y < 12)) ∧ r = some (mI (mo_se (vi C A) s f x y)) ∧ cq C A A') PX) W' 0 0 28 [some (mR (some 100)), some (mI s), some (mI f), some (mI x), some (mI y), some (mR (some (4000 + 100 * s))), some (mI ((n : Int) + -1)), a, b, c, d] [] := fun h W' a b c d h' => by
      have h9 := ih (n, W', a, b, c, d) ⟨by show n ≤ 4; omega, h', h⟩ (by show n < n + 1; omega)
      exact h9
    refine mx_R fun hR => ?_
    refine mx_iload 6 d_H_seenAnew_28 rfl ?_
    refine mx_if_lt 127 d_H_seenAnew_30 rfl (by first | assumption | exact hR _ _ | exact r32_mk (by omega) (by omega)) (fun c_30 => ?_) (fun c_30 => ?_)
    · exfalso; omega
    · refine mx_aload_n 0 d_H_seenAnew_33 rfl rfl ?_
      refine mx_aload 5 d_H_seenAnew_34 rfl ?_
      refine mx_iload 6 d_H_seenAnew_36 rfl ?_
      refine mx_iload_n 2 d_H_seenAnew_38 rfl rfl ?_
      refine mx_callV (kc := 0) (ks := 0) (N := n_H_drawingAt) (as := [_, _, _]) (ci := 6) d_H_seenAnew_39 s_H_286 ⟨Nat.le_of_ble_eq_true rfl, Nat.le_of_ble_eq_true rfl⟩ rfl (mj_wt_8 (Nat.le_of_ble_eq_true rfl)) (hH.o) ⟨_, rfl, rfl⟩ (ct_drawingAt (A := W) hH hw.s hw.m.g hs' ⟨by omega, by omega⟩ hf') (fun r_39 A_39 h_39 => ?_) (fun E_39 A_x h_39 => ?_)
      rotate_left
      · exact h_39.elim
      obtain ⟨rfl, hA_39⟩ := h_39
      obtain rfl := hA_39.symm
      clear hA_39
      refine mx_R fun hR_1 => ?_
      rw [mo_ha_c hrv]
      refine mx_istore 7 d_H_seenAnew_42 (Nat.le_of_ble_eq_true rfl) ?_
      refine mx_iload_n 3 d_H_seenAnew_44 rfl rfl ?_
      refine mx_aload 5 d_H_seenAnew_45 rfl ?_
      refine mx_iload 6 d_H_seenAnew_47 rfl ?_
      refine mx_iload_n 2 d_H_seenAnew_49 rfl rfl ?_
      refine mx_iconst d_H_seenAnew_50 ?_
      refine mx_callV (kc := 0) (ks := 0) (N := n_S_shiftOf) (as := [_, _, _]) (ci := 4) d_H_seenAnew_51 s_H_290 ⟨Nat.le_of_ble_eq_true rfl, Nat.le_of_ble_eq_true rfl⟩ rfl (mj_wt_8 (Nat.le_of_ble_eq_true rfl)) (hS.o s hs'.1 hs'.2) ⟨_, rfl, rfl⟩ (ct_shiftOf (A := W) hw.s hw.m.g hs' hw.p hw.m.p hw.m.h ⟨by omega, by omega⟩ ⟨h3.1, by omega⟩ (Or.inr rfl)) (fun r_51 A_51 h_51 => ?_) (fun E_51 A_x h_51 => ?_)
      rotate_left
      · exact h_51.elim
      obtain ⟨rfl, hA_51⟩ := h_51
      obtain rfl := hA_51.symm
      clear hA_51
      refine mx_R fun hR_2 => ?_
      rw [mo_mv_c hrv]
      refine mx_isub d_H_seenAnew_54 ?_
      refine mx_istore 8 d_H_seenAnew_55 (Nat.le_of_ble_eq_true rfl) ?_
      refine mx_iload 4 d_H_seenAnew_57 rfl ?_
      refine mx_aload 5 d_H_seenAnew_59 rfl ?_
      refine mx_iload 6 d_H_seenAnew_61 rfl ?_
      refine mx_iload_n 2 d_H_seenAnew_63 rfl rfl ?_
      refine mx_iconst d_H_seenAnew_64 ?_
      refine mx_callV (kc := 0) (ks := 0) (N := n_S_shiftOf) (as := [_, _, _]) (ci := 4) d_H_seenAnew_65 s_H_290 ⟨Nat.le_of_ble_eq_true rfl, Nat.le_of_ble_eq_true rfl⟩ rfl (mj_wt_8 (Nat.le_of_ble_eq_true rfl)) (hS.o s hs'.1 hs'.2) ⟨_, rfl, rfl⟩ (ct_shiftOf (A := W) hw.s hw.m.g hs' hw.p hw.m.p hw.m.h ⟨by omega, by omega⟩ ⟨h3.1, by omega⟩ (Or.inl rfl)) (fun r_65 A_65 h_65 => ?_) (fun E_65 A_x h_65 => ?_)
      rotate_left
      · exact h_65.elim
      obtain ⟨rfl, hA_65⟩ := h_65
      obtain rfl := hA_65.symm
      clear hA_65
      refine mx_R fun hR_3 => ?_
      rw [mo_mv_c hrv]
      refine mx_isub d_H_seenAnew_68 ?_
      refine mx_istore 9 d_H_seenAnew_69 (Nat.le_of_ble_eq_true rfl) ?_
      refine mx_iload 7 d_H_seenAnew_71 rfl ?_
      refine mx_iconst d_H_seenAnew_73 ?_
      refine mx_icmp_ne 81 d_H_seenAnew_74 rfl (by first | assumption | exact hR_3 _ _ | exact hR_2 _ _ | exact hR_1 _ _ | exact hR _ _ | exact r32_mk (by omega) (by omega)) (by first | assumption | exact hR_3 _ _ | exact hR_2 _ _ | exact hR_1 _ _ | exact hR _ _ | exact r32_mk (by omega) (by omega)) (fun c_74 => ?_) (fun c_74 => ?_)
      · have hd : 0 ≤ mo_ha A s n f ∧ mo_ha A s n f < gI W 200 3 := by omega
        have hxn := hw.x.n
        have hcr1 := hj.m.cr (mo_ha A s n f) hd.1 (by omega)
        have hceW := hw.h.e (mo_ha A s n f) hd.1 hd.2
        have hcp := c_pf_r hcr1 (16 * (y - mo_mv A s n f 0) + (x - mo_mv A s n f 1))
        refine mx_aload_n 0 d_H_seenAnew_81 rfl rfl ?_
        refine mx_aload_n 0 d_H_seenAnew_82 rfl rfl ?_
        refine mx_getPs 0 d_H_seenAnew_83 f_H_11 rfl rfl (hH.o) (hH.p0) ?_
        refine mx_iload 7 d_H_seenAnew_86 rfl ?_
        refine mx_aalds d_H_seenAnew_88 (hH.s0) (by decide) (by omega) (by omega) (hw.x.r _ hd.1 (by omega)) ?_
        refine mx_iload 8 d_H_seenAnew_89 rfl ?_
        refine mx_iload 9 d_H_seenAnew_91 rfl ?_
        refine mx_callV (kc := 0) (ks := 0) (N := n_H_plainPoint) (as := [_, _, _]) (ci := 6) d_H_seenAnew_93 s_H_294 ⟨Nat.le_of_ble_eq_true rfl, Nat.le_of_ble_eq_true rfl⟩ rfl (mj_wt_8 (Nat.le_of_ble_eq_true rfl)) (hH.o) ⟨_, rfl, rfl⟩ (ct_plainPoint (A := W) hH hw.D hd (by omega) (hw.cr _ hd.1 hd.2) hw.h.z (r32_mk (by omega) (by omega)) (r32_mk (by omega) (by omega))) (fun r_93 A_93 h_93 => ?_) (fun E_93 A_x h_93 => ?_)
        rotate_left
        · exact h_93.elim
        obtain ⟨rfl, hl1, hz1, ho1⟩ := h_93
        refine mx_R fun hR_4 => ?_
        have hD1 := hw.D
        have hw1 : JJ C A_93 := JJ_lh hw hl1 (fun d d0 d1 => by
          rw [ho1 _ _ (by omega)]
          rcases hw.h.v d d0 d1 with h9 | ⟨h9, h8⟩
          · exact Or.inl h9
          · exact Or.inr ⟨h9, pv_e (lh_ce hl1 hD1 ⟨d0, d1⟩ (hw.cr d d0 d1)) (fun c i h0 h1 => ho1 c i (by omega)) h8⟩) hz1
        have hq1 : cq C A A_93 := ⟨hw1, lh_tr hlh hl1⟩
        have hS := hw1.s.S
        have hH := hw1.x.H
        have hpal1 : gI A_93 (4000 + 100 * s) 1 = gI A 225 s := by rw [hl1.I _ _ (by omega), hpal0]
        have hso1 : gS A_93 (4000 + 100 * s) = some (.inl 4) := (hl1.S _).trans ((hw.s.S).o s hs'.1 hs'.2)
        rw [← c_pf_e hceW]
        have e1 : mo_ip (x - mo_mv A s n f 1) (y - mo_mv A s n f 0) → gI (vi C A) 218 (192 * mo_ha A s n f + 16 * (y - mo_mv A s n f 0) + (x - mo_mv A s n f 1)) = c_pf (C (mo_ha A s n f)) (16 * (y - mo_mv A s n f 0) + (x - mo_mv A s n f 1)) := fun hh => by
          unfold mo_ip at hh
          rw [show 192 * mo_ha A s n f + 16 * (y - mo_mv A s n f 0) + (x - mo_mv A s n f 1) = 192 * mo_ha A s n f + (16 * (y - mo_mv A s n f 0) + (x - mo_mv A s n f 1)) by omega]
          exact vi_p ⟨by omega, by omega⟩
        obtain ⟨v, hv⟩ : ∃ v, (if mo_ip (x - mo_mv A s n f 1) (y - mo_mv A s n f 0) then c_pf (C (mo_ha A s n f)) (16 * (y - mo_mv A s n f 0) + (x - mo_mv A s n f 1)) else -1) = v := ⟨_, rfl⟩
        rw [hv]
        have hvr2 : -1 ≤ v ∧ v ≤ 7 := by
          rw [← hv]
          by_cases h9 : mo_ip (x - mo_mv A s n f 1) (y - mo_mv A s n f 0)
          · rw [if_pos h9]; exact hcp
          · rw [if_neg h9]; omega
        refine mx_istore 10 d_H_seenAnew_96 (Nat.le_of_ble_eq_true rfl) ?_
        refine mx_iload 10 d_H_seenAnew_98 rfl ?_
        refine mx_iconst d_H_seenAnew_100 ?_
        refine mx_icmp_eq 121 d_H_seenAnew_101 rfl (by first | assumption | exact hR_4 _ _ | exact hR_3 _ _ | exact hR_2 _ _ | exact hR_1 _ _ | exact hR _ _ | exact r32_mk (by omega) (by omega)) (by first | assumption | exact hR_4 _ _ | exact hR_3 _ _ | exact hR_2 _ _ | exact hR_1 _ _ | exact hR _ _ | exact r32_mk (by omega) (by omega)) (fun c_101 => ?_) (fun c_101 => ?_)
        · refine mx_iinc 6 d_H_seenAnew_121 rfl (Nat.le_of_ble_eq_true rfl) ?_
          refine mx_goto 28 d_H_seenAnew_124 rfl ?_
          refine nx ?_ _ _ _ _ _ hq1
          rw [he, if_neg]
          intro h9
          rw [if_pos h9.2.1, ← e1 h9.2.1] at hv
          exact h9.2.2 (by rw [hv]; assumption)
        · refine mx_aload_n 0 d_H_seenAnew_104 rfl rfl ?_
          refine mx_getPs 4 d_H_seenAnew_105 f_H_15 rfl rfl (hH.o) (hH.p4) ?_
          refine mx_aload 5 d_H_seenAnew_108 rfl ?_
          refine mx_getI 1 d_H_seenAnew_110 f_H_298 rfl rfl (hso1) ?_
          rw [hpal1]
          refine mx_bipush d_H_seenAnew_113 (by decide) ?_
          refine mx_imul d_H_seenAnew_115 ?_
          refine mx_iload 10 d_H_seenAnew_116 rfl ?_
          refine mx_iadd d_H_seenAnew_118 ?_
          rw [show gI A 225 s * 8 + v = 8 * gI A 225 s + v by omega]
          refine mx_iald d_H_seenAnew_119 (hH.s4) (by omega) (by omega) ?_
          rw [hw1.s.pl _ (by omega) (by omega)]
          refine mx_iret d_H_seenAnew_120 rfl ?_
          refine ⟨⟨by omega, hip⟩, ?_, hq1⟩
          by_cases h9 : mo_ip (x - mo_mv A s n f 1) (y - mo_mv A s n f 0)
          · rw [if_pos h9, ← e1 h9] at hv
            rw [he, hv, if_pos ⟨by assumption, h9, by assumption⟩]
            exact congrArg (fun z => some (mI z)) ((lh_tr hlh hl1).I _ _ (by omega))
          · rw [if_neg h9] at hv
            omega
      · skip
        refine mx_R fun hR => ?_
        refine mx_iconst d_H_seenAnew_77 ?_
        refine mx_goto 96 d_H_seenAnew_78 rfl ?_
        refine mx_istore 10 d_H_seenAnew_96 (Nat.le_of_ble_eq_true rfl) ?_
        refine mx_iload 10 d_H_seenAnew_98 rfl ?_
        refine mx_iconst d_H_seenAnew_100 ?_
        refine mx_icmp_eq 121 d_H_seenAnew_101 rfl (by first | assumption | exact hR _ _ | exact r32_mk (by omega) (by omega)) (by first | assumption | exact hR _ _ | exact r32_mk (by omega) (by omega)) (fun c_101 => ?_) (fun c_101 => ?_)
        · refine mx_iinc 6 d_H_seenAnew_121 rfl (Nat.le_of_ble_eq_true rfl) ?_
          refine mx_goto 28 d_H_seenAnew_124 rfl ?_
          rw [if_neg (fun h => h.1 (by assumption))] at he
          exact nx he _ _ _ _ _ hq
        · exfalso; omega
theorem ct_seenAnew {C : Int → cT} {s f x y : Int} (hj : JJ C A) (hs : r32 s) (hf : r32 f) (hx : r32 x) (hy : r32 y) : mj_Cal G n_H_seenAnew [mR (some 100), mI s, mI f, mI x, mI y] A (fun r A' => ((0 ≤ s ∧ s < gI A 200 23 ∧ 0 ≤ f ∧ f < gI A 224 s) ∧ (0 ≤ x ∧ x < 16 ∧ 0 ≤ y ∧ y < 12)) ∧ r = some (mI (mo_se (vi C A) s f x y)) ∧ cq C A A') (px1 A xI ((0 ≤ s ∧ s < gI A 200 23 ∧ 0 ≤ f ∧ f < gI A 224 s) ∧ (0 ≤ x ∧ x < 16 ∧ 0 ≤ y ∧ y < 12))) := by
  refine mj_bodyK 3 18 [some (mR (some 100)), some (mI s), some (mI f), some (mI x), some (mI y), none, none, none, none, none, none] rfl rfl rfl (by decide +kernel) (Nat.le_of_ble_eq_true rfl) (by simp) rfl ?_
  have hH := hj.x.H
  have hS := hj.s.S
  have hns := hj.m.g.ns
  refine mx_R fun hR => ?_
  refine mx_aload_n 0 d_H_seenAnew_0 rfl rfl ?_
  refine mx_iload_n 1 d_H_seenAnew_1 rfl rfl ?_
  refine mx_callV (kc := 2) (ks := 12) (N := n_H_needScene) (as := [_]) (ci := 6) d_H_seenAnew_2 s_H_173 ⟨Nat.le_of_ble_eq_true rfl, Nat.le_of_ble_eq_true rfl⟩ rfl (mj_wt_8 (Nat.le_of_ble_eq_true rfl)) (hH.o) ⟨_, rfl, rfl⟩ (ct_needScene hj hs) (fun r_2 A_2 h_2 => ?_) (fun E_2 A_x h_2 => ?_)
  rotate_left
  · exact mt_n h_2 rfl fun hn => ⟨rfl, rfl, by omega⟩
  obtain ⟨rfl, h1, hA_2⟩ := h_2
  obtain rfl := hA_2.symm
  clear hA_2
  refine mx_R fun hR_1 => ?_
  refine mx_aload_n 0 d_H_seenAnew_5 rfl rfl ?_
  refine mx_iload_n 1 d_H_seenAnew_6 rfl rfl ?_
  refine mx_iload_n 2 d_H_seenAnew_7 rfl rfl ?_
  refine mx_callV (kc := 1) (ks := 6) (N := n_H_needFrame) (as := [_, _]) (ci := 6) d_H_seenAnew_8 s_H_179 ⟨Nat.le_of_ble_eq_true rfl, Nat.le_of_ble_eq_true rfl⟩ rfl (mj_wt_8 (Nat.le_of_ble_eq_true rfl)) (hH.o) ⟨_, rfl, rfl⟩ (ct_needFrame hj h1 hf) (fun r_8 A_8 h_8 => ?_) (fun E_8 A_x h_8 => ?_)
  rotate_left
  · exact mt_n h_8 rfl fun hn => ⟨rfl, rfl, by omega⟩
  obtain ⟨rfl, h3, hA_8⟩ := h_8
  obtain rfl := hA_8.symm
  clear hA_8
  refine mx_R fun hR_2 => ?_
  refine mx_iload_n 3 d_H_seenAnew_11 rfl rfl ?_
  refine mx_iload 4 d_H_seenAnew_12 rfl ?_
  refine mx_callS (kc := 0) (ks := 0) (N := n_H_needPoint) (as := [_, _]) d_H_seenAnew_14 s_H_92 ⟨Nat.le_of_ble_eq_true rfl, Nat.le_of_ble_eq_true rfl⟩ rfl (mj_wt_8 (Nat.le_of_ble_eq_true rfl)) (ct_needPoint hx hy) (fun r_14 A_14 h_14 => ?_) (fun E_14 A_x h_14 => ?_)
  rotate_left
  · exact mt_n h_14 rfl fun hn => ⟨rfl, rfl, fun h => hn h.2⟩
  obtain ⟨rfl, h4, hA_14⟩ := h_14
  obtain rfl := hA_14.symm
  clear hA_14
  refine mx_R fun hR_3 => ?_
  refine mx_aload_n 0 d_H_seenAnew_17 rfl rfl ?_
  refine mx_getPs 5 d_H_seenAnew_18 f_H_21 rfl rfl (hH.o) (hH.p5) ?_
  refine mx_iload_n 1 d_H_seenAnew_21 rfl rfl ?_
  refine mx_aalds d_H_seenAnew_22 (hH.s5) (by decide) (by omega) (by omega) (hj.s.r s h1.1 h1.2) ?_
  refine mx_astore 5 d_H_seenAnew_23 (Nat.le_of_ble_eq_true rfl) ?_
  refine mx_iconst d_H_seenAnew_25 ?_
  refine mx_istore 6 d_H_seenAnew_26 (Nat.le_of_ble_eq_true rfl) ?_
  exact ct_anew_l hj h1 h3 h4 (4, A, none, none, none, none) ⟨by show 4 ≤ 4; omega, ⟨hj, lh_rf⟩, rfl⟩
theorem ct_film {C : Int → cT} {f : Int} (hj : JJ C A) (hf : r32 f) : mj_Cal G n_H_film [mR (some 100), mI f] A (fun r A' => (0 ≤ f ∧ f < mo_fl A) ∧ r = some (mI (100 * gI A 244 (mo_fm (fun k => gI A 224 (gI A 244 k)) 10 0 f).1 + (mo_fm (fun k => gI A 224 (gI A 244 k)) 10 0 f).2)) ∧ A' = A) (px1 A xI (0 ≤ f ∧ f < mo_fl A)) := by
  refine mj_bodyK 1 6 [some (mR (some 100)), some (mI f), none, none] rfl rfl rfl (by decide +kernel) (Nat.le_of_ble_eq_true rfl) (by simp) rfl ?_
  have hH := hj.x.H
  have hS := hj.s.S
  have hns := hj.m.g.ns
  have hnf := hj.m.nf
  have hb := mo_fl_b hj.m.g hj.m.nf hj.m.rl
  have tail : (0 ≤ f ∧ f < mo_fl A) → ∀ q : Nat × Nat × Int, (q.1 + q.2.1 = 10 ∧ q.2.1 < gI A 200 43 ∧ q.2.2 + mj_sum (fun k => gI A 224 (gI A 244 k)) q.2.1 = f ∧ r32 q.2.2 ∧ mo_fm (fun k => gI A 224 (gI A 244 k)) q.1 q.2.1 q.2.2 = mo_fm (fun k => gI A 224 (gI A 244 k)) 10 0 f) → mj_X G n_H_film (mj_Qm G n_H_film (fun r A' => (0 ≤ f ∧ f < mo_fl A) ∧ r = some (mI (100 * gI A 244 (mo_fm (fun k => gI A 224 (gI A 244 k)) 10 0 f).1 + (mo_fm (fun k => gI A 224 (gI A 244 k)) 10 0 f).2)) ∧ A' = A) (px1 A xI (0 ≤ f ∧ f < mo_fl A))) A 0 0 27 [some (mR (some 100)), some (mI f), some (mI q.2.2), some (mI (q.2.1 : Int))] [] := by
    intro hI
    refine mj_loop _ (fun q => q.1) _ ?_
    intro ⟨n, k, a⟩ ⟨h1, h2, h3, h4, h5⟩ ih
    replace h1 : n + k = 10 := h1
    replace h2 : (k : Int) < gI A 200 43 := h2
    replace h3 : a + mj_sum (fun k => gI A 224 (gI A 244 k)) k = f := h3
    replace h4 : r32 a := h4
    replace h5 : mo_fm (fun k => gI A 224 (gI A 244 k)) n k a = mo_fm (fun k => gI A 224 (gI A 244 k)) 10 0 f := h5
    have hr1 := hj.m.rl k (by omega) h2
    have hfr1 := hj.m.g.fr _ hr1.1 hr1.2
    have hrr := hj.y.rl k (by omega) h2
    have hfr0 := hj.s.fr _ hr1.1 hr1.2
    have hnn := hj.y.nf
    show mj_X G n_H_film _ A 0 0 27 [some (mR (some 100)), some (mI f), some (mI a), some (mI (k : Int))] []
    have hend : ((k : Int) + 1 ≥ gI A 200 43 ∨ a < gI A 224 (gI A 244 k)) → mo_fm (fun k => gI A 224 (gI A 244 k)) n k a = ((k : Int), a) := fun hh => by
      cases n with
      | zero => rfl
      | succ n =>
        rw [mo_fm, if_neg]
        show ¬ gI A 224 (gI A 244 k) ≤ a
        rcases hh with hh | hh
        · have hfl := hI.2
          unfold mo_fl at hfl
          rw [show (gI A 200 43).toNat = k + 1 by omega, mj_sum] at hfl
          have hfl' : f < mj_sum (fun k => gI A 224 (gI A 244 k)) k + gI A 224 (gI A 244 k) := hfl
          omega
        · omega
    refine mx_R fun hR => ?_
    refine mx_iload_n 3 d_H_film_27 rfl rfl ?_
    refine mx_aload_n 0 d_H_film_28 rfl rfl ?_
    refine mx_getI 13 d_H_film_29 f_H_259 rfl rfl (hH.o) ?_
    rw [hnn]
    refine mx_iconst d_H_film_32 ?_
    refine mx_isub d_H_film_33 ?_
    refine mx_icmp_ge 78 d_H_film_34 rfl (by first | assumption | exact hR _ _ | exact r32_mk (by omega) (by omega)) (by first | assumption | exact hR _ _ | exact r32_mk (by omega) (by omega)) (fun c_34 => ?_) (fun c_34 => ?_)
    · refine mx_bipush d_H_film_78 (by decide) ?_
      refine mx_aload_n 0 d_H_film_80 rfl rfl ?_
      refine mx_getPs 12 d_H_film_81 f_H_46 rfl rfl (hH.o) (hH.p12) ?_
      refine mx_iload_n 3 d_H_film_84 rfl rfl ?_
      refine mx_iald d_H_film_85 (hH.s12) (by omega) (by omega) ?_
      rw [hrr]
      refine mx_imul d_H_film_86 ?_
      refine mx_iload_n 2 d_H_film_87 rfl rfl ?_
      refine mx_iadd d_H_film_88 ?_
      refine mx_iret d_H_film_89 rfl ?_
      refine ⟨hI, ?_, rfl⟩
      rw [← h5, hend (by omega)]
    · refine mx_iload_n 2 d_H_film_37 rfl rfl ?_
      refine mx_aload_n 0 d_H_film_38 rfl rfl ?_
      refine mx_getPs 5 d_H_film_39 f_H_21 rfl rfl (hH.o) (hH.p5) ?_
      refine mx_aload_n 0 d_H_film_42 rfl rfl ?_
      refine mx_getPs 12 d_H_film_43 f_H_46 rfl rfl (hH.o) (hH.p12) ?_
      refine mx_iload_n 3 d_H_film_46 rfl rfl ?_
      refine mx_iald d_H_film_47 (hH.s12) (by omega) (by omega) ?_
      rw [hrr]
      refine mx_aalds d_H_film_48 (hH.s5) (by decide) (by omega) (by omega) (hj.s.r _ hr1.1 hr1.2) ?_
      refine mx_getI 0 d_H_film_49 f_H_184 rfl rfl (hS.o _ hr1.1 hr1.2) ?_
      rw [hfr0]
      refine mx_icmp_lt 78 d_H_film_52 rfl (by first | assumption | exact hR _ _ | exact r32_mk (by omega) (by omega)) (by first | assumption | exact hR _ _ | exact r32_mk (by omega) (by omega)) (fun c_52 => ?_) (fun c_52 => ?_)
      · refine mx_bipush d_H_film_78 (by decide) ?_
        refine mx_aload_n 0 d_H_film_80 rfl rfl ?_
        refine mx_getPs 12 d_H_film_81 f_H_46 rfl rfl (hH.o) (hH.p12) ?_
        refine mx_iload_n 3 d_H_film_84 rfl rfl ?_
        refine mx_iald d_H_film_85 (hH.s12) (by omega) (by omega) ?_
        rw [hrr]
        refine mx_imul d_H_film_86 ?_
        refine mx_iload_n 2 d_H_film_87 rfl rfl ?_
        refine mx_iadd d_H_film_88 ?_
        refine mx_iret d_H_film_89 rfl ?_
        refine ⟨hI, ?_, rfl⟩
        rw [← h5, hend (by omega)]
      · refine mx_iload_n 2 d_H_film_55 rfl rfl ?_
        refine mx_aload_n 0 d_H_film_56 rfl rfl ?_
        refine mx_getPs 5 d_H_film_57 f_H_21 rfl rfl (hH.o) (hH.p5) ?_
        refine mx_aload_n 0 d_H_film_60 rfl rfl ?_
        refine mx_getPs 12 d_H_film_61 f_H_46 rfl rfl (hH.o) (hH.p12) ?_
        refine mx_iload_n 3 d_H_film_64 rfl rfl ?_
        refine mx_iald d_H_film_65 (hH.s12) (by omega) (by omega) ?_
        rw [hrr]
        refine mx_aalds d_H_film_66 (hH.s5) (by decide) (by omega) (by omega) (hj.s.r _ hr1.1 hr1.2) ?_
        refine mx_getI 0 d_H_film_67 f_H_184 rfl rfl (hS.o _ hr1.1 hr1.2) ?_
        rw [hfr0]
        refine mx_isub d_H_film_70 ?_
        refine mx_istore_n 2 d_H_film_71 rfl (Nat.le_of_ble_eq_true rfl) ?_
        refine mx_iinc 3 d_H_film_72 rfl (Nat.le_of_ble_eq_true rfl) ?_
        refine mx_goto 27 d_H_film_75 rfl ?_
        obtain ⟨m, rfl⟩ : ∃ m, n = m + 1 := ⟨n - 1, by omega⟩
        have h9 := ih (m, k + 1, a - gI A 224 (gI A 244 k)) ⟨by show m + (k + 1) = 10; omega, by show ((k + 1 : Nat) : Int) < _; omega, ?_, ?_, ?_⟩ (by show m < m + 1; omega)
        · exact h9
        · show a - gI A 224 (gI A 244 k) + mj_sum _ (k + 1) = f
          rw [mj_sum]
          show a - gI A 224 (gI A 244 k) + (mj_sum _ k + gI A 224 (gI A 244 k)) = f
          omega
        · show r32 (a - gI A 224 (gI A 244 k))
          exact r32_mk (by omega) (by have := h4.2; omega)
        · rw [← h5]
          show mo_fm _ m (((k + 1 : Nat)) : Int) (a - gI A 224 (gI A 244 k)) = mo_fm _ (m + 1) k a
          rw [mo_fm, if_pos (by show gI A 224 (gI A 244 k) ≤ a; omega)]
          rfl
  refine mx_R fun hR => ?_
  refine mx_iload_n 1 d_H_film_0 rfl rfl ?_
  refine mx_if_lt 12 d_H_film_1 rfl (by first | assumption | exact hR _ _ | exact r32_mk (by omega) (by omega)) (fun c_1 => ?_) (fun c_1 => ?_)
  · refine mx_throwW (text := "no such frame of the film") t_H_319_323 (by decide) rfl (Nat.le_of_ble_eq_true rfl) (Nat.le_of_ble_eq_true rfl) d_H_film_12 d_H_film_15 d_H_film_16 d_H_film_19 d_H_film_22 ?_
    exact ⟨rfl, rfl, by omega⟩
  · refine mx_iload_n 1 d_H_film_4 rfl rfl ?_
    refine mx_aload_n 0 d_H_film_5 rfl rfl ?_
    refine mx_callV (kc := 1) (ks := 6) (N := n_H_filmLength) (as := []) (ci := 6) d_H_film_6 s_H_264 ⟨Nat.le_of_ble_eq_true rfl, Nat.le_of_ble_eq_true rfl⟩ rfl (mj_wt_8 (Nat.le_of_ble_eq_true rfl)) (hH.o) ⟨_, rfl, rfl⟩ (ct_filmLength hj) (fun r_6 A_6 h_6 => ?_) (fun E_6 A_x h_6 => ?_)
    rotate_left
    · exact h_6.elim
    obtain ⟨rfl, hA_6⟩ := h_6
    obtain rfl := hA_6.symm
    clear hA_6
    refine mx_R fun hR_1 => ?_
    refine mx_icmp_lt 23 d_H_film_9 rfl (by first | assumption | exact hR_1 _ _ | exact hR _ _ | exact r32_mk (by omega) (by omega)) (by first | assumption | exact hR_1 _ _ | exact hR _ _ | exact r32_mk (by omega) (by omega)) (fun c_9 => ?_) (fun c_9 => ?_)
    · refine mx_iload_n 1 d_H_film_23 rfl rfl ?_
      refine mx_istore_n 2 d_H_film_24 rfl (Nat.le_of_ble_eq_true rfl) ?_
      refine mx_iconst d_H_film_25 ?_
      refine mx_istore_n 3 d_H_film_26 rfl (Nat.le_of_ble_eq_true rfl) ?_
      have hI : (0 ≤ f ∧ f < mo_fl A) := by omega
      have hn1 : 0 < gI A 200 43 := by
        refine Decidable.byContradiction fun hc => ?_
        have h2 := hI.2
        unfold mo_fl at h2
        rw [show (gI A 200 43).toNat = 0 by omega, mj_sum_0] at h2
        omega
      refine mx_less (kc' := 0) (ks' := 0) (by decide) (by decide) ?_
      exact tail hI (10, 0, f) ⟨rfl, hn1, by show f + 0 = f; omega, hf, rfl⟩
    · refine mx_throwW (text := "no such frame of the film") t_H_319_323 (by decide) rfl (Nat.le_of_ble_eq_true rfl) (Nat.le_of_ble_eq_true rfl) d_H_film_12 d_H_film_15 d_H_film_16 d_H_film_19 d_H_film_22 ?_
      exact ⟨rfl, rfl, by omega⟩
end CLSJ
