/-! THE HOUSE, 2: outlines -/
section CLS2
variable {G : mj_G} {A : mj_M}
/-- the code of stroke i of drawing d -/
def sk (A : mj_M) (d i : Int) : Int := (gP A (1000 + 100 * d + 1) i).getD 0
theorem DS.e5 {n : Int} (h : DS A n) (d : Int) (h0 : 0 ≤ d) (h1 : d < n) (i : Int) (i0 : 0 ≤ i) (i1 : i < 8) : gP A (1000 + 100 * d + 1) i = some (sk A d i) := by
  obtain ⟨j, e, _, _⟩ := (h d h0 h1).2.2.2.2.2.1 i i0 i1
  unfold sk
  rw [e]; rfl
theorem DS.ek {n : Int} (h : DS A n) (d : Int) (h0 : 0 ≤ d) (h1 : d < n) (i : Int) (i0 : 0 ≤ i) (i1 : i < 8) : 1000 + 100 * d + 2 ≤ sk A d i ∧ sk A d i ≤ 1000 + 100 * d + 9 := by
  obtain ⟨j, e, _, _⟩ := (h d h0 h1).2.2.2.2.2.1 i i0 i1
  unfold sk
  rw [e]
  show _ ≤ 1000 + 100 * d + 2 + j ∧ 1000 + 100 * d + 2 + j ≤ _
  omega
theorem DS.ks {n : Int} (h : DS A n) (d : Int) (h0 : 0 ≤ d) (h1 : d < n) (i : Int) (i0 : 0 ≤ i) (i1 : i < 8) : gS A (sk A d i) = some (.inl 5) := by
  have e := h.ek d h0 h1 i i0 i1
  have := (h d h0 h1).2.2.2.2.1 (sk A d i - (1000 + 100 * d + 2)) (by omega) (by omega)
  rwa [show 1000 + 100 * d + 2 + (sk A d i - (1000 + 100 * d + 2)) = sk A d i by omega] at this
theorem DS.ij {n : Int} (h : DS A n) (d : Int) (h0 : 0 ≤ d) (h1 : d < n) {i j : Int} (i0 : 0 ≤ i) (i1 : i < 8) (j0 : 0 ≤ j) (j1 : j < 8) (e : sk A d i = sk A d j) : i = j :=
  (h d h0 h1).2.2.2.2.2.2 i j i0 i1 j0 j1 (by rw [h.e5 d h0 h1 i i0 i1, h.e5 d h0 h1 j j0 j1, e])
/-- what drawing d holds -/
abbrev ch_c (A : mj_M) (d : Int) : cT := (gI A (1000 + 100 * d) 6, fun i => gI A (sk A d i) 0, fun i => gI A (sk A d i) 5, fun q => gI A (sk A d (q / 4)) (q % 4 + 1), gI A (1000 + 100 * d) 9, fun i => gI A (1000 + 100 * d + 10) i, fun i => gI A (1000 + 100 * d + 11) i, gI A (1000 + 100 * d) 10)
theorem ch_E {d i : Int} : c_E (ch_c A d) (4 * i) = gI A (sk A d i) 1 ∧ c_E (ch_c A d) (4 * i + 1) = gI A (sk A d i) 2 ∧ c_E (ch_c A d) (4 * i + 2) = gI A (sk A d i) 3 ∧ c_E (ch_c A d) (4 * i + 3) = gI A (sk A d i) 4 := by
  refine ⟨?_, ?_, ?_, ?_⟩
  · show gI A (sk A d (4 * i / 4)) (4 * i % 4 + 1) = _
    rw [show 4 * i / 4 = i by omega, show 4 * i % 4 + 1 = 1 by omega]
  · show gI A (sk A d ((4 * i + 1) / 4)) ((4 * i + 1) % 4 + 1) = _
    rw [show (4 * i + 1) / 4 = i by omega, show (4 * i + 1) % 4 + 1 = 2 by omega]
  · show gI A (sk A d ((4 * i + 2) / 4)) ((4 * i + 2) % 4 + 1) = _
    rw [show (4 * i + 2) / 4 = i by omega, show (4 * i + 2) % 4 + 1 = 3 by omega]
  · show gI A (sk A d ((4 * i + 3) / 4)) ((4 * i + 3) % 4 + 1) = _
    rw [show (4 * i + 3) / 4 = i by omega, show (4 * i + 3) % 4 + 1 = 4 by omega]
theorem ch_sr {d i : Int} (h : cr (ch_c A d)) (h0 : 0 ≤ i) (h1 : i < gI A (1000 + 100 * d) 6) : sr A (sk A d i) := by
  have k := h.E i h0 h1
  have e := ch_E (A := A) (d := d) (i := i)
  rw [e.1, e.2.1, e.2.2.1, e.2.2.2] at k
  exact k
theorem ch_cs {d i p : Int} : pc_cs (c_E (ch_c A d)) i p = pc_cov (gI A (sk A d i) 1) (gI A (sk A d i) 2) (gI A (sk A d i) 3) (gI A (sk A d i) 4) p := by
  have e := ch_E (A := A) (d := d) (i := i)
  unfold pc_cs
  rw [e.1, e.2.1, e.2.2.1, e.2.2.2]
theorem pc_cov_r {a b c e p : Int} (h1 : 0 ≤ a ∧ a < 16) (h2 : 0 ≤ b ∧ b < 12) (h3 : 0 ≤ c ∧ c < 16) (h4 : 0 ≤ e ∧ e < 12) (h : pc_cov a b c e p = true) : 0 ≤ p ∧ p < 192 := by
  obtain ⟨i, i0, i1, i2⟩ := (mj_any_iff _).mp h
  rw [decide_eq_true_iff] at i2
  have := pc_p_r h1 h2 h3 h4 (j := i) ⟨i0, by have := pc_m_b h1 h2 h3 h4; omega⟩
  omega
theorem ct_drawLine {t l w q k : Int} (hC : CS A t l w q) (hs : gS A k = some (.inl 5)) (hr : sr A k) (hlk : k ≠ l) : mj_Cal G n_C_drawLine [mR (some t), mR (some k)] A (fun r A' => r = none ∧ A' = sF A l (fun p => if pc_cov (gI A k 1) (gI A k 2) (gI A k 3) (gI A k 4) p = true then gI A k 5 else gI A l p)) mj_no := by
  refine mj_bodyK 0 0 [some (mR (some t)), some (mR (some k)), none, none, none, none] rfl rfl rfl (by decide +kernel) (Nat.le_of_ble_eq_true rfl) (by simp) rfl ?_
  have hr0 := hr
  unfold sr at hr
  have hm := pc_m_b hr.1 hr.2.1 hr.2.2.1 hr.2.2.2
  have ek : ∀ (f : Int → Int) i, gI (sF A l f) k i = gI A k i := fun f i => by rw [gI_sF, if_neg hlk]
  refine mx_R fun hRA => ?_
  have hl : ∀ q : Nat × Option mj_V × Option mj_V, ((q.1 : Int) ≤ (pc_m (gI A k 1) (gI A k 2) (gI A k 3) (gI A k 4)) + 1) → mj_X G n_C_drawLine (mj_Qm G n_C_drawLine (fun r A' => r = none ∧ A' = sF A l (fun p => if pc_cov (gI A k 1) (gI A k 2) (gI A k 3) (gI A k 4) p = true then gI A k 5 else gI A l p)) mj_no) (sF A l (fun p => if mj_any (fun i => decide (pc_p (gI A k 1) (gI A k 2) (gI A k 3) (gI A k 4) i = p)) q.1 = true then gI A k 5 else gI A l p)) 0 0 7 [some (mR (some t)), some (mR (some k)), some (mI (pc_m (gI A k 1) (gI A k 2) (gI A k 3) (gI A k 4))), some (mI (q.1 : Int)), q.2.1, q.2.2] [] := by
    refine mj_loop _ (fun q => 17 - q.1) _ ?_
    intro ⟨j, l4, l5⟩ hq ih
    replace hq : (j : Int) ≤ (pc_m (gI A k 1) (gI A k 2) (gI A k 3) (gI A k 4)) + 1 := hq
    show mj_X G n_C_drawLine (mj_Qm G n_C_drawLine (fun r A' => r = none ∧ A' = sF A l (fun p => if pc_cov (gI A k 1) (gI A k 2) (gI A k 3) (gI A k 4) p = true then gI A k 5 else gI A l p)) mj_no) (sF A l (fun p => if mj_any (fun i => decide (pc_p (gI A k 1) (gI A k 2) (gI A k 3) (gI A k 4) i = p)) j = true then gI A k 5 else gI A l p)) 0 0 7 [some (mR (some t)), some (mR (some k)), some (mI (pc_m (gI A k 1) (gI A k 2) (gI A k 3) (gI A k 4))), some (mI (j : Int)), l4, l5] []
    have w1 : (j : Int) ≤ (pc_m (gI A k 1) (gI A k 2) (gI A k 3) (gI A k 4)) → _ := fun h => pc_pw_r (lo := 0) (hi := 15) (n := j) (d := (pc_m (gI A k 1) (gI A k 2) (gI A k 3) (gI A k 4))) ⟨by omega, h⟩ (a := gI A k 1) (b := gI A k 3) (by omega) (by omega)
    have w2 : (j : Int) ≤ (pc_m (gI A k 1) (gI A k 2) (gI A k 3) (gI A k 4)) → _ := fun h => pc_pw_r (lo := 0) (hi := 11) (n := j) (d := (pc_m (gI A k 1) (gI A k 2) (gI A k 3) (gI A k 4))) ⟨by omega, h⟩ (a := gI A k 2) (b := gI A k 4) (by omega) (by omega)
    refine mx_R fun hR => ?_
    refine mx_iload_n 3 d_C_drawLine_7 rfl rfl ?_
    refine mx_iload_n 2 d_C_drawLine_8 rfl rfl ?_
    refine mx_icmp_gt 74 d_C_drawLine_9 rfl (by first | assumption | exact hR _ _ | exact r32_mk (by omega) (by omega)) (by first | assumption | exact hR _ _ | exact r32_mk (by omega) (by omega)) (fun c_9 => ?_) (fun c_9 => ?_)
    · refine mx_vret d_C_drawLine_74 rfl ?_
      refine ⟨rfl, sF_congr fun p => ?_⟩
      unfold pc_cov
      rw [show (pc_m (gI A k 1) (gI A k 2) (gI A k 3) (gI A k 4)).toNat + 1 = j by omega]
    · have w1 := w1 (by omega)
      have w2 := w2 (by omega)
      refine mx_aload_n 1 d_C_drawLine_12 rfl rfl ?_
      refine mx_getI 1 d_C_drawLine_13 f_C_62 rfl rfl (hs) ?_
      rw [ek]
      refine mx_aload_n 1 d_C_drawLine_16 rfl rfl ?_
      refine mx_getI 3 d_C_drawLine_17 f_C_65 rfl rfl (hs) ?_
      rw [ek]
      refine mx_iload_n 3 d_C_drawLine_20 rfl rfl ?_
      refine mx_iload_n 2 d_C_drawLine_21 rfl rfl ?_
      refine mx_callSN (kc := 0) (ks := 0) (N := n_H_partWay) (as := [_, _, _, _]) d_C_drawLine_22 s_C_68 ⟨Nat.le_of_ble_eq_true rfl, Nat.le_of_ble_eq_true rfl⟩ rfl (mj_wt_8 (Nat.le_of_ble_eq_true rfl)) (ct_partWay (r32_mk (by omega) (by omega)) (pw_m (by omega) (by omega) (by omega))) (fun r_22 A_22 h_22 => ?_)
      obtain ⟨rfl, hA_22⟩ := h_22
      obtain rfl := hA_22.symm
      clear hA_22
      refine mx_R fun hR_1 => ?_
      refine mx_istore 4 d_C_drawLine_25 (Nat.le_of_ble_eq_true rfl) ?_
      refine mx_aload_n 1 d_C_drawLine_27 rfl rfl ?_
      refine mx_getI 2 d_C_drawLine_28 f_C_72 rfl rfl (hs) ?_
      rw [ek]
      refine mx_aload_n 1 d_C_drawLine_31 rfl rfl ?_
      refine mx_getI 4 d_C_drawLine_32 f_C_75 rfl rfl (hs) ?_
      rw [ek]
      refine mx_iload_n 3 d_C_drawLine_35 rfl rfl ?_
      refine mx_iload_n 2 d_C_drawLine_36 rfl rfl ?_
      refine mx_callSN (kc := 0) (ks := 0) (N := n_H_partWay) (as := [_, _, _, _]) d_C_drawLine_37 s_C_68 ⟨Nat.le_of_ble_eq_true rfl, Nat.le_of_ble_eq_true rfl⟩ rfl (mj_wt_8 (Nat.le_of_ble_eq_true rfl)) (ct_partWay (r32_mk (by omega) (by omega)) (pw_m (by omega) (by omega) (by omega))) (fun r_37 A_37 h_37 => ?_)
      obtain ⟨rfl, hA_37⟩ := h_37
      obtain rfl := hA_37.symm
      clear hA_37
      refine mx_R fun hR_2 => ?_
      refine mx_istore 5 d_C_drawLine_40 (Nat.le_of_ble_eq_true rfl) ?_
      refine mx_iload 4 d_C_drawLine_42 rfl ?_
      refine mx_iload 5 d_C_drawLine_44 rfl ?_
      refine mx_callSN (kc := 0) (ks := 0) (N := n_H_isPoint) (as := [_, _]) d_C_drawLine_46 s_C_21 ⟨Nat.le_of_ble_eq_true rfl, Nat.le_of_ble_eq_true rfl⟩ rfl (mj_wt_8 (Nat.le_of_ble_eq_true rfl)) (ct_isPoint (r32_mk (by omega) (by omega)) (r32_mk (by omega) (by omega))) (fun r_46 A_46 h_46 => ?_)
      obtain ⟨rfl, hA_46⟩ := h_46
      obtain rfl := hA_46.symm
      clear hA_46
      refine mx_R fun hR_3 => ?_
      refine mx_if_eq 68 d_C_drawLine_49 rfl (by first | assumption | exact hR_3 _ _ | exact hR_2 _ _ | exact hR_1 _ _ | exact hR _ _ | exact r32_mk (by omega) (by omega)) (fun c_49 => ?_) (fun c_49 => ?_)
      · exfalso; omega
      · refine mx_aload_n 0 d_C_drawLine_52 rfl rfl ?_
        refine mx_getPs 0 d_C_drawLine_53 f_C_9 rfl rfl (hC.o) (hC.p0) ?_
        refine mx_iload 4 d_C_drawLine_56 rfl ?_
        refine mx_iload 5 d_C_drawLine_58 rfl ?_
        refine mx_callSN (kc := 0) (ks := 0) (N := n_H_placeOf) (as := [_, _]) d_C_drawLine_60 s_C_25 ⟨Nat.le_of_ble_eq_true rfl, Nat.le_of_ble_eq_true rfl⟩ rfl (mj_wt_8 (Nat.le_of_ble_eq_true rfl)) (ct_placeOf) (fun r_60 A_60 h_60 => ?_)
        obtain ⟨rfl, hA_60⟩ := h_60
        obtain rfl := hA_60.symm
        clear hA_60
        refine mx_R fun hR_4 => ?_
        refine mx_aload_n 1 d_C_drawLine_63 rfl rfl ?_
        refine mx_getI 5 d_C_drawLine_64 f_C_78 rfl rfl (hs) ?_
        rw [ek]
        refine mx_iast d_C_drawLine_67 (hC.s0) (by omega) (by omega) (hRA _ _) ?_
        refine mx_R fun hR_5 => ?_
        rw [sI_sF]
        refine mx_iinc 3 d_C_drawLine_68 rfl (Nat.le_of_ble_eq_true rfl) ?_
        refine mx_goto 7 d_C_drawLine_71 rfl ?_
        have h9 := ih (j + 1, some (mI (mj_pw (gI A k 1) (gI A k 3) j (pc_m (gI A k 1) (gI A k 2) (gI A k 3) (gI A k 4)))), some (mI (mj_pw (gI A k 2) (gI A k 4) j (pc_m (gI A k 1) (gI A k 2) (gI A k 3) (gI A k 4))))) (by show ((j + 1 : Nat) : Int) ≤ (pc_m (gI A k 1) (gI A k 2) (gI A k 3) (gI A k 4)) + 1; omega) (by show 17 - (j + 1) < 17 - j; omega)
        rw [show (((j + 1, some (mI (mj_pw (gI A k 1) (gI A k 3) j (pc_m (gI A k 1) (gI A k 2) (gI A k 3) (gI A k 4)))), some (mI (mj_pw (gI A k 2) (gI A k 4) j (pc_m (gI A k 1) (gI A k 2) (gI A k 3) (gI A k 4))))) : Nat × Option mj_V × Option mj_V).1 : Int) = (j : Int) + 1 by show ((j + 1 : Nat) : Int) = _; omega] at h9
        refine mj_Xeq (sF_congr fun p => ?_) h9
        show (if p = mj_pw (gI A k 2) (gI A k 4) j (pc_m (gI A k 1) (gI A k 2) (gI A k 3) (gI A k 4)) * 16 + mj_pw (gI A k 1) (gI A k 3) j (pc_m (gI A k 1) (gI A k 2) (gI A k 3) (gI A k 4)) then gI A k 5 else if mj_any (fun i => decide (pc_p (gI A k 1) (gI A k 2) (gI A k 3) (gI A k 4) i = p)) j = true then gI A k 5 else gI A l p) = if mj_any (fun i => decide (pc_p (gI A k 1) (gI A k 2) (gI A k 3) (gI A k 4) i = p)) (j + 1) = true then gI A k 5 else gI A l p
        rw [show mj_any (fun i => decide (pc_p (gI A k 1) (gI A k 2) (gI A k 3) (gI A k 4) i = p)) (j + 1) = (mj_any (fun i => decide (pc_p (gI A k 1) (gI A k 2) (gI A k 3) (gI A k 4) i = p)) j || decide (pc_p (gI A k 1) (gI A k 2) (gI A k 3) (gI A k 4) j = p)) from rfl]
        have e1 : pc_p (gI A k 1) (gI A k 2) (gI A k 3) (gI A k 4) j = 16 * mj_pw (gI A k 2) (gI A k 4) j (pc_m (gI A k 1) (gI A k 2) (gI A k 3) (gI A k 4)) + mj_pw (gI A k 1) (gI A k 3) j (pc_m (gI A k 1) (gI A k 2) (gI A k 3) (gI A k 4)) := rfl
        by_cases e2 : pc_p (gI A k 1) (gI A k 2) (gI A k 3) (gI A k 4) j = p
        · rw [if_pos (by omega), if_pos (by rw [Bool.or_eq_true, decide_eq_true_iff]; exact Or.inr e2)]
        · rw [if_neg (by omega)]
          refine mj_ic ?_
          rw [Bool.or_eq_true, decide_eq_true_iff]
          exact ⟨Or.inl, fun h => h.resolve_right e2⟩
  refine mx_R fun hR => ?_
  refine mx_aload_n 1 d_C_drawLine_0 rfl rfl ?_
  refine mx_callV (kc := 0) (ks := 0) (N := n_K_steps) (as := []) (ci := 5) d_C_drawLine_1 s_C_56 ⟨Nat.le_of_ble_eq_true rfl, Nat.le_of_ble_eq_true rfl⟩ rfl (mj_wt_8 (Nat.le_of_ble_eq_true rfl)) (hs) ⟨_, rfl, rfl⟩ (ct_steps hs hr0) (fun r_1 A_1 h_1 => ?_) (fun E_1 A_x h_1 => ?_)
  rotate_left
  · exact h_1.elim
  obtain ⟨rfl, hA_1⟩ := h_1
  obtain rfl := hA_1.symm
  clear hA_1
  refine mx_R fun hR_1 => ?_
  refine mx_istore_n 2 d_C_drawLine_4 rfl (Nat.le_of_ble_eq_true rfl) ?_
  refine mx_iconst d_C_drawLine_5 ?_
  refine mx_istore_n 3 d_C_drawLine_6 rfl (Nat.le_of_ble_eq_true rfl) ?_
  have h9 := hl (0, none, none) (by show ((0 : Nat) : Int) ≤ (pc_m (gI A k 1) (gI A k 2) (gI A k 3) (gI A k 4)) + 1; omega)
  refine mj_Xeq (sF_id fun p => ?_).symm h9
  exact if_neg (fun h => by cases h)
abbrev lL (A : mj_M) (l : Int) : Int → Bool := fun p => decide (gI A l p ≠ -1)
theorem ct_isLine {t l w q x y : Int} (hC : CS A t l w q) (hx : r32 x) (hy : r32 y) : mj_Cal G n_C_isLine [mR (some t), mI x, mI y] A (fun r A' => r = some (mI (if pc_il (lL A l) x y = true then 1 else 0)) ∧ A' = A) mj_no := by
  refine mj_bodyK 0 0 [some (mR (some t)), some (mI x), some (mI y)] rfl rfl rfl (by decide +kernel) (Nat.le_of_ble_eq_true rfl) (by simp) rfl ?_
  refine mx_R fun hR => ?_
  refine mj_cutB (pc_il (lL A l) x y = true) 27 ?_ (fun hJ_0 => ?_)
  · refine mx_zret d_C_isLine_27 rfl (mj_01) ?_
    exact ⟨rfl, rfl⟩
  · refine mx_iload_n 1 d_C_isLine_0 rfl rfl ?_
    refine mx_iload_n 2 d_C_isLine_1 rfl rfl ?_
    refine mx_callSN (kc := 0) (ks := 0) (N := n_H_isPoint) (as := [_, _]) d_C_isLine_2 s_C_21 ⟨Nat.le_of_ble_eq_true rfl, Nat.le_of_ble_eq_true rfl⟩ rfl (mj_wt_8 (Nat.le_of_ble_eq_true rfl)) (ct_isPoint hx hy) (fun r_2 A_2 h_2 => ?_)
    obtain ⟨rfl, hA_2⟩ := h_2
    obtain rfl := hA_2.symm
    clear hA_2
    refine mx_R fun hR_1 => ?_
    refine mx_if_eq 26 d_C_isLine_5 rfl (by first | assumption | exact hR_1 _ _ | exact hR _ _ | exact r32_mk (by omega) (by omega)) (fun c_5 => ?_) (fun c_5 => ?_)
    · refine mx_iconst d_C_isLine_26 ?_
      first | exact mj_j1 hJ_0 (by (unfold pc_il; rw [Bool.and_eq_true, decide_eq_true_iff, decide_eq_true_iff]; first | exact ⟨by omega, by rw [show 16 * y + x = y * 16 + x by omega]; assumption⟩ | (intro hx; rw [show 16 * y + x = y * 16 + x by omega] at hx; first | exact absurd (by assumption) hx.2 | omega))) | exact mj_j0 hJ_0 (by (unfold pc_il; rw [Bool.and_eq_true, decide_eq_true_iff, decide_eq_true_iff]; first | exact ⟨by omega, by rw [show 16 * y + x = y * 16 + x by omega]; assumption⟩ | (intro hx; rw [show 16 * y + x = y * 16 + x by omega] at hx; first | exact absurd (by assumption) hx.2 | omega)))
    · refine mx_aload_n 0 d_C_isLine_8 rfl rfl ?_
      refine mx_getPs 0 d_C_isLine_9 f_C_9 rfl rfl (hC.o) (hC.p0) ?_
      refine mx_iload_n 1 d_C_isLine_12 rfl rfl ?_
      refine mx_iload_n 2 d_C_isLine_13 rfl rfl ?_
      refine mx_callSN (kc := 0) (ks := 0) (N := n_H_placeOf) (as := [_, _]) d_C_isLine_14 s_C_25 ⟨Nat.le_of_ble_eq_true rfl, Nat.le_of_ble_eq_true rfl⟩ rfl (mj_wt_8 (Nat.le_of_ble_eq_true rfl)) (ct_placeOf) (fun r_14 A_14 h_14 => ?_)
      obtain ⟨rfl, hA_14⟩ := h_14
      obtain rfl := hA_14.symm
      clear hA_14
      refine mx_R fun hR_2 => ?_
      refine mx_iald d_C_isLine_17 (hC.s0) (by omega) (by omega) ?_
      refine mx_iconst d_C_isLine_18 ?_
      refine mx_icmp_eq 26 d_C_isLine_19 rfl (by first | assumption | exact hR_2 _ _ | exact hR_1 _ _ | exact hR _ _ | exact r32_mk (by omega) (by omega)) (by first | assumption | exact hR_2 _ _ | exact hR_1 _ _ | exact hR _ _ | exact r32_mk (by omega) (by omega)) (fun c_19 => ?_) (fun c_19 => ?_)
      · refine mx_iconst d_C_isLine_26 ?_
        first | exact mj_j1 hJ_0 (by (unfold pc_il; rw [Bool.and_eq_true, decide_eq_true_iff, decide_eq_true_iff]; first | exact ⟨by omega, by rw [show 16 * y + x = y * 16 + x by omega]; assumption⟩ | (intro hx; rw [show 16 * y + x = y * 16 + x by omega] at hx; first | exact absurd (by assumption) hx.2 | omega))) | exact mj_j0 hJ_0 (by (unfold pc_il; rw [Bool.and_eq_true, decide_eq_true_iff, decide_eq_true_iff]; first | exact ⟨by omega, by rw [show 16 * y + x = y * 16 + x by omega]; assumption⟩ | (intro hx; rw [show 16 * y + x = y * 16 + x by omega] at hx; first | exact absurd (by assumption) hx.2 | omega)))
      · refine mx_iconst d_C_isLine_22 ?_
        refine mx_goto 27 d_C_isLine_23 rfl ?_
        first | exact mj_j1 hJ_0 (by (unfold pc_il; rw [Bool.and_eq_true, decide_eq_true_iff, decide_eq_true_iff]; first | exact ⟨by omega, by rw [show 16 * y + x = y * 16 + x by omega]; assumption⟩ | (intro hx; rw [show 16 * y + x = y * 16 + x by omega] at hx; first | exact absurd (by assumption) hx.2 | omega))) | exact mj_j0 hJ_0 (by (unfold pc_il; rw [Bool.and_eq_true, decide_eq_true_iff, decide_eq_true_iff]; first | exact ⟨by omega, by rw [show 16 * y + x = y * 16 + x by omega]; assumption⟩ | (intro hx; rw [show 16 * y + x = y * 16 + x by omega] at hx; first | exact absurd (by assumption) hx.2 | omega)))
theorem ct_isOpen {t l w q p : Int} (hC : CS A t l w q) (hp : 0 ≤ p ∧ p < 192) : mj_Cal G n_C_isOpen [mR (some t), mI p] A (fun r A' => r = some (mI (if gI A l p = -1 ∧ gI A w p = 0 then 1 else 0)) ∧ A' = A) mj_no := by
  refine mj_bodyK 0 0 [some (mR (some t)), some (mI p)] rfl rfl rfl (by decide +kernel) (Nat.le_of_ble_eq_true rfl) (by simp) rfl ?_
  refine mx_R fun hR => ?_
  refine mj_cutB (gI A l p = -1 ∧ gI A w p = 0) 24 ?_ (fun hJ_0 => ?_)
  · refine mx_zret d_C_isOpen_24 rfl (by first | exact Or.inl rfl | exact Or.inr rfl | omega) ?_
    exact ⟨rfl, rfl⟩
  · refine mx_aload_n 0 d_C_isOpen_0 rfl rfl ?_
    refine mx_getPs 0 d_C_isOpen_1 f_C_9 rfl rfl (hC.o) (hC.p0) ?_
    refine mx_iload_n 1 d_C_isOpen_4 rfl rfl ?_
    refine mx_iald d_C_isOpen_5 (hC.s0) (by omega) (by omega) ?_
    refine mx_iconst d_C_isOpen_6 ?_
    refine mx_icmp_ne 23 d_C_isOpen_7 rfl (by first | assumption | exact hR _ _ | exact r32_mk (by omega) (by omega)) (by first | assumption | exact hR _ _ | exact r32_mk (by omega) (by omega)) (fun c_7 => ?_) (fun c_7 => ?_)
    · refine mx_iconst d_C_isOpen_23 ?_
      first | exact mj_j1 hJ_0 (by omega) | exact mj_j0 hJ_0 (by omega)
    · refine mx_aload_n 0 d_C_isOpen_10 rfl rfl ?_
      refine mx_getPs 1 d_C_isOpen_11 f_C_15 rfl rfl (hC.o) (hC.p1) ?_
      refine mx_iload_n 1 d_C_isOpen_14 rfl rfl ?_
      refine mx_iald d_C_isOpen_15 (hC.s1) (by omega) (by omega) ?_
      refine mx_if_ne 23 d_C_isOpen_16 rfl (by first | assumption | exact hR _ _ | exact r32_mk (by omega) (by omega)) (fun c_16 => ?_) (fun c_16 => ?_)
      · refine mx_iconst d_C_isOpen_23 ?_
        first | exact mj_j1 hJ_0 (by omega) | exact mj_j0 hJ_0 (by omega)
      · refine mx_iconst d_C_isOpen_19 ?_
        refine mx_goto 24 d_C_isOpen_20 rfl ?_
        first | exact mj_j1 hJ_0 (by omega) | exact mj_j0 hJ_0 (by omega)
abbrev hw_f (A : mj_M) (l w N : Int) : Int → Int := (fun p => if 0 ≤ p ∧ p < N ∧ pc_gp (lL A l) p = true ∧ ¬ lL A l p = true then 1 else gI A w p)
theorem gpE {L : Int → Bool} {x y : Int} (hx : 0 ≤ x ∧ x < 16) : pc_gp L (16 * y + x) = true ↔ (pc_il L (x - 1) y = true ∧ pc_il L (x + 1) y = true) ∨ (pc_il L x (y - 1) = true ∧ pc_il L x (y + 1) = true) := by
  unfold pc_gp
  rw [show (16 * y + x) % 16 = x by omega, show (16 * y + x) / 16 = y by omega, Bool.or_eq_true, Bool.and_eq_true, Bool.and_eq_true]
theorem ct_closeGaps {t l w q : Int} (hC : CS A t l w q) (hlw : l ≠ w) : mj_Cal G n_C_closeGaps [mR (some t)] A (fun r A' => r = none ∧ A' = sF A w (hw_f A l w 192)) mj_no := by
  refine mj_bodyK 0 0 [some (mR (some t)), none, none, none] rfl rfl rfl (by decide +kernel) (Nat.le_of_ble_eq_true rfl) (by simp) rfl ?_
  have eL : ∀ f, lL (sF A w f) l = lL A l := fun f => by
    funext p
    show decide (gI (sF A w f) l p ≠ -1) = _
    rw [gI_sF, if_neg hlw]
  have hl : ∀ q : Int × Int × Option mj_V, ((0 ≤ q.1 ∧ q.1 ≤ 11) ∧ (0 ≤ q.2.1 ∧ q.2.1 ≤ 16)) → (∀ l2 l3, mj_X G n_C_closeGaps (mj_Qm G n_C_closeGaps (fun r A' => r = none ∧ A' = sF A w (hw_f A l w 192)) mj_no) (sF A w (hw_f A l w (16 * q.1 + 16))) 0 0 2 [some (mR (some t)), some (mI (q.1 + 1)), l2, l3] []) → mj_X G n_C_closeGaps (mj_Qm G n_C_closeGaps (fun r A' => r = none ∧ A' = sF A w (hw_f A l w 192)) mj_no) (sF A w (hw_f A l w (16 * q.1 + q.2.1))) 0 0 10 [some (mR (some t)), some (mI q.1), some (mI q.2.1), q.2.2] [] := by
    refine mj_loop _ (fun q => (17 - q.2.1).toNat) _ ?_
    intro ⟨y, x, l3⟩ ⟨hy, hx⟩ ih hP
    replace hy : 0 ≤ y ∧ y ≤ 11 := hy
    replace hx : 0 ≤ x ∧ x ≤ 16 := hx
    replace hP : ∀ l2 l3, mj_X G n_C_closeGaps (mj_Qm G n_C_closeGaps (fun r A' => r = none ∧ A' = sF A w (hw_f A l w 192)) mj_no) (sF A w (hw_f A l w (16 * y + 16))) 0 0 2 [some (mR (some t)), some (mI (y + 1)), l2, l3] [] := hP
    show mj_X G n_C_closeGaps (mj_Qm G n_C_closeGaps (fun r A' => r = none ∧ A' = sF A w (hw_f A l w 192)) mj_no) (sF A w (hw_f A l w (16 * y + x))) 0 0 10 [some (mR (some t)), some (mI y), some (mI x), l3] []
    have hC1 : CS (sF A w (hw_f A l w (16 * y + x))) t l w q := hC
    have hil : pc_il (lL A l) x y = true ↔ ((0 ≤ x ∧ x < 16 ∧ 0 ≤ y ∧ y < 12) ∧ lL A l (16 * y + x) = true) := by
      unfold pc_il
      rw [Bool.and_eq_true, decide_eq_true_iff]
    refine mx_R fun hR => ?_
    refine mx_iload_n 2 d_C_closeGaps_10 rfl rfl ?_
    refine mx_bipush d_C_closeGaps_11 (by decide) ?_
    refine mx_icmp_ge 96 d_C_closeGaps_13 rfl (by first | assumption | exact hR _ _ | exact r32_mk (by omega) (by omega)) (by first | assumption | exact hR _ _ | exact r32_mk (by omega) (by omega)) (fun c_13 => ?_) (fun c_13 => ?_)
    · refine mx_iinc 1 d_C_closeGaps_96 rfl (Nat.le_of_ble_eq_true rfl) ?_
      refine mx_goto 2 d_C_closeGaps_99 rfl ?_
      have e16 : x = 16 := by omega
      subst e16
      exact hP _ _
    · refine mj_cutB (pc_gp (lL A l) (16 * y + x) = true) 65 ?_ (fun hJ_16 => ?_)
      · refine mx_istore_n 3 d_C_closeGaps_65 rfl (Nat.le_of_ble_eq_true rfl) ?_
        refine mx_iload_n 3 d_C_closeGaps_66 rfl rfl ?_
        refine mx_if_eq 90 d_C_closeGaps_67 rfl (by first | assumption | exact hR _ _ | exact r32_mk (by omega) (by omega)) (fun c_67 => ?_) (fun c_67 => ?_)
        · refine mx_iinc 2 d_C_closeGaps_90 rfl (Nat.le_of_ble_eq_true rfl) ?_
          refine mx_goto 10 d_C_closeGaps_93 rfl ?_
          have h9 := ih (y, x + 1, some (mI (if pc_gp (lL A l) (16 * y + x) = true then 1 else 0))) ⟨hy, ⟨by show 0 ≤ x + 1; omega, by show x + 1 ≤ 16; omega⟩⟩ (by show (17 - (x + 1)).toNat < (17 - x).toNat; omega) hP
          refine mj_Xeq (sF_congr fun p => ?_) h9
          by_cases ep : p = 16 * y + x
          · have hgp : pc_gp (lL A l) (16 * y + x) = pc_gp (lL A l) p := by rw [ep]
            have hlp : lL A l (16 * y + x) = lL A l p := by rw [ep]
            show _ = if 0 ≤ p ∧ p < 16 * y + (x + 1) ∧ pc_gp (lL A l) p = true ∧ ¬ lL A l p = true then 1 else gI A w p
            grind
          · show _ = if 0 ≤ p ∧ p < 16 * y + (x + 1) ∧ pc_gp (lL A l) p = true ∧ ¬ lL A l p = true then 1 else gI A w p
            grind
        · refine mx_aload_n 0 d_C_closeGaps_70 rfl rfl ?_
          refine mx_iload_n 2 d_C_closeGaps_71 rfl rfl ?_
          refine mx_iload_n 1 d_C_closeGaps_72 rfl rfl ?_
          refine mx_callV (kc := 0) (ks := 0) (N := n_C_isLine) (as := [_, _]) (ci := 3) d_C_closeGaps_73 s_C_81 ⟨Nat.le_of_ble_eq_true rfl, Nat.le_of_ble_eq_true rfl⟩ rfl (mj_wt_8 (Nat.le_of_ble_eq_true rfl)) (hC.o) ⟨_, rfl, rfl⟩ (ct_isLine hC1 (r32_mk (by omega) (by omega)) (r32_mk (by omega) (by omega))) (fun r_73 A_73 h_73 => ?_) (fun E_73 A_x h_73 => ?_)
          rotate_left
          · exact h_73.elim
          obtain ⟨rfl, hA_73⟩ := h_73
          obtain rfl := hA_73.symm
          clear hA_73
          refine mx_R fun hR_1 => ?_
          rw [eL]
          refine mx_if_ne 90 d_C_closeGaps_76 rfl (by first | assumption | exact hR_1 _ _ | exact hR _ _ | exact r32_mk (by omega) (by omega)) (fun c_76 => ?_) (fun c_76 => ?_)
          · refine mx_iinc 2 d_C_closeGaps_90 rfl (Nat.le_of_ble_eq_true rfl) ?_
            refine mx_goto 10 d_C_closeGaps_93 rfl ?_
            have h9 := ih (y, x + 1, some (mI (if pc_gp (lL A l) (16 * y + x) = true then 1 else 0))) ⟨hy, ⟨by show 0 ≤ x + 1; omega, by show x + 1 ≤ 16; omega⟩⟩ (by show (17 - (x + 1)).toNat < (17 - x).toNat; omega) hP
            refine mj_Xeq (sF_congr fun p => ?_) h9
            by_cases ep : p = 16 * y + x
            · have hgp : pc_gp (lL A l) (16 * y + x) = pc_gp (lL A l) p := by rw [ep]
              have hlp : lL A l (16 * y + x) = lL A l p := by rw [ep]
              show _ = if 0 ≤ p ∧ p < 16 * y + (x + 1) ∧ pc_gp (lL A l) p = true ∧ ¬ lL A l p = true then 1 else gI A w p
              grind
            · show _ = if 0 ≤ p ∧ p < 16 * y + (x + 1) ∧ pc_gp (lL A l) p = true ∧ ¬ lL A l p = true then 1 else gI A w p
              grind
          · refine mx_aload_n 0 d_C_closeGaps_79 rfl rfl ?_
            refine mx_getPs 1 d_C_closeGaps_80 f_C_15 rfl rfl (hC.o) (hC.p1) ?_
            refine mx_iload_n 2 d_C_closeGaps_83 rfl rfl ?_
            refine mx_iload_n 1 d_C_closeGaps_84 rfl rfl ?_
            refine mx_callSN (kc := 0) (ks := 0) (N := n_H_placeOf) (as := [_, _]) d_C_closeGaps_85 s_C_25 ⟨Nat.le_of_ble_eq_true rfl, Nat.le_of_ble_eq_true rfl⟩ rfl (mj_wt_8 (Nat.le_of_ble_eq_true rfl)) (ct_placeOf) (fun r_85 A_85 h_85 => ?_)
            obtain ⟨rfl, hA_85⟩ := h_85
            obtain rfl := hA_85.symm
            clear hA_85
            refine mx_R fun hR_2 => ?_
            refine mx_iconst d_C_closeGaps_88 ?_
            refine mx_iast d_C_closeGaps_89 (hC.s1) (by omega) (by omega) (by first | assumption | exact hR_2 _ _ | exact hR_1 _ _ | exact hR _ _ | exact r32_mk (by omega) (by omega)) ?_
            refine mx_R fun hR_3 => ?_
            rw [sI_sF]
            refine mx_iinc 2 d_C_closeGaps_90 rfl (Nat.le_of_ble_eq_true rfl) ?_
            refine mx_goto 10 d_C_closeGaps_93 rfl ?_
            have h9 := ih (y, x + 1, some (mI (if pc_gp (lL A l) (16 * y + x) = true then 1 else 0))) ⟨hy, ⟨by show 0 ≤ x + 1; omega, by show x + 1 ≤ 16; omega⟩⟩ (by show (17 - (x + 1)).toNat < (17 - x).toNat; omega) hP
            refine mj_Xeq (sF_congr fun p => ?_) h9
            by_cases ep : p = 16 * y + x
            · have hgp : pc_gp (lL A l) (16 * y + x) = pc_gp (lL A l) p := by rw [ep]
              have hlp : lL A l (16 * y + x) = lL A l p := by rw [ep]
              show _ = if 0 ≤ p ∧ p < 16 * y + (x + 1) ∧ pc_gp (lL A l) p = true ∧ ¬ lL A l p = true then 1 else gI A w p
              grind
            · show _ = if 0 ≤ p ∧ p < 16 * y + (x + 1) ∧ pc_gp (lL A l) p = true ∧ ¬ lL A l p = true then 1 else gI A w p
              grind
      · refine mx_aload_n 0 d_C_closeGaps_16 rfl rfl ?_
        refine mx_iload_n 2 d_C_closeGaps_17 rfl rfl ?_
        refine mx_iconst d_C_closeGaps_18 ?_
        refine mx_isub d_C_closeGaps_19 ?_
        refine mx_iload_n 1 d_C_closeGaps_20 rfl rfl ?_
        refine mx_callV (kc := 0) (ks := 0) (N := n_C_isLine) (as := [_, _]) (ci := 3) d_C_closeGaps_21 s_C_81 ⟨Nat.le_of_ble_eq_true rfl, Nat.le_of_ble_eq_true rfl⟩ rfl (mj_wt_8 (Nat.le_of_ble_eq_true rfl)) (hC.o) ⟨_, rfl, rfl⟩ (ct_isLine hC1 (r32_mk (by omega) (by omega)) (r32_mk (by omega) (by omega))) (fun r_21 A_21 h_21 => ?_) (fun E_21 A_x h_21 => ?_)
        rotate_left
        · exact h_21.elim
        obtain ⟨rfl, hA_21⟩ := h_21
        obtain rfl := hA_21.symm
        clear hA_21
        refine mx_R fun hR_4 => ?_
        rw [eL]
        refine mx_if_eq 38 d_C_closeGaps_24 rfl (by first | assumption | exact hR_4 _ _ | exact hR _ _ | exact r32_mk (by omega) (by omega)) (fun c_24 => ?_) (fun c_24 => ?_)
        · refine mx_aload_n 0 d_C_closeGaps_38 rfl rfl ?_
          refine mx_iload_n 2 d_C_closeGaps_39 rfl rfl ?_
          refine mx_iload_n 1 d_C_closeGaps_40 rfl rfl ?_
          refine mx_iconst d_C_closeGaps_41 ?_
          refine mx_isub d_C_closeGaps_42 ?_
          refine mx_callV (kc := 0) (ks := 0) (N := n_C_isLine) (as := [_, _]) (ci := 3) d_C_closeGaps_43 s_C_81 ⟨Nat.le_of_ble_eq_true rfl, Nat.le_of_ble_eq_true rfl⟩ rfl (mj_wt_8 (Nat.le_of_ble_eq_true rfl)) (hC.o) ⟨_, rfl, rfl⟩ (ct_isLine hC1 (r32_mk (by omega) (by omega)) (r32_mk (by omega) (by omega))) (fun r_43 A_43 h_43 => ?_) (fun E_43 A_x h_43 => ?_)
          rotate_left
          · exact h_43.elim
          obtain ⟨rfl, hA_43⟩ := h_43
          obtain rfl := hA_43.symm
          clear hA_43
          refine mx_R fun hR_5 => ?_
          rw [eL]
          refine mx_if_eq 64 d_C_closeGaps_46 rfl (by first | assumption | exact hR_5 _ _ | exact hR_4 _ _ | exact hR _ _ | exact r32_mk (by omega) (by omega)) (fun c_46 => ?_) (fun c_46 => ?_)
          · refine mx_iconst d_C_closeGaps_64 ?_
            first | exact mj_j1 hJ_16 (by (rw [gpE (by omega)]; grind)) | exact mj_j0 hJ_16 (by (rw [gpE (by omega)]; grind))
          · refine mx_aload_n 0 d_C_closeGaps_49 rfl rfl ?_
            refine mx_iload_n 2 d_C_closeGaps_50 rfl rfl ?_
            refine mx_iload_n 1 d_C_closeGaps_51 rfl rfl ?_
            refine mx_iconst d_C_closeGaps_52 ?_
            refine mx_iadd d_C_closeGaps_53 ?_
            refine mx_callV (kc := 0) (ks := 0) (N := n_C_isLine) (as := [_, _]) (ci := 3) d_C_closeGaps_54 s_C_81 ⟨Nat.le_of_ble_eq_true rfl, Nat.le_of_ble_eq_true rfl⟩ rfl (mj_wt_8 (Nat.le_of_ble_eq_true rfl)) (hC.o) ⟨_, rfl, rfl⟩ (ct_isLine hC1 (r32_mk (by omega) (by omega)) (r32_mk (by omega) (by omega))) (fun r_54 A_54 h_54 => ?_) (fun E_54 A_x h_54 => ?_)
            rotate_left
            · exact h_54.elim
            obtain ⟨rfl, hA_54⟩ := h_54
            obtain rfl := hA_54.symm
            clear hA_54
            refine mx_R fun hR_6 => ?_
            rw [eL]
            refine mx_if_eq 64 d_C_closeGaps_57 rfl (by first | assumption | exact hR_6 _ _ | exact hR_5 _ _ | exact hR_4 _ _ | exact hR _ _ | exact r32_mk (by omega) (by omega)) (fun c_57 => ?_) (fun c_57 => ?_)
            · refine mx_iconst d_C_closeGaps_64 ?_
              first | exact mj_j1 hJ_16 (by (rw [gpE (by omega)]; grind)) | exact mj_j0 hJ_16 (by (rw [gpE (by omega)]; grind))
            · refine mx_iconst d_C_closeGaps_60 ?_
              refine mx_goto 65 d_C_closeGaps_61 rfl ?_
              first | exact mj_j1 hJ_16 (by (rw [gpE (by omega)]; grind)) | exact mj_j0 hJ_16 (by (rw [gpE (by omega)]; grind))
        · refine mx_aload_n 0 d_C_closeGaps_27 rfl rfl ?_
          refine mx_iload_n 2 d_C_closeGaps_28 rfl rfl ?_
          refine mx_iconst d_C_closeGaps_29 ?_
          refine mx_iadd d_C_closeGaps_30 ?_
          refine mx_iload_n 1 d_C_closeGaps_31 rfl rfl ?_
          refine mx_callV (kc := 0) (ks := 0) (N := n_C_isLine) (as := [_, _]) (ci := 3) d_C_closeGaps_32 s_C_81 ⟨Nat.le_of_ble_eq_true rfl, Nat.le_of_ble_eq_true rfl⟩ rfl (mj_wt_8 (Nat.le_of_ble_eq_true rfl)) (hC.o) ⟨_, rfl, rfl⟩ (ct_isLine hC1 (r32_mk (by omega) (by omega)) (r32_mk (by omega) (by omega))) (fun r_32 A_32 h_32 => ?_) (fun E_32 A_x h_32 => ?_)
          rotate_left
          · exact h_32.elim
          obtain ⟨rfl, hA_32⟩ := h_32
          obtain rfl := hA_32.symm
          clear hA_32
          refine mx_R fun hR_7 => ?_
          rw [eL]
          refine mx_if_ne 60 d_C_closeGaps_35 rfl (by first | assumption | exact hR_7 _ _ | exact hR_4 _ _ | exact hR _ _ | exact r32_mk (by omega) (by omega)) (fun c_35 => ?_) (fun c_35 => ?_)
          · refine mx_iconst d_C_closeGaps_60 ?_
            refine mx_goto 65 d_C_closeGaps_61 rfl ?_
            first | exact mj_j1 hJ_16 (by (rw [gpE (by omega)]; grind)) | exact mj_j0 hJ_16 (by (rw [gpE (by omega)]; grind))
          · refine mx_aload_n 0 d_C_closeGaps_38 rfl rfl ?_
            refine mx_iload_n 2 d_C_closeGaps_39 rfl rfl ?_
            refine mx_iload_n 1 d_C_closeGaps_40 rfl rfl ?_
            refine mx_iconst d_C_closeGaps_41 ?_
            refine mx_isub d_C_closeGaps_42 ?_
            refine mx_callV (kc := 0) (ks := 0) (N := n_C_isLine) (as := [_, _]) (ci := 3) d_C_closeGaps_43 s_C_81 ⟨Nat.le_of_ble_eq_true rfl, Nat.le_of_ble_eq_true rfl⟩ rfl (mj_wt_8 (Nat.le_of_ble_eq_true rfl)) (hC.o) ⟨_, rfl, rfl⟩ (ct_isLine hC1 (r32_mk (by omega) (by omega)) (r32_mk (by omega) (by omega))) (fun r_43 A_43 h_43 => ?_) (fun E_43 A_x h_43 => ?_)
            rotate_left
            · exact h_43.elim
            obtain ⟨rfl, hA_43⟩ := h_43
            obtain rfl := hA_43.symm
            clear hA_43
            refine mx_R fun hR_8 => ?_
            rw [eL]
            refine mx_if_eq 64 d_C_closeGaps_46 rfl (by first | assumption | exact hR_8 _ _ | exact hR_7 _ _ | exact hR_4 _ _ | exact hR _ _ | exact r32_mk (by omega) (by omega)) (fun c_46 => ?_) (fun c_46 => ?_)
            · refine mx_iconst d_C_closeGaps_64 ?_
              first | exact mj_j1 hJ_16 (by (rw [gpE (by omega)]; grind)) | exact mj_j0 hJ_16 (by (rw [gpE (by omega)]; grind))
            · refine mx_aload_n 0 d_C_closeGaps_49 rfl rfl ?_
              refine mx_iload_n 2 d_C_closeGaps_50 rfl rfl ?_
              refine mx_iload_n 1 d_C_closeGaps_51 rfl rfl ?_
              refine mx_iconst d_C_closeGaps_52 ?_
              refine mx_iadd d_C_closeGaps_53 ?_
              refine mx_callV (kc := 0) (ks := 0) (N := n_C_isLine) (as := [_, _]) (ci := 3) d_C_closeGaps_54 s_C_81 ⟨Nat.le_of_ble_eq_true rfl, Nat.le_of_ble_eq_true rfl⟩ rfl (mj_wt_8 (Nat.le_of_ble_eq_true rfl)) (hC.o) ⟨_, rfl, rfl⟩ (ct_isLine hC1 (r32_mk (by omega) (by omega)) (r32_mk (by omega) (by omega))) (fun r_54 A_54 h_54 => ?_) (fun E_54 A_x h_54 => ?_)
              rotate_left
              · exact h_54.elim
              obtain ⟨rfl, hA_54⟩ := h_54
              obtain rfl := hA_54.symm
              clear hA_54
              refine mx_R fun hR_9 => ?_
              rw [eL]
              refine mx_if_eq 64 d_C_closeGaps_57 rfl (by first | assumption | exact hR_9 _ _ | exact hR_8 _ _ | exact hR_7 _ _ | exact hR_4 _ _ | exact hR _ _ | exact r32_mk (by omega) (by omega)) (fun c_57 => ?_) (fun c_57 => ?_)
              · refine mx_iconst d_C_closeGaps_64 ?_
                first | exact mj_j1 hJ_16 (by (rw [gpE (by omega)]; grind)) | exact mj_j0 hJ_16 (by (rw [gpE (by omega)]; grind))
              · refine mx_iconst d_C_closeGaps_60 ?_
                refine mx_goto 65 d_C_closeGaps_61 rfl ?_
                first | exact mj_j1 hJ_16 (by (rw [gpE (by omega)]; grind)) | exact mj_j0 hJ_16 (by (rw [gpE (by omega)]; grind))
  have ho : ∀ q : Int × Option mj_V × Option mj_V, (0 ≤ q.1 ∧ q.1 ≤ 12) → mj_X G n_C_closeGaps (mj_Qm G n_C_closeGaps (fun r A' => r = none ∧ A' = sF A w (hw_f A l w 192)) mj_no) (sF A w (hw_f A l w (16 * q.1))) 0 0 2 [some (mR (some t)), some (mI q.1), q.2.1, q.2.2] [] := by
    refine mj_loop _ (fun q => (13 - q.1).toNat) _ ?_
    intro ⟨y, l2, l3⟩ hy ih
    replace hy : 0 ≤ y ∧ y ≤ 12 := hy
    show mj_X G n_C_closeGaps (mj_Qm G n_C_closeGaps (fun r A' => r = none ∧ A' = sF A w (hw_f A l w 192)) mj_no) (sF A w (hw_f A l w (16 * y))) 0 0 2 [some (mR (some t)), some (mI y), l2, l3] []
    refine mx_R fun hR => ?_
    refine mx_iload_n 1 d_C_closeGaps_2 rfl rfl ?_
    refine mx_bipush d_C_closeGaps_3 (by decide) ?_
    refine mx_icmp_ge 102 d_C_closeGaps_5 rfl (by first | assumption | exact hR _ _ | exact r32_mk (by omega) (by omega)) (by first | assumption | exact hR _ _ | exact r32_mk (by omega) (by omega)) (fun c_5 => ?_) (fun c_5 => ?_)
    · refine mx_vret d_C_closeGaps_102 rfl ?_
      rw [show y = 12 by omega]
      exact ⟨rfl, rfl⟩
    · refine mx_iconst d_C_closeGaps_8 ?_
      refine mx_istore_n 2 d_C_closeGaps_9 rfl (Nat.le_of_ble_eq_true rfl) ?_
      have h9 := hl (y, 0, l3) ⟨⟨hy.1, by show y ≤ 11; omega⟩, by show (0 : Int) ≤ 0 ∧ (0 : Int) ≤ 16; omega⟩ (fun l2 l3 => by
        have h8 := ih (y + 1, l2, l3) ⟨by show 0 ≤ y + 1; omega, by show y + 1 ≤ 12; omega⟩ (by show (13 - (y + 1)).toNat < (13 - y).toNat; omega)
        rw [show 16 * (((y + 1, l2, l3) : Int × Option mj_V × Option mj_V).1) = 16 * y + 16 by show 16 * (y + 1) = _; omega] at h8
        exact h8)
      rw [show 16 * (((y, 0, l3) : Int × Int × Option mj_V).1) + (((y, 0, l3) : Int × Int × Option mj_V).2.1) = 16 * y by show 16 * y + 0 = _; omega] at h9
      exact h9
  refine mx_R fun hR => ?_
  refine mx_iconst d_C_closeGaps_0 ?_
  refine mx_istore_n 1 d_C_closeGaps_1 rfl (Nat.le_of_ble_eq_true rfl) ?_
  have h9 := ho (0, none, none) (by show (0 : Int) ≤ 0 ∧ (0 : Int) ≤ 12; omega)
  refine mj_Xeq (sF_id fun p => ?_).symm h9
  show (if 0 ≤ p ∧ p < 16 * 0 ∧ _ then (1 : Int) else gI A w p) = gI A w p
  rw [if_neg (by omega)]
end CLS2
