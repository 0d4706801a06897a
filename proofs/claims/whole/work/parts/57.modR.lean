/-! THE REFERENCE, 27: shoot, faults -/
section MODR
variable {G : mj_G} {A : mj_M}
/-- what is seen, laid in the order of the shots -/
def sh_v (V : mj_M) (s q : Int) : Int := mo_se V s (q / 192 - 24 * s) ((q % 192).tmod 16) ((q % 192).tdiv 16)
/-- the frames below k are shot -/
def sw_m (V W : mj_M) (s k : Int) : mj_M := sF (sF W 238 (fun q => if 24 * s ≤ q ∧ q < 24 * s + k then 1 else gI W 238 q)) 239 (fun q => if 192 * (24 * s) ≤ q ∧ q < 192 * (24 * s + k) then sh_v V s q else gI W 239 q)
/-- k is being shot: i points are kept -/
def sw_p (V W : mj_M) (s k i : Int) : mj_M := sF (sI (sw_m V W s k) 238 (24 * s + k) 1) 239 (fun q => if 192 * (24 * s + k) ≤ q ∧ q < 192 * (24 * s + k) + i then sh_v V s q else gI (sw_m V W s k) 239 q)
theorem sw_0 {V W : mj_M} {s : Int} : sw_m V W s 0 = W := by
  unfold sw_m
  refine mj_ext3 (fun _ => rfl) (fun c x => ?_) (fun _ _ => rfl)
  simp only [gI_sF]
  grind
theorem sw_p0 {V W : mj_M} {s k : Int} : sw_p V W s k 0 = sI (sw_m V W s k) 238 (24 * s + k) 1 := by
  unfold sw_p
  refine mj_ext3 (fun _ => rfl) (fun c x => ?_) (fun _ _ => rfl)
  rw [gI_sF]
  by_cases h : c = 239
  · rw [if_pos h, if_neg (by omega), h, gI_sI, if_neg (by omega)]
  · rw [if_neg h]
theorem sw_p1 {V W : mj_M} {s k i : Int} (hi : 0 ≤ i) : sI (sw_p V W s k i) 239 (192 * (24 * s + k) + i) (sh_v V s (192 * (24 * s + k) + i)) = sw_p V W s k (i + 1) := by
  unfold sw_p
  refine mj_ext3 (fun _ => rfl) (fun c x => ?_) (fun _ _ => rfl)
  simp only [gI_sI, gI_sF]
  by_cases h : x = 192 * (24 * s + k) + i
  · rw [h]; grind
  · grind
theorem sw_p2 {V W : mj_M} {s k : Int} (hk : 0 ≤ k) : sw_p V W s k 192 = sw_m V W s (k + 1) := by
  unfold sw_p sw_m
  refine mj_ext3 (fun _ => rfl) (fun c x => ?_) (fun _ _ => rfl)
  simp only [gI_sI, gI_sF]
  grind
/-- a frame that is not stale is as if it were shot again -/
theorem sw_n {V W : mj_M} {s k : Int} (hk : 0 ≤ k) (hb : gI W 238 (24 * s + k) = 0 ∨ gI W 238 (24 * s + k) = 1) (h : ¬ mo_st (sw_m V W s k) s k) (hv : ∀ x y, mo_se (sw_m V W s k) s k x y = mo_se V s k x y) : sw_m V W s (k + 1) = sw_m V W s k := by
  have h1 : gI (sw_m V W s k) 238 (24 * s + k) ≠ 0 := fun e => h (Or.inl e)
  have h2 : ∀ p, 0 ≤ p → p < 192 → gI (sw_m V W s k) 239 (192 * (24 * s + k) + p) = mo_se V s k (p.tmod 16) (p.tdiv 16) := fun p p0 p1 => by
    rw [← hv]
    by_cases e : gI (sw_m V W s k) 239 (192 * (24 * s + k) + p) = mo_se (sw_m V W s k) s k (p.tmod 16) (p.tdiv 16)
    · exact e
    · exact absurd (Or.inr ⟨p, p0, p1, e⟩) h
  have e1 : gI (sw_m V W s k) 238 (24 * s + k) = gI W 238 (24 * s + k) := by
    unfold sw_m
    simp only [gI_sF]
    grind
  have e2 : ∀ p, 0 ≤ p → gI (sw_m V W s k) 239 (192 * (24 * s + k) + p) = gI W 239 (192 * (24 * s + k) + p) := fun p p0 => by
    unfold sw_m
    simp only [gI_sF]
    grind
  refine mj_ext3 (fun _ => rfl) (fun c x => ?_) (fun _ _ => rfl)
  by_cases hx : c = 238 ∧ x = 24 * s + k
  · rw [hx.1, hx.2, e1]
    show (if 24 * s ≤ 24 * s + k ∧ 24 * s + k < 24 * s + (k + 1) then (1 : Int) else _) = _
    rw [if_pos (by omega)]
    rw [e1] at h1
    omega
  · by_cases hy : c = 239 ∧ 192 * (24 * s + k) ≤ x ∧ x < 192 * (24 * s + k) + 192
    · have h3 := h2 (x - 192 * (24 * s + k)) (by omega) (by omega)
      rw [show 192 * (24 * s + k) + (x - 192 * (24 * s + k)) = x by omega] at h3
      rw [hy.1, h3]
      show (if 192 * (24 * s) ≤ x ∧ x < 192 * (24 * s + (k + 1)) then sh_v V s x else _) = _
      rw [if_pos (by omega)]
      unfold sh_v
      rw [show x / 192 - 24 * s = k by omega, show x % 192 = x - 192 * (24 * s + k) by omega]
    · unfold sw_m
      simp only [gI_sF]
      grind
theorem sw_rv {V W : mj_M} {s k : Int} : ∀ c, 222 ≤ c → c ≤ 237 → gI (sw_m V W s k) c = gI W c := fun c h0 h1 => funext fun i => by
  unfold sw_m
  rw [gI_sF, if_neg (by omega), gI_sF, if_neg (by omega)]
theorem cm_shoot {C : Int → cT} {s : Int} (h : MI C A) (hb : ∀ k, gI A 238 k = 0 ∨ gI A 238 k = 1) (hs : r32 s) : mj_Cal G n_M_shoot [mR (some 200), mI s] A (fun r A' => ((0 ≤ s ∧ s < gI A 200 23) ∧ r = some (mI (mj_sum (fun f => mo_sb (vi C A) s f) (gI A 224 s).toNat)) ∧ ∃ W, LZ C (sI A 200 0 0) W ∧ A' = sw_m (vi C A) W s (gI A 224 s)) ∨ (¬ (0 ≤ s ∧ s < gI A 200 23) ∧ r = some (mI 0) ∧ A' = sI A 200 0 (if (0 ≤ s ∧ s < gI A 200 23) then 0 else 1))) mj_no := by
  refine mj_bodyK 0 0 [some (mR (some 200)), some (mI s), none, none, none] rfl rfl rfl (by decide +kernel) (Nat.le_of_ble_eq_true rfl) (by simp) rfl ?_
  have hM := h.M
  have hns := h.g.ns
  refine mx_R fun hR => ?_
  refine mx_aload_n 0 d_M_shoot_0 rfl rfl ?_
  refine mx_aload_n 0 d_M_shoot_1 rfl rfl ?_
  refine mx_iload_n 1 d_M_shoot_2 rfl rfl ?_
  refine mx_callV (kc := 0) (ks := 0) (N := n_M_isScene) (as := [_]) (ci := 7) d_M_shoot_3 s_M_196 ⟨Nat.le_of_ble_eq_true rfl, Nat.le_of_ble_eq_true rfl⟩ rfl (mj_wt_8 (Nat.le_of_ble_eq_true rfl)) (hM.o) ⟨_, rfl, rfl⟩ (cm_isScene hM hs hns) (fun r_3 A_3 h_3 => ?_) (fun E_3 A_x h_3 => ?_)
  rotate_left
  · exact h_3.elim
  obtain ⟨rfl, hA_3⟩ := h_3
  obtain rfl := hA_3.symm
  clear hA_3
  refine mx_R fun hR_1 => ?_
  refine mx_callV (kc := 0) (ks := 0) (N := n_M_asked1) (as := [_]) (ci := 7) d_M_shoot_6 s_M_138 ⟨Nat.le_of_ble_eq_true rfl, Nat.le_of_ble_eq_true rfl⟩ rfl (mj_wt_8 (Nat.le_of_ble_eq_true rfl)) (hM.o) ⟨_, rfl, rfl⟩ (cm_asked1 _ hM) (fun r_6 A_6 h_6 => ?_) (fun E_6 A_x h_6 => ?_)
  rotate_left
  · exact h_6.elim
  obtain ⟨rfl, hA_6⟩ := h_6
  obtain rfl := hA_6.symm
  clear hA_6
  refine mx_R fun hR_2 => ?_
  refine mx_if_ne 14 d_M_shoot_9 rfl (by first | assumption | exact hR_2 _ _ | exact hR_1 _ _ | exact hR _ _ | exact r32_mk (by omega) (by omega)) (fun c_9 => ?_) (fun c_9 => ?_)
  · have hT : (0 ≤ s ∧ s < gI A 200 23) := by omega
    refine mj_Xeq (A' := sI A 200 0 0) (by rw [if_pos hT]) ?_
    have h0 := MI_0 (v := 0) h
    refine mx_R fun hR => ?_
    refine mx_aload_n 0 d_M_shoot_14 rfl rfl ?_
    refine mx_callV (kc := 0) (ks := 0) (N := n_M_lays) (as := []) (ci := 7) d_M_shoot_15 s_M_229 ⟨Nat.le_of_ble_eq_true rfl, Nat.le_of_ble_eq_true rfl⟩ rfl (mj_wt_8 (Nat.le_of_ble_eq_true rfl)) (hM.o) ⟨_, rfl, rfl⟩ (cm_lays (C := C) h0.M h0.g.nd h0.z h0.C) (fun r_15 A_15 h_15 => ?_) (fun E_15 A_x h_15 => ?_)
    rotate_left
    · exact h_15.elim
    obtain ⟨rfl, y1, y2, y3, y4, y5⟩ := h_15
    refine mx_R fun hR_1 => ?_
    have hM := ly_MS y1 h0.M
    have hL : LZ C (sI A 200 0 0) A_15 := ⟨y1, y2, y3, y4, y5⟩
    have hfr := h.g.fr s hT.1 hT.2
    have e24 : gI A_15 224 s = gI A 224 s := y1.I 224 s (by omega) (by omega)
    have e23 : gI A_15 200 23 = gI A 200 23 := ly_2 y1 23 (by omega)
    have hb15 : ∀ k, gI A_15 238 k = 0 ∨ gI A_15 238 k = 1 := fun k => by rw [ly_fn y1 (c := 238) (by omega) (by omega)]; exact hb k
    have hg := ly_rg y1 h0.g
    have hp := ly_pg y1 h0.p
    have hh := ly_hg y1 h0.h
    have hco : ∀ k, 0 ≤ gI A_15 222 k ∧ gI A_15 222 k ≤ 99 := by rw [ly_fn y1 (c := 222) (by omega) (by omega)]; exact h0.co
    have hse : ∀ f, 0 ≤ f → f < gI A 224 s → ∀ x y, mo_se A_15 s f x y = mo_se (vi C A) s f x y := fun f f0 f1 x y => by rw [vi_se hL h0.g hT ⟨f0, f1⟩, vi_0]
    have hl : ∀ q : Nat × Option mj_V, (q.1 : Int) ≤ gI A 224 s → mj_X G n_M_shoot (mj_Qm G n_M_shoot (fun r A' => ((0 ≤ s ∧ s < gI A 200 23) ∧ r = some (mI (mj_sum (fun f => mo_sb (vi C A) s f) (gI A 224 s).toNat)) ∧ ∃ W, LZ C (sI A 200 0 0) W ∧ A' = sw_m (vi C A) W s (gI A 224 s)) ∨ (¬ (0 ≤ s ∧ s < gI A 200 23) ∧ r = some (mI 0) ∧ A' = sI A 200 0 (if (0 ≤ s ∧ s < gI A 200 23) then 0 else 1))) mj_no) (sw_m (vi C A) A_15 s q.1) 0 0 22 [some (mR (some 200)), some (mI s), some (mI (mj_sum (fun f => mo_sb (vi C A) s f) q.1)), some (mI (q.1 : Int)), q.2] [] := by
      refine mj_loop _ (fun q => 25 - q.1) _ ?_
      intro ⟨k, l4⟩ hk ih
      replace hk : (k : Int) ≤ gI A 224 s := hk
      show mj_X G n_M_shoot (mj_Qm G n_M_shoot (fun r A' => ((0 ≤ s ∧ s < gI A 200 23) ∧ r = some (mI (mj_sum (fun f => mo_sb (vi C A) s f) (gI A 224 s).toNat)) ∧ ∃ W, LZ C (sI A 200 0 0) W ∧ A' = sw_m (vi C A) W s (gI A 224 s)) ∨ (¬ (0 ≤ s ∧ s < gI A 200 23) ∧ r = some (mI 0) ∧ A' = sI A 200 0 (if (0 ≤ s ∧ s < gI A 200 23) then 0 else 1))) mj_no) (sw_m (vi C A) A_15 s k) 0 0 22 [some (mR (some 200)), some (mI s), some (mI (mj_sum (fun f => mo_sb (vi C A) s f) k)), some (mI (k : Int)), l4] []
      have e24k : gI (sw_m (vi C A) A_15 s k) 224 s = gI A 224 s := e24
      have hsw : (k : Int) < gI A 224 s → ∀ x y, mo_se (sw_m (vi C A) A_15 s k) s k x y = mo_se (vi C A) s k x y := fun hk x y => by rw [mo_se_c sw_rv rfl, hse k (by omega) hk]
      have hst : (k : Int) < gI A 224 s → mo_sb (sw_m (vi C A) A_15 s k) s k = mo_sb (vi C A) s k := fun hk => mo_sb_c (mo_st_c (by
        rw [vi_fn (by omega), ← show gI A_15 238 = gI A 238 from ly_fn y1 (c := 238) (by omega) (by omega)]
        unfold sw_m
        simp only [gI_sF]
        grind) (fun p p0 p1 => by
        rw [vi_fn (by omega), ← show gI A_15 239 = gI A 239 from ly_fn y1 (c := 239) (by omega) (by omega)]
        unfold sw_m
        simp only [gI_sF]
        grind) (hsw hk))
      have e9 : ((k + 1 : Nat) : Int) = (k : Int) + 1 := by omega
      refine mx_R fun hR => ?_
      refine mx_iload_n 3 d_M_shoot_22 rfl rfl ?_
      refine mx_aload_n 0 d_M_shoot_23 rfl rfl ?_
      refine mx_getPs 24 d_M_shoot_24 f_M_65 rfl rfl (hM.o) (hM.p24) ?_
      refine mx_iload_n 1 d_M_shoot_27 rfl rfl ?_
      refine mx_iald d_M_shoot_28 (hM.s24) (by omega) (by omega) ?_
      rw [e24k]
      refine mx_icmp_ge 113 d_M_shoot_29 rfl (by first | assumption | exact hR _ _ | exact r32_mk (by omega) (by omega)) (by first | assumption | exact hR _ _ | exact r32_mk (by omega) (by omega)) (fun c_29 => ?_) (fun c_29 => ?_)
      · refine mx_iload_n 2 d_M_shoot_113 rfl rfl ?_
        refine mx_iret d_M_shoot_114 rfl ?_
        refine Or.inl ⟨hT, ?_, A_15, hL, ?_⟩
        · rw [show (gI A 224 s).toNat = k by omega]
        · rw [show gI A 224 s = k by omega]
      · refine mx_aload_n 0 d_M_shoot_32 rfl rfl ?_
        refine mx_iload_n 1 d_M_shoot_33 rfl rfl ?_
        refine mx_iload_n 3 d_M_shoot_34 rfl rfl ?_
        refine mx_callV (kc := 0) (ks := 0) (N := n_M_isStale) (as := [_, _]) (ci := 7) d_M_shoot_35 s_M_232 ⟨Nat.le_of_ble_eq_true rfl, Nat.le_of_ble_eq_true rfl⟩ rfl (mj_wt_8 (Nat.le_of_ble_eq_true rfl)) (hM.o) ⟨_, rfl, rfl⟩ (cm_isStale2 (A := sw_m (vi C A) A_15 s k) hM hg hp hh y2.pi (by show 0 ≤ s ∧ s < gI A_15 200 23; rw [e23]; exact hT) (by rw [e24k]; exact ⟨by omega, by omega⟩) hco) (fun r_35 A_35 h_35 => ?_) (fun E_35 A_x h_35 => ?_)
        rotate_left
        · exact h_35.elim
        obtain ⟨rfl, hA_35⟩ := h_35
        obtain rfl := hA_35.symm
        clear hA_35
        refine mx_R fun hR_1 => ?_
        rw [hst (by omega)]
        have hsb := mo_sb_01 (A := (vi C A)) (s := s) (f := k)
        refine mx_if_eq 107 d_M_shoot_38 rfl (by first | assumption | exact hR_1 _ _ | exact hR _ _ | exact r32_mk (by omega) (by omega)) (fun c_38 => ?_) (fun c_38 => ?_)
        · skip
          refine mx_R fun hR => ?_
          refine mx_iinc 3 d_M_shoot_107 rfl (Nat.le_of_ble_eq_true rfl) ?_
          refine mx_goto 22 d_M_shoot_110 rfl ?_
          have h9 := ih (k + 1, l4) (by show ((k + 1 : Nat) : Int) ≤ _; omega) (by show 25 - (k + 1) < 25 - k; omega)
          have h8 : mj_sum (fun f => mo_sb (vi C A) s f) (k + 1) = mj_sum (fun f => mo_sb (vi C A) s f) k := by
            show mj_sum (fun f => mo_sb (vi C A) s f) k + mo_sb (vi C A) s k = _
            omega
          have h7 : sw_m (vi C A) A_15 s ((k : Int) + 1) = sw_m (vi C A) A_15 s k := sw_n (by omega) (hb15 _) (fun hx => by
            have := (hst (by omega)).symm.trans (mo_sb_1 hx)
            omega) (hsw (by omega))
          replace h9 : mj_X G n_M_shoot (mj_Qm G n_M_shoot (fun r A' => ((0 ≤ s ∧ s < gI A 200 23) ∧ r = some (mI (mj_sum (fun f => mo_sb (vi C A) s f) (gI A 224 s).toNat)) ∧ ∃ W, LZ C (sI A 200 0 0) W ∧ A' = sw_m (vi C A) W s (gI A 224 s)) ∨ (¬ (0 ≤ s ∧ s < gI A 200 23) ∧ r = some (mI 0) ∧ A' = sI A 200 0 (if (0 ≤ s ∧ s < gI A 200 23) then 0 else 1))) mj_no) (sw_m (vi C A) A_15 s ((k + 1 : Nat) : Int)) 0 0 22 [some (mR (some 200)), some (mI s), some (mI (mj_sum (fun f => mo_sb (vi C A) s f) (k + 1))), some (mI ((k + 1 : Nat) : Int)), l4] [] := h9
          rw [e9, h7, h8] at h9
          exact h9
        · refine mx_iinc 2 d_M_shoot_41 rfl (Nat.le_of_ble_eq_true rfl) ?_
          refine mx_aload_n 0 d_M_shoot_44 rfl rfl ?_
          refine mx_getPs 38 d_M_shoot_45 f_M_104 rfl rfl (hM.o) (hM.p38) ?_
          refine mx_bipush d_M_shoot_48 (by decide) ?_
          refine mx_iload_n 1 d_M_shoot_50 rfl rfl ?_
          refine mx_imul d_M_shoot_51 ?_
          refine mx_iload_n 3 d_M_shoot_52 rfl rfl ?_
          refine mx_iadd d_M_shoot_53 ?_
          refine mx_iconst d_M_shoot_54 ?_
          refine mx_zast d_M_shoot_55 (hM.s38) (by omega) (by omega) (by first | exact Or.inl rfl | exact Or.inr rfl | omega) ?_
          refine mx_R fun hR_2 => ?_
          rw [← sw_p0]
          refine mx_iconst d_M_shoot_56 ?_
          refine mx_istore 4 d_M_shoot_57 (Nat.le_of_ble_eq_true rfl) ?_
          have hi : ∀ i : Int, (0 ≤ i ∧ i ≤ 192) → mj_X G n_M_shoot (mj_Qm G n_M_shoot (fun r A' => ((0 ≤ s ∧ s < gI A 200 23) ∧ r = some (mI (mj_sum (fun f => mo_sb (vi C A) s f) (gI A 224 s).toNat)) ∧ ∃ W, LZ C (sI A 200 0 0) W ∧ A' = sw_m (vi C A) W s (gI A 224 s)) ∨ (¬ (0 ≤ s ∧ s < gI A 200 23) ∧ r = some (mI 0) ∧ A' = sI A 200 0 (if (0 ≤ s ∧ s < gI A 200 23) then 0 else 1))) mj_no) (sw_p (vi C A) A_15 s k i) 0 0 59 [some (mR (some 200)), some (mI s), some (mI (mj_sum (fun f => mo_sb (vi C A) s f) k + 1)), some (mI (k : Int)), some (mI i)] [] := by
            refine mj_loop _ (fun i => (192 - i).toNat) _ ?_
            intro i hi ih2
            have hsp : ∀ x y, mo_se (sw_p (vi C A) A_15 s k i) s k x y = mo_se (vi C A) s k x y := fun x y => by
              rw [← hsw (by omega) x y]
              refine mo_se_c (fun c h0 h1 => funext fun j => ?_) rfl
              unfold sw_p
              rw [gI_sF, if_neg (by omega), gI_sI, if_neg (by omega)]
            have hsb2 : i < 192 → 0 ≤ mo_se (vi C A) s k (i.tmod 16) (i.tdiv 16) ∧ mo_se (vi C A) s k (i.tmod 16) (i.tdiv 16) ≤ 99 := fun _ => by
              rw [← hse k (by omega) (by omega)]
              exact mo_sl_b hco 4
            refine mx_R fun hR => ?_
            refine mx_iload 4 d_M_shoot_59 rfl ?_
            refine mx_sipush d_M_shoot_61 (by decide) ?_
            refine mx_icmp_ge 107 d_M_shoot_64 rfl (by first | assumption | exact hR _ _ | exact r32_mk (by omega) (by omega)) (by first | assumption | exact hR _ _ | exact r32_mk (by omega) (by omega)) (fun c_64 => ?_) (fun c_64 => ?_)
            · refine mx_iinc 3 d_M_shoot_107 rfl (Nat.le_of_ble_eq_true rfl) ?_
              refine mx_goto 22 d_M_shoot_110 rfl ?_
              have h9 := ih (k + 1, some (mI i)) (by show ((k + 1 : Nat) : Int) ≤ _; omega) (by show 25 - (k + 1) < 25 - k; omega)
              have h8 : mj_sum (fun f => mo_sb (vi C A) s f) (k + 1) = mj_sum (fun f => mo_sb (vi C A) s f) k + 1 := by
                show mj_sum (fun f => mo_sb (vi C A) s f) k + mo_sb (vi C A) s k = _
                omega
              replace h9 : mj_X G n_M_shoot (mj_Qm G n_M_shoot (fun r A' => ((0 ≤ s ∧ s < gI A 200 23) ∧ r = some (mI (mj_sum (fun f => mo_sb (vi C A) s f) (gI A 224 s).toNat)) ∧ ∃ W, LZ C (sI A 200 0 0) W ∧ A' = sw_m (vi C A) W s (gI A 224 s)) ∨ (¬ (0 ≤ s ∧ s < gI A 200 23) ∧ r = some (mI 0) ∧ A' = sI A 200 0 (if (0 ≤ s ∧ s < gI A 200 23) then 0 else 1))) mj_no) (sw_m (vi C A) A_15 s ((k + 1 : Nat) : Int)) 0 0 22 [some (mR (some 200)), some (mI s), some (mI (mj_sum (fun f => mo_sb (vi C A) s f) (k + 1))), some (mI ((k + 1 : Nat) : Int)), some (mI i)] [] := h9
              rw [e9, h8, ← sw_p2 (by omega)] at h9
              rw [show i = 192 by omega] at h9 ⊢
              exact h9
            · refine mx_aload_n 0 d_M_shoot_67 rfl rfl ?_
              refine mx_getPs 39 d_M_shoot_68 f_M_107 rfl rfl (hM.o) (hM.p39) ?_
              refine mx_sipush d_M_shoot_71 (by decide) ?_
              refine mx_bipush d_M_shoot_74 (by decide) ?_
              refine mx_iload_n 1 d_M_shoot_76 rfl rfl ?_
              refine mx_imul d_M_shoot_77 ?_
              refine mx_iload_n 3 d_M_shoot_78 rfl rfl ?_
              refine mx_iadd d_M_shoot_79 ?_
              refine mx_imul d_M_shoot_80 ?_
              refine mx_iload 4 d_M_shoot_81 rfl ?_
              refine mx_iadd d_M_shoot_83 ?_
              refine mx_aload_n 0 d_M_shoot_84 rfl rfl ?_
              refine mx_iload_n 1 d_M_shoot_85 rfl rfl ?_
              refine mx_iload_n 3 d_M_shoot_86 rfl rfl ?_
              refine mx_iload 4 d_M_shoot_87 rfl ?_
              refine mx_bipush d_M_shoot_89 (by decide) ?_
              refine mx_irem d_M_shoot_91 (by first | assumption | exact hR _ _ | exact r32_mk (by omega) (by omega)) (by first | assumption | exact hR _ _ | exact r32_mk (by omega) (by omega)) (by omega) ?_
              refine mx_iload 4 d_M_shoot_92 rfl ?_
              refine mx_bipush d_M_shoot_94 (by decide) ?_
              refine mx_idiv d_M_shoot_96 (by first | assumption | exact hR _ _ | exact r32_mk (by omega) (by omega)) (by first | assumption | exact hR _ _ | exact r32_mk (by omega) (by omega)) (by omega) ?_
              refine mx_callV (kc := 0) (ks := 0) (N := n_M_seenAt) (as := [_, _, _, _]) (ci := 7) d_M_shoot_97 s_M_226 ⟨Nat.le_of_ble_eq_true rfl, Nat.le_of_ble_eq_true rfl⟩ rfl (mj_wt_8 (Nat.le_of_ble_eq_true rfl)) (hM.o) ⟨_, rfl, rfl⟩ (cm_seenAt (A := sw_p (vi C A) A_15 s k i) hM hg hp hh y2.pi (by show 0 ≤ s ∧ s < gI A_15 200 23; rw [e23]; exact hT) (by show 0 ≤ (k : Int) ∧ (k : Int) < gI A_15 224 s; rw [e24]; exact ⟨by omega, by omega⟩) (mo_ip_p ⟨hi.1, by omega⟩)) (fun r_97 A_97 h_97 => ?_) (fun E_97 A_x h_97 => ?_)
              rotate_left
              · exact h_97.elim
              obtain ⟨rfl, hA_97⟩ := h_97
              obtain rfl := hA_97.symm
              clear hA_97
              refine mx_R fun hR_1 => ?_
              rw [hsp]
              refine mx_iast d_M_shoot_100 (hM.s39) (by omega) (by omega) (by have := hsb2 (by omega); exact r32_mk (by omega) (by omega)) ?_
              refine mx_R fun hR_2 => ?_
              rw [show mo_se (vi C A) s k (i.tmod 16) (i.tdiv 16) = sh_v (vi C A) s (192 * (24 * s + (k : Int)) + i) by
                unfold sh_v
                rw [show (192 * (24 * s + (k : Int)) + i) / 192 - 24 * s = k by omega, show (192 * (24 * s + (k : Int)) + i) % 192 = i by omega], sw_p1 hi.1]
              refine mx_iinc 4 d_M_shoot_101 rfl (Nat.le_of_ble_eq_true rfl) ?_
              refine mx_goto 59 d_M_shoot_104 rfl ?_
              exact ih2 (i + 1) ⟨by omega, by omega⟩ (by omega)
          exact hi 0 ⟨by omega, by omega⟩
    refine mx_iconst d_M_shoot_18 ?_
    refine mx_istore_n 2 d_M_shoot_19 rfl (Nat.le_of_ble_eq_true rfl) ?_
    refine mx_iconst d_M_shoot_20 ?_
    refine mx_istore_n 3 d_M_shoot_21 rfl (Nat.le_of_ble_eq_true rfl) ?_
    refine mj_Xeq (sw_0 (V := (vi C A)) (s := s)).symm ?_
    exact hl (0, none) (by show ((0 : Nat) : Int) ≤ gI A 224 s; omega)
  · refine mx_iconst d_M_shoot_12 ?_
    refine mx_iret d_M_shoot_13 rfl ?_
    exact Or.inr ⟨by omega, rfl, rfl⟩
end MODR
