/-! CONSTRUCTORS -/
section INI
variable {G : mj_G} {A : mj_M}
theorem ct_K_init {t : Int} (ht : gS A t = some (.inl 5)) : mj_Cal G n_K_init [mR (some t)] A (fun r A' => r = none ∧ A' = A) mj_no := by
  refine mj_bodyK 0 0 [some (mR (some t))] rfl rfl rfl (by decide +kernel) (Nat.le_of_ble_eq_true rfl) (by simp) rfl ?_
  refine mx_R fun hR => ?_
  refine mx_aload_n 0 d_K_init_0 rfl rfl ?_
  refine mx_objInit d_K_init_1 s_K_1 mj_oi2 mj_oi3 (Nat.le_of_ble_eq_true rfl) (mj_wt_12 (Nat.le_of_ble_eq_true rfl)) (mj_sne (by assumption)) ?_
  refine mx_vret d_K_init_4 rfl ?_
  exact ⟨rfl, rfl⟩
/-- a picture's rows -/
def pcr_m (A : mj_M) (t l w q : Int) : mj_M := sP (sN (sP (sN (sP (sN A l (.inr (0, 192))) t 0 (some l)) w (.inr (0, 192))) t 1 (some w)) q (.inr (0, 192))) t 2 (some q)
theorem pcr_S {t l w q c : Int} : gS (pcr_m A t l w q) c = if c = q then some (.inr (0, 192)) else if c = w then some (.inr (0, 192)) else if c = l then some (.inr (0, 192)) else gS A c := rfl
theorem ct_C_init {t l w q : Int} (ht : gS A t = some (.inl 3)) (hl : gS A l = none) (hw : gS A w = none) (hq : gS A q = none) (n1 : l ≠ w) (n2 : l ≠ q) (n3 : w ≠ q) (n4 : t ≠ l) (n5 : t ≠ w) (n6 : t ≠ q) : mj_Cal G n_C_init [mR (some t)] A (fun r A' => r = none ∧ A' = pcr_m A t l w q) mj_no := by
  refine mj_bodyK 3 576 [some (mR (some t))] rfl rfl rfl (by decide +kernel) (Nat.le_of_ble_eq_true rfl) (by simp) rfl ?_
  refine mx_R fun hR => ?_
  refine mx_aload_n 0 d_C_init_0 rfl rfl ?_
  refine mx_objInit d_C_init_1 s_C_3 mj_oi2 mj_oi3 (Nat.le_of_ble_eq_true rfl) (mj_wt_12 (Nat.le_of_ble_eq_true rfl)) (mj_sne (by assumption)) ?_
  refine mx_aload_n 0 d_C_init_4 rfl rfl ?_
  refine mx_sipush d_C_init_5 (by decide) ?_
  refine mx_newa (kc := 2) (ks := 384) (n1 := 192) (l) d_C_init_8 (by decide) rfl mj_ac0 (hl) (rfl) (by decide) ?_
  refine mx_R fun hR_1 => ?_
  refine mx_putP 0 d_C_init_10 f_C_9 rfl ((by (try simp only [gS_sI, gS_sP, gS_sN]); grind)) (Or.inr ⟨rfl, _, rfl, rfl⟩) (Or.inr ⟨_, rfl⟩) ?_
  refine mx_R fun hR_2 => ?_
  refine mx_aload_n 0 d_C_init_13 rfl rfl ?_
  refine mx_sipush d_C_init_14 (by decide) ?_
  refine mx_newa (kc := 1) (ks := 192) (n1 := 192) (w) d_C_init_17 (by decide) rfl mj_ac0 ((by (try simp only [gS_sI, gS_sP, gS_sN]); grind)) (rfl) (by decide) ?_
  refine mx_R fun hR_3 => ?_
  refine mx_putP 1 d_C_init_19 f_C_15 rfl ((by (try simp only [gS_sI, gS_sP, gS_sN]); grind)) (Or.inr ⟨rfl, _, rfl, rfl⟩) (Or.inr ⟨_, rfl⟩) ?_
  refine mx_R fun hR_4 => ?_
  refine mx_aload_n 0 d_C_init_22 rfl rfl ?_
  refine mx_sipush d_C_init_23 (by decide) ?_
  refine mx_newa (kc := 0) (ks := 0) (n1 := 192) (q) d_C_init_26 (by decide) rfl mj_ac0 ((by (try simp only [gS_sI, gS_sP, gS_sN]); grind)) (rfl) (by decide) ?_
  refine mx_R fun hR_5 => ?_
  refine mx_putP 2 d_C_init_28 f_C_18 rfl ((by (try simp only [gS_sI, gS_sP, gS_sN]); grind)) (Or.inr ⟨rfl, _, rfl, rfl⟩) (Or.inr ⟨_, rfl⟩) ?_
  refine mx_R fun hR_6 => ?_
  refine mx_vret d_C_init_31 rfl ?_
  exact ⟨rfl, rfl⟩
def fl_i (A : mj_M) (t l w : Int) : mj_M := sP (sN (sP (sN A l (.inr (0, 192))) t 0 (some l)) w (.inr (0, 192))) t 1 (some w)
theorem ct_F_init {t l w : Int} (ht : gS A t = some (.inl 1)) (hl : gS A l = none) (hw : gS A w = none) (n1 : l ≠ w) (n4 : t ≠ l) (n5 : t ≠ w) : mj_Cal G n_F_init [mR (some t)] A (fun r A' => r = none ∧ A' = fl_i A t l w) mj_no := by
  refine mj_bodyK 2 384 [some (mR (some t))] rfl rfl rfl (by decide +kernel) (Nat.le_of_ble_eq_true rfl) (by simp) rfl ?_
  refine mx_R fun hR => ?_
  refine mx_aload_n 0 d_F_init_0 rfl rfl ?_
  refine mx_objInit d_F_init_1 s_F_3 mj_oi2 mj_oi3 (Nat.le_of_ble_eq_true rfl) (mj_wt_12 (Nat.le_of_ble_eq_true rfl)) (mj_sne (by assumption)) ?_
  refine mx_aload_n 0 d_F_init_4 rfl rfl ?_
  refine mx_sipush d_F_init_5 (by decide) ?_
  refine mx_newa (kc := 1) (ks := 192) (n1 := 192) (l) d_F_init_8 (by decide) rfl mj_ac0 (hl) (rfl) (by decide) ?_
  refine mx_R fun hR_1 => ?_
  refine mx_putP 0 d_F_init_10 f_F_9 rfl ((by (try simp only [gS_sI, gS_sP, gS_sN]); grind)) (Or.inr ⟨rfl, _, rfl, rfl⟩) (Or.inr ⟨_, rfl⟩) ?_
  refine mx_R fun hR_2 => ?_
  refine mx_aload_n 0 d_F_init_13 rfl rfl ?_
  refine mx_sipush d_F_init_14 (by decide) ?_
  refine mx_newa (kc := 0) (ks := 0) (n1 := 192) (w) d_F_init_17 (by decide) rfl mj_ac0 ((by (try simp only [gS_sI, gS_sP, gS_sN]); grind)) (rfl) (by decide) ?_
  refine mx_R fun hR_3 => ?_
  refine mx_putP 1 d_F_init_19 f_F_15 rfl ((by (try simp only [gS_sI, gS_sP, gS_sN]); grind)) (Or.inr ⟨rfl, _, rfl, rfl⟩) (Or.inr ⟨_, rfl⟩) ?_
  refine mx_R fun hR_4 => ?_
  refine mx_vret d_F_init_22 rfl ?_
  exact ⟨rfl, rfl⟩
/-- a peg's rows -/
def pg_m (A : mj_M) (t : Int) (v : Option Int) : mj_M := sP (sN (sP (sN (sP (sN (sP A t 0 v) (t + 1) (.inr (1, 24))) t 1 (some (t + 1))) (t + 2) (.inr (0, 24))) t 2 (some (t + 2))) (t + 3) (.inr (0, 24))) t 3 (some (t + 3))
theorem ct_P_init {t : Int} {v : Option Int} (ht : gS A t = some (.inl 2)) (hf : ∀ j, 1 ≤ j → j ≤ 3 → gS A (t + j) = none) : mj_Cal G n_P_init [mR (some t), mR v] A (fun r A' => r = none ∧ A' = pg_m A t v) mj_no := by
  refine mj_bodyK 3 72 [some (mR (some t)), some (mR v)] rfl rfl rfl (by decide +kernel) (Nat.le_of_ble_eq_true rfl) (by simp) rfl ?_
  have h1 := hf 1 (by omega) (by omega)
  have h2 := hf 2 (by omega) (by omega)
  have h3 := hf 3 (by omega) (by omega)
  refine mx_R fun hR => ?_
  refine mx_aload_n 0 d_P_init_0 rfl rfl ?_
  refine mx_objInit d_P_init_1 s_P_3 mj_oi2 mj_oi3 (Nat.le_of_ble_eq_true rfl) (mj_wt_12 (Nat.le_of_ble_eq_true rfl)) (mj_sne (by assumption)) ?_
  refine mx_aload_n 0 d_P_init_4 rfl rfl ?_
  refine mx_aload_n 1 d_P_init_5 rfl rfl ?_
  refine mx_putP 0 d_P_init_6 f_P_9 rfl ((by (try simp only [gS_sI, gS_sP, gS_sN]); grind)) (Or.inr ⟨rfl, _, rfl, rfl⟩) (Or.inl ⟨_, rfl⟩) ?_
  refine mx_R fun hR_1 => ?_
  refine mx_aload_n 0 d_P_init_9 rfl rfl ?_
  refine mx_bipush d_P_init_10 (by decide) ?_
  refine mx_newa (kc := 2) (ks := 48) (n1 := 24) (t + 1) d_P_init_12 (by decide) rfl mj_ac1 ((by (try simp only [gS_sI, gS_sP, gS_sN]); grind)) (rfl) (by decide) ?_
  refine mx_R fun hR_2 => ?_
  refine mx_putP 1 d_P_init_14 f_P_15 rfl ((by (try simp only [gS_sI, gS_sP, gS_sN]); grind)) (Or.inr ⟨rfl, _, rfl, rfl⟩) (Or.inr ⟨_, rfl⟩) ?_
  refine mx_R fun hR_3 => ?_
  refine mx_aload_n 0 d_P_init_17 rfl rfl ?_
  refine mx_bipush d_P_init_18 (by decide) ?_
  refine mx_newa (kc := 1) (ks := 24) (n1 := 24) (t + 2) d_P_init_20 (by decide) rfl mj_ac0 ((by (try simp only [gS_sI, gS_sP, gS_sN]); grind)) (rfl) (by decide) ?_
  refine mx_R fun hR_4 => ?_
  refine mx_putP 2 d_P_init_22 f_P_19 rfl ((by (try simp only [gS_sI, gS_sP, gS_sN]); grind)) (Or.inr ⟨rfl, _, rfl, rfl⟩) (Or.inr ⟨_, rfl⟩) ?_
  refine mx_R fun hR_5 => ?_
  refine mx_aload_n 0 d_P_init_25 rfl rfl ?_
  refine mx_bipush d_P_init_26 (by decide) ?_
  refine mx_newa (kc := 0) (ks := 0) (n1 := 24) (t + 3) d_P_init_28 (by decide) rfl mj_ac0 ((by (try simp only [gS_sI, gS_sP, gS_sN]); grind)) (rfl) (by decide) ?_
  refine mx_R fun hR_6 => ?_
  refine mx_putP 3 d_P_init_30 f_P_23 rfl ((by (try simp only [gS_sI, gS_sP, gS_sN]); grind)) (Or.inr ⟨rfl, _, rfl, rfl⟩) (Or.inr ⟨_, rfl⟩) ?_
  refine mx_R fun hR_7 => ?_
  refine mx_vret d_P_init_33 rfl ?_
  exact ⟨rfl, rfl⟩
/-- a scene's rows -/
def sc_i1 (A : mj_M) (t fr pa : Int) : mj_M := (sF (sP (sN (sI (sI A t 0 fr) t 1 pa) (t + 1) (.inr (0, 4 * fr))) t 2 (some (t + 1))) (t + 1) (fun j => if 0 ≤ j ∧ j < 4 * fr then -2 else gI (sP (sN (sI (sI A t 0 fr) t 1 pa) (t + 1) (.inr (0, 4 * fr))) t 2 (some (t + 1))) (t + 1) j))
def sc_i2 (B : mj_M) (t fr : Int) : mj_M := sF (sP (sN B (t + 2) (.inr (0, fr))) t 3 (some (t + 2))) (t + 2) (fun j => if 0 ≤ j ∧ j < fr then -3 else gI (sP (sN B (t + 2) (.inr (0, fr))) t 3 (some (t + 2))) (t + 2) j)
def sc_i3 (B : mj_M) (t : Int) : mj_M := sF (sP (sN (sP (sN (sP (sN B (t + 3) (.inr (1, 4))) t 4 (some (t + 3))) (t + 4) (.inr (4, 4))) t 5 (some (t + 4))) (t + 5) (.inr (0, 4))) t 6 (some (t + 5))) (t + 5) (fun j => if 0 ≤ j ∧ j < 4 then 1 else gI (sP (sN (sP (sN (sP (sN B (t + 3) (.inr (1, 4))) t 4 (some (t + 3))) (t + 4) (.inr (4, 4))) t 5 (some (t + 4))) (t + 5) (.inr (0, 4))) t 6 (some (t + 5))) (t + 5) j)
def sc_i4 (B : mj_M) (t fr : Int) : mj_M := sF (sP (sN B (t + 6) (.inr (0, fr * 192))) t 8 (some (t + 6))) (t + 6) (fun j => if 0 ≤ j ∧ j < fr * 192 then -1 else gI (sP (sN B (t + 6) (.inr (0, fr * 192))) t 8 (some (t + 6))) (t + 6) j)
theorem sc_S1 {t fr pa c : Int} : gS (sc_i1 A t fr pa) c = if c = t + 1 then some (.inr (0, 4 * fr)) else gS A c := rfl
theorem sc_S2 {t fr c : Int} : gS (sc_i2 A t fr) c = if c = t + 2 then some (.inr (0, fr)) else gS A c := rfl
theorem sc_S3 {t c : Int} : gS (sc_i3 A t) c = if c = t + 5 then some (.inr (0, 4)) else if c = t + 4 then some (.inr (4, 4)) else if c = t + 3 then some (.inr (1, 4)) else gS A c := rfl
theorem sc_S4 {t fr c : Int} : gS (sc_i4 A t fr) c = if c = t + 6 then some (.inr (0, fr * 192)) else gS A c := rfl
theorem ct_S_i4 {B : mj_M} {t fr pa : Int} (ht : gS B t = some (.inl 4)) (h6 : gS B (t + 6) = none) (hfr : 1 ≤ fr ∧ fr ≤ 24) {P : Option mj_V → mj_M → Prop} (hP : P none (sc_i4 B t fr)) : mj_X G n_S_init (mj_Qm G n_S_init P mj_no) B 1 4608 78 [some (mR (some t)), some (mI fr), some (mI pa)] [] := by
  refine mx_R fun hR => ?_
  refine mx_aload_n 0 d_S_init_78 rfl rfl ?_
  refine mx_iload_n 1 d_S_init_79 rfl rfl ?_
  refine mx_sipush d_S_init_80 (by decide) ?_
  refine mx_imul d_S_init_83 ?_
  refine mx_less (kc' := 1) (ks' := 0 + (fr * 192).toNat) (by decide) (by omega) ?_
  refine mx_newa (kc := 0) (ks := 0) (n1 := (fr * 192).toNat) (t + 6) d_S_init_84 (by decide) rfl mj_ac0 h6 (by omega) (by omega) ?_
  refine mx_R fun hR => ?_
  refine mx_putP 8 d_S_init_86 f_S_44 rfl ((by (try simp only [gS_sI, gS_sP, gS_sN]); grind)) (Or.inr ⟨rfl, _, rfl, rfl⟩) (Or.inr ⟨_, rfl⟩) ?_
  refine mx_R fun hR_1 => ?_
  refine mx_aload_n 0 d_S_init_89 rfl rfl ?_
  refine mx_getPs 8 d_S_init_90 f_S_44 rfl rfl ((by (try simp only [gS_sI, gS_sP, gS_sN]); grind)) (gP_sPs _ _ _ _) ?_
  refine mx_iconst d_S_init_93 ?_
  refine mx_callS (kc := 0) (ks := 0) (N := n_J_fill) (as := [_, _]) d_S_init_94 s_S_22 ⟨Nat.le_of_ble_eq_true rfl, Nat.le_of_ble_eq_true rfl⟩ rfl (mj_wt_8 (Nat.le_of_ble_eq_true rfl)) (ct_fill (n := fr * 192) (by simp only [gS_sP, gS_sN]; grind) (by omega) (by omega) (r32_mk (by omega) (by omega))) (fun r_94 A_94 h_94 => ?_) (fun E_94 A_x h_94 => ?_)
  rotate_left
  · exact h_94.elim
  obtain ⟨rfl, hA_94⟩ := h_94
  obtain rfl := hA_94.symm
  clear hA_94
  refine mx_R fun hR_2 => ?_
  refine mx_vret d_S_init_97 rfl ?_
  exact hP
theorem ct_S_i3 {B : mj_M} {t fr pa : Int} (ht : gS B t = some (.inl 4)) (hf : ∀ j, 3 ≤ j → j ≤ 6 → gS B (t + j) = none) (hfr : 1 ≤ fr ∧ fr ≤ 24) {P : Option mj_V → mj_M → Prop} (hP : P none (sc_i4 (sc_i3 B t) t fr)) : mj_X G n_S_init (mj_Qm G n_S_init P mj_no) B 4 4620 48 [some (mR (some t)), some (mI fr), some (mI pa)] [] := by
  have h3 := hf 3 (by omega) (by omega)
  have h4 := hf 4 (by omega) (by omega)
  have h5 := hf 5 (by omega) (by omega)
  have h6 := hf 6 (by omega) (by omega)
  refine mx_R fun hR => ?_
  refine mx_aload_n 0 d_S_init_48 rfl rfl ?_
  refine mx_iconst d_S_init_49 ?_
  refine mx_newa (kc := 3) (ks := 4616) (n1 := 4) (t + 3) d_S_init_50 (by decide) rfl mj_ac1 (h3) (rfl) (by decide) ?_
  refine mx_R fun hR_1 => ?_
  refine mx_putP 4 d_S_init_52 f_S_31 rfl ((by (try simp only [gS_sI, gS_sP, gS_sN]); grind)) (Or.inr ⟨rfl, _, rfl, rfl⟩) (Or.inr ⟨_, rfl⟩) ?_
  refine mx_R fun hR_2 => ?_
  refine mx_aload_n 0 d_S_init_55 rfl rfl ?_
  refine mx_iconst d_S_init_56 ?_
  refine mx_anew (t := 4) (kc := 2) (ks := 4612) (n1 := 4) (t + 4) d_S_init_57 (by decide) (by decide) a_S_35 ((by (try simp only [gS_sI, gS_sP, gS_sN]); grind)) rfl (by decide) ?_
  refine mx_R fun hR_3 => ?_
  refine mx_putP 5 d_S_init_60 f_S_37 rfl ((by (try simp only [gS_sI, gS_sP, gS_sN]); grind)) (Or.inr ⟨rfl, _, rfl, rfl⟩) (Or.inr ⟨_, rfl⟩) ?_
  refine mx_R fun hR_4 => ?_
  refine mx_aload_n 0 d_S_init_63 rfl rfl ?_
  refine mx_iconst d_S_init_64 ?_
  refine mx_newa (kc := 1) (ks := 4608) (n1 := 4) (t + 5) d_S_init_65 (by decide) rfl mj_ac0 ((by (try simp only [gS_sI, gS_sP, gS_sN]); grind)) (rfl) (by decide) ?_
  refine mx_R fun hR_5 => ?_
  refine mx_putP 6 d_S_init_67 f_S_41 rfl ((by (try simp only [gS_sI, gS_sP, gS_sN]); grind)) (Or.inr ⟨rfl, _, rfl, rfl⟩) (Or.inr ⟨_, rfl⟩) ?_
  refine mx_R fun hR_6 => ?_
  refine mx_aload_n 0 d_S_init_70 rfl rfl ?_
  refine mx_getPs 6 d_S_init_71 f_S_41 rfl rfl ((by (try simp only [gS_sI, gS_sP, gS_sN]); grind)) (gP_sPs _ _ _ _) ?_
  refine mx_iconst d_S_init_74 ?_
  refine mx_callS (kc := 1) (ks := 4608) (N := n_J_fill) (as := [_, _]) d_S_init_75 s_S_22 ⟨Nat.le_of_ble_eq_true rfl, Nat.le_of_ble_eq_true rfl⟩ rfl (mj_wt_8 (Nat.le_of_ble_eq_true rfl)) (ct_fill (n := 4) (by simp only [gS_sP, gS_sN]; grind) (by omega) (by omega) (r32_mk (by omega) (by omega))) (fun r_75 A_75 h_75 => ?_) (fun E_75 A_x h_75 => ?_)
  rotate_left
  · exact h_75.elim
  obtain ⟨rfl, hA_75⟩ := h_75
  obtain rfl := hA_75.symm
  clear hA_75
  refine mx_R fun hR_7 => ?_
  exact ct_S_i4 (B := sc_i3 B t) (by rw [sc_S3, if_neg (by omega), if_neg (by omega), if_neg (by omega)]; exact ht) (by rw [sc_S3, if_neg (by omega), if_neg (by omega), if_neg (by omega)]; exact h6) hfr hP
theorem ct_S_i2 {B : mj_M} {t fr pa : Int} (ht : gS B t = some (.inl 4)) (hf : ∀ j, 2 ≤ j → j ≤ 6 → gS B (t + j) = none) (hfr : 1 ≤ fr ∧ fr ≤ 24) {P : Option mj_V → mj_M → Prop} (hP : P none (sc_i4 (sc_i3 (sc_i2 B t fr) t) t fr)) : mj_X G n_S_init (mj_Qm G n_S_init P mj_no) B 5 4644 32 [some (mR (some t)), some (mI fr), some (mI pa)] [] := by
  have h2 := hf 2 (by omega) (by omega)
  refine mx_R fun hR => ?_
  refine mx_aload_n 0 d_S_init_32 rfl rfl ?_
  refine mx_iload_n 1 d_S_init_33 rfl rfl ?_
  refine mx_less (kc' := 5) (ks' := 4620 + fr.toNat) (by decide) (by omega) ?_
  refine mx_newa (kc := 4) (ks := 4620) (n1 := fr.toNat) (t + 2) d_S_init_34 (by decide) rfl mj_ac0 h2 (by omega) (by omega) ?_
  refine mx_R fun hR => ?_
  refine mx_putP 3 d_S_init_36 f_S_28 rfl ((by (try simp only [gS_sI, gS_sP, gS_sN]); grind)) (Or.inr ⟨rfl, _, rfl, rfl⟩) (Or.inr ⟨_, rfl⟩) ?_
  refine mx_R fun hR_1 => ?_
  refine mx_aload_n 0 d_S_init_39 rfl rfl ?_
  refine mx_getPs 3 d_S_init_40 f_S_28 rfl rfl ((by (try simp only [gS_sI, gS_sP, gS_sN]); grind)) (gP_sPs _ _ _ _) ?_
  refine mx_bipush d_S_init_43 (by decide) ?_
  refine mx_callS (kc := 4) (ks := 4620) (N := n_J_fill) (as := [_, _]) d_S_init_45 s_S_22 ⟨Nat.le_of_ble_eq_true rfl, Nat.le_of_ble_eq_true rfl⟩ rfl (mj_wt_8 (Nat.le_of_ble_eq_true rfl)) (ct_fill (n := fr) (by simp only [gS_sP, gS_sN]; grind) (by omega) (by omega) (r32_mk (by omega) (by omega))) (fun r_45 A_45 h_45 => ?_) (fun E_45 A_x h_45 => ?_)
  rotate_left
  · exact h_45.elim
  obtain ⟨rfl, hA_45⟩ := h_45
  obtain rfl := hA_45.symm
  clear hA_45
  refine mx_R fun hR_2 => ?_
  exact ct_S_i3 (B := sc_i2 B t fr) (by rw [sc_S2, if_neg (by omega)]; exact ht) (fun j j0 j1 => by rw [sc_S2, if_neg (by omega)]; exact hf j (by omega) j1) hfr hP
def sc_i (A : mj_M) (t fr pa : Int) : mj_M := sc_i4 (sc_i3 (sc_i2 (sc_i1 A t fr pa) t fr) t) t fr
theorem ct_S_init {t fr pa : Int} (ht : gS A t = some (.inl 4)) (hf : ∀ j, 1 ≤ j → j ≤ 6 → gS A (t + j) = none) (hfr : 1 ≤ fr ∧ fr ≤ 24) (hpa : r32 pa) : mj_Cal G n_S_init [mR (some t), mI fr, mI pa] A (fun r A' => r = none ∧ A' = sc_i A t fr pa) mj_no := by
  refine mj_bodyK 6 4740 [some (mR (some t)), some (mI fr), some (mI pa)] rfl rfl rfl (by decide +kernel) (Nat.le_of_ble_eq_true rfl) (by simp) rfl ?_
  have h1 := hf 1 (by omega) (by omega)
  refine mx_R fun hR => ?_
  refine mx_aload_n 0 d_S_init_0 rfl rfl ?_
  refine mx_objInit d_S_init_1 s_S_3 mj_oi2 mj_oi3 (Nat.le_of_ble_eq_true rfl) (mj_wt_12 (Nat.le_of_ble_eq_true rfl)) (mj_sne (by assumption)) ?_
  refine mx_aload_n 0 d_S_init_4 rfl rfl ?_
  refine mx_iload_n 1 d_S_init_5 rfl rfl ?_
  refine mx_putI 0 d_S_init_6 f_S_9 rfl ((by (try simp only [gS_sI, gS_sP, gS_sN]); grind)) (Or.inr ⟨rfl, _, rfl, rfl⟩) (Or.inl rfl) (by first | assumption | exact hR _ _ | exact r32_mk (by omega) (by omega)) ?_
  refine mx_R fun hR_1 => ?_
  refine mx_aload_n 0 d_S_init_9 rfl rfl ?_
  refine mx_iload_n 2 d_S_init_10 rfl rfl ?_
  refine mx_putI 1 d_S_init_11 f_S_15 rfl ((by (try simp only [gS_sI, gS_sP, gS_sN]); grind)) (Or.inr ⟨rfl, _, rfl, rfl⟩) (Or.inl rfl) (by first | assumption | exact hR_1 _ _ | exact hR _ _ | exact r32_mk (by omega) (by omega)) ?_
  refine mx_R fun hR_2 => ?_
  refine mx_aload_n 0 d_S_init_14 rfl rfl ?_
  refine mx_iconst d_S_init_15 ?_
  refine mx_iload_n 1 d_S_init_16 rfl rfl ?_
  refine mx_imul d_S_init_17 ?_
  refine mx_less (kc' := 6) (ks' := 4644 + (4 * fr).toNat) (by decide) (by omega) ?_
  refine mx_newa (kc := 5) (ks := 4644) (n1 := (4 * fr).toNat) (t + 1) d_S_init_18 (by decide) rfl mj_ac0 h1 (by omega) (by omega) ?_
  refine mx_R fun hR => ?_
  refine mx_putP 2 d_S_init_20 f_S_18 rfl ((by (try simp only [gS_sI, gS_sP, gS_sN]); grind)) (Or.inr ⟨rfl, _, rfl, rfl⟩) (Or.inr ⟨_, rfl⟩) ?_
  refine mx_R fun hR_1 => ?_
  refine mx_aload_n 0 d_S_init_23 rfl rfl ?_
  refine mx_getPs 2 d_S_init_24 f_S_18 rfl rfl ((by (try simp only [gS_sI, gS_sP, gS_sN]); grind)) (gP_sPs _ _ _ _) ?_
  refine mx_bipush d_S_init_27 (by decide) ?_
  refine mx_callS (kc := 5) (ks := 4644) (N := n_J_fill) (as := [_, _]) d_S_init_29 s_S_22 ⟨Nat.le_of_ble_eq_true rfl, Nat.le_of_ble_eq_true rfl⟩ rfl (mj_wt_8 (Nat.le_of_ble_eq_true rfl)) (ct_fill (n := 4 * fr) (by simp only [gS_sP, gS_sN]; grind) (by omega) (by omega) (r32_mk (by omega) (by omega))) (fun r_29 A_29 h_29 => ?_) (fun E_29 A_x h_29 => ?_)
  rotate_left
  · exact h_29.elim
  obtain ⟨rfl, hA_29⟩ := h_29
  obtain rfl := hA_29.symm
  clear hA_29
  refine mx_R fun hR_2 => ?_
  exact ct_S_i2 (B := sc_i1 A t fr pa) (by rw [sc_S1, if_neg (by omega)]; exact ht) (fun j j0 j1 => by rw [sc_S1, if_neg (by omega)]; exact hf j (by omega) j1) hfr ⟨rfl, rfl⟩
theorem mj_ic' {α : Type} {P Q : Prop} [Decidable P] [Decidable Q] {a b : α} (h : P ↔ Q) : (if P then a else b) = if Q then a else b := by
  by_cases h1 : P
  · rw [if_pos h1, if_pos (h.mp h1)]
  · rw [if_neg h1, if_neg (fun k => h1 (h.mpr k))]
/-- the strokes of a new drawing -/
def ds_m (B : mj_M) (t i : Int) : mj_M := (fun c => if t + 2 ≤ c ∧ c < t + 2 + i then some (.inl 5) else B.1 c, fun c j => if t + 2 ≤ c ∧ c < t + 2 + i then 0 else B.2.1 c j, fun c j => if t + 2 ≤ c ∧ c < t + 2 + i then none else if c = t + 1 ∧ 0 ≤ j ∧ j < i then some (t + 2 + j) else B.2.2 c j)
theorem ds_S {B : mj_M} {t i c : Int} : gS (ds_m B t i) c = if t + 2 ≤ c ∧ c < t + 2 + i then some (.inl 5) else gS B c := rfl
theorem ds_I {B : mj_M} {t i c j : Int} : gI (ds_m B t i) c j = if t + 2 ≤ c ∧ c < t + 2 + i then 0 else gI B c j := rfl
theorem ds_P {B : mj_M} {t i c j : Int} : gP (ds_m B t i) c j = if t + 2 ≤ c ∧ c < t + 2 + i then none else if c = t + 1 ∧ 0 ≤ j ∧ j < i then some (t + 2 + j) else gP B c j := rfl
theorem ds_0 {B : mj_M} {t : Int} : ds_m B t 0 = B := mj_ext3 (fun c => by rw [ds_S, if_neg (by omega)]) (fun c i => by rw [ds_I, if_neg (by omega)]) (fun c i => by rw [ds_P, if_neg (by omega), if_neg (by omega)])
theorem ds_1 {B : mj_M} {t i : Int} (hi : 0 ≤ i) : sP (sN (ds_m B t i) (t + 2 + i) (.inl 5)) (t + 1) i (some (t + 2 + i)) = ds_m B t (i + 1) := by
  refine mj_ext3 (fun c => ?_) (fun c j => ?_) (fun c j => ?_)
  · rw [gS_sP, gS_sN, ds_S, ds_S]
    by_cases e : c = t + 2 + i
    · rw [if_pos e, if_pos (by omega)]
    · rw [if_neg e]; exact mj_ic' (by omega)
  · rw [gI_sP, gI_sN, ds_I, ds_I]
    by_cases e : c = t + 2 + i
    · rw [if_pos e, if_pos (by omega)]
    · rw [if_neg e]; exact mj_ic' (by omega)
  · rw [gP_sP, gP_sN, ds_P, ds_P]
    by_cases e1 : c = t + 1 ∧ j = i
    · rw [if_pos e1, if_neg (by omega), if_pos (by omega), e1.2]
    · rw [if_neg e1]
      by_cases e : c = t + 2 + i
      · rw [if_pos e, if_pos (by omega)]
      · rw [if_neg e]
        by_cases e2 : t + 2 ≤ c ∧ c < t + 2 + i
        · rw [if_pos e2, if_pos (by omega)]
        · rw [if_neg e2, if_neg (show ¬ (t + 2 ≤ c ∧ c < t + 2 + (i + 1)) by omega)]
          exact mj_ic' (by omega)
/-- a new drawing's rows -/
def dnw_1 (A : mj_M) (t : Int) (a b : Option Int) (n d o : Int) : mj_M := sP (sN (sI (sI (sI (sP (sP A t 0 a) t 1 b) t 2 n) t 3 d) t 4 o) (t + 1) (.inr (6, 8))) t 5 (some (t + 1))
def dnw_2 (B : mj_M) (t : Int) : mj_M := sN (sP (sN (sP (sN B (t + 10) (.inr (0, 6))) t 7 (some (t + 10))) (t + 11) (.inr (0, 6))) t 8 (some (t + 11))) (t + 12) (.inl 3)
def dnw_m (A : mj_M) (t : Int) (a b : Option Int) (n d o : Int) : mj_M := sP (pcr_m (dnw_2 (ds_m (dnw_1 A t a b n d o) t 8) t) (t + 12) (t + 13) (t + 14) (t + 15)) t 12 (some (t + 12))
theorem ct_D_i2 {B : mj_M} {t : Int} {l1 l2 l3 l4 l5 l6 : Option mj_V} (ht : gS B t = some (.inl 0)) (hf : ∀ j, 10 ≤ j → j ≤ 15 → gS B (t + j) = none) {P : Option mj_V → mj_M → Prop} (hP : P none (sP (pcr_m (dnw_2 B t) (t + 12) (t + 13) (t + 14) (t + 15)) t 12 (some (t + 12)))) : mj_X G n_D_init (mj_Qm G n_D_init P mj_no) B 6 591 70 [some (mR (some t)), l1, l2, l3, l4, l5, l6] [] := by
  have h10 := hf 10 (by omega) (by omega)
  have h11 := hf 11 (by omega) (by omega)
  have h12 := hf 12 (by omega) (by omega)
  have h13 := hf 13 (by omega) (by omega)
  have h14 := hf 14 (by omega) (by omega)
  have h15 := hf 15 (by omega) (by omega)
  have e2 : ∀ c, gS (dnw_2 B t) c = if c = t + 12 then some (.inl 3) else if c = t + 11 then some (.inr (0, 6)) else if c = t + 10 then some (.inr (0, 6)) else gS B c := fun c => rfl
  refine mx_R fun hR => ?_
  refine mx_aload_n 0 d_D_init_70 rfl rfl ?_
  refine mx_bipush d_D_init_71 (by decide) ?_
  refine mx_newa (kc := 5) (ks := 585) (n1 := 6) (t + 10) d_D_init_73 (by decide) rfl mj_ac0 (h10) (rfl) (by decide) ?_
  refine mx_R fun hR_1 => ?_
  refine mx_putP 7 d_D_init_75 f_D_35 rfl ((by (try simp only [gS_sI, gS_sP, gS_sN]); grind)) (Or.inr ⟨rfl, _, rfl, rfl⟩) (Or.inr ⟨_, rfl⟩) ?_
  refine mx_R fun hR_2 => ?_
  refine mx_aload_n 0 d_D_init_78 rfl rfl ?_
  refine mx_bipush d_D_init_79 (by decide) ?_
  refine mx_newa (kc := 4) (ks := 579) (n1 := 6) (t + 11) d_D_init_81 (by decide) rfl mj_ac0 ((by (try simp only [gS_sI, gS_sP, gS_sN]); grind)) (rfl) (by decide) ?_
  refine mx_R fun hR_3 => ?_
  refine mx_putP 8 d_D_init_83 f_D_39 rfl ((by (try simp only [gS_sI, gS_sP, gS_sN]); grind)) (Or.inr ⟨rfl, _, rfl, rfl⟩) (Or.inr ⟨_, rfl⟩) ?_
  refine mx_R fun hR_4 => ?_
  refine mx_aload_n 0 d_D_init_86 rfl rfl ?_
  refine mx_new (kc := 3) (ks := 576) (n := 3) (t + 12) d_D_init_87 w_D_42 ((by (try simp only [gS_sI, gS_sP, gS_sN]); grind)) ?_
  refine mx_R fun hR_5 => ?_
  refine mx_dup d_D_init_90 (fun z h => by cases h) ?_
  refine mx_callI (kc := 0) (ks := 0) (N := n_C_init) (as := []) d_D_init_91 s_D_44 ⟨Nat.le_of_ble_eq_true rfl, Nat.le_of_ble_eq_true rfl⟩ rfl (mj_wt_8 (Nat.le_of_ble_eq_true rfl)) (ct_C_init (A := dnw_2 B t) (t := t + 12) (l := t + 13) (w := t + 14) (q := t + 15) (by rw [e2, if_pos rfl]) (by rw [e2, if_neg (by omega), if_neg (by omega), if_neg (by omega)]; exact h13) (by rw [e2, if_neg (by omega), if_neg (by omega), if_neg (by omega)]; exact h14) (by rw [e2, if_neg (by omega), if_neg (by omega), if_neg (by omega)]; exact h15) (by omega) (by omega) (by omega) (by omega) (by omega) (by omega)) (fun r_91 A_91 h_91 => ?_)
  obtain ⟨rfl, hA_91⟩ := h_91
  obtain rfl := hA_91.symm
  clear hA_91
  refine mx_R fun hR_6 => ?_
  refine mx_putP 12 d_D_init_94 f_D_45 rfl ((by rw [pcr_S, if_neg (by omega), if_neg (by omega), if_neg (by omega), e2, if_neg (by omega), if_neg (by omega), if_neg (by omega)]; exact ht)) (Or.inr ⟨rfl, _, rfl, rfl⟩) (Or.inl ⟨_, rfl⟩) ?_
  refine mx_R fun hR_7 => ?_
  refine mx_vret d_D_init_97 rfl ?_
  exact hP
theorem ct_D_init {t n d o : Int} {a b : Option Int} (ht : gS A t = some (.inl 0)) (hf : ∀ j, 1 ≤ j → j ≤ 15 → gS A (t + j) = none) (hn : r32 n) (hd : r32 d) (ho : r32 o) : mj_Cal G n_D_init [mR (some t), mR a, mR b, mI n, mI d, mI o] A (fun r A' => r = none ∧ A' = dnw_m A t a b n d o) mj_no := by
  refine mj_bodyK 15 647 [some (mR (some t)), some (mR a), some (mR b), some (mI n), some (mI d), some (mI o), none] rfl rfl rfl (by decide +kernel) (Nat.le_of_ble_eq_true rfl) (by simp) rfl ?_
  have h1 := hf 1 (by omega) (by omega)
  have e1 : ∀ c, gS (dnw_1 A t a b n d o) c = if c = t + 1 then some (.inr (6, 8)) else gS A c := fun c => rfl
  have hl : ∀ m : Nat, m ≤ 8 → mj_X G n_D_init (mj_Qm G n_D_init (fun r A' => r = none ∧ A' = dnw_m A t a b n d o) mj_no) (ds_m (dnw_1 A t a b n d o) t (8 - (m : Int))) (6 + m) (591 + 6 * m) 43 [some (mR (some t)), some (mR a), some (mR b), some (mI n), some (mI d), some (mI o), some (mI (8 - (m : Int)))] [] := by
    intro m
    induction m with
    | zero =>
      intro hm
      refine mx_R fun hR => ?_
      refine mx_iload 6 d_D_init_43 rfl ?_
      refine mx_bipush d_D_init_45 (by decide) ?_
      refine mx_icmp_ge 70 d_D_init_47 rfl (by first | assumption | exact hR _ _ | exact r32_mk (by omega) (by omega)) (by first | assumption | exact hR _ _ | exact r32_mk (by omega) (by omega)) (fun c_47 => ?_) (fun c_47 => ?_)
      · refine ct_D_i2 (B := ds_m (dnw_1 A t a b n d o) t 8) ?_ (fun j j0 j1 => ?_) ⟨rfl, rfl⟩
        · rw [ds_S, if_neg (by omega), e1, if_neg (by omega)]; exact ht
        · rw [ds_S, if_neg (by omega), e1, if_neg (by omega)]; exact hf j (by omega) j1
      · exfalso; omega
    | succ m ih =>
      intro hm
      have h9 := ih (by omega)
      rw [show 8 - (m : Int) = 8 - ((m + 1 : Nat) : Int) + 1 by omega] at h9
      refine mx_less (kc' := (6 + m) + 1) (ks' := (591 + 6 * m) + 6) (by omega) (by omega) ?_
      refine mx_R fun hR => ?_
      refine mx_iload 6 d_D_init_43 rfl ?_
      refine mx_bipush d_D_init_45 (by decide) ?_
      refine mx_icmp_ge 70 d_D_init_47 rfl (by first | assumption | exact hR _ _ | exact r32_mk (by omega) (by omega)) (by first | assumption | exact hR _ _ | exact r32_mk (by omega) (by omega)) (fun c_47 => ?_) (fun c_47 => ?_)
      · exfalso; omega
      · refine mx_aload_n 0 d_D_init_50 rfl rfl ?_
        refine mx_getPs 5 d_D_init_51 f_D_30 rfl rfl ((by rw [ds_S, if_neg (by omega), e1, if_neg (by omega)]; exact ht)) ((by rw [ds_P, if_neg (by omega), if_neg (by omega)]; unfold dnw_1; rw [gP_sPs])) ?_
        refine mx_iload 6 d_D_init_54 rfl ?_
        refine mx_new (kc := 6 + m) (ks := 591 + 6 * m) (n := 6) (t + 2 + (8 - ((m + 1 : Nat) : Int))) d_D_init_56 w_D_28 (by rw [ds_S, if_neg (by omega), e1, if_neg (by omega), show t + 2 + (8 - ((m + 1 : Nat) : Int)) = t + (10 - ((m + 1 : Nat) : Int)) by omega]; exact hf _ (by omega) (by omega)) ?_
        refine mx_R fun hR9 => ?_
        refine mx_dup d_D_init_59 (fun z h => by cases h) ?_
        refine mx_callIN (kc := 6 + m) (ks := 591 + 6 * m) (N := n_K_init) (as := []) d_D_init_60 s_D_34 ⟨Nat.le_of_ble_eq_true rfl, Nat.le_of_ble_eq_true rfl⟩ rfl (mj_wt_8 (Nat.le_of_ble_eq_true rfl)) (ct_K_init (by rw [gS_sN, if_pos rfl])) (fun r_60 A_60 h_60 => ?_)
        obtain ⟨rfl, hA_60⟩ := h_60
        obtain rfl := hA_60.symm
        clear hA_60
        refine mx_R fun hR => ?_
        refine mx_aast d_D_init_63 ((by rw [gS_sN, if_neg (by omega), ds_S, if_neg (by omega), e1, if_pos rfl])) (by decide) (by omega) (by omega) ((by rw [gS_sN, if_pos rfl]; rfl)) ?_
        refine mx_R fun hR_1 => ?_
        rw [ds_1 (by omega)]
        refine mx_iinc 6 d_D_init_64 rfl (Nat.le_of_ble_eq_true rfl) ?_
        refine mx_goto 43 d_D_init_67 rfl ?_
        exact h9
  refine mx_R fun hR => ?_
  refine mx_aload_n 0 d_D_init_0 rfl rfl ?_
  refine mx_objInit d_D_init_1 s_D_3 mj_oi2 mj_oi3 (Nat.le_of_ble_eq_true rfl) (mj_wt_12 (Nat.le_of_ble_eq_true rfl)) (mj_sne (by assumption)) ?_
  refine mx_aload_n 0 d_D_init_4 rfl rfl ?_
  refine mx_aload_n 1 d_D_init_5 rfl rfl ?_
  refine mx_putP 0 d_D_init_6 f_D_9 rfl ((by (try simp only [gS_sI, gS_sP, gS_sN]); grind)) (Or.inr ⟨rfl, _, rfl, rfl⟩) (Or.inl ⟨_, rfl⟩) ?_
  refine mx_R fun hR_1 => ?_
  refine mx_aload_n 0 d_D_init_9 rfl rfl ?_
  refine mx_aload_n 2 d_D_init_10 rfl rfl ?_
  refine mx_putP 1 d_D_init_11 f_D_15 rfl ((by (try simp only [gS_sI, gS_sP, gS_sN]); grind)) (Or.inr ⟨rfl, _, rfl, rfl⟩) (Or.inl ⟨_, rfl⟩) ?_
  refine mx_R fun hR_2 => ?_
  refine mx_aload_n 0 d_D_init_14 rfl rfl ?_
  refine mx_iload_n 3 d_D_init_15 rfl rfl ?_
  refine mx_putI 2 d_D_init_16 f_D_18 rfl ((by (try simp only [gS_sI, gS_sP, gS_sN]); grind)) (Or.inr ⟨rfl, _, rfl, rfl⟩) (Or.inl rfl) (by first | assumption | exact hR_2 _ _ | exact hR_1 _ _ | exact hR _ _ | exact r32_mk (by omega) (by omega)) ?_
  refine mx_R fun hR_3 => ?_
  refine mx_aload_n 0 d_D_init_19 rfl rfl ?_
  refine mx_iload 4 d_D_init_20 rfl ?_
  refine mx_putI 3 d_D_init_22 f_D_22 rfl ((by (try simp only [gS_sI, gS_sP, gS_sN]); grind)) (Or.inr ⟨rfl, _, rfl, rfl⟩) (Or.inl rfl) (by first | assumption | exact hR_3 _ _ | exact hR_2 _ _ | exact hR_1 _ _ | exact hR _ _ | exact r32_mk (by omega) (by omega)) ?_
  refine mx_R fun hR_4 => ?_
  refine mx_aload_n 0 d_D_init_25 rfl rfl ?_
  refine mx_iload 5 d_D_init_26 rfl ?_
  refine mx_putI 4 d_D_init_28 f_D_25 rfl ((by (try simp only [gS_sI, gS_sP, gS_sN]); grind)) (Or.inr ⟨rfl, _, rfl, rfl⟩) (Or.inl rfl) (by first | assumption | exact hR_4 _ _ | exact hR_3 _ _ | exact hR_2 _ _ | exact hR_1 _ _ | exact hR _ _ | exact r32_mk (by omega) (by omega)) ?_
  refine mx_R fun hR_5 => ?_
  refine mx_aload_n 0 d_D_init_31 rfl rfl ?_
  refine mx_bipush d_D_init_32 (by decide) ?_
  refine mx_anew (t := 6) (kc := 14) (ks := 639) (n1 := 8) (t + 1) d_D_init_34 (by decide) (by decide) a_D_28 (h1) rfl (by decide) ?_
  refine mx_R fun hR_6 => ?_
  refine mx_putP 5 d_D_init_37 f_D_30 rfl ((by (try simp only [gS_sI, gS_sP, gS_sN]); grind)) (Or.inr ⟨rfl, _, rfl, rfl⟩) (Or.inr ⟨_, rfl⟩) ?_
  refine mx_R fun hR_7 => ?_
  refine mx_iconst d_D_init_40 ?_
  refine mx_istore 6 d_D_init_41 (Nat.le_of_ble_eq_true rfl) ?_
  have h9 := hl 8 (by omega)
  refine mj_Xeq ?_ h9
  show _ = ds_m (dnw_1 A t a b n d o) t (8 - ((8 : Nat) : Int))
  rw [show 8 - ((8 : Nat) : Int) = 0 by omega, ds_0]
  rfl
end INI
