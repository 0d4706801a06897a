/-! CONSTRUCTORS: the house, the reference -/
section INI2
variable {G : mj_G} {A : mj_M}
def pal0 (j : Int) : Int := if 0 ≤ j ∧ j < 32 then j % 8 + 1 else 0
def hi_0 (A : mj_M) : mj_M := sP (sN (sP (sN A 101 (.inr (3, 16))) 100 0 (some 101)) 105 (.inr (0, 32))) 100 4 (some 105)
def hi_1 (A : mj_M) : mj_M := sF (hi_0 A) 105 pal0
def hi_2 (B : mj_M) : mj_M := sF (sP (sN (sP (sN B 106 (.inr (5, 6))) 100 5 (some 106)) 108 (.inr (0, 8))) 100 7 (some 108)) 108 (fun j => if 0 ≤ j ∧ j < 8 then -1 else gI (sP (sN (sP (sN B 106 (.inr (5, 6))) 100 5 (some 106)) 108 (.inr (0, 8))) 100 7 (some 108)) 108 j)
def hi_3 (B : mj_M) : mj_M := sN (sP (sN (sP (sN (sP (sN (sP (sN (sP (sN B 109 (.inr (4, 6))) 100 8 (some 109)) 111 (.inr (0, 4))) 100 10 (some 111)) 118 (.inr (0, 4))) 100 17 (some 118)) 113 (.inr (0, 10))) 100 12 (some 113)) 115 (.inr (0, 192))) 100 14 (some 115)) 116 (.inl 3)
def hi_4 (B : mj_M) : mj_M := sN (sP (pcr_m B 116 120 121 122) 100 15 (some 116)) 117 (.inl 1)
def hi_5 (B : mj_M) : mj_M := sP (fl_i B 117 123 124) 100 16 (some 117)
def hi_m (A : mj_M) : mj_M := hi_5 (hi_4 (hi_3 (hi_2 (hi_1 A))))
theorem ct_H_init (ht : gS A 100 = some (.inl 6)) (hf : ∀ c, 101 ≤ c → c ≤ 124 → gS A c = none) : mj_Cal G n_H_init [mR (some 100)] A (fun r A' => r = none ∧ A' = hi_m A) mj_no := by
  refine mj_bodyK 16 1244 [some (mR (some 100)), none] rfl rfl rfl (by decide +kernel) (Nat.le_of_ble_eq_true rfl) (by simp) rfl ?_
  have hl : ∀ i : Int, (0 ≤ i ∧ i ≤ 32) → mj_X G n_H_init (mj_Qm G n_H_init (fun r A' => r = none ∧ A' = hi_m A) mj_no) (sF (hi_0 A) 105 (fun j => if 0 ≤ j ∧ j < i then j % 8 + 1 else 0)) 14 1196 23 [some (mR (some 100)), some (mI i)] [] := by
    refine mj_loop _ (fun i => (33 - i).toNat) _ ?_
    intro i hi ih
    refine mx_R fun hR => ?_
    refine mx_iload_n 1 d_H_init_23 rfl rfl ?_
    refine mx_aload_n 0 d_H_init_24 rfl rfl ?_
    refine mx_getPs 4 d_H_init_25 f_H_15 rfl rfl (ht) (rfl) ?_
    refine mx_alen d_H_init_28 (rfl) ?_
    refine mx_icmp_ge 50 d_H_init_29 rfl (by first | assumption | exact hR _ _ | exact r32_mk (by omega) (by omega)) (by first | assumption | exact hR _ _ | exact r32_mk (by omega) (by omega)) (fun c_29 => ?_) (fun c_29 => ?_)
    · rw [show i = 32 by omega]
      refine mj_Xeq (A' := hi_1 A) rfl ?_
      refine mx_R fun hR => ?_
      refine mx_aload_n 0 d_H_init_50 rfl rfl ?_
      refine mx_bipush d_H_init_51 (by decide) ?_
      refine mx_anew (t := 5) (kc := 13) (ks := 1190) (n1 := 6) (106) d_H_init_53 (by decide) (by decide) a_H_19 (hf 106 (by omega) (by omega)) rfl (by decide) ?_
      refine mx_R fun hR_1 => ?_
      refine mx_putP 5 d_H_init_56 f_H_21 rfl (ht) (Or.inr ⟨rfl, _, rfl, rfl⟩) (Or.inr ⟨_, rfl⟩) ?_
      refine mx_R fun hR_2 => ?_
      refine mx_aload_n 0 d_H_init_59 rfl rfl ?_
      refine mx_bipush d_H_init_60 (by decide) ?_
      refine mx_newa (kc := 12) (ks := 1182) (n1 := 8) (108) d_H_init_62 (by decide) rfl mj_ac0 (hf 108 (by omega) (by omega)) (rfl) (by decide) ?_
      refine mx_R fun hR_3 => ?_
      refine mx_putP 7 d_H_init_64 f_H_25 rfl (ht) (Or.inr ⟨rfl, _, rfl, rfl⟩) (Or.inr ⟨_, rfl⟩) ?_
      refine mx_R fun hR_4 => ?_
      refine mx_aload_n 0 d_H_init_67 rfl rfl ?_
      refine mx_getPs 7 d_H_init_68 f_H_25 rfl rfl (ht) (rfl) ?_
      refine mx_iconst d_H_init_71 ?_
      refine mx_callS (kc := 12) (ks := 1182) (N := n_J_fill) (as := [_, _]) d_H_init_72 s_H_28 ⟨Nat.le_of_ble_eq_true rfl, Nat.le_of_ble_eq_true rfl⟩ rfl (mj_wt_8 (Nat.le_of_ble_eq_true rfl)) (ct_fill (n := 8) rfl (by omega) (by omega) (r32_mk (by omega) (by omega))) (fun r_72 A_72 h_72 => ?_) (fun E_72 A_x h_72 => ?_)
      rotate_left
      · exact h_72.elim
      obtain ⟨rfl, hA_72⟩ := h_72
      obtain rfl := hA_72.symm
      clear hA_72
      refine mx_R fun hR_5 => ?_
      refine mj_Xeq (A' := hi_2 (hi_1 A)) rfl ?_
      refine mx_R fun hR => ?_
      refine mx_aload_n 0 d_H_init_75 rfl rfl ?_
      refine mx_bipush d_H_init_76 (by decide) ?_
      refine mx_anew (t := 4) (kc := 11) (ks := 1176) (n1 := 6) (109) d_H_init_78 (by decide) (by decide) a_H_34 (hf 109 (by omega) (by omega)) rfl (by decide) ?_
      refine mx_R fun hR_1 => ?_
      refine mx_putP 8 d_H_init_81 f_H_36 rfl (ht) (Or.inr ⟨rfl, _, rfl, rfl⟩) (Or.inr ⟨_, rfl⟩) ?_
      refine mx_R fun hR_2 => ?_
      refine mx_aload_n 0 d_H_init_84 rfl rfl ?_
      refine mx_iconst d_H_init_85 ?_
      refine mx_newa (kc := 10) (ks := 1172) (n1 := 4) (111) d_H_init_86 (by decide) rfl mj_ac0 (hf 111 (by omega) (by omega)) (rfl) (by decide) ?_
      refine mx_R fun hR_3 => ?_
      refine mx_putP 10 d_H_init_88 f_H_40 rfl (ht) (Or.inr ⟨rfl, _, rfl, rfl⟩) (Or.inr ⟨_, rfl⟩) ?_
      refine mx_R fun hR_4 => ?_
      refine mx_aload_n 0 d_H_init_91 rfl rfl ?_
      refine mx_iconst d_H_init_92 ?_
      refine mx_newa (kc := 9) (ks := 1168) (n1 := 4) (118) d_H_init_93 (by decide) rfl mj_ac0 (hf 118 (by omega) (by omega)) (rfl) (by decide) ?_
      refine mx_R fun hR_5 => ?_
      refine mx_putP 17 d_H_init_95 f_H_43 rfl (ht) (Or.inr ⟨rfl, _, rfl, rfl⟩) (Or.inr ⟨_, rfl⟩) ?_
      refine mx_R fun hR_6 => ?_
      refine mx_aload_n 0 d_H_init_98 rfl rfl ?_
      refine mx_bipush d_H_init_99 (by decide) ?_
      refine mx_newa (kc := 8) (ks := 1158) (n1 := 10) (113) d_H_init_101 (by decide) rfl mj_ac0 (hf 113 (by omega) (by omega)) (rfl) (by decide) ?_
      refine mx_R fun hR_7 => ?_
      refine mx_putP 12 d_H_init_103 f_H_46 rfl (ht) (Or.inr ⟨rfl, _, rfl, rfl⟩) (Or.inr ⟨_, rfl⟩) ?_
      refine mx_R fun hR_8 => ?_
      refine mx_aload_n 0 d_H_init_106 rfl rfl ?_
      refine mx_sipush d_H_init_107 (by decide) ?_
      refine mx_newa (kc := 7) (ks := 966) (n1 := 192) (115) d_H_init_110 (by decide) rfl mj_ac0 (hf 115 (by omega) (by omega)) (rfl) (by decide) ?_
      refine mx_R fun hR_9 => ?_
      refine mx_putP 14 d_H_init_112 f_H_49 rfl (ht) (Or.inr ⟨rfl, _, rfl, rfl⟩) (Or.inr ⟨_, rfl⟩) ?_
      refine mx_R fun hR_10 => ?_
      refine mx_aload_n 0 d_H_init_115 rfl rfl ?_
      refine mx_new (kc := 6) (ks := 963) (n := 3) (116) d_H_init_116 w_H_52 (hf 116 (by omega) (by omega)) ?_
      refine mx_R fun hR_11 => ?_
      refine mx_dup d_H_init_119 (fun z h => by cases h) ?_
      refine mj_Xeq (A' := hi_3 (hi_2 (hi_1 A))) rfl ?_
      refine mx_R fun hR => ?_
      refine mx_callI (kc := 3) (ks := 387) (N := n_C_init) (as := []) d_H_init_120 s_H_54 ⟨Nat.le_of_ble_eq_true rfl, Nat.le_of_ble_eq_true rfl⟩ rfl (mj_wt_8 (Nat.le_of_ble_eq_true rfl)) (ct_C_init (A := hi_3 (hi_2 (hi_1 A))) (t := 116) (l := 120) (w := 121) (q := 122) rfl (hf 120 (by omega) (by omega)) (hf 121 (by omega) (by omega)) (hf 122 (by omega) (by omega)) (by omega) (by omega) (by omega) (by omega) (by omega) (by omega)) (fun r_120 A_120 h_120 => ?_)
      obtain ⟨rfl, hA_120⟩ := h_120
      obtain rfl := hA_120.symm
      clear hA_120
      refine mx_R fun hR_1 => ?_
      refine mx_putP 15 d_H_init_123 f_H_55 rfl (ht) (Or.inr ⟨rfl, _, rfl, rfl⟩) (Or.inl ⟨_, rfl⟩) ?_
      refine mx_R fun hR_2 => ?_
      refine mx_aload_n 0 d_H_init_126 rfl rfl ?_
      refine mx_new (kc := 2) (ks := 384) (n := 3) (117) d_H_init_127 w_H_59 (hf 117 (by omega) (by omega)) ?_
      refine mx_R fun hR_3 => ?_
      refine mx_dup d_H_init_130 (fun z h => by cases h) ?_
      refine mj_Xeq (A' := hi_4 (hi_3 (hi_2 (hi_1 A)))) rfl ?_
      refine mx_R fun hR => ?_
      refine mx_callI (kc := 0) (ks := 0) (N := n_F_init) (as := []) d_H_init_131 s_H_61 ⟨Nat.le_of_ble_eq_true rfl, Nat.le_of_ble_eq_true rfl⟩ rfl (mj_wt_8 (Nat.le_of_ble_eq_true rfl)) (ct_F_init (A := hi_4 (hi_3 (hi_2 (hi_1 A)))) (t := 117) (l := 123) (w := 124) rfl (hf 123 (by omega) (by omega)) (hf 124 (by omega) (by omega)) (by omega) (by omega) (by omega)) (fun r_131 A_131 h_131 => ?_)
      obtain ⟨rfl, hA_131⟩ := h_131
      obtain rfl := hA_131.symm
      clear hA_131
      refine mx_R fun hR_1 => ?_
      refine mx_putP 16 d_H_init_134 f_H_62 rfl (ht) (Or.inr ⟨rfl, _, rfl, rfl⟩) (Or.inl ⟨_, rfl⟩) ?_
      refine mx_R fun hR_2 => ?_
      refine mx_vret d_H_init_137 rfl ?_
      exact ⟨rfl, rfl⟩
    · refine mx_aload_n 0 d_H_init_32 rfl rfl ?_
      refine mx_getPs 4 d_H_init_33 f_H_15 rfl rfl (ht) (rfl) ?_
      refine mx_iload_n 1 d_H_init_36 rfl rfl ?_
      refine mx_iload_n 1 d_H_init_37 rfl rfl ?_
      refine mx_bipush d_H_init_38 (by decide) ?_
      refine mx_irem d_H_init_40 (by first | assumption | exact hR _ _ | exact r32_mk (by omega) (by omega)) (by first | assumption | exact hR _ _ | exact r32_mk (by omega) (by omega)) (by omega) ?_
      rw [Int.tmod_eq_emod_of_nonneg hi.1]
      refine mx_iconst d_H_init_41 ?_
      refine mx_iadd d_H_init_42 ?_
      refine mx_iast d_H_init_43 (rfl) (by omega) (by omega) (by first | assumption | exact hR _ _ | exact r32_mk (by omega) (by omega)) ?_
      refine mx_R fun hR_1 => ?_
      refine mx_iinc 1 d_H_init_44 rfl (Nat.le_of_ble_eq_true rfl) ?_
      refine mx_goto 23 d_H_init_47 rfl ?_
      refine mj_Xeq ?_ (ih (i + 1) ⟨by omega, by omega⟩ (by omega))
      rw [sI_sF]
      refine sF_congr fun j => ?_
      by_cases e : j = i
      · rw [if_pos e, if_pos (by omega), e]
      · rw [if_neg e]
        exact mj_ic (by omega)
  refine mx_R fun hR => ?_
  refine mx_aload_n 0 d_H_init_0 rfl rfl ?_
  refine mx_objInit d_H_init_1 s_H_3 mj_oi2 mj_oi3 (Nat.le_of_ble_eq_true rfl) (mj_wt_12 (Nat.le_of_ble_eq_true rfl)) (mj_sne ht) ?_
  refine mx_aload_n 0 d_H_init_4 rfl rfl ?_
  refine mx_bipush d_H_init_5 (by decide) ?_
  refine mx_anew (t := 3) (kc := 15) (ks := 1228) (n1 := 16) (101) d_H_init_7 (by decide) (by decide) a_H_9 (hf 101 (by omega) (by omega)) rfl (by decide) ?_
  refine mx_R fun hR_1 => ?_
  refine mx_putP 0 d_H_init_10 f_H_11 rfl (ht) (Or.inr ⟨rfl, _, rfl, rfl⟩) (Or.inr ⟨_, rfl⟩) ?_
  refine mx_R fun hR_2 => ?_
  refine mx_aload_n 0 d_H_init_13 rfl rfl ?_
  refine mx_bipush d_H_init_14 (by decide) ?_
  refine mx_newa (kc := 14) (ks := 1196) (n1 := 32) (105) d_H_init_16 (by decide) rfl mj_ac0 (hf 105 (by omega) (by omega)) (rfl) (by decide) ?_
  refine mx_R fun hR_3 => ?_
  refine mx_putP 4 d_H_init_18 f_H_15 rfl (ht) (Or.inr ⟨rfl, _, rfl, rfl⟩) (Or.inr ⟨_, rfl⟩) ?_
  refine mx_R fun hR_4 => ?_
  refine mx_iconst d_H_init_21 ?_
  refine mx_istore_n 1 d_H_init_22 rfl (Nat.le_of_ble_eq_true rfl) ?_
  refine mj_Xeq ?_ (hl 0 ⟨by omega, by omega⟩)
  refine (sF_id fun j => ?_).symm
  show (if 0 ≤ j ∧ j < 0 then j % 8 + 1 else 0) = 0
  rw [if_neg (by omega)]
def mi_0 (A : mj_M) : mj_M := sP (sN (sP (sN (sP (sN (sP (sN (sP (sN (sP (sN (sP (sN (sP (sN (sP (sN (sP (sN (sP (sN (sP (sN (sP (sN (sP (sN (sP (sN (sP (sN (sP (sN (sP (sN (sP (sN (sP (sN (sP (sN (sP (sN (sP (sN (sP (sN (sP (sN (sP (sN (sP (sN (sP (sN (sP (sN (sP (sN (sP (sN (sP (sN (sP (sN (sP (sN (sP (sN (sP (sN (A) 204 (.inr (0, 16))) 200 4 (some 204)) 205 (.inr (0, 16))) 200 5 (some 205)) 206 (.inr (0, 16))) 200 6 (some 206)) 207 (.inr (0, 16))) 200 7 (some 207)) 208 (.inr (1, 16))) 200 8 (some 208)) 209 (.inr (0, 16))) 200 9 (some 209)) 210 (.inr (0, 128))) 200 10 (some 210)) 211 (.inr (0, 128))) 200 11 (some 211)) 212 (.inr (0, 512))) 200 12 (some 212)) 213 (.inr (0, 16))) 200 13 (some 213)) 214 (.inr (0, 96))) 200 14 (some 214)) 215 (.inr (0, 96))) 200 15 (some 215)) 216 (.inr (1, 16))) 200 16 (some 216)) 218 (.inr (0, 3072))) 200 18 (some 218)) 219 (.inr (0, 3072))) 200 19 (some 219)) 220 (.inr (0, 192))) 200 20 (some 220)) 221 (.inr (1, 192))) 200 21 (some 221)) 222 (.inr (0, 32))) 200 22 (some 222)) 224 (.inr (0, 6))) 200 24 (some 224)) 225 (.inr (0, 6))) 200 25 (some 225)) 226 (.inr (0, 576))) 200 26 (some 226)) 227 (.inr (0, 144))) 200 27 (some 227)) 228 (.inr (1, 24))) 200 28 (some 228)) 229 (.inr (0, 30))) 200 29 (some 229)) 230 (.inr (0, 30))) 200 30 (some 230)) 231 (.inr (0, 8))) 200 31 (some 231)) 233 (.inr (0, 6))) 200 33 (some 233)) 234 (.inr (0, 6))) 200 34 (some 234)) 235 (.inr (0, 36))) 200 35 (some 235)) 236 (.inr (0, 36))) 200 36 (some 236)) 237 (.inr (0, 36))) 200 37 (some 237)) 238 (.inr (1, 144))) 200 38 (some 238)) 239 (.inr (0, 27648))) 200 39 (some 239)) 241 (.inr (0, 4))) 200 41 (some 241)) 242 (.inr (0, 4))) 200 42 (some 242)) 244 (.inr (0, 10))) 200 44 (some 244)
def mth0 (j : Int) : Int := if 0 ≤ j ∧ j < 8 then -1 else 0
def mi_m (A : mj_M) : mj_M := sF (sF (mi_0 A) 222 pal0) 231 mth0
theorem ct_M_init_l (ht : gS A 200 = some (.inl 7)) : mj_X G n_M_init (mj_Qm G n_M_init (fun r A' => r = none ∧ A' = mi_m A) mj_no) (mi_0 A) 0 0 301 [some (mR (some 200)), none] [] := by
  have hl2 : ∀ i : Int, (0 ≤ i ∧ i ≤ 8) → mj_X G n_M_init (mj_Qm G n_M_init (fun r A' => r = none ∧ A' = mi_m A) mj_no) (sF (sF (mi_0 A) 222 pal0) 231 (fun j => if 0 ≤ j ∧ j < i then -1 else 0)) 0 0 329 [some (mR (some 200)), some (mI i)] [] := by
    refine mj_loop _ (fun i => (9 - i).toNat) _ ?_
    intro i hi ih
    refine mx_R fun hR => ?_
    refine mx_iload_n 1 d_M_init_329 rfl rfl ?_
    refine mx_bipush d_M_init_330 (by decide) ?_
    refine mx_icmp_ge 348 d_M_init_332 rfl (by first | assumption | exact hR _ _ | exact r32_mk (by omega) (by omega)) (by first | assumption | exact hR _ _ | exact r32_mk (by omega) (by omega)) (fun c_332 => ?_) (fun c_332 => ?_)
    · refine mx_vret d_M_init_348 rfl ?_
      rw [show i = 8 by omega]
      exact ⟨rfl, rfl⟩
    · refine mx_aload_n 0 d_M_init_335 rfl rfl ?_
      refine mx_getPs 31 d_M_init_336 f_M_86 rfl rfl (ht) (rfl) ?_
      refine mx_iload_n 1 d_M_init_339 rfl rfl ?_
      refine mx_iconst d_M_init_340 ?_
      refine mx_iast d_M_init_341 (rfl) (by omega) (by omega) (by first | assumption | exact hR _ _ | exact r32_mk (by omega) (by omega)) ?_
      refine mx_R fun hR_1 => ?_
      refine mx_iinc 1 d_M_init_342 rfl (Nat.le_of_ble_eq_true rfl) ?_
      refine mx_goto 329 d_M_init_345 rfl ?_
      refine mj_Xeq ?_ (ih (i + 1) ⟨by omega, by omega⟩ (by omega))
      rw [sI_sF]
      refine sF_congr fun j => ?_
      by_cases e : j = i
      · rw [if_pos e, if_pos (by omega)]
      · rw [if_neg e]
        exact mj_ic (by omega)
  have hl1 : ∀ i : Int, (0 ≤ i ∧ i ≤ 32) → mj_X G n_M_init (mj_Qm G n_M_init (fun r A' => r = none ∧ A' = mi_m A) mj_no) (sF (mi_0 A) 222 (fun j => if 0 ≤ j ∧ j < i then j % 8 + 1 else 0)) 0 0 303 [some (mR (some 200)), some (mI i)] [] := by
    refine mj_loop _ (fun i => (33 - i).toNat) _ ?_
    intro i hi ih
    refine mx_R fun hR => ?_
    refine mx_iload_n 1 d_M_init_303 rfl rfl ?_
    refine mx_bipush d_M_init_304 (by decide) ?_
    refine mx_icmp_ge 327 d_M_init_306 rfl (by first | assumption | exact hR _ _ | exact r32_mk (by omega) (by omega)) (by first | assumption | exact hR _ _ | exact r32_mk (by omega) (by omega)) (fun c_306 => ?_) (fun c_306 => ?_)
    · refine mx_iconst d_M_init_327 ?_
      refine mx_istore_n 1 d_M_init_328 rfl (Nat.le_of_ble_eq_true rfl) ?_
      rw [show i = 32 by omega]
      refine mj_Xeq ?_ (hl2 0 ⟨by omega, by omega⟩)
      refine (sF_id fun j => ?_).symm
      show (if 0 ≤ j ∧ j < 0 then -1 else 0) = 0
      rw [if_neg (by omega)]
    · refine mx_aload_n 0 d_M_init_309 rfl rfl ?_
      refine mx_getPs 22 d_M_init_310 f_M_62 rfl rfl (ht) (rfl) ?_
      refine mx_iload_n 1 d_M_init_313 rfl rfl ?_
      refine mx_iload_n 1 d_M_init_314 rfl rfl ?_
      refine mx_bipush d_M_init_315 (by decide) ?_
      refine mx_irem d_M_init_317 (by first | assumption | exact hR _ _ | exact r32_mk (by omega) (by omega)) (by first | assumption | exact hR _ _ | exact r32_mk (by omega) (by omega)) (by omega) ?_
      rw [Int.tmod_eq_emod_of_nonneg hi.1]
      refine mx_iconst d_M_init_318 ?_
      refine mx_iadd d_M_init_319 ?_
      refine mx_iast d_M_init_320 (rfl) (by omega) (by omega) (by first | assumption | exact hR _ _ | exact r32_mk (by omega) (by omega)) ?_
      refine mx_R fun hR_1 => ?_
      refine mx_iinc 1 d_M_init_321 rfl (Nat.le_of_ble_eq_true rfl) ?_
      refine mx_goto 303 d_M_init_324 rfl ?_
      refine mj_Xeq ?_ (ih (i + 1) ⟨by omega, by omega⟩ (by omega))
      rw [sI_sF]
      refine sF_congr fun j => ?_
      by_cases e : j = i
      · rw [if_pos e, if_pos (by omega), e]
      · rw [if_neg e]
        exact mj_ic (by omega)
  refine mx_R fun hR => ?_
  refine mx_iconst d_M_init_301 ?_
  refine mx_istore_n 1 d_M_init_302 rfl (Nat.le_of_ble_eq_true rfl) ?_
  refine mj_Xeq ?_ (hl1 0 ⟨by omega, by omega⟩)
  refine (sF_id fun j => ?_).symm
  show (if 0 ≤ j ∧ j < 0 then j % 8 + 1 else 0) = 0
  rw [if_neg (by omega)]
theorem ct_M_init (ht : gS A 200 = some (.inl 7)) (hf : ∀ c, 201 ≤ c → c ≤ 245 → gS A c = none) : mj_Cal G n_M_init [mR (some 200)] A (fun r A' => r = none ∧ A' = mi_m A) mj_no := by
  refine mj_bodyK 36 36402 [some (mR (some 200)), none] rfl rfl rfl (by decide +kernel) (Nat.le_of_ble_eq_true rfl) (by simp) rfl ?_
  refine mx_R fun hR => ?_
  refine mx_aload_n 0 d_M_init_0 rfl rfl ?_
  refine mx_objInit d_M_init_1 s_M_1 mj_oi2 mj_oi3 (Nat.le_of_ble_eq_true rfl) (mj_wt_12 (Nat.le_of_ble_eq_true rfl)) (mj_sne ht) ?_
  refine mx_aload_n 0 d_M_init_4 rfl rfl ?_
  refine mx_bipush d_M_init_5 (by decide) ?_
  refine mx_newa (kc := 35) (ks := 36386) (n1 := 16) (204) d_M_init_7 (by decide) rfl mj_ac0 (hf 204 (by omega) (by omega)) (rfl) (by decide) ?_
  refine mx_R fun hR_1 => ?_
  refine mx_putP 4 d_M_init_9 f_M_7 rfl (ht) (Or.inr ⟨rfl, _, rfl, rfl⟩) (Or.inr ⟨_, rfl⟩) ?_
  refine mx_R fun hR_2 => ?_
  refine mx_aload_n 0 d_M_init_12 rfl rfl ?_
  refine mx_bipush d_M_init_13 (by decide) ?_
  refine mx_newa (kc := 34) (ks := 36370) (n1 := 16) (205) d_M_init_15 (by decide) rfl mj_ac0 (hf 205 (by omega) (by omega)) (rfl) (by decide) ?_
  refine mx_R fun hR_3 => ?_
  refine mx_putP 5 d_M_init_17 f_M_13 rfl (ht) (Or.inr ⟨rfl, _, rfl, rfl⟩) (Or.inr ⟨_, rfl⟩) ?_
  refine mx_R fun hR_4 => ?_
  refine mx_aload_n 0 d_M_init_20 rfl rfl ?_
  refine mx_bipush d_M_init_21 (by decide) ?_
  refine mx_newa (kc := 33) (ks := 36354) (n1 := 16) (206) d_M_init_23 (by decide) rfl mj_ac0 (hf 206 (by omega) (by omega)) (rfl) (by decide) ?_
  refine mx_R fun hR_5 => ?_
  refine mx_putP 6 d_M_init_25 f_M_16 rfl (ht) (Or.inr ⟨rfl, _, rfl, rfl⟩) (Or.inr ⟨_, rfl⟩) ?_
  refine mx_R fun hR_6 => ?_
  refine mx_aload_n 0 d_M_init_28 rfl rfl ?_
  refine mx_bipush d_M_init_29 (by decide) ?_
  refine mx_newa (kc := 32) (ks := 36338) (n1 := 16) (207) d_M_init_31 (by decide) rfl mj_ac0 (hf 207 (by omega) (by omega)) (rfl) (by decide) ?_
  refine mx_R fun hR_7 => ?_
  refine mx_putP 7 d_M_init_33 f_M_19 rfl (ht) (Or.inr ⟨rfl, _, rfl, rfl⟩) (Or.inr ⟨_, rfl⟩) ?_
  refine mx_R fun hR_8 => ?_
  refine mx_aload_n 0 d_M_init_36 rfl rfl ?_
  refine mx_bipush d_M_init_37 (by decide) ?_
  refine mx_newa (kc := 31) (ks := 36322) (n1 := 16) (208) d_M_init_39 (by decide) rfl mj_ac1 (hf 208 (by omega) (by omega)) (rfl) (by decide) ?_
  refine mx_R fun hR_9 => ?_
  refine mx_putP 8 d_M_init_41 f_M_22 rfl (ht) (Or.inr ⟨rfl, _, rfl, rfl⟩) (Or.inr ⟨_, rfl⟩) ?_
  refine mx_R fun hR_10 => ?_
  refine mx_aload_n 0 d_M_init_44 rfl rfl ?_
  refine mx_bipush d_M_init_45 (by decide) ?_
  refine mx_newa (kc := 30) (ks := 36306) (n1 := 16) (209) d_M_init_47 (by decide) rfl mj_ac0 (hf 209 (by omega) (by omega)) (rfl) (by decide) ?_
  refine mx_R fun hR_11 => ?_
  refine mx_putP 9 d_M_init_49 f_M_26 rfl (ht) (Or.inr ⟨rfl, _, rfl, rfl⟩) (Or.inr ⟨_, rfl⟩) ?_
  refine mx_R fun hR_12 => ?_
  refine mx_aload_n 0 d_M_init_52 rfl rfl ?_
  refine mx_sipush d_M_init_53 (by decide) ?_
  refine mx_newa (kc := 29) (ks := 36178) (n1 := 128) (210) d_M_init_56 (by decide) rfl mj_ac0 (hf 210 (by omega) (by omega)) (rfl) (by decide) ?_
  refine mx_R fun hR_13 => ?_
  refine mx_putP 10 d_M_init_58 f_M_29 rfl (ht) (Or.inr ⟨rfl, _, rfl, rfl⟩) (Or.inr ⟨_, rfl⟩) ?_
  refine mx_R fun hR_14 => ?_
  refine mx_aload_n 0 d_M_init_61 rfl rfl ?_
  refine mx_sipush d_M_init_62 (by decide) ?_
  refine mx_newa (kc := 28) (ks := 36050) (n1 := 128) (211) d_M_init_65 (by decide) rfl mj_ac0 (hf 211 (by omega) (by omega)) (rfl) (by decide) ?_
  refine mx_R fun hR_15 => ?_
  refine mx_putP 11 d_M_init_67 f_M_32 rfl (ht) (Or.inr ⟨rfl, _, rfl, rfl⟩) (Or.inr ⟨_, rfl⟩) ?_
  refine mx_R fun hR_16 => ?_
  refine mx_aload_n 0 d_M_init_70 rfl rfl ?_
  refine mx_sipush d_M_init_71 (by decide) ?_
  refine mx_newa (kc := 27) (ks := 35538) (n1 := 512) (212) d_M_init_74 (by decide) rfl mj_ac0 (hf 212 (by omega) (by omega)) (rfl) (by decide) ?_
  refine mx_R fun hR_17 => ?_
  refine mx_putP 12 d_M_init_76 f_M_35 rfl (ht) (Or.inr ⟨rfl, _, rfl, rfl⟩) (Or.inr ⟨_, rfl⟩) ?_
  refine mx_R fun hR_18 => ?_
  refine mx_aload_n 0 d_M_init_79 rfl rfl ?_
  refine mx_bipush d_M_init_80 (by decide) ?_
  refine mx_newa (kc := 26) (ks := 35522) (n1 := 16) (213) d_M_init_82 (by decide) rfl mj_ac0 (hf 213 (by omega) (by omega)) (rfl) (by decide) ?_
  refine mx_R fun hR_19 => ?_
  refine mx_putP 13 d_M_init_84 f_M_38 rfl (ht) (Or.inr ⟨rfl, _, rfl, rfl⟩) (Or.inr ⟨_, rfl⟩) ?_
  refine mx_R fun hR_20 => ?_
  refine mx_aload_n 0 d_M_init_87 rfl rfl ?_
  refine mx_bipush d_M_init_88 (by decide) ?_
  refine mx_newa (kc := 25) (ks := 35426) (n1 := 96) (214) d_M_init_90 (by decide) rfl mj_ac0 (hf 214 (by omega) (by omega)) (rfl) (by decide) ?_
  refine mx_R fun hR_21 => ?_
  refine mx_putP 14 d_M_init_92 f_M_41 rfl (ht) (Or.inr ⟨rfl, _, rfl, rfl⟩) (Or.inr ⟨_, rfl⟩) ?_
  refine mx_R fun hR_22 => ?_
  refine mx_aload_n 0 d_M_init_95 rfl rfl ?_
  refine mx_bipush d_M_init_96 (by decide) ?_
  refine mx_newa (kc := 24) (ks := 35330) (n1 := 96) (215) d_M_init_98 (by decide) rfl mj_ac0 (hf 215 (by omega) (by omega)) (rfl) (by decide) ?_
  refine mx_R fun hR_23 => ?_
  refine mx_putP 15 d_M_init_100 f_M_44 rfl (ht) (Or.inr ⟨rfl, _, rfl, rfl⟩) (Or.inr ⟨_, rfl⟩) ?_
  refine mx_R fun hR_24 => ?_
  refine mx_aload_n 0 d_M_init_103 rfl rfl ?_
  refine mx_bipush d_M_init_104 (by decide) ?_
  refine mx_newa (kc := 23) (ks := 35314) (n1 := 16) (216) d_M_init_106 (by decide) rfl mj_ac1 (hf 216 (by omega) (by omega)) (rfl) (by decide) ?_
  refine mx_R fun hR_25 => ?_
  refine mx_putP 16 d_M_init_108 f_M_47 rfl (ht) (Or.inr ⟨rfl, _, rfl, rfl⟩) (Or.inr ⟨_, rfl⟩) ?_
  refine mx_R fun hR_26 => ?_
  refine mx_aload_n 0 d_M_init_111 rfl rfl ?_
  refine mx_sipush d_M_init_112 (by decide) ?_
  refine mx_newa (kc := 22) (ks := 32242) (n1 := 3072) (218) d_M_init_115 (by decide) rfl mj_ac0 (hf 218 (by omega) (by omega)) (rfl) (by decide) ?_
  refine mx_R fun hR_27 => ?_
  refine mx_putP 18 d_M_init_117 f_M_50 rfl (ht) (Or.inr ⟨rfl, _, rfl, rfl⟩) (Or.inr ⟨_, rfl⟩) ?_
  refine mx_R fun hR_28 => ?_
  refine mx_aload_n 0 d_M_init_120 rfl rfl ?_
  refine mx_sipush d_M_init_121 (by decide) ?_
  refine mx_newa (kc := 21) (ks := 29170) (n1 := 3072) (219) d_M_init_124 (by decide) rfl mj_ac0 (hf 219 (by omega) (by omega)) (rfl) (by decide) ?_
  refine mx_R fun hR_29 => ?_
  refine mx_putP 19 d_M_init_126 f_M_53 rfl (ht) (Or.inr ⟨rfl, _, rfl, rfl⟩) (Or.inr ⟨_, rfl⟩) ?_
  refine mx_R fun hR_30 => ?_
  refine mx_aload_n 0 d_M_init_129 rfl rfl ?_
  refine mx_sipush d_M_init_130 (by decide) ?_
  refine mx_newa (kc := 20) (ks := 28978) (n1 := 192) (220) d_M_init_133 (by decide) rfl mj_ac0 (hf 220 (by omega) (by omega)) (rfl) (by decide) ?_
  refine mx_R fun hR_31 => ?_
  refine mx_putP 20 d_M_init_135 f_M_56 rfl (ht) (Or.inr ⟨rfl, _, rfl, rfl⟩) (Or.inr ⟨_, rfl⟩) ?_
  refine mx_R fun hR_32 => ?_
  refine mx_aload_n 0 d_M_init_138 rfl rfl ?_
  refine mx_sipush d_M_init_139 (by decide) ?_
  refine mx_newa (kc := 19) (ks := 28786) (n1 := 192) (221) d_M_init_142 (by decide) rfl mj_ac1 (hf 221 (by omega) (by omega)) (rfl) (by decide) ?_
  refine mx_R fun hR_33 => ?_
  refine mx_putP 21 d_M_init_144 f_M_59 rfl (ht) (Or.inr ⟨rfl, _, rfl, rfl⟩) (Or.inr ⟨_, rfl⟩) ?_
  refine mx_R fun hR_34 => ?_
  refine mx_aload_n 0 d_M_init_147 rfl rfl ?_
  refine mx_bipush d_M_init_148 (by decide) ?_
  refine mx_newa (kc := 18) (ks := 28754) (n1 := 32) (222) d_M_init_150 (by decide) rfl mj_ac0 (hf 222 (by omega) (by omega)) (rfl) (by decide) ?_
  refine mx_R fun hR_35 => ?_
  refine mx_putP 22 d_M_init_152 f_M_62 rfl (ht) (Or.inr ⟨rfl, _, rfl, rfl⟩) (Or.inr ⟨_, rfl⟩) ?_
  refine mx_R fun hR_36 => ?_
  refine mx_aload_n 0 d_M_init_155 rfl rfl ?_
  refine mx_bipush d_M_init_156 (by decide) ?_
  refine mx_newa (kc := 17) (ks := 28748) (n1 := 6) (224) d_M_init_158 (by decide) rfl mj_ac0 (hf 224 (by omega) (by omega)) (rfl) (by decide) ?_
  refine mx_R fun hR_37 => ?_
  refine mx_putP 24 d_M_init_160 f_M_65 rfl (ht) (Or.inr ⟨rfl, _, rfl, rfl⟩) (Or.inr ⟨_, rfl⟩) ?_
  refine mx_R fun hR_38 => ?_
  refine mx_aload_n 0 d_M_init_163 rfl rfl ?_
  refine mx_bipush d_M_init_164 (by decide) ?_
  refine mx_newa (kc := 16) (ks := 28742) (n1 := 6) (225) d_M_init_166 (by decide) rfl mj_ac0 (hf 225 (by omega) (by omega)) (rfl) (by decide) ?_
  refine mx_R fun hR_39 => ?_
  refine mx_putP 25 d_M_init_168 f_M_68 rfl (ht) (Or.inr ⟨rfl, _, rfl, rfl⟩) (Or.inr ⟨_, rfl⟩) ?_
  refine mx_R fun hR_40 => ?_
  refine mx_aload_n 0 d_M_init_171 rfl rfl ?_
  refine mx_sipush d_M_init_172 (by decide) ?_
  refine mx_newa (kc := 15) (ks := 28166) (n1 := 576) (226) d_M_init_175 (by decide) rfl mj_ac0 (hf 226 (by omega) (by omega)) (rfl) (by decide) ?_
  refine mx_R fun hR_41 => ?_
  refine mx_putP 26 d_M_init_177 f_M_71 rfl (ht) (Or.inr ⟨rfl, _, rfl, rfl⟩) (Or.inr ⟨_, rfl⟩) ?_
  refine mx_R fun hR_42 => ?_
  refine mx_aload_n 0 d_M_init_180 rfl rfl ?_
  refine mx_sipush d_M_init_181 (by decide) ?_
  refine mx_newa (kc := 14) (ks := 28022) (n1 := 144) (227) d_M_init_184 (by decide) rfl mj_ac0 (hf 227 (by omega) (by omega)) (rfl) (by decide) ?_
  refine mx_R fun hR_43 => ?_
  refine mx_putP 27 d_M_init_186 f_M_74 rfl (ht) (Or.inr ⟨rfl, _, rfl, rfl⟩) (Or.inr ⟨_, rfl⟩) ?_
  refine mx_R fun hR_44 => ?_
  refine mx_aload_n 0 d_M_init_189 rfl rfl ?_
  refine mx_bipush d_M_init_190 (by decide) ?_
  refine mx_newa (kc := 13) (ks := 27998) (n1 := 24) (228) d_M_init_192 (by decide) rfl mj_ac1 (hf 228 (by omega) (by omega)) (rfl) (by decide) ?_
  refine mx_R fun hR_45 => ?_
  refine mx_putP 28 d_M_init_194 f_M_77 rfl (ht) (Or.inr ⟨rfl, _, rfl, rfl⟩) (Or.inr ⟨_, rfl⟩) ?_
  refine mx_R fun hR_46 => ?_
  refine mx_aload_n 0 d_M_init_197 rfl rfl ?_
  refine mx_bipush d_M_init_198 (by decide) ?_
  refine mx_newa (kc := 12) (ks := 27968) (n1 := 30) (229) d_M_init_200 (by decide) rfl mj_ac0 (hf 229 (by omega) (by omega)) (rfl) (by decide) ?_
  refine mx_R fun hR_47 => ?_
  refine mx_putP 29 d_M_init_202 f_M_80 rfl (ht) (Or.inr ⟨rfl, _, rfl, rfl⟩) (Or.inr ⟨_, rfl⟩) ?_
  refine mx_R fun hR_48 => ?_
  refine mx_aload_n 0 d_M_init_205 rfl rfl ?_
  refine mx_bipush d_M_init_206 (by decide) ?_
  refine mx_newa (kc := 11) (ks := 27938) (n1 := 30) (230) d_M_init_208 (by decide) rfl mj_ac0 (hf 230 (by omega) (by omega)) (rfl) (by decide) ?_
  refine mx_R fun hR_49 => ?_
  refine mx_putP 30 d_M_init_210 f_M_83 rfl (ht) (Or.inr ⟨rfl, _, rfl, rfl⟩) (Or.inr ⟨_, rfl⟩) ?_
  refine mx_R fun hR_50 => ?_
  refine mx_aload_n 0 d_M_init_213 rfl rfl ?_
  refine mx_bipush d_M_init_214 (by decide) ?_
  refine mx_newa (kc := 10) (ks := 27930) (n1 := 8) (231) d_M_init_216 (by decide) rfl mj_ac0 (hf 231 (by omega) (by omega)) (rfl) (by decide) ?_
  refine mx_R fun hR_51 => ?_
  refine mx_putP 31 d_M_init_218 f_M_86 rfl (ht) (Or.inr ⟨rfl, _, rfl, rfl⟩) (Or.inr ⟨_, rfl⟩) ?_
  refine mx_R fun hR_52 => ?_
  refine mx_aload_n 0 d_M_init_221 rfl rfl ?_
  refine mx_bipush d_M_init_222 (by decide) ?_
  refine mx_newa (kc := 9) (ks := 27924) (n1 := 6) (233) d_M_init_224 (by decide) rfl mj_ac0 (hf 233 (by omega) (by omega)) (rfl) (by decide) ?_
  refine mx_R fun hR_53 => ?_
  refine mx_putP 33 d_M_init_226 f_M_89 rfl (ht) (Or.inr ⟨rfl, _, rfl, rfl⟩) (Or.inr ⟨_, rfl⟩) ?_
  refine mx_R fun hR_54 => ?_
  refine mx_aload_n 0 d_M_init_229 rfl rfl ?_
  refine mx_bipush d_M_init_230 (by decide) ?_
  refine mx_newa (kc := 8) (ks := 27918) (n1 := 6) (234) d_M_init_232 (by decide) rfl mj_ac0 (hf 234 (by omega) (by omega)) (rfl) (by decide) ?_
  refine mx_R fun hR_55 => ?_
  refine mx_putP 34 d_M_init_234 f_M_92 rfl (ht) (Or.inr ⟨rfl, _, rfl, rfl⟩) (Or.inr ⟨_, rfl⟩) ?_
  refine mx_R fun hR_56 => ?_
  refine mx_aload_n 0 d_M_init_237 rfl rfl ?_
  refine mx_bipush d_M_init_238 (by decide) ?_
  refine mx_newa (kc := 7) (ks := 27882) (n1 := 36) (235) d_M_init_240 (by decide) rfl mj_ac0 (hf 235 (by omega) (by omega)) (rfl) (by decide) ?_
  refine mx_R fun hR_57 => ?_
  refine mx_putP 35 d_M_init_242 f_M_95 rfl (ht) (Or.inr ⟨rfl, _, rfl, rfl⟩) (Or.inr ⟨_, rfl⟩) ?_
  refine mx_R fun hR_58 => ?_
  refine mx_aload_n 0 d_M_init_245 rfl rfl ?_
  refine mx_bipush d_M_init_246 (by decide) ?_
  refine mx_newa (kc := 6) (ks := 27846) (n1 := 36) (236) d_M_init_248 (by decide) rfl mj_ac0 (hf 236 (by omega) (by omega)) (rfl) (by decide) ?_
  refine mx_R fun hR_59 => ?_
  refine mx_putP 36 d_M_init_250 f_M_98 rfl (ht) (Or.inr ⟨rfl, _, rfl, rfl⟩) (Or.inr ⟨_, rfl⟩) ?_
  refine mx_R fun hR_60 => ?_
  refine mx_aload_n 0 d_M_init_253 rfl rfl ?_
  refine mx_bipush d_M_init_254 (by decide) ?_
  refine mx_newa (kc := 5) (ks := 27810) (n1 := 36) (237) d_M_init_256 (by decide) rfl mj_ac0 (hf 237 (by omega) (by omega)) (rfl) (by decide) ?_
  refine mx_R fun hR_61 => ?_
  refine mx_putP 37 d_M_init_258 f_M_101 rfl (ht) (Or.inr ⟨rfl, _, rfl, rfl⟩) (Or.inr ⟨_, rfl⟩) ?_
  refine mx_R fun hR_62 => ?_
  refine mx_aload_n 0 d_M_init_261 rfl rfl ?_
  refine mx_sipush d_M_init_262 (by decide) ?_
  refine mx_newa (kc := 4) (ks := 27666) (n1 := 144) (238) d_M_init_265 (by decide) rfl mj_ac1 (hf 238 (by omega) (by omega)) (rfl) (by decide) ?_
  refine mx_R fun hR_63 => ?_
  refine mx_putP 38 d_M_init_267 f_M_104 rfl (ht) (Or.inr ⟨rfl, _, rfl, rfl⟩) (Or.inr ⟨_, rfl⟩) ?_
  refine mx_R fun hR_64 => ?_
  refine mx_aload_n 0 d_M_init_270 rfl rfl ?_
  refine mx_sipush d_M_init_271 (by decide) ?_
  refine mx_newa (kc := 3) (ks := 18) (n1 := 27648) (239) d_M_init_274 (by decide) rfl mj_ac0 (hf 239 (by omega) (by omega)) (rfl) (by decide) ?_
  refine mx_R fun hR_65 => ?_
  refine mx_putP 39 d_M_init_276 f_M_107 rfl (ht) (Or.inr ⟨rfl, _, rfl, rfl⟩) (Or.inr ⟨_, rfl⟩) ?_
  refine mx_R fun hR_66 => ?_
  refine mx_aload_n 0 d_M_init_279 rfl rfl ?_
  refine mx_iconst d_M_init_280 ?_
  refine mx_newa (kc := 2) (ks := 14) (n1 := 4) (241) d_M_init_281 (by decide) rfl mj_ac0 (hf 241 (by omega) (by omega)) (rfl) (by decide) ?_
  refine mx_R fun hR_67 => ?_
  refine mx_putP 41 d_M_init_283 f_M_110 rfl (ht) (Or.inr ⟨rfl, _, rfl, rfl⟩) (Or.inr ⟨_, rfl⟩) ?_
  refine mx_R fun hR_68 => ?_
  refine mx_aload_n 0 d_M_init_286 rfl rfl ?_
  refine mx_iconst d_M_init_287 ?_
  refine mx_newa (kc := 1) (ks := 10) (n1 := 4) (242) d_M_init_288 (by decide) rfl mj_ac0 (hf 242 (by omega) (by omega)) (rfl) (by decide) ?_
  refine mx_R fun hR_69 => ?_
  refine mx_putP 42 d_M_init_290 f_M_113 rfl (ht) (Or.inr ⟨rfl, _, rfl, rfl⟩) (Or.inr ⟨_, rfl⟩) ?_
  refine mx_R fun hR_70 => ?_
  refine mx_aload_n 0 d_M_init_293 rfl rfl ?_
  refine mx_bipush d_M_init_294 (by decide) ?_
  refine mx_newa (kc := 0) (ks := 0) (n1 := 10) (244) d_M_init_296 (by decide) rfl mj_ac0 (hf 244 (by omega) (by omega)) (rfl) (by decide) ?_
  refine mx_R fun hR_71 => ?_
  refine mx_putP 44 d_M_init_298 f_M_116 rfl (ht) (Or.inr ⟨rfl, _, rfl, rfl⟩) (Or.inr ⟨_, rfl⟩) ?_
  refine mx_R fun hR_72 => ?_
  exact ct_M_init_l ht
end INI2
