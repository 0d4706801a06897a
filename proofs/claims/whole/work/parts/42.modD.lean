/-! THE REFERENCE, 13: all lines of a drawing -/
section MODD
variable {G : mj_G} {A : mj_M}
theorem dr_g0 {g : Int → Int} {a b c e d v : Int} : dr_g g a b c e d v 0 = g := rfl
theorem dr_gc {g : Int → Int} {a b c e d v p : Int} : dr_g g a b c e d v ((pc_m a b c e).toNat + 1) (192 * d + p) = if pc_cov a b c e p = true then v else g (192 * d + p) := by
  unfold dr_g pc_cov
  rw [show (fun i => decide (192 * d + pc_p a b c e i = 192 * d + p)) = (fun i => decide (pc_p a b c e i = p)) from funext fun i => decide_eq_decide.2 ⟨fun h => by omega, fun h => by omega⟩]
theorem dr_go {g : Int → Int} {a b c e d v q : Int} {n : Nat} (hr : ∀ j : Int, 0 ≤ j → j < n → 0 ≤ pc_p a b c e j ∧ pc_p a b c e j < 192) (hq : ¬ (192 * d ≤ q ∧ q < 192 * d + 192)) : dr_g g a b c e d v n q = g q := by
  unfold dr_g
  rw [if_neg]
  intro h
  obtain ⟨j, j0, j1, j2⟩ := (mj_any_iff n).1 h
  have h1 := hr j j0 j1
  have h2 := of_decide_eq_true j2
  omega
/-- the rows of strokes are in their ranges -/
def mo_st2 (A : mj_M) : Prop := (∀ d, 0 ≤ d → d < 16 → 0 ≤ gI A 209 d ∧ gI A 209 d ≤ 8) ∧ (∀ k, 0 ≤ gI A 212 (4 * k) ∧ gI A 212 (4 * k) < 16) ∧ (∀ k, 0 ≤ gI A 212 (4 * k + 1) ∧ gI A 212 (4 * k + 1) < 12) ∧ (∀ k, 0 ≤ gI A 212 (4 * k + 2) ∧ gI A 212 (4 * k + 2) < 16) ∧ (∀ k, 0 ≤ gI A 212 (4 * k + 3) ∧ gI A 212 (4 * k + 3) < 12) ∧ (∀ k, 0 ≤ gI A 211 k ∧ gI A 211 k ≤ 7)
theorem mo_st2.n {A : mj_M} (h : mo_st2 A) : ∀ d, 0 ≤ d → d < 16 → 0 ≤ gI A 209 d ∧ gI A 209 d ≤ 8 := h.1
theorem mo_st2.x {A : mj_M} (h : mo_st2 A) : ∀ k, 0 ≤ gI A 212 (4 * k) ∧ gI A 212 (4 * k) < 16 := h.2.1
theorem mo_st2.y {A : mj_M} (h : mo_st2 A) : ∀ k, 0 ≤ gI A 212 (4 * k + 1) ∧ gI A 212 (4 * k + 1) < 12 := h.2.2.1
theorem mo_st2.u {A : mj_M} (h : mo_st2 A) : ∀ k, 0 ≤ gI A 212 (4 * k + 2) ∧ gI A 212 (4 * k + 2) < 16 := h.2.2.2.1
theorem mo_st2.v {A : mj_M} (h : mo_st2 A) : ∀ k, 0 ≤ gI A 212 (4 * k + 3) ∧ gI A 212 (4 * k + 3) < 12 := h.2.2.2.2.1
theorem mo_st2.c {A : mj_M} (h : mo_st2 A) : ∀ k, 0 ≤ gI A 211 k ∧ gI A 211 k ≤ 7 := h.2.2.2.2.2
abbrev mo_E (B : mj_M) (d : Int) : Int → Int := fun i => gI B 212 (32 * d + i)
abbrev mo_I (B : mj_M) (d : Int) : Int → Int := fun i => gI B 211 (8 * d + i)
/-- k lines are drawn -/
def dr_k (B : mj_M) (d : Int) (k : Nat) (g h : Int → Int) : Prop := (∀ q, ¬ (192 * d ≤ q ∧ q < 192 * d + 192) → g q = gI B 218 q ∧ h q = gI B 219 q) ∧ ∀ p, 0 ≤ p → p < 192 → g (192 * d + p) = pc_ln (mo_E B d) (mo_I B d) k p ∧ h (192 * d + p) = if pc_cv (mo_E B d) k p = true then 1 else 0
theorem dr_lines {B : mj_M} {d : Int} {P : Option mj_V → mj_M → Prop} (hM : MS B) (hs : mo_st2 B) (hd : 0 ≤ d ∧ d < 16)
    (hP : ∀ g h o2 o3 o4 o5 o6 o7 o8, dr_k B d (gI B 209 d).toNat g h → mj_X G n_M_draws (mj_Qm G n_M_draws P mj_no) (dr_m B g h) 0 0 252 [some (mR (some 200)), some (mI d), o2, o3, o4, o5, o6, o7, o8] []) :
    ∀ q : Nat × (Int → Int) × (Int → Int) × Option mj_V × Option mj_V × Option mj_V × Option mj_V × Option mj_V × Option mj_V, ((q.1 : Int) ≤ gI B 209 d ∧ dr_k B d q.1 q.2.1 q.2.2.1) → mj_X G n_M_draws (mj_Qm G n_M_draws P mj_no) (dr_m B q.2.1 q.2.2.1) 0 0 44 [some (mR (some 200)), some (mI d), some (mI (8 * d + q.1)), q.2.2.2.1, q.2.2.2.2.1, q.2.2.2.2.2.1, q.2.2.2.2.2.2.1, q.2.2.2.2.2.2.2.1, q.2.2.2.2.2.2.2.2] [] := by
  have hn := hs.n d hd.1 hd.2
  refine mj_loop _ (fun q => (8 - q.1)) _ ?_
  intro ⟨k, g, h, o3, o4, o5, o6, o7, o8⟩ ⟨hk, hi⟩ ih
  replace hk : (k : Int) ≤ gI B 209 d := hk
  replace hi : dr_k B d k g h := hi
  obtain ⟨a, ha⟩ : ∃ a, gI B 212 (4 * (8 * d + k)) = a := ⟨_, rfl⟩
  obtain ⟨b, hb⟩ : ∃ a, gI B 212 (4 * (8 * d + k) + 1) = a := ⟨_, rfl⟩
  obtain ⟨c, hc⟩ : ∃ a, gI B 212 (4 * (8 * d + k) + 2) = a := ⟨_, rfl⟩
  obtain ⟨e, he⟩ : ∃ a, gI B 212 (4 * (8 * d + k) + 3) = a := ⟨_, rfl⟩
  have ra := hs.x (8 * d + k)
  have rb := hs.y (8 * d + k)
  have rc := hs.u (8 * d + k)
  have re := hs.v (8 * d + k)
  have ri := hs.c (8 * d + k)
  have e1 : gI (dr_m B g h) 212 (4 * (8 * d + k)) = a := ha
  have e2 : gI (dr_m B g h) 212 (4 * (8 * d + k) + 1) = b := hb
  have e3 : gI (dr_m B g h) 212 (4 * (8 * d + k) + 2) = c := hc
  have e4 : gI (dr_m B g h) 212 (4 * (8 * d + k) + 3) = e := he
  have en : gI (dr_m B g h) 209 d = gI B 209 d := rfl
  have h1 : 0 ≤ pc_ab (c - a) ∧ pc_ab (c - a) ≤ 15 := by unfold pc_ab; omega
  have h2 : 0 ≤ pc_ab (e - b) ∧ pc_ab (e - b) ≤ 15 := by unfold pc_ab; omega
  have hcs : ∀ p, pc_cs (mo_E B d) k p = pc_cov a b c e p := by
    intro p
    unfold pc_cs
    show pc_cov (gI B 212 (32 * d + 4 * k)) (gI B 212 (32 * d + (4 * k + 1))) (gI B 212 (32 * d + (4 * k + 2))) (gI B 212 (32 * d + (4 * k + 3))) p = _
    rw [← ha, ← hb, ← hc, ← he, show 32 * d + 4 * (k : Int) = 4 * (8 * d + k) by omega, show 32 * d + (4 * (k : Int) + 1) = 4 * (8 * d + k) + 1 by omega, show 32 * d + (4 * (k : Int) + 2) = 4 * (8 * d + k) + 2 by omega, show 32 * d + (4 * (k : Int) + 3) = 4 * (8 * d + k) + 3 by omega]
  show mj_X G n_M_draws (mj_Qm G n_M_draws P mj_no) (dr_m B g h) 0 0 44 [some (mR (some 200)), some (mI d), some (mI (8 * d + k)), o3, o4, o5, o6, o7, o8] []
  refine mx_R fun hR => ?_
  refine mx_iload_n 2 d_M_draws_44 rfl rfl ?_
  refine mx_bipush d_M_draws_45 (by decide) ?_
  refine mx_iload_n 1 d_M_draws_47 rfl rfl ?_
  refine mx_imul d_M_draws_48 ?_
  refine mx_aload_n 0 d_M_draws_49 rfl rfl ?_
  refine mx_getPs 9 d_M_draws_50 f_M_26 rfl rfl (hM.o) (hM.p9) ?_
  refine mx_iload_n 1 d_M_draws_53 rfl rfl ?_
  refine mx_iald d_M_draws_54 (hM.s9) (by omega) (by omega) ?_
  refine mx_iadd d_M_draws_55 ?_
  refine mx_icmp_ge 252 d_M_draws_56 rfl (by first | assumption | exact hR _ _ | exact r32_mk (by omega) (by omega)) (by first | assumption | exact hR _ _ | exact r32_mk (by omega) (by omega)) (fun c_56 => ?_) (fun c_56 => ?_)
  · have ek : k = (gI B 209 d).toNat := by omega
    rw [ek] at hi
    exact hP g h _ _ _ _ _ _ _ hi
  · refine mx_aload_n 0 d_M_draws_59 rfl rfl ?_
    refine mx_getPs 12 d_M_draws_60 f_M_35 rfl rfl (hM.o) (hM.p12) ?_
    refine mx_iconst d_M_draws_63 ?_
    refine mx_iload_n 2 d_M_draws_64 rfl rfl ?_
    refine mx_imul d_M_draws_65 ?_
    refine mx_iconst d_M_draws_66 ?_
    refine mx_iadd d_M_draws_67 ?_
    refine mx_iald d_M_draws_68 (hM.s12) (by omega) (by omega) ?_
    rw [e3]
    refine mx_aload_n 0 d_M_draws_69 rfl rfl ?_
    refine mx_getPs 12 d_M_draws_70 f_M_35 rfl rfl (hM.o) (hM.p12) ?_
    refine mx_iconst d_M_draws_73 ?_
    refine mx_iload_n 2 d_M_draws_74 rfl rfl ?_
    refine mx_imul d_M_draws_75 ?_
    refine mx_iald d_M_draws_76 (hM.s12) (by omega) (by omega) ?_
    rw [e1]
    refine mx_isub d_M_draws_77 ?_
    refine mx_istore_n 3 d_M_draws_78 rfl (Nat.le_of_ble_eq_true rfl) ?_
    refine mx_aload_n 0 d_M_draws_79 rfl rfl ?_
    refine mx_getPs 12 d_M_draws_80 f_M_35 rfl rfl (hM.o) (hM.p12) ?_
    refine mx_iconst d_M_draws_83 ?_
    refine mx_iload_n 2 d_M_draws_84 rfl rfl ?_
    refine mx_imul d_M_draws_85 ?_
    refine mx_iconst d_M_draws_86 ?_
    refine mx_iadd d_M_draws_87 ?_
    refine mx_iald d_M_draws_88 (hM.s12) (by omega) (by omega) ?_
    rw [e4]
    refine mx_aload_n 0 d_M_draws_89 rfl rfl ?_
    refine mx_getPs 12 d_M_draws_90 f_M_35 rfl rfl (hM.o) (hM.p12) ?_
    refine mx_iconst d_M_draws_93 ?_
    refine mx_iload_n 2 d_M_draws_94 rfl rfl ?_
    refine mx_imul d_M_draws_95 ?_
    refine mx_iconst d_M_draws_96 ?_
    refine mx_iadd d_M_draws_97 ?_
    refine mx_iald d_M_draws_98 (hM.s12) (by omega) (by omega) ?_
    rw [e2]
    refine mx_isub d_M_draws_99 ?_
    refine mx_istore 4 d_M_draws_100 (Nat.le_of_ble_eq_true rfl) ?_
    refine mj_cutI ( pc_m a b c e) 126 ?_ (fun hJ_102 => ?_)
    · refine mx_istore 5 d_M_draws_126 (Nat.le_of_ble_eq_true rfl) ?_
      refine mx_iconst d_M_draws_128 ?_
      refine mx_istore 6 d_M_draws_129 (Nat.le_of_ble_eq_true rfl) ?_
      have h9 := dr_j (G := G) (P := P) (g := g) (h := h) (K := 8 * d + k) (m := pc_m a b c e) (v := gI B 211 (8 * d + k)) hM hd ⟨by omega, by omega⟩ ha hb rfl (by omega) (by omega) (by omega) (by omega) rfl (r32_mk (by omega) (by omega)) (fun p6 p7 p8 => by
          have h10 := ih (k + 1, dr_g g a b c e d (gI B 211 (8 * d + k)) ((pc_m a b c e).toNat + 1), dr_g h a b c e d 1 ((pc_m a b c e).toNat + 1), some (mI (c - a)), some (mI (e - b)), some (mI (pc_m a b c e)), p6, p7, p8) ⟨by show ((k + 1 : Nat) : Int) ≤ _; omega, ⟨fun q hq => ?_, fun p p0 p1 => ?_⟩⟩ (by show 8 - (k + 1) < 8 - k; omega)
          · rw [show 8 * d + (k : Int) + 1 = 8 * d + ((k + 1 : Nat) : Int) by omega]
            exact h10
          · have hrr : ∀ j : Int, 0 ≤ j → j < ((pc_m a b c e).toNat + 1 : Nat) → 0 ≤ pc_p a b c e j ∧ pc_p a b c e j < 192 := fun j j0 j1 => pc_p_r (by omega) (by omega) (by omega) (by omega) ⟨j0, by have := pc_m_r (a := a) (b := b) (c := c) (d := e); omega⟩
            exact ⟨(dr_go hrr hq).trans (hi.1 q hq).1, (dr_go hrr hq).trans (hi.1 q hq).2⟩
          · have h11 := hi.2 p p0 p1
            constructor
            · show dr_g g a b c e d (gI B 211 (8 * d + k)) ((pc_m a b c e).toNat + 1) (192 * d + p) = pc_ln (mo_E B d) (mo_I B d) (k + 1) p
              rw [dr_gc, h11.1, pc_ln, hcs p]
            · show dr_g h a b c e d 1 ((pc_m a b c e).toNat + 1) (192 * d + p) = if pc_cv (mo_E B d) (k + 1) p = true then 1 else 0
              rw [dr_gc, h11.2, pc_cv, hcs p]
              cases pc_cov a b c e p <;> cases pc_cv (mo_E B d) k p <;> rfl) (0, o7, o8) (by have := pc_m_r (a := a) (b := b) (c := c) (d := e); show ((0 : Nat) : Int) ≤ _; omega)
      rw [dr_g0, dr_g0] at h9
      exact h9
    · refine mx_iload_n 3 d_M_draws_102 rfl rfl ?_
      refine mx_callS (kc := 0) (ks := 0) (N := n_M_size) (as := [_]) d_M_draws_103 s_M_169 ⟨Nat.le_of_ble_eq_true rfl, Nat.le_of_ble_eq_true rfl⟩ rfl (mj_wt_8 (Nat.le_of_ble_eq_true rfl)) (cm_size (r32_mk (by omega) (by omega))) (fun r_103 A_103 h_103 => ?_) (fun E_103 A_x h_103 => ?_)
      rotate_left
      · exact h_103.elim
      obtain ⟨rfl, hA_103⟩ := h_103
      obtain rfl := hA_103.symm
      clear hA_103
      refine mx_R fun hR_1 => ?_
      refine mx_iload 4 d_M_draws_106 rfl ?_
      refine mx_callS (kc := 0) (ks := 0) (N := n_M_size) (as := [_]) d_M_draws_108 s_M_169 ⟨Nat.le_of_ble_eq_true rfl, Nat.le_of_ble_eq_true rfl⟩ rfl (mj_wt_8 (Nat.le_of_ble_eq_true rfl)) (cm_size (r32_mk (by omega) (by omega))) (fun r_108 A_108 h_108 => ?_) (fun E_108 A_x h_108 => ?_)
      rotate_left
      · exact h_108.elim
      obtain ⟨rfl, hA_108⟩ := h_108
      obtain rfl := hA_108.symm
      clear hA_108
      refine mx_R fun hR_2 => ?_
      refine mx_icmp_le 121 d_M_draws_111 rfl (by first | assumption | exact hR_2 _ _ | exact hR_1 _ _ | exact hR _ _ | exact r32_mk (by omega) (by omega)) (by first | assumption | exact hR_2 _ _ | exact hR_1 _ _ | exact hR _ _ | exact r32_mk (by omega) (by omega)) (fun c_111 => ?_) (fun c_111 => ?_)
      · refine mx_iload 4 d_M_draws_121 rfl ?_
        refine mx_callS (kc := 0) (ks := 0) (N := n_M_size) (as := [_]) d_M_draws_123 s_M_169 ⟨Nat.le_of_ble_eq_true rfl, Nat.le_of_ble_eq_true rfl⟩ rfl (mj_wt_8 (Nat.le_of_ble_eq_true rfl)) (cm_size (r32_mk (by omega) (by omega))) (fun r_123 A_123 h_123 => ?_) (fun E_123 A_x h_123 => ?_)
        rotate_left
        · exact h_123.elim
        obtain ⟨rfl, hA_123⟩ := h_123
        obtain rfl := hA_123.symm
        clear hA_123
        refine mx_R fun hR_3 => ?_
        exact mj_ji hJ_102 (by (unfold pc_m; omega))
      · refine mx_iload_n 3 d_M_draws_114 rfl rfl ?_
        refine mx_callS (kc := 0) (ks := 0) (N := n_M_size) (as := [_]) d_M_draws_115 s_M_169 ⟨Nat.le_of_ble_eq_true rfl, Nat.le_of_ble_eq_true rfl⟩ rfl (mj_wt_8 (Nat.le_of_ble_eq_true rfl)) (cm_size (r32_mk (by omega) (by omega))) (fun r_115 A_115 h_115 => ?_) (fun E_115 A_x h_115 => ?_)
        rotate_left
        · exact h_115.elim
        obtain ⟨rfl, hA_115⟩ := h_115
        obtain rfl := hA_115.symm
        clear hA_115
        refine mx_R fun hR_4 => ?_
        refine mx_goto 126 d_M_draws_118 rfl ?_
        exact mj_ji hJ_102 (by (unfold pc_m; omega))
end MODD
