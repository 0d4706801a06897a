/-! THE REFERENCE, 20: the walk over the names of an in-between -/
section MODK
variable {G : mj_G} {A : mj_M}
theorem co_x_pw {B : mj_M} {d k1 k2 j : Int} (hw : 1 ≤ gI B 207 d) : co_x B d k1 k2 j = mj_pw (gI B 212 (4 * k1 + j)) (gI B 212 (4 * k2 + j)) (gI B 206 d) (gI B 207 d) := by
  unfold co_x mj_pw
  rw [if_neg (by omega)]
/-- the ends are in the field -/
def co_r (f11 f12 : Int → Int) : Prop := (∀ k, 0 ≤ f11 k ∧ f11 k ≤ 7) ∧ ∀ k, (0 ≤ f12 (4 * k) ∧ f12 (4 * k) < 16) ∧ (0 ≤ f12 (4 * k + 1) ∧ f12 (4 * k + 1) < 12) ∧ (0 ≤ f12 (4 * k + 2) ∧ f12 (4 * k + 2) < 16) ∧ (0 ≤ f12 (4 * k + 3) ∧ f12 (4 * k + 3) < 12)
theorem co_r16 {f11 f12 : Int → Int} (h : co_r f11 f12) (q : Int) : 0 ≤ f12 q ∧ f12 q < 16 := by
  have h1 := h.2 (q / 4)
  have e : q = 4 * (q / 4) ∨ q = 4 * (q / 4) + 1 ∨ q = 4 * (q / 4) + 2 ∨ q = 4 * (q / 4) + 3 := by omega
  rcases e with e | e | e | e
  · rw [e]; exact h1.1
  · rw [e]; have := h1.2.1; omega
  · rw [e]; exact h1.2.2.1
  · rw [e]; have := h1.2.2.2; omega
theorem co_r1 {d K k1 k2 v : Int} {f11 f12 : Int → Int} (hst : mo_st2 A) (hw : 1 ≤ gI A 207 d) (hp : 0 ≤ gI A 206 d ∧ gI A 206 d ≤ gI A 207 d) (h : co_r f11 f12) (hv : 0 ≤ v ∧ v ≤ 7) : co_r (fun q => if q = K then v else f11 q) (fun q => if 4 * K ≤ q ∧ q < 4 * K + 4 then co_x A d k1 k2 (q - 4 * K) else f12 q) := by
  refine ⟨fun k => ?_, fun k => ?_⟩
  · show 0 ≤ (if k = K then v else f11 k) ∧ (if k = K then v else f11 k) ≤ 7
    have := h.1 k
    split <;> omega
  · by_cases e : k = K
    · rw [e]
      have x0 := pc_pw_r (lo := 0) (hi := 15) hp (a := gI A 212 (4 * k1)) (b := gI A 212 (4 * k2)) (by have := hst.x k1; omega) (by have := hst.x k2; omega)
      have x1 := pc_pw_r (lo := 0) (hi := 11) hp (a := gI A 212 (4 * k1 + 1)) (b := gI A 212 (4 * k2 + 1)) (by have := hst.y k1; omega) (by have := hst.y k2; omega)
      have x2 := pc_pw_r (lo := 0) (hi := 15) hp (a := gI A 212 (4 * k1 + 2)) (b := gI A 212 (4 * k2 + 2)) (by have := hst.u k1; omega) (by have := hst.u k2; omega)
      have x3 := pc_pw_r (lo := 0) (hi := 11) hp (a := gI A 212 (4 * k1 + 3)) (b := gI A 212 (4 * k2 + 3)) (by have := hst.v k1; omega) (by have := hst.v k2; omega)
      have e0 : ∀ j, 0 ≤ j → j < 4 → (fun q => if 4 * K ≤ q ∧ q < 4 * K + 4 then co_x A d k1 k2 (q - 4 * K) else f12 q) (4 * K + j) = mj_pw (gI A 212 (4 * k1 + j)) (gI A 212 (4 * k2 + j)) (gI A 206 d) (gI A 207 d) := fun j j0 j1 => by
        show (if 4 * K ≤ 4 * K + j ∧ 4 * K + j < 4 * K + 4 then co_x A d k1 k2 (4 * K + j - 4 * K) else f12 (4 * K + j)) = _
        rw [if_pos (by omega), show 4 * K + j - 4 * K = j by omega, co_x_pw hw]
      have y0 := e0 0 (by omega) (by omega)
      have y1 := e0 1 (by omega) (by omega)
      have y2 := e0 2 (by omega) (by omega)
      have y3 := e0 3 (by omega) (by omega)
      rw [Int.add_zero, Int.add_zero, Int.add_zero] at y0
      rw [y0, y1, y2, y3]
      omega
    · have h1 := h.2 k
      show (0 ≤ (if _ then _ else f12 (4 * k)) ∧ (if _ then _ else f12 (4 * k)) < 16) ∧ (0 ≤ (if _ then _ else f12 (4 * k + 1)) ∧ (if _ then _ else f12 (4 * k + 1)) < 12) ∧ (0 ≤ (if _ then _ else f12 (4 * k + 2)) ∧ (if _ then _ else f12 (4 * k + 2)) < 16) ∧ (0 ≤ (if _ then _ else f12 (4 * k + 3)) ∧ (if _ then _ else f12 (4 * k + 3)) < 12)
      rw [if_neg (by omega), if_neg (by omega), if_neg (by omega), if_neg (by omega)]
      exact h1
theorem co_ff {d a b x u : Int} {t : Nat} {f9 f10 f11 f12 : Int → Int} (h : co_s A d a b t f9 f10 f11 f12) (hst : mo_st2 A) (hx : x < d) (hx0 : 0 ≤ x) (hd : d < 16) : mj_fx f10 u (8 * x) (f9 x).toNat = co_f A x u := by
  have hn := hst.n x hx0 (by omega)
  rw [h.1 x (by omega)]
  exact mj_fx_c _ fun j j0 j1 => (h.2.2.1 j (by omega)).1
theorem co_xx {d a b one other j : Int} {t : Nat} {f9 f10 f11 f12 g10 g11 : Int → Int} (h : co_s A d a b t f9 f10 f11 f12) (h1 : 0 ≤ one ∧ one < 8 * d) (h2 : 0 ≤ other ∧ other < 8 * d) (hj : 0 ≤ j ∧ j < 4) : co_x (co_w A f9 g10 g11 f12) d one other j = co_x A d one other j := by
  have e1 : gI (co_w A f9 g10 g11 f12) 212 (4 * one + j) = gI A 212 (4 * one + j) := h.2.2.2.1 _ (by omega)
  have e2 : gI (co_w A f9 g10 g11 f12) 212 (4 * other + j) = gI A 212 (4 * other + j) := h.2.2.2.1 _ (by omega)
  unfold co_x
  rw [e1, e2]
  rfl
theorem co_w4 {d one other K v : Int} {f9 f10 f11 f12 : Int → Int} (ex : ∀ j, 0 ≤ j → j < 4 → co_x (co_w A f9 f10 f11 f12) d one other j = co_x A d one other j) : sI (co_m (co_w A f9 f10 f11 f12) d K one other 4) 209 d v = co_w A (fun q => if q = d then v else f9 q) f10 f11 (fun q => if 4 * K ≤ q ∧ q < 4 * K + 4 then co_x A d one other (q - 4 * K) else f12 q) := by
  unfold co_m
  refine mj_ext3 (fun _ => rfl) (fun c_ x_ => ?_) (fun _ _ => rfl)
  have e := ex (x_ - 4 * K)
  rw [gI_sI, gI_sF]
  by_cases h : c_ = 212
  · rw [if_neg (by omega), if_pos h, h]
    show _ = if 4 * K ≤ x_ ∧ x_ < 4 * K + 4 then co_x A d one other (x_ - 4 * K) else f12 x_
    by_cases h2 : 4 * K ≤ x_ ∧ x_ < 4 * K + 4
    · rw [if_pos h2, if_pos h2, e (by omega) (by omega)]
    · rw [if_neg h2, if_neg h2]; rfl
  · rw [if_neg h]
    unfold co_w
    simp only [gI_sF]
    grind
/-- the names of an in-between -/
theorem co_l {d a b : Int} {P : Option mj_V → mj_M → Prop} (hM : MS A) (hst : mo_st2 A) (hd : 0 ≤ d ∧ d < 16) (ha : 0 ≤ a ∧ a < d) (hb : 0 ≤ b ∧ b < d) (hA5 : gI A 205 d = b) (hp : 0 ≤ gI A 206 d ∧ gI A 206 d ≤ gI A 207 d) (hw : 1 ≤ gI A 207 d ∧ gI A 207 d ≤ 24)
    (hP : ∀ f9 f10 f11 f12 l3 l4 l5 l6 l7 l8, co_s A d a b 8 f9 f10 f11 f12 → co_r f11 f12 → mj_X G n_M_comes (mj_Qm G n_M_comes P mj_no) (co_w A f9 f10 f11 f12) 0 0 189 [some (mR (some 200)), some (mI d), some (mI a), l3, l4, l5, l6, l7, l8] []) :
    ∀ q : Nat × (Int → Int) × (Int → Int) × (Int → Int) × (Int → Int) × Option mj_V × Option mj_V × Option mj_V × Option mj_V × Option mj_V, (q.1 ≤ 8 ∧ co_s A d a b q.1 q.2.1 q.2.2.1 q.2.2.2.1 q.2.2.2.2.1 ∧ co_r q.2.2.2.1 q.2.2.2.2.1) → mj_X G n_M_comes (mj_Qm G n_M_comes P mj_no) (co_w A q.2.1 q.2.2.1 q.2.2.2.1 q.2.2.2.2.1) 0 0 16 [some (mR (some 200)), some (mI d), some (mI a), some (mI (q.1 : Int)), q.2.2.2.2.2.1, q.2.2.2.2.2.2.1, q.2.2.2.2.2.2.2.1, q.2.2.2.2.2.2.2.2.1, q.2.2.2.2.2.2.2.2.2] [] := by
  refine mj_loop _ (fun q => 8 - q.1) _ ?_
  intro ⟨t, f9, f10, f11, f12, l4, l5, l6, l7, l8⟩ ⟨ht, hs, hr⟩ ih
  replace ht : t ≤ 8 := ht
  replace hs : co_s A d a b t f9 f10 f11 f12 := hs
  replace hr : co_r f11 f12 := hr
  show mj_X G n_M_comes (mj_Qm G n_M_comes P mj_no) (co_w A f9 f10 f11 f12) 0 0 16 [some (mR (some 200)), some (mI d), some (mI a), some (mI (t : Int)), l4, l5, l6, l7, l8] []
  have na := hst.n a (by omega) (by omega)
  have nb := hst.n b (by omega) (by omega)
  have e9a : gI (co_w A f9 f10 f11 f12) 209 a = gI A 209 a := hs.1 a (by omega)
  have e9b : gI (co_w A f9 f10 f11 f12) 209 b = gI A 209 b := hs.1 b (by omega)
  have e9d : gI (co_w A f9 f10 f11 f12) 209 d = co_n A a b t := hs.2.1
  have e5 : gI (co_w A f9 f10 f11 f12) 205 d = b := hA5
  have ea : mj_fx (gI (co_w A f9 f10 f11 f12) 210) t (8 * a) (gI (co_w A f9 f10 f11 f12) 209 a).toNat = co_f A a t := co_ff hs hst (by omega) (by omega) (by omega)
  have eb : mj_fx (gI (co_w A f9 f10 f11 f12) 210) t (8 * b) (gI (co_w A f9 f10 f11 f12) 209 b).toNat = co_f A b t := co_ff hs hst (by omega) (by omega) (by omega)
  have ra : co_f A a t = -1 ∨ (8 * a ≤ co_f A a t ∧ co_f A a t < 8 * a + (gI A 209 a).toNat ∧ _) := mj_fx_r (nm := gI A 210) (x := t) (lo := 8 * a) (by omega) (gI A 209 a).toNat
  have rb : co_f A b t = -1 ∨ (8 * b ≤ co_f A b t ∧ co_f A b t < 8 * b + (gI A 209 b).toNat ∧ _) := mj_fx_r (nm := gI A 210) (x := t) (lo := 8 * b) (by omega) (gI A 209 b).toNat
  have rn := co_n_r (A := A) (a := a) (b := b) t
  refine mx_R fun hR => ?_
  refine mx_iload_n 3 d_M_comes_16 rfl rfl ?_
  refine mx_bipush d_M_comes_17 (by decide) ?_
  refine mx_icmp_ge 189 d_M_comes_19 rfl (by first | assumption | exact hR _ _ | exact r32_mk (by omega) (by omega)) (by first | assumption | exact hR _ _ | exact r32_mk (by omega) (by omega)) (fun c_19 => ?_) (fun c_19 => ?_)
  · have e8 : t = 8 := by omega
    subst e8
    exact hP _ _ _ _ _ _ _ _ _ _ hs hr
  · refine mx_aload_n 0 d_M_comes_22 rfl rfl ?_
    refine mx_iload_n 2 d_M_comes_23 rfl rfl ?_
    refine mx_iload_n 3 d_M_comes_24 rfl rfl ?_
    refine mx_callV (kc := 0) (ks := 0) (N := n_M_strokeOf) (as := [_, _]) (ci := 7) d_M_comes_25 s_M_156 ⟨Nat.le_of_ble_eq_true rfl, Nat.le_of_ble_eq_true rfl⟩ rfl (mj_wt_8 (Nat.le_of_ble_eq_true rfl)) (hM.o) ⟨_, rfl, rfl⟩ (cm_strokeOf2 (A := co_w A f9 f10 f11 f12) hM ha.1 (by omega) (by omega) (r32_mk (by omega) (by omega))) (fun r_25 A_25 h_25 => ?_) (fun E_25 A_x h_25 => ?_)
    rotate_left
    · exact h_25.elim
    obtain ⟨rfl, hA_25⟩ := h_25
    obtain rfl := hA_25.symm
    clear hA_25
    refine mx_R fun hR_1 => ?_
    rw [ea]
    refine mx_istore 4 d_M_comes_28 (Nat.le_of_ble_eq_true rfl) ?_
    refine mx_aload_n 0 d_M_comes_30 rfl rfl ?_
    refine mx_aload_n 0 d_M_comes_31 rfl rfl ?_
    refine mx_getPs 5 d_M_comes_32 f_M_13 rfl rfl (hM.o) (hM.p5) ?_
    refine mx_iload_n 1 d_M_comes_35 rfl rfl ?_
    refine mx_iald d_M_comes_36 (hM.s5) (by omega) (by omega) ?_
    rw [e5]
    refine mx_iload_n 3 d_M_comes_37 rfl rfl ?_
    refine mx_callV (kc := 0) (ks := 0) (N := n_M_strokeOf) (as := [_, _]) (ci := 7) d_M_comes_38 s_M_156 ⟨Nat.le_of_ble_eq_true rfl, Nat.le_of_ble_eq_true rfl⟩ rfl (mj_wt_8 (Nat.le_of_ble_eq_true rfl)) (hM.o) ⟨_, rfl, rfl⟩ (cm_strokeOf2 (A := co_w A f9 f10 f11 f12) hM hb.1 (by omega) (by omega) (r32_mk (by omega) (by omega))) (fun r_38 A_38 h_38 => ?_) (fun E_38 A_x h_38 => ?_)
    rotate_left
    · exact h_38.elim
    obtain ⟨rfl, hA_38⟩ := h_38
    obtain rfl := hA_38.symm
    clear hA_38
    refine mx_R fun hR_2 => ?_
    rw [eb]
    refine mx_istore 5 d_M_comes_41 (Nat.le_of_ble_eq_true rfl) ?_
    refine mx_iload 4 d_M_comes_43 rfl ?_
    refine mx_iconst d_M_comes_45 ?_
    refine mx_icmp_eq 183 d_M_comes_46 rfl (by first | assumption | exact hR_2 _ _ | exact hR_1 _ _ | exact hR _ _ | exact r32_mk (by omega) (by omega)) (by first | assumption | exact hR_2 _ _ | exact hR_1 _ _ | exact hR _ _ | exact r32_mk (by omega) (by omega)) (fun c_46 => ?_) (fun c_46 => ?_)
    · refine mx_iinc 3 d_M_comes_183 rfl (Nat.le_of_ble_eq_true rfl) ?_
      refine mx_goto 16 d_M_comes_186 rfl ?_
      exact ih (t + 1, f9, f10, f11, f12, _, _, l6, l7, l8) ⟨by show t + 1 ≤ 8; omega, co_s0 hs (by omega), hr⟩ (by show 8 - (t + 1) < 8 - t; omega)
    · refine mx_iload 5 d_M_comes_49 rfl ?_
      refine mx_iconst d_M_comes_51 ?_
      refine mx_icmp_eq 183 d_M_comes_52 rfl (by first | assumption | exact hR_2 _ _ | exact hR_1 _ _ | exact hR _ _ | exact r32_mk (by omega) (by omega)) (by first | assumption | exact hR_2 _ _ | exact hR_1 _ _ | exact hR _ _ | exact r32_mk (by omega) (by omega)) (fun c_52 => ?_) (fun c_52 => ?_)
      · refine mx_iinc 3 d_M_comes_183 rfl (Nat.le_of_ble_eq_true rfl) ?_
        refine mx_goto 16 d_M_comes_186 rfl ?_
        exact ih (t + 1, f9, f10, f11, f12, _, _, l6, l7, l8) ⟨by show t + 1 ≤ 8; omega, co_s0 hs (by omega), hr⟩ (by show 8 - (t + 1) < 8 - t; omega)
      · refine mx_bipush d_M_comes_55 (by decide) ?_
        refine mx_iload_n 1 d_M_comes_57 rfl rfl ?_
        refine mx_imul d_M_comes_58 ?_
        refine mx_aload_n 0 d_M_comes_59 rfl rfl ?_
        refine mx_getPs 9 d_M_comes_60 f_M_26 rfl rfl (hM.o) (hM.p9) ?_
        refine mx_iload_n 1 d_M_comes_63 rfl rfl ?_
        refine mx_iald d_M_comes_64 (hM.s9) (by omega) (by omega) ?_
        rw [e9d]
        refine mx_iadd d_M_comes_65 ?_
        refine mx_istore 6 d_M_comes_66 (Nat.le_of_ble_eq_true rfl) ?_
        refine mx_aload_n 0 d_M_comes_68 rfl rfl ?_
        refine mx_getPs 10 d_M_comes_69 f_M_29 rfl rfl (hM.o) (hM.p10) ?_
        refine mx_iload 6 d_M_comes_72 rfl ?_
        refine mx_iload_n 3 d_M_comes_74 rfl rfl ?_
        refine mx_iast d_M_comes_75 (hM.s10) (by omega) (by omega) (by first | assumption | exact hR_2 _ _ | exact hR_1 _ _ | exact hR _ _ | exact r32_mk (by omega) (by omega)) ?_
        refine mx_R fun hR_3 => ?_
        refine mx_aload_n 0 d_M_comes_76 rfl rfl ?_
        refine mx_getPs 11 d_M_comes_77 f_M_32 rfl rfl (hM.o) (hM.p11) ?_
        refine mx_iload 6 d_M_comes_80 rfl ?_
        refine mx_aload_n 0 d_M_comes_82 rfl rfl ?_
        refine mx_getPs 11 d_M_comes_83 f_M_32 rfl rfl (hM.o) (hM.p11) ?_
        refine mx_iload 4 d_M_comes_86 rfl ?_
        refine mx_iald d_M_comes_88 (hM.s11) (by omega) (by omega) ?_
        rw [show gI (sI (co_w A f9 f10 f11 f12) 210 (8 * d + co_n A a b t) t) 211 (co_f A a t) = gI A 211 (co_f A a t) from (hs.2.2.1 _ (by omega)).2]
        refine mx_iast d_M_comes_89 (hM.s11) (by omega) (by omega) (by have := hst.c (co_f A a t); exact r32_mk (by omega) (by omega)) ?_
        refine mx_R fun hR_4 => ?_
        refine mx_iconst d_M_comes_90 ?_
        refine mx_istore 7 d_M_comes_91 (Nat.le_of_ble_eq_true rfl) ?_
        have hb2 : co_f A a t ≠ -1 ∧ co_f A b t ≠ -1 := ⟨by omega, by omega⟩
        have hs1 := co_s1 hs hb2 (by omega)
        have hr1 := co_r1 (d := d) (K := 8 * d + co_n A a b t) (k1 := co_f A a t) (k2 := co_f A b t) (v := gI A 211 (co_f A a t)) hst hw.1 hp hr (hst.c _)
        refine mj_Xeq (A' := co_w A f9 (fun q => if q = 8 * d + co_n A a b t then (t : Int) else f10 q) (fun q => if q = 8 * d + co_n A a b t then gI A 211 (co_f A a t) else f11 q) f12) (by unfold co_w; exact mj_ext3 (fun _ => rfl) (fun c_ x_ => by simp only [gI_sI, gI_sF]; grind) (fun _ _ => rfl)) ?_
        have h9 := co_j (G := G) (B := co_w A f9 (fun q => if q = 8 * d + co_n A a b t then (t : Int) else f10 q) (fun q => if q = 8 * d + co_n A a b t then gI A 211 (co_f A a t) else f11 q) f12) (d := d) (a := a) (its := t) (one := co_f A a t) (other := co_f A b t) (K := 8 * d + co_n A a b t) (P := P) hM (fun k => co_r16 hr k) hd (by omega) (by omega) (by omega) (by omega) (by omega) (by show 0 ≤ gI A 206 d ∧ gI A 206 d ≤ 24; omega) hw (fun m7 m8 => ?_) (0, l8) ⟨by show (0 : Int) ≤ 0; omega, by show (0 : Int) ≤ 4; omega⟩
        · rw [co_m0] at h9
          exact h9
        · skip
          refine mx_R fun hR => ?_
          refine mx_aload_n 0 d_M_comes_173 rfl rfl ?_
          refine mx_getPs 9 d_M_comes_174 f_M_26 rfl rfl (hM.o) (hM.p9) ?_
          refine mx_iload_n 1 d_M_comes_177 rfl rfl ?_
          refine mx_dup2 d_M_comes_178 (fun z h => by cases h) (fun z h => by cases h) ?_
          refine mx_iald d_M_comes_179 (hM.s9) (by omega) (by omega) ?_
          rw [show gI (co_m (co_w A f9 (fun q => if q = 8 * d + co_n A a b t then (t : Int) else f10 q) (fun q => if q = 8 * d + co_n A a b t then gI A 211 (co_f A a t) else f11 q) f12) d (8 * d + co_n A a b t) (co_f A a t) (co_f A b t) 4) 209 d = co_n A a b t from hs.2.1]
          refine mx_iconst d_M_comes_180 ?_
          refine mx_iadd d_M_comes_181 ?_
          refine mx_iast d_M_comes_182 (hM.s9) (by omega) (by omega) (by first | assumption | exact hR _ _ | exact r32_mk (by omega) (by omega)) ?_
          refine mx_R fun hR_1 => ?_
          rw [co_w4 (fun j j0 j1 => co_xx hs (by omega) (by omega) ⟨j0, j1⟩)]
          refine mx_iinc 3 d_M_comes_183 rfl (Nat.le_of_ble_eq_true rfl) ?_
          refine mx_goto 16 d_M_comes_186 rfl ?_
          exact ih (t + 1, _, _, _, _, _, _, _, m7, m8) ⟨by show t + 1 ≤ 8; omega, hs1, hr1⟩ (by show 8 - (t + 1) < 8 - t; omega)
end MODK
