/-! THE REFERENCE, 16: a drawing's picture -/
section MODG
variable {G : mj_G} {A : mj_M}
theorem dr_m0 {B : mj_M} : dr_m B (gI B 218) (gI B 219) = B := by
  unfold dr_m
  exact mj_ext3 (fun _ => rfl) (fun c_ x_ => by simp only [gI_sI, gI_sF]; grind) (fun _ _ => rfl)
/-- the picture is laid -/
def dr_ok (B : mj_M) (d : Int) (h g c : Int → Int) : Prop := (∀ q, ¬ (192 * d ≤ q ∧ q < 192 * d + 192) → h q = gI B 219 q) ∧ (∀ p, 0 ≤ p → p < 192 → h (192 * d + p) = pc_mk (pc_cv (mo_E B d) (gI B 209 d).toNat) (gI B 216 d) p) ∧ dr_p B d (pc_op (pc_cv (mo_E B d) (gI B 209 d).toNat) (gI B 216 d)) (pc_ln (mo_E B d) (mo_I B d) (gI B 209 d).toNat) (gI B 213 d).toNat g c
theorem dr_394 {B : mj_M} {d : Int} {g h : Int → Int} {P : Option mj_V → mj_M → Prop} (hM : MS B) (hd : 0 ≤ d ∧ d < 16) (hn : 0 ≤ gI B 213 d ∧ gI B 213 d ≤ 6) (hs : ∀ k, 0 ≤ gI B 214 k ∧ gI B 214 k < 192) (hf : ∀ k, 0 ≤ gI B 215 k ∧ gI B 215 k ≤ 7) (hz : ∀ q, ¬ (0 ≤ q ∧ q < 192) → gI B 221 q = 0)
    (hg0 : ∀ q, ¬ (192 * d ≤ q ∧ q < 192 * d + 192) → g q = gI B 218 q) (hg : ∀ p, 0 ≤ p → p < 192 → g (192 * d + p) = pc_ln (mo_E B d) (mo_I B d) (gI B 209 d).toNat p)
    (hh0 : ∀ q, ¬ (192 * d ≤ q ∧ q < 192 * d + 192) → h q = gI B 219 q) (hh : ∀ p, 0 ≤ p → p < 192 → h (192 * d + p) = pc_mk (pc_cv (mo_E B d) (gI B 209 d).toNat) (gI B 216 d) p)
    (hP : ∀ h g c w n, dr_ok B d h g c → P none (fi_m (sF B 219 h) g c w n)) {l2 l3 l4 l5 l6 l7 l8 : Option mj_V} :
    mj_X G n_M_draws (mj_Qm G n_M_draws P mj_no) (dr_m B g h) 0 0 394 [some (mR (some 200)), some (mI d), l2, l3, l4, l5, l6, l7, l8] [] := by
  refine mx_R fun hR => ?_
  refine mx_bipush d_M_draws_394 (by decide) ?_
  refine mx_iload_n 1 d_M_draws_396 rfl rfl ?_
  refine mx_imul d_M_draws_397 ?_
  refine mx_istore_n 2 d_M_draws_398 rfl (Nat.le_of_ble_eq_true rfl) ?_
  rw [fi_dr]
  have h9 := dr_paints (G := G) (P := P) (op := pc_op (pc_cv (mo_E B d) (gI B 209 d).toNat) (gI B 216 d)) (ln := pc_ln (mo_E B d) (mo_I B d) (gI B 209 d).toNat) (h := h) (l3 := l3) (l4 := l4) (l5 := l5) (l6 := l6) (l7 := l7) (l8 := l8) hM hd hn hs hf (fun q => ⟨fun ho => ⟨ho.1, (hh q ho.1.1 ho.1.2).trans ho.2⟩, fun ho => ⟨ho.1, (hh q ho.1.1 ho.1.2).symm.trans ho.2⟩⟩) (fun g c w n hp => hP h g c w n ⟨hh0, hh, hp⟩) (0, g, gI B 221, gI B 220, gI B 200 45) ⟨by show ((0 : Nat) : Int) ≤ _; omega, ⟨hg0, hg, hz⟩⟩
  rw [show 6 * d + (((0 : Nat) : Int)) = 6 * d by omega] at h9
  exact h9
theorem dr_252 {d : Int} (hM : MS A) (hst : mo_st2 A) (hd : 0 ≤ d ∧ d < 16) (hn : 0 ≤ gI A 213 d ∧ gI A 213 d ≤ 6) (hs : ∀ k, 0 ≤ gI A 214 k ∧ gI A 214 k < 192) (hf : ∀ k, 0 ≤ gI A 215 k ∧ gI A 215 k ≤ 7) (hz : ∀ q, ¬ (0 ≤ q ∧ q < 192) → gI A 221 q = 0) {P : Option mj_V → mj_M → Prop} (hP : ∀ h g c w n, dr_ok A d h g c → P none (fi_m (sF A 219 h) g c w n)) {g h : Int → Int} (hk : dr_k A d (gI A 209 d).toNat g h) {o2 o3 o4 o5 o6 o7 o8 : Option mj_V} :
    mj_X G n_M_draws (mj_Qm G n_M_draws P mj_no) (dr_m A g h) 0 0 252 [some (mR (some 200)), some (mI d), o2, o3, o4, o5, o6, o7, o8] [] := by
  by_cases hcl : gI A 216 d = 0
  · have ecl : gI (dr_m A g h) 216 d = 0 := hcl
    refine mx_R fun hR => ?_
    refine mx_iconst d_M_draws_252 ?_
    refine mx_istore_n 2 d_M_draws_253 rfl (Nat.le_of_ble_eq_true rfl) ?_
    refine mx_iload_n 2 d_M_draws_254 rfl rfl ?_
    refine mx_sipush d_M_draws_255 (by decide) ?_
    refine mx_icmp_ge 394 d_M_draws_258 rfl (by first | assumption | exact hR _ _ | exact r32_mk (by omega) (by omega)) (by first | assumption | exact hR _ _ | exact r32_mk (by omega) (by omega)) (fun c_258 => ?_) (fun c_258 => ?_)
    · exfalso; omega
    · refine mx_aload_n 0 d_M_draws_261 rfl rfl ?_
      refine mx_getPs 16 d_M_draws_262 f_M_47 rfl rfl (hM.o) (hM.p16) ?_
      refine mx_iload_n 1 d_M_draws_265 rfl rfl ?_
      refine mx_zald d_M_draws_266 (hM.s16) (by omega) (by omega) ?_
      refine mx_if_eq 394 d_M_draws_267 rfl (by first | assumption | exact hR _ _ | exact r32_mk (by omega) (by omega)) (fun c_267 => ?_) (fun c_267 => ?_)
      · refine dr_394 hM hd hn hs hf hz (fun q hq => (hk.1 q hq).1) (fun p p0 p1 => (hk.2 p p0 p1).1) (fun q hq => (hk.1 q hq).2) (fun p p0 p1 => ?_) hP
        rw [(hk.2 p p0 p1).2]
        unfold pc_mk
        rw [hcl]
        simp
      · exact absurd ecl (by assumption)
  · have hcl2 := hcl
    refine mx_R fun hR => ?_
    refine mx_iconst d_M_draws_252 ?_
    refine mx_istore_n 2 d_M_draws_253 rfl (Nat.le_of_ble_eq_true rfl) ?_
    refine dr_walls (L := pc_cv (mo_E A d) (gI A 209 d).toNat) hM hd hcl (fun h2 p2 p3 p4 p5 p6 p7 p8 hw => ?_) (0, h, o3, o4, o5, o6, o7, o8) ⟨by show (0 : Int) ≤ 0; omega, by show (0 : Int) ≤ 192; omega, ⟨fun q hq => (hk.1 q hq).2, fun p p0 p1 => ?_⟩⟩
    · refine dr_394 hM hd hn hs hf hz (fun q hq => (hk.1 q hq).1) (fun p p0 p1 => (hk.2 p p0 p1).1) hw.1 (fun p p0 p1 => ?_) hP
      rw [hw.2 p p0 p1]
      unfold pc_mk
      simp [p1, hcl]
    · show h (192 * d + p) = if pc_cv (mo_E A d) (gI A 209 d).toNat p = true then 1 else if p < 0 ∧ pc_gp (pc_cv (mo_E A d) (gI A 209 d).toNat) p = true then 2 else 0
      rw [(hk.2 p p0 p1).2]
      have hx : ¬ (p < 0 ∧ pc_gp (pc_cv (mo_E A d) (gI A 209 d).toNat) p = true) := fun hx => by have := hx.1; omega
      rw [if_neg hx]
theorem cm_draws {d : Int} (hM : MS A) (hst : mo_st2 A) (hd : 0 ≤ d ∧ d < 16) (hn : 0 ≤ gI A 213 d ∧ gI A 213 d ≤ 6) (hs : ∀ k, 0 ≤ gI A 214 k ∧ gI A 214 k < 192) (hf : ∀ k, 0 ≤ gI A 215 k ∧ gI A 215 k ≤ 7) (hz : ∀ q, ¬ (0 ≤ q ∧ q < 192) → gI A 221 q = 0) :
    mj_Cal G n_M_draws [mR (some 200), mI d] A (fun r A' => r = none ∧ ∃ h g c w n, A' = fi_m (sF A 219 h) g c w n ∧ dr_ok A d h g c) mj_no := by
  refine mj_bodyK 0 0 [some (mR (some 200)), some (mI d), none, none, none, none, none, none, none] rfl rfl rfl (by decide +kernel) (Nat.le_of_ble_eq_true rfl) (by simp) rfl ?_
  have hl : ∀ i : Int, (0 ≤ i ∧ i ≤ 192) → mj_X G n_M_draws (mj_Qm G n_M_draws (fun r A' => r = none ∧ ∃ h g c w n, A' = fi_m (sF A 219 h) g c w n ∧ dr_ok A d h g c) mj_no) (dr_m A (fun q => if 192 * d ≤ q ∧ q < 192 * d + i then -1 else gI A 218 q) (fun q => if 192 * d ≤ q ∧ q < 192 * d + i then 0 else gI A 219 q)) 0 0 6 [some (mR (some 200)), some (mI d), some (mI (192 * d + i)), none, none, none, none, none, none] [] := by
    refine mj_loop _ (fun i => (192 - i).toNat) _ ?_
    intro i hi ih
    refine mx_R fun hR => ?_
    refine mx_iload_n 2 d_M_draws_6 rfl rfl ?_
    refine mx_sipush d_M_draws_7 (by decide) ?_
    refine mx_iload_n 1 d_M_draws_10 rfl rfl ?_
    refine mx_imul d_M_draws_11 ?_
    refine mx_sipush d_M_draws_12 (by decide) ?_
    refine mx_iadd d_M_draws_15 ?_
    refine mx_icmp_ge 39 d_M_draws_16 rfl (by first | assumption | exact hR _ _ | exact r32_mk (by omega) (by omega)) (by first | assumption | exact hR _ _ | exact r32_mk (by omega) (by omega)) (fun c_16 => ?_) (fun c_16 => ?_)
    · refine mx_bipush d_M_draws_39 (by decide) ?_
      refine mx_iload_n 1 d_M_draws_41 rfl rfl ?_
      refine mx_imul d_M_draws_42 ?_
      refine mx_istore_n 2 d_M_draws_43 rfl (Nat.le_of_ble_eq_true rfl) ?_
      have h9 := dr_lines (G := G) (P := fun r A' => r = none ∧ ∃ h g c w n, A' = fi_m (sF A 219 h) g c w n ∧ dr_ok A d h g c) hM hst hd (fun g h o2 o3 o4 o5 o6 o7 o8 hk => dr_252 hM hst hd hn hs hf hz (fun h g c w n hp => ⟨rfl, h, g, c, w, n, rfl, hp⟩) hk) (0, (fun q => if 192 * d ≤ q ∧ q < 192 * d + i then -1 else gI A 218 q), (fun q => if 192 * d ≤ q ∧ q < 192 * d + i then 0 else gI A 219 q), none, none, none, none, none, none) ⟨by have := hst.n d hd.1 hd.2; show ((0 : Nat) : Int) ≤ _; omega, ⟨fun q hq => ⟨if_neg (by omega), if_neg (by omega)⟩, fun p p0 p1 => ⟨if_pos (by omega), if_pos (by omega)⟩⟩⟩
      rw [show 8 * d + (((0 : Nat) : Int)) = 8 * d by omega] at h9
      exact h9
    · refine mx_aload_n 0 d_M_draws_19 rfl rfl ?_
      refine mx_getPs 18 d_M_draws_20 f_M_50 rfl rfl (hM.o) (hM.p18) ?_
      refine mx_iload_n 2 d_M_draws_23 rfl rfl ?_
      refine mx_iconst d_M_draws_24 ?_
      refine mx_iast d_M_draws_25 (hM.s18) (by omega) (by omega) (by first | assumption | exact hR _ _ | exact r32_mk (by omega) (by omega)) ?_
      refine mx_R fun hR_1 => ?_
      refine mx_aload_n 0 d_M_draws_26 rfl rfl ?_
      refine mx_getPs 19 d_M_draws_27 f_M_53 rfl rfl (hM.o) (hM.p19) ?_
      refine mx_iload_n 2 d_M_draws_30 rfl rfl ?_
      refine mx_iconst d_M_draws_31 ?_
      refine mx_iast d_M_draws_32 (hM.s19) (by omega) (by omega) (by first | assumption | exact hR_1 _ _ | exact hR _ _ | exact r32_mk (by omega) (by omega)) ?_
      refine mx_R fun hR_2 => ?_
      refine mx_iinc 2 d_M_draws_33 rfl (Nat.le_of_ble_eq_true rfl) ?_
      refine mx_goto 6 d_M_draws_36 rfl ?_
      have h9 := ih (i + 1) ⟨by omega, by omega⟩ (by omega)
      rw [show 192 * d + (i + 1) = 192 * d + i + 1 by omega] at h9
      refine mj_Xeq ?_ h9
      rw [dr_m1]
      congr 1
      · funext q; grind
      · funext q; grind
  refine mx_R fun hR => ?_
  refine mx_sipush d_M_draws_0 (by decide) ?_
  refine mx_iload_n 1 d_M_draws_3 rfl rfl ?_
  refine mx_imul d_M_draws_4 ?_
  refine mx_istore_n 2 d_M_draws_5 rfl (Nat.le_of_ble_eq_true rfl) ?_
  have h9 := hl 0 ⟨by omega, by omega⟩
  rw [show 192 * d + (0 : Int) = 192 * d by omega] at h9
  refine mj_Xeq ?_ h9
  unfold dr_m
  exact mj_ext3 (fun _ => rfl) (fun c_ x_ => by simp only [gI_sI, gI_sF]; grind) (fun _ _ => rfl)
end MODG
