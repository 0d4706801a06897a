/-! THE REFERENCE, 25: what is asked of pictures -/
/-- the memory as if all pictures were laid -/
noncomputable def vi (C : Int → cT) (A : mj_M) : mj_M := sF A 218 (fun k => c_pf (C (k / 192)) (k % 192))
section MODP
variable {G : mj_G} {A : mj_M}
/-- what is always so of the reference -/
def MI (C : Int → cT) (A : mj_M) : Prop := (MS A) ∧ (mo_rg A) ∧ (mo_pg A) ∧ (mo_hg A) ∧ (mz A) ∧ (dC C A) ∧ (∀ k, 0 ≤ gI A 222 k ∧ gI A 222 k ≤ 99) ∧ (∀ k, gI A 208 k = 0 ∨ gI A 208 k = 1) ∧ (∀ k, gI A 228 k = 0 ∨ gI A 228 k = 1) ∧ ((0 ≤ gI A 200 1 ∧ gI A 200 1 < 16) ∧ (0 ≤ gI A 200 2 ∧ gI A 200 2 < 12)) ∧ (0 ≤ gI A 200 40 ∧ gI A 200 40 ≤ 4) ∧ (∀ k, 0 ≤ k → k < gI A 200 40 → 1 ≤ gI A 241 k ∧ gI A 241 k ≤ 9) ∧ (0 ≤ gI A 200 43 ∧ gI A 200 43 ≤ 10) ∧ (∀ k, 0 ≤ k → k < gI A 200 43 → 0 ≤ gI A 244 k ∧ gI A 244 k < gI A 200 23) ∧ (∀ d, 0 ≤ d → d < gI A 200 3 → cr (C d))
theorem MI.M {C : Int → cT} {A : mj_M} (h : MI C A) : MS A := h.1
theorem MI.g {C : Int → cT} {A : mj_M} (h : MI C A) : mo_rg A := h.2.1
theorem MI.p {C : Int → cT} {A : mj_M} (h : MI C A) : mo_pg A := h.2.2.1
theorem MI.h {C : Int → cT} {A : mj_M} (h : MI C A) : mo_hg A := h.2.2.2.1
theorem MI.z {C : Int → cT} {A : mj_M} (h : MI C A) : mz A := h.2.2.2.2.1
theorem MI.C {C : Int → cT} {A : mj_M} (h : MI C A) : dC C A := h.2.2.2.2.2.1
theorem MI.co {C : Int → cT} {A : mj_M} (h : MI C A) : ∀ k, 0 ≤ gI A 222 k ∧ gI A 222 k ≤ 99 := h.2.2.2.2.2.2.1
theorem MI.gd {C : Int → cT} {A : mj_M} (h : MI C A) : ∀ k, gI A 208 k = 0 ∨ gI A 208 k = 1 := h.2.2.2.2.2.2.2.1
theorem MI.sp {C : Int → cT} {A : mj_M} (h : MI C A) : ∀ k, gI A 228 k = 0 ∨ gI A 228 k = 1 := h.2.2.2.2.2.2.2.2.1
theorem MI.px {C : Int → cT} {A : mj_M} (h : MI C A) : (0 ≤ gI A 200 1 ∧ gI A 200 1 < 16) ∧ (0 ≤ gI A 200 2 ∧ gI A 200 2 < 12) := h.2.2.2.2.2.2.2.2.2.1
theorem MI.nh {C : Int → cT} {A : mj_M} (h : MI C A) : 0 ≤ gI A 200 40 ∧ gI A 200 40 ≤ 4 := h.2.2.2.2.2.2.2.2.2.2.1
theorem MI.hs {C : Int → cT} {A : mj_M} (h : MI C A) : ∀ k, 0 ≤ k → k < gI A 200 40 → 1 ≤ gI A 241 k ∧ gI A 241 k ≤ 9 := h.2.2.2.2.2.2.2.2.2.2.2.1
theorem MI.nf {C : Int → cT} {A : mj_M} (h : MI C A) : 0 ≤ gI A 200 43 ∧ gI A 200 43 ≤ 10 := h.2.2.2.2.2.2.2.2.2.2.2.2.1
theorem MI.rl {C : Int → cT} {A : mj_M} (h : MI C A) : ∀ k, 0 ≤ k → k < gI A 200 43 → 0 ≤ gI A 244 k ∧ gI A 244 k < gI A 200 23 := h.2.2.2.2.2.2.2.2.2.2.2.2.2.1
theorem MI.cr {C : Int → cT} {A : mj_M} (h : MI C A) : ∀ d, 0 ≤ d → d < gI A 200 3 → cr (C d) := h.2.2.2.2.2.2.2.2.2.2.2.2.2.2
theorem MI_0 {C : Int → cT} {v : Int} (h : MI C A) : MI C (sI A 200 0 v) := ⟨h.M, h.g, h.p, h.h, ⟨h.z.st, h.z.pt, h.z.z, h.z.pi, h.z.o⟩, ⟨h.C.k, h.C.b, h.C.l⟩, h.co, h.gd, h.sp, h.px, h.nh, h.hs, h.nf, h.rl, h.cr⟩
theorem ly_fn {A' : mj_M} (h : ly A A') {c : Int} (hc : c ≠ 200) (hc2 : ¬ (209 ≤ c ∧ c ≤ 221)) : gI A' c = gI A c := funext fun i => h.I c i hc2 (fun k => hc k.1)
theorem ly_2 {A' : mj_M} (h : ly A A') (i : Int) (hi : ¬ (i = 17 ∨ i = 45)) : gI A' 200 i = gI A 200 i := h.I 200 i (by omega) (fun k => hi k.2)
theorem ly_rg {A' : mj_M} (h : ly A A') (k : mo_rg A) : mo_rg A' := by
  unfold mo_rg at k ⊢
  rw [ly_2 h 3 (by omega), ly_2 h 23 (by omega), ly_fn h (c := 224) (by omega) (by omega), ly_fn h (c := 225) (by omega) (by omega), ly_fn h (c := 226) (by omega) (by omega), ly_fn h (c := 227) (by omega) (by omega), ly_fn h (c := 231) (by omega) (by omega)]
  exact k
theorem ly_pg {A' : mj_M} (h : ly A A') (k : mo_pg A) : mo_pg A' := by
  unfold mo_pg at k ⊢
  rw [ly_2 h 32 (by omega), ly_fn h (c := 233) (by omega) (by omega), ly_fn h (c := 234) (by omega) (by omega), ly_fn h (c := 235) (by omega) (by omega), ly_fn h (c := 236) (by omega) (by omega), ly_fn h (c := 237) (by omega) (by omega)]
  exact k
theorem ly_hg {A' : mj_M} (h : ly A A') (k : mo_hg A) : mo_hg A' := by
  unfold mo_hg at k ⊢
  rw [ly_2 h 23 (by omega), ly_2 h 32 (by omega), ly_fn h (c := 229) (by omega) (by omega), ly_fn h (c := 230) (by omega) (by omega)]
  exact k
theorem ly_rv {A' : mj_M} (h : ly A A') : ∀ c, 222 ≤ c → c ≤ 237 → gI A' c = gI A c := fun c h0 h1 => ly_fn h (by omega) (by omega)
/-- the pictures laid -/
def LZ (C : Int → cT) (A : mj_M) (A' : mj_M) : Prop := (ly A A') ∧ (mz A') ∧ (gI A' 200 17 = 0) ∧ (laid C A' (gI A 200 3)) ∧ (∀ k, gI A 200 3 ≤ k → k < 16 → ce (mo_c A k) (mo_c A' k))
theorem LZ.y {C : Int → cT} {A : mj_M} {A' : mj_M} (h : LZ C A A') : ly A A' := h.1
theorem LZ.z {C : Int → cT} {A : mj_M} {A' : mj_M} (h : LZ C A A') : mz A' := h.2.1
theorem LZ.o {C : Int → cT} {A : mj_M} {A' : mj_M} (h : LZ C A A') : gI A' 200 17 = 0 := h.2.2.1
theorem LZ.l {C : Int → cT} {A : mj_M} {A' : mj_M} (h : LZ C A A') : laid C A' (gI A 200 3) := h.2.2.2.1
theorem LZ.u {C : Int → cT} {A : mj_M} {A' : mj_M} (h : LZ C A A') : ∀ k, gI A 200 3 ≤ k → k < 16 → ce (mo_c A k) (mo_c A' k) := h.2.2.2.2
theorem mo_sl_v {B : mj_M} {s f x y : Int} (h : ∀ c, 222 ≤ c → c ≤ 237 → gI B c = gI A c) (hp : ∀ d p, 0 ≤ d → d < gI A 200 3 → 0 ≤ p → p < 192 → gI B 218 (192 * d + p) = gI A 218 (192 * d + p)) (hg : mo_rg A) (hs : 0 ≤ s ∧ s < gI A 200 23) (hf : 0 ≤ f ∧ f < gI A 224 s) : ∀ n : Nat, n ≤ 4 → mo_sl B s f x y n = mo_sl A s f x y n
  | 0, _ => rfl
  | n + 1, hn => by
    have hha := mo_ha_r hg (l := n) hs ⟨by omega, by omega⟩ hf
    rw [mo_sl, mo_sl, mo_sl_v h hp hg hs hf n (by omega), mo_ha_c h, mo_mv_c h, mo_mv_c h, h 222 (by omega) (by omega), h 225 (by omega) (by omega)]
    by_cases h1 : mo_ha A s n f ≠ -1 ∧ mo_ip (x - mo_mv A s n f 1) (y - mo_mv A s n f 0)
    · have h2 := h1.2
      unfold mo_ip at h2
      rw [show 192 * mo_ha A s n f + 16 * (y - mo_mv A s n f 0) + (x - mo_mv A s n f 1) = 192 * mo_ha A s n f + (16 * (y - mo_mv A s n f 0) + (x - mo_mv A s n f 1)) by omega, hp (mo_ha A s n f) (16 * (y - mo_mv A s n f 0) + (x - mo_mv A s n f 1)) (by omega) (by omega) (by omega) (by omega)]
    · rw [if_neg (fun k => h1 ⟨k.1, k.2.1⟩), if_neg (fun k => h1 ⟨k.1, k.2.1⟩)]
theorem vi_p {C : Int → cT} {d p : Int} (hp : 0 ≤ p ∧ p < 192) : gI (vi C A) 218 (192 * d + p) = c_pf (C d) p := by
  show c_pf (C ((192 * d + p) / 192)) ((192 * d + p) % 192) = _
  rw [show (192 * d + p) / 192 = d by omega, show (192 * d + p) % 192 = p by omega]
theorem vi_fn {C : Int → cT} {c : Int} (h : c ≠ 218) : gI (vi C A) c = gI A c := by
  unfold vi
  funext i
  rw [gI_sF, if_neg h]
theorem vi_se {C : Int → cT} {A' : mj_M} {s f x y : Int} (h : LZ C A A') (hg : mo_rg A) (hs : 0 ≤ s ∧ s < gI A 200 23) (hf : 0 ≤ f ∧ f < gI A 224 s) : mo_se A' s f x y = mo_se (vi C A) s f x y := by
  unfold mo_se
  have e1 : mo_sl A' s f x y 4 = mo_sl (sF A 218 (gI A' 218)) s f x y 4 := mo_sl_c (A := sF A 218 (gI A' 218)) (B := A') (fun c h0 h1 => by rw [ly_rv h.y c h0 h1]; funext i; rw [gI_sF, if_neg (by omega)]) rfl 4
  have e2 : mo_sl (sF A 218 (gI A' 218)) s f x y 4 = mo_sl (vi C A) s f x y 4 := mo_sl_v (A := vi C A) (B := sF A 218 (gI A' 218)) (fun c h0 h1 => by rw [vi_fn (by omega)]; funext i; rw [gI_sF, if_neg (by omega)]) (fun d p d0 d1 p0 p1 => by
    rw [vi_p ⟨p0, p1⟩]
    exact ((h.l d d0 d1).2 p p0 p1).1) hg hs hf 4 (by omega)
  rw [e1, e2]
theorem cm_point {C : Int → cT} {d x y : Int} (h : MI C A) (hd : r32 d) (hx : r32 x) (hy : r32 y) : mj_Cal G n_M_point [mR (some 200), mI d, mI x, mI y] A (fun r A' => ((0 ≤ d ∧ d < gI A 200 3 ∧ 0 ≤ x ∧ x < 16 ∧ 0 ≤ y ∧ y < 12) ∧ r = some (mI (c_pf (C d) (16 * y + x))) ∧ LZ C (sI A 200 0 0) A') ∨ (¬ (0 ≤ d ∧ d < gI A 200 3 ∧ 0 ≤ x ∧ x < 16 ∧ 0 ≤ y ∧ y < 12) ∧ r = some (mI 0) ∧ A' = sI A 200 0 (if (0 ≤ d ∧ d < gI A 200 3 ∧ 0 ≤ x ∧ x < 16 ∧ 0 ≤ y ∧ y < 12) then 0 else 1))) mj_no := by
  refine mj_bodyK 0 0 [some (mR (some 200)), some (mI d), some (mI x), some (mI y)] rfl rfl rfl (by decide +kernel) (Nat.le_of_ble_eq_true rfl) (by simp) rfl ?_
  have hM := h.M
  have hnd := h.g.nd
  refine mx_R fun hR => ?_
  refine mx_aload_n 0 d_M_point_0 rfl rfl ?_
  refine mj_cutB ((0 ≤ d ∧ d < gI A 200 3 ∧ 0 ≤ x ∧ x < 16 ∧ 0 ≤ y ∧ y < 12)) 22 ?_ (fun hJ_1 => ?_)
  · refine mx_callV (kc := 0) (ks := 0) (N := n_M_asked1) (as := [_]) (ci := 7) d_M_point_22 s_M_138 ⟨Nat.le_of_ble_eq_true rfl, Nat.le_of_ble_eq_true rfl⟩ rfl (mj_wt_8 (Nat.le_of_ble_eq_true rfl)) (hM.o) ⟨_, rfl, rfl⟩ (cm_asked1 _ hM) (fun r_22 A_22 h_22 => ?_) (fun E_22 A_x h_22 => ?_)
    rotate_left
    · exact h_22.elim
    obtain ⟨rfl, hA_22⟩ := h_22
    obtain rfl := hA_22.symm
    clear hA_22
    refine mx_R fun hR_1 => ?_
    refine mx_if_ne 30 d_M_point_25 rfl (by first | assumption | exact hR_1 _ _ | exact hR _ _ | exact r32_mk (by omega) (by omega)) (fun c_25 => ?_) (fun c_25 => ?_)
    · have hT : (0 ≤ d ∧ d < gI A 200 3 ∧ 0 ≤ x ∧ x < 16 ∧ 0 ≤ y ∧ y < 12) := by omega
      rw [if_pos hT]
      have hM1 := hM
      refine mx_R fun hR => ?_
      refine mx_aload_n 0 d_M_point_30 rfl rfl ?_
      refine mx_callV (kc := 0) (ks := 0) (N := n_M_lays) (as := []) (ci := 7) d_M_point_31 s_M_229 ⟨Nat.le_of_ble_eq_true rfl, Nat.le_of_ble_eq_true rfl⟩ rfl (mj_wt_8 (Nat.le_of_ble_eq_true rfl)) (hM.o) ⟨_, rfl, rfl⟩ (cm_lays (C := C) (MI_0 h).M hnd (MI_0 h).z (MI_0 h).C) (fun r_31 A_31 h_31 => ?_) (fun E_31 A_x h_31 => ?_)
      rotate_left
      · exact h_31.elim
      obtain ⟨rfl, y1, y2, y3, y4, y5⟩ := h_31
      refine mx_R fun hR_1 => ?_
      have hM := ly_MS y1 (MI_0 (v := 0) h).M
      refine mx_aload_n 0 d_M_point_34 rfl rfl ?_
      refine mx_getPs 18 d_M_point_35 f_M_50 rfl rfl (hM.o) (hM.p18) ?_
      refine mx_sipush d_M_point_38 (by decide) ?_
      refine mx_iload_n 1 d_M_point_41 rfl rfl ?_
      refine mx_imul d_M_point_42 ?_
      refine mx_bipush d_M_point_43 (by decide) ?_
      refine mx_iload_n 3 d_M_point_45 rfl rfl ?_
      refine mx_imul d_M_point_46 ?_
      refine mx_iadd d_M_point_47 ?_
      refine mx_iload_n 2 d_M_point_48 rfl rfl ?_
      refine mx_iadd d_M_point_49 ?_
      refine mx_iald d_M_point_50 (hM.s18) (by omega) (by omega) ?_
      rw [show 192 * d + 16 * y + x = 192 * d + (16 * y + x) by omega, ((y4 d hT.1 hT.2.1).2 (16 * y + x) (by omega) (by omega)).1]
      refine mx_iret d_M_point_51 rfl ?_
      exact Or.inl ⟨hT, rfl, ⟨y1, y2, y3, y4, y5⟩⟩
    · refine mx_iconst d_M_point_28 ?_
      refine mx_iret d_M_point_29 rfl ?_
      exact Or.inr ⟨by omega, rfl, rfl⟩
  · refine mx_aload_n 0 d_M_point_1 rfl rfl ?_
    refine mx_iload_n 1 d_M_point_2 rfl rfl ?_
    refine mx_callV (kc := 0) (ks := 0) (N := n_M_isDrawing) (as := [_]) (ci := 7) d_M_point_3 s_M_130 ⟨Nat.le_of_ble_eq_true rfl, Nat.le_of_ble_eq_true rfl⟩ rfl (mj_wt_8 (Nat.le_of_ble_eq_true rfl)) (hM.o) ⟨_, rfl, rfl⟩ (cm_isDrawing hM hd hnd) (fun r_3 A_3 h_3 => ?_) (fun E_3 A_x h_3 => ?_)
    rotate_left
    · exact h_3.elim
    obtain ⟨rfl, hA_3⟩ := h_3
    obtain rfl := hA_3.symm
    clear hA_3
    refine mx_R fun hR_2 => ?_
    refine mx_if_eq 21 d_M_point_6 rfl (by first | assumption | exact hR_2 _ _ | exact hR _ _ | exact r32_mk (by omega) (by omega)) (fun c_6 => ?_) (fun c_6 => ?_)
    · refine mx_iconst d_M_point_21 ?_
      first | exact mj_j1 hJ_1 (by omega) | exact mj_j0 hJ_1 (by omega)
    · refine mx_iload_n 2 d_M_point_9 rfl rfl ?_
      refine mx_iload_n 3 d_M_point_10 rfl rfl ?_
      refine mx_callS (kc := 0) (ks := 0) (N := n_M_isPoint) (as := [_, _]) d_M_point_11 s_M_149 ⟨Nat.le_of_ble_eq_true rfl, Nat.le_of_ble_eq_true rfl⟩ rfl (mj_wt_8 (Nat.le_of_ble_eq_true rfl)) (cm_isPoint hx hy) (fun r_11 A_11 h_11 => ?_) (fun E_11 A_x h_11 => ?_)
      rotate_left
      · exact h_11.elim
      obtain ⟨rfl, hA_11⟩ := h_11
      obtain rfl := hA_11.symm
      clear hA_11
      refine mx_R fun hR_3 => ?_
      refine mx_if_eq 21 d_M_point_14 rfl (by first | assumption | exact hR_3 _ _ | exact hR_2 _ _ | exact hR _ _ | exact r32_mk (by omega) (by omega)) (fun c_14 => ?_) (fun c_14 => ?_)
      · refine mx_iconst d_M_point_21 ?_
        first | exact mj_j1 hJ_1 (by omega) | exact mj_j0 hJ_1 (by omega)
      · refine mx_iconst d_M_point_17 ?_
        refine mx_goto 22 d_M_point_18 rfl ?_
        first | exact mj_j1 hJ_1 (by omega) | exact mj_j0 hJ_1 (by omega)
theorem vi_0 {C : Int → cT} {v s f x y : Int} : mo_se (vi C (sI A 200 0 v)) s f x y = mo_se (vi C A) s f x y := mo_se_c (fun c h0 h1 => by rw [vi_fn (by omega), vi_fn (by omega)]; exact mo_r0 (by omega)) rfl
theorem cm_seen {C : Int → cT} {s f x y : Int} (h : MI C A) (hs : r32 s) (hf : r32 f) (hx : r32 x) (hy : r32 y) : mj_Cal G n_M_seen [mR (some 200), mI s, mI f, mI x, mI y] A (fun r A' => (((0 ≤ s ∧ s < gI A 200 23 ∧ 0 ≤ f ∧ f < gI A 224 s) ∧ (0 ≤ x ∧ x < 16 ∧ 0 ≤ y ∧ y < 12)) ∧ r = some (mI (mo_se (vi C A) s f x y)) ∧ LZ C (sI A 200 0 0) A') ∨ (¬ ((0 ≤ s ∧ s < gI A 200 23 ∧ 0 ≤ f ∧ f < gI A 224 s) ∧ (0 ≤ x ∧ x < 16 ∧ 0 ≤ y ∧ y < 12)) ∧ r = some (mI 0) ∧ A' = sI A 200 0 (if ((0 ≤ s ∧ s < gI A 200 23 ∧ 0 ≤ f ∧ f < gI A 224 s) ∧ (0 ≤ x ∧ x < 16 ∧ 0 ≤ y ∧ y < 12)) then 0 else 1))) mj_no := by
  refine mj_bodyK 0 0 [some (mR (some 200)), some (mI s), some (mI f), some (mI x), some (mI y)] rfl rfl rfl (by decide +kernel) (Nat.le_of_ble_eq_true rfl) (by simp) rfl ?_
  have hM := h.M
  have hns := h.g.ns
  refine mx_R fun hR => ?_
  refine mx_aload_n 0 d_M_seen_0 rfl rfl ?_
  refine mj_cutB (((0 ≤ s ∧ s < gI A 200 23 ∧ 0 ≤ f ∧ f < gI A 224 s) ∧ (0 ≤ x ∧ x < 16 ∧ 0 ≤ y ∧ y < 12))) 24 ?_ (fun hJ_1 => ?_)
  · refine mx_callV (kc := 0) (ks := 0) (N := n_M_asked1) (as := [_]) (ci := 7) d_M_seen_24 s_M_138 ⟨Nat.le_of_ble_eq_true rfl, Nat.le_of_ble_eq_true rfl⟩ rfl (mj_wt_8 (Nat.le_of_ble_eq_true rfl)) (hM.o) ⟨_, rfl, rfl⟩ (cm_asked1 _ hM) (fun r_24 A_24 h_24 => ?_) (fun E_24 A_x h_24 => ?_)
    rotate_left
    · exact h_24.elim
    obtain ⟨rfl, hA_24⟩ := h_24
    obtain rfl := hA_24.symm
    clear hA_24
    refine mx_R fun hR_1 => ?_
    refine mx_if_ne 32 d_M_seen_27 rfl (by first | assumption | exact hR_1 _ _ | exact hR _ _ | exact r32_mk (by omega) (by omega)) (fun c_27 => ?_) (fun c_27 => ?_)
    · have hT : ((0 ≤ s ∧ s < gI A 200 23 ∧ 0 ≤ f ∧ f < gI A 224 s) ∧ (0 ≤ x ∧ x < 16 ∧ 0 ≤ y ∧ y < 12)) := by omega
      rw [if_pos hT]
      have h0 := MI_0 (v := 0) h
      refine mx_R fun hR => ?_
      refine mx_aload_n 0 d_M_seen_32 rfl rfl ?_
      refine mx_callV (kc := 0) (ks := 0) (N := n_M_lays) (as := []) (ci := 7) d_M_seen_33 s_M_229 ⟨Nat.le_of_ble_eq_true rfl, Nat.le_of_ble_eq_true rfl⟩ rfl (mj_wt_8 (Nat.le_of_ble_eq_true rfl)) (hM.o) ⟨_, rfl, rfl⟩ (cm_lays (C := C) h0.M h0.g.nd h0.z h0.C) (fun r_33 A_33 h_33 => ?_) (fun E_33 A_x h_33 => ?_)
      rotate_left
      · exact h_33.elim
      obtain ⟨rfl, y1, y2, y3, y4, y5⟩ := h_33
      refine mx_R fun hR_1 => ?_
      have hM := ly_MS y1 h0.M
      refine mx_aload_n 0 d_M_seen_36 rfl rfl ?_
      refine mx_iload_n 1 d_M_seen_37 rfl rfl ?_
      refine mx_iload_n 2 d_M_seen_38 rfl rfl ?_
      refine mx_iload_n 3 d_M_seen_39 rfl rfl ?_
      refine mx_iload 4 d_M_seen_40 rfl ?_
      refine mx_callV (kc := 0) (ks := 0) (N := n_M_seenAt) (as := [_, _, _, _]) (ci := 7) d_M_seen_42 s_M_226 ⟨Nat.le_of_ble_eq_true rfl, Nat.le_of_ble_eq_true rfl⟩ rfl (mj_wt_8 (Nat.le_of_ble_eq_true rfl)) (hM.o) ⟨_, rfl, rfl⟩ (cm_seenAt (A := A_33) hM (ly_rg y1 h0.g) (ly_pg y1 h0.p) (ly_hg y1 h0.h) y2.pi (by rw [ly_2 y1 23 (by omega)]; exact ⟨hT.1.1, hT.1.2.1⟩) (by rw [ly_fn y1 (c := 224) (by omega) (by omega)]; exact hT.1.2.2) hT.2) (fun r_42 A_42 h_42 => ?_) (fun E_42 A_x h_42 => ?_)
      rotate_left
      · exact h_42.elim
      obtain ⟨rfl, hA_42⟩ := h_42
      obtain rfl := hA_42.symm
      clear hA_42
      refine mx_R fun hR_2 => ?_
      refine mx_iret d_M_seen_45 rfl ?_
      exact Or.inl ⟨hT, by rw [vi_se (C := C) ⟨y1, y2, y3, y4, y5⟩ h0.g ⟨hT.1.1, hT.1.2.1⟩ hT.1.2.2, vi_0], ⟨y1, y2, y3, y4, y5⟩⟩
    · refine mx_iconst d_M_seen_30 ?_
      refine mx_iret d_M_seen_31 rfl ?_
      exact Or.inr ⟨by omega, rfl, rfl⟩
  · refine mx_aload_n 0 d_M_seen_1 rfl rfl ?_
    refine mx_iload_n 1 d_M_seen_2 rfl rfl ?_
    refine mx_iload_n 2 d_M_seen_3 rfl rfl ?_
    refine mx_callV (kc := 0) (ks := 0) (N := n_M_isFrame) (as := [_, _]) (ci := 7) d_M_seen_4 s_M_202 ⟨Nat.le_of_ble_eq_true rfl, Nat.le_of_ble_eq_true rfl⟩ rfl (mj_wt_8 (Nat.le_of_ble_eq_true rfl)) (hM.o) ⟨_, rfl, rfl⟩ (cm_isFrame hM hs hf hns h.g.fr) (fun r_4 A_4 h_4 => ?_) (fun E_4 A_x h_4 => ?_)
    rotate_left
    · exact h_4.elim
    obtain ⟨rfl, hA_4⟩ := h_4
    obtain rfl := hA_4.symm
    clear hA_4
    refine mx_R fun hR_2 => ?_
    refine mx_if_eq 23 d_M_seen_7 rfl (by first | assumption | exact hR_2 _ _ | exact hR _ _ | exact r32_mk (by omega) (by omega)) (fun c_7 => ?_) (fun c_7 => ?_)
    · refine mx_iconst d_M_seen_23 ?_
      first | exact mj_j1 hJ_1 (by omega) | exact mj_j0 hJ_1 (by omega)
    · refine mx_iload_n 3 d_M_seen_10 rfl rfl ?_
      refine mx_iload 4 d_M_seen_11 rfl ?_
      refine mx_callS (kc := 0) (ks := 0) (N := n_M_isPoint) (as := [_, _]) d_M_seen_13 s_M_149 ⟨Nat.le_of_ble_eq_true rfl, Nat.le_of_ble_eq_true rfl⟩ rfl (mj_wt_8 (Nat.le_of_ble_eq_true rfl)) (cm_isPoint hx hy) (fun r_13 A_13 h_13 => ?_) (fun E_13 A_x h_13 => ?_)
      rotate_left
      · exact h_13.elim
      obtain ⟨rfl, hA_13⟩ := h_13
      obtain rfl := hA_13.symm
      clear hA_13
      refine mx_R fun hR_3 => ?_
      refine mx_if_eq 23 d_M_seen_16 rfl (by first | assumption | exact hR_3 _ _ | exact hR_2 _ _ | exact hR _ _ | exact r32_mk (by omega) (by omega)) (fun c_16 => ?_) (fun c_16 => ?_)
      · refine mx_iconst d_M_seen_23 ?_
        first | exact mj_j1 hJ_1 (by omega) | exact mj_j0 hJ_1 (by omega)
      · refine mx_iconst d_M_seen_19 ?_
        refine mx_goto 24 d_M_seen_20 rfl ?_
        first | exact mj_j1 hJ_1 (by omega) | exact mj_j0 hJ_1 (by omega)
theorem cm_seenAnew {C : Int → cT} {s f x y : Int} (h : MI C A) (hs : r32 s) (hf : r32 f) (hx : r32 x) (hy : r32 y) : mj_Cal G n_M_seenAnew [mR (some 200), mI s, mI f, mI x, mI y] A (fun r A' => (((0 ≤ s ∧ s < gI A 200 23 ∧ 0 ≤ f ∧ f < gI A 224 s) ∧ (0 ≤ x ∧ x < 16 ∧ 0 ≤ y ∧ y < 12)) ∧ r = some (mI (mo_se (vi C A) s f x y)) ∧ LZ C (sI A 200 0 0) A') ∨ (¬ ((0 ≤ s ∧ s < gI A 200 23 ∧ 0 ≤ f ∧ f < gI A 224 s) ∧ (0 ≤ x ∧ x < 16 ∧ 0 ≤ y ∧ y < 12)) ∧ r = some (mI 0) ∧ A' = sI A 200 0 (if ((0 ≤ s ∧ s < gI A 200 23 ∧ 0 ≤ f ∧ f < gI A 224 s) ∧ (0 ≤ x ∧ x < 16 ∧ 0 ≤ y ∧ y < 12)) then 0 else 1))) mj_no := by
  refine mj_bodyK 0 0 [some (mR (some 200)), some (mI s), some (mI f), some (mI x), some (mI y)] rfl rfl rfl (by decide +kernel) (Nat.le_of_ble_eq_true rfl) (by simp) rfl ?_
  have hM := h.M
  have hns := h.g.ns
  refine mx_R fun hR => ?_
  refine mx_aload_n 0 d_M_seenAnew_0 rfl rfl ?_
  refine mj_cutB (((0 ≤ s ∧ s < gI A 200 23 ∧ 0 ≤ f ∧ f < gI A 224 s) ∧ (0 ≤ x ∧ x < 16 ∧ 0 ≤ y ∧ y < 12))) 24 ?_ (fun hJ_1 => ?_)
  · refine mx_callV (kc := 0) (ks := 0) (N := n_M_asked1) (as := [_]) (ci := 7) d_M_seenAnew_24 s_M_138 ⟨Nat.le_of_ble_eq_true rfl, Nat.le_of_ble_eq_true rfl⟩ rfl (mj_wt_8 (Nat.le_of_ble_eq_true rfl)) (hM.o) ⟨_, rfl, rfl⟩ (cm_asked1 _ hM) (fun r_24 A_24 h_24 => ?_) (fun E_24 A_x h_24 => ?_)
    rotate_left
    · exact h_24.elim
    obtain ⟨rfl, hA_24⟩ := h_24
    obtain rfl := hA_24.symm
    clear hA_24
    refine mx_R fun hR_1 => ?_
    refine mx_if_ne 32 d_M_seenAnew_27 rfl (by first | assumption | exact hR_1 _ _ | exact hR _ _ | exact r32_mk (by omega) (by omega)) (fun c_27 => ?_) (fun c_27 => ?_)
    · have hT : ((0 ≤ s ∧ s < gI A 200 23 ∧ 0 ≤ f ∧ f < gI A 224 s) ∧ (0 ≤ x ∧ x < 16 ∧ 0 ≤ y ∧ y < 12)) := by omega
      rw [if_pos hT]
      have h0 := MI_0 (v := 0) h
      have hC1 : dC C (sI (sI A 200 0 0) 200 17 1) := ⟨h.C.k, h.C.b, fun e => by exact absurd (show (1 : Int) = 0 from e) (by omega)⟩
      have hz1 : mz (sI (sI A 200 0 0) 200 17 1) := ⟨h.z.st, h.z.pt, h.z.z, h.z.pi, Or.inr rfl⟩
      refine mx_R fun hR => ?_
      refine mx_aload_n 0 d_M_seenAnew_32 rfl rfl ?_
      refine mx_iconst d_M_seenAnew_33 ?_
      refine mx_putI 17 d_M_seenAnew_34 f_M_134 rfl (hM.o) (Or.inl rfl) (Or.inr ⟨rfl, by first | exact Or.inl rfl | exact Or.inr rfl | omega⟩) (by first | assumption | exact hR _ _ | exact r32_mk (by omega) (by omega)) ?_
      refine mx_R fun hR_1 => ?_
      refine mx_aload_n 0 d_M_seenAnew_37 rfl rfl ?_
      refine mx_callV (kc := 0) (ks := 0) (N := n_M_lays) (as := []) (ci := 7) d_M_seenAnew_38 s_M_229 ⟨Nat.le_of_ble_eq_true rfl, Nat.le_of_ble_eq_true rfl⟩ rfl (mj_wt_8 (Nat.le_of_ble_eq_true rfl)) (hM.o) ⟨_, rfl, rfl⟩ (cm_lays (C := C) (A := sI (sI A 200 0 0) 200 17 1) hM h.g.nd hz1 hC1) (fun r_38 A_38 h_38 => ?_) (fun E_38 A_x h_38 => ?_)
      rotate_left
      · exact h_38.elim
      obtain ⟨rfl, y1, y2, y3, y4, y5⟩ := h_38
      refine mx_R fun hR_2 => ?_
      have y0 : ly (sI A 200 0 0) A_38 := ⟨y1.S, y1.P, fun c i h1 h2 => by rw [y1.I c i h1 h2, gI_sI, if_neg (by omega)]⟩
      have hM := ly_MS y0 h0.M
      refine mx_aload_n 0 d_M_seenAnew_41 rfl rfl ?_
      refine mx_iload_n 1 d_M_seenAnew_42 rfl rfl ?_
      refine mx_iload_n 2 d_M_seenAnew_43 rfl rfl ?_
      refine mx_iload_n 3 d_M_seenAnew_44 rfl rfl ?_
      refine mx_iload 4 d_M_seenAnew_45 rfl ?_
      refine mx_callV (kc := 0) (ks := 0) (N := n_M_seenAt) (as := [_, _, _, _]) (ci := 7) d_M_seenAnew_47 s_M_226 ⟨Nat.le_of_ble_eq_true rfl, Nat.le_of_ble_eq_true rfl⟩ rfl (mj_wt_8 (Nat.le_of_ble_eq_true rfl)) (hM.o) ⟨_, rfl, rfl⟩ (cm_seenAt (A := A_38) hM (ly_rg y0 h0.g) (ly_pg y0 h0.p) (ly_hg y0 h0.h) y2.pi (by rw [ly_2 y0 23 (by omega)]; exact ⟨hT.1.1, hT.1.2.1⟩) (by rw [ly_fn y0 (c := 224) (by omega) (by omega)]; exact hT.1.2.2) hT.2) (fun r_47 A_47 h_47 => ?_) (fun E_47 A_x h_47 => ?_)
      rotate_left
      · exact h_47.elim
      obtain ⟨rfl, hA_47⟩ := h_47
      obtain rfl := hA_47.symm
      clear hA_47
      refine mx_R fun hR_3 => ?_
      refine mx_iret d_M_seenAnew_50 rfl ?_
      exact Or.inl ⟨hT, by rw [vi_se (C := C) (A := sI A 200 0 0) ⟨y0, y2, y3, y4, y5⟩ h0.g ⟨hT.1.1, hT.1.2.1⟩ hT.1.2.2, vi_0], ⟨y0, y2, y3, y4, y5⟩⟩
    · refine mx_iconst d_M_seenAnew_30 ?_
      refine mx_iret d_M_seenAnew_31 rfl ?_
      exact Or.inr ⟨by omega, rfl, rfl⟩
  · refine mx_aload_n 0 d_M_seenAnew_1 rfl rfl ?_
    refine mx_iload_n 1 d_M_seenAnew_2 rfl rfl ?_
    refine mx_iload_n 2 d_M_seenAnew_3 rfl rfl ?_
    refine mx_callV (kc := 0) (ks := 0) (N := n_M_isFrame) (as := [_, _]) (ci := 7) d_M_seenAnew_4 s_M_202 ⟨Nat.le_of_ble_eq_true rfl, Nat.le_of_ble_eq_true rfl⟩ rfl (mj_wt_8 (Nat.le_of_ble_eq_true rfl)) (hM.o) ⟨_, rfl, rfl⟩ (cm_isFrame hM hs hf hns h.g.fr) (fun r_4 A_4 h_4 => ?_) (fun E_4 A_x h_4 => ?_)
    rotate_left
    · exact h_4.elim
    obtain ⟨rfl, hA_4⟩ := h_4
    obtain rfl := hA_4.symm
    clear hA_4
    refine mx_R fun hR_2 => ?_
    refine mx_if_eq 23 d_M_seenAnew_7 rfl (by first | assumption | exact hR_2 _ _ | exact hR _ _ | exact r32_mk (by omega) (by omega)) (fun c_7 => ?_) (fun c_7 => ?_)
    · refine mx_iconst d_M_seenAnew_23 ?_
      first | exact mj_j1 hJ_1 (by omega) | exact mj_j0 hJ_1 (by omega)
    · refine mx_iload_n 3 d_M_seenAnew_10 rfl rfl ?_
      refine mx_iload 4 d_M_seenAnew_11 rfl ?_
      refine mx_callS (kc := 0) (ks := 0) (N := n_M_isPoint) (as := [_, _]) d_M_seenAnew_13 s_M_149 ⟨Nat.le_of_ble_eq_true rfl, Nat.le_of_ble_eq_true rfl⟩ rfl (mj_wt_8 (Nat.le_of_ble_eq_true rfl)) (cm_isPoint hx hy) (fun r_13 A_13 h_13 => ?_) (fun E_13 A_x h_13 => ?_)
      rotate_left
      · exact h_13.elim
      obtain ⟨rfl, hA_13⟩ := h_13
      obtain rfl := hA_13.symm
      clear hA_13
      refine mx_R fun hR_3 => ?_
      refine mx_if_eq 23 d_M_seenAnew_16 rfl (by first | assumption | exact hR_3 _ _ | exact hR_2 _ _ | exact hR _ _ | exact r32_mk (by omega) (by omega)) (fun c_16 => ?_) (fun c_16 => ?_)
      · refine mx_iconst d_M_seenAnew_23 ?_
        first | exact mj_j1 hJ_1 (by omega) | exact mj_j0 hJ_1 (by omega)
      · refine mx_iconst d_M_seenAnew_19 ?_
        refine mx_goto 24 d_M_seenAnew_20 rfl ?_
        first | exact mj_j1 hJ_1 (by omega) | exact mj_j0 hJ_1 (by omega)
end MODP
