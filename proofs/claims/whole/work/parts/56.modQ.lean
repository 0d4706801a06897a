/-! THE REFERENCE, 26: stale, of -/
theorem mj_orP {P Q : Prop} [Decidable P] [Decidable Q] : (if ((if P then (1 : Int) else 0) = 1 ∨ (if Q then (1 : Int) else 0) = 1) then (1 : Int) else 0) = if P ∨ Q then 1 else 0 := by
  by_cases h1 : P <;> by_cases h2 : Q <;> simp [h1, h2]
theorem mj_andP {P Q : Prop} [Decidable P] [Decidable Q] : (if ((if P then (1 : Int) else 0) = 1 ∧ (if Q then (1 : Int) else 0) = 1) then (1 : Int) else 0) = if P ∧ Q then 1 else 0 := by
  by_cases h1 : P <;> by_cases h2 : Q <;> simp [h1, h2]
theorem mj_ic {P Q : Prop} [Decidable P] [Decidable Q] {a b : Int} (h : P ↔ Q) : (if P then a else b) = if Q then a else b := by
  by_cases h1 : P
  · rw [if_pos h1, if_pos (h.mp h1)]
  · rw [if_neg h1, if_neg (fun k => h1 (h.mpr k))]
noncomputable def mo_sb (A : mj_M) (s f : Int) : Int := @ite Int (mo_st A s f) (Classical.propDecidable _) 1 0
theorem mo_sb_1 {A : mj_M} {s f : Int} (h : mo_st A s f) : mo_sb A s f = 1 := if_pos h
theorem mo_sb_0 {A : mj_M} {s f : Int} (h : ¬ mo_st A s f) : mo_sb A s f = 0 := if_neg h
theorem mo_sb_01 {A : mj_M} {s f : Int} : mo_sb A s f = 0 ∨ mo_sb A s f = 1 := by
  by_cases h : mo_st A s f
  · exact Or.inr (mo_sb_1 h)
  · exact Or.inl (mo_sb_0 h)
theorem mo_sb_c {A B : mj_M} {s f : Int} (h : mo_st A s f ↔ mo_st B s f) : mo_sb A s f = mo_sb B s f := by
  by_cases h1 : mo_st A s f
  · rw [mo_sb_1 h1, mo_sb_1 (h.mp h1)]
  · rw [mo_sb_0 h1, mo_sb_0 (fun k => h1 (h.mpr k))]
theorem mo_st_c {A B : mj_M} {s f : Int} (h1 : gI A 238 (24 * s + f) = gI B 238 (24 * s + f)) (h2 : ∀ p, 0 ≤ p → p < 192 → gI A 239 (192 * (24 * s + f) + p) = gI B 239 (192 * (24 * s + f) + p)) (h3 : ∀ x y, mo_se A s f x y = mo_se B s f x y) : mo_st A s f ↔ mo_st B s f := by
  unfold mo_st
  rw [h1]
  constructor
  · rintro (h | ⟨p, p0, p1, p2⟩)
    · exact Or.inl h
    · exact Or.inr ⟨p, p0, p1, by rw [← h2 p p0 p1, ← h3]; exact p2⟩
  · rintro (h | ⟨p, p0, p1, p2⟩)
    · exact Or.inl h
    · exact Or.inr ⟨p, p0, p1, by rw [h2 p p0 p1, h3]; exact p2⟩
section MODQ
variable {G : mj_G} {A : mj_M}
theorem cm_isStale2 {s f : Int} (hM : MS A) (hg : mo_rg A) (hp : mo_pg A) (hh : mo_hg A) (hpi : ∀ k, -1 ≤ gI A 218 k ∧ gI A 218 k ≤ 7) (hs : 0 ≤ s ∧ s < gI A 200 23) (hf : 0 ≤ f ∧ f < gI A 224 s) (hc : ∀ k, 0 ≤ gI A 222 k ∧ gI A 222 k ≤ 99) : mj_Cal G n_M_isStale [mR (some 200), mI s, mI f] A (fun r A' => r = some (mI (mo_sb A s f)) ∧ A' = A) mj_no := by
  refine (cm_isStale hM hg hp hh hpi hs hf hc).mono (fun r A' h => ?_) (fun _ _ h => h)
  obtain ⟨⟨h1, h2⟩ | ⟨h1, h2⟩, h3⟩ := h
  · exact ⟨by rw [h1, mo_sb_1 h2], h3⟩
  · exact ⟨by rw [h1, mo_sb_0 h2], h3⟩
theorem vi_st {C : Int → cT} {A' : mj_M} {s f : Int} (h : LZ C (sI A 200 0 0) A') (hg : mo_rg A) (hs : 0 ≤ s ∧ s < gI A 200 23) (hf : 0 ≤ f ∧ f < gI A 224 s) : mo_st A' s f ↔ mo_st (vi C A) s f :=
  mo_st_c (by rw [ly_fn h.y (c := 238) (by omega) (by omega), vi_fn (by omega)]; rfl) (fun p _ _ => by rw [ly_fn h.y (c := 239) (by omega) (by omega), vi_fn (by omega)]; rfl) (fun x y => by rw [vi_se (A := sI A 200 0 0) h hg hs hf, vi_0])
theorem cm_stale {C : Int → cT} {s : Int} (h : MI C A) (hs : r32 s) : mj_Cal G n_M_stale [mR (some 200), mI s] A (fun r A' => ((0 ≤ s ∧ s < gI A 200 23) ∧ r = some (mI (mj_sum (fun f => mo_sb (vi C A) s f) (gI A 224 s).toNat)) ∧ LZ C (sI A 200 0 0) A') ∨ (¬ (0 ≤ s ∧ s < gI A 200 23) ∧ r = some (mI 0) ∧ A' = sI A 200 0 (if (0 ≤ s ∧ s < gI A 200 23) then 0 else 1))) mj_no := by
  refine mj_bodyK 0 0 [some (mR (some 200)), some (mI s), none, none] rfl rfl rfl (by decide +kernel) (Nat.le_of_ble_eq_true rfl) (by simp) rfl ?_
  have hM := h.M
  have hns := h.g.ns
  refine mx_R fun hR => ?_
  refine mx_aload_n 0 d_M_stale_0 rfl rfl ?_
  refine mx_aload_n 0 d_M_stale_1 rfl rfl ?_
  refine mx_iload_n 1 d_M_stale_2 rfl rfl ?_
  refine mx_callV (kc := 0) (ks := 0) (N := n_M_isScene) (as := [_]) (ci := 7) d_M_stale_3 s_M_196 ⟨Nat.le_of_ble_eq_true rfl, Nat.le_of_ble_eq_true rfl⟩ rfl (mj_wt_8 (Nat.le_of_ble_eq_true rfl)) (hM.o) ⟨_, rfl, rfl⟩ (cm_isScene hM hs hns) (fun r_3 A_3 h_3 => ?_) (fun E_3 A_x h_3 => ?_)
  rotate_left
  · exact h_3.elim
  obtain ⟨rfl, hA_3⟩ := h_3
  obtain rfl := hA_3.symm
  clear hA_3
  refine mx_R fun hR_1 => ?_
  refine mx_callV (kc := 0) (ks := 0) (N := n_M_asked1) (as := [_]) (ci := 7) d_M_stale_6 s_M_138 ⟨Nat.le_of_ble_eq_true rfl, Nat.le_of_ble_eq_true rfl⟩ rfl (mj_wt_8 (Nat.le_of_ble_eq_true rfl)) (hM.o) ⟨_, rfl, rfl⟩ (cm_asked1 _ hM) (fun r_6 A_6 h_6 => ?_) (fun E_6 A_x h_6 => ?_)
  rotate_left
  · exact h_6.elim
  obtain ⟨rfl, hA_6⟩ := h_6
  obtain rfl := hA_6.symm
  clear hA_6
  refine mx_R fun hR_2 => ?_
  refine mx_if_ne 14 d_M_stale_9 rfl (by first | assumption | exact hR_2 _ _ | exact hR_1 _ _ | exact hR _ _ | exact r32_mk (by omega) (by omega)) (fun c_9 => ?_) (fun c_9 => ?_)
  · have hT : (0 ≤ s ∧ s < gI A 200 23) := by omega
    refine mj_Xeq (A' := sI A 200 0 0) (by rw [if_pos hT]) ?_
    have h0 := MI_0 (v := 0) h
    refine mx_R fun hR => ?_
    refine mx_aload_n 0 d_M_stale_14 rfl rfl ?_
    refine mx_callV (kc := 0) (ks := 0) (N := n_M_lays) (as := []) (ci := 7) d_M_stale_15 s_M_229 ⟨Nat.le_of_ble_eq_true rfl, Nat.le_of_ble_eq_true rfl⟩ rfl (mj_wt_8 (Nat.le_of_ble_eq_true rfl)) (hM.o) ⟨_, rfl, rfl⟩ (cm_lays (C := C) h0.M h0.g.nd h0.z h0.C) (fun r_15 A_15 h_15 => ?_) (fun E_15 A_x h_15 => ?_)
    rotate_left
    · exact h_15.elim
    obtain ⟨rfl, y1, y2, y3, y4, y5⟩ := h_15
    refine mx_R fun hR_1 => ?_
    have hM := ly_MS y1 h0.M
    have hL : LZ C (sI A 200 0 0) A_15 := ⟨y1, y2, y3, y4, y5⟩
    have hfr := h.g.fr s hT.1 hT.2
    have e24 : gI A_15 224 s = gI A 224 s := y1.I 224 s (by omega) (by omega)
    have e23 : gI A_15 200 23 = gI A 200 23 := ly_2 y1 23 (by omega)
    have hl : ∀ q : Nat, (q : Int) ≤ gI A 224 s → mj_X G n_M_stale (mj_Qm G n_M_stale (fun r A' => ((0 ≤ s ∧ s < gI A 200 23) ∧ r = some (mI (mj_sum (fun f => mo_sb (vi C A) s f) (gI A 224 s).toNat)) ∧ LZ C (sI A 200 0 0) A') ∨ (¬ (0 ≤ s ∧ s < gI A 200 23) ∧ r = some (mI 0) ∧ A' = sI A 200 0 (if (0 ≤ s ∧ s < gI A 200 23) then 0 else 1))) mj_no) A_15 0 0 22 [some (mR (some 200)), some (mI s), some (mI (mj_sum (fun f => mo_sb (vi C A) s f) q)), some (mI (q : Int))] [] := by
      refine mj_loop _ (fun q => 25 - q) _ ?_
      intro q hq ih
      refine mx_R fun hR => ?_
      refine mx_iload_n 3 d_M_stale_22 rfl rfl ?_
      refine mx_aload_n 0 d_M_stale_23 rfl rfl ?_
      refine mx_getPs 24 d_M_stale_24 f_M_65 rfl rfl (hM.o) (hM.p24) ?_
      refine mx_iload_n 1 d_M_stale_27 rfl rfl ?_
      refine mx_iald d_M_stale_28 (hM.s24) (by omega) (by omega) ?_
      rw [e24]
      refine mx_icmp_ge 55 d_M_stale_29 rfl (by first | assumption | exact hR _ _ | exact r32_mk (by omega) (by omega)) (by first | assumption | exact hR _ _ | exact r32_mk (by omega) (by omega)) (fun c_29 => ?_) (fun c_29 => ?_)
      · refine mx_iload_n 2 d_M_stale_55 rfl rfl ?_
        refine mx_iret d_M_stale_56 rfl ?_
        refine Or.inl ⟨hT, ?_, hL⟩
        rw [show (gI A 224 s).toNat = q by omega]
      · refine mx_iload_n 2 d_M_stale_32 rfl rfl ?_
        refine mj_cutI ( mo_sb (vi C A) s q) 47 ?_ (fun hJ_33 => ?_)
        · refine mx_iadd d_M_stale_47 ?_
          refine mx_istore_n 2 d_M_stale_48 rfl (Nat.le_of_ble_eq_true rfl) ?_
          refine mx_iinc 3 d_M_stale_49 rfl (Nat.le_of_ble_eq_true rfl) ?_
          refine mx_goto 22 d_M_stale_52 rfl ?_
          have h9 := ih (q + 1) (by omega) (by omega)
          rw [show ((q + 1 : Nat) : Int) = (q : Int) + 1 by omega] at h9
          exact h9
        · have hsb := mo_sb_01 (A := vi C A) (s := s) (f := q)
          refine mx_aload_n 0 d_M_stale_33 rfl rfl ?_
          refine mx_iload_n 1 d_M_stale_34 rfl rfl ?_
          refine mx_iload_n 3 d_M_stale_35 rfl rfl ?_
          refine mx_callV (kc := 0) (ks := 0) (N := n_M_isStale) (as := [_, _]) (ci := 7) d_M_stale_36 s_M_232 ⟨Nat.le_of_ble_eq_true rfl, Nat.le_of_ble_eq_true rfl⟩ rfl (mj_wt_8 (Nat.le_of_ble_eq_true rfl)) (hM.o) ⟨_, rfl, rfl⟩ (cm_isStale2 (A := A_15) hM (ly_rg y1 h0.g) (ly_pg y1 h0.p) (ly_hg y1 h0.h) y2.pi (by rw [e23]; exact hT) (by rw [e24]; exact ⟨by omega, by omega⟩) (by rw [ly_fn y1 (c := 222) (by omega) (by omega)]; exact h0.co)) (fun r_36 A_36 h_36 => ?_) (fun E_36 A_x h_36 => ?_)
          rotate_left
          · exact h_36.elim
          obtain ⟨rfl, hA_36⟩ := h_36
          obtain rfl := hA_36.symm
          clear hA_36
          refine mx_R fun hR_1 => ?_
          rw [mo_sb_c (vi_st hL h.g hT ⟨by omega, by omega⟩)]
          refine mx_if_eq 46 d_M_stale_39 rfl (by first | assumption | exact hR_1 _ _ | exact hR _ _ | exact r32_mk (by omega) (by omega)) (fun c_39 => ?_) (fun c_39 => ?_)
          · refine mx_iconst d_M_stale_46 ?_
            exact mj_ji hJ_33 (by omega)
          · refine mx_iconst d_M_stale_42 ?_
            refine mx_goto 47 d_M_stale_43 rfl ?_
            exact mj_ji hJ_33 (by omega)
    refine mx_iconst d_M_stale_18 ?_
    refine mx_istore_n 2 d_M_stale_19 rfl (Nat.le_of_ble_eq_true rfl) ?_
    refine mx_iconst d_M_stale_20 ?_
    refine mx_istore_n 3 d_M_stale_21 rfl (Nat.le_of_ble_eq_true rfl) ?_
    exact hl 0 (by omega)
  · refine mx_iconst d_M_stale_12 ?_
    refine mx_iret d_M_stale_13 rfl ?_
    exact Or.inr ⟨by omega, rfl, rfl⟩
noncomputable def of_v (c : cT) (w a : Int) : Int := if w = 0 then c_n c else if w = 1 then c_p c else if w = 2 then (if a = 0 then 0 else 1) else mj_sum (fun p => if (w = 3 ∧ c_pf c p ≠ -1 ∨ w = 4 ∧ c_mk c p = 1 ∨ w = 5 ∧ c_mk c p = 2) then 1 else 0) 192
theorem cm_of {C : Int → cT} {d w : Int} (h : MI C A) (hd : r32 d) (hw : r32 w) : mj_Cal G n_M_of [mR (some 200), mI d, mI w] A (fun r A' => (((0 ≤ d ∧ d < gI A 200 3) ∧ (0 ≤ w ∧ w ≤ 5)) ∧ r = some (mI (of_v (C d) w (gI A 208 d))) ∧ LZ C (sI A 200 0 0) A') ∨ (¬ ((0 ≤ d ∧ d < gI A 200 3) ∧ (0 ≤ w ∧ w ≤ 5)) ∧ r = some (mI 0) ∧ A' = sI A 200 0 (if (0 ≤ d ∧ d < gI A 200 3) then (if (0 ≤ w ∧ w ≤ 5) then 0 else 2) else 1))) mj_no := by
  refine mj_bodyK 0 0 [some (mR (some 200)), some (mI d), some (mI w), none, none] rfl rfl rfl (by decide +kernel) (Nat.le_of_ble_eq_true rfl) (by simp) rfl ?_
  have hM := h.M
  have hnd := h.g.nd
  refine mx_R fun hR => ?_
  refine mx_aload_n 0 d_M_of_0 rfl rfl ?_
  refine mx_aload_n 0 d_M_of_1 rfl rfl ?_
  refine mx_iload_n 1 d_M_of_2 rfl rfl ?_
  refine mx_callV (kc := 0) (ks := 0) (N := n_M_isDrawing) (as := [_]) (ci := 7) d_M_of_3 s_M_130 ⟨Nat.le_of_ble_eq_true rfl, Nat.le_of_ble_eq_true rfl⟩ rfl (mj_wt_8 (Nat.le_of_ble_eq_true rfl)) (hM.o) ⟨_, rfl, rfl⟩ (cm_isDrawing hM hd hnd) (fun r_3 A_3 h_3 => ?_) (fun E_3 A_x h_3 => ?_)
  rotate_left
  · exact h_3.elim
  obtain ⟨rfl, hA_3⟩ := h_3
  obtain rfl := hA_3.symm
  clear hA_3
  refine mx_R fun hR_1 => ?_
  refine mx_iload_n 2 d_M_of_6 rfl rfl ?_
  refine mx_iconst d_M_of_7 ?_
  refine mx_iconst d_M_of_8 ?_
  refine mx_callS (kc := 0) (ks := 0) (N := n_M_in) (as := [_, _, _]) d_M_of_9 s_M_126 ⟨Nat.le_of_ble_eq_true rfl, Nat.le_of_ble_eq_true rfl⟩ rfl (mj_wt_8 (Nat.le_of_ble_eq_true rfl)) (cm_in hw (r32_mk (by omega) (by omega)) (r32_mk (by omega) (by omega))) (fun r_9 A_9 h_9 => ?_) (fun E_9 A_x h_9 => ?_)
  rotate_left
  · exact h_9.elim
  obtain ⟨rfl, hA_9⟩ := h_9
  obtain rfl := hA_9.symm
  clear hA_9
  refine mx_R fun hR_2 => ?_
  refine mx_callV (kc := 0) (ks := 0) (N := n_M_asked2) (as := [_, _]) (ci := 7) d_M_of_12 s_M_166 ⟨Nat.le_of_ble_eq_true rfl, Nat.le_of_ble_eq_true rfl⟩ rfl (mj_wt_8 (Nat.le_of_ble_eq_true rfl)) (hM.o) ⟨_, rfl, rfl⟩ (cm_asked2 _ _ hM) (fun r_12 A_12 h_12 => ?_) (fun E_12 A_x h_12 => ?_)
  rotate_left
  · exact h_12.elim
  obtain ⟨rfl, hA_12⟩ := h_12
  obtain rfl := hA_12.symm
  clear hA_12
  refine mx_R fun hR_3 => ?_
  refine mx_if_ne 20 d_M_of_15 rfl (by first | assumption | exact hR_3 _ _ | exact hR_2 _ _ | exact hR_1 _ _ | exact hR _ _ | exact r32_mk (by omega) (by omega)) (fun c_15 => ?_) (fun c_15 => ?_)
  · have hT : ((0 ≤ d ∧ d < gI A 200 3) ∧ (0 ≤ w ∧ w ≤ 5)) := by omega
    refine mj_Xeq (A' := sI A 200 0 0) (by rw [if_pos hT.1, if_pos hT.2]) ?_
    have h0 := MI_0 (v := 0) h
    refine mx_R fun hR => ?_
    refine mx_aload_n 0 d_M_of_20 rfl rfl ?_
    refine mx_callV (kc := 0) (ks := 0) (N := n_M_lays) (as := []) (ci := 7) d_M_of_21 s_M_229 ⟨Nat.le_of_ble_eq_true rfl, Nat.le_of_ble_eq_true rfl⟩ rfl (mj_wt_8 (Nat.le_of_ble_eq_true rfl)) (hM.o) ⟨_, rfl, rfl⟩ (cm_lays (C := C) h0.M h0.g.nd h0.z h0.C) (fun r_21 A_21 h_21 => ?_) (fun E_21 A_x h_21 => ?_)
    rotate_left
    · exact h_21.elim
    obtain ⟨rfl, y1, y2, y3, y4, y5⟩ := h_21
    refine mx_R fun hR_1 => ?_
    have hM := ly_MS y1 h0.M
    have hL : LZ C (sI A 200 0 0) A_21 := ⟨y1, y2, y3, y4, y5⟩
    have hld := y4 d hT.1.1 hT.1.2
    have e9 : gI A_21 209 d = c_n (C d) := hld.1.n.symm
    have e13 : gI A_21 213 d = c_p (C d) := hld.1.p.symm
    have e8 : gI A_21 208 d = gI A 208 d := y1.I 208 d (by omega) (by omega)
    have hl : ∀ q : Nat, q ≤ 192 → mj_X G n_M_of (mj_Qm G n_M_of (fun r A' => (((0 ≤ d ∧ d < gI A 200 3) ∧ (0 ≤ w ∧ w ≤ 5)) ∧ r = some (mI (of_v (C d) w (gI A 208 d))) ∧ LZ C (sI A 200 0 0) A') ∨ (¬ ((0 ≤ d ∧ d < gI A 200 3) ∧ (0 ≤ w ∧ w ≤ 5)) ∧ r = some (mI 0) ∧ A' = sI A 200 0 (if (0 ≤ d ∧ d < gI A 200 3) then (if (0 ≤ w ∧ w ≤ 5) then 0 else 2) else 1))) mj_no) A_21 0 0 33 [some (mR (some 200)), some (mI d), some (mI w), some (mI (mj_sum (fun p => if (w = 3 ∧ c_pf (C d) p ≠ -1 ∨ w = 4 ∧ c_mk (C d) p = 1 ∨ w = 5 ∧ c_mk (C d) p = 2) then 1 else 0) q)), some (mI (192 * d + (q : Int)))] [] := by
      refine mj_loop _ (fun q => 193 - q) _ ?_
      intro q hq ih
      have ep : q < 192 → gI A_21 218 (192 * d + (q : Int)) = c_pf (C d) q ∧ gI A_21 219 (192 * d + (q : Int)) = c_mk (C d) q := fun hq => hld.2 q (by omega) (by omega)
      refine mx_R fun hR => ?_
      refine mx_iload 4 d_M_of_33 rfl ?_
      refine mx_sipush d_M_of_35 (by decide) ?_
      refine mx_iload_n 1 d_M_of_38 rfl rfl ?_
      refine mx_imul d_M_of_39 ?_
      refine mx_sipush d_M_of_40 (by decide) ?_
      refine mx_iadd d_M_of_43 ?_
      refine mx_icmp_ge 109 d_M_of_44 rfl (by first | assumption | exact hR _ _ | exact r32_mk (by omega) (by omega)) (by first | assumption | exact hR _ _ | exact r32_mk (by omega) (by omega)) (fun c_44 => ?_) (fun c_44 => ?_)
      · have e192 : q = 192 := by omega
        refine mx_iload_n 2 d_M_of_109 rfl rfl ?_
        refine mx_if_ne 122 d_M_of_110 rfl (by first | assumption | exact hR _ _ | exact r32_mk (by omega) (by omega)) (fun c_110 => ?_) (fun c_110 => ?_)
        · refine mx_iload_n 2 d_M_of_122 rfl rfl ?_
          refine mx_iconst d_M_of_123 ?_
          refine mx_icmp_ne 136 d_M_of_124 rfl (by first | assumption | exact hR _ _ | exact r32_mk (by omega) (by omega)) (by first | assumption | exact hR _ _ | exact r32_mk (by omega) (by omega)) (fun c_124 => ?_) (fun c_124 => ?_)
          · refine mx_iload_n 2 d_M_of_136 rfl rfl ?_
            refine mx_iconst d_M_of_137 ?_
            refine mx_icmp_ne 158 d_M_of_138 rfl (by first | assumption | exact hR _ _ | exact r32_mk (by omega) (by omega)) (by first | assumption | exact hR _ _ | exact r32_mk (by omega) (by omega)) (fun c_138 => ?_) (fun c_138 => ?_)
            · refine mx_iload_n 3 d_M_of_158 rfl rfl ?_
              refine mx_iret d_M_of_159 rfl ?_
              refine Or.inl ⟨hT, ?_, hL⟩
              unfold of_v
              subst e192
              refine congrArg (fun z => some (mI z)) ?_
              first
                | (rw [if_pos (by omega)])
                | (rw [if_neg (by omega), if_pos (by omega)])
                | (rw [if_neg (by omega), if_neg (by omega), if_pos (by omega), if_pos (by omega)])
                | (rw [if_neg (by omega), if_neg (by omega), if_pos (by omega), if_neg (by omega)])
                | (rw [if_neg (by omega), if_neg (by omega), if_neg (by omega)])
            · refine mx_aload_n 0 d_M_of_141 rfl rfl ?_
              refine mx_getPs 8 d_M_of_142 f_M_22 rfl rfl (hM.o) (hM.p8) ?_
              refine mx_iload_n 1 d_M_of_145 rfl rfl ?_
              refine mx_zald d_M_of_146 (hM.s8) (by omega) (by omega) ?_
              rw [e8]
              refine mx_if_eq 154 d_M_of_147 rfl (by rw [← e8]; exact hR _ _) (fun c_147 => ?_) (fun c_147 => ?_)
              · refine mx_iconst d_M_of_154 ?_
                refine mx_goto 159 d_M_of_155 rfl ?_
                refine mx_iret d_M_of_159 rfl ?_
                refine Or.inl ⟨hT, ?_, hL⟩
                unfold of_v
                subst e192
                refine congrArg (fun z => some (mI z)) ?_
                first
                  | (rw [if_pos (by omega)])
                  | (rw [if_neg (by omega), if_pos (by omega)])
                  | (rw [if_neg (by omega), if_neg (by omega), if_pos (by omega), if_pos (by omega)])
                  | (rw [if_neg (by omega), if_neg (by omega), if_pos (by omega), if_neg (by omega)])
                  | (rw [if_neg (by omega), if_neg (by omega), if_neg (by omega)])
              · refine mx_iconst d_M_of_150 ?_
                refine mx_goto 159 d_M_of_151 rfl ?_
                refine mx_iret d_M_of_159 rfl ?_
                refine Or.inl ⟨hT, ?_, hL⟩
                unfold of_v
                subst e192
                refine congrArg (fun z => some (mI z)) ?_
                first
                  | (rw [if_pos (by omega)])
                  | (rw [if_neg (by omega), if_pos (by omega)])
                  | (rw [if_neg (by omega), if_neg (by omega), if_pos (by omega), if_pos (by omega)])
                  | (rw [if_neg (by omega), if_neg (by omega), if_pos (by omega), if_neg (by omega)])
                  | (rw [if_neg (by omega), if_neg (by omega), if_neg (by omega)])
          · refine mx_aload_n 0 d_M_of_127 rfl rfl ?_
            refine mx_getPs 13 d_M_of_128 f_M_38 rfl rfl (hM.o) (hM.p13) ?_
            refine mx_iload_n 1 d_M_of_131 rfl rfl ?_
            refine mx_iald d_M_of_132 (hM.s13) (by omega) (by omega) ?_
            rw [e13]
            refine mx_goto 159 d_M_of_133 rfl ?_
            refine mx_iret d_M_of_159 rfl ?_
            refine Or.inl ⟨hT, ?_, hL⟩
            unfold of_v
            subst e192
            refine congrArg (fun z => some (mI z)) ?_
            first
              | (rw [if_pos (by omega)])
              | (rw [if_neg (by omega), if_pos (by omega)])
              | (rw [if_neg (by omega), if_neg (by omega), if_pos (by omega), if_pos (by omega)])
              | (rw [if_neg (by omega), if_neg (by omega), if_pos (by omega), if_neg (by omega)])
              | (rw [if_neg (by omega), if_neg (by omega), if_neg (by omega)])
        · refine mx_aload_n 0 d_M_of_113 rfl rfl ?_
          refine mx_getPs 9 d_M_of_114 f_M_26 rfl rfl (hM.o) (hM.p9) ?_
          refine mx_iload_n 1 d_M_of_117 rfl rfl ?_
          refine mx_iald d_M_of_118 (hM.s9) (by omega) (by omega) ?_
          rw [e9]
          refine mx_goto 159 d_M_of_119 rfl ?_
          refine mx_iret d_M_of_159 rfl ?_
          refine Or.inl ⟨hT, ?_, hL⟩
          unfold of_v
          subst e192
          refine congrArg (fun z => some (mI z)) ?_
          first
            | (rw [if_pos (by omega)])
            | (rw [if_neg (by omega), if_pos (by omega)])
            | (rw [if_neg (by omega), if_neg (by omega), if_pos (by omega), if_pos (by omega)])
            | (rw [if_neg (by omega), if_neg (by omega), if_pos (by omega), if_neg (by omega)])
            | (rw [if_neg (by omega), if_neg (by omega), if_neg (by omega)])
      · have ep := ep (by omega)
        refine mx_iload_n 3 d_M_of_47 rfl rfl ?_
        refine mj_cutB ((w = 3 ∧ c_pf (C d) q ≠ -1 ∨ w = 4 ∧ c_mk (C d) q = 1 ∨ w = 5 ∧ c_mk (C d) q = 2)) 101 ?_ (fun hJ_48 => ?_)
        · refine mx_iadd d_M_of_101 ?_
          refine mx_istore_n 3 d_M_of_102 rfl (Nat.le_of_ble_eq_true rfl) ?_
          refine mx_iinc 4 d_M_of_103 rfl (Nat.le_of_ble_eq_true rfl) ?_
          refine mx_goto 33 d_M_of_106 rfl ?_
          have h9 := ih (q + 1) (by omega) (by omega)
          rw [show 192 * d + ((q + 1 : Nat) : Int) = 192 * d + (q : Int) + 1 by omega] at h9
          exact h9
        · refine mx_iload_n 2 d_M_of_48 rfl rfl ?_
          refine mx_iconst d_M_of_49 ?_
          refine mx_icmp_ne 64 d_M_of_50 rfl (by first | assumption | exact hR _ _ | exact r32_mk (by omega) (by omega)) (by first | assumption | exact hR _ _ | exact r32_mk (by omega) (by omega)) (fun c_50 => ?_) (fun c_50 => ?_)
          · refine mx_iload_n 2 d_M_of_64 rfl rfl ?_
            refine mx_iconst d_M_of_65 ?_
            refine mx_icmp_ne 80 d_M_of_66 rfl (by first | assumption | exact hR _ _ | exact r32_mk (by omega) (by omega)) (by first | assumption | exact hR _ _ | exact r32_mk (by omega) (by omega)) (fun c_66 => ?_) (fun c_66 => ?_)
            · refine mx_iload_n 2 d_M_of_80 rfl rfl ?_
              refine mx_iconst d_M_of_81 ?_
              refine mx_icmp_ne 100 d_M_of_82 rfl (by first | assumption | exact hR _ _ | exact r32_mk (by omega) (by omega)) (by first | assumption | exact hR _ _ | exact r32_mk (by omega) (by omega)) (fun c_82 => ?_) (fun c_82 => ?_)
              · refine mx_iconst d_M_of_100 ?_
                first | exact mj_j1 hJ_48 (by omega) | exact mj_j0 hJ_48 (by omega)
              · refine mx_aload_n 0 d_M_of_85 rfl rfl ?_
                refine mx_getPs 19 d_M_of_86 f_M_53 rfl rfl (hM.o) (hM.p19) ?_
                refine mx_iload 4 d_M_of_89 rfl ?_
                refine mx_iald d_M_of_91 (hM.s19) (by omega) (by omega) ?_
                rw [ep.2]
                refine mx_iconst d_M_of_92 ?_
                refine mx_icmp_ne 100 d_M_of_93 rfl (by rw [← ep.2]; exact hR _ _) ((r32_mk (by omega) (by omega))) (fun c_93 => ?_) (fun c_93 => ?_)
                · refine mx_iconst d_M_of_100 ?_
                  first | exact mj_j1 hJ_48 (by omega) | exact mj_j0 hJ_48 (by omega)
                · refine mx_iconst d_M_of_96 ?_
                  refine mx_goto 101 d_M_of_97 rfl ?_
                  first | exact mj_j1 hJ_48 (by omega) | exact mj_j0 hJ_48 (by omega)
            · refine mx_aload_n 0 d_M_of_69 rfl rfl ?_
              refine mx_getPs 19 d_M_of_70 f_M_53 rfl rfl (hM.o) (hM.p19) ?_
              refine mx_iload 4 d_M_of_73 rfl ?_
              refine mx_iald d_M_of_75 (hM.s19) (by omega) (by omega) ?_
              rw [ep.2]
              refine mx_iconst d_M_of_76 ?_
              refine mx_icmp_eq 96 d_M_of_77 rfl (by rw [← ep.2]; exact hR _ _) ((r32_mk (by omega) (by omega))) (fun c_77 => ?_) (fun c_77 => ?_)
              · refine mx_iconst d_M_of_96 ?_
                refine mx_goto 101 d_M_of_97 rfl ?_
                first | exact mj_j1 hJ_48 (by omega) | exact mj_j0 hJ_48 (by omega)
              · refine mx_iload_n 2 d_M_of_80 rfl rfl ?_
                refine mx_iconst d_M_of_81 ?_
                refine mx_icmp_ne 100 d_M_of_82 rfl (by first | assumption | exact hR _ _ | exact r32_mk (by omega) (by omega)) (by first | assumption | exact hR _ _ | exact r32_mk (by omega) (by omega)) (fun c_82 => ?_) (fun c_82 => ?_)
                · refine mx_iconst d_M_of_100 ?_
                  first | exact mj_j1 hJ_48 (by omega) | exact mj_j0 hJ_48 (by omega)
                · refine mx_aload_n 0 d_M_of_85 rfl rfl ?_
                  refine mx_getPs 19 d_M_of_86 f_M_53 rfl rfl (hM.o) (hM.p19) ?_
                  refine mx_iload 4 d_M_of_89 rfl ?_
                  refine mx_iald d_M_of_91 (hM.s19) (by omega) (by omega) ?_
                  rw [ep.2]
                  refine mx_iconst d_M_of_92 ?_
                  refine mx_icmp_ne 100 d_M_of_93 rfl (by rw [← ep.2]; exact hR _ _) ((r32_mk (by omega) (by omega))) (fun c_93 => ?_) (fun c_93 => ?_)
                  · refine mx_iconst d_M_of_100 ?_
                    first | exact mj_j1 hJ_48 (by omega) | exact mj_j0 hJ_48 (by omega)
                  · refine mx_iconst d_M_of_96 ?_
                    refine mx_goto 101 d_M_of_97 rfl ?_
                    first | exact mj_j1 hJ_48 (by omega) | exact mj_j0 hJ_48 (by omega)
          · refine mx_aload_n 0 d_M_of_53 rfl rfl ?_
            refine mx_getPs 18 d_M_of_54 f_M_50 rfl rfl (hM.o) (hM.p18) ?_
            refine mx_iload 4 d_M_of_57 rfl ?_
            refine mx_iald d_M_of_59 (hM.s18) (by omega) (by omega) ?_
            rw [ep.1]
            refine mx_iconst d_M_of_60 ?_
            refine mx_icmp_ne 96 d_M_of_61 rfl (by rw [← ep.1]; exact hR _ _) ((r32_mk (by omega) (by omega))) (fun c_61 => ?_) (fun c_61 => ?_)
            · refine mx_iconst d_M_of_96 ?_
              refine mx_goto 101 d_M_of_97 rfl ?_
              first | exact mj_j1 hJ_48 (by omega) | exact mj_j0 hJ_48 (by omega)
            · refine mx_iload_n 2 d_M_of_64 rfl rfl ?_
              refine mx_iconst d_M_of_65 ?_
              refine mx_icmp_ne 80 d_M_of_66 rfl (by first | assumption | exact hR _ _ | exact r32_mk (by omega) (by omega)) (by first | assumption | exact hR _ _ | exact r32_mk (by omega) (by omega)) (fun c_66 => ?_) (fun c_66 => ?_)
              · refine mx_iload_n 2 d_M_of_80 rfl rfl ?_
                refine mx_iconst d_M_of_81 ?_
                refine mx_icmp_ne 100 d_M_of_82 rfl (by first | assumption | exact hR _ _ | exact r32_mk (by omega) (by omega)) (by first | assumption | exact hR _ _ | exact r32_mk (by omega) (by omega)) (fun c_82 => ?_) (fun c_82 => ?_)
                · refine mx_iconst d_M_of_100 ?_
                  first | exact mj_j1 hJ_48 (by omega) | exact mj_j0 hJ_48 (by omega)
                · refine mx_aload_n 0 d_M_of_85 rfl rfl ?_
                  refine mx_getPs 19 d_M_of_86 f_M_53 rfl rfl (hM.o) (hM.p19) ?_
                  refine mx_iload 4 d_M_of_89 rfl ?_
                  refine mx_iald d_M_of_91 (hM.s19) (by omega) (by omega) ?_
                  rw [ep.2]
                  refine mx_iconst d_M_of_92 ?_
                  refine mx_icmp_ne 100 d_M_of_93 rfl (by rw [← ep.2]; exact hR _ _) ((r32_mk (by omega) (by omega))) (fun c_93 => ?_) (fun c_93 => ?_)
                  · refine mx_iconst d_M_of_100 ?_
                    first | exact mj_j1 hJ_48 (by omega) | exact mj_j0 hJ_48 (by omega)
                  · refine mx_iconst d_M_of_96 ?_
                    refine mx_goto 101 d_M_of_97 rfl ?_
                    first | exact mj_j1 hJ_48 (by omega) | exact mj_j0 hJ_48 (by omega)
              · refine mx_aload_n 0 d_M_of_69 rfl rfl ?_
                refine mx_getPs 19 d_M_of_70 f_M_53 rfl rfl (hM.o) (hM.p19) ?_
                refine mx_iload 4 d_M_of_73 rfl ?_
                refine mx_iald d_M_of_75 (hM.s19) (by omega) (by omega) ?_
                rw [ep.2]
                refine mx_iconst d_M_of_76 ?_
                refine mx_icmp_eq 96 d_M_of_77 rfl (by rw [← ep.2]; exact hR _ _) ((r32_mk (by omega) (by omega))) (fun c_77 => ?_) (fun c_77 => ?_)
                · refine mx_iconst d_M_of_96 ?_
                  refine mx_goto 101 d_M_of_97 rfl ?_
                  first | exact mj_j1 hJ_48 (by omega) | exact mj_j0 hJ_48 (by omega)
                · refine mx_iload_n 2 d_M_of_80 rfl rfl ?_
                  refine mx_iconst d_M_of_81 ?_
                  refine mx_icmp_ne 100 d_M_of_82 rfl (by first | assumption | exact hR _ _ | exact r32_mk (by omega) (by omega)) (by first | assumption | exact hR _ _ | exact r32_mk (by omega) (by omega)) (fun c_82 => ?_) (fun c_82 => ?_)
                  · refine mx_iconst d_M_of_100 ?_
                    first | exact mj_j1 hJ_48 (by omega) | exact mj_j0 hJ_48 (by omega)
                  · refine mx_aload_n 0 d_M_of_85 rfl rfl ?_
                    refine mx_getPs 19 d_M_of_86 f_M_53 rfl rfl (hM.o) (hM.p19) ?_
                    refine mx_iload 4 d_M_of_89 rfl ?_
                    refine mx_iald d_M_of_91 (hM.s19) (by omega) (by omega) ?_
                    rw [ep.2]
                    refine mx_iconst d_M_of_92 ?_
                    refine mx_icmp_ne 100 d_M_of_93 rfl (by rw [← ep.2]; exact hR _ _) ((r32_mk (by omega) (by omega))) (fun c_93 => ?_) (fun c_93 => ?_)
                    · refine mx_iconst d_M_of_100 ?_
                      first | exact mj_j1 hJ_48 (by omega) | exact mj_j0 hJ_48 (by omega)
                    · refine mx_iconst d_M_of_96 ?_
                      refine mx_goto 101 d_M_of_97 rfl ?_
                      first | exact mj_j1 hJ_48 (by omega) | exact mj_j0 hJ_48 (by omega)
    refine mx_iconst d_M_of_24 ?_
    refine mx_istore_n 3 d_M_of_25 rfl (Nat.le_of_ble_eq_true rfl) ?_
    refine mx_sipush d_M_of_26 (by decide) ?_
    refine mx_iload_n 1 d_M_of_29 rfl rfl ?_
    refine mx_imul d_M_of_30 ?_
    refine mx_istore 4 d_M_of_31 (Nat.le_of_ble_eq_true rfl) ?_
    have h9 := hl 0 (by omega)
    rw [show 192 * d + ((0 : Nat) : Int) = 192 * d by omega] at h9
    exact h9
  · refine mx_iconst d_M_of_18 ?_
    refine mx_iret d_M_of_19 rfl ?_
    exact Or.inr ⟨by omega, rfl, rfl⟩
end MODQ
