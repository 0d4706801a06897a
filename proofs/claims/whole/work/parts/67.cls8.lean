/-! THE HOUSE, 8: strokes and paints of a drawing -/
section CLS8
variable {G : mj_G} {A : mj_M}
theorem ct_place2 {m d x : Int} (hD : DS A m) (hd : 0 ≤ d ∧ d < m) (hn : 0 ≤ (gI A (1000 + 100 * d) 6) ∧ (gI A (1000 + 100 * d) 6) ≤ 8) (hx : r32 x) : mj_Cal G n_D_placeOfStroke [mR (some (1000 + 100 * d)), mI x] A (fun r A' => r = some (mI (c_f (ch_c A d) x)) ∧ A' = A) mj_no := by
  refine (ct_placeOfStroke (k := sk A d) (hD.o d hd.1 hd.2) rfl hn.2 (hD.p5 d hd.1 hd.2) (hD.s5 d hd.1 hd.2) (fun i i0 i1 => ⟨hD.e5 d hd.1 hd.2 i i0 (by omega), hD.ks d hd.1 hd.2 i i0 (by omega)⟩) hx).mono (fun r A' h => ?_) (fun _ _ h => h)
  obtain ⟨e, ⟨i, h1, h2, h3, h4, h5⟩ | ⟨h1, h2⟩⟩ := h
  · exact ⟨by rw [h1, show c_f (ch_c A d) x = i from mj_fx_s (nm := c_N (ch_c A d)) (by omega) h2 h4 (fun j j0 j1 => h5 j j0 j1) _ (by show i < 0 + (((gI A (1000 + 100 * d) 6)).toNat : Int); omega)], e⟩
  · exact ⟨by rw [h1, show c_f (ch_c A d) x = -1 from mj_fx_n (nm := c_N (ch_c A d)) _ (fun j j0 j1 => h2 j j0 (by replace j1 : j < 0 + (((gI A (1000 + 100 * d) 6)).toNat : Int) := j1; omega))], e⟩
theorem ct_strokeToDraw {m d x : Int} (hD : DS A m) (hd : 0 ≤ d ∧ d < m) (hn : 0 ≤ (gI A (1000 + 100 * d) 6) ∧ (gI A (1000 + 100 * d) 6) ≤ 8) (hpg : c_f (ch_c A d) x = -1 → (gI A (1000 + 100 * d) 6) < 8) (hx : r32 x) : mj_Cal G n_D_strokeToDraw [mR (some (1000 + 100 * d)), mI x] A (fun r A' => (c_f (ch_c A d) x ≠ -1 ∧ r = some (mR (some (sk A d (c_f (ch_c A d) x)))) ∧ A' = A) ∨ (c_f (ch_c A d) x = -1 ∧ r = some (mR (some (sk A d (gI A (1000 + 100 * d) 6)))) ∧ A' = sI (sI A (sk A d (gI A (1000 + 100 * d) 6)) 0 x) (1000 + 100 * d) 6 ((gI A (1000 + 100 * d) 6) + 1))) mj_no := by
  refine mj_bodyK 0 0 [some (mR (some (1000 + 100 * d))), some (mI x), none] rfl rfl rfl (by decide +kernel) (Nat.le_of_ble_eq_true rfl) (by simp) rfl ?_
  have hr : c_f (ch_c A d) x = -1 ∨ (0 ≤ c_f (ch_c A d) x ∧ c_f (ch_c A d) x < (gI A (1000 + 100 * d) 6) ∧ c_N (ch_c A d) (c_f (ch_c A d) x) = x) := c_f_r x
  refine mx_R fun hR => ?_
  refine mx_aload_n 0 d_D_strokeToDraw_0 rfl rfl ?_
  refine mx_iload_n 1 d_D_strokeToDraw_1 rfl rfl ?_
  refine mx_callV (kc := 0) (ks := 0) (N := n_D_placeOfStroke) (as := [_]) (ci := 0) d_D_strokeToDraw_2 s_D_55 ⟨Nat.le_of_ble_eq_true rfl, Nat.le_of_ble_eq_true rfl⟩ rfl (mj_wt_8 (Nat.le_of_ble_eq_true rfl)) (hD.o _ (by omega) (by omega)) ⟨_, rfl, rfl⟩ (ct_place2 hD hd hn hx) (fun r_2 A_2 h_2 => ?_) (fun E_2 A_x h_2 => ?_)
  rotate_left
  · exact h_2.elim
  obtain ⟨rfl, hA_2⟩ := h_2
  obtain rfl := hA_2.symm
  clear hA_2
  refine mx_R fun hR_1 => ?_
  refine mx_istore_n 2 d_D_strokeToDraw_5 rfl (Nat.le_of_ble_eq_true rfl) ?_
  refine mx_iload_n 2 d_D_strokeToDraw_6 rfl rfl ?_
  refine mx_iconst d_D_strokeToDraw_7 ?_
  refine mx_icmp_ne 38 d_D_strokeToDraw_8 rfl (by first | assumption | exact hR_1 _ _ | exact hR _ _ | exact r32_mk (by omega) (by omega)) (by first | assumption | exact hR_1 _ _ | exact hR _ _ | exact r32_mk (by omega) (by omega)) (fun c_8 => ?_) (fun c_8 => ?_)
  · refine mx_aload_n 0 d_D_strokeToDraw_38 rfl rfl ?_
    refine mx_getPs 5 d_D_strokeToDraw_39 f_D_30 rfl rfl (hD.o _ (by omega) (by omega)) (hD.p5 _ (by omega) (by omega)) ?_
    refine mx_iload_n 2 d_D_strokeToDraw_42 rfl rfl ?_
    refine mx_aalds d_D_strokeToDraw_43 (hD.s5 _ (by omega) (by omega)) (by decide) (by omega) (by omega) (hD.e5 d hd.1 hd.2 _ (by omega) (by omega)) ?_
    refine mx_aret d_D_strokeToDraw_44 rfl ?_
    first | exact Or.inl ⟨by assumption, rfl, rfl⟩ | exact Or.inr ⟨by assumption, rfl, rfl⟩
  · have h8 := hpg (by assumption)
    refine mx_aload_n 0 d_D_strokeToDraw_11 rfl rfl ?_
    refine mx_getI 6 d_D_strokeToDraw_12 f_D_49 rfl rfl (hD.o _ (by omega) (by omega)) ?_
    refine mx_bipush d_D_strokeToDraw_15 (by decide) ?_
    refine mx_min d_D_strokeToDraw_17 s_D_59 (Nat.le_of_ble_eq_true rfl) (mj_wt_13 (Nat.le_of_ble_eq_true rfl)) (by first | assumption | exact hR_1 _ _ | exact hR _ _ | exact r32_mk (by omega) (by omega)) (by first | assumption | exact hR_1 _ _ | exact hR _ _ | exact r32_mk (by omega) (by omega)) ?_
    rw [show (if (7 : Int) < (gI A (1000 + 100 * d) 6) then (7 : Int) else (gI A (1000 + 100 * d) 6)) = (gI A (1000 + 100 * d) 6) by omega]
    refine mx_istore_n 2 d_D_strokeToDraw_20 rfl (Nat.le_of_ble_eq_true rfl) ?_
    refine mx_aload_n 0 d_D_strokeToDraw_21 rfl rfl ?_
    refine mx_getPs 5 d_D_strokeToDraw_22 f_D_30 rfl rfl (hD.o _ (by omega) (by omega)) (hD.p5 _ (by omega) (by omega)) ?_
    refine mx_iload_n 2 d_D_strokeToDraw_25 rfl rfl ?_
    refine mx_aalds d_D_strokeToDraw_26 (hD.s5 _ (by omega) (by omega)) (by decide) (by omega) (by omega) (hD.e5 d hd.1 hd.2 _ (by omega) (by omega)) ?_
    refine mx_iload_n 1 d_D_strokeToDraw_27 rfl rfl ?_
    refine mx_putI 0 d_D_strokeToDraw_28 f_D_52 rfl (hD.ks d hd.1 hd.2 _ (by omega) (by omega)) (Or.inl rfl) (Or.inl rfl) (hx) ?_
    refine mx_R fun hR_2 => ?_
    refine mx_aload_n 0 d_D_strokeToDraw_31 rfl rfl ?_
    refine mx_iload_n 2 d_D_strokeToDraw_32 rfl rfl ?_
    refine mx_iconst d_D_strokeToDraw_33 ?_
    refine mx_iadd d_D_strokeToDraw_34 ?_
    refine mx_putI 6 d_D_strokeToDraw_35 f_D_49 rfl (hD.o _ (by omega) (by omega)) (Or.inl rfl) (Or.inl rfl) (by first | assumption | exact hR_2 _ _ | exact hR_1 _ _ | exact hR _ _ | exact r32_mk (by omega) (by omega)) ?_
    refine mx_R fun hR_3 => ?_
    refine mx_aload_n 0 d_D_strokeToDraw_38 rfl rfl ?_
    refine mx_getPs 5 d_D_strokeToDraw_39 f_D_30 rfl rfl (hD.o _ (by omega) (by omega)) (hD.p5 _ (by omega) (by omega)) ?_
    refine mx_iload_n 2 d_D_strokeToDraw_42 rfl rfl ?_
    refine mx_aalds d_D_strokeToDraw_43 (hD.s5 _ (by omega) (by omega)) (by decide) (by omega) (by omega) (hD.e5 d hd.1 hd.2 _ (by omega) (by omega)) ?_
    refine mx_aret d_D_strokeToDraw_44 rfl ?_
    first | exact Or.inl ⟨by assumption, rfl, rfl⟩ | exact Or.inr ⟨by assumption, rfl, rfl⟩
theorem ct_addPaint {m d p c : Int} (hD : DS A m) (hd : 0 ≤ d ∧ d < m) (hn : 0 ≤ gI A (1000 + 100 * d) 9 ∧ gI A (1000 + 100 * d) 9 < 6) (hp : r32 p) (hc : r32 c) : mj_Cal G n_D_addPaint [mR (some (1000 + 100 * d)), mI p, mI c] A (fun r A' => r = none ∧ A' = sI (sI (sI A ((1000 + 100 * d) + 10) (gI A (1000 + 100 * d) 9) p) ((1000 + 100 * d) + 11) (gI A (1000 + 100 * d) 9) c) (1000 + 100 * d) 9 (gI A (1000 + 100 * d) 9 + 1)) mj_no := by
  refine mj_bodyK 0 0 [some (mR (some (1000 + 100 * d))), some (mI p), some (mI c)] rfl rfl rfl (by decide +kernel) (Nat.le_of_ble_eq_true rfl) (by simp) rfl ?_
  have e1 : ∀ v w, gI (sI A ((1000 + 100 * d) + 10) v w) (1000 + 100 * d) 9 = gI A (1000 + 100 * d) 9 := fun v w => by rw [gI_sI, if_neg (by omega)]
  have e2 : ∀ v w v' w', gI (sI (sI A ((1000 + 100 * d) + 10) v w) ((1000 + 100 * d) + 11) v' w') (1000 + 100 * d) 9 = gI A (1000 + 100 * d) 9 := fun v w v' w' => by rw [gI_sI, if_neg (by omega), gI_sI, if_neg (by omega)]
  refine mx_R fun hR => ?_
  refine mx_aload_n 0 d_D_addPaint_0 rfl rfl ?_
  refine mx_getI 9 d_D_addPaint_1 f_D_65 rfl rfl (hD.o _ (by omega) (by omega)) ?_
  refine mx_bipush d_D_addPaint_4 (by decide) ?_
  refine mx_icmp_ge 39 d_D_addPaint_6 rfl (by first | assumption | exact hR _ _ | exact r32_mk (by omega) (by omega)) (by first | assumption | exact hR _ _ | exact r32_mk (by omega) (by omega)) (fun c_6 => ?_) (fun c_6 => ?_)
  · refine mx_vret d_D_addPaint_39 rfl ?_
    first | exact ⟨rfl, rfl⟩ | (exfalso; omega)
  · refine mx_aload_n 0 d_D_addPaint_9 rfl rfl ?_
    refine mx_getPs 7 d_D_addPaint_10 f_D_35 rfl rfl (hD.o _ (by omega) (by omega)) (hD.p7 _ (by omega) (by omega)) ?_
    refine mx_aload_n 0 d_D_addPaint_13 rfl rfl ?_
    refine mx_getI 9 d_D_addPaint_14 f_D_65 rfl rfl (hD.o _ (by omega) (by omega)) ?_
    refine mx_iload_n 1 d_D_addPaint_17 rfl rfl ?_
    refine mx_iast d_D_addPaint_18 (hD.s7 _ (by omega) (by omega)) (by omega) (by omega) (by first | assumption | exact hR _ _ | exact r32_mk (by omega) (by omega)) ?_
    refine mx_R fun hR_1 => ?_
    refine mx_aload_n 0 d_D_addPaint_19 rfl rfl ?_
    refine mx_getPs 8 d_D_addPaint_20 f_D_39 rfl rfl (hD.o _ (by omega) (by omega)) (hD.p8 _ (by omega) (by omega)) ?_
    refine mx_aload_n 0 d_D_addPaint_23 rfl rfl ?_
    refine mx_getI 9 d_D_addPaint_24 f_D_65 rfl rfl (hD.o _ (by omega) (by omega)) ?_
    rw [e1]
    refine mx_iload_n 2 d_D_addPaint_27 rfl rfl ?_
    refine mx_iast d_D_addPaint_28 (hD.s8 _ (by omega) (by omega)) (by omega) (by omega) (by first | assumption | exact hR_1 _ _ | exact hR _ _ | exact r32_mk (by omega) (by omega)) ?_
    refine mx_R fun hR_2 => ?_
    refine mx_aload_n 0 d_D_addPaint_29 rfl rfl ?_
    refine mx_dup d_D_addPaint_30 (fun z h => by cases h) ?_
    refine mx_getI 9 d_D_addPaint_31 f_D_65 rfl rfl (hD.o _ (by omega) (by omega)) ?_
    rw [e2]
    refine mx_iconst d_D_addPaint_34 ?_
    refine mx_iadd d_D_addPaint_35 ?_
    refine mx_putI 9 d_D_addPaint_36 f_D_65 rfl (hD.o _ (by omega) (by omega)) (Or.inl rfl) (Or.inl rfl) (by first | assumption | exact hR_2 _ _ | exact hR_1 _ _ | exact hR _ _ | exact r32_mk (by omega) (by omega)) ?_
    refine mx_R fun hR_3 => ?_
    refine mx_vret d_D_addPaint_39 rfl ?_
    first | exact ⟨rfl, rfl⟩ | (exfalso; omega)
/-- a whole row of references anew -/
def sPF (A : mj_M) (c : Int) (f : Int → Option Int) : mj_M := (A.1, A.2.1, fun c' i' => if c' = c then f i' else A.2.2 c' i')
theorem gP_sPF {c c' i' : Int} {f : Int → Option Int} : gP (sPF A c f) c' i' = if c' = c then f i' else gP A c' i' := rfl
theorem sP_sPF {c i : Int} {v : Option Int} {f : Int → Option Int} : sP (sPF A c f) c i v = sPF A c (fun x => if x = i then v else f x) := mj_ext3 (fun _ => rfl) (fun _ _ => rfl) (fun c' i' => by
  rw [gP_sP, gP_sPF, gP_sPF]
  by_cases e : c' = c
  · simp [e]
  · simp [e])
theorem sPF_id {c : Int} {f : Int → Option Int} (h : ∀ i, f i = gP A c i) : sPF A c f = A := mj_ext3 (fun _ => rfl) (fun _ _ => rfl) (fun c' i' => by
  rw [gP_sPF]
  by_cases e : c' = c
  · rw [if_pos e, h, e]
  · rw [if_neg e])
/-- stroke i is taken away: it goes behind the others -/
def tk_m (A : mj_M) (d i : Int) : mj_M := sPF (sI A (1000 + 100 * d) 6 ((gI A (1000 + 100 * d) 6) - 1)) ((1000 + 100 * d) + 1) (fun x => if x = (gI A (1000 + 100 * d) 6) - 1 then some (sk A d i) else if i ≤ x ∧ x < (gI A (1000 + 100 * d) 6) - 1 then gP A ((1000 + 100 * d) + 1) (x + 1) else gP A ((1000 + 100 * d) + 1) x)
theorem ct_takeStroke {m d x : Int} (hD : DS A m) (hd : 0 ≤ d ∧ d < m) (hn : 0 ≤ (gI A (1000 + 100 * d) 6) ∧ (gI A (1000 + 100 * d) 6) ≤ 8) (hx : r32 x) : mj_Cal G n_D_takeStroke [mR (some (1000 + 100 * d)), mI x] A (fun r A' => (c_f (ch_c A d) x ≠ -1 ∧ r = some (mI 1) ∧ A' = tk_m A d (c_f (ch_c A d) x)) ∨ (c_f (ch_c A d) x = -1 ∧ r = some (mI 0) ∧ A' = A)) mj_no := by
  refine mj_bodyK 0 0 [some (mR (some (1000 + 100 * d))), some (mI x), none, none, none] rfl rfl rfl (by decide +kernel) (Nat.le_of_ble_eq_true rfl) (by simp) rfl ?_
  have hr : c_f (ch_c A d) x = -1 ∨ (0 ≤ c_f (ch_c A d) x ∧ c_f (ch_c A d) x < (gI A (1000 + 100 * d) 6) ∧ c_N (ch_c A d) (c_f (ch_c A d) x) = x) := c_f_r x
  have hl : c_f (ch_c A d) x ≠ -1 → ∀ j : Int, (c_f (ch_c A d) x ≤ j ∧ j ≤ (gI A (1000 + 100 * d) 6) - 1) → mj_X G n_D_takeStroke (mj_Qm G n_D_takeStroke (fun r A' => (c_f (ch_c A d) x ≠ -1 ∧ r = some (mI 1) ∧ A' = tk_m A d (c_f (ch_c A d) x)) ∨ (c_f (ch_c A d) x = -1 ∧ r = some (mI 0) ∧ A' = A)) mj_no) (sPF (sI A (1000 + 100 * d) 6 ((gI A (1000 + 100 * d) 6) - 1)) ((1000 + 100 * d) + 1) (fun y => if c_f (ch_c A d) x ≤ y ∧ y < j then gP A ((1000 + 100 * d) + 1) (y + 1) else gP A ((1000 + 100 * d) + 1) y)) 0 0 33 [some (mR (some (1000 + 100 * d))), some (mI x), some (mI (c_f (ch_c A d) x)), some (mR (some (sk A d (c_f (ch_c A d) x)))), some (mI j)] [] := by
    intro hne
    refine mj_loop _ (fun j => (8 - j).toNat) _ ?_
    intro j hj ih
    have hr2 := hr.resolve_left hne
    have e6 : ∀ f, gI (sPF (sI A (1000 + 100 * d) 6 ((gI A (1000 + 100 * d) 6) - 1)) ((1000 + 100 * d) + 1) f) (1000 + 100 * d) 6 = (gI A (1000 + 100 * d) 6) - 1 := fun f => by
      show (if (1000 + 100 * d) = (1000 + 100 * d) ∧ (6 : Int) = 6 then (gI A (1000 + 100 * d) 6) - 1 else _) = _
      rw [if_pos ⟨rfl, rfl⟩]
    have hp5 : ∀ f, gP (sPF (sI A (1000 + 100 * d) 6 ((gI A (1000 + 100 * d) 6) - 1)) ((1000 + 100 * d) + 1) f) (1000 + 100 * d) 5 = some ((1000 + 100 * d) + 1) := fun f => by
      rw [gP_sPF, if_neg (by omega)]
      exact hD.p5 d hd.1 hd.2
    refine mx_R fun hR => ?_
    refine mx_iload 4 d_D_takeStroke_33 rfl ?_
    refine mx_aload_n 0 d_D_takeStroke_35 rfl rfl ?_
    refine mx_getI 6 d_D_takeStroke_36 f_D_49 rfl rfl (hD.o _ (by omega) (by omega)) ?_
    rw [e6]
    refine mx_icmp_ge 64 d_D_takeStroke_39 rfl (by first | assumption | exact hR _ _ | exact r32_mk (by omega) (by omega)) (by first | assumption | exact hR _ _ | exact r32_mk (by omega) (by omega)) (fun c_39 => ?_) (fun c_39 => ?_)
    · refine mx_aload_n 0 d_D_takeStroke_64 rfl rfl ?_
      refine mx_getPs 5 d_D_takeStroke_65 f_D_30 rfl rfl (hD.o _ (by omega) (by omega)) (hp5 _) ?_
      refine mx_aload_n 0 d_D_takeStroke_68 rfl rfl ?_
      refine mx_getI 6 d_D_takeStroke_69 f_D_49 rfl rfl (hD.o _ (by omega) (by omega)) ?_
      rw [e6]
      refine mx_aload_n 3 d_D_takeStroke_72 rfl rfl ?_
      refine mx_aast d_D_takeStroke_73 (hD.s5 _ (by omega) (by omega)) (by decide) (by omega) (by omega) (hD.ks d hd.1 hd.2 _ (by omega) (by omega)) ?_
      refine mx_R fun hR_1 => ?_
      rw [sP_sPF]
      refine mx_iconst d_D_takeStroke_74 ?_
      refine mx_zret d_D_takeStroke_75 rfl (by first | exact Or.inl rfl | exact Or.inr rfl | omega) ?_
      refine Or.inl ⟨hne, rfl, ?_⟩
      rw [show j = (gI A (1000 + 100 * d) 6) - 1 by omega]
      rfl
    · refine mx_aload_n 0 d_D_takeStroke_42 rfl rfl ?_
      refine mx_getPs 5 d_D_takeStroke_43 f_D_30 rfl rfl (hD.o _ (by omega) (by omega)) (hp5 _) ?_
      refine mx_iload 4 d_D_takeStroke_46 rfl ?_
      refine mx_aload_n 0 d_D_takeStroke_48 rfl rfl ?_
      refine mx_getPs 5 d_D_takeStroke_49 f_D_30 rfl rfl (hD.o _ (by omega) (by omega)) (hp5 _) ?_
      refine mx_iload 4 d_D_takeStroke_52 rfl ?_
      refine mx_iconst d_D_takeStroke_54 ?_
      refine mx_iadd d_D_takeStroke_55 ?_
      refine mx_aalds d_D_takeStroke_56 (hD.s5 _ (by omega) (by omega)) (by decide) (by omega) (by omega) ((by rw [gP_sPF, if_pos rfl, if_neg (by omega)]; exact hD.e5 d hd.1 hd.2 (j + 1) (by omega) (by omega))) ?_
      refine mx_aast d_D_takeStroke_57 (hD.s5 _ (by omega) (by omega)) (by decide) (by omega) (by omega) (hD.ks d hd.1 hd.2 (j + 1) (by omega) (by omega)) ?_
      refine mx_R fun hR_2 => ?_
      rw [sP_sPF]
      refine mx_iinc 4 d_D_takeStroke_58 rfl (Nat.le_of_ble_eq_true rfl) ?_
      refine mx_goto 33 d_D_takeStroke_61 rfl ?_
      refine mj_Xeq ?_ (ih (j + 1) ⟨by omega, by omega⟩ (by omega))
      congr 1
      funext y
      by_cases e : y = j
      · rw [if_pos e, if_pos (by omega), e, hD.e5 d hd.1 hd.2 (j + 1) (by omega) (by omega)]
      · rw [if_neg e]
        by_cases e2 : c_f (ch_c A d) x ≤ y ∧ y < j
        · rw [if_pos e2, if_pos (by omega)]
        · rw [if_neg e2, if_neg (by omega)]
  refine mx_R fun hR => ?_
  refine mx_aload_n 0 d_D_takeStroke_0 rfl rfl ?_
  refine mx_iload_n 1 d_D_takeStroke_1 rfl rfl ?_
  refine mx_callV (kc := 0) (ks := 0) (N := n_D_placeOfStroke) (as := [_]) (ci := 0) d_D_takeStroke_2 s_D_55 ⟨Nat.le_of_ble_eq_true rfl, Nat.le_of_ble_eq_true rfl⟩ rfl (mj_wt_8 (Nat.le_of_ble_eq_true rfl)) (hD.o _ (by omega) (by omega)) ⟨_, rfl, rfl⟩ (ct_place2 hD hd hn hx) (fun r_2 A_2 h_2 => ?_) (fun E_2 A_x h_2 => ?_)
  rotate_left
  · exact h_2.elim
  obtain ⟨rfl, hA_2⟩ := h_2
  obtain rfl := hA_2.symm
  clear hA_2
  refine mx_R fun hR_1 => ?_
  refine mx_istore_n 2 d_D_takeStroke_5 rfl (Nat.le_of_ble_eq_true rfl) ?_
  refine mx_iload_n 2 d_D_takeStroke_6 rfl rfl ?_
  refine mx_iconst d_D_takeStroke_7 ?_
  refine mx_icmp_ne 13 d_D_takeStroke_8 rfl (by first | assumption | exact hR_1 _ _ | exact hR _ _ | exact r32_mk (by omega) (by omega)) (by first | assumption | exact hR_1 _ _ | exact hR _ _ | exact r32_mk (by omega) (by omega)) (fun c_8 => ?_) (fun c_8 => ?_)
  · refine mx_aload_n 0 d_D_takeStroke_13 rfl rfl ?_
    refine mx_getPs 5 d_D_takeStroke_14 f_D_30 rfl rfl (hD.o _ (by omega) (by omega)) (hD.p5 _ (by omega) (by omega)) ?_
    refine mx_iload_n 2 d_D_takeStroke_17 rfl rfl ?_
    refine mx_aalds d_D_takeStroke_18 (hD.s5 _ (by omega) (by omega)) (by decide) (by omega) (by omega) (hD.e5 d hd.1 hd.2 _ (by omega) (by omega)) ?_
    refine mx_astore_n 3 d_D_takeStroke_19 rfl (Nat.le_of_ble_eq_true rfl) ?_
    refine mx_aload_n 0 d_D_takeStroke_20 rfl rfl ?_
    refine mx_dup d_D_takeStroke_21 (fun z h => by cases h) ?_
    refine mx_getI 6 d_D_takeStroke_22 f_D_49 rfl rfl (hD.o _ (by omega) (by omega)) ?_
    refine mx_iconst d_D_takeStroke_25 ?_
    refine mx_isub d_D_takeStroke_26 ?_
    refine mx_putI 6 d_D_takeStroke_27 f_D_49 rfl (hD.o _ (by omega) (by omega)) (Or.inl rfl) (Or.inl rfl) (by first | assumption | exact hR_1 _ _ | exact hR _ _ | exact r32_mk (by omega) (by omega)) ?_
    refine mx_R fun hR_2 => ?_
    refine mx_iload_n 2 d_D_takeStroke_30 rfl rfl ?_
    refine mx_istore 4 d_D_takeStroke_31 (Nat.le_of_ble_eq_true rfl) ?_
    refine mj_Xeq (sPF_id fun y => ?_).symm (hl (by assumption) (c_f (ch_c A d) x) ⟨by omega, by omega⟩)
    rw [if_neg (by omega)]
    rfl
  · refine mx_iconst d_D_takeStroke_11 ?_
    refine mx_zret d_D_takeStroke_12 rfl (by first | exact Or.inl rfl | exact Or.inr rfl | omega) ?_
    exact Or.inr ⟨by assumption, rfl, rfl⟩
end CLS8
