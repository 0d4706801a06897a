/-! THE REFERENCE, 11: a whole filling -/
section MODB
variable {G : mj_G} {A : mj_M}
theorem mj_sum_z : ∀ n : Nat, mj_sum (fun _ => 0) n = 0
  | 0 => rfl
  | n + 1 => by rw [mj_sum, mj_sum_z n]; rfl
theorem bf_i0 {op : Int → Prop} {a : Int} {w : Int → Int} (h : ¬ op a) : bf_ok op a (fun _ => 0) w 0 0 :=
  ⟨(mj_sum_z 192).symm, fun _ => Or.inl rfl, fun q hq => absurd hq (by show ¬ (0 : Int) = 1; omega), fun i i0 i1 => by omega, fun q hq => absurd hq (by show ¬ (0 : Int) = 1; omega), fun i i0 i1 => by omega, fun h2 => absurd h2 h⟩
theorem bf_i1 {op : Int → Prop} {a : Int} {w : Int → Int} (ha : 0 ≤ a ∧ a < 192) (h : op a) : bf_ok op a (fun q => if q = a then 1 else 0) (fun i => if i = 0 then a else w i) 1 0 := by
  refine ⟨?_, fun q => ?_, fun q hq => ?_, fun i i0 i1 => ?_, fun q hq => ⟨0, by omega, by omega, ?_⟩, fun i i0 i1 => by omega, fun _ => if_pos rfl⟩
  · have h1 := mj_sum_set (f := fun _ => 0) (p := a) (v := 1) 192 ha.1 (by omega)
    rw [h1, mj_sum_z]; rfl
  · show (if q = a then (1 : Int) else 0) = 0 ∨ (if q = a then (1 : Int) else 0) = 1
    omega
  · replace hq : (if q = a then (1 : Int) else 0) = 1 := hq
    have e : q = a := by omega
    rw [e]; exact bf_base h
  · have e : i = 0 := by omega
    show (if (if i = 0 then a else w i) = a then (1 : Int) else 0) = 1
    rw [if_pos e, if_pos rfl]
  · replace hq : (if q = a then (1 : Int) else 0) = 1 := hq
    show (if (0 : Int) = 0 then a else w 0) = q
    rw [if_pos rfl]; omega
def fi_in (B : mj_M) (d a v k : Int) (g c w : Int → Int) (n : Int) : Prop := bf_ok (fi_op B d) a c w n k ∧ (0 ≤ k ∧ k ≤ n) ∧ (∀ q, ¬ (192 * d ≤ q ∧ q < 192 * d + 192) → g q = gI B 218 q) ∧ (∀ i, 0 ≤ i → i < k → g (192 * d + w i) = v) ∧ (∀ p, 0 ≤ p → p < 192 → c p ≠ 1 → g (192 * d + p) = gI B 218 (192 * d + p)) ∧ (∀ q, ¬ (0 ≤ q ∧ q < 192) → c q = 0)
theorem cm_fills_l {B : mj_M} {d a v : Int} {P : Option mj_V → mj_M → Prop} (hM : MS B) (hd : 0 ≤ d ∧ d < 16) (hv : r32 v) (hP : ∀ g c w n, fi_in B d a v n g c w n → P none (fi_m B g c w n)) :
    ∀ q : Int × (Int → Int) × (Int → Int) × (Int → Int) × Int × Option mj_V × Option mj_V, fi_in B d a v q.1 q.2.1 q.2.2.1 q.2.2.2.1 q.2.2.2.2.1 → mj_X G n_M_fills (mj_Qm G n_M_fills P mj_no) (fi_m B q.2.1 q.2.2.1 q.2.2.2.1 q.2.2.2.2.1) 0 0 46 [some (mR (some 200)), some (mI d), some (mI a), some (mI v), some (mI q.1), q.2.2.2.2.2.1, q.2.2.2.2.2.2] [] := by
  refine mj_loop _ (fun q => (193 - q.1).toNat) _ ?_
  intro ⟨k, g, c, w, n, o1, o2⟩ hin ih
  replace hin : fi_in B d a v k g c w n := hin
  have hin' := hin
  obtain ⟨hb, hk, hg1, hg2, hg3, hc0⟩ := hin'
  have hn := bf_n hb
  have e45 : gI (fi_m B g c w n) 200 45 = n := rfl
  show mj_X G n_M_fills (mj_Qm G n_M_fills P mj_no) (fi_m B g c w n) 0 0 46 [some (mR (some 200)), some (mI d), some (mI a), some (mI v), some (mI k), o1, o2] []
  refine mx_R fun hR => ?_
  refine mx_iload 4 d_M_fills_46 rfl ?_
  refine mx_aload_n 0 d_M_fills_48 rfl rfl ?_
  refine mx_getI 45 d_M_fills_49 f_M_180 rfl rfl (hM.o) ?_
  refine mx_icmp_ge 158 d_M_fills_52 rfl (by first | assumption | exact hR _ _ | exact r32_mk (by omega) (by omega)) (by first | assumption | exact hR _ _ | exact r32_mk (by omega) (by omega)) (fun c_52 => ?_) (fun c_52 => ?_)
  · refine mx_vret d_M_fills_158 rfl ?_
    have e : k = n := by omega
    rw [e] at hin
    exact hP g c w n hin
  · obtain ⟨p, hp⟩ : ∃ p, w k = p := ⟨_, rfl⟩
    have hcp : c p = 1 := by rw [← hp]; exact hb.2.2.2.1 k hk.1 (by omega)
    have hop := (bf_op (hb.2.2.1 p hcp)).2
    have hpr := hop.1
    have e20 : gI (fi_m B g c w n) 220 k = p := hp
    refine mx_aload_n 0 d_M_fills_55 rfl rfl ?_
    refine mx_getPs 20 d_M_fills_56 f_M_56 rfl rfl (hM.o) (hM.p20) ?_
    refine mx_iload 4 d_M_fills_59 rfl ?_
    refine mx_iald d_M_fills_61 (hM.s20) (by omega) (by omega) ?_
    rw [e20]
    refine mx_bipush d_M_fills_62 (by decide) ?_
    refine mx_irem d_M_fills_64 (by first | assumption | exact hR _ _ | exact r32_mk (by omega) (by omega)) (by first | assumption | exact hR _ _ | exact r32_mk (by omega) (by omega)) (by omega) ?_
    rw [Int.tmod_eq_emod_of_nonneg hpr.1]
    refine mx_istore 5 d_M_fills_65 (Nat.le_of_ble_eq_true rfl) ?_
    refine mx_aload_n 0 d_M_fills_67 rfl rfl ?_
    refine mx_getPs 20 d_M_fills_68 f_M_56 rfl rfl (hM.o) (hM.p20) ?_
    refine mx_iload 4 d_M_fills_71 rfl ?_
    refine mx_iald d_M_fills_73 (hM.s20) (by omega) (by omega) ?_
    rw [e20]
    refine mx_bipush d_M_fills_74 (by decide) ?_
    refine mx_idiv d_M_fills_76 (by first | assumption | exact hR _ _ | exact r32_mk (by omega) (by omega)) (by first | assumption | exact hR _ _ | exact r32_mk (by omega) (by omega)) (by omega) ?_
    rw [Int.tdiv_eq_ediv_of_nonneg hpr.1]
    refine mx_istore 6 d_M_fills_77 (Nat.le_of_ble_eq_true rfl) ?_
    refine mx_aload_n 0 d_M_fills_79 rfl rfl ?_
    refine mx_getPs 18 d_M_fills_80 f_M_50 rfl rfl (hM.o) (hM.p18) ?_
    refine mx_sipush d_M_fills_83 (by decide) ?_
    refine mx_iload_n 1 d_M_fills_86 rfl rfl ?_
    refine mx_imul d_M_fills_87 ?_
    refine mx_aload_n 0 d_M_fills_88 rfl rfl ?_
    refine mx_getPs 20 d_M_fills_89 f_M_56 rfl rfl (hM.o) (hM.p20) ?_
    refine mx_iload 4 d_M_fills_92 rfl ?_
    refine mx_iald d_M_fills_94 (hM.s20) (by omega) (by omega) ?_
    rw [e20]
    refine mx_iadd d_M_fills_95 ?_
    refine mx_iload_n 3 d_M_fills_96 rfl rfl ?_
    refine mx_iast d_M_fills_97 (hM.s18) (by omega) (by omega) (by first | assumption | exact hR _ _ | exact r32_mk (by omega) (by omega)) ?_
    refine mx_R fun hR_1 => ?_
    rw [fi_m2]
    refine cm_fills_1 hM hd hb ⟨hk.1, by omega⟩ hp hpr fun c' w' n' b1 b2 b3 b4 => ?_
    have hnw : ∀ i, 0 ≤ i → i < k + 1 → w' i = w i := fun i i0 i1 => b4 i i0 (by omega)
    refine ih (k + 1, (fun q => if q = 192 * d + p then v else g q), c', w', n', some (mI (p % 16)), some (mI (p / 16))) ⟨b1, ⟨by show 0 ≤ k + 1; omega, by show k + 1 ≤ n'; omega⟩, fun q hq => ?_, fun i i0 i1 => ?_, fun r r0 r1 hr => ?_, fun q hq => ?_⟩ (by show (193 - (k + 1)).toNat < (193 - k).toNat; omega)
    · show (if q = 192 * d + p then v else g q) = _
      rw [if_neg (by omega)]; exact hg1 q hq
    · show (if 192 * d + w' i = 192 * d + p then v else g (192 * d + w' i)) = v
      replace i1 : i < k + 1 := i1
      rw [hnw i i0 i1]
      by_cases e : i = k
      · rw [e, hp, if_pos rfl]
      · split
        · rfl
        · exact hg2 i i0 (by omega)
    · show (if 192 * d + r = 192 * d + p then v else g (192 * d + r)) = _
      replace hr : c' r ≠ 1 := hr
      have h1 : r ≠ p := fun e => hr (by rw [e]; exact b3 p hcp)
      rw [if_neg (by omega)]
      exact hg3 r r0 r1 fun e => hr (b3 r e)
    · show c' q = 0
      rcases b1.2.1 q with e | e
      · exact e
      · exact absurd (bf_op (b1.2.2.1 q e)).2.1 hq
theorem cm_fills {d a v : Int} (hM : MS A) (hd : 0 ≤ d ∧ d < 16) (ha : 0 ≤ a ∧ a < 192) (hv : r32 v) (hz : ∀ q, ¬ (0 ≤ q ∧ q < 192) → gI A 221 q = 0) : mj_Cal G n_M_fills [mR (some 200), mI d, mI a, mI v] A (fun r A' => r = none ∧ ∃ g c w n, A' = fi_m A g c w n ∧ fi_in A d a v n g c w n) mj_no := by
  refine mj_bodyK 0 0 [some (mR (some 200)), some (mI d), some (mI a), some (mI v), none, none, none] rfl rfl rfl (by decide +kernel) (Nat.le_of_ble_eq_true rfl) (by simp) rfl ?_
  have hl : ∀ i : Int, (0 ≤ i ∧ i ≤ 192) → mj_X G n_M_fills (mj_Qm G n_M_fills (fun r A' => r = none ∧ ∃ g c w n, A' = fi_m A g c w n ∧ fi_in A d a v n g c w n) mj_no) (sF A 221 (fun j => if 0 ≤ j ∧ j < i then 0 else gI A 221 j)) 0 0 3 [some (mR (some 200)), some (mI d), some (mI a), some (mI v), some (mI i), none, none] [] := by
    refine mj_loop _ (fun i => (192 - i).toNat) _ ?_
    intro i hi ih
    refine mx_R fun hR => ?_
    refine mx_iload 4 d_M_fills_3 rfl ?_
    refine mx_sipush d_M_fills_5 (by decide) ?_
    refine mx_icmp_ge 25 d_M_fills_8 rfl (by first | assumption | exact hR _ _ | exact r32_mk (by omega) (by omega)) (by first | assumption | exact hR _ _ | exact r32_mk (by omega) (by omega)) (fun c_8 => ?_) (fun c_8 => ?_)
    · have ei : i = 192 := by omega
      refine mx_R fun hR => ?_
      refine mx_aload_n 0 d_M_fills_25 rfl rfl ?_
      refine mx_iconst d_M_fills_26 ?_
      refine mx_putI 45 d_M_fills_27 f_M_180 rfl (hM.o) (Or.inl rfl) (Or.inl rfl) (by first | assumption | exact hR _ _ | exact r32_mk (by omega) (by omega)) ?_
      refine mx_R fun hR_1 => ?_
      rw [show sI (sF A 221 (fun j => if 0 ≤ j ∧ j < i then 0 else gI A 221 j)) 200 45 0 = fi_m A (gI A 218) (fun _ => 0) (gI A 220) 0 by (unfold fi_m; exact mj_ext3 (fun _ => rfl) (fun c_ x_ => by have := hz x_; simp only [gI_sI, gI_sF]; grind) (fun _ _ => rfl))]
      refine mx_aload_n 0 d_M_fills_30 rfl rfl ?_
      refine mx_iload_n 1 d_M_fills_31 rfl rfl ?_
      refine mx_iload_n 2 d_M_fills_32 rfl rfl ?_
      refine mx_bipush d_M_fills_33 (by decide) ?_
      refine mx_irem d_M_fills_35 (by first | assumption | exact hR_1 _ _ | exact hR _ _ | exact r32_mk (by omega) (by omega)) (by first | assumption | exact hR_1 _ _ | exact hR _ _ | exact r32_mk (by omega) (by omega)) (by omega) ?_
      rw [Int.tmod_eq_emod_of_nonneg ha.1]
      refine mx_iload_n 2 d_M_fills_36 rfl rfl ?_
      refine mx_bipush d_M_fills_37 (by decide) ?_
      refine mx_idiv d_M_fills_39 (by first | assumption | exact hR_1 _ _ | exact hR _ _ | exact r32_mk (by omega) (by omega)) (by first | assumption | exact hR_1 _ _ | exact hR _ _ | exact r32_mk (by omega) (by omega)) (by omega) ?_
      rw [Int.tdiv_eq_ediv_of_nonneg ha.1]
      refine mx_callV (kc := 0) (ks := 0) (N := n_M_steps) (as := [_, _, _]) (ci := 7) d_M_fills_40 s_M_183 ⟨Nat.le_of_ble_eq_true rfl, Nat.le_of_ble_eq_true rfl⟩ rfl (mj_wt_8 (Nat.le_of_ble_eq_true rfl)) (hM.o) ⟨_, rfl, rfl⟩ (cm_steps (A := fi_m A (gI A 218) (fun _ => 0) (gI A 220) 0) hM hd (r32_mk (by omega) (by omega)) (r32_mk (by omega) (by omega)) (fun _ => ⟨by show (0 : Int) ≤ 0; omega, by show (0 : Int) < 192; omega⟩)) (fun r_40 A_40 h_40 => ?_) (fun E_40 A_x h_40 => ?_)
      rotate_left
      · exact h_40.elim
      obtain ⟨rfl, hq⟩ := h_40
      refine mx_R fun hR_2 => ?_
      have e0 : gI (fi_m A (gI A 218) (fun _ => 0) (gI A 220) 0) 200 45 = 0 := rfl
      have ea : 16 * (a / 16) + a % 16 = a := by omega
      rw [ea, e0] at hq
      have hq2 : ∃ c w n, A_40 = fi_m A (gI A 218) c w n ∧ bf_ok (fi_op A d) a c w n 0 ∧ 0 ≤ n ∧ (∀ q, ¬ (0 ≤ q ∧ q < 192) → c q = 0) := by
        rcases hq with ⟨hC, e⟩ | ⟨hC, e⟩
        · rw [fi_m1] at e
          exact ⟨_, _, _, e, bf_i1 ha ⟨ha, hC.2.1⟩, by omega, fun q hq => if_neg (by omega)⟩
        · exact ⟨_, _, _, e, bf_i0 (fun ho => hC ⟨by unfold mo_ip; omega, ho.2, rfl⟩), by omega, fun _ _ => rfl⟩
      obtain ⟨c, w, n, e, hb, hn, hc0⟩ := hq2
      obtain rfl := e.symm
      refine mx_iconst d_M_fills_43 ?_
      refine mx_istore 4 d_M_fills_44 (Nat.le_of_ble_eq_true rfl) ?_
      exact cm_fills_l hM hd hv (fun g c w n h => ⟨rfl, g, c, w, n, rfl, h⟩) (0, gI A 218, c, w, n, none, none) ⟨hb, ⟨by omega, hn⟩, fun _ _ => rfl, fun i i0 i1 => by omega, fun _ _ _ _ => rfl, hc0⟩
    · refine mx_aload_n 0 d_M_fills_11 rfl rfl ?_
      refine mx_getPs 21 d_M_fills_12 f_M_59 rfl rfl (hM.o) (hM.p21) ?_
      refine mx_iload 4 d_M_fills_15 rfl ?_
      refine mx_iconst d_M_fills_17 ?_
      refine mx_zast d_M_fills_18 (hM.s21) (by omega) (by omega) (by first | exact Or.inl rfl | exact Or.inr rfl | omega) ?_
      refine mx_R fun hR_1 => ?_
      refine mx_iinc 4 d_M_fills_19 rfl (Nat.le_of_ble_eq_true rfl) ?_
      refine mx_goto 3 d_M_fills_22 rfl ?_
      refine mj_Xeq ?_ (ih (i + 1) ⟨by omega, by omega⟩ (by omega))
      exact mj_ext3 (fun _ => rfl) (fun c_ x_ => by simp only [gI_sI, gI_sF]; grind) (fun _ _ => rfl)
  refine mx_R fun hR => ?_
  refine mx_iconst d_M_fills_0 ?_
  refine mx_istore 4 d_M_fills_1 (Nat.le_of_ble_eq_true rfl) ?_
  refine mj_Xeq (sF_id fun j => ?_).symm (hl 0 ⟨by omega, by omega⟩)
  rw [if_neg (by omega)]
/-- a filling's picture -/
theorem fi_end {d a v n : Int} {g c w : Int → Int} (h : fi_in A d a v n g c w n) {p : Int} (hp : 0 ≤ p ∧ p < 192) : (bf_re (fi_op A d) a p → g (192 * d + p) = v) ∧ (¬ bf_re (fi_op A d) a p → g (192 * d + p) = gI A 218 (192 * d + p)) := by
  obtain ⟨hb, hk, hg1, hg2, hg3, hc0⟩ := h
  have he := bf_end hb p
  constructor
  · intro hr
    obtain ⟨i, i0, i1, i2⟩ := hb.2.2.2.2.1 p (he.2 hr)
    rw [← i2]
    exact hg2 i i0 i1
  · intro hr
    exact hg3 p hp.1 hp.2 fun e => hr (he.1 e)
end MODB
