/-! THE HOUSE, 13: a frame is composed -/
section CLSE
variable {G : mj_G} {A : mj_M}
/-- what lies over the composed points, k points of a picture laid -/
def lo_f (q g pal : Int → Int) (sx sy pa k p : Int) : Int := if (0 ≤ p ∧ p < 192) ∧ mo_ip (p % 16 - sx) (p / 16 - sy) ∧ 16 * (p / 16 - sy) + (p % 16 - sx) < k ∧ q (16 * (p / 16 - sy) + (p % 16 - sx)) ≠ -1 then pal (8 * pa + q (16 * (p / 16 - sy) + (p % 16 - sx))) else g p
theorem lo_0 {q g pal : Int → Int} {sx sy pa p : Int} : lo_f q g pal sx sy pa 0 p = g p := by
  unfold lo_f
  rw [if_neg]
  intro h
  have h1 := h.2.1
  have h2 := h.2.2.1
  unfold mo_ip at h1
  omega
theorem lo_1 {q g pal : Int → Int} {sx sy pa x y p : Int} (hx : 0 ≤ x ∧ x < 16) (hy : 0 ≤ y ∧ y < 12) (h1 : mo_ip (x + sx) (y + sy)) (h2 : q (16 * y + x) ≠ -1) : (if p = (y + sy) * 16 + (x + sx) then pal (8 * pa + q (16 * y + x)) else lo_f q g pal sx sy pa (16 * y + x) p) = lo_f q g pal sx sy pa (16 * y + x + 1) p := by
  unfold mo_ip at h1
  by_cases e : p = (y + sy) * 16 + (x + sx)
  · have e1 : p % 16 = x + sx := by omega
    have e2 : p / 16 = y + sy := by omega
    unfold lo_f
    rw [if_pos e, e1, e2, show 16 * (y + sy - sy) + (x + sx - sx) = 16 * y + x by omega, if_pos]
    refine ⟨by omega, ?_, by omega, h2⟩
    unfold mo_ip
    omega
  · rw [if_neg e]
    unfold lo_f
    refine mj_ic ?_
    constructor
    · intro h
      exact ⟨h.1, h.2.1, by have := h.2.2.1; omega, h.2.2.2⟩
    · intro h
      have h3 := h.2.1
      have h4 := h.2.2.1
      unfold mo_ip at h3
      exact ⟨h.1, h.2.1, by omega, h.2.2.2⟩
theorem lo_2 {q g pal : Int → Int} {sx sy pa x y p : Int} (hx : 0 ≤ x ∧ x < 16) (hy : 0 ≤ y ∧ y < 12) (h1 : ¬ (mo_ip (x + sx) (y + sy) ∧ q (16 * y + x) ≠ -1)) : lo_f q g pal sx sy pa (16 * y + x) p = lo_f q g pal sx sy pa (16 * y + x + 1) p := by
  unfold lo_f
  refine mj_ic ?_
  constructor
  · intro h
    exact ⟨h.1, h.2.1, by have := h.2.2.1; omega, h.2.2.2⟩
  · intro h
    have h3 := h.2.1
    have h4 := h.2.2.1
    refine ⟨h.1, h.2.1, ?_, h.2.2.2⟩
    by_cases e : 16 * (p / 16 - sy) + (p % 16 - sx) = 16 * y + x
    · exfalso
      have h5 := h.2.2.2
      have h6 := h.1
      rw [e] at h5
      refine h1 ⟨?_, h5⟩
      unfold mo_ip at h3 ⊢
      omega
    · omega
theorem ct_layOver {t l w q sx sy pa : Int} (hH : HS A) (hC : CS A t l w q) (hq : q ≠ 115) (hsx : -30240 ≤ sx ∧ sx ≤ 30240) (hsy : -30240 ≤ sy ∧ sy ≤ 30240) (hpa : 0 ≤ pa ∧ pa ≤ 3) (hqr : ∀ k, 0 ≤ k → k < 192 → -1 ≤ gI A q k ∧ gI A q k ≤ 7) : mj_Cal G n_H_layOver [mR (some 100), mR (some t), mI sx, mI sy, mI pa] A (fun r A' => r = none ∧ A' = (fun k => sF A 115 (lo_f (gI A q) (gI A 115) (gI A 105) sx sy pa k)) 192) mj_no := by
  refine mj_bodyK 0 0 [some (mR (some 100)), some (mR (some t)), some (mI sx), some (mI sy), some (mI pa), none, none, none, none] rfl rfl rfl (by decide +kernel) (Nat.le_of_ble_eq_true rfl) (by simp) rfl ?_
  refine mx_R fun hRA => ?_
  have hi : ∀ z : Int × Int × Option mj_V, ((0 ≤ z.1 ∧ z.1 ≤ 11) ∧ (0 ≤ z.2.1 ∧ z.2.1 ≤ 16)) → (∀ l7 l8, mj_X G n_H_layOver (mj_Qm G n_H_layOver (fun r A' => r = none ∧ A' = (fun k => sF A 115 (lo_f (gI A q) (gI A 115) (gI A 105) sx sy pa k)) 192) mj_no) ((fun k => sF A 115 (lo_f (gI A q) (gI A 115) (gI A 105) sx sy pa k)) (16 * z.1 + 16)) 0 0 6 [some (mR (some 100)), some (mR (some t)), some (mI sx), some (mI sy), some (mI pa), some (mI (16 * z.1 + 16)), some (mI (z.1 + 1)), l7, l8] []) → mj_X G n_H_layOver (mj_Qm G n_H_layOver (fun r A' => r = none ∧ A' = (fun k => sF A 115 (lo_f (gI A q) (gI A 115) (gI A 105) sx sy pa k)) 192) mj_no) ((fun k => sF A 115 (lo_f (gI A q) (gI A 115) (gI A 105) sx sy pa k)) (16 * z.1 + z.2.1)) 0 0 16 [some (mR (some 100)), some (mR (some t)), some (mI sx), some (mI sy), some (mI pa), some (mI (16 * z.1 + z.2.1)), some (mI z.1), some (mI z.2.1), z.2.2] [] := by
    refine mj_loop _ (fun z => (17 - z.2.1).toNat) _ ?_
    intro ⟨y, x, l8⟩ ⟨hy, hx⟩ ih hP
    replace hy : 0 ≤ y ∧ y ≤ 11 := hy
    replace hx : 0 ≤ x ∧ x ≤ 16 := hx
    replace hP : ∀ l7 l8, mj_X G n_H_layOver (mj_Qm G n_H_layOver (fun r A' => r = none ∧ A' = (fun k => sF A 115 (lo_f (gI A q) (gI A 115) (gI A 105) sx sy pa k)) 192) mj_no) ((fun k => sF A 115 (lo_f (gI A q) (gI A 115) (gI A 105) sx sy pa k)) (16 * y + 16)) 0 0 6 [some (mR (some 100)), some (mR (some t)), some (mI sx), some (mI sy), some (mI pa), some (mI (16 * y + 16)), some (mI (y + 1)), l7, l8] [] := hP
    show mj_X G n_H_layOver (mj_Qm G n_H_layOver (fun r A' => r = none ∧ A' = (fun k => sF A 115 (lo_f (gI A q) (gI A 115) (gI A 105) sx sy pa k)) 192) mj_no) ((fun k => sF A 115 (lo_f (gI A q) (gI A 115) (gI A 105) sx sy pa k)) (16 * y + x)) 0 0 16 [some (mR (some 100)), some (mR (some t)), some (mI sx), some (mI sy), some (mI pa), some (mI (16 * y + x)), some (mI y), some (mI x), l8] []
    have eq : ∀ k, gI ((fun k => sF A 115 (lo_f (gI A q) (gI A 115) (gI A 105) sx sy pa k)) (16 * y + x)) q k = gI A q k := fun k => by
      show gI (sF A 115 _) q k = _
      rw [gI_sF, if_neg hq]
    have nx : ∀ l8, (x < 16) → ¬ (mo_ip (x + sx) (y + sy) ∧ gI A q (16 * y + x) ≠ -1) → mj_X G n_H_layOver (mj_Qm G n_H_layOver (fun r A' => r = none ∧ A' = (fun k => sF A 115 (lo_f (gI A q) (gI A 115) (gI A 105) sx sy pa k)) 192) mj_no) ((fun k => sF A 115 (lo_f (gI A q) (gI A 115) (gI A 105) sx sy pa k)) (16 * y + x)) 0 0 16 [some (mR (some 100)), some (mR (some t)), some (mI sx), some (mI sy), some (mI pa), some (mI (16 * y + x + 1)), some (mI y), some (mI (x + 1)), l8] [] := fun l8 hx16 hno => by
      have h9 := ih (y, x + 1, l8) ⟨hy, by show 0 ≤ x + 1 ∧ x + 1 ≤ 16; omega⟩ (by show (17 - (x + 1)).toNat < (17 - x).toNat; omega) hP
      replace h9 : mj_X G n_H_layOver (mj_Qm G n_H_layOver (fun r A' => r = none ∧ A' = (fun k => sF A 115 (lo_f (gI A q) (gI A 115) (gI A 105) sx sy pa k)) 192) mj_no) ((fun k => sF A 115 (lo_f (gI A q) (gI A 115) (gI A 105) sx sy pa k)) (16 * y + (x + 1))) 0 0 16 [some (mR (some 100)), some (mR (some t)), some (mI sx), some (mI sy), some (mI pa), some (mI (16 * y + (x + 1))), some (mI y), some (mI (x + 1)), l8] [] := h9
      rw [show 16 * y + (x + 1) = 16 * y + x + 1 by omega] at h9
      refine mj_Xeq ?_ h9
      exact sF_congr fun p => lo_2 ⟨hx.1, hx16⟩ ⟨hy.1, by omega⟩ hno
    have hs := hC.s2
    have hso := hC.o
    refine mx_R fun hR => ?_
    refine mx_iload 7 d_H_layOver_16 rfl ?_
    refine mx_bipush d_H_layOver_18 (by decide) ?_
    refine mx_icmp_ge 90 d_H_layOver_20 rfl (by first | assumption | exact hR _ _ | exact r32_mk (by omega) (by omega)) (by first | assumption | exact hR _ _ | exact r32_mk (by omega) (by omega)) (fun c_20 => ?_) (fun c_20 => ?_)
    · refine mx_iinc 6 d_H_layOver_90 rfl (Nat.le_of_ble_eq_true rfl) ?_
      refine mx_goto 6 d_H_layOver_93 rfl ?_
      rw [show x = 16 by omega]
      exact hP _ _
    · have hqk := hqr (16 * y + x) (by omega) (by omega)
      refine mx_aload_n 1 d_H_layOver_23 rfl rfl ?_
      refine mx_getPs 2 d_H_layOver_24 f_H_283 rfl rfl (hso) (hC.p2) ?_
      refine mx_iload 5 d_H_layOver_27 rfl ?_
      refine mx_iald d_H_layOver_29 (hs) (by omega) (by omega) ?_
      rw [eq]
      refine mx_istore 8 d_H_layOver_30 (Nat.le_of_ble_eq_true rfl) ?_
      refine mx_iload 8 d_H_layOver_32 rfl ?_
      refine mx_iconst d_H_layOver_34 ?_
      refine mx_icmp_eq 81 d_H_layOver_35 rfl ((by rw [← eq]; exact hR _ _)) ((r32_mk (by omega) (by omega))) (fun c_35 => ?_) (fun c_35 => ?_)
      · refine mx_iinc 5 d_H_layOver_81 rfl (Nat.le_of_ble_eq_true rfl) ?_
        refine mx_iinc 7 d_H_layOver_84 rfl (Nat.le_of_ble_eq_true rfl) ?_
        refine mx_goto 16 d_H_layOver_87 rfl ?_
        first
        | exact nx _ (by omega) (fun h => h.2 (by assumption))
        | exact nx _ (by omega) (fun h => mj_if0 (by assumption) h.1)
        | exact hfin
      · refine mx_iload 7 d_H_layOver_38 rfl ?_
        refine mx_iload_n 2 d_H_layOver_40 rfl rfl ?_
        refine mx_iadd d_H_layOver_41 ?_
        refine mx_iload 6 d_H_layOver_42 rfl ?_
        refine mx_iload_n 3 d_H_layOver_44 rfl rfl ?_
        refine mx_iadd d_H_layOver_45 ?_
        refine mx_callS (kc := 0) (ks := 0) (N := n_H_isPoint) (as := [_, _]) d_H_layOver_46 s_H_343 ⟨Nat.le_of_ble_eq_true rfl, Nat.le_of_ble_eq_true rfl⟩ rfl (mj_wt_8 (Nat.le_of_ble_eq_true rfl)) (ct_isPoint (r32_mk (by omega) (by omega)) (r32_mk (by omega) (by omega))) (fun r_46 A_46 h_46 => ?_) (fun E_46 A_x h_46 => ?_)
        rotate_left
        · exact h_46.elim
        obtain ⟨rfl, hA_46⟩ := h_46
        obtain rfl := hA_46.symm
        clear hA_46
        refine mx_R fun hR_1 => ?_
        refine mx_if_eq 81 d_H_layOver_49 rfl (by first | assumption | exact hR_1 _ _ | exact hR _ _ | exact r32_mk (by omega) (by omega)) (fun c_49 => ?_) (fun c_49 => ?_)
        · refine mx_iinc 5 d_H_layOver_81 rfl (Nat.le_of_ble_eq_true rfl) ?_
          refine mx_iinc 7 d_H_layOver_84 rfl (Nat.le_of_ble_eq_true rfl) ?_
          refine mx_goto 16 d_H_layOver_87 rfl ?_
          first
          | exact nx _ (by omega) (fun h => h.2 (by assumption))
          | exact nx _ (by omega) (fun h => mj_if0 (by assumption) h.1)
          | exact hfin
        · refine mx_aload_n 0 d_H_layOver_52 rfl rfl ?_
          refine mx_getPs 14 d_H_layOver_53 f_H_49 rfl rfl (hH.o) (hH.p14) ?_
          refine mx_iload 7 d_H_layOver_56 rfl ?_
          refine mx_iload_n 2 d_H_layOver_58 rfl rfl ?_
          refine mx_iadd d_H_layOver_59 ?_
          refine mx_iload 6 d_H_layOver_60 rfl ?_
          refine mx_iload_n 3 d_H_layOver_62 rfl rfl ?_
          refine mx_iadd d_H_layOver_63 ?_
          refine mx_callS (kc := 0) (ks := 0) (N := n_H_placeOf) (as := [_, _]) d_H_layOver_64 s_H_139 ⟨Nat.le_of_ble_eq_true rfl, Nat.le_of_ble_eq_true rfl⟩ rfl (mj_wt_8 (Nat.le_of_ble_eq_true rfl)) (ct_placeOf) (fun r_64 A_64 h_64 => ?_) (fun E_64 A_x h_64 => ?_)
          rotate_left
          · exact h_64.elim
          obtain ⟨rfl, hA_64⟩ := h_64
          obtain rfl := hA_64.symm
          clear hA_64
          refine mx_R fun hR_2 => ?_
          refine mx_aload_n 0 d_H_layOver_67 rfl rfl ?_
          refine mx_getPs 4 d_H_layOver_68 f_H_15 rfl rfl (hH.o) (hH.p4) ?_
          refine mx_iload 4 d_H_layOver_71 rfl ?_
          refine mx_bipush d_H_layOver_73 (by decide) ?_
          refine mx_imul d_H_layOver_75 ?_
          refine mx_iload 8 d_H_layOver_76 rfl ?_
          refine mx_iadd d_H_layOver_78 ?_
          rw [show pa * 8 + gI A q (16 * y + x) = 8 * pa + gI A q (16 * y + x) by omega]
          refine mx_iald d_H_layOver_79 (hH.s4) (by omega) (by omega) ?_
          rw [show gI ((fun k => sF A 115 (lo_f (gI A q) (gI A 115) (gI A 105) sx sy pa k)) (16 * y + x)) 105 (8 * pa + gI A q (16 * y + x)) = gI A 105 (8 * pa + gI A q (16 * y + x)) from rfl]
          refine mx_iast d_H_layOver_80 (hH.s14) (by have := mj_if1 c_49; omega) (by have := mj_if1 c_49; omega) (hRA _ _) ?_
          refine mx_R fun hR_3 => ?_
          have hip : mo_ip (x + sx) (y + sy) := mj_if1 (by assumption)
          have hfin : mj_X G n_H_layOver (mj_Qm G n_H_layOver (fun r A' => r = none ∧ A' = (fun k => sF A 115 (lo_f (gI A q) (gI A 115) (gI A 105) sx sy pa k)) 192) mj_no) (sI ((fun k => sF A 115 (lo_f (gI A q) (gI A 115) (gI A 105) sx sy pa k)) (16 * y + x)) 115 ((y + sy) * 16 + (x + sx)) (gI A 105 (8 * pa + gI A q (16 * y + x)))) 0 0 16 [some (mR (some 100)), some (mR (some t)), some (mI sx), some (mI sy), some (mI pa), some (mI (16 * y + x + 1)), some (mI y), some (mI (x + 1)), some (mI (gI A q (16 * y + x)))] [] := by
            have h9 := ih (y, x + 1, some (mI (gI A q (16 * y + x)))) ⟨hy, by show 0 ≤ x + 1 ∧ x + 1 ≤ 16; omega⟩ (by show (17 - (x + 1)).toNat < (17 - x).toNat; omega) hP
            replace h9 : mj_X G n_H_layOver (mj_Qm G n_H_layOver (fun r A' => r = none ∧ A' = (fun k => sF A 115 (lo_f (gI A q) (gI A 115) (gI A 105) sx sy pa k)) 192) mj_no) ((fun k => sF A 115 (lo_f (gI A q) (gI A 115) (gI A 105) sx sy pa k)) (16 * y + (x + 1))) 0 0 16 [some (mR (some 100)), some (mR (some t)), some (mI sx), some (mI sy), some (mI pa), some (mI (16 * y + (x + 1))), some (mI y), some (mI (x + 1)), some (mI (gI A q (16 * y + x)))] [] := h9
            rw [show 16 * y + (x + 1) = 16 * y + x + 1 by omega] at h9
            refine mj_Xeq ?_ h9
            show sI (sF A 115 _) 115 _ _ = sF A 115 _
            rw [sI_sF]
            exact sF_congr fun p => lo_1 ⟨hx.1, by omega⟩ ⟨hy.1, by omega⟩ hip (by assumption)
          refine mx_iinc 5 d_H_layOver_81 rfl (Nat.le_of_ble_eq_true rfl) ?_
          refine mx_iinc 7 d_H_layOver_84 rfl (Nat.le_of_ble_eq_true rfl) ?_
          refine mx_goto 16 d_H_layOver_87 rfl ?_
          first
          | exact nx _ (by omega) (fun h => h.2 (by assumption))
          | exact nx _ (by omega) (fun h => mj_if0 (by assumption) h.1)
          | exact hfin
  have ho : ∀ z : Int × Option mj_V × Option mj_V, (0 ≤ z.1 ∧ z.1 ≤ 12) → mj_X G n_H_layOver (mj_Qm G n_H_layOver (fun r A' => r = none ∧ A' = (fun k => sF A 115 (lo_f (gI A q) (gI A 115) (gI A 105) sx sy pa k)) 192) mj_no) ((fun k => sF A 115 (lo_f (gI A q) (gI A 115) (gI A 105) sx sy pa k)) (16 * z.1)) 0 0 6 [some (mR (some 100)), some (mR (some t)), some (mI sx), some (mI sy), some (mI pa), some (mI (16 * z.1)), some (mI z.1), z.2.1, z.2.2] [] := by
    refine mj_loop _ (fun z => (13 - z.1).toNat) _ ?_
    intro ⟨y, l7, l8⟩ hy ih
    replace hy : 0 ≤ y ∧ y ≤ 12 := hy
    show mj_X G n_H_layOver (mj_Qm G n_H_layOver (fun r A' => r = none ∧ A' = (fun k => sF A 115 (lo_f (gI A q) (gI A 115) (gI A 105) sx sy pa k)) 192) mj_no) ((fun k => sF A 115 (lo_f (gI A q) (gI A 115) (gI A 105) sx sy pa k)) (16 * y)) 0 0 6 [some (mR (some 100)), some (mR (some t)), some (mI sx), some (mI sy), some (mI pa), some (mI (16 * y)), some (mI y), l7, l8] []
    refine mx_R fun hR => ?_
    refine mx_iload 6 d_H_layOver_6 rfl ?_
    refine mx_bipush d_H_layOver_8 (by decide) ?_
    refine mx_icmp_ge 96 d_H_layOver_10 rfl (by first | assumption | exact hR _ _ | exact r32_mk (by omega) (by omega)) (by first | assumption | exact hR _ _ | exact r32_mk (by omega) (by omega)) (fun c_10 => ?_) (fun c_10 => ?_)
    · refine mx_vret d_H_layOver_96 rfl ?_
      rw [show y = 12 by omega]
      exact ⟨rfl, rfl⟩
    · refine mx_iconst d_H_layOver_13 ?_
      refine mx_istore 7 d_H_layOver_14 (Nat.le_of_ble_eq_true rfl) ?_
      have h9 := hi (y, 0, l8) ⟨⟨hy.1, by show y ≤ 11; omega⟩, by show (0 : Int) ≤ 0 ∧ (0 : Int) ≤ 16; omega⟩ (fun l7 l8 => by
        have h8 := ih (y + 1, l7, l8) ⟨by show 0 ≤ y + 1; omega, by show y + 1 ≤ 12; omega⟩ (by show (13 - (y + 1)).toNat < (13 - y).toNat; omega)
        replace h8 : mj_X G n_H_layOver (mj_Qm G n_H_layOver (fun r A' => r = none ∧ A' = (fun k => sF A 115 (lo_f (gI A q) (gI A 115) (gI A 105) sx sy pa k)) 192) mj_no) ((fun k => sF A 115 (lo_f (gI A q) (gI A 115) (gI A 105) sx sy pa k)) (16 * (y + 1))) 0 0 6 [some (mR (some 100)), some (mR (some t)), some (mI sx), some (mI sy), some (mI pa), some (mI (16 * (y + 1))), some (mI (y + 1)), l7, l8] [] := h8
        rw [show 16 * (y + 1) = 16 * y + 16 by omega] at h8
        exact h8)
      replace h9 : mj_X G n_H_layOver (mj_Qm G n_H_layOver (fun r A' => r = none ∧ A' = (fun k => sF A 115 (lo_f (gI A q) (gI A 115) (gI A 105) sx sy pa k)) 192) mj_no) ((fun k => sF A 115 (lo_f (gI A q) (gI A 115) (gI A 105) sx sy pa k)) (16 * y + 0)) 0 0 16 [some (mR (some 100)), some (mR (some t)), some (mI sx), some (mI sy), some (mI pa), some (mI (16 * y + 0)), some (mI y), some (mI 0), l8] [] := h9
      rw [show 16 * y + 0 = 16 * y by omega] at h9
      exact h9
  refine mx_R fun hR => ?_
  refine mx_iconst d_H_layOver_0 ?_
  refine mx_istore 5 d_H_layOver_1 (Nat.le_of_ble_eq_true rfl) ?_
  refine mx_iconst d_H_layOver_3 ?_
  refine mx_istore 6 d_H_layOver_4 (Nat.le_of_ble_eq_true rfl) ?_
  have h9 := ho (0, none, none) (by show (0 : Int) ≤ 0 ∧ (0 : Int) ≤ 12; omega)
  refine mj_Xeq (sF_id fun p => ?_).symm h9
  exact lo_0
/-- what is so behind a call that composes -/
def cq (C : Int → cT) (A : mj_M) (W : mj_M) : Prop := (JJ C W) ∧ (lh A W)
theorem cq.j {C : Int → cT} {A : mj_M} {W : mj_M} (h : cq C A W) : JJ C W := h.1
theorem cq.l {C : Int → cT} {A : mj_M} {W : mj_M} (h : cq C A W) : lh A W := h.2
theorem ct_compose {C : Int → cT} {s f : Int} (hj : JJ C A) (hs : 0 ≤ s ∧ s < gI A 200 23) (hf : 0 ≤ f ∧ f < gI A 224 s) : mj_Cal G n_H_compose [mR (some 100), mR (some (4000 + 100 * s)), mI f] A (fun r A' => r = none ∧ cq C A A' ∧ (fun W n => ∀ x y, mo_ip x y → gI W 115 (16 * y + x) = mo_sl (vi C A) s f x y n) A' 4) mj_no := by
  refine mj_bodyK 0 0 [some (mR (some 100)), some (mR (some (4000 + 100 * s))), some (mI f), none, none, none, none] rfl rfl rfl (by decide +kernel) (Nat.le_of_ble_eq_true rfl) (by simp) rfl ?_
  have hH := hj.x.H
  have hns := hj.m.g.ns
  have hnd := hj.m.g.nd
  have hfr := hj.m.g.fr s hs.1 hs.2
  have hpal := hj.m.g.pal s hs.1 hs.2
  have hl : ∀ q : Nat × mj_M × Option mj_V × Option mj_V × Option mj_V, (q.1 ≤ 4 ∧ JJ C q.2.1 ∧ lh A q.2.1 ∧ (fun W n => ∀ x y, mo_ip x y → gI W 115 (16 * y + x) = mo_sl (vi C A) s f x y n) q.2.1 q.1) → mj_X G n_H_compose (mj_Qm G n_H_compose (fun r A' => r = none ∧ cq C A A' ∧ (fun W n => ∀ x y, mo_ip x y → gI W 115 (16 * y + x) = mo_sl (vi C A) s f x y n) A' 4) mj_no) q.2.1 0 0 10 [some (mR (some 100)), some (mR (some (4000 + 100 * s))), some (mI f), some (mI (q.1 : Int)), q.2.2.1, q.2.2.2.1, q.2.2.2.2] [] := by
    refine mj_loop _ (fun q => 5 - q.1) _ ?_
    intro ⟨n, W, l4, l5, l6⟩ ⟨hn, hw, hlh, hco⟩ ih
    replace hn : n ≤ 4 := hn
    replace hw : JJ C W := hw
    replace hlh : lh A W := hlh
    replace hco : (fun W n => ∀ x y, mo_ip x y → gI W 115 (16 * y + x) = mo_sl (vi C A) s f x y n) W n := hco
    show mj_X G n_H_compose (mj_Qm G n_H_compose (fun r A' => r = none ∧ cq C A A' ∧ (fun W n => ∀ x y, mo_ip x y → gI W 115 (16 * y + x) = mo_sl (vi C A) s f x y n) A' 4) mj_no) W 0 0 10 [some (mR (some 100)), some (mR (some (4000 + 100 * s))), some (mI f), some (mI (n : Int)), l4, l5, l6] []
    have hH := hw.x.H
    have hS := hw.s.S
    have e23 : gI W 200 23 = gI A 200 23 := hlh.I _ _ (by omega)
    have e3 : gI W 200 3 = gI A 200 3 := hlh.I _ _ (by omega)
    have e24 : gI W 224 s = gI A 224 s := hlh.I _ _ (by omega)
    have e25 : gI W 225 s = gI A 225 s := hlh.I _ _ (by omega)
    have hrv : ∀ c, 222 ≤ c → c ≤ 237 → gI W c = gI A c := fun c h0 h1 => funext fun i => hlh.I c i (by omega)
    have hs' : 0 ≤ s ∧ s < gI W 200 23 := by rw [e23]; exact hs
    have hf' : 0 ≤ f ∧ f < gI W 224 s := by rw [e24]; exact hf
    have hm1 := mo_mv_b hj.m.p (s := s) (l := n) (f := f) (z := 1) ⟨hf.1, by omega⟩
    have hm0 := mo_mv_b hj.m.p (s := s) (l := n) (f := f) (z := 0) ⟨hf.1, by omega⟩
    have hpal0 := (hw.s.pal s hs'.1 hs'.2).trans e25
    refine mx_R fun hR => ?_
    refine mx_iload_n 3 d_H_compose_10 rfl rfl ?_
    refine mx_iconst d_H_compose_11 ?_
    refine mx_icmp_ge 77 d_H_compose_12 rfl (by first | assumption | exact hR _ _ | exact r32_mk (by omega) (by omega)) (by first | assumption | exact hR _ _ | exact r32_mk (by omega) (by omega)) (fun c_12 => ?_) (fun c_12 => ?_)
    · refine mx_vret d_H_compose_77 rfl ?_
      rw [show n = 4 by omega] at hco
      exact ⟨rfl, ⟨hw, hlh⟩, hco⟩
    · refine mx_aload_n 0 d_H_compose_15 rfl rfl ?_
      refine mx_aload_n 1 d_H_compose_16 rfl rfl ?_
      refine mx_iload_n 3 d_H_compose_17 rfl rfl ?_
      refine mx_iload_n 2 d_H_compose_18 rfl rfl ?_
      refine mx_callV (kc := 0) (ks := 0) (N := n_H_drawingAt) (as := [_, _, _]) (ci := 6) d_H_compose_19 s_H_286 ⟨Nat.le_of_ble_eq_true rfl, Nat.le_of_ble_eq_true rfl⟩ rfl (mj_wt_8 (Nat.le_of_ble_eq_true rfl)) (hH.o) ⟨_, rfl, rfl⟩ (ct_drawingAt (A := W) hH hw.s hw.m.g hs' ⟨by omega, by omega⟩ hf') (fun r_19 A_19 h_19 => ?_) (fun E_19 A_x h_19 => ?_)
      rotate_left
      · exact h_19.elim
      obtain ⟨rfl, hA_19⟩ := h_19
      obtain rfl := hA_19.symm
      clear hA_19
      refine mx_R fun hR_1 => ?_
      rw [mo_ha_c hrv]
      have hha := mo_ha_r hj.m.g (l := n) hs ⟨by omega, by omega⟩ hf
      refine mx_istore 4 d_H_compose_22 (Nat.le_of_ble_eq_true rfl) ?_
      refine mx_iload 4 d_H_compose_24 rfl ?_
      refine mx_iconst d_H_compose_26 ?_
      refine mx_icmp_eq 71 d_H_compose_27 rfl (by first | assumption | exact hR_1 _ _ | exact hR _ _ | exact r32_mk (by omega) (by omega)) (by first | assumption | exact hR_1 _ _ | exact hR _ _ | exact r32_mk (by omega) (by omega)) (fun c_27 => ?_) (fun c_27 => ?_)
      · skip
        refine mx_R fun hR => ?_
        refine mx_iinc 3 d_H_compose_71 rfl (Nat.le_of_ble_eq_true rfl) ?_
        refine mx_goto 10 d_H_compose_74 rfl ?_
        have h9 := ih (n + 1, W, some (mI (mo_ha A s n f)), l5, l6) ⟨by show n + 1 ≤ 4; omega, hw, hlh, fun x y hxy => by
          show gI W 115 (16 * y + x) = mo_sl (vi C A) s f x y (n + 1)
          rw [mo_sl, mo_ha_c (A := A) (B := vi C A) (fun c h0 h1 => vi_fn (by omega)), if_neg (fun h => h.1 (by assumption))]
          exact hco x y hxy⟩ (by show 5 - (n + 1) < 5 - n; omega)
        exact h9
      · refine mx_aload_n 1 d_H_compose_30 rfl rfl ?_
        refine mx_iload_n 3 d_H_compose_31 rfl rfl ?_
        refine mx_iload_n 2 d_H_compose_32 rfl rfl ?_
        refine mx_iconst d_H_compose_33 ?_
        refine mx_callV (kc := 0) (ks := 0) (N := n_S_shiftOf) (as := [_, _, _]) (ci := 4) d_H_compose_34 s_H_290 ⟨Nat.le_of_ble_eq_true rfl, Nat.le_of_ble_eq_true rfl⟩ rfl (mj_wt_8 (Nat.le_of_ble_eq_true rfl)) (hS.o _ (by omega) (by omega)) ⟨_, rfl, rfl⟩ (ct_shiftOf (A := W) hw.s hw.m.g hs' hw.p hw.m.p hw.m.h ⟨by omega, by omega⟩ ⟨hf.1, by omega⟩ (Or.inr rfl)) (fun r_34 A_34 h_34 => ?_) (fun E_34 A_x h_34 => ?_)
        rotate_left
        · exact h_34.elim
        obtain ⟨rfl, hA_34⟩ := h_34
        obtain rfl := hA_34.symm
        clear hA_34
        refine mx_R fun hR_2 => ?_
        rw [mo_mv_c hrv]
        refine mx_istore 5 d_H_compose_37 (Nat.le_of_ble_eq_true rfl) ?_
        refine mx_aload_n 1 d_H_compose_39 rfl rfl ?_
        refine mx_iload_n 3 d_H_compose_40 rfl rfl ?_
        refine mx_iload_n 2 d_H_compose_41 rfl rfl ?_
        refine mx_iconst d_H_compose_42 ?_
        refine mx_callV (kc := 0) (ks := 0) (N := n_S_shiftOf) (as := [_, _, _]) (ci := 4) d_H_compose_43 s_H_290 ⟨Nat.le_of_ble_eq_true rfl, Nat.le_of_ble_eq_true rfl⟩ rfl (mj_wt_8 (Nat.le_of_ble_eq_true rfl)) (hS.o _ (by omega) (by omega)) ⟨_, rfl, rfl⟩ (ct_shiftOf (A := W) hw.s hw.m.g hs' hw.p hw.m.p hw.m.h ⟨by omega, by omega⟩ ⟨hf.1, by omega⟩ (Or.inl rfl)) (fun r_43 A_43 h_43 => ?_) (fun E_43 A_x h_43 => ?_)
        rotate_left
        · exact h_43.elim
        obtain ⟨rfl, hA_43⟩ := h_43
        obtain rfl := hA_43.symm
        clear hA_43
        refine mx_R fun hR_3 => ?_
        rw [mo_mv_c hrv]
        have hd : 0 ≤ mo_ha A s n f ∧ mo_ha A s n f < gI W 200 3 := by omega
        have hxn := hw.x.n
        refine mx_istore 6 d_H_compose_46 (Nat.le_of_ble_eq_true rfl) ?_
        refine mx_aload_n 0 d_H_compose_48 rfl rfl ?_
        refine mx_aload_n 0 d_H_compose_49 rfl rfl ?_
        refine mx_aload_n 0 d_H_compose_50 rfl rfl ?_
        refine mx_getPs 0 d_H_compose_51 f_H_11 rfl rfl (hH.o) (hH.p0) ?_
        refine mx_iload 4 d_H_compose_54 rfl ?_
        refine mx_aalds d_H_compose_56 (hH.s0) (by decide) (by omega) (by omega) (hw.x.r _ hd.1 (by omega)) ?_
        refine mx_callV (kc := 0) (ks := 0) (N := n_H_pictureOf) (as := [_]) (ci := 6) d_H_compose_57 s_H_268 ⟨Nat.le_of_ble_eq_true rfl, Nat.le_of_ble_eq_true rfl⟩ rfl (mj_wt_8 (Nat.le_of_ble_eq_true rfl)) (hH.o) ⟨_, rfl, rfl⟩ (ct_pictureOf (A := W) hH hw.D hd (by omega) (hw.cr _ hd.1 hd.2) hw.h.z (hw.h.v _ hd.1 hd.2)) (fun r_57 A_57 h_57 => ?_) (fun E_57 A_x h_57 => ?_)
        rotate_left
        · exact h_57.elim
        obtain ⟨rfl, hl1, hpv, h13, hz1, ho1⟩ := h_57
        refine mx_R fun hR_4 => ?_
        have hD1 := hw.D
        have hcs := hD1.cs (mo_ha A s n f) hd.1 hd.2
        have hCS1 : CS A_57 (1000 + 100 * mo_ha A s n f + 12) (1000 + 100 * mo_ha A s n f + 13) (1000 + 100 * mo_ha A s n f + 14) (1000 + 100 * mo_ha A s n f + 15) := by
          unfold CS at hcs ⊢
          rw [hl1.S, hl1.S, hl1.S, hl1.S, hl1.P, hl1.P, hl1.P]
          exact hcs
        have hw1 : JJ C A_57 := JJ_lh hw hl1 (fun d d0 d1 => by
          by_cases e : d = mo_ha A s n f
          · rw [e]; exact Or.inr ⟨h13, hpv⟩
          · rw [ho1 _ _ (by omega)]
            rcases hw.h.v d d0 d1 with h9 | ⟨h9, h8⟩
            · exact Or.inl h9
            · exact Or.inr ⟨h9, pv_e (lh_ce hl1 hD1 ⟨d0, d1⟩ (hw.cr d d0 d1)) (fun c i h0 h1 => ho1 c i (by omega)) h8⟩) hz1
        have hlh1 : lh A A_57 := lh_tr hlh hl1
        have hce1 : ce (C (mo_ha A s n f)) (ch_c A_57 (mo_ha A s n f)) := hw1.h.e _ hd.1 (by have : gI A_57 200 3 = gI W 200 3 := hl1.I _ _ (by omega); omega)
        have hpt : ∀ p, 0 ≤ p → p < 192 → gI A_57 (1000 + 100 * mo_ha A s n f + 15) p = c_pf (C (mo_ha A s n f)) p := fun p p0 p1 => by
          rw [(hpv p p0 p1).2.2, ← c_pf_e hce1]
        have hcr1 := hj.m.cr (mo_ha A s n f) hd.1 (by omega)
        have hpal1 : gI A_57 (4000 + 100 * s) 1 = gI A 225 s := by rw [hl1.I _ _ (by omega), hpal0]
        have hso1 : gS A_57 (4000 + 100 * s) = some (.inl 4) := (hl1.S _).trans (hS.o s hs'.1 hs'.2)
        refine mx_iload 5 d_H_compose_60 rfl ?_
        refine mx_iload 6 d_H_compose_62 rfl ?_
        refine mx_aload_n 1 d_H_compose_64 rfl rfl ?_
        refine mx_getI 1 d_H_compose_65 f_H_298 rfl rfl (hso1) ?_
        rw [hpal1]
        refine mx_callV (kc := 0) (ks := 0) (N := n_H_layOver) (as := [_, _, _, _]) (ci := 6) d_H_compose_68 s_H_411 ⟨Nat.le_of_ble_eq_true rfl, Nat.le_of_ble_eq_true rfl⟩ rfl (mj_wt_8 (Nat.le_of_ble_eq_true rfl)) (hw1.x.H.o) ⟨_, rfl, rfl⟩ (ct_layOver (A := A_57) hw1.x.H hCS1 (by omega) hm1 hm0 hpal (fun k k0 k1 => by rw [hpt k k0 k1]; exact c_pf_r hcr1 k)) (fun r_68 A_68 h_68 => ?_) (fun E_68 A_x h_68 => ?_)
        rotate_left
        · exact h_68.elim
        obtain ⟨rfl, hA_68⟩ := h_68
        obtain rfl := hA_68.symm
        clear hA_68
        refine mx_R fun hR_5 => ?_
        refine mx_iinc 3 d_H_compose_71 rfl (Nat.le_of_ble_eq_true rfl) ?_
        refine mx_goto 10 d_H_compose_74 rfl ?_
        have hl2 : lh A_57 (sF A_57 115 (lo_f (gI A_57 (1000 + 100 * mo_ha A s n f + 15)) (gI A_57 115) (gI A_57 105) (mo_mv A s n f 1) (mo_mv A s n f 0) (gI A 225 s) 192)) := ⟨fun _ => rfl, fun _ _ => rfl, fun c i hc => by rw [gI_sF, if_neg (by omega)]⟩
        have hw2 : JJ C (sF A_57 115 (lo_f (gI A_57 (1000 + 100 * mo_ha A s n f + 15)) (gI A_57 115) (gI A_57 105) (mo_mv A s n f 1) (mo_mv A s n f 0) (gI A 225 s) 192)) := JJ_lh hw1 hl2 (fun d d0 d1 => by
          rw [gI_sF, if_neg (by omega)]
          rcases hw1.h.v d d0 d1 with h9 | ⟨h9, h8⟩
          · exact Or.inl h9
          · exact Or.inr ⟨h9, pv_e (lh_ce hl2 hw1.D ⟨d0, d1⟩ (hw1.cr d d0 d1)) (fun c i h0 h1 => by rw [gI_sF, if_neg (by omega)]) h8⟩) (fun p hp => by rw [gI_sF, if_neg (by omega)]; exact hw1.h.z p hp)
        have h9 := ih (n + 1, _, some (mI (mo_ha A s n f)), some (mI (mo_mv A s n f 1)), some (mI (mo_mv A s n f 0))) ⟨by show n + 1 ≤ 4; omega, hw2, lh_tr hlh1 hl2, fun x y hxy => ?_⟩ (by show 5 - (n + 1) < 5 - n; omega)
        · exact h9
        · show gI (sF A_57 115 _) 115 (16 * y + x) = mo_sl (vi C A) s f x y (n + 1)
          have hq := hco x y hxy
          unfold mo_ip at hxy
          have h115 : gI A_57 115 (16 * y + x) = gI W 115 (16 * y + x) := ho1 _ _ (by omega)
          have hvr : ∀ c, 222 ≤ c → c ≤ 237 → gI (vi C A) c = gI A c := fun c h0 h1 => vi_fn (by omega)
          rw [gI_sF, if_pos rfl, mo_sl, mo_ha_c hvr, mo_mv_c hvr, mo_mv_c hvr, hvr 222 (by omega) (by omega), hvr 225 (by omega) (by omega)]
          unfold lo_f
          rw [show (16 * y + x) % 16 = x by omega, show (16 * y + x) / 16 = y by omega, h115, hq]
          by_cases hip : mo_ip (x - mo_mv A s n f 1) (y - mo_mv A s n f 0)
          · have hip2 := hip
            unfold mo_ip at hip2
            have e1 : gI (vi C A) 218 (192 * mo_ha A s n f + 16 * (y - mo_mv A s n f 0) + (x - mo_mv A s n f 1)) = c_pf (C (mo_ha A s n f)) (16 * (y - mo_mv A s n f 0) + (x - mo_mv A s n f 1)) := by
              rw [show 192 * mo_ha A s n f + 16 * (y - mo_mv A s n f 0) + (x - mo_mv A s n f 1) = 192 * mo_ha A s n f + (16 * (y - mo_mv A s n f 0) + (x - mo_mv A s n f 1)) by omega]
              exact vi_p ⟨by omega, by omega⟩
            rw [e1, hpt _ (by omega) (by omega)]
            have hcp := c_pf_r hcr1 (16 * (y - mo_mv A s n f 0) + (x - mo_mv A s n f 1))
            by_cases hne : c_pf (C (mo_ha A s n f)) (16 * (y - mo_mv A s n f 0) + (x - mo_mv A s n f 1)) = -1
            · rw [if_neg (fun h => h.2.2.2 hne), if_neg (fun h => h.2.2 hne)]
            · rw [if_pos ⟨by omega, hip, by omega, hne⟩, if_pos ⟨by omega, hip, hne⟩]
              have h5 := hw1.s.pl (8 * gI A 225 s + c_pf (C (mo_ha A s n f)) (16 * (y - mo_mv A s n f 0) + (x - mo_mv A s n f 1))) (by omega) (by omega)
              rw [h5]
              exact hlh1.I _ _ (by omega)
          · rw [if_neg (fun h => hip h.2.1), if_neg (fun h => hip h.2.1)]
  refine mx_R fun hR => ?_
  refine mx_aload_n 0 d_H_compose_0 rfl rfl ?_
  refine mx_getPs 14 d_H_compose_1 f_H_49 rfl rfl (hH.o) (hH.p14) ?_
  refine mx_iconst d_H_compose_4 ?_
  refine mx_callS (kc := 0) (ks := 0) (N := n_J_fill) (as := [_, _]) d_H_compose_5 s_H_28 ⟨Nat.le_of_ble_eq_true rfl, Nat.le_of_ble_eq_true rfl⟩ rfl (mj_wt_8 (Nat.le_of_ble_eq_true rfl)) (ct_fill hH.s14 (by omega) (by omega) (r32_mk (by omega) (by omega))) (fun r_5 A_5 h_5 => ?_) (fun E_5 A_x h_5 => ?_)
  rotate_left
  · exact h_5.elim
  obtain ⟨rfl, hA_5⟩ := h_5
  obtain rfl := hA_5.symm
  clear hA_5
  refine mx_R fun hR_1 => ?_
  refine mx_iconst d_H_compose_8 ?_
  refine mx_istore_n 3 d_H_compose_9 rfl (Nat.le_of_ble_eq_true rfl) ?_
  have hl2 : lh A (sF A 115 (fun j => if 0 ≤ j ∧ j < 192 then 0 else gI A 115 j)) := ⟨fun _ => rfl, fun _ _ => rfl, fun c i hc => by rw [gI_sF, if_neg (by omega)]⟩
  have hw2 : JJ C (sF A 115 (fun j => if 0 ≤ j ∧ j < 192 then 0 else gI A 115 j)) := JJ_lh hj hl2 (fun d d0 d1 => by
    rw [gI_sF, if_neg (by omega)]
    rcases hj.h.v d d0 d1 with h9 | ⟨h9, h8⟩
    · exact Or.inl h9
    · exact Or.inr ⟨h9, pv_e (lh_ce hl2 hj.D ⟨d0, d1⟩ (hj.cr d d0 d1)) (fun c i h0 h1 => by rw [gI_sF, if_neg (by omega)]) h8⟩) (fun p hp => by rw [gI_sF, if_neg (by omega)]; exact hj.h.z p hp)
  exact hl (0, _, none, none, none) ⟨by show 0 ≤ 4; omega, hw2, hl2, fun x y hxy => by
    unfold mo_ip at hxy
    show gI (sF A 115 _) 115 (16 * y + x) = 0
    rw [gI_sF, if_pos rfl, if_pos (by omega)]⟩
end CLSE
