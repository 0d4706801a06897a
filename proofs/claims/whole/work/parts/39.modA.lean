/-! THE REFERENCE, 10: fillings -/
section MODA
variable {G : mj_G} {A : mj_M}
theorem cm_steps {d x y : Int} (hM : MS A) (hd : 0 ≤ d ∧ d < 16) (hx : r32 x) (hy : r32 y) (hn : (mo_ip x y ∧ gI A 219 (192 * d + (16 * y + x)) = 0 ∧ gI A 221 (16 * y + x) = 0) → 0 ≤ gI A 200 45 ∧ gI A 200 45 < 192) : mj_Cal G n_M_steps [mR (some 200), mI d, mI x, mI y] A (fun r A' => r = none ∧ (((mo_ip x y ∧ gI A 219 (192 * d + (16 * y + x)) = 0 ∧ gI A 221 (16 * y + x) = 0) ∧ A' = sI (sI (sI A 221 (16 * y + x) 1) 220 (gI A 200 45) (16 * y + x)) 200 45 (gI A 200 45 + 1)) ∨ (¬ (mo_ip x y ∧ gI A 219 (192 * d + (16 * y + x)) = 0 ∧ gI A 221 (16 * y + x) = 0) ∧ A' = A))) mj_no := by
  refine mj_bodyK 0 0 [some (mR (some 200)), some (mI d), some (mI x), some (mI y), none] rfl rfl rfl (by decide +kernel) (Nat.le_of_ble_eq_true rfl) (by simp) rfl ?_
  refine mx_R fun hR => ?_
  refine mx_bipush d_M_steps_0 (by decide) ?_
  refine mx_iload_n 3 d_M_steps_2 rfl rfl ?_
  refine mx_imul d_M_steps_3 ?_
  refine mx_iload_n 2 d_M_steps_4 rfl rfl ?_
  refine mx_iadd d_M_steps_5 ?_
  refine mx_istore 4 d_M_steps_6 (Nat.le_of_ble_eq_true rfl) ?_
  refine mx_iload_n 2 d_M_steps_8 rfl rfl ?_
  refine mx_iload_n 3 d_M_steps_9 rfl rfl ?_
  refine mx_callS (kc := 0) (ks := 0) (N := n_M_isPoint) (as := [_, _]) d_M_steps_10 s_M_149 ⟨Nat.le_of_ble_eq_true rfl, Nat.le_of_ble_eq_true rfl⟩ rfl (mj_wt_8 (Nat.le_of_ble_eq_true rfl)) (cm_isPoint hx hy) (fun r_10 A_10 h_10 => ?_) (fun E_10 A_x h_10 => ?_)
  rotate_left
  · exact h_10.elim
  obtain ⟨rfl, hA_10⟩ := h_10
  obtain rfl := hA_10.symm
  clear hA_10
  refine mx_R fun hR_1 => ?_
  refine mx_if_eq 71 d_M_steps_13 rfl (by first | assumption | exact hR_1 _ _ | exact hR _ _ | exact r32_mk (by omega) (by omega)) (fun c_13 => ?_) (fun c_13 => ?_)
  · refine mx_vret d_M_steps_71 rfl ?_
    exact ⟨rfl, Or.inr ⟨fun hC => by have h1 := hC.1; have h2 := hC.2.1; have h3 := hC.2.2; omega, rfl⟩⟩
  · refine mx_aload_n 0 d_M_steps_16 rfl rfl ?_
    refine mx_getPs 19 d_M_steps_17 f_M_53 rfl rfl (hM.o) (hM.p19) ?_
    refine mx_sipush d_M_steps_20 (by decide) ?_
    refine mx_iload_n 1 d_M_steps_23 rfl rfl ?_
    refine mx_imul d_M_steps_24 ?_
    refine mx_iload 4 d_M_steps_25 rfl ?_
    refine mx_iadd d_M_steps_27 ?_
    refine mx_iald d_M_steps_28 (hM.s19) (by omega) (by omega) ?_
    refine mx_if_ne 71 d_M_steps_29 rfl (by first | assumption | exact hR_1 _ _ | exact hR _ _ | exact r32_mk (by omega) (by omega)) (fun c_29 => ?_) (fun c_29 => ?_)
    · refine mx_vret d_M_steps_71 rfl ?_
      exact ⟨rfl, Or.inr ⟨fun hC => by have h1 := hC.1; have h2 := hC.2.1; have h3 := hC.2.2; omega, rfl⟩⟩
    · refine mx_aload_n 0 d_M_steps_32 rfl rfl ?_
      refine mx_getPs 21 d_M_steps_33 f_M_59 rfl rfl (hM.o) (hM.p21) ?_
      refine mx_iload 4 d_M_steps_36 rfl ?_
      refine mx_zald d_M_steps_38 (hM.s21) (by omega) (by omega) ?_
      refine mx_if_ne 71 d_M_steps_39 rfl (by first | assumption | exact hR_1 _ _ | exact hR _ _ | exact r32_mk (by omega) (by omega)) (fun c_39 => ?_) (fun c_39 => ?_)
      · refine mx_vret d_M_steps_71 rfl ?_
        exact ⟨rfl, Or.inr ⟨fun hC => by have h1 := hC.1; have h2 := hC.2.1; have h3 := hC.2.2; omega, rfl⟩⟩
      · have hC : (mo_ip x y ∧ gI A 219 (192 * d + (16 * y + x)) = 0 ∧ gI A 221 (16 * y + x) = 0) := ⟨by omega, by assumption, by assumption⟩
        have hn' := hn hC
        have hpt := hC.1
        refine mx_R fun hR => ?_
        refine mx_aload_n 0 d_M_steps_42 rfl rfl ?_
        refine mx_getPs 21 d_M_steps_43 f_M_59 rfl rfl (hM.o) (hM.p21) ?_
        refine mx_iload 4 d_M_steps_46 rfl ?_
        refine mx_iconst d_M_steps_48 ?_
        refine mx_zast d_M_steps_49 (hM.s21) (by omega) (by omega) (by first | exact Or.inl rfl | exact Or.inr rfl | omega) ?_
        refine mx_R fun hR_1 => ?_
        refine mx_aload_n 0 d_M_steps_50 rfl rfl ?_
        refine mx_getPs 20 d_M_steps_51 f_M_56 rfl rfl (hM.o) (hM.p20) ?_
        refine mx_aload_n 0 d_M_steps_54 rfl rfl ?_
        refine mx_getI 45 d_M_steps_55 f_M_180 rfl rfl (hM.o) ?_
        (try simp only [gI_sI, gI_sF, gI_sP, gI_sN, gP_sI, gP_sF, gP_sP, gP_sN, gS_sI, gS_sF, gS_sP, gS_sN, Int.reduceEq, false_and, and_false, true_and, and_true, eq_self, if_false, if_true, reduceIte, reduceCtorEq])
        refine mx_iload 4 d_M_steps_58 rfl ?_
        refine mx_iast d_M_steps_60 (hM.s20) (by omega) (by omega) (by first | assumption | exact hR_1 _ _ | exact hR _ _ | exact r32_mk (by omega) (by omega)) ?_
        refine mx_R fun hR_2 => ?_
        refine mx_aload_n 0 d_M_steps_61 rfl rfl ?_
        refine mx_dup d_M_steps_62 (fun z h => by cases h) ?_
        refine mx_getI 45 d_M_steps_63 f_M_180 rfl rfl (hM.o) ?_
        (try simp only [gI_sI, gI_sF, gI_sP, gI_sN, gP_sI, gP_sF, gP_sP, gP_sN, gS_sI, gS_sF, gS_sP, gS_sN, Int.reduceEq, false_and, and_false, true_and, and_true, eq_self, if_false, if_true, reduceIte, reduceCtorEq])
        refine mx_iconst d_M_steps_66 ?_
        refine mx_iadd d_M_steps_67 ?_
        refine mx_putI 45 d_M_steps_68 f_M_180 rfl (hM.o) (Or.inl rfl) (Or.inl rfl) (by first | assumption | exact hR_2 _ _ | exact hR_1 _ _ | exact hR _ _ | exact r32_mk (by omega) (by omega)) ?_
        refine mx_R fun hR_3 => ?_
        refine mx_vret d_M_steps_71 rfl ?_
        exact ⟨rfl, Or.inl ⟨hC, rfl⟩⟩
/-- the memory of a filling under way -/
def fi_m (B : mj_M) (g c w : Int → Int) (n : Int) : mj_M := sI (sF (sF (sF B 218 g) 220 w) 221 c) 200 45 n
theorem fi_m1 {B : mj_M} {g c w : Int → Int} {n p : Int} : sI (sI (sI (fi_m B g c w n) 221 p 1) 220 n p) 200 45 (n + 1) = fi_m B g (fun q => if q = p then 1 else c q) (fun i => if i = n then p else w i) (n + 1) := by
  unfold fi_m
  exact mj_ext3 (fun _ => rfl) (fun c_ x_ => by simp only [gI_sI, gI_sF]; grind) (fun _ _ => rfl)
theorem fi_mo {B : mj_M} {g c w : Int → Int} {n i : Int} (c' : Int) (h1 : c' ≠ 218) (h2 : c' ≠ 220) (h3 : c' ≠ 221) (h4 : c' ≠ 200) : gI (fi_m B g c w n) c' i = gI B c' i := by
  unfold fi_m
  simp only [gI_sI, gI_sF]
  rw [if_neg (fun h => h4 h.1), if_neg h3, if_neg h2, if_neg h1]
abbrev fi_op (A : mj_M) (d q : Int) : Prop := (0 ≤ q ∧ q < 192) ∧ gI A 219 (192 * d + q) = 0
theorem cm_steps_f {B : mj_M} {g c w : Int → Int} {n k d a x y : Int} (hM : MS B) (hd : 0 ≤ d ∧ d < 16) (hx : r32 x) (hy : r32 y) (hb : bf_ok (fi_op B d) a c w n k) (hk : k ≤ n) (hr : mo_ip x y → fi_op B d (16 * y + x) → bf_re (fi_op B d) a (16 * y + x)) :
    mj_Cal G n_M_steps [mR (some 200), mI d, mI x, mI y] (fi_m B g c w n) (fun r A' => r = none ∧ ∃ c' w' n', A' = fi_m B g c' w' n' ∧ bf_ok (fi_op B d) a c' w' n' k ∧ n ≤ n' ∧ (∀ q, c q = 1 → c' q = 1) ∧ (∀ i, 0 ≤ i → i < n → w' i = w i) ∧ (mo_ip x y → fi_op B d (16 * y + x) → c' (16 * y + x) = 1)) mj_no := by
  have e1 : gI (fi_m B g c w n) 200 45 = n := rfl
  have e2 : ∀ q, gI (fi_m B g c w n) 221 q = c q := fun q => rfl
  have e3 : ∀ q, gI (fi_m B g c w n) 219 q = gI B 219 q := fun q => rfl
  have hn0 := bf_n hb
  refine (cm_steps (A := fi_m B g c w n) hM hd hx hy fun hC => ?_).mono (fun r A' h => ?_) (fun _ _ h => h)
  · have h1 := hC.1
    have h3 : c (16 * y + x) = 0 := hC.2.2
    have := bf_n1 hb (p := 16 * y + x) ⟨by omega, by omega⟩ h3
    rw [e1]
    exact ⟨hn0.1, this⟩
  · obtain ⟨hr0, h⟩ := h
    refine ⟨hr0, ?_⟩
    rcases h with ⟨hC, rfl⟩ | ⟨hC, rfl⟩
    · have h1 := hC.1
      have h3 : c (16 * y + x) = 0 := hC.2.2
      have h4 : fi_op B d (16 * y + x) := ⟨⟨by omega, by omega⟩, hC.2.1⟩
      rw [e1, fi_m1]
      refine ⟨_, _, _, rfl, bf_add hb hk h4.1 h3 (hr h1 h4), by omega, fun q hq => ?_, fun i i0 i1 => if_neg (by omega), fun _ _ => if_pos rfl⟩
      show (if q = 16 * y + x then 1 else c q) = 1
      split
      · rfl
      · exact hq
    · refine ⟨c, w, n, rfl, hb, Int.le_refl n, fun q hq => hq, fun i _ _ => rfl, fun h1 h4 => ?_⟩
      rcases hb.2.1 (16 * y + x) with h5 | h5
      · exact absurd ⟨h1, h4.2, h5⟩ hC
      · exact h5
theorem bf_kk {op : Int → Prop} {a : Int} {c w : Int → Int} {n k : Int} (h : bf_ok op a c w n k) (h1 : ∀ q, bf_nb (w k) q → op q → c q = 1) : bf_ok op a c w n (k + 1) := by
  obtain ⟨a1, a2, a3, a4, a5, a6, a7⟩ := h
  refine ⟨a1, a2, a3, a4, a5, fun i i0 i1 q => ?_, a7⟩
  by_cases e : i = k
  · rw [e]; exact h1 q
  · exact a6 i i0 (by omega) q
theorem fi_m2 {B : mj_M} {g c w : Int → Int} {n p v : Int} : sI (fi_m B g c w n) 218 p v = fi_m B (fun q => if q = p then v else g q) c w n := by
  unfold fi_m
  exact mj_ext3 (fun _ => rfl) (fun c_ x_ => by simp only [gI_sI, gI_sF]; grind) (fun _ _ => rfl)
theorem cm_fills_3 {B : mj_M} {g c w : Int → Int} {n k d a v p : Int} {P : Option mj_V → mj_M → Prop} (hM : MS B) (hd : 0 ≤ d ∧ d < 16) (hb : bf_ok (fi_op B d) a c w n k) (hk : 0 ≤ k ∧ k < n) (hp : w k = p) (hpr : 0 ≤ p ∧ p < 192) (hl : 0 < p % 16 → fi_op B d (p - 1) → c (p - 1) = 1) (hu : 16 ≤ p → fi_op B d (p - 16) → c (p - 16) = 1)
    (hx : ∀ c' w' n', bf_ok (fi_op B d) a c' w' n' (k + 1) → n ≤ n' → (∀ q, c q = 1 → c' q = 1) → (∀ i, 0 ≤ i → i < n → w' i = w i) → mj_X G n_M_fills (mj_Qm G n_M_fills P mj_no) (fi_m B g c' w' n') 0 0 46 [some (mR (some 200)), some (mI d), some (mI a), some (mI v), some (mI (k + 1)), some (mI (p % 16)), some (mI (p / 16))] []) :
    mj_X G n_M_fills (mj_Qm G n_M_fills P mj_no) (fi_m B g c w n) 0 0 130 [some (mR (some 200)), some (mI d), some (mI a), some (mI v), some (mI k), some (mI (p % 16)), some (mI (p / 16))] [] := by
  have hcp : c p = 1 := by rw [← hp]; exact hb.2.2.2.1 k hk.1 hk.2
  have hrp := hb.2.2.1 p hcp
  refine mx_R fun hR => ?_
  refine mx_aload_n 0 d_M_fills_130 rfl rfl ?_
  refine mx_iload_n 1 d_M_fills_131 rfl rfl ?_
  refine mx_iload 5 d_M_fills_132 rfl ?_
  refine mx_iconst d_M_fills_134 ?_
  refine mx_iadd d_M_fills_135 ?_
  refine mx_iload 6 d_M_fills_136 rfl ?_
  refine mx_callV (kc := 0) (ks := 0) (N := n_M_steps) (as := [_, _, _]) (ci := 7) d_M_fills_138 s_M_183 ⟨Nat.le_of_ble_eq_true rfl, Nat.le_of_ble_eq_true rfl⟩ rfl (mj_wt_8 (Nat.le_of_ble_eq_true rfl)) (hM.o) ⟨_, rfl, rfl⟩ (cm_steps_f (B := B) hM hd (r32_mk (by omega) (by omega)) (r32_mk (by omega) (by omega)) hb (by omega) (fun h1 h2 => bf_step hrp (by unfold bf_nb; omega) h2)) (fun r_138 A_138 h_138 => ?_) (fun E_138 A_x h_138 => ?_)
  rotate_left
  · exact h_138.elim
  obtain ⟨rfl, c1, w1, n1, hA_138, hb1, hn1, hm1, hw1, hs1⟩ := h_138
  obtain rfl := hA_138.symm
  clear hA_138
  refine mx_R fun hR_1 => ?_
  refine mx_aload_n 0 d_M_fills_141 rfl rfl ?_
  refine mx_iload_n 1 d_M_fills_142 rfl rfl ?_
  refine mx_iload 5 d_M_fills_143 rfl ?_
  refine mx_iload 6 d_M_fills_145 rfl ?_
  refine mx_iconst d_M_fills_147 ?_
  refine mx_iadd d_M_fills_148 ?_
  refine mx_callV (kc := 0) (ks := 0) (N := n_M_steps) (as := [_, _, _]) (ci := 7) d_M_fills_149 s_M_183 ⟨Nat.le_of_ble_eq_true rfl, Nat.le_of_ble_eq_true rfl⟩ rfl (mj_wt_8 (Nat.le_of_ble_eq_true rfl)) (hM.o) ⟨_, rfl, rfl⟩ (cm_steps_f (B := B) hM hd (r32_mk (by omega) (by omega)) (r32_mk (by omega) (by omega)) hb1 (by omega) (fun h1 h2 => bf_step hrp (by unfold bf_nb; omega) h2)) (fun r_149 A_149 h_149 => ?_) (fun E_149 A_x h_149 => ?_)
  rotate_left
  · exact h_149.elim
  obtain ⟨rfl, c2, w2, n2, hA_149, hb2, hn2, hm2, hw2, hs2⟩ := h_149
  obtain rfl := hA_149.symm
  clear hA_149
  refine mx_R fun hR_2 => ?_
  refine mx_iinc 4 d_M_fills_152 rfl (Nat.le_of_ble_eq_true rfl) ?_
  refine mx_goto 46 d_M_fills_155 rfl ?_
  refine hx c2 w2 n2 (bf_kk hb2 fun q hq ho => ?_) (by omega) (fun q hq => hm2 q (hm1 q hq)) (fun i i0 i1 => by rw [hw2 i i0 (by omega), hw1 i i0 i1])
  rw [hw2 k hk.1 (by omega), hw1 k hk.1 hk.2, hp] at hq
  rcases hq with ⟨e, h⟩ | ⟨e, h⟩ | ⟨e, h⟩ | ⟨e, h⟩
  · rw [e]; rw [e] at ho; exact hm2 _ (hm1 _ (hl h ho))
  · have e2 : 16 * (p / 16) + (p % 16 + 1) = q := by omega
    rw [e2] at hs1
    exact hm2 _ (hs1 ⟨by omega, by omega, by omega, by omega⟩ ho)
  · rw [e]; rw [e] at ho; exact hm2 _ (hm1 _ (hu h ho))
  · have e2 : 16 * (p / 16 + 1) + p % 16 = q := by omega
    rw [e2] at hs2
    exact hs2 ⟨by omega, by omega, by omega, by omega⟩ ho
theorem cm_fills_2 {B : mj_M} {g c w : Int → Int} {n k d a v p : Int} {P : Option mj_V → mj_M → Prop} (hM : MS B) (hd : 0 ≤ d ∧ d < 16) (hb : bf_ok (fi_op B d) a c w n k) (hk : 0 ≤ k ∧ k < n) (hp : w k = p) (hpr : 0 ≤ p ∧ p < 192) (hl : 0 < p % 16 → fi_op B d (p - 1) → c (p - 1) = 1)
    (hx : ∀ c' w' n', bf_ok (fi_op B d) a c' w' n' (k + 1) → n ≤ n' → (∀ q, c q = 1 → c' q = 1) → (∀ i, 0 ≤ i → i < n → w' i = w i) → mj_X G n_M_fills (mj_Qm G n_M_fills P mj_no) (fi_m B g c' w' n') 0 0 46 [some (mR (some 200)), some (mI d), some (mI a), some (mI v), some (mI (k + 1)), some (mI (p % 16)), some (mI (p / 16))] []) :
    mj_X G n_M_fills (mj_Qm G n_M_fills P mj_no) (fi_m B g c w n) 0 0 114 [some (mR (some 200)), some (mI d), some (mI a), some (mI v), some (mI k), some (mI (p % 16)), some (mI (p / 16))] [] := by
  have hcp : c p = 1 := by rw [← hp]; exact hb.2.2.2.1 k hk.1 hk.2
  have hrp := hb.2.2.1 p hcp
  refine mx_R fun hR => ?_
  refine mx_iload 6 d_M_fills_114 rfl ?_
  refine mx_if_le 130 d_M_fills_116 rfl (by first | assumption | exact hR _ _ | exact r32_mk (by omega) (by omega)) (fun c_116 => ?_) (fun c_116 => ?_)
  · exact cm_fills_3 hM hd hb hk hp hpr hl (fun h => absurd h (by omega)) hx
  · refine mx_aload_n 0 d_M_fills_119 rfl rfl ?_
    refine mx_iload_n 1 d_M_fills_120 rfl rfl ?_
    refine mx_iload 5 d_M_fills_121 rfl ?_
    refine mx_iload 6 d_M_fills_123 rfl ?_
    refine mx_iconst d_M_fills_125 ?_
    refine mx_isub d_M_fills_126 ?_
    refine mx_callV (kc := 0) (ks := 0) (N := n_M_steps) (as := [_, _, _]) (ci := 7) d_M_fills_127 s_M_183 ⟨Nat.le_of_ble_eq_true rfl, Nat.le_of_ble_eq_true rfl⟩ rfl (mj_wt_8 (Nat.le_of_ble_eq_true rfl)) (hM.o) ⟨_, rfl, rfl⟩ (cm_steps_f (B := B) hM hd (r32_mk (by omega) (by omega)) (r32_mk (by omega) (by omega)) hb (by omega) (fun h1 h2 => bf_step hrp (by unfold bf_nb; omega) h2)) (fun r_127 A_127 h_127 => ?_) (fun E_127 A_x h_127 => ?_)
    rotate_left
    · exact h_127.elim
    obtain ⟨rfl, c1, w1, n1, hA_127, hb1, hn1, hm1, hw1, hs1⟩ := h_127
    obtain rfl := hA_127.symm
    clear hA_127
    refine mx_R fun hR_1 => ?_
    have e2 : 16 * (p / 16 - 1) + p % 16 = p - 16 := by omega
    rw [e2] at hs1
    exact cm_fills_3 hM hd hb1 ⟨hk.1, by omega⟩ (by rw [hw1 k hk.1 hk.2, hp]) hpr (fun h1 h2 => hm1 _ (hl h1 h2)) (fun h1 h2 => hs1 ⟨by omega, by omega, by omega, by omega⟩ h2) (fun c' w' n' b1 b2 b3 b4 => hx c' w' n' b1 (by omega) (fun q hq => b3 q (hm1 q hq)) (fun i i0 i1 => by rw [b4 i i0 (by omega), hw1 i i0 i1]))
theorem cm_fills_1 {B : mj_M} {g c w : Int → Int} {n k d a v p : Int} {P : Option mj_V → mj_M → Prop} (hM : MS B) (hd : 0 ≤ d ∧ d < 16) (hb : bf_ok (fi_op B d) a c w n k) (hk : 0 ≤ k ∧ k < n) (hp : w k = p) (hpr : 0 ≤ p ∧ p < 192)
    (hx : ∀ c' w' n', bf_ok (fi_op B d) a c' w' n' (k + 1) → n ≤ n' → (∀ q, c q = 1 → c' q = 1) → (∀ i, 0 ≤ i → i < n → w' i = w i) → mj_X G n_M_fills (mj_Qm G n_M_fills P mj_no) (fi_m B g c' w' n') 0 0 46 [some (mR (some 200)), some (mI d), some (mI a), some (mI v), some (mI (k + 1)), some (mI (p % 16)), some (mI (p / 16))] []) :
    mj_X G n_M_fills (mj_Qm G n_M_fills P mj_no) (fi_m B g c w n) 0 0 98 [some (mR (some 200)), some (mI d), some (mI a), some (mI v), some (mI k), some (mI (p % 16)), some (mI (p / 16))] [] := by
  have hcp : c p = 1 := by rw [← hp]; exact hb.2.2.2.1 k hk.1 hk.2
  have hrp := hb.2.2.1 p hcp
  refine mx_R fun hR => ?_
  refine mx_iload 5 d_M_fills_98 rfl ?_
  refine mx_if_le 114 d_M_fills_100 rfl (by first | assumption | exact hR _ _ | exact r32_mk (by omega) (by omega)) (fun c_100 => ?_) (fun c_100 => ?_)
  · exact cm_fills_2 hM hd hb hk hp hpr (fun h => absurd h (by omega)) hx
  · refine mx_aload_n 0 d_M_fills_103 rfl rfl ?_
    refine mx_iload_n 1 d_M_fills_104 rfl rfl ?_
    refine mx_iload 5 d_M_fills_105 rfl ?_
    refine mx_iconst d_M_fills_107 ?_
    refine mx_isub d_M_fills_108 ?_
    refine mx_iload 6 d_M_fills_109 rfl ?_
    refine mx_callV (kc := 0) (ks := 0) (N := n_M_steps) (as := [_, _, _]) (ci := 7) d_M_fills_111 s_M_183 ⟨Nat.le_of_ble_eq_true rfl, Nat.le_of_ble_eq_true rfl⟩ rfl (mj_wt_8 (Nat.le_of_ble_eq_true rfl)) (hM.o) ⟨_, rfl, rfl⟩ (cm_steps_f (B := B) hM hd (r32_mk (by omega) (by omega)) (r32_mk (by omega) (by omega)) hb (by omega) (fun h1 h2 => bf_step hrp (by unfold bf_nb; omega) h2)) (fun r_111 A_111 h_111 => ?_) (fun E_111 A_x h_111 => ?_)
    rotate_left
    · exact h_111.elim
    obtain ⟨rfl, c1, w1, n1, hA_111, hb1, hn1, hm1, hw1, hs1⟩ := h_111
    obtain rfl := hA_111.symm
    clear hA_111
    refine mx_R fun hR_1 => ?_
    have e2 : 16 * (p / 16) + (p % 16 - 1) = p - 1 := by omega
    rw [e2] at hs1
    exact cm_fills_2 hM hd hb1 ⟨hk.1, by omega⟩ (by rw [hw1 k hk.1 hk.2, hp]) hpr (fun h1 h2 => hs1 ⟨by omega, by omega, by omega, by omega⟩ h2) (fun c' w' n' b1 b2 b3 b4 => hx c' w' n' b1 (by omega) (fun q hq => b3 q (hm1 q hq)) (fun i i0 i1 => by rw [b4 i i0 (by omega), hw1 i i0 i1]))
end MODA
