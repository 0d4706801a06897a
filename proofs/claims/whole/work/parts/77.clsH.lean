/-! THE HOUSE, 16: calls that tell -/
theorem mo_an_c {A B : mj_M} {d : Int} (h : ∀ c, 222 ≤ c → c ≤ 237 → gI B c = gI A c) (h4 : gI B 204 = gI A 204) (h5 : gI B 205 = gI A 205) (h23 : gI B 200 23 = gI A 200 23) : mo_an B d = mo_an A d := by
  unfold mo_an
  rw [h23, h 224 (by omega) (by omega)]
  have e : ∀ s f, mo_hn B s f d 4 = mo_hn A s f d 4 := fun s f => mo_hn_c h h4 h5 4
  simp only [e]
/-- the last told at f among n -/
def mv_k (t : Int → Int) (p f : Int) : Nat → Int
  | 0 => -1
  | k + 1 => if t (6 * p + k) = f then k else mv_k t p f k
theorem mv_k_r {t : Int → Int} {p f : Int} : ∀ n : Nat, (mv_k t p f n = -1 ∧ ∀ k : Int, 0 ≤ k → k < n → t (6 * p + k) ≠ f) ∨ ((0 ≤ mv_k t p f n ∧ mv_k t p f n < n) ∧ t (6 * p + mv_k t p f n) = f)
  | 0 => Or.inl ⟨rfl, fun k k0 k1 => by omega⟩
  | n + 1 => by
    rw [mv_k]
    by_cases e : t (6 * p + n) = f
    · rw [if_pos e]; exact Or.inr ⟨by omega, e⟩
    · rw [if_neg e]
      rcases mv_k_r (t := t) (p := p) (f := f) n with h | h
      · refine Or.inl ⟨h.1, fun k k0 k1 => ?_⟩
        by_cases e2 : k = n
        · rw [e2]; exact e
        · exact h.2 k k0 (by omega)
      · exact Or.inr ⟨by omega, h.2⟩
section CLSH
variable {G : mj_G} {A : mj_M}
abbrev px1 (A : mj_M) (E1 : String) (P1 : Prop) : String → mj_M → Prop := fun E A' => A' = A ∧ E = E1 ∧ ¬ P1
abbrev px2 (A : mj_M) (E1 E2 : String) (P1 P2 : Prop) : String → mj_M → Prop := fun E A' => A' = A ∧ ((E = E1 ∧ ¬ P1) ∨ (E = E2 ∧ P1 ∧ ¬ P2))
abbrev px3 (A : mj_M) (E1 E2 E3 : String) (P1 P2 P3 : Prop) : String → mj_M → Prop := fun E A' => A' = A ∧ ((E = E1 ∧ ¬ P1) ∨ (E = E2 ∧ P1 ∧ ¬ P2) ∨ (E = E3 ∧ P1 ∧ P2 ∧ ¬ P3))
section MT
variable {M : mj_I} {kc ks pc : Nat} {L : List (Option mj_V)} {Post : Option mj_V → mj_M → Prop} {PX : String → mj_M → Prop} {E E0 : String} {P : Prop} {A_x : mj_M}
theorem mt_n (h : xn A E0 P E A_x) (hh : mi_hh M = []) (k : ¬ P → PX E0 A) : mj_T G M (mj_Qm G M Post PX) A_x kc ks pc L E := by
  obtain ⟨rfl, hn, rfl⟩ := h
  exact mt_out hh (k hn)
end MT
theorem ct_pen {x y : Int} (hH : HS A) (hx : r32 x) (hy : r32 y) : mj_Cal G n_H_pen [mR (some 100), mI x, mI y] A (fun r A' => r = none ∧ mo_ip x y ∧ A' = sI (sI A 100 2 x) 100 3 y) (px1 A xI (mo_ip x y)) := by
  refine mj_bodyK 1 6 [some (mR (some 100)), some (mI x), some (mI y)] rfl rfl rfl (by decide +kernel) (Nat.le_of_ble_eq_true rfl) (by simp) rfl ?_
  refine mx_R fun hR => ?_
  refine mx_iload_n 1 d_H_pen_0 rfl rfl ?_
  refine mx_iload_n 2 d_H_pen_1 rfl rfl ?_
  refine mx_callS (kc := 0) (ks := 0) (N := n_H_needPoint) (as := [_, _]) d_H_pen_2 s_H_92 ⟨Nat.le_of_ble_eq_true rfl, Nat.le_of_ble_eq_true rfl⟩ rfl (mj_wt_8 (Nat.le_of_ble_eq_true rfl)) (ct_needPoint hx hy) (fun r_2 A_2 h_2 => ?_) (fun E_2 A_x h_2 => ?_)
  rotate_left
  · exact mt_n h_2 rfl fun hn => ⟨rfl, rfl, hn⟩
  obtain ⟨rfl, hP, hA_2⟩ := h_2
  obtain rfl := hA_2.symm
  clear hA_2
  refine mx_R fun hR_1 => ?_
  refine mx_aload_n 0 d_H_pen_5 rfl rfl ?_
  refine mx_iload_n 1 d_H_pen_6 rfl rfl ?_
  refine mx_putI 2 d_H_pen_7 f_H_109 rfl (hH.o) (Or.inl rfl) (Or.inl rfl) (by first | assumption | exact hR_1 _ _ | exact hR _ _ | exact r32_mk (by omega) (by omega)) ?_
  refine mx_R fun hR_2 => ?_
  refine mx_aload_n 0 d_H_pen_10 rfl rfl ?_
  refine mx_iload_n 2 d_H_pen_11 rfl rfl ?_
  refine mx_putI 3 d_H_pen_12 f_H_112 rfl (hH.o) (Or.inl rfl) (Or.inl rfl) (by first | assumption | exact hR_2 _ _ | exact hR_1 _ _ | exact hR _ _ | exact r32_mk (by omega) (by omega)) ?_
  refine mx_R fun hR_3 => ?_
  refine mx_vret d_H_pen_15 rfl ?_
  exact ⟨rfl, hP, rfl⟩
theorem ct_approve {C : Int → cT} {d z : Int} (hj : JJ C A) (hd : r32 d) (hz : z = 0 ∨ z = 1) : mj_Cal G n_H_approve [mR (some 100), mI d, mI z] A (fun r A' => ((0 ≤ d ∧ d < gI A 200 3) ∧ ((0 ≤ d ∧ d < gI A 200 3) ∧ gI A 208 d ≠ z)) ∧ r = some (mI (mo_an A d)) ∧ A' = sI A (1000 + 100 * d) 11 z) (px2 A xI xS (0 ≤ d ∧ d < gI A 200 3) ((0 ≤ d ∧ d < gI A 200 3) ∧ gI A 208 d ≠ z)) := by
  refine mj_bodyK 2 12 [some (mR (some 100)), some (mI d), some (mI z)] rfl rfl rfl (by decide +kernel) (Nat.le_of_ble_eq_true rfl) (by simp) rfl ?_
  have hH := hj.x.H
  have hD := hj.D
  have hxn := hj.x.n
  have hnd := hj.m.g.nd
  refine mx_R fun hR => ?_
  refine mx_aload_n 0 d_H_approve_0 rfl rfl ?_
  refine mx_iload_n 1 d_H_approve_1 rfl rfl ?_
  refine mx_callV (kc := 1) (ks := 6) (N := n_H_needDrawing) (as := [_]) (ci := 6) d_H_approve_2 s_H_75 ⟨Nat.le_of_ble_eq_true rfl, Nat.le_of_ble_eq_true rfl⟩ rfl (mj_wt_8 (Nat.le_of_ble_eq_true rfl)) (hH.o) ⟨_, rfl, rfl⟩ (ct_needDrawing hj hd) (fun r_2 A_2 h_2 => ?_) (fun E_2 A_x h_2 => ?_)
  rotate_left
  · exact mt_n h_2 rfl fun hn => ⟨rfl, Or.inl ⟨rfl, hn⟩⟩
  obtain ⟨rfl, hP, hA_2⟩ := h_2
  obtain rfl := hA_2.symm
  clear hA_2
  refine mx_R fun hR_1 => ?_
  refine mx_aload_n 0 d_H_approve_5 rfl rfl ?_
  refine mx_getPs 0 d_H_approve_6 f_H_11 rfl rfl (hH.o) (hH.p0) ?_
  refine mx_iload_n 1 d_H_approve_9 rfl rfl ?_
  refine mx_aalds d_H_approve_10 (hH.s0) (by decide) (by omega) (by omega) (hj.x.r d hP.1 (by omega)) ?_
  refine mx_getI 11 d_H_approve_11 f_H_150 rfl rfl (hD.o _ (by omega) (by omega)) ?_
  rw [hj.h.ap d hP.1 hP.2]
  refine mx_iload_n 2 d_H_approve_14 rfl rfl ?_
  refine mx_icmp_ne 28 d_H_approve_15 rfl ((by rw [← hj.h.ap d hP.1 hP.2]; exact hR _ _)) ((r32_mk (by omega) (by omega))) (fun c_15 => ?_) (fun c_15 => ?_)
  · refine mx_aload_n 0 d_H_approve_28 rfl rfl ?_
    refine mx_getPs 0 d_H_approve_29 f_H_11 rfl rfl (hH.o) (hH.p0) ?_
    refine mx_iload_n 1 d_H_approve_32 rfl rfl ?_
    refine mx_aalds d_H_approve_33 (hH.s0) (by decide) (by omega) (by omega) (hj.x.r d hP.1 (by omega)) ?_
    refine mx_iload_n 2 d_H_approve_34 rfl rfl ?_
    refine mx_putI 11 d_H_approve_35 f_H_150 rfl (hD.o _ (by omega) (by omega)) (Or.inl rfl) (Or.inr ⟨rfl, hz⟩) (by first | assumption | exact hR_1 _ _ | exact hR _ _ | exact r32_mk (by omega) (by omega)) ?_
    refine mx_R fun hR_2 => ?_
    have eI : ∀ c i, c ≠ (1000 + 100 * d) → gI (sI A (1000 + 100 * d) 11 z) c i = gI A c i := fun c i hc => by rw [gI_sI, if_neg (fun h => hc h.1)]
    have eF : ∀ c, c < 1000 → gI (sI A (1000 + 100 * d) 11 z) c = gI A c := fun c hc => funext fun i => eI c i (by omega)
    have hx2 : CX (sI A (1000 + 100 * d) 11 z) := CX_ag (A := A) (fun _ _ _ => rfl) (fun _ _ _ => rfl) (fun c i hc => by rw [gI_sI, if_neg (by omega)]) hj.x
    have hs2 : SK (sI A (1000 + 100 * d) 11 z) := SK_ag (A := A) hj.m.g.ns (fun _ _ _ => rfl) (fun _ _ _ => rfl) (fun c i hc => eI c i (by omega)) hj.s
    have hm2 : MI C (sI A (1000 + 100 * d) 11 z) := MI_ag (A := A) (fun _ _ _ => rfl) (fun _ _ _ _ => rfl) (fun c i h0 h1 => eI c i (by omega)) hj.m
    refine mx_aload_n 0 d_H_approve_38 rfl rfl ?_
    refine mx_iload_n 1 d_H_approve_39 rfl rfl ?_
    refine mx_callV (kc := 1) (ks := 6) (N := n_H_framesHangingOn) (as := [_]) (ci := 6) d_H_approve_40 s_H_155 ⟨Nat.le_of_ble_eq_true rfl, Nat.le_of_ble_eq_true rfl⟩ rfl (mj_wt_8 (Nat.le_of_ble_eq_true rfl)) (hH.o) ⟨_, rfl, rfl⟩ (ct_framesHangingOn (A := sI A (1000 + 100 * d) 11 z) hx2 hs2 hm2.g (by rw [eF 200 (by omega)]; exact hP)) (fun r_40 A_40 h_40 => ?_) (fun E_40 A_x h_40 => ?_)
    rotate_left
    · exact h_40.elim
    obtain ⟨rfl, hA_40⟩ := h_40
    obtain rfl := hA_40.symm
    clear hA_40
    refine mx_R fun hR_3 => ?_
    refine mx_iret d_H_approve_43 rfl ?_
    refine ⟨⟨hP, hP, by omega⟩, ?_, rfl⟩
    rw [mo_an_c (A := A) (fun c h0 h1 => eF c (by omega)) (eF 204 (by omega)) (eF 205 (by omega)) (by rw [eF 200 (by omega)])]
  · refine mx_throw (text := "it is so already") t_H_134_138 (by decide) rfl (Nat.le_of_ble_eq_true rfl) (Nat.le_of_ble_eq_true rfl) d_H_approve_18 d_H_approve_21 d_H_approve_22 d_H_approve_24 d_H_approve_27 ?_
    exact ⟨rfl, Or.inr ⟨rfl, hP, by omega⟩⟩
theorem ct_colour {C : Int → cT} {p its c : Int} (hj : JJ C A) (hp : r32 p) (hi : r32 its) (hc : r32 c) : mj_Cal G n_H_colour [mR (some 100), mI p, mI its, mI c] A (fun r A' => ((0 ≤ p ∧ p ≤ 3 ∧ 0 ≤ its ∧ its ≤ 7) ∧ (1 ≤ c ∧ c ≤ 99)) ∧ r = some (mI (gI A 222 (8 * p + its))) ∧ A' = sI A 105 (8 * p + its) c) (px2 A xI xA (0 ≤ p ∧ p ≤ 3 ∧ 0 ≤ its ∧ its ≤ 7) (1 ≤ c ∧ c ≤ 99)) := by
  refine mj_bodyK 3 18 [some (mR (some 100)), some (mI p), some (mI its), some (mI c), none, none] rfl rfl rfl (by decide +kernel) (Nat.le_of_ble_eq_true rfl) (by simp) rfl ?_
  have hH := hj.x.H
  refine mx_R fun hR => ?_
  refine mx_iload_n 1 d_H_colour_0 rfl rfl ?_
  refine mx_callS (kc := 2) (ks := 12) (N := n_H_needPalette) (as := [_]) d_H_colour_1 s_H_159 ⟨Nat.le_of_ble_eq_true rfl, Nat.le_of_ble_eq_true rfl⟩ rfl (mj_wt_8 (Nat.le_of_ble_eq_true rfl)) (ct_needPalette hp) (fun r_1 A_1 h_1 => ?_) (fun E_1 A_x h_1 => ?_)
  rotate_left
  · exact mt_n h_1 rfl fun hn => ⟨rfl, Or.inl ⟨rfl, by omega⟩⟩
  obtain ⟨rfl, h1, hA_1⟩ := h_1
  obtain rfl := hA_1.symm
  clear hA_1
  refine mx_R fun hR_1 => ?_
  refine mx_iload_n 2 d_H_colour_4 rfl rfl ?_
  refine mx_callS (kc := 1) (ks := 6) (N := n_H_needColourName) (as := [_]) d_H_colour_5 s_H_96 ⟨Nat.le_of_ble_eq_true rfl, Nat.le_of_ble_eq_true rfl⟩ rfl (mj_wt_8 (Nat.le_of_ble_eq_true rfl)) (ct_needColourName hi) (fun r_5 A_5 h_5 => ?_) (fun E_5 A_x h_5 => ?_)
  rotate_left
  · exact mt_n h_5 rfl fun hn => ⟨rfl, Or.inl ⟨rfl, by omega⟩⟩
  obtain ⟨rfl, h2, hA_5⟩ := h_5
  obtain rfl := hA_5.symm
  clear hA_5
  refine mx_R fun hR_2 => ?_
  refine mx_iload_n 3 d_H_colour_8 rfl rfl ?_
  refine mx_iconst d_H_colour_9 ?_
  refine mx_icmp_lt 19 d_H_colour_10 rfl (by first | assumption | exact hR_2 _ _ | exact hR_1 _ _ | exact hR _ _ | exact r32_mk (by omega) (by omega)) (by first | assumption | exact hR_2 _ _ | exact hR_1 _ _ | exact hR _ _ | exact r32_mk (by omega) (by omega)) (fun c_10 => ?_) (fun c_10 => ?_)
  · refine mx_throw (text := "a colour is 1 to 99") t_H_79_83 (by decide) rfl (Nat.le_of_ble_eq_true rfl) (Nat.le_of_ble_eq_true rfl) d_H_colour_19 d_H_colour_22 d_H_colour_23 d_H_colour_25 d_H_colour_28 ?_
    exact ⟨rfl, Or.inr ⟨rfl, by omega, by omega⟩⟩
  · refine mx_iload_n 3 d_H_colour_13 rfl rfl ?_
    refine mx_bipush d_H_colour_14 (by decide) ?_
    refine mx_icmp_le 29 d_H_colour_16 rfl (by first | assumption | exact hR_2 _ _ | exact hR_1 _ _ | exact hR _ _ | exact r32_mk (by omega) (by omega)) (by first | assumption | exact hR_2 _ _ | exact hR_1 _ _ | exact hR _ _ | exact r32_mk (by omega) (by omega)) (fun c_16 => ?_) (fun c_16 => ?_)
    · refine mx_iload_n 1 d_H_colour_29 rfl rfl ?_
      refine mx_bipush d_H_colour_30 (by decide) ?_
      refine mx_imul d_H_colour_32 ?_
      refine mx_iload_n 2 d_H_colour_33 rfl rfl ?_
      refine mx_iadd d_H_colour_34 ?_
      rw [show p * 8 + its = 8 * p + its by omega]
      refine mx_istore 4 d_H_colour_35 (Nat.le_of_ble_eq_true rfl) ?_
      refine mx_aload_n 0 d_H_colour_37 rfl rfl ?_
      refine mx_getPs 4 d_H_colour_38 f_H_15 rfl rfl (hH.o) (hH.p4) ?_
      refine mx_iload 4 d_H_colour_41 rfl ?_
      refine mx_iald d_H_colour_43 (hH.s4) (by omega) (by omega) ?_
      rw [hj.s.pl _ (by omega) (by omega)]
      refine mx_istore 5 d_H_colour_44 (Nat.le_of_ble_eq_true rfl) ?_
      refine mx_aload_n 0 d_H_colour_46 rfl rfl ?_
      refine mx_getPs 4 d_H_colour_47 f_H_15 rfl rfl (hH.o) (hH.p4) ?_
      refine mx_iload 4 d_H_colour_50 rfl ?_
      refine mx_iload_n 3 d_H_colour_52 rfl rfl ?_
      refine mx_iast d_H_colour_53 (hH.s4) (by omega) (by omega) (by first | assumption | exact hR_2 _ _ | exact hR_1 _ _ | exact hR _ _ | exact r32_mk (by omega) (by omega)) ?_
      refine mx_R fun hR_3 => ?_
      refine mx_iload 5 d_H_colour_54 rfl ?_
      refine mx_iret d_H_colour_56 rfl ?_
      exact ⟨⟨by omega, by omega⟩, rfl, rfl⟩
    · refine mx_throw (text := "a colour is 1 to 99") t_H_79_83 (by decide) rfl (Nat.le_of_ble_eq_true rfl) (Nat.le_of_ble_eq_true rfl) d_H_colour_19 d_H_colour_22 d_H_colour_23 d_H_colour_25 d_H_colour_28 ?_
      exact ⟨rfl, Or.inr ⟨rfl, by omega, by omega⟩⟩
theorem ct_expose {C : Int → cT} {s l f w : Int} (hj : JJ C A) (hs : r32 s) (hl : r32 l) (hf : r32 f) (hw : r32 w) : mj_Cal G n_H_expose [mR (some 100), mI s, mI l, mI f, mI w] A (fun r A' => (((0 ≤ s ∧ s < gI A 200 23 ∧ 0 ≤ l ∧ l ≤ 3) ∧ (0 ≤ s ∧ s < gI A 200 23 ∧ 0 ≤ f ∧ f < gI A 224 s) ∧ (0 ≤ w ∧ w ≤ 15 → w < gI A 200 3)) ∧ ((-2 ≤ w ∧ w ≤ 15) ∨ (100 ≤ w ∧ w ≤ 123))) ∧ r = some (mI (gI A 226 (24 * (4 * s + l) + f))) ∧ A' = sI A ((4000 + 100 * s) + 1) (l * gI A 224 s + f) w) (px2 A xI xA ((0 ≤ s ∧ s < gI A 200 23 ∧ 0 ≤ l ∧ l ≤ 3) ∧ (0 ≤ s ∧ s < gI A 200 23 ∧ 0 ≤ f ∧ f < gI A 224 s) ∧ (0 ≤ w ∧ w ≤ 15 → w < gI A 200 3)) ((-2 ≤ w ∧ w ≤ 15) ∨ (100 ≤ w ∧ w ≤ 123))) := by
  refine mj_bodyK 5 30 [some (mR (some 100)), some (mI s), some (mI l), some (mI f), some (mI w), none, none, none] rfl rfl rfl (by decide +kernel) (Nat.le_of_ble_eq_true rfl) (by simp) rfl ?_
  have hH := hj.x.H
  have hns := hj.m.g.ns
  have hS := hj.s.S
  refine mx_R fun hR => ?_
  refine mx_aload_n 0 d_H_expose_0 rfl rfl ?_
  refine mx_iload_n 1 d_H_expose_1 rfl rfl ?_
  refine mx_callV (kc := 4) (ks := 24) (N := n_H_needScene) (as := [_]) (ci := 6) d_H_expose_2 s_H_173 ⟨Nat.le_of_ble_eq_true rfl, Nat.le_of_ble_eq_true rfl⟩ rfl (mj_wt_8 (Nat.le_of_ble_eq_true rfl)) (hH.o) ⟨_, rfl, rfl⟩ (ct_needScene hj hs) (fun r_2 A_2 h_2 => ?_) (fun E_2 A_x h_2 => ?_)
  rotate_left
  · exact mt_n h_2 rfl fun hn => ⟨rfl, Or.inl ⟨rfl, by omega⟩⟩
  obtain ⟨rfl, h1, hA_2⟩ := h_2
  obtain rfl := hA_2.symm
  clear hA_2
  refine mx_R fun hR_1 => ?_
  refine mx_iload_n 2 d_H_expose_5 rfl rfl ?_
  refine mx_callS (kc := 3) (ks := 18) (N := n_H_needLevel) (as := [_]) d_H_expose_6 s_H_176 ⟨Nat.le_of_ble_eq_true rfl, Nat.le_of_ble_eq_true rfl⟩ rfl (mj_wt_8 (Nat.le_of_ble_eq_true rfl)) (ct_needLevel hl) (fun r_6 A_6 h_6 => ?_) (fun E_6 A_x h_6 => ?_)
  rotate_left
  · exact mt_n h_6 rfl fun hn => ⟨rfl, Or.inl ⟨rfl, by omega⟩⟩
  obtain ⟨rfl, h2, hA_6⟩ := h_6
  obtain rfl := hA_6.symm
  clear hA_6
  refine mx_R fun hR_2 => ?_
  refine mx_aload_n 0 d_H_expose_9 rfl rfl ?_
  refine mx_iload_n 1 d_H_expose_10 rfl rfl ?_
  refine mx_iload_n 3 d_H_expose_11 rfl rfl ?_
  refine mx_callV (kc := 2) (ks := 12) (N := n_H_needFrame) (as := [_, _]) (ci := 6) d_H_expose_12 s_H_179 ⟨Nat.le_of_ble_eq_true rfl, Nat.le_of_ble_eq_true rfl⟩ rfl (mj_wt_8 (Nat.le_of_ble_eq_true rfl)) (hH.o) ⟨_, rfl, rfl⟩ (ct_needFrame hj h1 hf) (fun r_12 A_12 h_12 => ?_) (fun E_12 A_x h_12 => ?_)
  rotate_left
  · exact mt_n h_12 rfl fun hn => ⟨rfl, Or.inl ⟨rfl, by omega⟩⟩
  obtain ⟨rfl, h3, hA_12⟩ := h_12
  obtain rfl := hA_12.symm
  clear hA_12
  refine mx_R fun hR_3 => ?_
  refine mx_iload 4 d_H_expose_15 rfl ?_
  refine mx_if_lt 36 d_H_expose_17 rfl (by first | assumption | exact hR_3 _ _ | exact hR_2 _ _ | exact hR_1 _ _ | exact hR _ _ | exact r32_mk (by omega) (by omega)) (fun c_17 => ?_) (fun c_17 => ?_)
  · refine mx_iload 4 d_H_expose_36 rfl ?_
    refine mx_iconst d_H_expose_38 ?_
    refine mx_icmp_eq 73 d_H_expose_39 rfl (by first | assumption | exact hR_3 _ _ | exact hR_2 _ _ | exact hR_1 _ _ | exact hR _ _ | exact r32_mk (by omega) (by omega)) (by first | assumption | exact hR_3 _ _ | exact hR_2 _ _ | exact hR_1 _ _ | exact hR _ _ | exact r32_mk (by omega) (by omega)) (fun c_39 => ?_) (fun c_39 => ?_)
    · have hP : ((0 ≤ s ∧ s < gI A 200 23 ∧ 0 ≤ l ∧ l ≤ 3) ∧ (0 ≤ s ∧ s < gI A 200 23 ∧ 0 ≤ f ∧ f < gI A 224 s) ∧ (0 ≤ w ∧ w ≤ 15 → w < gI A 200 3)) ∧ ((-2 ≤ w ∧ w ≤ 15) ∨ (100 ≤ w ∧ w ≤ 123)) := ⟨by omega, by omega⟩
      have hfr := hj.m.g.fr s h1.1 h1.2
      have hfr0 := hj.s.fr s h1.1 h1.2
      have hlm := lm_b h2 (n := gI A 224 s) (by omega)
      refine mx_R fun hR => ?_
      refine mx_aload_n 0 d_H_expose_73 rfl rfl ?_
      refine mx_getPs 5 d_H_expose_74 f_H_21 rfl rfl (hH.o) (hH.p5) ?_
      refine mx_iload_n 1 d_H_expose_77 rfl rfl ?_
      refine mx_aalds d_H_expose_78 (hH.s5) (by decide) (by omega) (by omega) (hj.s.r s h1.1 h1.2) ?_
      refine mx_astore 5 d_H_expose_79 (Nat.le_of_ble_eq_true rfl) ?_
      refine mx_iload_n 2 d_H_expose_81 rfl rfl ?_
      refine mx_aload 5 d_H_expose_82 rfl ?_
      refine mx_getI 0 d_H_expose_84 f_H_184 rfl rfl (hS.o s h1.1 h1.2) ?_
      rw [hfr0]
      refine mx_imul d_H_expose_87 ?_
      refine mx_iload_n 3 d_H_expose_88 rfl rfl ?_
      refine mx_iadd d_H_expose_89 ?_
      refine mx_istore 6 d_H_expose_90 (Nat.le_of_ble_eq_true rfl) ?_
      refine mx_aload 5 d_H_expose_92 rfl ?_
      refine mx_getPs 2 d_H_expose_94 f_H_187 rfl rfl (hS.o s h1.1 h1.2) (hS.p2 s h1.1 h1.2) ?_
      refine mx_iload 6 d_H_expose_97 rfl ?_
      refine mx_iald d_H_expose_99 (hS.s2 s h1.1 h1.2) (by omega) (by rw [hfr0]; omega) ?_
      rw [hj.s.sh s h1.1 h1.2 l f h2.1 h2.2 h3.1 h3.2]
      refine mx_istore 7 d_H_expose_100 (Nat.le_of_ble_eq_true rfl) ?_
      refine mx_aload 5 d_H_expose_102 rfl ?_
      refine mx_getPs 2 d_H_expose_104 f_H_187 rfl rfl (hS.o s h1.1 h1.2) (hS.p2 s h1.1 h1.2) ?_
      refine mx_iload 6 d_H_expose_107 rfl ?_
      refine mx_iload 4 d_H_expose_109 rfl ?_
      refine mx_iast d_H_expose_111 (hS.s2 s h1.1 h1.2) (by omega) (by rw [hfr0]; omega) (by first | assumption | exact hR _ _ | exact r32_mk (by omega) (by omega)) ?_
      refine mx_R fun hR_1 => ?_
      refine mx_iload 7 d_H_expose_112 rfl ?_
      refine mx_iret d_H_expose_114 rfl ?_
      exact ⟨hP, rfl, rfl⟩
    · refine mx_iload 4 d_H_expose_42 rfl ?_
      refine mx_bipush d_H_expose_44 (by decide) ?_
      refine mx_icmp_eq 73 d_H_expose_46 rfl (by first | assumption | exact hR_3 _ _ | exact hR_2 _ _ | exact hR_1 _ _ | exact hR _ _ | exact r32_mk (by omega) (by omega)) (by first | assumption | exact hR_3 _ _ | exact hR_2 _ _ | exact hR_1 _ _ | exact hR _ _ | exact r32_mk (by omega) (by omega)) (fun c_46 => ?_) (fun c_46 => ?_)
      · have hP : ((0 ≤ s ∧ s < gI A 200 23 ∧ 0 ≤ l ∧ l ≤ 3) ∧ (0 ≤ s ∧ s < gI A 200 23 ∧ 0 ≤ f ∧ f < gI A 224 s) ∧ (0 ≤ w ∧ w ≤ 15 → w < gI A 200 3)) ∧ ((-2 ≤ w ∧ w ≤ 15) ∨ (100 ≤ w ∧ w ≤ 123)) := ⟨by omega, by omega⟩
        have hfr := hj.m.g.fr s h1.1 h1.2
        have hfr0 := hj.s.fr s h1.1 h1.2
        have hlm := lm_b h2 (n := gI A 224 s) (by omega)
        refine mx_R fun hR => ?_
        refine mx_aload_n 0 d_H_expose_73 rfl rfl ?_
        refine mx_getPs 5 d_H_expose_74 f_H_21 rfl rfl (hH.o) (hH.p5) ?_
        refine mx_iload_n 1 d_H_expose_77 rfl rfl ?_
        refine mx_aalds d_H_expose_78 (hH.s5) (by decide) (by omega) (by omega) (hj.s.r s h1.1 h1.2) ?_
        refine mx_astore 5 d_H_expose_79 (Nat.le_of_ble_eq_true rfl) ?_
        refine mx_iload_n 2 d_H_expose_81 rfl rfl ?_
        refine mx_aload 5 d_H_expose_82 rfl ?_
        refine mx_getI 0 d_H_expose_84 f_H_184 rfl rfl (hS.o s h1.1 h1.2) ?_
        rw [hfr0]
        refine mx_imul d_H_expose_87 ?_
        refine mx_iload_n 3 d_H_expose_88 rfl rfl ?_
        refine mx_iadd d_H_expose_89 ?_
        refine mx_istore 6 d_H_expose_90 (Nat.le_of_ble_eq_true rfl) ?_
        refine mx_aload 5 d_H_expose_92 rfl ?_
        refine mx_getPs 2 d_H_expose_94 f_H_187 rfl rfl (hS.o s h1.1 h1.2) (hS.p2 s h1.1 h1.2) ?_
        refine mx_iload 6 d_H_expose_97 rfl ?_
        refine mx_iald d_H_expose_99 (hS.s2 s h1.1 h1.2) (by omega) (by rw [hfr0]; omega) ?_
        rw [hj.s.sh s h1.1 h1.2 l f h2.1 h2.2 h3.1 h3.2]
        refine mx_istore 7 d_H_expose_100 (Nat.le_of_ble_eq_true rfl) ?_
        refine mx_aload 5 d_H_expose_102 rfl ?_
        refine mx_getPs 2 d_H_expose_104 f_H_187 rfl rfl (hS.o s h1.1 h1.2) (hS.p2 s h1.1 h1.2) ?_
        refine mx_iload 6 d_H_expose_107 rfl ?_
        refine mx_iload 4 d_H_expose_109 rfl ?_
        refine mx_iast d_H_expose_111 (hS.s2 s h1.1 h1.2) (by omega) (by rw [hfr0]; omega) (by first | assumption | exact hR _ _ | exact r32_mk (by omega) (by omega)) ?_
        refine mx_R fun hR_1 => ?_
        refine mx_iload 7 d_H_expose_112 rfl ?_
        refine mx_iret d_H_expose_114 rfl ?_
        exact ⟨hP, rfl, rfl⟩
      · refine mx_iload 4 d_H_expose_49 rfl ?_
        refine mx_bipush d_H_expose_51 (by decide) ?_
        refine mx_icmp_le 63 d_H_expose_53 rfl (by first | assumption | exact hR_3 _ _ | exact hR_2 _ _ | exact hR_1 _ _ | exact hR _ _ | exact r32_mk (by omega) (by omega)) (by first | assumption | exact hR_3 _ _ | exact hR_2 _ _ | exact hR_1 _ _ | exact hR _ _ | exact r32_mk (by omega) (by omega)) (fun c_53 => ?_) (fun c_53 => ?_)
        · refine mx_throw (text := "no drawing, blank, hold or cycle") t_H_79_83 (by decide) rfl (Nat.le_of_ble_eq_true rfl) (Nat.le_of_ble_eq_true rfl) d_H_expose_63 d_H_expose_66 d_H_expose_67 d_H_expose_69 d_H_expose_72 ?_
          exact ⟨rfl, Or.inr ⟨rfl, by omega, by omega⟩⟩
        · refine mx_iload 4 d_H_expose_56 rfl ?_
          refine mx_bipush d_H_expose_58 (by decide) ?_
          refine mx_icmp_le 73 d_H_expose_60 rfl (by first | assumption | exact hR_3 _ _ | exact hR_2 _ _ | exact hR_1 _ _ | exact hR _ _ | exact r32_mk (by omega) (by omega)) (by first | assumption | exact hR_3 _ _ | exact hR_2 _ _ | exact hR_1 _ _ | exact hR _ _ | exact r32_mk (by omega) (by omega)) (fun c_60 => ?_) (fun c_60 => ?_)
          · have hP : ((0 ≤ s ∧ s < gI A 200 23 ∧ 0 ≤ l ∧ l ≤ 3) ∧ (0 ≤ s ∧ s < gI A 200 23 ∧ 0 ≤ f ∧ f < gI A 224 s) ∧ (0 ≤ w ∧ w ≤ 15 → w < gI A 200 3)) ∧ ((-2 ≤ w ∧ w ≤ 15) ∨ (100 ≤ w ∧ w ≤ 123)) := ⟨by omega, by omega⟩
            have hfr := hj.m.g.fr s h1.1 h1.2
            have hfr0 := hj.s.fr s h1.1 h1.2
            have hlm := lm_b h2 (n := gI A 224 s) (by omega)
            refine mx_R fun hR => ?_
            refine mx_aload_n 0 d_H_expose_73 rfl rfl ?_
            refine mx_getPs 5 d_H_expose_74 f_H_21 rfl rfl (hH.o) (hH.p5) ?_
            refine mx_iload_n 1 d_H_expose_77 rfl rfl ?_
            refine mx_aalds d_H_expose_78 (hH.s5) (by decide) (by omega) (by omega) (hj.s.r s h1.1 h1.2) ?_
            refine mx_astore 5 d_H_expose_79 (Nat.le_of_ble_eq_true rfl) ?_
            refine mx_iload_n 2 d_H_expose_81 rfl rfl ?_
            refine mx_aload 5 d_H_expose_82 rfl ?_
            refine mx_getI 0 d_H_expose_84 f_H_184 rfl rfl (hS.o s h1.1 h1.2) ?_
            rw [hfr0]
            refine mx_imul d_H_expose_87 ?_
            refine mx_iload_n 3 d_H_expose_88 rfl rfl ?_
            refine mx_iadd d_H_expose_89 ?_
            refine mx_istore 6 d_H_expose_90 (Nat.le_of_ble_eq_true rfl) ?_
            refine mx_aload 5 d_H_expose_92 rfl ?_
            refine mx_getPs 2 d_H_expose_94 f_H_187 rfl rfl (hS.o s h1.1 h1.2) (hS.p2 s h1.1 h1.2) ?_
            refine mx_iload 6 d_H_expose_97 rfl ?_
            refine mx_iald d_H_expose_99 (hS.s2 s h1.1 h1.2) (by omega) (by rw [hfr0]; omega) ?_
            rw [hj.s.sh s h1.1 h1.2 l f h2.1 h2.2 h3.1 h3.2]
            refine mx_istore 7 d_H_expose_100 (Nat.le_of_ble_eq_true rfl) ?_
            refine mx_aload 5 d_H_expose_102 rfl ?_
            refine mx_getPs 2 d_H_expose_104 f_H_187 rfl rfl (hS.o s h1.1 h1.2) (hS.p2 s h1.1 h1.2) ?_
            refine mx_iload 6 d_H_expose_107 rfl ?_
            refine mx_iload 4 d_H_expose_109 rfl ?_
            refine mx_iast d_H_expose_111 (hS.s2 s h1.1 h1.2) (by omega) (by rw [hfr0]; omega) (by first | assumption | exact hR _ _ | exact r32_mk (by omega) (by omega)) ?_
            refine mx_R fun hR_1 => ?_
            refine mx_iload 7 d_H_expose_112 rfl ?_
            refine mx_iret d_H_expose_114 rfl ?_
            exact ⟨hP, rfl, rfl⟩
          · refine mx_throw (text := "no drawing, blank, hold or cycle") t_H_79_83 (by decide) rfl (Nat.le_of_ble_eq_true rfl) (Nat.le_of_ble_eq_true rfl) d_H_expose_63 d_H_expose_66 d_H_expose_67 d_H_expose_69 d_H_expose_72 ?_
            exact ⟨rfl, Or.inr ⟨rfl, by omega, by omega⟩⟩
  · refine mx_iload 4 d_H_expose_20 rfl ?_
    refine mx_bipush d_H_expose_22 (by decide) ?_
    refine mx_icmp_ge 36 d_H_expose_24 rfl (by first | assumption | exact hR_3 _ _ | exact hR_2 _ _ | exact hR_1 _ _ | exact hR _ _ | exact r32_mk (by omega) (by omega)) (by first | assumption | exact hR_3 _ _ | exact hR_2 _ _ | exact hR_1 _ _ | exact hR _ _ | exact r32_mk (by omega) (by omega)) (fun c_24 => ?_) (fun c_24 => ?_)
    · refine mx_iload 4 d_H_expose_36 rfl ?_
      refine mx_iconst d_H_expose_38 ?_
      refine mx_icmp_eq 73 d_H_expose_39 rfl (by first | assumption | exact hR_3 _ _ | exact hR_2 _ _ | exact hR_1 _ _ | exact hR _ _ | exact r32_mk (by omega) (by omega)) (by first | assumption | exact hR_3 _ _ | exact hR_2 _ _ | exact hR_1 _ _ | exact hR _ _ | exact r32_mk (by omega) (by omega)) (fun c_39 => ?_) (fun c_39 => ?_)
      · have hP : ((0 ≤ s ∧ s < gI A 200 23 ∧ 0 ≤ l ∧ l ≤ 3) ∧ (0 ≤ s ∧ s < gI A 200 23 ∧ 0 ≤ f ∧ f < gI A 224 s) ∧ (0 ≤ w ∧ w ≤ 15 → w < gI A 200 3)) ∧ ((-2 ≤ w ∧ w ≤ 15) ∨ (100 ≤ w ∧ w ≤ 123)) := ⟨by omega, by omega⟩
        have hfr := hj.m.g.fr s h1.1 h1.2
        have hfr0 := hj.s.fr s h1.1 h1.2
        have hlm := lm_b h2 (n := gI A 224 s) (by omega)
        refine mx_R fun hR => ?_
        refine mx_aload_n 0 d_H_expose_73 rfl rfl ?_
        refine mx_getPs 5 d_H_expose_74 f_H_21 rfl rfl (hH.o) (hH.p5) ?_
        refine mx_iload_n 1 d_H_expose_77 rfl rfl ?_
        refine mx_aalds d_H_expose_78 (hH.s5) (by decide) (by omega) (by omega) (hj.s.r s h1.1 h1.2) ?_
        refine mx_astore 5 d_H_expose_79 (Nat.le_of_ble_eq_true rfl) ?_
        refine mx_iload_n 2 d_H_expose_81 rfl rfl ?_
        refine mx_aload 5 d_H_expose_82 rfl ?_
        refine mx_getI 0 d_H_expose_84 f_H_184 rfl rfl (hS.o s h1.1 h1.2) ?_
        rw [hfr0]
        refine mx_imul d_H_expose_87 ?_
        refine mx_iload_n 3 d_H_expose_88 rfl rfl ?_
        refine mx_iadd d_H_expose_89 ?_
        refine mx_istore 6 d_H_expose_90 (Nat.le_of_ble_eq_true rfl) ?_
        refine mx_aload 5 d_H_expose_92 rfl ?_
        refine mx_getPs 2 d_H_expose_94 f_H_187 rfl rfl (hS.o s h1.1 h1.2) (hS.p2 s h1.1 h1.2) ?_
        refine mx_iload 6 d_H_expose_97 rfl ?_
        refine mx_iald d_H_expose_99 (hS.s2 s h1.1 h1.2) (by omega) (by rw [hfr0]; omega) ?_
        rw [hj.s.sh s h1.1 h1.2 l f h2.1 h2.2 h3.1 h3.2]
        refine mx_istore 7 d_H_expose_100 (Nat.le_of_ble_eq_true rfl) ?_
        refine mx_aload 5 d_H_expose_102 rfl ?_
        refine mx_getPs 2 d_H_expose_104 f_H_187 rfl rfl (hS.o s h1.1 h1.2) (hS.p2 s h1.1 h1.2) ?_
        refine mx_iload 6 d_H_expose_107 rfl ?_
        refine mx_iload 4 d_H_expose_109 rfl ?_
        refine mx_iast d_H_expose_111 (hS.s2 s h1.1 h1.2) (by omega) (by rw [hfr0]; omega) (by first | assumption | exact hR _ _ | exact r32_mk (by omega) (by omega)) ?_
        refine mx_R fun hR_1 => ?_
        refine mx_iload 7 d_H_expose_112 rfl ?_
        refine mx_iret d_H_expose_114 rfl ?_
        exact ⟨hP, rfl, rfl⟩
      · refine mx_iload 4 d_H_expose_42 rfl ?_
        refine mx_bipush d_H_expose_44 (by decide) ?_
        refine mx_icmp_eq 73 d_H_expose_46 rfl (by first | assumption | exact hR_3 _ _ | exact hR_2 _ _ | exact hR_1 _ _ | exact hR _ _ | exact r32_mk (by omega) (by omega)) (by first | assumption | exact hR_3 _ _ | exact hR_2 _ _ | exact hR_1 _ _ | exact hR _ _ | exact r32_mk (by omega) (by omega)) (fun c_46 => ?_) (fun c_46 => ?_)
        · have hP : ((0 ≤ s ∧ s < gI A 200 23 ∧ 0 ≤ l ∧ l ≤ 3) ∧ (0 ≤ s ∧ s < gI A 200 23 ∧ 0 ≤ f ∧ f < gI A 224 s) ∧ (0 ≤ w ∧ w ≤ 15 → w < gI A 200 3)) ∧ ((-2 ≤ w ∧ w ≤ 15) ∨ (100 ≤ w ∧ w ≤ 123)) := ⟨by omega, by omega⟩
          have hfr := hj.m.g.fr s h1.1 h1.2
          have hfr0 := hj.s.fr s h1.1 h1.2
          have hlm := lm_b h2 (n := gI A 224 s) (by omega)
          refine mx_R fun hR => ?_
          refine mx_aload_n 0 d_H_expose_73 rfl rfl ?_
          refine mx_getPs 5 d_H_expose_74 f_H_21 rfl rfl (hH.o) (hH.p5) ?_
          refine mx_iload_n 1 d_H_expose_77 rfl rfl ?_
          refine mx_aalds d_H_expose_78 (hH.s5) (by decide) (by omega) (by omega) (hj.s.r s h1.1 h1.2) ?_
          refine mx_astore 5 d_H_expose_79 (Nat.le_of_ble_eq_true rfl) ?_
          refine mx_iload_n 2 d_H_expose_81 rfl rfl ?_
          refine mx_aload 5 d_H_expose_82 rfl ?_
          refine mx_getI 0 d_H_expose_84 f_H_184 rfl rfl (hS.o s h1.1 h1.2) ?_
          rw [hfr0]
          refine mx_imul d_H_expose_87 ?_
          refine mx_iload_n 3 d_H_expose_88 rfl rfl ?_
          refine mx_iadd d_H_expose_89 ?_
          refine mx_istore 6 d_H_expose_90 (Nat.le_of_ble_eq_true rfl) ?_
          refine mx_aload 5 d_H_expose_92 rfl ?_
          refine mx_getPs 2 d_H_expose_94 f_H_187 rfl rfl (hS.o s h1.1 h1.2) (hS.p2 s h1.1 h1.2) ?_
          refine mx_iload 6 d_H_expose_97 rfl ?_
          refine mx_iald d_H_expose_99 (hS.s2 s h1.1 h1.2) (by omega) (by rw [hfr0]; omega) ?_
          rw [hj.s.sh s h1.1 h1.2 l f h2.1 h2.2 h3.1 h3.2]
          refine mx_istore 7 d_H_expose_100 (Nat.le_of_ble_eq_true rfl) ?_
          refine mx_aload 5 d_H_expose_102 rfl ?_
          refine mx_getPs 2 d_H_expose_104 f_H_187 rfl rfl (hS.o s h1.1 h1.2) (hS.p2 s h1.1 h1.2) ?_
          refine mx_iload 6 d_H_expose_107 rfl ?_
          refine mx_iload 4 d_H_expose_109 rfl ?_
          refine mx_iast d_H_expose_111 (hS.s2 s h1.1 h1.2) (by omega) (by rw [hfr0]; omega) (by first | assumption | exact hR _ _ | exact r32_mk (by omega) (by omega)) ?_
          refine mx_R fun hR_1 => ?_
          refine mx_iload 7 d_H_expose_112 rfl ?_
          refine mx_iret d_H_expose_114 rfl ?_
          exact ⟨hP, rfl, rfl⟩
        · refine mx_iload 4 d_H_expose_49 rfl ?_
          refine mx_bipush d_H_expose_51 (by decide) ?_
          refine mx_icmp_le 63 d_H_expose_53 rfl (by first | assumption | exact hR_3 _ _ | exact hR_2 _ _ | exact hR_1 _ _ | exact hR _ _ | exact r32_mk (by omega) (by omega)) (by first | assumption | exact hR_3 _ _ | exact hR_2 _ _ | exact hR_1 _ _ | exact hR _ _ | exact r32_mk (by omega) (by omega)) (fun c_53 => ?_) (fun c_53 => ?_)
          · refine mx_throw (text := "no drawing, blank, hold or cycle") t_H_79_83 (by decide) rfl (Nat.le_of_ble_eq_true rfl) (Nat.le_of_ble_eq_true rfl) d_H_expose_63 d_H_expose_66 d_H_expose_67 d_H_expose_69 d_H_expose_72 ?_
            exact ⟨rfl, Or.inr ⟨rfl, by omega, by omega⟩⟩
          · refine mx_iload 4 d_H_expose_56 rfl ?_
            refine mx_bipush d_H_expose_58 (by decide) ?_
            refine mx_icmp_le 73 d_H_expose_60 rfl (by first | assumption | exact hR_3 _ _ | exact hR_2 _ _ | exact hR_1 _ _ | exact hR _ _ | exact r32_mk (by omega) (by omega)) (by first | assumption | exact hR_3 _ _ | exact hR_2 _ _ | exact hR_1 _ _ | exact hR _ _ | exact r32_mk (by omega) (by omega)) (fun c_60 => ?_) (fun c_60 => ?_)
            · have hP : ((0 ≤ s ∧ s < gI A 200 23 ∧ 0 ≤ l ∧ l ≤ 3) ∧ (0 ≤ s ∧ s < gI A 200 23 ∧ 0 ≤ f ∧ f < gI A 224 s) ∧ (0 ≤ w ∧ w ≤ 15 → w < gI A 200 3)) ∧ ((-2 ≤ w ∧ w ≤ 15) ∨ (100 ≤ w ∧ w ≤ 123)) := ⟨by omega, by omega⟩
              have hfr := hj.m.g.fr s h1.1 h1.2
              have hfr0 := hj.s.fr s h1.1 h1.2
              have hlm := lm_b h2 (n := gI A 224 s) (by omega)
              refine mx_R fun hR => ?_
              refine mx_aload_n 0 d_H_expose_73 rfl rfl ?_
              refine mx_getPs 5 d_H_expose_74 f_H_21 rfl rfl (hH.o) (hH.p5) ?_
              refine mx_iload_n 1 d_H_expose_77 rfl rfl ?_
              refine mx_aalds d_H_expose_78 (hH.s5) (by decide) (by omega) (by omega) (hj.s.r s h1.1 h1.2) ?_
              refine mx_astore 5 d_H_expose_79 (Nat.le_of_ble_eq_true rfl) ?_
              refine mx_iload_n 2 d_H_expose_81 rfl rfl ?_
              refine mx_aload 5 d_H_expose_82 rfl ?_
              refine mx_getI 0 d_H_expose_84 f_H_184 rfl rfl (hS.o s h1.1 h1.2) ?_
              rw [hfr0]
              refine mx_imul d_H_expose_87 ?_
              refine mx_iload_n 3 d_H_expose_88 rfl rfl ?_
              refine mx_iadd d_H_expose_89 ?_
              refine mx_istore 6 d_H_expose_90 (Nat.le_of_ble_eq_true rfl) ?_
              refine mx_aload 5 d_H_expose_92 rfl ?_
              refine mx_getPs 2 d_H_expose_94 f_H_187 rfl rfl (hS.o s h1.1 h1.2) (hS.p2 s h1.1 h1.2) ?_
              refine mx_iload 6 d_H_expose_97 rfl ?_
              refine mx_iald d_H_expose_99 (hS.s2 s h1.1 h1.2) (by omega) (by rw [hfr0]; omega) ?_
              rw [hj.s.sh s h1.1 h1.2 l f h2.1 h2.2 h3.1 h3.2]
              refine mx_istore 7 d_H_expose_100 (Nat.le_of_ble_eq_true rfl) ?_
              refine mx_aload 5 d_H_expose_102 rfl ?_
              refine mx_getPs 2 d_H_expose_104 f_H_187 rfl rfl (hS.o s h1.1 h1.2) (hS.p2 s h1.1 h1.2) ?_
              refine mx_iload 6 d_H_expose_107 rfl ?_
              refine mx_iload 4 d_H_expose_109 rfl ?_
              refine mx_iast d_H_expose_111 (hS.s2 s h1.1 h1.2) (by omega) (by rw [hfr0]; omega) (by first | assumption | exact hR _ _ | exact r32_mk (by omega) (by omega)) ?_
              refine mx_R fun hR_1 => ?_
              refine mx_iload 7 d_H_expose_112 rfl ?_
              refine mx_iret d_H_expose_114 rfl ?_
              exact ⟨hP, rfl, rfl⟩
            · refine mx_throw (text := "no drawing, blank, hold or cycle") t_H_79_83 (by decide) rfl (Nat.le_of_ble_eq_true rfl) (Nat.le_of_ble_eq_true rfl) d_H_expose_63 d_H_expose_66 d_H_expose_67 d_H_expose_69 d_H_expose_72 ?_
              exact ⟨rfl, Or.inr ⟨rfl, by omega, by omega⟩⟩
    · refine mx_aload_n 0 d_H_expose_27 rfl rfl ?_
      refine mx_iload 4 d_H_expose_28 rfl ?_
      refine mx_callV (kc := 1) (ks := 6) (N := n_H_needDrawing) (as := [_]) (ci := 6) d_H_expose_30 s_H_75 ⟨Nat.le_of_ble_eq_true rfl, Nat.le_of_ble_eq_true rfl⟩ rfl (mj_wt_8 (Nat.le_of_ble_eq_true rfl)) (hH.o) ⟨_, rfl, rfl⟩ (ct_needDrawing hj hw) (fun r_30 A_30 h_30 => ?_) (fun E_30 A_x h_30 => ?_)
      rotate_left
      · exact mt_n h_30 rfl fun hn => ⟨rfl, Or.inl ⟨rfl, by omega⟩⟩
      obtain ⟨rfl, h4, hA_30⟩ := h_30
      obtain rfl := hA_30.symm
      clear hA_30
      refine mx_R fun hR_4 => ?_
      refine mx_goto 73 d_H_expose_33 rfl ?_
      have hP : ((0 ≤ s ∧ s < gI A 200 23 ∧ 0 ≤ l ∧ l ≤ 3) ∧ (0 ≤ s ∧ s < gI A 200 23 ∧ 0 ≤ f ∧ f < gI A 224 s) ∧ (0 ≤ w ∧ w ≤ 15 → w < gI A 200 3)) ∧ ((-2 ≤ w ∧ w ≤ 15) ∨ (100 ≤ w ∧ w ≤ 123)) := ⟨by omega, by omega⟩
      have hfr := hj.m.g.fr s h1.1 h1.2
      have hfr0 := hj.s.fr s h1.1 h1.2
      have hlm := lm_b h2 (n := gI A 224 s) (by omega)
      refine mx_R fun hR => ?_
      refine mx_aload_n 0 d_H_expose_73 rfl rfl ?_
      refine mx_getPs 5 d_H_expose_74 f_H_21 rfl rfl (hH.o) (hH.p5) ?_
      refine mx_iload_n 1 d_H_expose_77 rfl rfl ?_
      refine mx_aalds d_H_expose_78 (hH.s5) (by decide) (by omega) (by omega) (hj.s.r s h1.1 h1.2) ?_
      refine mx_astore 5 d_H_expose_79 (Nat.le_of_ble_eq_true rfl) ?_
      refine mx_iload_n 2 d_H_expose_81 rfl rfl ?_
      refine mx_aload 5 d_H_expose_82 rfl ?_
      refine mx_getI 0 d_H_expose_84 f_H_184 rfl rfl (hS.o s h1.1 h1.2) ?_
      rw [hfr0]
      refine mx_imul d_H_expose_87 ?_
      refine mx_iload_n 3 d_H_expose_88 rfl rfl ?_
      refine mx_iadd d_H_expose_89 ?_
      refine mx_istore 6 d_H_expose_90 (Nat.le_of_ble_eq_true rfl) ?_
      refine mx_aload 5 d_H_expose_92 rfl ?_
      refine mx_getPs 2 d_H_expose_94 f_H_187 rfl rfl (hS.o s h1.1 h1.2) (hS.p2 s h1.1 h1.2) ?_
      refine mx_iload 6 d_H_expose_97 rfl ?_
      refine mx_iald d_H_expose_99 (hS.s2 s h1.1 h1.2) (by omega) (by rw [hfr0]; omega) ?_
      rw [hj.s.sh s h1.1 h1.2 l f h2.1 h2.2 h3.1 h3.2]
      refine mx_istore 7 d_H_expose_100 (Nat.le_of_ble_eq_true rfl) ?_
      refine mx_aload 5 d_H_expose_102 rfl ?_
      refine mx_getPs 2 d_H_expose_104 f_H_187 rfl rfl (hS.o s h1.1 h1.2) (hS.p2 s h1.1 h1.2) ?_
      refine mx_iload 6 d_H_expose_107 rfl ?_
      refine mx_iload 4 d_H_expose_109 rfl ?_
      refine mx_iast d_H_expose_111 (hS.s2 s h1.1 h1.2) (by omega) (by rw [hfr0]; omega) (by first | assumption | exact hR _ _ | exact r32_mk (by omega) (by omega)) ?_
      refine mx_R fun hR_1 => ?_
      refine mx_iload 7 d_H_expose_112 rfl ?_
      refine mx_iret d_H_expose_114 rfl ?_
      exact ⟨hP, rfl, rfl⟩
theorem ct_voice {C : Int → cT} {s f w : Int} (hj : JJ C A) (hs : r32 s) (hf : r32 f) (hw : r32 w) : mj_Cal G n_H_voice [mR (some 100), mI s, mI f, mI w] A (fun r A' => ((0 ≤ s ∧ s < gI A 200 23 ∧ 0 ≤ f ∧ f < gI A 224 s) ∧ -1 ≤ w ∧ w ≤ 7) ∧ r = some (mI (mj_bk (fun k => gI A 227 (24 * s + k)) (-2) 24 f)) ∧ A' = sI A ((4000 + 100 * s) + 2) f w) (px1 A xI ((0 ≤ s ∧ s < gI A 200 23 ∧ 0 ≤ f ∧ f < gI A 224 s) ∧ -1 ≤ w ∧ w ≤ 7)) := by
  refine mj_bodyK 3 18 [some (mR (some 100)), some (mI s), some (mI f), some (mI w), none] rfl rfl rfl (by decide +kernel) (Nat.le_of_ble_eq_true rfl) (by simp) rfl ?_
  have hH := hj.x.H
  have hns := hj.m.g.ns
  have hS := hj.s.S
  refine mx_R fun hR => ?_
  refine mx_aload_n 0 d_H_voice_0 rfl rfl ?_
  refine mx_iload_n 1 d_H_voice_1 rfl rfl ?_
  refine mx_callV (kc := 2) (ks := 12) (N := n_H_needScene) (as := [_]) (ci := 6) d_H_voice_2 s_H_173 ⟨Nat.le_of_ble_eq_true rfl, Nat.le_of_ble_eq_true rfl⟩ rfl (mj_wt_8 (Nat.le_of_ble_eq_true rfl)) (hH.o) ⟨_, rfl, rfl⟩ (ct_needScene hj hs) (fun r_2 A_2 h_2 => ?_) (fun E_2 A_x h_2 => ?_)
  rotate_left
  · exact mt_n h_2 rfl fun hn => ⟨rfl, rfl, by omega⟩
  obtain ⟨rfl, h1, hA_2⟩ := h_2
  obtain rfl := hA_2.symm
  clear hA_2
  refine mx_R fun hR_1 => ?_
  refine mx_aload_n 0 d_H_voice_5 rfl rfl ?_
  refine mx_iload_n 1 d_H_voice_6 rfl rfl ?_
  refine mx_iload_n 2 d_H_voice_7 rfl rfl ?_
  refine mx_callV (kc := 1) (ks := 6) (N := n_H_needFrame) (as := [_, _]) (ci := 6) d_H_voice_8 s_H_179 ⟨Nat.le_of_ble_eq_true rfl, Nat.le_of_ble_eq_true rfl⟩ rfl (mj_wt_8 (Nat.le_of_ble_eq_true rfl)) (hH.o) ⟨_, rfl, rfl⟩ (ct_needFrame hj h1 hf) (fun r_8 A_8 h_8 => ?_) (fun E_8 A_x h_8 => ?_)
  rotate_left
  · exact mt_n h_8 rfl fun hn => ⟨rfl, rfl, by omega⟩
  obtain ⟨rfl, h3, hA_8⟩ := h_8
  obtain rfl := hA_8.symm
  clear hA_8
  refine mx_R fun hR_2 => ?_
  refine mx_iload_n 3 d_H_voice_11 rfl rfl ?_
  refine mx_iconst d_H_voice_12 ?_
  refine mx_icmp_eq 20 d_H_voice_13 rfl (by first | assumption | exact hR_2 _ _ | exact hR_1 _ _ | exact hR _ _ | exact r32_mk (by omega) (by omega)) (by first | assumption | exact hR_2 _ _ | exact hR_1 _ _ | exact hR _ _ | exact r32_mk (by omega) (by omega)) (fun c_13 => ?_) (fun c_13 => ?_)
  · have hP : ((0 ≤ s ∧ s < gI A 200 23 ∧ 0 ≤ f ∧ f < gI A 224 s) ∧ -1 ≤ w ∧ w ≤ 7) := by omega
    have hfr0 := hj.s.fr s h1.1 h1.2
    refine mx_less (kc' := 0) (ks' := 0) (by decide) (by decide) ?_
    refine mx_R fun hR => ?_
    refine mx_aload_n 0 d_H_voice_20 rfl rfl ?_
    refine mx_getPs 5 d_H_voice_21 f_H_21 rfl rfl (hH.o) (hH.p5) ?_
    refine mx_iload_n 1 d_H_voice_24 rfl rfl ?_
    refine mx_aalds d_H_voice_25 (hH.s5) (by decide) (by omega) (by omega) (hj.s.r s h1.1 h1.2) ?_
    refine mx_iload_n 2 d_H_voice_26 rfl rfl ?_
    refine mx_callV (kc := 0) (ks := 0) (N := n_S_soundAt) (as := [_]) (ci := 4) d_H_voice_27 s_H_193 ⟨Nat.le_of_ble_eq_true rfl, Nat.le_of_ble_eq_true rfl⟩ rfl (mj_wt_8 (Nat.le_of_ble_eq_true rfl)) (hS.o _ (by omega) (by omega)) ⟨_, rfl, rfl⟩ (ct_soundAt hj.s hj.m.g h1 h3) (fun r_27 A_27 h_27 => ?_) (fun E_27 A_x h_27 => ?_)
    rotate_left
    · exact h_27.elim
    obtain ⟨rfl, hA_27⟩ := h_27
    obtain rfl := hA_27.symm
    clear hA_27
    refine mx_R fun hR_1 => ?_
    refine mx_istore 4 d_H_voice_30 (Nat.le_of_ble_eq_true rfl) ?_
    refine mx_aload_n 0 d_H_voice_32 rfl rfl ?_
    refine mx_getPs 5 d_H_voice_33 f_H_21 rfl rfl (hH.o) (hH.p5) ?_
    refine mx_iload_n 1 d_H_voice_36 rfl rfl ?_
    refine mx_aalds d_H_voice_37 (hH.s5) (by decide) (by omega) (by omega) (hj.s.r s h1.1 h1.2) ?_
    refine mx_getPs 3 d_H_voice_38 f_H_196 rfl rfl (hS.o _ (by omega) (by omega)) (hS.p3 _ (by omega) (by omega)) ?_
    refine mx_iload_n 2 d_H_voice_41 rfl rfl ?_
    refine mx_iload_n 3 d_H_voice_42 rfl rfl ?_
    refine mx_iast d_H_voice_43 (hS.s3 _ (by omega) (by omega)) (by omega) (by rw [hfr0]; omega) (by first | assumption | exact hR_1 _ _ | exact hR _ _ | exact r32_mk (by omega) (by omega)) ?_
    refine mx_R fun hR_2 => ?_
    refine mx_iload 4 d_H_voice_44 rfl ?_
    refine mx_iret d_H_voice_46 rfl ?_
    exact ⟨hP, rfl, rfl⟩
  · refine mx_iload_n 3 d_H_voice_16 rfl rfl ?_
    refine mx_callS (kc := 0) (ks := 0) (N := n_H_needSound) (as := [_]) d_H_voice_17 s_H_190 ⟨Nat.le_of_ble_eq_true rfl, Nat.le_of_ble_eq_true rfl⟩ rfl (mj_wt_8 (Nat.le_of_ble_eq_true rfl)) (ct_needSound hw) (fun r_17 A_17 h_17 => ?_) (fun E_17 A_x h_17 => ?_)
    rotate_left
    · exact mt_n h_17 rfl fun hn => ⟨rfl, rfl, by omega⟩
    obtain ⟨rfl, h4, hA_17⟩ := h_17
    obtain rfl := hA_17.symm
    clear hA_17
    refine mx_R fun hR_3 => ?_
    have hP : ((0 ≤ s ∧ s < gI A 200 23 ∧ 0 ≤ f ∧ f < gI A 224 s) ∧ -1 ≤ w ∧ w ≤ 7) := by omega
    have hfr0 := hj.s.fr s h1.1 h1.2
    refine mx_less (kc' := 0) (ks' := 0) (by decide) (by decide) ?_
    refine mx_R fun hR => ?_
    refine mx_aload_n 0 d_H_voice_20 rfl rfl ?_
    refine mx_getPs 5 d_H_voice_21 f_H_21 rfl rfl (hH.o) (hH.p5) ?_
    refine mx_iload_n 1 d_H_voice_24 rfl rfl ?_
    refine mx_aalds d_H_voice_25 (hH.s5) (by decide) (by omega) (by omega) (hj.s.r s h1.1 h1.2) ?_
    refine mx_iload_n 2 d_H_voice_26 rfl rfl ?_
    refine mx_callV (kc := 0) (ks := 0) (N := n_S_soundAt) (as := [_]) (ci := 4) d_H_voice_27 s_H_193 ⟨Nat.le_of_ble_eq_true rfl, Nat.le_of_ble_eq_true rfl⟩ rfl (mj_wt_8 (Nat.le_of_ble_eq_true rfl)) (hS.o _ (by omega) (by omega)) ⟨_, rfl, rfl⟩ (ct_soundAt hj.s hj.m.g h1 h3) (fun r_27 A_27 h_27 => ?_) (fun E_27 A_x h_27 => ?_)
    rotate_left
    · exact h_27.elim
    obtain ⟨rfl, hA_27⟩ := h_27
    obtain rfl := hA_27.symm
    clear hA_27
    refine mx_R fun hR_1 => ?_
    refine mx_istore 4 d_H_voice_30 (Nat.le_of_ble_eq_true rfl) ?_
    refine mx_aload_n 0 d_H_voice_32 rfl rfl ?_
    refine mx_getPs 5 d_H_voice_33 f_H_21 rfl rfl (hH.o) (hH.p5) ?_
    refine mx_iload_n 1 d_H_voice_36 rfl rfl ?_
    refine mx_aalds d_H_voice_37 (hH.s5) (by decide) (by omega) (by omega) (hj.s.r s h1.1 h1.2) ?_
    refine mx_getPs 3 d_H_voice_38 f_H_196 rfl rfl (hS.o _ (by omega) (by omega)) (hS.p3 _ (by omega) (by omega)) ?_
    refine mx_iload_n 2 d_H_voice_41 rfl rfl ?_
    refine mx_iload_n 3 d_H_voice_42 rfl rfl ?_
    refine mx_iast d_H_voice_43 (hS.s3 _ (by omega) (by omega)) (by omega) (by rw [hfr0]; omega) (by first | assumption | exact hR_1 _ _ | exact hR _ _ | exact r32_mk (by omega) (by omega)) ?_
    refine mx_R fun hR_2 => ?_
    refine mx_iload 4 d_H_voice_44 rfl ?_
    refine mx_iret d_H_voice_46 rfl ?_
    exact ⟨hP, rfl, rfl⟩
theorem ct_mouth {C : Int → cT} {w d : Int} (hj : JJ C A) (hw : r32 w) (hd : r32 d) : mj_Cal G n_H_mouth [mR (some 100), mI w, mI d] A (fun r A' => ((0 ≤ w ∧ w ≤ 7) ∧ (d = -1 ∨ (0 ≤ d ∧ d < gI A 200 3))) ∧ r = some (mI (gI A 231 w)) ∧ A' = sI A 108 w d) (px1 A xI ((0 ≤ w ∧ w ≤ 7) ∧ (d = -1 ∨ (0 ≤ d ∧ d < gI A 200 3)))) := by
  refine mj_bodyK 2 12 [some (mR (some 100)), some (mI w), some (mI d), none] rfl rfl rfl (by decide +kernel) (Nat.le_of_ble_eq_true rfl) (by simp) rfl ?_
  have hH := hj.x.H
  refine mx_R fun hR => ?_
  refine mx_iload_n 1 d_H_mouth_0 rfl rfl ?_
  refine mx_callS (kc := 1) (ks := 6) (N := n_H_needSound) (as := [_]) d_H_mouth_1 s_H_190 ⟨Nat.le_of_ble_eq_true rfl, Nat.le_of_ble_eq_true rfl⟩ rfl (mj_wt_8 (Nat.le_of_ble_eq_true rfl)) (ct_needSound hw) (fun r_1 A_1 h_1 => ?_) (fun E_1 A_x h_1 => ?_)
  rotate_left
  · exact mt_n h_1 rfl fun hn => ⟨rfl, rfl, by omega⟩
  obtain ⟨rfl, h1, hA_1⟩ := h_1
  obtain rfl := hA_1.symm
  clear hA_1
  refine mx_R fun hR_1 => ?_
  refine mx_iload_n 2 d_H_mouth_4 rfl rfl ?_
  refine mx_iconst d_H_mouth_5 ?_
  refine mx_icmp_eq 14 d_H_mouth_6 rfl (by first | assumption | exact hR_1 _ _ | exact hR _ _ | exact r32_mk (by omega) (by omega)) (by first | assumption | exact hR_1 _ _ | exact hR _ _ | exact r32_mk (by omega) (by omega)) (fun c_6 => ?_) (fun c_6 => ?_)
  · refine mx_aload_n 0 d_H_mouth_14 rfl rfl ?_
    refine mx_getPs 7 d_H_mouth_15 f_H_25 rfl rfl (hH.o) (hH.p7) ?_
    refine mx_iload_n 1 d_H_mouth_18 rfl rfl ?_
    refine mx_iald d_H_mouth_19 (hH.s7) (by omega) (by omega) ?_
    rw [hj.s.mo w (by omega) (by omega)]
    refine mx_istore_n 3 d_H_mouth_20 rfl (Nat.le_of_ble_eq_true rfl) ?_
    refine mx_aload_n 0 d_H_mouth_21 rfl rfl ?_
    refine mx_getPs 7 d_H_mouth_22 f_H_25 rfl rfl (hH.o) (hH.p7) ?_
    refine mx_iload_n 1 d_H_mouth_25 rfl rfl ?_
    refine mx_iload_n 2 d_H_mouth_26 rfl rfl ?_
    refine mx_iast d_H_mouth_27 (hH.s7) (by omega) (by omega) (by first | assumption | exact hR_1 _ _ | exact hR _ _ | exact r32_mk (by omega) (by omega)) ?_
    refine mx_R fun hR_2 => ?_
    refine mx_iload_n 3 d_H_mouth_28 rfl rfl ?_
    refine mx_iret d_H_mouth_29 rfl ?_
    exact ⟨by omega, rfl, rfl⟩
  · refine mx_aload_n 0 d_H_mouth_9 rfl rfl ?_
    refine mx_iload_n 2 d_H_mouth_10 rfl rfl ?_
    refine mx_callV (kc := 0) (ks := 0) (N := n_H_needDrawing) (as := [_]) (ci := 6) d_H_mouth_11 s_H_75 ⟨Nat.le_of_ble_eq_true rfl, Nat.le_of_ble_eq_true rfl⟩ rfl (mj_wt_8 (Nat.le_of_ble_eq_true rfl)) (hH.o) ⟨_, rfl, rfl⟩ (ct_needDrawing hj hd) (fun r_11 A_11 h_11 => ?_) (fun E_11 A_x h_11 => ?_)
    rotate_left
    · exact mt_n h_11 rfl fun hn => ⟨rfl, rfl, by omega⟩
    obtain ⟨rfl, h2, hA_11⟩ := h_11
    obtain rfl := hA_11.symm
    clear hA_11
    refine mx_R fun hR_3 => ?_
    refine mx_aload_n 0 d_H_mouth_14 rfl rfl ?_
    refine mx_getPs 7 d_H_mouth_15 f_H_25 rfl rfl (hH.o) (hH.p7) ?_
    refine mx_iload_n 1 d_H_mouth_18 rfl rfl ?_
    refine mx_iald d_H_mouth_19 (hH.s7) (by omega) (by omega) ?_
    rw [hj.s.mo w (by omega) (by omega)]
    refine mx_istore_n 3 d_H_mouth_20 rfl (Nat.le_of_ble_eq_true rfl) ?_
    refine mx_aload_n 0 d_H_mouth_21 rfl rfl ?_
    refine mx_getPs 7 d_H_mouth_22 f_H_25 rfl rfl (hH.o) (hH.p7) ?_
    refine mx_iload_n 1 d_H_mouth_25 rfl rfl ?_
    refine mx_iload_n 2 d_H_mouth_26 rfl rfl ?_
    refine mx_iast d_H_mouth_27 (hH.s7) (by omega) (by omega) (by first | assumption | exact hR_3 _ _ | exact hR_1 _ _ | exact hR _ _ | exact r32_mk (by omega) (by omega)) ?_
    refine mx_R fun hR_4 => ?_
    refine mx_iload_n 3 d_H_mouth_28 rfl rfl ?_
    refine mx_iret d_H_mouth_29 rfl ?_
    exact ⟨by omega, rfl, rfl⟩
theorem ct_speaks {C : Int → cT} {s l : Int} (hj : JJ C A) (hs : r32 s) (hl : r32 l) : mj_Cal G n_H_speaks [mR (some 100), mI s, mI l] A (fun r A' => (0 ≤ s ∧ s < gI A 200 23 ∧ 0 ≤ l ∧ l ≤ 3) ∧ r = some (mI (1 - gI A 228 (4 * s + l))) ∧ A' = sI A ((4000 + 100 * s) + 3) l (1 - gI A 228 (4 * s + l))) (px1 A xI (0 ≤ s ∧ s < gI A 200 23 ∧ 0 ≤ l ∧ l ≤ 3)) := by
  refine mj_bodyK 2 12 [some (mR (some 100)), some (mI s), some (mI l), none] rfl rfl rfl (by decide +kernel) (Nat.le_of_ble_eq_true rfl) (by simp) rfl ?_
  have hH := hj.x.H
  have hns := hj.m.g.ns
  have hS := hj.s.S
  have hv1 := hj.m.sp (4 * s + l)
  refine mx_R fun hR => ?_
  refine mx_aload_n 0 d_H_speaks_0 rfl rfl ?_
  refine mx_iload_n 1 d_H_speaks_1 rfl rfl ?_
  refine mx_callV (kc := 1) (ks := 6) (N := n_H_needScene) (as := [_]) (ci := 6) d_H_speaks_2 s_H_173 ⟨Nat.le_of_ble_eq_true rfl, Nat.le_of_ble_eq_true rfl⟩ rfl (mj_wt_8 (Nat.le_of_ble_eq_true rfl)) (hH.o) ⟨_, rfl, rfl⟩ (ct_needScene hj hs) (fun r_2 A_2 h_2 => ?_) (fun E_2 A_x h_2 => ?_)
  rotate_left
  · exact mt_n h_2 rfl fun hn => ⟨rfl, rfl, by omega⟩
  obtain ⟨rfl, h1, hA_2⟩ := h_2
  obtain rfl := hA_2.symm
  clear hA_2
  refine mx_R fun hR_1 => ?_
  refine mx_iload_n 2 d_H_speaks_5 rfl rfl ?_
  refine mx_callS (kc := 0) (ks := 0) (N := n_H_needLevel) (as := [_]) d_H_speaks_6 s_H_176 ⟨Nat.le_of_ble_eq_true rfl, Nat.le_of_ble_eq_true rfl⟩ rfl (mj_wt_8 (Nat.le_of_ble_eq_true rfl)) (ct_needLevel hl) (fun r_6 A_6 h_6 => ?_) (fun E_6 A_x h_6 => ?_)
  rotate_left
  · exact mt_n h_6 rfl fun hn => ⟨rfl, rfl, by omega⟩
  obtain ⟨rfl, h2, hA_6⟩ := h_6
  obtain rfl := hA_6.symm
  clear hA_6
  refine mx_R fun hR_2 => ?_
  refine mx_aload_n 0 d_H_speaks_9 rfl rfl ?_
  refine mx_getPs 5 d_H_speaks_10 f_H_21 rfl rfl (hH.o) (hH.p5) ?_
  refine mx_iload_n 1 d_H_speaks_13 rfl rfl ?_
  refine mx_aalds d_H_speaks_14 (hH.s5) (by decide) (by omega) (by omega) (hj.s.r s h1.1 h1.2) ?_
  refine mx_getPs 4 d_H_speaks_15 f_H_199 rfl rfl (hS.o _ (by omega) (by omega)) (hS.p4 _ (by omega) (by omega)) ?_
  refine mx_astore_n 3 d_H_speaks_18 rfl (Nat.le_of_ble_eq_true rfl) ?_
  refine mx_aload_n 3 d_H_speaks_19 rfl rfl ?_
  refine mx_iload_n 2 d_H_speaks_20 rfl rfl ?_
  refine mj_cutI ( 1 - gI A 228 (4 * s + l)) 32 ?_ (fun hJ_21 => ?_)
  · refine mx_zast d_H_speaks_32 (hS.s4 _ (by omega) (by omega)) (by omega) (by omega) (by omega) ?_
    refine mx_R fun hR_3 => ?_
    refine mx_aload_n 3 d_H_speaks_33 rfl rfl ?_
    refine mx_iload_n 2 d_H_speaks_34 rfl rfl ?_
    refine mx_zald d_H_speaks_35 (hS.s4 _ (by omega) (by omega)) (by omega) (by omega) ?_
    rw [gI_sIs]
    refine mx_zret d_H_speaks_36 rfl (by omega) ?_
    exact ⟨by omega, rfl, rfl⟩
  · refine mx_aload_n 3 d_H_speaks_21 rfl rfl ?_
    refine mx_iload_n 2 d_H_speaks_22 rfl rfl ?_
    refine mx_zald d_H_speaks_23 (hS.s4 _ (by omega) (by omega)) (by omega) (by omega) ?_
    rw [hj.s.sp s h1.1 h1.2 l h2.1 h2.2]
    refine mx_if_ne 31 d_H_speaks_24 rfl (by first | assumption | exact hR_2 _ _ | exact hR_1 _ _ | exact hR _ _ | exact r32_mk (by omega) (by omega)) (fun c_24 => ?_) (fun c_24 => ?_)
    · refine mx_iconst d_H_speaks_31 ?_
      exact mj_ji hJ_21 (by omega)
    · refine mx_iconst d_H_speaks_27 ?_
      refine mx_goto 32 d_H_speaks_28 rfl ?_
      exact mj_ji hJ_21 (by omega)
/-- a place is told -/
def tl_m (A : mj_M) (p f x y : Int) : mj_M := sI (sI (if gI A (6000 + 100 * p + 1) f = 0 then sI (sI A (6000 + 100 * p + 1) f 1) (6000 + 100 * p) 4 (gI A (6000 + 100 * p) 4 + 1) else A) (6000 + 100 * p + 2) f x) (6000 + 100 * p + 3) f y
theorem tl_S {p f x y : Int} (c : Int) : gS (tl_m A p f x y) c = gS A c := by
  unfold tl_m
  by_cases e : gI A (6000 + 100 * p + 1) f = 0
  · rw [if_pos e]; rfl
  · rw [if_neg e]; rfl
theorem ct_tell {n p f x y : Int} (hP : PS A n) (hp : 0 ≤ p ∧ p < n) (hf : 0 ≤ f ∧ f < 24) (hx : r32 x) (hy : r32 y) (ht : 0 ≤ gI A (6000 + 100 * p) 4 ∧ gI A (6000 + 100 * p) 4 ≤ 6) : mj_Cal G n_P_tell [mR (some (6000 + 100 * p)), mI f, mI x, mI y] A (fun r A' => r = none ∧ A' = tl_m A p f x y) mj_no := by
  refine mj_bodyK 0 0 [some (mR (some (6000 + 100 * p))), some (mI f), some (mI x), some (mI y)] rfl rfl rfl (by decide +kernel) (Nat.le_of_ble_eq_true rfl) (by simp) rfl ?_
  refine mx_R fun hR => ?_
  refine mx_aload_n 0 d_P_tell_0 rfl rfl ?_
  refine mx_getPs 1 d_P_tell_1 f_P_15 rfl rfl (hP.o _ (by omega) (by omega)) (hP.p1 _ (by omega) (by omega)) ?_
  refine mx_iload_n 1 d_P_tell_4 rfl rfl ?_
  refine mx_zald d_P_tell_5 (hP.s1 _ (by omega) (by omega)) (by omega) (by omega) ?_
  refine mx_if_ne 26 d_P_tell_6 rfl (by first | assumption | exact hR _ _ | exact r32_mk (by omega) (by omega)) (fun c_6 => ?_) (fun c_6 => ?_)
  · refine mx_aload_n 0 d_P_tell_26 rfl rfl ?_
    refine mx_getPs 2 d_P_tell_27 f_P_19 rfl rfl (hP.o _ (by omega) (by omega)) (hP.p2 _ (by omega) (by omega)) ?_
    refine mx_iload_n 1 d_P_tell_30 rfl rfl ?_
    refine mx_iload_n 2 d_P_tell_31 rfl rfl ?_
    refine mx_iast d_P_tell_32 (hP.s2 _ (by omega) (by omega)) (by omega) (by omega) (by first | assumption | exact hR _ _ | exact r32_mk (by omega) (by omega)) ?_
    refine mx_R fun hR_1 => ?_
    refine mx_aload_n 0 d_P_tell_33 rfl rfl ?_
    refine mx_getPs 3 d_P_tell_34 f_P_23 rfl rfl (hP.o _ (by omega) (by omega)) (hP.p3 _ (by omega) (by omega)) ?_
    refine mx_iload_n 1 d_P_tell_37 rfl rfl ?_
    refine mx_iload_n 3 d_P_tell_38 rfl rfl ?_
    refine mx_iast d_P_tell_39 (hP.s3 _ (by omega) (by omega)) (by omega) (by omega) (by first | assumption | exact hR_1 _ _ | exact hR _ _ | exact r32_mk (by omega) (by omega)) ?_
    refine mx_R fun hR_2 => ?_
    refine mx_vret d_P_tell_40 rfl ?_
    unfold tl_m
    first
      | (rw [if_neg (by assumption)]; exact ⟨rfl, rfl⟩)
      | (rw [if_pos (by assumption)]; exact ⟨rfl, rfl⟩)
  · refine mx_aload_n 0 d_P_tell_9 rfl rfl ?_
    refine mx_getPs 1 d_P_tell_10 f_P_15 rfl rfl (hP.o _ (by omega) (by omega)) (hP.p1 _ (by omega) (by omega)) ?_
    refine mx_iload_n 1 d_P_tell_13 rfl rfl ?_
    refine mx_iconst d_P_tell_14 ?_
    refine mx_zast d_P_tell_15 (hP.s1 _ (by omega) (by omega)) (by omega) (by omega) (by first | exact Or.inl rfl | exact Or.inr rfl | omega) ?_
    refine mx_R fun hR_3 => ?_
    refine mx_aload_n 0 d_P_tell_16 rfl rfl ?_
    refine mx_dup d_P_tell_17 (fun z h => by cases h) ?_
    refine mx_getI 4 d_P_tell_18 f_P_26 rfl rfl (hP.o _ (by omega) (by omega)) ?_
    rw [show gI (sI A ((6000 + 100 * p) + 1) f 1) (6000 + 100 * p) 4 = gI A (6000 + 100 * p) 4 by rw [gI_sI, if_neg (by omega)]]
    refine mx_iconst d_P_tell_21 ?_
    refine mx_iadd d_P_tell_22 ?_
    refine mx_putI 4 d_P_tell_23 f_P_26 rfl (hP.o _ (by omega) (by omega)) (Or.inl rfl) (Or.inl rfl) (by first | assumption | exact hR_3 _ _ | exact hR _ _ | exact r32_mk (by omega) (by omega)) ?_
    refine mx_R fun hR_4 => ?_
    refine mx_aload_n 0 d_P_tell_26 rfl rfl ?_
    refine mx_getPs 2 d_P_tell_27 f_P_19 rfl rfl (hP.o _ (by omega) (by omega)) (hP.p2 _ (by omega) (by omega)) ?_
    refine mx_iload_n 1 d_P_tell_30 rfl rfl ?_
    refine mx_iload_n 2 d_P_tell_31 rfl rfl ?_
    refine mx_iast d_P_tell_32 (hP.s2 _ (by omega) (by omega)) (by omega) (by omega) (by first | assumption | exact hR_4 _ _ | exact hR_3 _ _ | exact hR _ _ | exact r32_mk (by omega) (by omega)) ?_
    refine mx_R fun hR_5 => ?_
    refine mx_aload_n 0 d_P_tell_33 rfl rfl ?_
    refine mx_getPs 3 d_P_tell_34 f_P_23 rfl rfl (hP.o _ (by omega) (by omega)) (hP.p3 _ (by omega) (by omega)) ?_
    refine mx_iload_n 1 d_P_tell_37 rfl rfl ?_
    refine mx_iload_n 3 d_P_tell_38 rfl rfl ?_
    refine mx_iast d_P_tell_39 (hP.s3 _ (by omega) (by omega)) (by omega) (by omega) (by first | assumption | exact hR_5 _ _ | exact hR_4 _ _ | exact hR_3 _ _ | exact hR _ _ | exact r32_mk (by omega) (by omega)) ?_
    refine mx_R fun hR_6 => ?_
    refine mx_vret d_P_tell_40 rfl ?_
    unfold tl_m
    first
      | (rw [if_neg (by assumption)]; exact ⟨rfl, rfl⟩)
      | (rw [if_pos (by assumption)]; exact ⟨rfl, rfl⟩)
theorem PK.mv (h : PK A) {p f : Int} (hp : (0 ≤ p ∧ p < gI A 200 32)) (hf : 0 ≤ f ∧ f < 24) (hn : 0 ≤ gI A 234 p) : gI A ((6000 + 100 * p) + 1) f = 0 ↔ mv_k (gI A 235) p f (gI A 234 p).toNat = -1 := by
  have hk := mv_k_r (t := gI A 235) (p := p) (f := f) (gI A 234 p).toNat
  constructor
  · intro h0
    rcases hk with hk | hk
    · exact hk.1
    · have h1 := (h.t p hp.1 hp.2 _ hk.1.1 (by omega)).1
      rw [hk.2] at h1
      omega
  · intro h0
    rcases h.b p hp.1 hp.2 f hf.1 hf.2 with h1 | ⟨h1, k, k0, k1, k2⟩
    · exact h1
    · rcases hk with hk | hk
      · exact absurd k2 (hk.2 k k0 (by omega))
      · omega
theorem ct_move {C : Int → cT} {p f x y : Int} (hj : JJ C A) (hp : r32 p) (hf : r32 f) (hx : r32 x) (hy : r32 y) : mj_Cal G n_H_move [mR (some 100), mI p, mI f, mI x, mI y] A (fun r A' => ((0 ≤ p ∧ p < gI A 200 32) ∧ (0 ≤ f ∧ f ≤ 23 ∧ -20 ≤ x ∧ x ≤ 20 ∧ -20 ≤ y ∧ y ≤ 20) ∧ ((0 ≤ p ∧ p < gI A 200 32) ∧ (mv_k (gI A 235) p f (gI A 234 p).toNat ≠ -1 ∨ gI A 234 p < 6))) ∧ r = some (mI (if mv_k (gI A 235) p f (gI A 234 p).toNat = -1 then gI A 234 p + 1 else gI A 234 p)) ∧ A' = tl_m A p f x y) (px3 A xI xA xS (0 ≤ p ∧ p < gI A 200 32) (0 ≤ f ∧ f ≤ 23 ∧ -20 ≤ x ∧ x ≤ 20 ∧ -20 ≤ y ∧ y ≤ 20) ((0 ≤ p ∧ p < gI A 200 32) ∧ (mv_k (gI A 235) p f (gI A 234 p).toNat ≠ -1 ∨ gI A 234 p < 6))) := by
  refine mj_bodyK 4 24 [some (mR (some 100)), some (mI p), some (mI f), some (mI x), some (mI y), none] rfl rfl rfl (by decide +kernel) (Nat.le_of_ble_eq_true rfl) (by simp) rfl ?_
  have hH := hj.x.H
  have hnp := hj.m.p.np
  have hP := hj.p.S
  refine mx_R fun hR => ?_
  refine mx_aload_n 0 d_H_move_0 rfl rfl ?_
  refine mx_iload_n 1 d_H_move_1 rfl rfl ?_
  refine mx_callV (kc := 3) (ks := 18) (N := n_H_needPeg) (as := [_]) (ci := 6) d_H_move_2 s_H_203 ⟨Nat.le_of_ble_eq_true rfl, Nat.le_of_ble_eq_true rfl⟩ rfl (mj_wt_8 (Nat.le_of_ble_eq_true rfl)) (hH.o) ⟨_, rfl, rfl⟩ (ct_needPeg hj hp) (fun r_2 A_2 h_2 => ?_) (fun E_2 A_x h_2 => ?_)
  rotate_left
  · exact mt_n h_2 rfl fun hn => ⟨rfl, Or.inl ⟨rfl, hn⟩⟩
  obtain ⟨rfl, h1, hA_2⟩ := h_2
  obtain rfl := hA_2.symm
  clear hA_2
  refine mx_R fun hR_1 => ?_
  refine mx_iload_n 2 d_H_move_5 rfl rfl ?_
  refine mx_if_lt 15 d_H_move_6 rfl (by first | assumption | exact hR_1 _ _ | exact hR _ _ | exact r32_mk (by omega) (by omega)) (fun c_6 => ?_) (fun c_6 => ?_)
  · refine mx_throw (text := "a frame is 0 to 23") t_H_79_83 (by decide) rfl (Nat.le_of_ble_eq_true rfl) (Nat.le_of_ble_eq_true rfl) d_H_move_15 d_H_move_18 d_H_move_19 d_H_move_21 d_H_move_24 ?_
    exact ⟨rfl, Or.inr (Or.inl ⟨rfl, h1, by omega⟩)⟩
  · refine mx_iload_n 2 d_H_move_9 rfl rfl ?_
    refine mx_bipush d_H_move_10 (by decide) ?_
    refine mx_icmp_lt 25 d_H_move_12 rfl (by first | assumption | exact hR_1 _ _ | exact hR _ _ | exact r32_mk (by omega) (by omega)) (by first | assumption | exact hR_1 _ _ | exact hR _ _ | exact r32_mk (by omega) (by omega)) (fun c_12 => ?_) (fun c_12 => ?_)
    · refine mx_iload_n 3 d_H_move_25 rfl rfl ?_
      refine mx_bipush d_H_move_26 (by decide) ?_
      refine mx_icmp_lt 51 d_H_move_28 rfl (by first | assumption | exact hR_1 _ _ | exact hR _ _ | exact r32_mk (by omega) (by omega)) (by first | assumption | exact hR_1 _ _ | exact hR _ _ | exact r32_mk (by omega) (by omega)) (fun c_28 => ?_) (fun c_28 => ?_)
      · refine mx_throw (text := "x and y are -20 to 20") t_H_79_83 (by decide) rfl (Nat.le_of_ble_eq_true rfl) (Nat.le_of_ble_eq_true rfl) d_H_move_51 d_H_move_54 d_H_move_55 d_H_move_57 d_H_move_60 ?_
        exact ⟨rfl, Or.inr (Or.inl ⟨rfl, h1, by omega⟩)⟩
      · refine mx_iload_n 3 d_H_move_31 rfl rfl ?_
        refine mx_bipush d_H_move_32 (by decide) ?_
        refine mx_icmp_gt 51 d_H_move_34 rfl (by first | assumption | exact hR_1 _ _ | exact hR _ _ | exact r32_mk (by omega) (by omega)) (by first | assumption | exact hR_1 _ _ | exact hR _ _ | exact r32_mk (by omega) (by omega)) (fun c_34 => ?_) (fun c_34 => ?_)
        · refine mx_throw (text := "x and y are -20 to 20") t_H_79_83 (by decide) rfl (Nat.le_of_ble_eq_true rfl) (Nat.le_of_ble_eq_true rfl) d_H_move_51 d_H_move_54 d_H_move_55 d_H_move_57 d_H_move_60 ?_
          exact ⟨rfl, Or.inr (Or.inl ⟨rfl, h1, by omega⟩)⟩
        · refine mx_iload 4 d_H_move_37 rfl ?_
          refine mx_bipush d_H_move_39 (by decide) ?_
          refine mx_icmp_lt 51 d_H_move_41 rfl (by first | assumption | exact hR_1 _ _ | exact hR _ _ | exact r32_mk (by omega) (by omega)) (by first | assumption | exact hR_1 _ _ | exact hR _ _ | exact r32_mk (by omega) (by omega)) (fun c_41 => ?_) (fun c_41 => ?_)
          · refine mx_throw (text := "x and y are -20 to 20") t_H_79_83 (by decide) rfl (Nat.le_of_ble_eq_true rfl) (Nat.le_of_ble_eq_true rfl) d_H_move_51 d_H_move_54 d_H_move_55 d_H_move_57 d_H_move_60 ?_
            exact ⟨rfl, Or.inr (Or.inl ⟨rfl, h1, by omega⟩)⟩
          · refine mx_iload 4 d_H_move_44 rfl ?_
            refine mx_bipush d_H_move_46 (by decide) ?_
            refine mx_icmp_le 61 d_H_move_48 rfl (by first | assumption | exact hR_1 _ _ | exact hR _ _ | exact r32_mk (by omega) (by omega)) (by first | assumption | exact hR_1 _ _ | exact hR _ _ | exact r32_mk (by omega) (by omega)) (fun c_48 => ?_) (fun c_48 => ?_)
            · have hJ : (0 ≤ f ∧ f ≤ 23 ∧ -20 ≤ x ∧ x ≤ 20 ∧ -20 ≤ y ∧ y ≤ 20) := by omega
              have htn := hj.m.p.tn p h1.1 h1.2
              have hmv := hj.p.mv h1 (f := f) ⟨by omega, by omega⟩ htn.1
              have hn4 := hj.p.n p h1.1 h1.2
              refine mx_less (kc' := 1) (ks' := 6) (by decide) (by decide) ?_
              refine mx_R fun hR => ?_
              refine mx_aload_n 0 d_H_move_61 rfl rfl ?_
              refine mx_getPs 8 d_H_move_62 f_H_36 rfl rfl (hH.o) (hH.p8) ?_
              refine mx_iload_n 1 d_H_move_65 rfl rfl ?_
              refine mx_aalds d_H_move_66 (hH.s8) (by decide) (by omega) (by omega) (hj.p.r p h1.1 h1.2) ?_
              refine mx_astore 5 d_H_move_67 (Nat.le_of_ble_eq_true rfl) ?_
              refine mx_aload 5 d_H_move_69 rfl ?_
              refine mx_getPs 1 d_H_move_71 f_H_218 rfl rfl (hP.o p h1.1 h1.2) (hP.p1 p h1.1 h1.2) ?_
              refine mx_iload_n 2 d_H_move_74 rfl rfl ?_
              refine mx_zald d_H_move_75 (hP.s1 p h1.1 h1.2) (by omega) (by omega) ?_
              refine mx_if_ne 99 d_H_move_76 rfl (by first | assumption | exact hR _ _ | exact r32_mk (by omega) (by omega)) (fun c_76 => ?_) (fun c_76 => ?_)
              · refine mx_aload 5 d_H_move_99 rfl ?_
                refine mx_iload_n 2 d_H_move_101 rfl rfl ?_
                refine mx_iload_n 3 d_H_move_102 rfl rfl ?_
                refine mx_iload 4 d_H_move_103 rfl ?_
                refine mx_callV (kc := 1) (ks := 6) (N := n_P_tell) (as := [_, _, _]) (ci := 2) d_H_move_105 s_H_226 ⟨Nat.le_of_ble_eq_true rfl, Nat.le_of_ble_eq_true rfl⟩ rfl (mj_wt_8 (Nat.le_of_ble_eq_true rfl)) (hP.o p h1.1 h1.2) ⟨_, rfl, rfl⟩ (ct_tell hP h1 ⟨by omega, by omega⟩ hx hy (by rw [hn4]; exact htn)) (fun r_105 A_105 h_105 => ?_) (fun E_105 A_x h_105 => ?_)
                rotate_left
                · exact h_105.elim
                obtain ⟨rfl, hA_105⟩ := h_105
                obtain rfl := hA_105.symm
                clear hA_105
                refine mx_R fun hR_1 => ?_
                refine mx_aload 5 d_H_move_108 rfl ?_
                refine mx_getI 4 d_H_move_110 f_H_221 rfl rfl ((tl_S _).trans (hP.o p h1.1 h1.2)) ?_
                rw [show gI (tl_m A p f x y) (6000 + 100 * p) 4 = if gI A ((6000 + 100 * p) + 1) f = 0 then gI A 234 p + 1 else gI A 234 p by
                  unfold tl_m
                  rw [gI_sI, if_neg (by omega), gI_sI, if_neg (by omega)]
                  by_cases e : gI A ((6000 + 100 * p) + 1) f = 0
                  · rw [if_pos e, if_pos e, gI_sIs, hn4]
                  · rw [if_neg e, if_neg e, hn4]]
                refine mx_iret d_H_move_113 rfl ?_
                refine ⟨⟨h1, hJ, h1, ?_⟩, congrArg (fun z => some (mI z)) (mj_ic hmv), rfl⟩
                first
                  | exact Or.inl (fun e => absurd (hmv.mpr e) (by assumption))
                  | exact Or.inr (by omega)
              · refine mx_aload 5 d_H_move_79 rfl ?_
                refine mx_getI 4 d_H_move_81 f_H_221 rfl rfl (hP.o p h1.1 h1.2) ?_
                rw [hn4]
                refine mx_bipush d_H_move_84 (by decide) ?_
                refine mx_icmp_lt 99 d_H_move_86 rfl (by first | assumption | exact hR _ _ | exact r32_mk (by omega) (by omega)) (by first | assumption | exact hR _ _ | exact r32_mk (by omega) (by omega)) (fun c_86 => ?_) (fun c_86 => ?_)
                · refine mx_aload 5 d_H_move_99 rfl ?_
                  refine mx_iload_n 2 d_H_move_101 rfl rfl ?_
                  refine mx_iload_n 3 d_H_move_102 rfl rfl ?_
                  refine mx_iload 4 d_H_move_103 rfl ?_
                  refine mx_callV (kc := 1) (ks := 6) (N := n_P_tell) (as := [_, _, _]) (ci := 2) d_H_move_105 s_H_226 ⟨Nat.le_of_ble_eq_true rfl, Nat.le_of_ble_eq_true rfl⟩ rfl (mj_wt_8 (Nat.le_of_ble_eq_true rfl)) (hP.o p h1.1 h1.2) ⟨_, rfl, rfl⟩ (ct_tell hP h1 ⟨by omega, by omega⟩ hx hy (by rw [hn4]; exact htn)) (fun r_105 A_105 h_105 => ?_) (fun E_105 A_x h_105 => ?_)
                  rotate_left
                  · exact h_105.elim
                  obtain ⟨rfl, hA_105⟩ := h_105
                  obtain rfl := hA_105.symm
                  clear hA_105
                  refine mx_R fun hR_2 => ?_
                  refine mx_aload 5 d_H_move_108 rfl ?_
                  refine mx_getI 4 d_H_move_110 f_H_221 rfl rfl ((tl_S _).trans (hP.o p h1.1 h1.2)) ?_
                  rw [show gI (tl_m A p f x y) (6000 + 100 * p) 4 = if gI A ((6000 + 100 * p) + 1) f = 0 then gI A 234 p + 1 else gI A 234 p by
                    unfold tl_m
                    rw [gI_sI, if_neg (by omega), gI_sI, if_neg (by omega)]
                    by_cases e : gI A ((6000 + 100 * p) + 1) f = 0
                    · rw [if_pos e, if_pos e, gI_sIs, hn4]
                    · rw [if_neg e, if_neg e, hn4]]
                  refine mx_iret d_H_move_113 rfl ?_
                  refine ⟨⟨h1, hJ, h1, ?_⟩, congrArg (fun z => some (mI z)) (mj_ic hmv), rfl⟩
                  first
                    | exact Or.inl (fun e => absurd (hmv.mpr e) (by assumption))
                    | exact Or.inr (by omega)
                · refine mx_throw (text := "6 others were told") t_H_134_138 (by decide) rfl (Nat.le_of_ble_eq_true rfl) (Nat.le_of_ble_eq_true rfl) d_H_move_89 d_H_move_92 d_H_move_93 d_H_move_95 d_H_move_98 ?_
                  exact ⟨rfl, Or.inr (Or.inr ⟨rfl, h1, hJ, fun h => by have := hmv.mp (by assumption); omega⟩)⟩
            · refine mx_throw (text := "x and y are -20 to 20") t_H_79_83 (by decide) rfl (Nat.le_of_ble_eq_true rfl) (Nat.le_of_ble_eq_true rfl) d_H_move_51 d_H_move_54 d_H_move_55 d_H_move_57 d_H_move_60 ?_
              exact ⟨rfl, Or.inr (Or.inl ⟨rfl, h1, by omega⟩)⟩
    · refine mx_throw (text := "a frame is 0 to 23") t_H_79_83 (by decide) rfl (Nat.le_of_ble_eq_true rfl) (Nat.le_of_ble_eq_true rfl) d_H_move_15 d_H_move_18 d_H_move_19 d_H_move_21 d_H_move_24 ?_
      exact ⟨rfl, Or.inr (Or.inl ⟨rfl, h1, by omega⟩)⟩
def hg_m (A : mj_M) (s l p e : Int) : mj_M := if l = 4 then sP A (4000 + 100 * s) 7 (pp p) else sI (sP A (4000 + 100 * s + 4) l (pp p)) (4000 + 100 * s + 5) l e
theorem ct_hang_t {C : Int → cT} {s l p e : Int} {w : Option Int} (hj : JJ C A) (hI : ((0 ≤ s ∧ s < gI A 200 23) ∧ (0 ≤ l ∧ l ≤ 4) ∧ (p = -1 ∨ (0 ≤ p ∧ p < gI A 200 32)))) (hJ : (l = 4 ∨ (1 ≤ e ∧ e ≤ 4))) (he : r32 e) (hw : w = pp p) {PX : String → mj_M → Prop} :
    mj_X G n_H_hang (mj_Qm G n_H_hang (fun r A' => r = none ∧ (((0 ≤ s ∧ s < gI A 200 23) ∧ (0 ≤ l ∧ l ≤ 4) ∧ (p = -1 ∨ (0 ≤ p ∧ p < gI A 200 32))) ∧ (l = 4 ∨ (1 ≤ e ∧ e ≤ 4))) ∧ A' = hg_m A s l p e) PX) A 1 6 66 [some (mR (some 100)), some (mI s), some (mI l), some (mI p), some (mI e), none] [mR w] := by
  have hH := hj.x.H
  have hns := hj.m.g.ns
  have hS := hj.s.S
  have hP := hj.p.S
  have hwo : ∀ q, w = some q → gS A q = some (.inl 2) := fun q hq => by
    rw [hw] at hq
    by_cases ep : p = -1
    · rw [show pp p = none from if_pos ep] at hq; cases hq
    · rw [pp_s ep] at hq; cases hq
      exact hP.o p (by omega) (by omega)
  refine mx_R fun hR => ?_
  refine mx_astore 5 d_H_hang_66 (Nat.le_of_ble_eq_true rfl) ?_
  refine mx_iload_n 2 d_H_hang_68 rfl rfl ?_
  refine mx_iconst d_H_hang_69 ?_
  refine mx_icmp_ne 87 d_H_hang_70 rfl (by first | assumption | exact hR _ _ | exact r32_mk (by omega) (by omega)) (by first | assumption | exact hR _ _ | exact r32_mk (by omega) (by omega)) (fun c_70 => ?_) (fun c_70 => ?_)
  · refine mx_aload_n 0 d_H_hang_87 rfl rfl ?_
    refine mx_getPs 5 d_H_hang_88 f_H_21 rfl rfl (hH.o) (hH.p5) ?_
    refine mx_iload_n 1 d_H_hang_91 rfl rfl ?_
    refine mx_aalds d_H_hang_92 (hH.s5) (by decide) (by omega) (by omega) (hj.s.r s hI.1.1 hI.1.2) ?_
    refine mx_getPs 5 d_H_hang_93 f_H_236 rfl rfl (hS.o s hI.1.1 hI.1.2) (hS.p5 _ (by omega) (by omega)) ?_
    refine mx_iload_n 2 d_H_hang_96 rfl rfl ?_
    refine mx_aload 5 d_H_hang_97 rfl ?_
    refine mx_aastO d_H_hang_99 (hS.s5 s hI.1.1 hI.1.2) (by decide) (by omega) (by omega) (fun q hq => hwo q hq) ?_
    refine mx_aload_n 0 d_H_hang_100 rfl rfl ?_
    refine mx_getPs 5 d_H_hang_101 f_H_21 rfl rfl (hH.o) ((by rw [gP_sP, if_neg (by omega)]; exact hH.p5)) ?_
    refine mx_iload_n 1 d_H_hang_104 rfl rfl ?_
    refine mx_aalds d_H_hang_105 (hH.s5) (by decide) (by omega) (by omega) ((by rw [gP_sP, if_neg (by omega)]; exact hj.s.r s hI.1.1 hI.1.2)) ?_
    refine mx_getPs 6 d_H_hang_106 f_H_237 rfl rfl (hS.o s hI.1.1 hI.1.2) ((by rw [gP_sP, if_neg (by omega)]; exact hS.p6 s hI.1.1 hI.1.2)) ?_
    refine mx_iload_n 2 d_H_hang_109 rfl rfl ?_
    refine mx_iload 4 d_H_hang_110 rfl ?_
    refine mx_iast d_H_hang_112 (hS.s6 _ (by omega) (by omega)) (by omega) (by omega) (by first | assumption | exact hR _ _ | exact r32_mk (by omega) (by omega)) ?_
    refine mx_R fun hR_1 => ?_
    refine mx_vret d_H_hang_113 rfl ?_
    refine ⟨rfl, ⟨hI, hJ⟩, ?_⟩
    unfold hg_m
    first
      | (rw [if_pos (by assumption), hw])
      | (rw [if_neg (by assumption), hw])
  · refine mx_aload_n 0 d_H_hang_73 rfl rfl ?_
    refine mx_getPs 5 d_H_hang_74 f_H_21 rfl rfl (hH.o) (hH.p5) ?_
    refine mx_iload_n 1 d_H_hang_77 rfl rfl ?_
    refine mx_aalds d_H_hang_78 (hH.s5) (by decide) (by omega) (by omega) (hj.s.r s hI.1.1 hI.1.2) ?_
    refine mx_aload 5 d_H_hang_79 rfl ?_
    refine mx_putP 7 d_H_hang_81 f_H_232 rfl (hS.o s hI.1.1 hI.1.2) (Or.inl rfl) (Or.inl ⟨_, rfl⟩) ?_
    refine mx_R fun hR_2 => ?_
    refine mx_goto 113 d_H_hang_84 rfl ?_
    refine mx_vret d_H_hang_113 rfl ?_
    refine ⟨rfl, ⟨hI, hJ⟩, ?_⟩
    unfold hg_m
    first
      | (rw [if_pos (by assumption), hw])
      | (rw [if_neg (by assumption), hw])
theorem ct_hang {C : Int → cT} {s l p e : Int} (hj : JJ C A) (hs : r32 s) (hl : r32 l) (hp : r32 p) (he : r32 e) : mj_Cal G n_H_hang [mR (some 100), mI s, mI l, mI p, mI e] A (fun r A' => r = none ∧ (((0 ≤ s ∧ s < gI A 200 23) ∧ (0 ≤ l ∧ l ≤ 4) ∧ (p = -1 ∨ (0 ≤ p ∧ p < gI A 200 32))) ∧ (l = 4 ∨ (1 ≤ e ∧ e ≤ 4))) ∧ A' = hg_m A s l p e) (px2 A xI xA ((0 ≤ s ∧ s < gI A 200 23) ∧ (0 ≤ l ∧ l ≤ 4) ∧ (p = -1 ∨ (0 ≤ p ∧ p < gI A 200 32))) (l = 4 ∨ (1 ≤ e ∧ e ≤ 4))) := by
  refine mj_bodyK 4 24 [some (mR (some 100)), some (mI s), some (mI l), some (mI p), some (mI e), none] rfl rfl rfl (by decide +kernel) (Nat.le_of_ble_eq_true rfl) (by simp) rfl ?_
  have hH := hj.x.H
  have hnp := hj.m.p.np
  refine mx_R fun hR => ?_
  refine mx_aload_n 0 d_H_hang_0 rfl rfl ?_
  refine mx_iload_n 1 d_H_hang_1 rfl rfl ?_
  refine mx_callV (kc := 3) (ks := 18) (N := n_H_needScene) (as := [_]) (ci := 6) d_H_hang_2 s_H_173 ⟨Nat.le_of_ble_eq_true rfl, Nat.le_of_ble_eq_true rfl⟩ rfl (mj_wt_8 (Nat.le_of_ble_eq_true rfl)) (hH.o) ⟨_, rfl, rfl⟩ (ct_needScene hj hs) (fun r_2 A_2 h_2 => ?_) (fun E_2 A_x h_2 => ?_)
  rotate_left
  · exact mt_n h_2 rfl fun hn => ⟨rfl, Or.inl ⟨rfl, by omega⟩⟩
  obtain ⟨rfl, h1, hA_2⟩ := h_2
  obtain rfl := hA_2.symm
  clear hA_2
  refine mx_R fun hR_1 => ?_
  refine mx_iload_n 2 d_H_hang_5 rfl rfl ?_
  refine mx_iconst d_H_hang_6 ?_
  refine mx_icmp_eq 14 d_H_hang_7 rfl (by first | assumption | exact hR_1 _ _ | exact hR _ _ | exact r32_mk (by omega) (by omega)) (by first | assumption | exact hR_1 _ _ | exact hR _ _ | exact r32_mk (by omega) (by omega)) (fun c_7 => ?_) (fun c_7 => ?_)
  · refine mx_iload_n 3 d_H_hang_14 rfl rfl ?_
    refine mx_iconst d_H_hang_15 ?_
    refine mx_icmp_eq 24 d_H_hang_16 rfl (by first | assumption | exact hR_1 _ _ | exact hR _ _ | exact r32_mk (by omega) (by omega)) (by first | assumption | exact hR_1 _ _ | exact hR _ _ | exact r32_mk (by omega) (by omega)) (fun c_16 => ?_) (fun c_16 => ?_)
    · have hI : ((0 ≤ s ∧ s < gI A 200 23) ∧ (0 ≤ l ∧ l ≤ 4) ∧ (p = -1 ∨ (0 ≤ p ∧ p < gI A 200 32))) := by omega
      refine mx_less (kc' := 1) (ks' := 6) (by decide) (by decide) ?_
      refine mx_R fun hR => ?_
      refine mx_iload_n 2 d_H_hang_24 rfl rfl ?_
      refine mx_iconst d_H_hang_25 ?_
      refine mx_icmp_eq 51 d_H_hang_26 rfl (by first | assumption | exact hR _ _ | exact r32_mk (by omega) (by omega)) (by first | assumption | exact hR _ _ | exact r32_mk (by omega) (by omega)) (fun c_26 => ?_) (fun c_26 => ?_)
      · have hJ : (l = 4 ∨ (1 ≤ e ∧ e ≤ 4)) := by omega
        refine mx_R fun hR => ?_
        refine mx_iload_n 3 d_H_hang_51 rfl rfl ?_
        refine mx_iconst d_H_hang_52 ?_
        refine mx_icmp_ne 60 d_H_hang_53 rfl (by first | assumption | exact hR _ _ | exact r32_mk (by omega) (by omega)) (by first | assumption | exact hR _ _ | exact r32_mk (by omega) (by omega)) (fun c_53 => ?_) (fun c_53 => ?_)
        · refine mx_aload_n 0 d_H_hang_60 rfl rfl ?_
          refine mx_getPs 8 d_H_hang_61 f_H_36 rfl rfl (hH.o) (hH.p8) ?_
          refine mx_iload_n 3 d_H_hang_64 rfl rfl ?_
          refine mx_aalds d_H_hang_65 (hH.s8) (by decide) (by omega) (by omega) (hj.p.r p (by omega) (by omega)) ?_
          first
          | exact ct_hang_t hj hI hJ he (if_pos (by assumption)).symm
          | exact ct_hang_t hj hI hJ he (pp_s (by assumption)).symm
        · refine mx_null d_H_hang_56 ?_
          refine mx_goto 66 d_H_hang_57 rfl ?_
          first
          | exact ct_hang_t hj hI hJ he (if_pos (by assumption)).symm
          | exact ct_hang_t hj hI hJ he (pp_s (by assumption)).symm
      · refine mx_iload 4 d_H_hang_29 rfl ?_
        refine mx_iconst d_H_hang_31 ?_
        refine mx_icmp_lt 41 d_H_hang_32 rfl (by first | assumption | exact hR _ _ | exact r32_mk (by omega) (by omega)) (by first | assumption | exact hR _ _ | exact r32_mk (by omega) (by omega)) (fun c_32 => ?_) (fun c_32 => ?_)
        · refine mx_throw (text := "a depth is 1 to 4") t_H_79_83 (by decide) rfl (Nat.le_of_ble_eq_true rfl) (Nat.le_of_ble_eq_true rfl) d_H_hang_41 d_H_hang_44 d_H_hang_45 d_H_hang_47 d_H_hang_50 ?_
          exact ⟨rfl, Or.inr ⟨rfl, hI, by omega⟩⟩
        · refine mx_iload 4 d_H_hang_35 rfl ?_
          refine mx_iconst d_H_hang_37 ?_
          refine mx_icmp_le 51 d_H_hang_38 rfl (by first | assumption | exact hR _ _ | exact r32_mk (by omega) (by omega)) (by first | assumption | exact hR _ _ | exact r32_mk (by omega) (by omega)) (fun c_38 => ?_) (fun c_38 => ?_)
          · have hJ : (l = 4 ∨ (1 ≤ e ∧ e ≤ 4)) := by omega
            refine mx_R fun hR => ?_
            refine mx_iload_n 3 d_H_hang_51 rfl rfl ?_
            refine mx_iconst d_H_hang_52 ?_
            refine mx_icmp_ne 60 d_H_hang_53 rfl (by first | assumption | exact hR _ _ | exact r32_mk (by omega) (by omega)) (by first | assumption | exact hR _ _ | exact r32_mk (by omega) (by omega)) (fun c_53 => ?_) (fun c_53 => ?_)
            · refine mx_aload_n 0 d_H_hang_60 rfl rfl ?_
              refine mx_getPs 8 d_H_hang_61 f_H_36 rfl rfl (hH.o) (hH.p8) ?_
              refine mx_iload_n 3 d_H_hang_64 rfl rfl ?_
              refine mx_aalds d_H_hang_65 (hH.s8) (by decide) (by omega) (by omega) (hj.p.r p (by omega) (by omega)) ?_
              first
              | exact ct_hang_t hj hI hJ he (if_pos (by assumption)).symm
              | exact ct_hang_t hj hI hJ he (pp_s (by assumption)).symm
            · refine mx_null d_H_hang_56 ?_
              refine mx_goto 66 d_H_hang_57 rfl ?_
              first
              | exact ct_hang_t hj hI hJ he (if_pos (by assumption)).symm
              | exact ct_hang_t hj hI hJ he (pp_s (by assumption)).symm
          · refine mx_throw (text := "a depth is 1 to 4") t_H_79_83 (by decide) rfl (Nat.le_of_ble_eq_true rfl) (Nat.le_of_ble_eq_true rfl) d_H_hang_41 d_H_hang_44 d_H_hang_45 d_H_hang_47 d_H_hang_50 ?_
            exact ⟨rfl, Or.inr ⟨rfl, hI, by omega⟩⟩
    · refine mx_aload_n 0 d_H_hang_19 rfl rfl ?_
      refine mx_iload_n 3 d_H_hang_20 rfl rfl ?_
      refine mx_callV (kc := 2) (ks := 12) (N := n_H_needPeg) (as := [_]) (ci := 6) d_H_hang_21 s_H_203 ⟨Nat.le_of_ble_eq_true rfl, Nat.le_of_ble_eq_true rfl⟩ rfl (mj_wt_8 (Nat.le_of_ble_eq_true rfl)) (hH.o) ⟨_, rfl, rfl⟩ (ct_needPeg hj hp) (fun r_21 A_21 h_21 => ?_) (fun E_21 A_x h_21 => ?_)
      rotate_left
      · exact mt_n h_21 rfl fun hn => ⟨rfl, Or.inl ⟨rfl, by omega⟩⟩
      obtain ⟨rfl, h3, hA_21⟩ := h_21
      obtain rfl := hA_21.symm
      clear hA_21
      refine mx_R fun hR_2 => ?_
      have hI : ((0 ≤ s ∧ s < gI A 200 23) ∧ (0 ≤ l ∧ l ≤ 4) ∧ (p = -1 ∨ (0 ≤ p ∧ p < gI A 200 32))) := by omega
      refine mx_less (kc' := 1) (ks' := 6) (by decide) (by decide) ?_
      refine mx_R fun hR => ?_
      refine mx_iload_n 2 d_H_hang_24 rfl rfl ?_
      refine mx_iconst d_H_hang_25 ?_
      refine mx_icmp_eq 51 d_H_hang_26 rfl (by first | assumption | exact hR _ _ | exact r32_mk (by omega) (by omega)) (by first | assumption | exact hR _ _ | exact r32_mk (by omega) (by omega)) (fun c_26 => ?_) (fun c_26 => ?_)
      · have hJ : (l = 4 ∨ (1 ≤ e ∧ e ≤ 4)) := by omega
        refine mx_R fun hR => ?_
        refine mx_iload_n 3 d_H_hang_51 rfl rfl ?_
        refine mx_iconst d_H_hang_52 ?_
        refine mx_icmp_ne 60 d_H_hang_53 rfl (by first | assumption | exact hR _ _ | exact r32_mk (by omega) (by omega)) (by first | assumption | exact hR _ _ | exact r32_mk (by omega) (by omega)) (fun c_53 => ?_) (fun c_53 => ?_)
        · refine mx_aload_n 0 d_H_hang_60 rfl rfl ?_
          refine mx_getPs 8 d_H_hang_61 f_H_36 rfl rfl (hH.o) (hH.p8) ?_
          refine mx_iload_n 3 d_H_hang_64 rfl rfl ?_
          refine mx_aalds d_H_hang_65 (hH.s8) (by decide) (by omega) (by omega) (hj.p.r p (by omega) (by omega)) ?_
          first
          | exact ct_hang_t hj hI hJ he (if_pos (by assumption)).symm
          | exact ct_hang_t hj hI hJ he (pp_s (by assumption)).symm
        · refine mx_null d_H_hang_56 ?_
          refine mx_goto 66 d_H_hang_57 rfl ?_
          first
          | exact ct_hang_t hj hI hJ he (if_pos (by assumption)).symm
          | exact ct_hang_t hj hI hJ he (pp_s (by assumption)).symm
      · refine mx_iload 4 d_H_hang_29 rfl ?_
        refine mx_iconst d_H_hang_31 ?_
        refine mx_icmp_lt 41 d_H_hang_32 rfl (by first | assumption | exact hR _ _ | exact r32_mk (by omega) (by omega)) (by first | assumption | exact hR _ _ | exact r32_mk (by omega) (by omega)) (fun c_32 => ?_) (fun c_32 => ?_)
        · refine mx_throw (text := "a depth is 1 to 4") t_H_79_83 (by decide) rfl (Nat.le_of_ble_eq_true rfl) (Nat.le_of_ble_eq_true rfl) d_H_hang_41 d_H_hang_44 d_H_hang_45 d_H_hang_47 d_H_hang_50 ?_
          exact ⟨rfl, Or.inr ⟨rfl, hI, by omega⟩⟩
        · refine mx_iload 4 d_H_hang_35 rfl ?_
          refine mx_iconst d_H_hang_37 ?_
          refine mx_icmp_le 51 d_H_hang_38 rfl (by first | assumption | exact hR _ _ | exact r32_mk (by omega) (by omega)) (by first | assumption | exact hR _ _ | exact r32_mk (by omega) (by omega)) (fun c_38 => ?_) (fun c_38 => ?_)
          · have hJ : (l = 4 ∨ (1 ≤ e ∧ e ≤ 4)) := by omega
            refine mx_R fun hR => ?_
            refine mx_iload_n 3 d_H_hang_51 rfl rfl ?_
            refine mx_iconst d_H_hang_52 ?_
            refine mx_icmp_ne 60 d_H_hang_53 rfl (by first | assumption | exact hR _ _ | exact r32_mk (by omega) (by omega)) (by first | assumption | exact hR _ _ | exact r32_mk (by omega) (by omega)) (fun c_53 => ?_) (fun c_53 => ?_)
            · refine mx_aload_n 0 d_H_hang_60 rfl rfl ?_
              refine mx_getPs 8 d_H_hang_61 f_H_36 rfl rfl (hH.o) (hH.p8) ?_
              refine mx_iload_n 3 d_H_hang_64 rfl rfl ?_
              refine mx_aalds d_H_hang_65 (hH.s8) (by decide) (by omega) (by omega) (hj.p.r p (by omega) (by omega)) ?_
              first
              | exact ct_hang_t hj hI hJ he (if_pos (by assumption)).symm
              | exact ct_hang_t hj hI hJ he (pp_s (by assumption)).symm
            · refine mx_null d_H_hang_56 ?_
              refine mx_goto 66 d_H_hang_57 rfl ?_
              first
              | exact ct_hang_t hj hI hJ he (if_pos (by assumption)).symm
              | exact ct_hang_t hj hI hJ he (pp_s (by assumption)).symm
          · refine mx_throw (text := "a depth is 1 to 4") t_H_79_83 (by decide) rfl (Nat.le_of_ble_eq_true rfl) (Nat.le_of_ble_eq_true rfl) d_H_hang_41 d_H_hang_44 d_H_hang_45 d_H_hang_47 d_H_hang_50 ?_
            exact ⟨rfl, Or.inr ⟨rfl, hI, by omega⟩⟩
  · refine mx_iload_n 2 d_H_hang_10 rfl rfl ?_
    refine mx_callS (kc := 2) (ks := 12) (N := n_H_needLevel) (as := [_]) d_H_hang_11 s_H_176 ⟨Nat.le_of_ble_eq_true rfl, Nat.le_of_ble_eq_true rfl⟩ rfl (mj_wt_8 (Nat.le_of_ble_eq_true rfl)) (ct_needLevel hl) (fun r_11 A_11 h_11 => ?_) (fun E_11 A_x h_11 => ?_)
    rotate_left
    · exact mt_n h_11 rfl fun hn => ⟨rfl, Or.inl ⟨rfl, by omega⟩⟩
    obtain ⟨rfl, h2, hA_11⟩ := h_11
    obtain rfl := hA_11.symm
    clear hA_11
    refine mx_R fun hR_3 => ?_
    refine mx_iload_n 3 d_H_hang_14 rfl rfl ?_
    refine mx_iconst d_H_hang_15 ?_
    refine mx_icmp_eq 24 d_H_hang_16 rfl (by first | assumption | exact hR_3 _ _ | exact hR_1 _ _ | exact hR _ _ | exact r32_mk (by omega) (by omega)) (by first | assumption | exact hR_3 _ _ | exact hR_1 _ _ | exact hR _ _ | exact r32_mk (by omega) (by omega)) (fun c_16 => ?_) (fun c_16 => ?_)
    · have hI : ((0 ≤ s ∧ s < gI A 200 23) ∧ (0 ≤ l ∧ l ≤ 4) ∧ (p = -1 ∨ (0 ≤ p ∧ p < gI A 200 32))) := by omega
      refine mx_less (kc' := 1) (ks' := 6) (by decide) (by decide) ?_
      refine mx_R fun hR => ?_
      refine mx_iload_n 2 d_H_hang_24 rfl rfl ?_
      refine mx_iconst d_H_hang_25 ?_
      refine mx_icmp_eq 51 d_H_hang_26 rfl (by first | assumption | exact hR _ _ | exact r32_mk (by omega) (by omega)) (by first | assumption | exact hR _ _ | exact r32_mk (by omega) (by omega)) (fun c_26 => ?_) (fun c_26 => ?_)
      · have hJ : (l = 4 ∨ (1 ≤ e ∧ e ≤ 4)) := by omega
        refine mx_R fun hR => ?_
        refine mx_iload_n 3 d_H_hang_51 rfl rfl ?_
        refine mx_iconst d_H_hang_52 ?_
        refine mx_icmp_ne 60 d_H_hang_53 rfl (by first | assumption | exact hR _ _ | exact r32_mk (by omega) (by omega)) (by first | assumption | exact hR _ _ | exact r32_mk (by omega) (by omega)) (fun c_53 => ?_) (fun c_53 => ?_)
        · refine mx_aload_n 0 d_H_hang_60 rfl rfl ?_
          refine mx_getPs 8 d_H_hang_61 f_H_36 rfl rfl (hH.o) (hH.p8) ?_
          refine mx_iload_n 3 d_H_hang_64 rfl rfl ?_
          refine mx_aalds d_H_hang_65 (hH.s8) (by decide) (by omega) (by omega) (hj.p.r p (by omega) (by omega)) ?_
          first
          | exact ct_hang_t hj hI hJ he (if_pos (by assumption)).symm
          | exact ct_hang_t hj hI hJ he (pp_s (by assumption)).symm
        · refine mx_null d_H_hang_56 ?_
          refine mx_goto 66 d_H_hang_57 rfl ?_
          first
          | exact ct_hang_t hj hI hJ he (if_pos (by assumption)).symm
          | exact ct_hang_t hj hI hJ he (pp_s (by assumption)).symm
      · refine mx_iload 4 d_H_hang_29 rfl ?_
        refine mx_iconst d_H_hang_31 ?_
        refine mx_icmp_lt 41 d_H_hang_32 rfl (by first | assumption | exact hR _ _ | exact r32_mk (by omega) (by omega)) (by first | assumption | exact hR _ _ | exact r32_mk (by omega) (by omega)) (fun c_32 => ?_) (fun c_32 => ?_)
        · refine mx_throw (text := "a depth is 1 to 4") t_H_79_83 (by decide) rfl (Nat.le_of_ble_eq_true rfl) (Nat.le_of_ble_eq_true rfl) d_H_hang_41 d_H_hang_44 d_H_hang_45 d_H_hang_47 d_H_hang_50 ?_
          exact ⟨rfl, Or.inr ⟨rfl, hI, by omega⟩⟩
        · refine mx_iload 4 d_H_hang_35 rfl ?_
          refine mx_iconst d_H_hang_37 ?_
          refine mx_icmp_le 51 d_H_hang_38 rfl (by first | assumption | exact hR _ _ | exact r32_mk (by omega) (by omega)) (by first | assumption | exact hR _ _ | exact r32_mk (by omega) (by omega)) (fun c_38 => ?_) (fun c_38 => ?_)
          · have hJ : (l = 4 ∨ (1 ≤ e ∧ e ≤ 4)) := by omega
            refine mx_R fun hR => ?_
            refine mx_iload_n 3 d_H_hang_51 rfl rfl ?_
            refine mx_iconst d_H_hang_52 ?_
            refine mx_icmp_ne 60 d_H_hang_53 rfl (by first | assumption | exact hR _ _ | exact r32_mk (by omega) (by omega)) (by first | assumption | exact hR _ _ | exact r32_mk (by omega) (by omega)) (fun c_53 => ?_) (fun c_53 => ?_)
            · refine mx_aload_n 0 d_H_hang_60 rfl rfl ?_
              refine mx_getPs 8 d_H_hang_61 f_H_36 rfl rfl (hH.o) (hH.p8) ?_
              refine mx_iload_n 3 d_H_hang_64 rfl rfl ?_
              refine mx_aalds d_H_hang_65 (hH.s8) (by decide) (by omega) (by omega) (hj.p.r p (by omega) (by omega)) ?_
              first
              | exact ct_hang_t hj hI hJ he (if_pos (by assumption)).symm
              | exact ct_hang_t hj hI hJ he (pp_s (by assumption)).symm
            · refine mx_null d_H_hang_56 ?_
              refine mx_goto 66 d_H_hang_57 rfl ?_
              first
              | exact ct_hang_t hj hI hJ he (if_pos (by assumption)).symm
              | exact ct_hang_t hj hI hJ he (pp_s (by assumption)).symm
          · refine mx_throw (text := "a depth is 1 to 4") t_H_79_83 (by decide) rfl (Nat.le_of_ble_eq_true rfl) (Nat.le_of_ble_eq_true rfl) d_H_hang_41 d_H_hang_44 d_H_hang_45 d_H_hang_47 d_H_hang_50 ?_
            exact ⟨rfl, Or.inr ⟨rfl, hI, by omega⟩⟩
    · refine mx_aload_n 0 d_H_hang_19 rfl rfl ?_
      refine mx_iload_n 3 d_H_hang_20 rfl rfl ?_
      refine mx_callV (kc := 1) (ks := 6) (N := n_H_needPeg) (as := [_]) (ci := 6) d_H_hang_21 s_H_203 ⟨Nat.le_of_ble_eq_true rfl, Nat.le_of_ble_eq_true rfl⟩ rfl (mj_wt_8 (Nat.le_of_ble_eq_true rfl)) (hH.o) ⟨_, rfl, rfl⟩ (ct_needPeg hj hp) (fun r_21 A_21 h_21 => ?_) (fun E_21 A_x h_21 => ?_)
      rotate_left
      · exact mt_n h_21 rfl fun hn => ⟨rfl, Or.inl ⟨rfl, by omega⟩⟩
      obtain ⟨rfl, h3, hA_21⟩ := h_21
      obtain rfl := hA_21.symm
      clear hA_21
      refine mx_R fun hR_4 => ?_
      have hI : ((0 ≤ s ∧ s < gI A 200 23) ∧ (0 ≤ l ∧ l ≤ 4) ∧ (p = -1 ∨ (0 ≤ p ∧ p < gI A 200 32))) := by omega
      refine mx_less (kc' := 1) (ks' := 6) (by decide) (by decide) ?_
      refine mx_R fun hR => ?_
      refine mx_iload_n 2 d_H_hang_24 rfl rfl ?_
      refine mx_iconst d_H_hang_25 ?_
      refine mx_icmp_eq 51 d_H_hang_26 rfl (by first | assumption | exact hR _ _ | exact r32_mk (by omega) (by omega)) (by first | assumption | exact hR _ _ | exact r32_mk (by omega) (by omega)) (fun c_26 => ?_) (fun c_26 => ?_)
      · have hJ : (l = 4 ∨ (1 ≤ e ∧ e ≤ 4)) := by omega
        refine mx_R fun hR => ?_
        refine mx_iload_n 3 d_H_hang_51 rfl rfl ?_
        refine mx_iconst d_H_hang_52 ?_
        refine mx_icmp_ne 60 d_H_hang_53 rfl (by first | assumption | exact hR _ _ | exact r32_mk (by omega) (by omega)) (by first | assumption | exact hR _ _ | exact r32_mk (by omega) (by omega)) (fun c_53 => ?_) (fun c_53 => ?_)
        · refine mx_aload_n 0 d_H_hang_60 rfl rfl ?_
          refine mx_getPs 8 d_H_hang_61 f_H_36 rfl rfl (hH.o) (hH.p8) ?_
          refine mx_iload_n 3 d_H_hang_64 rfl rfl ?_
          refine mx_aalds d_H_hang_65 (hH.s8) (by decide) (by omega) (by omega) (hj.p.r p (by omega) (by omega)) ?_
          first
          | exact ct_hang_t hj hI hJ he (if_pos (by assumption)).symm
          | exact ct_hang_t hj hI hJ he (pp_s (by assumption)).symm
        · refine mx_null d_H_hang_56 ?_
          refine mx_goto 66 d_H_hang_57 rfl ?_
          first
          | exact ct_hang_t hj hI hJ he (if_pos (by assumption)).symm
          | exact ct_hang_t hj hI hJ he (pp_s (by assumption)).symm
      · refine mx_iload 4 d_H_hang_29 rfl ?_
        refine mx_iconst d_H_hang_31 ?_
        refine mx_icmp_lt 41 d_H_hang_32 rfl (by first | assumption | exact hR _ _ | exact r32_mk (by omega) (by omega)) (by first | assumption | exact hR _ _ | exact r32_mk (by omega) (by omega)) (fun c_32 => ?_) (fun c_32 => ?_)
        · refine mx_throw (text := "a depth is 1 to 4") t_H_79_83 (by decide) rfl (Nat.le_of_ble_eq_true rfl) (Nat.le_of_ble_eq_true rfl) d_H_hang_41 d_H_hang_44 d_H_hang_45 d_H_hang_47 d_H_hang_50 ?_
          exact ⟨rfl, Or.inr ⟨rfl, hI, by omega⟩⟩
        · refine mx_iload 4 d_H_hang_35 rfl ?_
          refine mx_iconst d_H_hang_37 ?_
          refine mx_icmp_le 51 d_H_hang_38 rfl (by first | assumption | exact hR _ _ | exact r32_mk (by omega) (by omega)) (by first | assumption | exact hR _ _ | exact r32_mk (by omega) (by omega)) (fun c_38 => ?_) (fun c_38 => ?_)
          · have hJ : (l = 4 ∨ (1 ≤ e ∧ e ≤ 4)) := by omega
            refine mx_R fun hR => ?_
            refine mx_iload_n 3 d_H_hang_51 rfl rfl ?_
            refine mx_iconst d_H_hang_52 ?_
            refine mx_icmp_ne 60 d_H_hang_53 rfl (by first | assumption | exact hR _ _ | exact r32_mk (by omega) (by omega)) (by first | assumption | exact hR _ _ | exact r32_mk (by omega) (by omega)) (fun c_53 => ?_) (fun c_53 => ?_)
            · refine mx_aload_n 0 d_H_hang_60 rfl rfl ?_
              refine mx_getPs 8 d_H_hang_61 f_H_36 rfl rfl (hH.o) (hH.p8) ?_
              refine mx_iload_n 3 d_H_hang_64 rfl rfl ?_
              refine mx_aalds d_H_hang_65 (hH.s8) (by decide) (by omega) (by omega) (hj.p.r p (by omega) (by omega)) ?_
              first
              | exact ct_hang_t hj hI hJ he (if_pos (by assumption)).symm
              | exact ct_hang_t hj hI hJ he (pp_s (by assumption)).symm
            · refine mx_null d_H_hang_56 ?_
              refine mx_goto 66 d_H_hang_57 rfl ?_
              first
              | exact ct_hang_t hj hI hJ he (if_pos (by assumption)).symm
              | exact ct_hang_t hj hI hJ he (pp_s (by assumption)).symm
          · refine mx_throw (text := "a depth is 1 to 4") t_H_79_83 (by decide) rfl (Nat.le_of_ble_eq_true rfl) (Nat.le_of_ble_eq_true rfl) d_H_hang_41 d_H_hang_44 d_H_hang_45 d_H_hang_47 d_H_hang_50 ?_
            exact ⟨rfl, Or.inr ⟨rfl, hI, by omega⟩⟩
theorem ct_hand {C : Int → cT} {w : Int} (hj : JJ C A) (hw : r32 w) : mj_Cal G n_H_hand [mR (some 100), mI w] A (fun r A' => ((1 ≤ w ∧ w ≤ 9) ∧ (gI A 200 40 < 4)) ∧ r = some (mI (gI A 200 40)) ∧ A' = sI (sI A 111 (gI A 200 40) w) 100 11 (gI A 200 40 + 1)) (px2 A xA xS (1 ≤ w ∧ w ≤ 9) (gI A 200 40 < 4)) := by
  refine mj_bodyK 2 12 [some (mR (some 100)), some (mI w)] rfl rfl rfl (by decide +kernel) (Nat.le_of_ble_eq_true rfl) (by simp) rfl ?_
  have hH := hj.x.H
  have hnh := hj.m.nh
  have hn1 := hj.y.nh
  refine mx_R fun hR => ?_
  refine mx_iload_n 1 d_H_hand_0 rfl rfl ?_
  refine mx_iconst d_H_hand_1 ?_
  refine mx_icmp_lt 11 d_H_hand_2 rfl (by first | assumption | exact hR _ _ | exact r32_mk (by omega) (by omega)) (by first | assumption | exact hR _ _ | exact r32_mk (by omega) (by omega)) (fun c_2 => ?_) (fun c_2 => ?_)
  · refine mx_throw (text := "a speed is 1 to 9") t_H_79_83 (by decide) rfl (Nat.le_of_ble_eq_true rfl) (Nat.le_of_ble_eq_true rfl) d_H_hand_11 d_H_hand_14 d_H_hand_15 d_H_hand_17 d_H_hand_20 ?_
    exact ⟨rfl, Or.inl ⟨rfl, by omega⟩⟩
  · refine mx_iload_n 1 d_H_hand_5 rfl rfl ?_
    refine mx_bipush d_H_hand_6 (by decide) ?_
    refine mx_icmp_le 21 d_H_hand_8 rfl (by first | assumption | exact hR _ _ | exact r32_mk (by omega) (by omega)) (by first | assumption | exact hR _ _ | exact r32_mk (by omega) (by omega)) (fun c_8 => ?_) (fun c_8 => ?_)
    · refine mx_aload_n 0 d_H_hand_21 rfl rfl ?_
      refine mx_getI 11 d_H_hand_22 f_H_254 rfl rfl (hH.o) ?_
      refine mx_iconst d_H_hand_25 ?_
      refine mx_icmp_lt 40 d_H_hand_26 rfl (by first | assumption | exact hR _ _ | exact r32_mk (by omega) (by omega)) (by first | assumption | exact hR _ _ | exact r32_mk (by omega) (by omega)) (fun c_26 => ?_) (fun c_26 => ?_)
      · refine mx_aload_n 0 d_H_hand_40 rfl rfl ?_
        refine mx_getPs 10 d_H_hand_41 f_H_40 rfl rfl (hH.o) (hH.p10) ?_
        refine mx_aload_n 0 d_H_hand_44 rfl rfl ?_
        refine mx_getI 11 d_H_hand_45 f_H_254 rfl rfl (hH.o) ?_
        rw [hn1]
        refine mx_iload_n 1 d_H_hand_48 rfl rfl ?_
        refine mx_iast d_H_hand_49 (hH.s10) (by omega) (by omega) (by first | assumption | exact hR _ _ | exact r32_mk (by omega) (by omega)) ?_
        refine mx_R fun hR_1 => ?_
        refine mx_aload_n 0 d_H_hand_50 rfl rfl ?_
        refine mx_dup d_H_hand_51 (fun z h => by cases h) ?_
        refine mx_getI 11 d_H_hand_52 f_H_254 rfl rfl (hH.o) ?_
        rw [show gI (sI A 111 (gI A 200 40) w) 100 11 = gI A 200 40 from hn1]
        refine mx_dup_x1 d_H_hand_55 (fun z h => by cases h) (fun z h => by cases h) ?_
        refine mx_iconst d_H_hand_56 ?_
        refine mx_iadd d_H_hand_57 ?_
        refine mx_putI 11 d_H_hand_58 f_H_254 rfl (hH.o) (Or.inl rfl) (Or.inl rfl) (by first | assumption | exact hR_1 _ _ | exact hR _ _ | exact r32_mk (by omega) (by omega)) ?_
        refine mx_R fun hR_2 => ?_
        refine mx_iret d_H_hand_61 rfl ?_
        exact ⟨⟨by omega, by omega⟩, rfl, rfl⟩
      · refine mx_throwW (text := "there are 4 hands") t_H_134_138 (by decide) rfl (Nat.le_of_ble_eq_true rfl) (Nat.le_of_ble_eq_true rfl) d_H_hand_29 d_H_hand_32 d_H_hand_33 d_H_hand_36 d_H_hand_39 ?_
        exact ⟨rfl, Or.inr ⟨rfl, by omega, by omega⟩⟩
    · refine mx_throw (text := "a speed is 1 to 9") t_H_79_83 (by decide) rfl (Nat.le_of_ble_eq_true rfl) (Nat.le_of_ble_eq_true rfl) d_H_hand_11 d_H_hand_14 d_H_hand_15 d_H_hand_17 d_H_hand_20 ?_
      exact ⟨rfl, Or.inl ⟨rfl, by omega⟩⟩
theorem ct_film0 (hH : HS A) (hsk : SK A) (hg : mo_rg A) (hn : 0 ≤ gI A 100 13 ∧ gI A 100 13 ≤ 10) (hr : ∀ k, 0 ≤ k → k < gI A 100 13 → 0 ≤ gI A 113 k ∧ gI A 113 k < gI A 200 23) : mj_Cal G n_H_filmLength [mR (some 100)] A (fun r A' => r = some (mI (mj_sum (fun k => gI A 224 (gI A 113 k)) (gI A 100 13).toNat)) ∧ A' = A) mj_no := by
  refine mj_bodyK 0 0 [some (mR (some 100)), none, none] rfl rfl rfl (by decide +kernel) (Nat.le_of_ble_eq_true rfl) (by simp) rfl ?_
  have hS := hsk.S
  have hns := hg.ns
  have hl : ∀ q : Nat, (q : Int) ≤ gI A 100 13 → mj_X G n_H_filmLength (mj_Qm G n_H_filmLength (fun r A' => r = some (mI (mj_sum (fun k => gI A 224 (gI A 113 k)) (gI A 100 13).toNat)) ∧ A' = A) mj_no) A 0 0 4 [some (mR (some 100)), some (mI (mj_sum (fun k => gI A 224 (gI A 113 k)) q)), some (mI (q : Int))] [] := by
    refine mj_loop _ (fun q => 11 - q) _ ?_
    intro q hq ih
    refine mx_R fun hR => ?_
    refine mx_iload_n 2 d_H_filmLength_4 rfl rfl ?_
    refine mx_aload_n 0 d_H_filmLength_5 rfl rfl ?_
    refine mx_getI 13 d_H_filmLength_6 f_H_259 rfl rfl (hH.o) ?_
    refine mx_icmp_ge 35 d_H_filmLength_9 rfl (by first | assumption | exact hR _ _ | exact r32_mk (by omega) (by omega)) (by first | assumption | exact hR _ _ | exact r32_mk (by omega) (by omega)) (fun c_9 => ?_) (fun c_9 => ?_)
    · refine mx_iload_n 1 d_H_filmLength_35 rfl rfl ?_
      refine mx_iret d_H_filmLength_36 rfl ?_
      refine ⟨?_, rfl⟩
      rw [show (gI A 100 13).toNat = q by omega]
    · have hr1 := hr q (by omega) (by omega)
      refine mx_iload_n 1 d_H_filmLength_12 rfl rfl ?_
      refine mx_aload_n 0 d_H_filmLength_13 rfl rfl ?_
      refine mx_getPs 5 d_H_filmLength_14 f_H_21 rfl rfl (hH.o) (hH.p5) ?_
      refine mx_aload_n 0 d_H_filmLength_17 rfl rfl ?_
      refine mx_getPs 12 d_H_filmLength_18 f_H_46 rfl rfl (hH.o) (hH.p12) ?_
      refine mx_iload_n 2 d_H_filmLength_21 rfl rfl ?_
      refine mx_iald d_H_filmLength_22 (hH.s12) (by omega) (by omega) ?_
      refine mx_aalds d_H_filmLength_23 (hH.s5) (by decide) (by omega) (by omega) (hsk.r _ hr1.1 hr1.2) ?_
      refine mx_getI 0 d_H_filmLength_24 f_H_184 rfl rfl (hS.o _ hr1.1 hr1.2) ?_
      rw [hsk.fr _ hr1.1 hr1.2]
      refine mx_iadd d_H_filmLength_27 ?_
      refine mx_istore_n 1 d_H_filmLength_28 rfl (Nat.le_of_ble_eq_true rfl) ?_
      refine mx_iinc 2 d_H_filmLength_29 rfl (Nat.le_of_ble_eq_true rfl) ?_
      refine mx_goto 4 d_H_filmLength_32 rfl ?_
      have h9 := ih (q + 1) (by omega) (by omega)
      rw [show ((q + 1 : Nat) : Int) = (q : Int) + 1 by omega] at h9
      exact h9
  refine mx_R fun hR => ?_
  refine mx_iconst d_H_filmLength_0 ?_
  refine mx_istore_n 1 d_H_filmLength_1 rfl (Nat.le_of_ble_eq_true rfl) ?_
  refine mx_iconst d_H_filmLength_2 ?_
  refine mx_istore_n 2 d_H_filmLength_3 rfl (Nat.le_of_ble_eq_true rfl) ?_
  exact hl 0 (by omega)
theorem ct_splice {C : Int → cT} {s : Int} (hj : JJ C A) (hs : r32 s) : mj_Cal G n_H_splice [mR (some 100), mI s] A (fun r A' => ((0 ≤ s ∧ s < gI A 200 23) ∧ (gI A 200 43 < 10)) ∧ r = some (mI (mo_fl A + gI A 224 s)) ∧ A' = sI (sI A 113 (gI A 200 43) s) 100 13 (gI A 200 43 + 1)) (px2 A xI xS (0 ≤ s ∧ s < gI A 200 23) (gI A 200 43 < 10)) := by
  refine mj_bodyK 2 12 [some (mR (some 100)), some (mI s)] rfl rfl rfl (by decide +kernel) (Nat.le_of_ble_eq_true rfl) (by simp) rfl ?_
  have hH := hj.x.H
  have hns := hj.m.g.ns
  have hnf := hj.m.nf
  have hn1 := hj.y.nf
  refine mx_R fun hR => ?_
  refine mx_aload_n 0 d_H_splice_0 rfl rfl ?_
  refine mx_iload_n 1 d_H_splice_1 rfl rfl ?_
  refine mx_callV (kc := 1) (ks := 6) (N := n_H_needScene) (as := [_]) (ci := 6) d_H_splice_2 s_H_173 ⟨Nat.le_of_ble_eq_true rfl, Nat.le_of_ble_eq_true rfl⟩ rfl (mj_wt_8 (Nat.le_of_ble_eq_true rfl)) (hH.o) ⟨_, rfl, rfl⟩ (ct_needScene hj hs) (fun r_2 A_2 h_2 => ?_) (fun E_2 A_x h_2 => ?_)
  rotate_left
  · exact mt_n h_2 rfl fun hn => ⟨rfl, Or.inl ⟨rfl, hn⟩⟩
  obtain ⟨rfl, h1, hA_2⟩ := h_2
  obtain rfl := hA_2.symm
  clear hA_2
  refine mx_R fun hR_1 => ?_
  refine mx_aload_n 0 d_H_splice_5 rfl rfl ?_
  refine mx_getI 13 d_H_splice_6 f_H_259 rfl rfl (hH.o) ?_
  refine mx_bipush d_H_splice_9 (by decide) ?_
  refine mx_icmp_lt 25 d_H_splice_11 rfl (by first | assumption | exact hR_1 _ _ | exact hR _ _ | exact r32_mk (by omega) (by omega)) (by first | assumption | exact hR_1 _ _ | exact hR _ _ | exact r32_mk (by omega) (by omega)) (fun c_11 => ?_) (fun c_11 => ?_)
  · refine mx_aload_n 0 d_H_splice_25 rfl rfl ?_
    refine mx_getPs 12 d_H_splice_26 f_H_46 rfl rfl (hH.o) (hH.p12) ?_
    refine mx_aload_n 0 d_H_splice_29 rfl rfl ?_
    refine mx_getI 13 d_H_splice_30 f_H_259 rfl rfl (hH.o) ?_
    rw [hn1]
    refine mx_iload_n 1 d_H_splice_33 rfl rfl ?_
    refine mx_iast d_H_splice_34 (hH.s12) (by omega) (by omega) (by first | assumption | exact hR_1 _ _ | exact hR _ _ | exact r32_mk (by omega) (by omega)) ?_
    refine mx_R fun hR_2 => ?_
    refine mx_aload_n 0 d_H_splice_35 rfl rfl ?_
    refine mx_dup d_H_splice_36 (fun z h => by cases h) ?_
    refine mx_getI 13 d_H_splice_37 f_H_259 rfl rfl (hH.o) ?_
    rw [show gI (sI A 113 (gI A 200 43) s) 100 13 = gI A 200 43 from hn1]
    refine mx_iconst d_H_splice_40 ?_
    refine mx_iadd d_H_splice_41 ?_
    refine mx_putI 13 d_H_splice_42 f_H_259 rfl (hH.o) (Or.inl rfl) (Or.inl rfl) (by first | assumption | exact hR_2 _ _ | exact hR_1 _ _ | exact hR _ _ | exact r32_mk (by omega) (by omega)) ?_
    refine mx_R fun hR_3 => ?_
    refine mx_aload_n 0 d_H_splice_45 rfl rfl ?_
    refine mx_callV (kc := 1) (ks := 6) (N := n_H_filmLength) (as := []) (ci := 6) d_H_splice_46 s_H_264 ⟨Nat.le_of_ble_eq_true rfl, Nat.le_of_ble_eq_true rfl⟩ rfl (mj_wt_8 (Nat.le_of_ble_eq_true rfl)) (hH.o) ⟨_, rfl, rfl⟩ (ct_film0 (A := sI (sI A 113 (gI A 200 43) s) 100 13 (gI A 200 43 + 1)) hH (SK_ag hns (fun _ _ _ => rfl) (fun _ _ _ => rfl) (fun c i hc => by rw [gI_sI, if_neg (by omega), gI_sI, if_neg (by omega)]) hj.s) hj.m.g (by show 0 ≤ gI A 200 43 + 1 ∧ gI A 200 43 + 1 ≤ 10; omega) (fun k k0 k1 => by
replace k1 : k < gI A 200 43 + 1 := k1
show 0 ≤ (if 113 = 113 ∧ k = gI A 200 43 then s else gI A 113 k) ∧ (if 113 = 113 ∧ k = gI A 200 43 then s else gI A 113 k) < gI A 200 23
by_cases e : k = gI A 200 43
· rw [if_pos ⟨rfl, e⟩]; exact h1
· rw [if_neg (fun h => e h.2), hj.y.rl k k0 (by omega)]; exact hj.m.rl k k0 (by omega))) (fun r_46 A_46 h_46 => ?_) (fun E_46 A_x h_46 => ?_)
    rotate_left
    · exact h_46.elim
    obtain ⟨rfl, hA_46⟩ := h_46
    obtain rfl := hA_46.symm
    clear hA_46
    refine mx_R fun hR_4 => ?_
    refine mx_iret d_H_splice_49 rfl ?_
    refine ⟨⟨h1, by omega⟩, ?_, rfl⟩
    refine congrArg (fun z => some (mI z)) ?_
    show mj_sum (fun k => gI A 224 (if 113 = 113 ∧ k = gI A 200 43 then s else gI A 113 k)) (gI A 200 43 + 1).toNat = mo_fl A + gI A 224 s
    rw [show (gI A 200 43 + 1).toNat = (gI A 200 43).toNat + 1 by omega, mj_sum]
    show mj_sum _ _ + gI A 224 (if 113 = 113 ∧ (((gI A 200 43).toNat : Nat) : Int) = gI A 200 43 then s else gI A 113 _) = _
    rw [if_pos ⟨rfl, by omega⟩]
    unfold mo_fl
    congr 1
    refine mj_sum_congr _ fun k k0 k1 => ?_
    show gI A 224 (if 113 = 113 ∧ k = gI A 200 43 then s else gI A 113 k) = _
    rw [if_neg (by omega), hj.y.rl k k0 (by omega)]
  · refine mx_throwW (text := "the film has 10 scenes") t_H_134_138 (by decide) rfl (Nat.le_of_ble_eq_true rfl) (Nat.le_of_ble_eq_true rfl) d_H_splice_14 d_H_splice_17 d_H_splice_18 d_H_splice_21 d_H_splice_24 ?_
    exact ⟨rfl, Or.inr ⟨rfl, h1, by omega⟩⟩
theorem ct_cut {C : Int → cT} (hj : JJ C A) : mj_Cal G n_H_cut [mR (some 100)] A (fun r A' => r = some (mI (mo_fl A)) ∧ A' = sI A 100 13 0) mj_no := by
  refine mj_bodyK 0 0 [some (mR (some 100)), none] rfl rfl rfl (by decide +kernel) (Nat.le_of_ble_eq_true rfl) (by simp) rfl ?_
  have hH := hj.x.H
  refine mx_R fun hR => ?_
  refine mx_aload_n 0 d_H_cut_0 rfl rfl ?_
  refine mx_callV (kc := 0) (ks := 0) (N := n_H_filmLength) (as := []) (ci := 6) d_H_cut_1 s_H_264 ⟨Nat.le_of_ble_eq_true rfl, Nat.le_of_ble_eq_true rfl⟩ rfl (mj_wt_8 (Nat.le_of_ble_eq_true rfl)) (hH.o) ⟨_, rfl, rfl⟩ (ct_filmLength hj) (fun r_1 A_1 h_1 => ?_) (fun E_1 A_x h_1 => ?_)
  rotate_left
  · exact h_1.elim
  obtain ⟨rfl, hA_1⟩ := h_1
  obtain rfl := hA_1.symm
  clear hA_1
  refine mx_R fun hR_1 => ?_
  refine mx_istore_n 1 d_H_cut_4 rfl (Nat.le_of_ble_eq_true rfl) ?_
  refine mx_aload_n 0 d_H_cut_5 rfl rfl ?_
  refine mx_iconst d_H_cut_6 ?_
  refine mx_putI 13 d_H_cut_7 f_H_259 rfl (hH.o) (Or.inl rfl) (Or.inl rfl) (by first | assumption | exact hR_1 _ _ | exact hR _ _ | exact r32_mk (by omega) (by omega)) ?_
  refine mx_R fun hR_2 => ?_
  refine mx_iload_n 1 d_H_cut_10 rfl rfl ?_
  refine mx_iret d_H_cut_11 rfl ?_
  exact ⟨rfl, rfl⟩
end CLSH
