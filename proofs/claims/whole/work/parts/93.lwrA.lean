/-! THE LAW, 1: its wrappers -/
/-- an int, in its range -/
def nrm (v : Int) : Int := (Int32.ofInt v).toInt
theorem nr_r (v : Int) : r32 (nrm v) := ⟨Int32.le_toInt _, Int32.toInt_lt _⟩
theorem nr_i {v : Int} (h : r32 v) : nrm v = v := r32_toInt h
theorem r32_01 {x : Int} (h : x = 0 ∨ x = 1) : r32 x := by
  rcases h with h | h <;> (rw [h]; exact r32_mk (by omega) (by omega))
theorem nr_0 {v : Int} (h : v = 0) : nrm v = 0 := by rw [h]; rfl
theorem nr_1 {v : Int} (h : v = 1) : nrm v = 1 := by rw [h]; rfl
section NRM
variable {G : mj_G} {M : mj_I} {Q : mj_Q} {A A_x : mj_M} {kc ks pc : Nat} {L : List (Option mj_V)} {st : List mj_V} {E E1 E2 E3 : String} {P1 P2 P3 : Prop}
theorem mx_nrm {v : Int} (k : mj_X G M Q A kc ks pc L (mI (nrm v) :: st)) : mj_X G M Q A kc ks pc L (mI v :: st) := by
  intro p e s m args below meth c H locs ls ρ0 ρ cells slots F S
  have h := k p e s m args below meth c H locs ls ρ0 ρ cells slots F (S.to1 fun h => List.forall_mem_cons.mpr ⟨mj_okI _, (List.forall_mem_cons.mp h).2⟩)
  have e9 : (mI (nrm v) :: st).map (mj_c ρ) = (mI v :: st).map (mj_c ρ) := by
    show Value.int (Int32.ofInt (nrm v)) :: _ = Value.int (Int32.ofInt v) :: _
    unfold nrm
    rw [Int32.ofInt_toInt]
  rw [e9] at h
  exact h
theorem mt_px1 (h : px1 A E1 P1 E A_x) (k1 : ¬ P1 → mj_T G M Q A kc ks pc L E1) : mj_T G M Q A_x kc ks pc L E := by
  obtain ⟨rfl, rfl, hn⟩ := h
  exact k1 hn
theorem mt_px2 (h : px2 A E1 E2 P1 P2 E A_x) (k1 : ¬ P1 → mj_T G M Q A kc ks pc L E1) (k2 : P1 → ¬ P2 → mj_T G M Q A kc ks pc L E2) : mj_T G M Q A_x kc ks pc L E := by
  obtain ⟨rfl, ⟨rfl, hn⟩ | ⟨rfl, h1, hn⟩⟩ := h
  · exact k1 hn
  · exact k2 h1 hn
theorem mt_px3 (h : px3 A E1 E2 E3 P1 P2 P3 E A_x) (k1 : ¬ P1 → mj_T G M Q A kc ks pc L E1) (k2 : P1 → ¬ P2 → mj_T G M Q A kc ks pc L E2) (k3 : P1 → P2 → ¬ P3 → mj_T G M Q A kc ks pc L E3) : mj_T G M Q A_x kc ks pc L E := by
  obtain ⟨rfl, ⟨rfl, hn⟩ | ⟨rfl, h1, hn⟩ | ⟨rfl, h1, h2, hn⟩⟩ := h
  · exact k1 hn
  · exact k2 h1 hn
  · exact k3 h1 h2 hn
theorem mt_ps1 {own E n1 : String} (x1 : Nat × Nat × Nat × Nat) (l1 : Cond.classLink own x1.2.2.2 n1 ∈ mj_TB) (m1 : x1.2.2.2 ≠ 0 ∧ (E, n1) ∈ mj_nc) : ∀ z ∈ [x1], z.2.2.2 ≠ 0 ∧ ∃ nm : String, Cond.classLink own z.2.2.2 nm ∈ mj_TB ∧ (E, nm) ∈ mj_nc := fun z hz => by
  rw [List.mem_singleton.mp hz]
  exact ⟨m1.1, n1, l1, m1.2⟩
theorem mt_ps2 {own E n1 n2 : String} (x1 x2 : Nat × Nat × Nat × Nat) (l1 : Cond.classLink own x1.2.2.2 n1 ∈ mj_TB) (m1 : x1.2.2.2 ≠ 0 ∧ (E, n1) ∈ mj_nc) (l2 : Cond.classLink own x2.2.2.2 n2 ∈ mj_TB) (m2 : x2.2.2.2 ≠ 0 ∧ (E, n2) ∈ mj_nc) : ∀ z ∈ [x1, x2], z.2.2.2 ≠ 0 ∧ ∃ nm : String, Cond.classLink own z.2.2.2 nm ∈ mj_TB ∧ (E, nm) ∈ mj_nc := fun z hz => by
  rcases List.mem_cons.mp hz with h | h
  · rw [h]; exact ⟨m1.1, n1, l1, m1.2⟩
  · rw [List.mem_singleton.mp h]; exact ⟨m2.1, n2, l2, m2.2⟩
end NRM
section LWRA
variable {G : mj_G} {A : mj_M}
theorem ky_S {n c : Int} (h : ¬ (1000 + 100 * n ≤ c ∧ c ≤ 1000 + 100 * n + 15)) : gS (ky_m A n) c = gS A c := by
  unfold ky_m
  rw [gS_sI, gS_sP, dnw_So (by omega), gS_sN, if_neg (by omega)]
theorem bw_S {a b n d c : Int} (h : ¬ (1000 + 100 * gI A 200 3 ≤ c ∧ c ≤ 1000 + 100 * gI A 200 3 + 15)) : gS (bw_m A a b n d) c = gS A c := by
  unfold bw_m
  rw [dnw_So (by omega), gS_sN, if_neg (by omega)]
theorem ns_S {n fr pa c : Int} (h : ¬ (4000 + 100 * n ≤ c ∧ c ≤ 4000 + 100 * n + 6)) : gS (ns_m A n fr pa) c = gS A c := by
  unfold ns_m
  rw [gS_sI, gS_sP, scw_So (by omega), gS_sN, if_neg (by omega)]
theorem np_S {n w c : Int} (h : ¬ (6000 + 100 * n ≤ c ∧ c ≤ 6000 + 100 * n + 3)) : gS (np_m A n w) c = gS A c := by
  unfold np_m
  rw [gS_sI, gS_sP, pgw_S, if_neg (by omega), if_neg (by omega), if_neg (by omega), gS_sN, if_neg (by omega)]
theorem ct_erase2 {C : Int → cT} {d its : Int} (hj : JJ C A) (hd : r32 d) (hi : r32 its) : mj_Cal G n_H_erase [mR (some 100), mI d, mI its] A (fun r W => ((0 ≤ d ∧ d < gI A 200 3) ∧ (0 ≤ its ∧ its ≤ 7) ∧ (0 ≤ d ∧ d < gI A 200 3 ∧ gI A 204 d = -1 ∧ gI A 208 d = 0)) ∧ r = some (mI (if c_f (ch_c A d) its ≠ -1 then 1 else 0)) ∧ ((c_f (ch_c A d) its ≠ -1 ∧ ∃ B i, ck A d B ∧ kf C A d B W ∧ de (ch_c A d) (ch_c B d) its i ∧ gI B 100 2 = gI A 100 2 ∧ gI B 100 3 = gI A 100 3) ∨ (c_f (ch_c A d) its = -1 ∧ kf C A d A W))) (px3 A xI xA xS (0 ≤ d ∧ d < gI A 200 3) (0 ≤ its ∧ its ≤ 7) (0 ≤ d ∧ d < gI A 200 3 ∧ gI A 204 d = -1 ∧ gI A 208 d = 0)) := by
  refine (ct_erase hj hd hi).mono (fun r W hp => ?_) (fun _ _ h => h)
  obtain ⟨hc, ⟨h1, hr, hw⟩ | ⟨h1, hr, hw⟩⟩ := hp
  · exact ⟨hc, by rw [if_pos h1]; exact hr, Or.inl ⟨h1, hw⟩⟩
  · exact ⟨hc, by rw [if_neg (fun h => h h1)]; exact hr, Or.inr ⟨h1, hw⟩⟩
theorem lx_key {X : Int → Int} {C : Int → cT} (h : JT X C A) : mj_Cal G n_L_key [mR (some 100), mR (some 140)] A (fun r A1 => (((gI A 200 3 < 16)) ∧ r = some (mI 0) ∧ ∃ W, (W = ky_m A (gI A 200 3)) ∧ A1 = sI W 140 0 (nrm (gI A 200 3))) ∨ (¬ ((gI A 200 3 < 16)) ∧ r = some (mI (if (gI A 200 3 < 16) then 0 else 1)) ∧ A1 = A)) mj_no := by
  refine mj_bodyHK 17 667 [some (mR (some 100)), some (mR (some 140)), none] rfl rfl (by decide) (by decide +kernel) (Nat.le_of_ble_eq_true rfl) (by simp) rfl ?_
  have hj := h.j
  have ht := h.t
  have hO := hj.y.o
  have hH := hj.x.H
  refine mx_R fun hR => ?_
  refine mx_aload_n 1 d_L_key_0 rfl rfl ?_
  refine mx_iconst d_L_key_1 ?_
  refine mx_aload_n 0 d_L_key_2 rfl rfl ?_
  refine mx_callV (kc := 0) (ks := 0) (N := n_H_key) (as := []) (ci := 6) d_L_key_3 s_L_7 ⟨Nat.le_of_ble_eq_true rfl, Nat.le_of_ble_eq_true rfl⟩ rfl (mj_wt_8 (Nat.le_of_ble_eq_true rfl)) (hH.o) ⟨_, rfl, rfl⟩ (ct_key hj) (fun r_3 A_3 h_3 => ?_) (fun E_3 A_x h_3 => ?_)
  rotate_left
  · refine mt_px1 h_3 (fun hn => ?_)
    · refine mt_catch (name := "java/lang/IllegalStateException") [] (0, 8, 11, 13) [] rfl (fun z hz => absurd hz List.not_mem_nil) rfl (by decide) mj_lc_13 mj_ca_IllegalStateException (i := 2) (Or.inl ⟨2, rfl, d_L_key_11, ?_⟩) (by decide)
      refine mx_R fun hR => ?_
      refine mx_iconst d_L_key_12 ?_
      refine mx_iret d_L_key_13 rfl ?_
      exact Or.inr ⟨fun hc => hn hc, by rw [if_neg hn], rfl⟩
  obtain ⟨hc, rfl, hw⟩ := h_3
  refine mx_R fun hR_1 => ?_
  have hO2 : gS A_3 140 = some (.inr (2, 1)) := Eq.trans (b := gS A 140) (by rw [hw]; exact ky_S (by omega)) hO
  have hnr := nr_r (gI A 200 3)
  refine mx_nrm ?_
  refine mx_i2l d_L_key_6 (by first | assumption | exact hR_1 _ _ | exact hR _ _ | exact r32_mk (by omega) (by omega)) ?_
  refine mx_last d_L_key_7 (hO2) (by omega) (by omega) (by first | assumption | exact hR_1 _ _ | exact hR _ _ | exact r32_mk (by omega) (by omega)) ?_
  refine mx_R fun hR_2 => ?_
  refine mx_goto 14 d_L_key_8 rfl ?_
  refine mx_iconst d_L_key_14 ?_
  refine mx_iret d_L_key_15 rfl ?_
  exact Or.inl ⟨hc, rfl, A_3, hw, rfl⟩
theorem lx_between {X : Int → Int} {C : Int → cT} {a b n d : Int} (h : JT X C A) (ra : r32 a) (rb : r32 b) (rn : r32 n) (rd : r32 d) : mj_Cal G n_L_between [mR (some 100), mI a, mI b, mI n, mI d, mR (some 140)] A (fun r A1 => (((0 ≤ a ∧ a < gI A 200 3 ∧ 0 ≤ b ∧ b < gI A 200 3) ∧ (1 ≤ d ∧ d ≤ 24 ∧ 0 ≤ n ∧ n ≤ d) ∧ (gI A 200 3 < 16)) ∧ r = some (mI 0) ∧ ∃ W, (∃ V, fo (bw_m A a b n d) V (gI A 200 3) ∧ gI V (1000 + 100 * gI A 200 3) 13 = 0 ∧ cb n d (ch_c A a) (ch_c A b) (ch_c V (gI A 200 3)) ∧ W = sI (sP V 101 (gI A 200 3) (some (1000 + 100 * gI A 200 3))) 100 1 ((gI A 200 3) + 1)) ∧ A1 = sI W 140 0 (nrm (gI A 200 3))) ∨ (¬ ((0 ≤ a ∧ a < gI A 200 3 ∧ 0 ≤ b ∧ b < gI A 200 3) ∧ (1 ≤ d ∧ d ≤ 24 ∧ 0 ≤ n ∧ n ≤ d) ∧ (gI A 200 3 < 16)) ∧ r = some (mI (if (0 ≤ a ∧ a < gI A 200 3 ∧ 0 ≤ b ∧ b < gI A 200 3) then (if (1 ≤ d ∧ d ≤ 24 ∧ 0 ≤ n ∧ n ≤ d) then (if (gI A 200 3 < 16) then 0 else 3) else 2) else 1)) ∧ A1 = A)) mj_no := by
  refine mj_bodyHK 20 685 [some (mR (some 100)), some (mI a), some (mI b), some (mI n), some (mI d), some (mR (some 140)), none] rfl rfl (by decide) (by decide +kernel) (Nat.le_of_ble_eq_true rfl) (by simp) rfl ?_
  have hj := h.j
  have ht := h.t
  have hO := hj.y.o
  have hH := hj.x.H
  refine mx_R fun hR => ?_
  refine mx_aload 5 d_L_between_0 rfl ?_
  refine mx_iconst d_L_between_2 ?_
  refine mx_aload_n 0 d_L_between_3 rfl rfl ?_
  refine mx_iload_n 1 d_L_between_4 rfl rfl ?_
  refine mx_iload_n 2 d_L_between_5 rfl rfl ?_
  refine mx_iload_n 3 d_L_between_6 rfl rfl ?_
  refine mx_iload 4 d_L_between_7 rfl ?_
  refine mx_callV (kc := 0) (ks := 0) (N := n_H_between) (as := [_, _, _, _]) (ci := 6) d_L_between_9 s_L_15 ⟨Nat.le_of_ble_eq_true rfl, Nat.le_of_ble_eq_true rfl⟩ rfl (mj_wt_8 (Nat.le_of_ble_eq_true rfl)) (hH.o) ⟨_, rfl, rfl⟩ (ct_between hj ra rb rn rd) (fun r_9 A_9 h_9 => ?_) (fun E_9 A_x h_9 => ?_)
  rotate_left
  · refine mt_px3 h_9 (fun hn => ?_) (fun hi0 hn => ?_) (fun hi0 hi1 hn => ?_)
    · refine mt_catch (name := "java/lang/IndexOutOfBoundsException") [] (0, 14, 17, 19) [(0, 14, 21, 21), (0, 14, 25, 13)] rfl (fun z hz => absurd hz List.not_mem_nil) rfl (by decide) mj_lc_19 mj_ca_IndexOutOfBoundsException (i := 6) (Or.inr ⟨d_L_between_17, ?_⟩) (by decide)
      refine mx_R fun hR => ?_
      refine mx_iconst d_L_between_19 ?_
      refine mx_iret d_L_between_20 rfl ?_
      exact Or.inr ⟨fun hc => hn hc.1, by rw [if_neg hn], rfl⟩
    · refine mt_catch (name := "java/lang/IllegalArgumentException") [(0, 14, 17, 19)] (0, 14, 21, 21) [(0, 14, 25, 13)] rfl (mt_ps1 _ mj_lc_19 (by decide)) rfl (by decide) mj_lc_21 mj_ca_IllegalArgumentException (i := 6) (Or.inr ⟨d_L_between_21, ?_⟩) (by decide)
      refine mx_R fun hR => ?_
      refine mx_iconst d_L_between_23 ?_
      refine mx_iret d_L_between_24 rfl ?_
      exact Or.inr ⟨fun hc => hn hc.2.1, by rw [if_pos hi0, if_neg hn], rfl⟩
    · refine mt_catch (name := "java/lang/IllegalStateException") [(0, 14, 17, 19), (0, 14, 21, 21)] (0, 14, 25, 13) [] rfl (mt_ps2 _ _ mj_lc_19 (by decide) mj_lc_21 (by decide)) rfl (by decide) mj_lc_13 mj_ca_IllegalStateException (i := 6) (Or.inr ⟨d_L_between_25, ?_⟩) (by decide)
      refine mx_R fun hR => ?_
      refine mx_iconst d_L_between_27 ?_
      refine mx_iret d_L_between_28 rfl ?_
      exact Or.inr ⟨fun hc => hn hc.2.2, by rw [if_pos hi0, if_pos hi1, if_neg hn], rfl⟩
  obtain ⟨hc, rfl, hw⟩ := h_9
  refine mx_R fun hR_1 => ?_
  have hO2 : gS A_9 140 = some (.inr (2, 1)) := Eq.trans (b := gS A 140) (by
    obtain ⟨V, hf, _, _, e9⟩ := hw
    rw [e9]
    exact (hf.S 140).trans (bw_S (by omega))) hO
  have hnr := nr_r (gI A 200 3)
  refine mx_nrm ?_
  refine mx_i2l d_L_between_12 (by first | assumption | exact hR_1 _ _ | exact hR _ _ | exact r32_mk (by omega) (by omega)) ?_
  refine mx_last d_L_between_13 (hO2) (by omega) (by omega) (by first | assumption | exact hR_1 _ _ | exact hR _ _ | exact r32_mk (by omega) (by omega)) ?_
  refine mx_R fun hR_2 => ?_
  refine mx_goto 29 d_L_between_14 rfl ?_
  refine mx_iconst d_L_between_29 ?_
  refine mx_iret d_L_between_30 rfl ?_
  exact Or.inl ⟨hc, rfl, A_9, hw, rfl⟩
theorem lx_stroke {X : Int → Int} {C : Int → cT} {d its x y c : Int} (h : JT X C A) (rd : r32 d) (rits : r32 its) (rx : r32 x) (ry : r32 y) (rc : r32 c) : mj_Cal G n_L_stroke [mR (some 100), mI d, mI its, mI x, mI y, mI c, mR (some 140)] A (fun r A1 => (((mo_s1 A d x y c) ∧ (0 ≤ its ∧ its ≤ 7) ∧ (mo_op A d)) ∧ r = some (mI 0) ∧ ∃ W, (∃ B i, ck A d B ∧ kf C A d B W ∧ pu (ch_c A d) (ch_c B d) its (gI A 200 1) (gI A 200 2) x y c i ∧ gI B 100 2 = x ∧ gI B 100 3 = y) ∧ A1 = sI W 140 0 (nrm (c_n (ch_c W d)))) ∨ (¬ ((mo_s1 A d x y c) ∧ (0 ≤ its ∧ its ≤ 7) ∧ (mo_op A d)) ∧ r = some (mI (if (mo_s1 A d x y c) then (if (0 ≤ its ∧ its ≤ 7) then (if (mo_op A d) then 0 else 3) else 2) else 1)) ∧ A1 = A)) mj_no := by
  refine mj_bodyHK 5 30 [some (mR (some 100)), some (mI d), some (mI its), some (mI x), some (mI y), some (mI c), some (mR (some 140)), none] rfl rfl (by decide) (by decide +kernel) (Nat.le_of_ble_eq_true rfl) (by simp) rfl ?_
  have hj := h.j
  have ht := h.t
  have hO := hj.y.o
  have hH := hj.x.H
  refine mx_R fun hR => ?_
  refine mx_aload 6 d_L_stroke_0 rfl ?_
  refine mx_iconst d_L_stroke_2 ?_
  refine mx_aload_n 0 d_L_stroke_3 rfl rfl ?_
  refine mx_iload_n 1 d_L_stroke_4 rfl rfl ?_
  refine mx_iload_n 2 d_L_stroke_5 rfl rfl ?_
  refine mx_iload_n 3 d_L_stroke_6 rfl rfl ?_
  refine mx_iload 4 d_L_stroke_7 rfl ?_
  refine mx_iload 5 d_L_stroke_9 rfl ?_
  refine mx_callV (kc := 0) (ks := 0) (N := n_H_stroke) (as := [_, _, _, _, _]) (ci := 6) d_L_stroke_11 s_L_23 ⟨Nat.le_of_ble_eq_true rfl, Nat.le_of_ble_eq_true rfl⟩ rfl (mj_wt_8 (Nat.le_of_ble_eq_true rfl)) (hH.o) ⟨_, rfl, rfl⟩ (ct_stroke hj rd rits rx ry rc) (fun r_11 A_11 h_11 => ?_) (fun E_11 A_x h_11 => ?_)
  rotate_left
  · refine mt_px3 h_11 (fun hn => ?_) (fun hi0 hn => ?_) (fun hi0 hi1 hn => ?_)
    · refine mt_catch (name := "java/lang/IndexOutOfBoundsException") [] (0, 16, 19, 19) [(0, 16, 23, 21), (0, 16, 27, 13)] rfl (fun z hz => absurd hz List.not_mem_nil) rfl (by decide) mj_lc_19 mj_ca_IndexOutOfBoundsException (i := 7) (Or.inr ⟨d_L_stroke_19, ?_⟩) (by decide)
      refine mx_R fun hR => ?_
      refine mx_iconst d_L_stroke_21 ?_
      refine mx_iret d_L_stroke_22 rfl ?_
      exact Or.inr ⟨fun hc => hn hc.1, by rw [if_neg hn], rfl⟩
    · refine mt_catch (name := "java/lang/IllegalArgumentException") [(0, 16, 19, 19)] (0, 16, 23, 21) [(0, 16, 27, 13)] rfl (mt_ps1 _ mj_lc_19 (by decide)) rfl (by decide) mj_lc_21 mj_ca_IllegalArgumentException (i := 7) (Or.inr ⟨d_L_stroke_23, ?_⟩) (by decide)
      refine mx_R fun hR => ?_
      refine mx_iconst d_L_stroke_25 ?_
      refine mx_iret d_L_stroke_26 rfl ?_
      exact Or.inr ⟨fun hc => hn hc.2.1, by rw [if_pos hi0, if_neg hn], rfl⟩
    · refine mt_catch (name := "java/lang/IllegalStateException") [(0, 16, 19, 19), (0, 16, 23, 21)] (0, 16, 27, 13) [] rfl (mt_ps2 _ _ mj_lc_19 (by decide) mj_lc_21 (by decide)) rfl (by decide) mj_lc_13 mj_ca_IllegalStateException (i := 7) (Or.inr ⟨d_L_stroke_27, ?_⟩) (by decide)
      refine mx_R fun hR => ?_
      refine mx_iconst d_L_stroke_29 ?_
      refine mx_iret d_L_stroke_30 rfl ?_
      exact Or.inr ⟨fun hc => hn hc.2.2, by rw [if_pos hi0, if_pos hi1, if_neg hn], rfl⟩
  obtain ⟨hc, rfl, hw⟩ := h_11
  refine mx_R fun hR_1 => ?_
  have hO2 : gS A_11 140 = some (.inr (2, 1)) := Eq.trans (b := gS A 140) (by
    obtain ⟨B, i, _, hk, _⟩ := hw
    exact hk.S 140) hO
  have hnr := nr_r (c_n (ch_c A_11 d))
  refine mx_nrm ?_
  refine mx_i2l d_L_stroke_14 (by first | assumption | exact hR_1 _ _ | exact hR _ _ | exact r32_mk (by omega) (by omega)) ?_
  refine mx_last d_L_stroke_15 (hO2) (by omega) (by omega) (by first | assumption | exact hR_1 _ _ | exact hR _ _ | exact r32_mk (by omega) (by omega)) ?_
  refine mx_R fun hR_2 => ?_
  refine mx_goto 31 d_L_stroke_16 rfl ?_
  refine mx_iconst d_L_stroke_31 ?_
  refine mx_iret d_L_stroke_32 rfl ?_
  exact Or.inl ⟨hc, rfl, A_11, hw, rfl⟩
theorem lx_pen {X : Int → Int} {C : Int → cT} {x y : Int} (h : JT X C A) (rx : r32 x) (ry : r32 y) : mj_Cal G n_L_pen [mR (some 100), mI x, mI y] A (fun r A1 => (((mo_ip x y)) ∧ r = some (mI 0) ∧ ∃ W, (W = sI (sI A 100 2 x) 100 3 y) ∧ A1 = W) ∨ (¬ ((mo_ip x y)) ∧ r = some (mI (if (mo_ip x y) then 0 else 1)) ∧ A1 = A)) mj_no := by
  refine mj_bodyHK 1 6 [some (mR (some 100)), some (mI x), some (mI y), none] rfl rfl (by decide) (by decide +kernel) (Nat.le_of_ble_eq_true rfl) (by simp) rfl ?_
  have hj := h.j
  have ht := h.t
  have hO := hj.y.o
  have hH := hj.x.H
  refine mx_R fun hR => ?_
  refine mx_aload_n 0 d_L_pen_0 rfl rfl ?_
  refine mx_iload_n 1 d_L_pen_1 rfl rfl ?_
  refine mx_iload_n 2 d_L_pen_2 rfl rfl ?_
  refine mx_callV (kc := 0) (ks := 0) (N := n_H_pen) (as := [_, _]) (ci := 6) d_L_pen_3 s_L_27 ⟨Nat.le_of_ble_eq_true rfl, Nat.le_of_ble_eq_true rfl⟩ rfl (mj_wt_8 (Nat.le_of_ble_eq_true rfl)) (hH.o) ⟨_, rfl, rfl⟩ (ct_pen hj.x.H rx ry) (fun r_3 A_3 h_3 => ?_) (fun E_3 A_x h_3 => ?_)
  rotate_left
  · refine mt_px1 h_3 (fun hn => ?_)
    · refine mt_catch (name := "java/lang/IndexOutOfBoundsException") [] (0, 6, 9, 19) [] rfl (fun z hz => absurd hz List.not_mem_nil) rfl (by decide) mj_lc_19 mj_ca_IndexOutOfBoundsException (i := 3) (Or.inl ⟨3, rfl, d_L_pen_9, ?_⟩) (by decide)
      refine mx_R fun hR => ?_
      refine mx_iconst d_L_pen_10 ?_
      refine mx_iret d_L_pen_11 rfl ?_
      exact Or.inr ⟨fun hc => hn hc, by rw [if_neg hn], rfl⟩
  obtain ⟨rfl, hc, hw⟩ := h_3
  refine mx_R fun hR_1 => ?_
  refine mx_goto 12 d_L_pen_6 rfl ?_
  refine mx_iconst d_L_pen_12 ?_
  refine mx_iret d_L_pen_13 rfl ?_
  exact Or.inl ⟨hc, rfl, A_3, hw, rfl⟩
theorem lx_erase {X : Int → Int} {C : Int → cT} {d its : Int} (h : JT X C A) (rd : r32 d) (rits : r32 its) : mj_Cal G n_L_erase [mR (some 100), mI d, mI its, mR (some 140)] A (fun r A1 => (((0 ≤ d ∧ d < gI A 200 3) ∧ (0 ≤ its ∧ its ≤ 7) ∧ (0 ≤ d ∧ d < gI A 200 3 ∧ gI A 204 d = -1 ∧ gI A 208 d = 0)) ∧ r = some (mI 0) ∧ ∃ W, (((c_f (ch_c A d) its ≠ -1 ∧ ∃ B i, ck A d B ∧ kf C A d B W ∧ de (ch_c A d) (ch_c B d) its i ∧ gI B 100 2 = gI A 100 2 ∧ gI B 100 3 = gI A 100 3) ∨ (c_f (ch_c A d) its = -1 ∧ kf C A d A W))) ∧ A1 = sI W 140 0 (nrm (if c_f (ch_c A d) its ≠ -1 then 1 else 0))) ∨ (¬ ((0 ≤ d ∧ d < gI A 200 3) ∧ (0 ≤ its ∧ its ≤ 7) ∧ (0 ≤ d ∧ d < gI A 200 3 ∧ gI A 204 d = -1 ∧ gI A 208 d = 0)) ∧ r = some (mI (if (0 ≤ d ∧ d < gI A 200 3) then (if (0 ≤ its ∧ its ≤ 7) then (if (0 ≤ d ∧ d < gI A 200 3 ∧ gI A 204 d = -1 ∧ gI A 208 d = 0) then 0 else 3) else 2) else 1)) ∧ A1 = A)) mj_no := by
  refine mj_bodyHK 3 18 [some (mR (some 100)), some (mI d), some (mI its), some (mR (some 140)), none] rfl rfl (by decide) (by decide +kernel) (Nat.le_of_ble_eq_true rfl) (by simp) rfl ?_
  have hj := h.j
  have ht := h.t
  have hO := hj.y.o
  have hH := hj.x.H
  have h01 : ((if c_f (ch_c A d) its ≠ -1 then 1 else 0) : Int) = 0 ∨ ((if c_f (ch_c A d) its ≠ -1 then 1 else 0) : Int) = 1 := by
    split
    · exact Or.inr rfl
    · exact Or.inl rfl
  refine mx_R fun hR => ?_
  refine mx_aload_n 3 d_L_erase_0 rfl rfl ?_
  refine mx_iconst d_L_erase_1 ?_
  refine mx_aload_n 0 d_L_erase_2 rfl rfl ?_
  refine mx_iload_n 1 d_L_erase_3 rfl rfl ?_
  refine mx_iload_n 2 d_L_erase_4 rfl rfl ?_
  refine mx_callV (kc := 0) (ks := 0) (N := n_H_erase) (as := [_, _]) (ci := 6) d_L_erase_5 s_L_31 ⟨Nat.le_of_ble_eq_true rfl, Nat.le_of_ble_eq_true rfl⟩ rfl (mj_wt_8 (Nat.le_of_ble_eq_true rfl)) (hH.o) ⟨_, rfl, rfl⟩ (ct_erase2 hj rd rits) (fun r_5 A_5 h_5 => ?_) (fun E_5 A_x h_5 => ?_)
  rotate_left
  · refine mt_px3 h_5 (fun hn => ?_) (fun hi0 hn => ?_) (fun hi0 hi1 hn => ?_)
    · refine mt_catch (name := "java/lang/IndexOutOfBoundsException") [] (0, 17, 20, 19) [(0, 17, 24, 21), (0, 17, 28, 13)] rfl (fun z hz => absurd hz List.not_mem_nil) rfl (by decide) mj_lc_19 mj_ca_IndexOutOfBoundsException (i := 4) (Or.inr ⟨d_L_erase_20, ?_⟩) (by decide)
      refine mx_R fun hR => ?_
      refine mx_iconst d_L_erase_22 ?_
      refine mx_iret d_L_erase_23 rfl ?_
      exact Or.inr ⟨fun hc => hn hc.1, by rw [if_neg hn], rfl⟩
    · refine mt_catch (name := "java/lang/IllegalArgumentException") [(0, 17, 20, 19)] (0, 17, 24, 21) [(0, 17, 28, 13)] rfl (mt_ps1 _ mj_lc_19 (by decide)) rfl (by decide) mj_lc_21 mj_ca_IllegalArgumentException (i := 4) (Or.inr ⟨d_L_erase_24, ?_⟩) (by decide)
      refine mx_R fun hR => ?_
      refine mx_iconst d_L_erase_26 ?_
      refine mx_iret d_L_erase_27 rfl ?_
      exact Or.inr ⟨fun hc => hn hc.2.1, by rw [if_pos hi0, if_neg hn], rfl⟩
    · refine mt_catch (name := "java/lang/IllegalStateException") [(0, 17, 20, 19), (0, 17, 24, 21)] (0, 17, 28, 13) [] rfl (mt_ps2 _ _ mj_lc_19 (by decide) mj_lc_21 (by decide)) rfl (by decide) mj_lc_13 mj_ca_IllegalStateException (i := 4) (Or.inr ⟨d_L_erase_28, ?_⟩) (by decide)
      refine mx_R fun hR => ?_
      refine mx_iconst d_L_erase_30 ?_
      refine mx_iret d_L_erase_31 rfl ?_
      exact Or.inr ⟨fun hc => hn hc.2.2, by rw [if_pos hi0, if_pos hi1, if_neg hn], rfl⟩
  obtain ⟨hc, rfl, hw⟩ := h_5
  refine mx_R fun hR_1 => ?_
  have hO2 : gS A_5 140 = some (.inr (2, 1)) := Eq.trans (b := gS A 140) (by
    rcases hw with ⟨_, B, i, _, hk, _⟩ | ⟨_, hk⟩
    · exact hk.S 140
    · exact hk.S 140) hO
  refine mx_if_eq 15 d_L_erase_8 rfl (r32_01 h01) (fun c_8 => ?_) (fun c_8 => ?_)
  · refine mx_lconst (z := 0) d_L_erase_15 (by decide) ?_
    refine mx_last d_L_erase_16 (hO2) (by omega) (by omega) (by first | assumption | exact hR_1 _ _ | exact hR _ _ | exact r32_mk (by omega) (by omega)) ?_
    refine mx_R fun hR_2 => ?_
    refine mx_goto 32 d_L_erase_17 rfl ?_
    refine mx_iconst d_L_erase_32 ?_
    refine mx_iret d_L_erase_33 rfl ?_
    refine Or.inl ⟨hc, rfl, A_5, hw, ?_⟩
    first
      | (rw [nr_0 (by assumption)])
      | (rw [nr_1 (h01.resolve_left (by assumption))])
  · refine mx_lconst (z := 1) d_L_erase_11 (by decide) ?_
    refine mx_goto 16 d_L_erase_12 rfl ?_
    refine mx_last d_L_erase_16 (hO2) (by omega) (by omega) (by first | assumption | exact hR_1 _ _ | exact hR _ _ | exact r32_mk (by omega) (by omega)) ?_
    refine mx_R fun hR_3 => ?_
    refine mx_goto 32 d_L_erase_17 rfl ?_
    refine mx_iconst d_L_erase_32 ?_
    refine mx_iret d_L_erase_33 rfl ?_
    refine Or.inl ⟨hc, rfl, A_5, hw, ?_⟩
    first
      | (rw [nr_0 (by assumption)])
      | (rw [nr_1 (h01.resolve_left (by assumption))])
theorem lx_paint {X : Int → Int} {C : Int → cT} {d c : Int} (h : JT X C A) (rd : r32 d) (rc : r32 c) : mj_Cal G n_L_paint [mR (some 100), mI d, mI c, mR (some 140)] A (fun r A1 => (((0 ≤ d ∧ d < gI A 200 3 ∧ 0 ≤ c ∧ c ≤ 7) ∧ (0 ≤ d ∧ d < gI A 200 3 ∧ gI A 204 d = -1 ∧ gI A 208 d = 0 ∧ gI A 213 d < 6)) ∧ r = some (mI 0) ∧ ∃ W, (∃ B, ck A d B ∧ kf C A d B W ∧ pn1 (ch_c A d) (ch_c B d) (16 * gI A 200 2 + gI A 200 1) c ∧ gI B 100 2 = gI A 100 2 ∧ gI B 100 3 = gI A 100 3) ∧ A1 = sI W 140 0 (nrm (gI A 213 d + 1))) ∨ (¬ ((0 ≤ d ∧ d < gI A 200 3 ∧ 0 ≤ c ∧ c ≤ 7) ∧ (0 ≤ d ∧ d < gI A 200 3 ∧ gI A 204 d = -1 ∧ gI A 208 d = 0 ∧ gI A 213 d < 6)) ∧ r = some (mI (if (0 ≤ d ∧ d < gI A 200 3 ∧ 0 ≤ c ∧ c ≤ 7) then (if (0 ≤ d ∧ d < gI A 200 3 ∧ gI A 204 d = -1 ∧ gI A 208 d = 0 ∧ gI A 213 d < 6) then 0 else 2) else 1)) ∧ A1 = A)) mj_no := by
  refine mj_bodyHK 4 24 [some (mR (some 100)), some (mI d), some (mI c), some (mR (some 140)), none] rfl rfl (by decide) (by decide +kernel) (Nat.le_of_ble_eq_true rfl) (by simp) rfl ?_
  have hj := h.j
  have ht := h.t
  have hO := hj.y.o
  have hH := hj.x.H
  refine mx_R fun hR => ?_
  refine mx_aload_n 3 d_L_paint_0 rfl rfl ?_
  refine mx_iconst d_L_paint_1 ?_
  refine mx_aload_n 0 d_L_paint_2 rfl rfl ?_
  refine mx_iload_n 1 d_L_paint_3 rfl rfl ?_
  refine mx_iload_n 2 d_L_paint_4 rfl rfl ?_
  refine mx_callV (kc := 0) (ks := 0) (N := n_H_paint) (as := [_, _]) (ci := 6) d_L_paint_5 s_L_35 ⟨Nat.le_of_ble_eq_true rfl, Nat.le_of_ble_eq_true rfl⟩ rfl (mj_wt_8 (Nat.le_of_ble_eq_true rfl)) (hH.o) ⟨_, rfl, rfl⟩ (ct_paint hj rd rc) (fun r_5 A_5 h_5 => ?_) (fun E_5 A_x h_5 => ?_)
  rotate_left
  · refine mt_px2 h_5 (fun hn => ?_) (fun hi0 hn => ?_)
    · refine mt_catch (name := "java/lang/IndexOutOfBoundsException") [] (0, 10, 13, 19) [(0, 10, 17, 13)] rfl (fun z hz => absurd hz List.not_mem_nil) rfl (by decide) mj_lc_19 mj_ca_IndexOutOfBoundsException (i := 4) (Or.inr ⟨d_L_paint_13, ?_⟩) (by decide)
      refine mx_R fun hR => ?_
      refine mx_iconst d_L_paint_15 ?_
      refine mx_iret d_L_paint_16 rfl ?_
      exact Or.inr ⟨fun hc => hn hc.1, by rw [if_neg hn], rfl⟩
    · refine mt_catch (name := "java/lang/IllegalStateException") [(0, 10, 13, 19)] (0, 10, 17, 13) [] rfl (mt_ps1 _ mj_lc_19 (by decide)) rfl (by decide) mj_lc_13 mj_ca_IllegalStateException (i := 4) (Or.inr ⟨d_L_paint_17, ?_⟩) (by decide)
      refine mx_R fun hR => ?_
      refine mx_iconst d_L_paint_19 ?_
      refine mx_iret d_L_paint_20 rfl ?_
      exact Or.inr ⟨fun hc => hn hc.2, by rw [if_pos hi0, if_neg hn], rfl⟩
  obtain ⟨hc, rfl, hw⟩ := h_5
  refine mx_R fun hR_1 => ?_
  have hO2 : gS A_5 140 = some (.inr (2, 1)) := Eq.trans (b := gS A 140) (by
    obtain ⟨B, _, hk, _⟩ := hw
    exact hk.S 140) hO
  have hnr := nr_r (gI A 213 d + 1)
  refine mx_nrm ?_
  refine mx_i2l d_L_paint_8 (by first | assumption | exact hR_1 _ _ | exact hR _ _ | exact r32_mk (by omega) (by omega)) ?_
  refine mx_last d_L_paint_9 (hO2) (by omega) (by omega) (by first | assumption | exact hR_1 _ _ | exact hR _ _ | exact r32_mk (by omega) (by omega)) ?_
  refine mx_R fun hR_2 => ?_
  refine mx_goto 21 d_L_paint_10 rfl ?_
  refine mx_iconst d_L_paint_21 ?_
  refine mx_iret d_L_paint_22 rfl ?_
  exact Or.inl ⟨hc, rfl, A_5, hw, rfl⟩
theorem lx_gaps {X : Int → Int} {C : Int → cT} {d : Int} (h : JT X C A) (rd : r32 d) : mj_Cal G n_L_gaps [mR (some 100), mI d, mR (some 140)] A (fun r A1 => (((0 ≤ d ∧ d < gI A 200 3) ∧ (0 ≤ d ∧ d < gI A 200 3 ∧ gI A 204 d = -1 ∧ gI A 208 d = 0)) ∧ r = some (mI 0) ∧ ∃ W, (∃ B, ck A d B ∧ kf C A d B W ∧ gp1 (ch_c A d) (ch_c B d) ∧ gI B 100 2 = gI A 100 2 ∧ gI B 100 3 = gI A 100 3) ∧ A1 = sI W 140 0 (nrm (1 - gI A 216 d))) ∨ (¬ ((0 ≤ d ∧ d < gI A 200 3) ∧ (0 ≤ d ∧ d < gI A 200 3 ∧ gI A 204 d = -1 ∧ gI A 208 d = 0)) ∧ r = some (mI (if (0 ≤ d ∧ d < gI A 200 3) then (if (0 ≤ d ∧ d < gI A 200 3 ∧ gI A 204 d = -1 ∧ gI A 208 d = 0) then 0 else 2) else 1)) ∧ A1 = A)) mj_no := by
  refine mj_bodyHK 2 12 [some (mR (some 100)), some (mI d), some (mR (some 140)), none] rfl rfl (by decide) (by decide +kernel) (Nat.le_of_ble_eq_true rfl) (by simp) rfl ?_
  have hj := h.j
  have ht := h.t
  have hO := hj.y.o
  have hH := hj.x.H
  have h01 : ((1 - gI A 216 d) : Int) = 0 ∨ ((1 - gI A 216 d) : Int) = 1 := by
    have h02 := hj.m.z.pt.c d
    omega
  refine mx_R fun hR => ?_
  refine mx_aload_n 2 d_L_gaps_0 rfl rfl ?_
  refine mx_iconst d_L_gaps_1 ?_
  refine mx_aload_n 0 d_L_gaps_2 rfl rfl ?_
  refine mx_iload_n 1 d_L_gaps_3 rfl rfl ?_
  refine mx_callV (kc := 0) (ks := 0) (N := n_H_gaps) (as := [_]) (ci := 6) d_L_gaps_4 s_L_39 ⟨Nat.le_of_ble_eq_true rfl, Nat.le_of_ble_eq_true rfl⟩ rfl (mj_wt_8 (Nat.le_of_ble_eq_true rfl)) (hH.o) ⟨_, rfl, rfl⟩ (ct_gaps hj rd) (fun r_4 A_4 h_4 => ?_) (fun E_4 A_x h_4 => ?_)
  rotate_left
  · refine mt_px2 h_4 (fun hn => ?_) (fun hi0 hn => ?_)
    · refine mt_catch (name := "java/lang/IndexOutOfBoundsException") [] (0, 16, 19, 19) [(0, 16, 22, 13)] rfl (fun z hz => absurd hz List.not_mem_nil) rfl (by decide) mj_lc_19 mj_ca_IndexOutOfBoundsException (i := 3) (Or.inl ⟨3, rfl, d_L_gaps_19, ?_⟩) (by decide)
      refine mx_R fun hR => ?_
      refine mx_iconst d_L_gaps_20 ?_
      refine mx_iret d_L_gaps_21 rfl ?_
      exact Or.inr ⟨fun hc => hn hc.1, by rw [if_neg hn], rfl⟩
    · refine mt_catch (name := "java/lang/IllegalStateException") [(0, 16, 19, 19)] (0, 16, 22, 13) [] rfl (mt_ps1 _ mj_lc_19 (by decide)) rfl (by decide) mj_lc_13 mj_ca_IllegalStateException (i := 3) (Or.inl ⟨3, rfl, d_L_gaps_22, ?_⟩) (by decide)
      refine mx_R fun hR => ?_
      refine mx_iconst d_L_gaps_23 ?_
      refine mx_iret d_L_gaps_24 rfl ?_
      exact Or.inr ⟨fun hc => hn hc.2, by rw [if_pos hi0, if_neg hn], rfl⟩
  obtain ⟨hc, rfl, hw⟩ := h_4
  refine mx_R fun hR_1 => ?_
  have hO2 : gS A_4 140 = some (.inr (2, 1)) := Eq.trans (b := gS A 140) (by
    obtain ⟨B, _, hk, _⟩ := hw
    exact hk.S 140) hO
  refine mx_if_eq 14 d_L_gaps_7 rfl (r32_01 h01) (fun c_7 => ?_) (fun c_7 => ?_)
  · refine mx_lconst (z := 0) d_L_gaps_14 (by decide) ?_
    refine mx_last d_L_gaps_15 (hO2) (by omega) (by omega) (by first | assumption | exact hR_1 _ _ | exact hR _ _ | exact r32_mk (by omega) (by omega)) ?_
    refine mx_R fun hR_2 => ?_
    refine mx_goto 25 d_L_gaps_16 rfl ?_
    refine mx_iconst d_L_gaps_25 ?_
    refine mx_iret d_L_gaps_26 rfl ?_
    refine Or.inl ⟨hc, rfl, A_4, hw, ?_⟩
    first
      | (rw [nr_0 (by assumption)])
      | (rw [nr_1 (h01.resolve_left (by assumption))])
  · refine mx_lconst (z := 1) d_L_gaps_10 (by decide) ?_
    refine mx_goto 15 d_L_gaps_11 rfl ?_
    refine mx_last d_L_gaps_15 (hO2) (by omega) (by omega) (by first | assumption | exact hR_1 _ _ | exact hR _ _ | exact r32_mk (by omega) (by omega)) ?_
    refine mx_R fun hR_3 => ?_
    refine mx_goto 25 d_L_gaps_16 rfl ?_
    refine mx_iconst d_L_gaps_25 ?_
    refine mx_iret d_L_gaps_26 rfl ?_
    refine Or.inl ⟨hc, rfl, A_4, hw, ?_⟩
    first
      | (rw [nr_0 (by assumption)])
      | (rw [nr_1 (h01.resolve_left (by assumption))])
theorem lx_approve {X : Int → Int} {C : Int → cT} {d z : Int} (h : JT X C A) (rd : r32 d) (hz : z = 0 ∨ z = 1) : mj_Cal G n_L_approve [mR (some 100), mI d, mI z, mR (some 140)] A (fun r A1 => (((0 ≤ d ∧ d < gI A 200 3) ∧ ((0 ≤ d ∧ d < gI A 200 3) ∧ gI A 208 d ≠ z)) ∧ r = some (mI 0) ∧ ∃ W, (W = sI A (1000 + 100 * d) 11 z) ∧ A1 = sI W 140 0 (nrm (mo_an A d))) ∨ (¬ ((0 ≤ d ∧ d < gI A 200 3) ∧ ((0 ≤ d ∧ d < gI A 200 3) ∧ gI A 208 d ≠ z)) ∧ r = some (mI (if (0 ≤ d ∧ d < gI A 200 3) then (if ((0 ≤ d ∧ d < gI A 200 3) ∧ gI A 208 d ≠ z) then 0 else 2) else 1)) ∧ A1 = A)) mj_no := by
  refine mj_bodyHK 2 12 [some (mR (some 100)), some (mI d), some (mI z), some (mR (some 140)), none] rfl rfl (by decide) (by decide +kernel) (Nat.le_of_ble_eq_true rfl) (by simp) rfl ?_
  have hj := h.j
  have ht := h.t
  have hO := hj.y.o
  have hH := hj.x.H
  refine mx_R fun hR => ?_
  refine mx_aload_n 3 d_L_approve_0 rfl rfl ?_
  refine mx_iconst d_L_approve_1 ?_
  refine mx_aload_n 0 d_L_approve_2 rfl rfl ?_
  refine mx_iload_n 1 d_L_approve_3 rfl rfl ?_
  refine mx_iload_n 2 d_L_approve_4 rfl rfl ?_
  refine mx_callV (kc := 0) (ks := 0) (N := n_H_approve) (as := [_, _]) (ci := 6) d_L_approve_5 s_L_43 ⟨Nat.le_of_ble_eq_true rfl, Nat.le_of_ble_eq_true rfl⟩ rfl (mj_wt_8 (Nat.le_of_ble_eq_true rfl)) (hH.o) ⟨_, rfl, rfl⟩ (ct_approve hj rd hz) (fun r_5 A_5 h_5 => ?_) (fun E_5 A_x h_5 => ?_)
  rotate_left
  · refine mt_px2 h_5 (fun hn => ?_) (fun hi0 hn => ?_)
    · refine mt_catch (name := "java/lang/IndexOutOfBoundsException") [] (0, 10, 13, 19) [(0, 10, 17, 13)] rfl (fun z hz => absurd hz List.not_mem_nil) rfl (by decide) mj_lc_19 mj_ca_IndexOutOfBoundsException (i := 4) (Or.inr ⟨d_L_approve_13, ?_⟩) (by decide)
      refine mx_R fun hR => ?_
      refine mx_iconst d_L_approve_15 ?_
      refine mx_iret d_L_approve_16 rfl ?_
      exact Or.inr ⟨fun hc => hn hc.1, by rw [if_neg hn], rfl⟩
    · refine mt_catch (name := "java/lang/IllegalStateException") [(0, 10, 13, 19)] (0, 10, 17, 13) [] rfl (mt_ps1 _ mj_lc_19 (by decide)) rfl (by decide) mj_lc_13 mj_ca_IllegalStateException (i := 4) (Or.inr ⟨d_L_approve_17, ?_⟩) (by decide)
      refine mx_R fun hR => ?_
      refine mx_iconst d_L_approve_19 ?_
      refine mx_iret d_L_approve_20 rfl ?_
      exact Or.inr ⟨fun hc => hn hc.2, by rw [if_pos hi0, if_neg hn], rfl⟩
  obtain ⟨hc, rfl, hw⟩ := h_5
  refine mx_R fun hR_1 => ?_
  have hO2 : gS A_5 140 = some (.inr (2, 1)) := Eq.trans (b := gS A 140) (by rw [hw]; rfl) hO
  have hnr := nr_r (mo_an A d)
  refine mx_nrm ?_
  refine mx_i2l d_L_approve_8 (by first | assumption | exact hR_1 _ _ | exact hR _ _ | exact r32_mk (by omega) (by omega)) ?_
  refine mx_last d_L_approve_9 (hO2) (by omega) (by omega) (by first | assumption | exact hR_1 _ _ | exact hR _ _ | exact r32_mk (by omega) (by omega)) ?_
  refine mx_R fun hR_2 => ?_
  refine mx_goto 21 d_L_approve_10 rfl ?_
  refine mx_iconst d_L_approve_21 ?_
  refine mx_iret d_L_approve_22 rfl ?_
  exact Or.inl ⟨hc, rfl, A_5, hw, rfl⟩
theorem lx_colour {X : Int → Int} {C : Int → cT} {p its c : Int} (h : JT X C A) (rp : r32 p) (rits : r32 its) (rc : r32 c) : mj_Cal G n_L_colour [mR (some 100), mI p, mI its, mI c, mR (some 140)] A (fun r A1 => (((0 ≤ p ∧ p ≤ 3 ∧ 0 ≤ its ∧ its ≤ 7) ∧ (1 ≤ c ∧ c ≤ 99)) ∧ r = some (mI 0) ∧ ∃ W, (W = sI A 105 (8 * p + its) c) ∧ A1 = sI W 140 0 (nrm (gI A 222 (8 * p + its)))) ∨ (¬ ((0 ≤ p ∧ p ≤ 3 ∧ 0 ≤ its ∧ its ≤ 7) ∧ (1 ≤ c ∧ c ≤ 99)) ∧ r = some (mI (if (0 ≤ p ∧ p ≤ 3 ∧ 0 ≤ its ∧ its ≤ 7) then (if (1 ≤ c ∧ c ≤ 99) then 0 else 2) else 1)) ∧ A1 = A)) mj_no := by
  refine mj_bodyHK 3 18 [some (mR (some 100)), some (mI p), some (mI its), some (mI c), some (mR (some 140)), none] rfl rfl (by decide) (by decide +kernel) (Nat.le_of_ble_eq_true rfl) (by simp) rfl ?_
  have hj := h.j
  have ht := h.t
  have hO := hj.y.o
  have hH := hj.x.H
  refine mx_R fun hR => ?_
  refine mx_aload 4 d_L_colour_0 rfl ?_
  refine mx_iconst d_L_colour_2 ?_
  refine mx_aload_n 0 d_L_colour_3 rfl rfl ?_
  refine mx_iload_n 1 d_L_colour_4 rfl rfl ?_
  refine mx_iload_n 2 d_L_colour_5 rfl rfl ?_
  refine mx_iload_n 3 d_L_colour_6 rfl rfl ?_
  refine mx_callV (kc := 0) (ks := 0) (N := n_H_colour) (as := [_, _, _]) (ci := 6) d_L_colour_7 s_L_47 ⟨Nat.le_of_ble_eq_true rfl, Nat.le_of_ble_eq_true rfl⟩ rfl (mj_wt_8 (Nat.le_of_ble_eq_true rfl)) (hH.o) ⟨_, rfl, rfl⟩ (ct_colour hj rp rits rc) (fun r_7 A_7 h_7 => ?_) (fun E_7 A_x h_7 => ?_)
  rotate_left
  · refine mt_px2 h_7 (fun hn => ?_) (fun hi0 hn => ?_)
    · refine mt_catch (name := "java/lang/IndexOutOfBoundsException") [] (0, 12, 15, 19) [(0, 12, 19, 21)] rfl (fun z hz => absurd hz List.not_mem_nil) rfl (by decide) mj_lc_19 mj_ca_IndexOutOfBoundsException (i := 5) (Or.inr ⟨d_L_colour_15, ?_⟩) (by decide)
      refine mx_R fun hR => ?_
      refine mx_iconst d_L_colour_17 ?_
      refine mx_iret d_L_colour_18 rfl ?_
      exact Or.inr ⟨fun hc => hn hc.1, by rw [if_neg hn], rfl⟩
    · refine mt_catch (name := "java/lang/IllegalArgumentException") [(0, 12, 15, 19)] (0, 12, 19, 21) [] rfl (mt_ps1 _ mj_lc_19 (by decide)) rfl (by decide) mj_lc_21 mj_ca_IllegalArgumentException (i := 5) (Or.inr ⟨d_L_colour_19, ?_⟩) (by decide)
      refine mx_R fun hR => ?_
      refine mx_iconst d_L_colour_21 ?_
      refine mx_iret d_L_colour_22 rfl ?_
      exact Or.inr ⟨fun hc => hn hc.2, by rw [if_pos hi0, if_neg hn], rfl⟩
  obtain ⟨hc, rfl, hw⟩ := h_7
  refine mx_R fun hR_1 => ?_
  have hO2 : gS A_7 140 = some (.inr (2, 1)) := Eq.trans (b := gS A 140) (by rw [hw]; rfl) hO
  have hnr := nr_r (gI A 222 (8 * p + its))
  refine mx_nrm ?_
  refine mx_i2l d_L_colour_10 (by first | assumption | exact hR_1 _ _ | exact hR _ _ | exact r32_mk (by omega) (by omega)) ?_
  refine mx_last d_L_colour_11 (hO2) (by omega) (by omega) (by first | assumption | exact hR_1 _ _ | exact hR _ _ | exact r32_mk (by omega) (by omega)) ?_
  refine mx_R fun hR_2 => ?_
  refine mx_goto 23 d_L_colour_12 rfl ?_
  refine mx_iconst d_L_colour_23 ?_
  refine mx_iret d_L_colour_24 rfl ?_
  exact Or.inl ⟨hc, rfl, A_7, hw, rfl⟩
theorem lx_scene {X : Int → Int} {C : Int → cT} {fr p : Int} (h : JT X C A) (rfr : r32 fr) (rp : r32 p) : mj_Cal G n_L_scene [mR (some 100), mI fr, mI p, mR (some 140)] A (fun r A1 => (((0 ≤ p ∧ p ≤ 3) ∧ (1 ≤ fr ∧ fr ≤ 24) ∧ (gI A 200 23 < 6)) ∧ r = some (mI 0) ∧ ∃ W, (W = ns_m A (gI A 200 23) fr p) ∧ A1 = sI W 140 0 (nrm (gI A 200 23))) ∨ (¬ ((0 ≤ p ∧ p ≤ 3) ∧ (1 ≤ fr ∧ fr ≤ 24) ∧ (gI A 200 23 < 6)) ∧ r = some (mI (if (0 ≤ p ∧ p ≤ 3) then (if (1 ≤ fr ∧ fr ≤ 24) then (if (gI A 200 23 < 6) then 0 else 3) else 2) else 1)) ∧ A1 = A)) mj_no := by
  refine mj_bodyHK 10 4767 [some (mR (some 100)), some (mI fr), some (mI p), some (mR (some 140)), none] rfl rfl (by decide) (by decide +kernel) (Nat.le_of_ble_eq_true rfl) (by simp) rfl ?_
  have hj := h.j
  have ht := h.t
  have hO := hj.y.o
  have hH := hj.x.H
  refine mx_R fun hR => ?_
  refine mx_aload_n 3 d_L_scene_0 rfl rfl ?_
  refine mx_iconst d_L_scene_1 ?_
  refine mx_aload_n 0 d_L_scene_2 rfl rfl ?_
  refine mx_iload_n 1 d_L_scene_3 rfl rfl ?_
  refine mx_iload_n 2 d_L_scene_4 rfl rfl ?_
  refine mx_callV (kc := 0) (ks := 0) (N := n_H_scene) (as := [_, _]) (ci := 6) d_L_scene_5 s_L_51 ⟨Nat.le_of_ble_eq_true rfl, Nat.le_of_ble_eq_true rfl⟩ rfl (mj_wt_8 (Nat.le_of_ble_eq_true rfl)) (hH.o) ⟨_, rfl, rfl⟩ (ct_scene hj rfr rp) (fun r_5 A_5 h_5 => ?_) (fun E_5 A_x h_5 => ?_)
  rotate_left
  · refine mt_px3 h_5 (fun hn => ?_) (fun hi0 hn => ?_) (fun hi0 hi1 hn => ?_)
    · refine mt_catch (name := "java/lang/IndexOutOfBoundsException") [] (0, 10, 13, 19) [(0, 10, 17, 21), (0, 10, 21, 13)] rfl (fun z hz => absurd hz List.not_mem_nil) rfl (by decide) mj_lc_19 mj_ca_IndexOutOfBoundsException (i := 4) (Or.inr ⟨d_L_scene_13, ?_⟩) (by decide)
      refine mx_R fun hR => ?_
      refine mx_iconst d_L_scene_15 ?_
      refine mx_iret d_L_scene_16 rfl ?_
      exact Or.inr ⟨fun hc => hn hc.1, by rw [if_neg hn], rfl⟩
    · refine mt_catch (name := "java/lang/IllegalArgumentException") [(0, 10, 13, 19)] (0, 10, 17, 21) [(0, 10, 21, 13)] rfl (mt_ps1 _ mj_lc_19 (by decide)) rfl (by decide) mj_lc_21 mj_ca_IllegalArgumentException (i := 4) (Or.inr ⟨d_L_scene_17, ?_⟩) (by decide)
      refine mx_R fun hR => ?_
      refine mx_iconst d_L_scene_19 ?_
      refine mx_iret d_L_scene_20 rfl ?_
      exact Or.inr ⟨fun hc => hn hc.2.1, by rw [if_pos hi0, if_neg hn], rfl⟩
    · refine mt_catch (name := "java/lang/IllegalStateException") [(0, 10, 13, 19), (0, 10, 17, 21)] (0, 10, 21, 13) [] rfl (mt_ps2 _ _ mj_lc_19 (by decide) mj_lc_21 (by decide)) rfl (by decide) mj_lc_13 mj_ca_IllegalStateException (i := 4) (Or.inr ⟨d_L_scene_21, ?_⟩) (by decide)
      refine mx_R fun hR => ?_
      refine mx_iconst d_L_scene_23 ?_
      refine mx_iret d_L_scene_24 rfl ?_
      exact Or.inr ⟨fun hc => hn hc.2.2, by rw [if_pos hi0, if_pos hi1, if_neg hn], rfl⟩
  obtain ⟨hc, rfl, hw⟩ := h_5
  refine mx_R fun hR_1 => ?_
  have hO2 : gS A_5 140 = some (.inr (2, 1)) := Eq.trans (b := gS A 140) (by rw [hw]; exact ns_S (by omega)) hO
  have hnr := nr_r (gI A 200 23)
  refine mx_nrm ?_
  refine mx_i2l d_L_scene_8 (by first | assumption | exact hR_1 _ _ | exact hR _ _ | exact r32_mk (by omega) (by omega)) ?_
  refine mx_last d_L_scene_9 (hO2) (by omega) (by omega) (by first | assumption | exact hR_1 _ _ | exact hR _ _ | exact r32_mk (by omega) (by omega)) ?_
  refine mx_R fun hR_2 => ?_
  refine mx_goto 25 d_L_scene_10 rfl ?_
  refine mx_iconst d_L_scene_25 ?_
  refine mx_iret d_L_scene_26 rfl ?_
  exact Or.inl ⟨hc, rfl, A_5, hw, rfl⟩
theorem lx_expose {X : Int → Int} {C : Int → cT} {s l f w : Int} (h : JT X C A) (rs : r32 s) (rl : r32 l) (rf : r32 f) (rw : r32 w) : mj_Cal G n_L_expose [mR (some 100), mI s, mI l, mI f, mI w, mR (some 140)] A (fun r A1 => ((((0 ≤ s ∧ s < gI A 200 23 ∧ 0 ≤ l ∧ l ≤ 3) ∧ (0 ≤ s ∧ s < gI A 200 23 ∧ 0 ≤ f ∧ f < gI A 224 s) ∧ (0 ≤ w ∧ w ≤ 15 → w < gI A 200 3)) ∧ ((-2 ≤ w ∧ w ≤ 15) ∨ (100 ≤ w ∧ w ≤ 123))) ∧ r = some (mI 0) ∧ ∃ W, (W = sI A ((4000 + 100 * s) + 1) (l * gI A 224 s + f) w) ∧ A1 = sI W 140 0 (nrm (gI A 226 (24 * (4 * s + l) + f)))) ∨ (¬ (((0 ≤ s ∧ s < gI A 200 23 ∧ 0 ≤ l ∧ l ≤ 3) ∧ (0 ≤ s ∧ s < gI A 200 23 ∧ 0 ≤ f ∧ f < gI A 224 s) ∧ (0 ≤ w ∧ w ≤ 15 → w < gI A 200 3)) ∧ ((-2 ≤ w ∧ w ≤ 15) ∨ (100 ≤ w ∧ w ≤ 123))) ∧ r = some (mI (if ((0 ≤ s ∧ s < gI A 200 23 ∧ 0 ≤ l ∧ l ≤ 3) ∧ (0 ≤ s ∧ s < gI A 200 23 ∧ 0 ≤ f ∧ f < gI A 224 s) ∧ (0 ≤ w ∧ w ≤ 15 → w < gI A 200 3)) then (if ((-2 ≤ w ∧ w ≤ 15) ∨ (100 ≤ w ∧ w ≤ 123)) then 0 else 2) else 1)) ∧ A1 = A)) mj_no := by
  refine mj_bodyHK 5 30 [some (mR (some 100)), some (mI s), some (mI l), some (mI f), some (mI w), some (mR (some 140)), none] rfl rfl (by decide) (by decide +kernel) (Nat.le_of_ble_eq_true rfl) (by simp) rfl ?_
  have hj := h.j
  have ht := h.t
  have hO := hj.y.o
  have hH := hj.x.H
  refine mx_R fun hR => ?_
  refine mx_aload 5 d_L_expose_0 rfl ?_
  refine mx_iconst d_L_expose_2 ?_
  refine mx_aload_n 0 d_L_expose_3 rfl rfl ?_
  refine mx_iload_n 1 d_L_expose_4 rfl rfl ?_
  refine mx_iload_n 2 d_L_expose_5 rfl rfl ?_
  refine mx_iload_n 3 d_L_expose_6 rfl rfl ?_
  refine mx_iload 4 d_L_expose_7 rfl ?_
  refine mx_callV (kc := 0) (ks := 0) (N := n_H_expose) (as := [_, _, _, _]) (ci := 6) d_L_expose_9 s_L_54 ⟨Nat.le_of_ble_eq_true rfl, Nat.le_of_ble_eq_true rfl⟩ rfl (mj_wt_8 (Nat.le_of_ble_eq_true rfl)) (hH.o) ⟨_, rfl, rfl⟩ (ct_expose hj rs rl rf rw) (fun r_9 A_9 h_9 => ?_) (fun E_9 A_x h_9 => ?_)
  rotate_left
  · refine mt_px2 h_9 (fun hn => ?_) (fun hi0 hn => ?_)
    · refine mt_catch (name := "java/lang/IndexOutOfBoundsException") [] (0, 14, 17, 19) [(0, 14, 21, 21)] rfl (fun z hz => absurd hz List.not_mem_nil) rfl (by decide) mj_lc_19 mj_ca_IndexOutOfBoundsException (i := 6) (Or.inr ⟨d_L_expose_17, ?_⟩) (by decide)
      refine mx_R fun hR => ?_
      refine mx_iconst d_L_expose_19 ?_
      refine mx_iret d_L_expose_20 rfl ?_
      exact Or.inr ⟨fun hc => hn hc.1, by rw [if_neg hn], rfl⟩
    · refine mt_catch (name := "java/lang/IllegalArgumentException") [(0, 14, 17, 19)] (0, 14, 21, 21) [] rfl (mt_ps1 _ mj_lc_19 (by decide)) rfl (by decide) mj_lc_21 mj_ca_IllegalArgumentException (i := 6) (Or.inr ⟨d_L_expose_21, ?_⟩) (by decide)
      refine mx_R fun hR => ?_
      refine mx_iconst d_L_expose_23 ?_
      refine mx_iret d_L_expose_24 rfl ?_
      exact Or.inr ⟨fun hc => hn hc.2, by rw [if_pos hi0, if_neg hn], rfl⟩
  obtain ⟨hc, rfl, hw⟩ := h_9
  refine mx_R fun hR_1 => ?_
  have hO2 : gS A_9 140 = some (.inr (2, 1)) := Eq.trans (b := gS A 140) (by rw [hw]; rfl) hO
  have hnr := nr_r (gI A 226 (24 * (4 * s + l) + f))
  refine mx_nrm ?_
  refine mx_i2l d_L_expose_12 (by first | assumption | exact hR_1 _ _ | exact hR _ _ | exact r32_mk (by omega) (by omega)) ?_
  refine mx_last d_L_expose_13 (hO2) (by omega) (by omega) (by first | assumption | exact hR_1 _ _ | exact hR _ _ | exact r32_mk (by omega) (by omega)) ?_
  refine mx_R fun hR_2 => ?_
  refine mx_goto 25 d_L_expose_14 rfl ?_
  refine mx_iconst d_L_expose_25 ?_
  refine mx_iret d_L_expose_26 rfl ?_
  exact Or.inl ⟨hc, rfl, A_9, hw, rfl⟩
theorem lx_voice {X : Int → Int} {C : Int → cT} {s f w : Int} (h : JT X C A) (rs : r32 s) (rf : r32 f) (rw : r32 w) : mj_Cal G n_L_voice [mR (some 100), mI s, mI f, mI w, mR (some 140)] A (fun r A1 => ((((0 ≤ s ∧ s < gI A 200 23 ∧ 0 ≤ f ∧ f < gI A 224 s) ∧ -1 ≤ w ∧ w ≤ 7)) ∧ r = some (mI 0) ∧ ∃ W, (W = sI A ((4000 + 100 * s) + 2) f w) ∧ A1 = sI W 140 0 (nrm (mj_bk (fun k => gI A 227 (24 * s + k)) (-2) 24 f))) ∨ (¬ (((0 ≤ s ∧ s < gI A 200 23 ∧ 0 ≤ f ∧ f < gI A 224 s) ∧ -1 ≤ w ∧ w ≤ 7)) ∧ r = some (mI (if ((0 ≤ s ∧ s < gI A 200 23 ∧ 0 ≤ f ∧ f < gI A 224 s) ∧ -1 ≤ w ∧ w ≤ 7) then 0 else 1)) ∧ A1 = A)) mj_no := by
  refine mj_bodyHK 3 18 [some (mR (some 100)), some (mI s), some (mI f), some (mI w), some (mR (some 140)), none] rfl rfl (by decide) (by decide +kernel) (Nat.le_of_ble_eq_true rfl) (by simp) rfl ?_
  have hj := h.j
  have ht := h.t
  have hO := hj.y.o
  have hH := hj.x.H
  refine mx_R fun hR => ?_
  refine mx_aload 4 d_L_voice_0 rfl ?_
  refine mx_iconst d_L_voice_2 ?_
  refine mx_aload_n 0 d_L_voice_3 rfl rfl ?_
  refine mx_iload_n 1 d_L_voice_4 rfl rfl ?_
  refine mx_iload_n 2 d_L_voice_5 rfl rfl ?_
  refine mx_iload_n 3 d_L_voice_6 rfl rfl ?_
  refine mx_callV (kc := 0) (ks := 0) (N := n_H_voice) (as := [_, _, _]) (ci := 6) d_L_voice_7 s_L_57 ⟨Nat.le_of_ble_eq_true rfl, Nat.le_of_ble_eq_true rfl⟩ rfl (mj_wt_8 (Nat.le_of_ble_eq_true rfl)) (hH.o) ⟨_, rfl, rfl⟩ (ct_voice hj rs rf rw) (fun r_7 A_7 h_7 => ?_) (fun E_7 A_x h_7 => ?_)
  rotate_left
  · refine mt_px1 h_7 (fun hn => ?_)
    · refine mt_catch (name := "java/lang/IndexOutOfBoundsException") [] (0, 12, 15, 19) [] rfl (fun z hz => absurd hz List.not_mem_nil) rfl (by decide) mj_lc_19 mj_ca_IndexOutOfBoundsException (i := 5) (Or.inr ⟨d_L_voice_15, ?_⟩) (by decide)
      refine mx_R fun hR => ?_
      refine mx_iconst d_L_voice_17 ?_
      refine mx_iret d_L_voice_18 rfl ?_
      exact Or.inr ⟨fun hc => hn hc, by rw [if_neg hn], rfl⟩
  obtain ⟨hc, rfl, hw⟩ := h_7
  refine mx_R fun hR_1 => ?_
  have hO2 : gS A_7 140 = some (.inr (2, 1)) := Eq.trans (b := gS A 140) (by rw [hw]; rfl) hO
  have hnr := nr_r (mj_bk (fun k => gI A 227 (24 * s + k)) (-2) 24 f)
  refine mx_nrm ?_
  refine mx_i2l d_L_voice_10 (by first | assumption | exact hR_1 _ _ | exact hR _ _ | exact r32_mk (by omega) (by omega)) ?_
  refine mx_last d_L_voice_11 (hO2) (by omega) (by omega) (by first | assumption | exact hR_1 _ _ | exact hR _ _ | exact r32_mk (by omega) (by omega)) ?_
  refine mx_R fun hR_2 => ?_
  refine mx_goto 19 d_L_voice_12 rfl ?_
  refine mx_iconst d_L_voice_19 ?_
  refine mx_iret d_L_voice_20 rfl ?_
  exact Or.inl ⟨hc, rfl, A_7, hw, rfl⟩
theorem lx_mouth {X : Int → Int} {C : Int → cT} {w d : Int} (h : JT X C A) (rw : r32 w) (rd : r32 d) : mj_Cal G n_L_mouth [mR (some 100), mI w, mI d, mR (some 140)] A (fun r A1 => ((((0 ≤ w ∧ w ≤ 7) ∧ (d = -1 ∨ (0 ≤ d ∧ d < gI A 200 3)))) ∧ r = some (mI 0) ∧ ∃ W, (W = sI A 108 w d) ∧ A1 = sI W 140 0 (nrm (gI A 231 w))) ∨ (¬ (((0 ≤ w ∧ w ≤ 7) ∧ (d = -1 ∨ (0 ≤ d ∧ d < gI A 200 3)))) ∧ r = some (mI (if ((0 ≤ w ∧ w ≤ 7) ∧ (d = -1 ∨ (0 ≤ d ∧ d < gI A 200 3))) then 0 else 1)) ∧ A1 = A)) mj_no := by
  refine mj_bodyHK 2 12 [some (mR (some 100)), some (mI w), some (mI d), some (mR (some 140)), none] rfl rfl (by decide) (by decide +kernel) (Nat.le_of_ble_eq_true rfl) (by simp) rfl ?_
  have hj := h.j
  have ht := h.t
  have hO := hj.y.o
  have hH := hj.x.H
  refine mx_R fun hR => ?_
  refine mx_aload_n 3 d_L_mouth_0 rfl rfl ?_
  refine mx_iconst d_L_mouth_1 ?_
  refine mx_aload_n 0 d_L_mouth_2 rfl rfl ?_
  refine mx_iload_n 1 d_L_mouth_3 rfl rfl ?_
  refine mx_iload_n 2 d_L_mouth_4 rfl rfl ?_
  refine mx_callV (kc := 0) (ks := 0) (N := n_H_mouth) (as := [_, _]) (ci := 6) d_L_mouth_5 s_L_60 ⟨Nat.le_of_ble_eq_true rfl, Nat.le_of_ble_eq_true rfl⟩ rfl (mj_wt_8 (Nat.le_of_ble_eq_true rfl)) (hH.o) ⟨_, rfl, rfl⟩ (ct_mouth hj rw rd) (fun r_5 A_5 h_5 => ?_) (fun E_5 A_x h_5 => ?_)
  rotate_left
  · refine mt_px1 h_5 (fun hn => ?_)
    · refine mt_catch (name := "java/lang/IndexOutOfBoundsException") [] (0, 10, 13, 19) [] rfl (fun z hz => absurd hz List.not_mem_nil) rfl (by decide) mj_lc_19 mj_ca_IndexOutOfBoundsException (i := 4) (Or.inr ⟨d_L_mouth_13, ?_⟩) (by decide)
      refine mx_R fun hR => ?_
      refine mx_iconst d_L_mouth_15 ?_
      refine mx_iret d_L_mouth_16 rfl ?_
      exact Or.inr ⟨fun hc => hn hc, by rw [if_neg hn], rfl⟩
  obtain ⟨hc, rfl, hw⟩ := h_5
  refine mx_R fun hR_1 => ?_
  have hO2 : gS A_5 140 = some (.inr (2, 1)) := Eq.trans (b := gS A 140) (by rw [hw]; rfl) hO
  have hnr := nr_r (gI A 231 w)
  refine mx_nrm ?_
  refine mx_i2l d_L_mouth_8 (by first | assumption | exact hR_1 _ _ | exact hR _ _ | exact r32_mk (by omega) (by omega)) ?_
  refine mx_last d_L_mouth_9 (hO2) (by omega) (by omega) (by first | assumption | exact hR_1 _ _ | exact hR _ _ | exact r32_mk (by omega) (by omega)) ?_
  refine mx_R fun hR_2 => ?_
  refine mx_goto 17 d_L_mouth_10 rfl ?_
  refine mx_iconst d_L_mouth_17 ?_
  refine mx_iret d_L_mouth_18 rfl ?_
  exact Or.inl ⟨hc, rfl, A_5, hw, rfl⟩
theorem lx_speaks {X : Int → Int} {C : Int → cT} {s l : Int} (h : JT X C A) (rs : r32 s) (rl : r32 l) : mj_Cal G n_L_speaks [mR (some 100), mI s, mI l, mR (some 140)] A (fun r A1 => (((0 ≤ s ∧ s < gI A 200 23 ∧ 0 ≤ l ∧ l ≤ 3)) ∧ r = some (mI 0) ∧ ∃ W, (W = sI A ((4000 + 100 * s) + 3) l (1 - gI A 228 (4 * s + l))) ∧ A1 = sI W 140 0 (nrm (1 - gI A 228 (4 * s + l)))) ∨ (¬ ((0 ≤ s ∧ s < gI A 200 23 ∧ 0 ≤ l ∧ l ≤ 3)) ∧ r = some (mI (if (0 ≤ s ∧ s < gI A 200 23 ∧ 0 ≤ l ∧ l ≤ 3) then 0 else 1)) ∧ A1 = A)) mj_no := by
  refine mj_bodyHK 2 12 [some (mR (some 100)), some (mI s), some (mI l), some (mR (some 140)), none] rfl rfl (by decide) (by decide +kernel) (Nat.le_of_ble_eq_true rfl) (by simp) rfl ?_
  have hj := h.j
  have ht := h.t
  have hO := hj.y.o
  have hH := hj.x.H
  have h01 : ((1 - gI A 228 (4 * s + l)) : Int) = 0 ∨ ((1 - gI A 228 (4 * s + l)) : Int) = 1 := by
    have h02 := hj.m.sp (4 * s + l)
    omega
  refine mx_R fun hR => ?_
  refine mx_aload_n 3 d_L_speaks_0 rfl rfl ?_
  refine mx_iconst d_L_speaks_1 ?_
  refine mx_aload_n 0 d_L_speaks_2 rfl rfl ?_
  refine mx_iload_n 1 d_L_speaks_3 rfl rfl ?_
  refine mx_iload_n 2 d_L_speaks_4 rfl rfl ?_
  refine mx_callV (kc := 0) (ks := 0) (N := n_H_speaks) (as := [_, _]) (ci := 6) d_L_speaks_5 s_L_63 ⟨Nat.le_of_ble_eq_true rfl, Nat.le_of_ble_eq_true rfl⟩ rfl (mj_wt_8 (Nat.le_of_ble_eq_true rfl)) (hH.o) ⟨_, rfl, rfl⟩ (ct_speaks hj rs rl) (fun r_5 A_5 h_5 => ?_) (fun E_5 A_x h_5 => ?_)
  rotate_left
  · refine mt_px1 h_5 (fun hn => ?_)
    · refine mt_catch (name := "java/lang/IndexOutOfBoundsException") [] (0, 17, 20, 19) [] rfl (fun z hz => absurd hz List.not_mem_nil) rfl (by decide) mj_lc_19 mj_ca_IndexOutOfBoundsException (i := 4) (Or.inr ⟨d_L_speaks_20, ?_⟩) (by decide)
      refine mx_R fun hR => ?_
      refine mx_iconst d_L_speaks_22 ?_
      refine mx_iret d_L_speaks_23 rfl ?_
      exact Or.inr ⟨fun hc => hn hc, by rw [if_neg hn], rfl⟩
  obtain ⟨hc, rfl, hw⟩ := h_5
  refine mx_R fun hR_1 => ?_
  have hO2 : gS A_5 140 = some (.inr (2, 1)) := Eq.trans (b := gS A 140) (by rw [hw]; rfl) hO
  refine mx_if_eq 15 d_L_speaks_8 rfl (r32_01 h01) (fun c_8 => ?_) (fun c_8 => ?_)
  · refine mx_lconst (z := 0) d_L_speaks_15 (by decide) ?_
    refine mx_last d_L_speaks_16 (hO2) (by omega) (by omega) (by first | assumption | exact hR_1 _ _ | exact hR _ _ | exact r32_mk (by omega) (by omega)) ?_
    refine mx_R fun hR_2 => ?_
    refine mx_goto 24 d_L_speaks_17 rfl ?_
    refine mx_iconst d_L_speaks_24 ?_
    refine mx_iret d_L_speaks_25 rfl ?_
    refine Or.inl ⟨hc, rfl, A_5, hw, ?_⟩
    first
      | (rw [nr_0 (by assumption)])
      | (rw [nr_1 (h01.resolve_left (by assumption))])
  · refine mx_lconst (z := 1) d_L_speaks_11 (by decide) ?_
    refine mx_goto 16 d_L_speaks_12 rfl ?_
    refine mx_last d_L_speaks_16 (hO2) (by omega) (by omega) (by first | assumption | exact hR_1 _ _ | exact hR _ _ | exact r32_mk (by omega) (by omega)) ?_
    refine mx_R fun hR_3 => ?_
    refine mx_goto 24 d_L_speaks_17 rfl ?_
    refine mx_iconst d_L_speaks_24 ?_
    refine mx_iret d_L_speaks_25 rfl ?_
    refine Or.inl ⟨hc, rfl, A_5, hw, ?_⟩
    first
      | (rw [nr_0 (by assumption)])
      | (rw [nr_1 (h01.resolve_left (by assumption))])
theorem lx_peg {X : Int → Int} {C : Int → cT} {w : Int} (h : JT X C A) (rw : r32 w) : mj_Cal G n_L_peg [mR (some 100), mI w, mR (some 140)] A (fun r A1 => (((w = -1 ∨ (0 ≤ w ∧ w < gI A 200 32)) ∧ (gI A 200 32 < 6)) ∧ r = some (mI 0) ∧ ∃ W, (W = np_m A (gI A 200 32) w) ∧ A1 = sI W 140 0 (nrm (gI A 200 32))) ∨ (¬ ((w = -1 ∨ (0 ≤ w ∧ w < gI A 200 32)) ∧ (gI A 200 32 < 6)) ∧ r = some (mI (if (w = -1 ∨ (0 ≤ w ∧ w < gI A 200 32)) then (if (gI A 200 32 < 6) then 0 else 2) else 1)) ∧ A1 = A)) mj_no := by
  refine mj_bodyHK 6 89 [some (mR (some 100)), some (mI w), some (mR (some 140)), none] rfl rfl (by decide) (by decide +kernel) (Nat.le_of_ble_eq_true rfl) (by simp) rfl ?_
  have hj := h.j
  have ht := h.t
  have hO := hj.y.o
  have hH := hj.x.H
  refine mx_R fun hR => ?_
  refine mx_aload_n 2 d_L_peg_0 rfl rfl ?_
  refine mx_iconst d_L_peg_1 ?_
  refine mx_aload_n 0 d_L_peg_2 rfl rfl ?_
  refine mx_iload_n 1 d_L_peg_3 rfl rfl ?_
  refine mx_callV (kc := 0) (ks := 0) (N := n_H_peg) (as := [_]) (ci := 6) d_L_peg_4 s_L_66 ⟨Nat.le_of_ble_eq_true rfl, Nat.le_of_ble_eq_true rfl⟩ rfl (mj_wt_8 (Nat.le_of_ble_eq_true rfl)) (hH.o) ⟨_, rfl, rfl⟩ (ct_peg hj rw) (fun r_4 A_4 h_4 => ?_) (fun E_4 A_x h_4 => ?_)
  rotate_left
  · refine mt_px2 h_4 (fun hn => ?_) (fun hi0 hn => ?_)
    · refine mt_catch (name := "java/lang/IndexOutOfBoundsException") [] (0, 9, 12, 19) [(0, 9, 15, 13)] rfl (fun z hz => absurd hz List.not_mem_nil) rfl (by decide) mj_lc_19 mj_ca_IndexOutOfBoundsException (i := 3) (Or.inl ⟨3, rfl, d_L_peg_12, ?_⟩) (by decide)
      refine mx_R fun hR => ?_
      refine mx_iconst d_L_peg_13 ?_
      refine mx_iret d_L_peg_14 rfl ?_
      exact Or.inr ⟨fun hc => hn hc.1, by rw [if_neg hn], rfl⟩
    · refine mt_catch (name := "java/lang/IllegalStateException") [(0, 9, 12, 19)] (0, 9, 15, 13) [] rfl (mt_ps1 _ mj_lc_19 (by decide)) rfl (by decide) mj_lc_13 mj_ca_IllegalStateException (i := 3) (Or.inl ⟨3, rfl, d_L_peg_15, ?_⟩) (by decide)
      refine mx_R fun hR => ?_
      refine mx_iconst d_L_peg_16 ?_
      refine mx_iret d_L_peg_17 rfl ?_
      exact Or.inr ⟨fun hc => hn hc.2, by rw [if_pos hi0, if_neg hn], rfl⟩
  obtain ⟨hc, rfl, hw⟩ := h_4
  refine mx_R fun hR_1 => ?_
  have hO2 : gS A_4 140 = some (.inr (2, 1)) := Eq.trans (b := gS A 140) (by rw [hw]; exact np_S (by omega)) hO
  have hnr := nr_r (gI A 200 32)
  refine mx_nrm ?_
  refine mx_i2l d_L_peg_7 (by first | assumption | exact hR_1 _ _ | exact hR _ _ | exact r32_mk (by omega) (by omega)) ?_
  refine mx_last d_L_peg_8 (hO2) (by omega) (by omega) (by first | assumption | exact hR_1 _ _ | exact hR _ _ | exact r32_mk (by omega) (by omega)) ?_
  refine mx_R fun hR_2 => ?_
  refine mx_goto 18 d_L_peg_9 rfl ?_
  refine mx_iconst d_L_peg_18 ?_
  refine mx_iret d_L_peg_19 rfl ?_
  exact Or.inl ⟨hc, rfl, A_4, hw, rfl⟩
theorem lx_move {X : Int → Int} {C : Int → cT} {p f x y : Int} (h : JT X C A) (rp : r32 p) (rf : r32 f) (rx : r32 x) (ry : r32 y) : mj_Cal G n_L_move [mR (some 100), mI p, mI f, mI x, mI y, mR (some 140)] A (fun r A1 => (((0 ≤ p ∧ p < gI A 200 32) ∧ (0 ≤ f ∧ f ≤ 23 ∧ -20 ≤ x ∧ x ≤ 20 ∧ -20 ≤ y ∧ y ≤ 20) ∧ ((0 ≤ p ∧ p < gI A 200 32) ∧ (mv_k (gI A 235) p f (gI A 234 p).toNat ≠ -1 ∨ gI A 234 p < 6))) ∧ r = some (mI 0) ∧ ∃ W, (W = tl_m A p f x y) ∧ A1 = sI W 140 0 (nrm (if mv_k (gI A 235) p f (gI A 234 p).toNat = -1 then gI A 234 p + 1 else gI A 234 p))) ∨ (¬ ((0 ≤ p ∧ p < gI A 200 32) ∧ (0 ≤ f ∧ f ≤ 23 ∧ -20 ≤ x ∧ x ≤ 20 ∧ -20 ≤ y ∧ y ≤ 20) ∧ ((0 ≤ p ∧ p < gI A 200 32) ∧ (mv_k (gI A 235) p f (gI A 234 p).toNat ≠ -1 ∨ gI A 234 p < 6))) ∧ r = some (mI (if (0 ≤ p ∧ p < gI A 200 32) then (if (0 ≤ f ∧ f ≤ 23 ∧ -20 ≤ x ∧ x ≤ 20 ∧ -20 ≤ y ∧ y ≤ 20) then (if ((0 ≤ p ∧ p < gI A 200 32) ∧ (mv_k (gI A 235) p f (gI A 234 p).toNat ≠ -1 ∨ gI A 234 p < 6)) then 0 else 3) else 2) else 1)) ∧ A1 = A)) mj_no := by
  refine mj_bodyHK 4 24 [some (mR (some 100)), some (mI p), some (mI f), some (mI x), some (mI y), some (mR (some 140)), none] rfl rfl (by decide) (by decide +kernel) (Nat.le_of_ble_eq_true rfl) (by simp) rfl ?_
  have hj := h.j
  have ht := h.t
  have hO := hj.y.o
  have hH := hj.x.H
  refine mx_R fun hR => ?_
  refine mx_aload 5 d_L_move_0 rfl ?_
  refine mx_iconst d_L_move_2 ?_
  refine mx_aload_n 0 d_L_move_3 rfl rfl ?_
  refine mx_iload_n 1 d_L_move_4 rfl rfl ?_
  refine mx_iload_n 2 d_L_move_5 rfl rfl ?_
  refine mx_iload_n 3 d_L_move_6 rfl rfl ?_
  refine mx_iload 4 d_L_move_7 rfl ?_
  refine mx_callV (kc := 0) (ks := 0) (N := n_H_move) (as := [_, _, _, _]) (ci := 6) d_L_move_9 s_L_70 ⟨Nat.le_of_ble_eq_true rfl, Nat.le_of_ble_eq_true rfl⟩ rfl (mj_wt_8 (Nat.le_of_ble_eq_true rfl)) (hH.o) ⟨_, rfl, rfl⟩ (ct_move hj rp rf rx ry) (fun r_9 A_9 h_9 => ?_) (fun E_9 A_x h_9 => ?_)
  rotate_left
  · refine mt_px3 h_9 (fun hn => ?_) (fun hi0 hn => ?_) (fun hi0 hi1 hn => ?_)
    · refine mt_catch (name := "java/lang/IndexOutOfBoundsException") [] (0, 14, 17, 19) [(0, 14, 21, 21), (0, 14, 25, 13)] rfl (fun z hz => absurd hz List.not_mem_nil) rfl (by decide) mj_lc_19 mj_ca_IndexOutOfBoundsException (i := 6) (Or.inr ⟨d_L_move_17, ?_⟩) (by decide)
      refine mx_R fun hR => ?_
      refine mx_iconst d_L_move_19 ?_
      refine mx_iret d_L_move_20 rfl ?_
      exact Or.inr ⟨fun hc => hn hc.1, by rw [if_neg hn], rfl⟩
    · refine mt_catch (name := "java/lang/IllegalArgumentException") [(0, 14, 17, 19)] (0, 14, 21, 21) [(0, 14, 25, 13)] rfl (mt_ps1 _ mj_lc_19 (by decide)) rfl (by decide) mj_lc_21 mj_ca_IllegalArgumentException (i := 6) (Or.inr ⟨d_L_move_21, ?_⟩) (by decide)
      refine mx_R fun hR => ?_
      refine mx_iconst d_L_move_23 ?_
      refine mx_iret d_L_move_24 rfl ?_
      exact Or.inr ⟨fun hc => hn hc.2.1, by rw [if_pos hi0, if_neg hn], rfl⟩
    · refine mt_catch (name := "java/lang/IllegalStateException") [(0, 14, 17, 19), (0, 14, 21, 21)] (0, 14, 25, 13) [] rfl (mt_ps2 _ _ mj_lc_19 (by decide) mj_lc_21 (by decide)) rfl (by decide) mj_lc_13 mj_ca_IllegalStateException (i := 6) (Or.inr ⟨d_L_move_25, ?_⟩) (by decide)
      refine mx_R fun hR => ?_
      refine mx_iconst d_L_move_27 ?_
      refine mx_iret d_L_move_28 rfl ?_
      exact Or.inr ⟨fun hc => hn hc.2.2, by rw [if_pos hi0, if_pos hi1, if_neg hn], rfl⟩
  obtain ⟨hc, rfl, hw⟩ := h_9
  refine mx_R fun hR_1 => ?_
  have hO2 : gS A_9 140 = some (.inr (2, 1)) := Eq.trans (b := gS A 140) (by rw [hw]; exact tl_S 140) hO
  have hnr := nr_r (if mv_k (gI A 235) p f (gI A 234 p).toNat = -1 then gI A 234 p + 1 else gI A 234 p)
  refine mx_nrm ?_
  refine mx_i2l d_L_move_12 (by first | assumption | exact hR_1 _ _ | exact hR _ _ | exact r32_mk (by omega) (by omega)) ?_
  refine mx_last d_L_move_13 (hO2) (by omega) (by omega) (by first | assumption | exact hR_1 _ _ | exact hR _ _ | exact r32_mk (by omega) (by omega)) ?_
  refine mx_R fun hR_2 => ?_
  refine mx_goto 29 d_L_move_14 rfl ?_
  refine mx_iconst d_L_move_29 ?_
  refine mx_iret d_L_move_30 rfl ?_
  exact Or.inl ⟨hc, rfl, A_9, hw, rfl⟩
end LWRA
