/-! THE HOUSE, 22: calls that make -/
section CLSN
variable {G : mj_G} {A : mj_M}
section DNW
variable {t n d o : Int} {a b : Option Int}
theorem dnw_So {c : Int} (h : ¬ (t + 1 ≤ c ∧ c ≤ t + 15)) : gS (dnw_m A t a b n d o) c = gS A c := by
  unfold dnw_m pcr_m dnw_2 dnw_1
  simp only [gS_sP, gS_sN, gS_sI, ds_S]
  ((try simp only [true_and, and_true, if_true, and_self]); repeat (first | rw [if_pos (by omega)] | rw [if_neg (by omega)]))
theorem dnw_Io {c i : Int} (h : ¬ (t ≤ c ∧ c ≤ t + 15)) : gI (dnw_m A t a b n d o) c i = gI A c i := by
  unfold dnw_m pcr_m dnw_2 dnw_1
  simp only [gI_sP, gI_sN, gI_sI, ds_I]
  ((try simp only [true_and, and_true, if_true, and_self]); repeat (first | rw [if_pos (by omega)] | rw [if_neg (by omega)]))
theorem dnw_Po {c i : Int} (h : ¬ (t ≤ c ∧ c ≤ t + 15)) : gP (dnw_m A t a b n d o) c i = gP A c i := by
  unfold dnw_m pcr_m dnw_2 dnw_1
  simp only [gP_sP, gP_sN, gP_sI, ds_P]
  ((try simp only [true_and, and_true, if_true, and_self]); repeat (first | rw [if_pos (by omega)] | rw [if_neg (by omega)]))
theorem dnw_It {i : Int} : gI (dnw_m A t a b n d o) t i = if i = 4 then o else if i = 3 then d else if i = 2 then n else gI A t i := by
  unfold dnw_m pcr_m dnw_2 dnw_1
  simp only [gI_sP, gI_sN, gI_sI, ds_I]
  rw [if_neg (by omega), if_neg (by omega), if_neg (by omega), if_neg (by omega), if_neg (by omega), if_neg (by omega), if_neg (by omega), if_neg (by omega)]
  simp only [true_and]
theorem dnw_P0 : gP (dnw_m A t a b n d o) t 0 = a := by
  unfold dnw_m pcr_m dnw_2 dnw_1
  simp only [gP_sP, gP_sN, gP_sI, ds_P]
  ((try simp only [true_and, and_true, if_true, and_self]); repeat (first | rw [if_pos (by omega)] | rw [if_neg (by omega)]))
theorem dnw_P1 : gP (dnw_m A t a b n d o) t 1 = b := by
  unfold dnw_m pcr_m dnw_2 dnw_1
  simp only [gP_sP, gP_sN, gP_sI, ds_P]
  ((try simp only [true_and, and_true, if_true, and_self]); repeat (first | rw [if_pos (by omega)] | rw [if_neg (by omega)]))
theorem dnw_DS {e : Int} (ht : gS A (1000 + 100 * e) = some (.inl 0)) : DS1 (dnw_m A (1000 + 100 * e) a b n d o) e := by
  refine ⟨(dnw_So (by omega)).trans ht, ⟨?_, ?_, ?_, ?_⟩, ⟨?_, ?_, ?_⟩, ⟨?_, ⟨?_, ?_, ?_⟩, ?_, ?_, ?_⟩, fun j j0 j1 => ?_, fun i i0 i1 => ⟨i, ?_, i0, i1⟩, fun i i' i0 i1 j0 j1 h => ?_⟩
  · unfold dnw_m pcr_m dnw_2 dnw_1
    simp only [gP_sP, gP_sN, gP_sI, ds_P]
    ((try simp only [true_and, and_true, if_true, and_self]); repeat (first | rw [if_pos (by omega)] | rw [if_neg (by omega)]))
  · unfold dnw_m pcr_m dnw_2 dnw_1
    simp only [gP_sP, gP_sN, gP_sI, ds_P]
    ((try simp only [true_and, and_true, if_true, and_self]); repeat (first | rw [if_pos (by omega)] | rw [if_neg (by omega)]))
  · unfold dnw_m pcr_m dnw_2 dnw_1
    simp only [gP_sP, gP_sN, gP_sI, ds_P]
    ((try simp only [true_and, and_true, if_true, and_self]); repeat (first | rw [if_pos (by omega)] | rw [if_neg (by omega)]))
  · unfold dnw_m pcr_m dnw_2 dnw_1
    simp only [gP_sP, gP_sN, gP_sI, ds_P]
    ((try simp only [true_and, and_true, if_true, and_self]); repeat (first | rw [if_pos (by omega)] | rw [if_neg (by omega)]))
  · unfold dnw_m pcr_m dnw_2 dnw_1
    simp only [gS_sP, gS_sN, gS_sI, ds_S]
    ((try simp only [true_and, and_true, if_true, and_self]); repeat (first | rw [if_pos (by omega)] | rw [if_neg (by omega)]))
  · unfold dnw_m pcr_m dnw_2 dnw_1
    simp only [gS_sP, gS_sN, gS_sI, ds_S]
    ((try simp only [true_and, and_true, if_true, and_self]); repeat (first | rw [if_pos (by omega)] | rw [if_neg (by omega)]))
  · unfold dnw_m pcr_m dnw_2 dnw_1
    simp only [gS_sP, gS_sN, gS_sI, ds_S]
    ((try simp only [true_and, and_true, if_true, and_self]); repeat (first | rw [if_pos (by omega)] | rw [if_neg (by omega)]))
  · unfold dnw_m pcr_m dnw_2 dnw_1
    simp only [gS_sP, gS_sN, gS_sI, ds_S]
    ((try simp only [true_and, and_true, if_true, and_self]); repeat (first | rw [if_pos (by omega)] | rw [if_neg (by omega)]))
  · unfold dnw_m pcr_m dnw_2 dnw_1
    simp only [gP_sP, gP_sN, gP_sI, ds_P]
    ((try simp only [true_and, and_true, if_true, and_self]); repeat (first | rw [if_pos (by omega)] | rw [if_neg (by omega)]))
  · unfold dnw_m pcr_m dnw_2 dnw_1
    simp only [gP_sP, gP_sN, gP_sI, ds_P]
    ((try simp only [true_and, and_true, if_true, and_self]); repeat (first | rw [if_pos (by omega)] | rw [if_neg (by omega)]))
  · unfold dnw_m pcr_m dnw_2 dnw_1
    simp only [gP_sP, gP_sN, gP_sI, ds_P]
    ((try simp only [true_and, and_true, if_true, and_self]); repeat (first | rw [if_pos (by omega)] | rw [if_neg (by omega)]))
  · unfold dnw_m pcr_m dnw_2 dnw_1
    simp only [gS_sP, gS_sN, gS_sI, ds_S]
    ((try simp only [true_and, and_true, if_true, and_self]); repeat (first | rw [if_pos (by omega)] | rw [if_neg (by omega)]))
  · unfold dnw_m pcr_m dnw_2 dnw_1
    simp only [gS_sP, gS_sN, gS_sI, ds_S]
    ((try simp only [true_and, and_true, if_true, and_self]); repeat (first | rw [if_pos (by omega)] | rw [if_neg (by omega)]))
  · unfold dnw_m pcr_m dnw_2 dnw_1
    simp only [gS_sP, gS_sN, gS_sI, ds_S]
    ((try simp only [true_and, and_true, if_true, and_self]); repeat (first | rw [if_pos (by omega)] | rw [if_neg (by omega)]))
  · unfold dnw_m pcr_m dnw_2 dnw_1
    simp only [gS_sP, gS_sN, gS_sI, ds_S]
    ((try simp only [true_and, and_true, if_true, and_self]); repeat (first | rw [if_pos (by omega)] | rw [if_neg (by omega)]))
  · unfold dnw_m pcr_m dnw_2 dnw_1
    simp only [gP_sP, gP_sN, gP_sI, ds_P]
    ((try simp only [true_and, and_true, if_true, and_self]); repeat (first | rw [if_pos (by omega)] | rw [if_neg (by omega)]))
  · have key : ∀ i, 0 ≤ i → i < 8 → gP (dnw_m A (1000 + 100 * e) a b n d o) (1000 + 100 * e + 1) i = some (1000 + 100 * e + 2 + i) := fun i i0 i1 => by
      unfold dnw_m pcr_m dnw_2 dnw_1
      simp only [gP_sP, gP_sN, gP_sI, ds_P]
      ((try simp only [true_and, and_true, if_true, and_self]); repeat (first | rw [if_pos (by omega)] | rw [if_neg (by omega)]))
    rw [key i i0 i1, key i' j0 j1] at h
    have := Option.some.inj h
    omega
end DNW
/-- a new drawing stands -/
def ky_m (A : mj_M) (n : Int) : mj_M := sI (sP (dnw_m (sN A (1000 + 100 * n) (.inl 0)) (1000 + 100 * n) none none 0 1 0) 101 n (some (1000 + 100 * n))) 100 1 (n + 1)
theorem ct_key {C : Int → cT} (hj : JJ C A) : mj_Cal G n_H_key [mR (some 100)] A (fun r A' => (gI A 200 3) < 16 ∧ r = some (mI (gI A 200 3)) ∧ A' = ky_m A (gI A 200 3)) (px1 A xS ((gI A 200 3) < 16)) := by
  refine mj_bodyK 17 667 [some (mR (some 100))] rfl rfl rfl (by decide +kernel) (Nat.le_of_ble_eq_true rfl) (by simp) rfl ?_
  have hH := hj.x.H
  have hxn := hj.x.n
  have hnd := hj.m.g.nd
  refine mx_R fun hR => ?_
  refine mx_aload_n 0 d_H_key_0 rfl rfl ?_
  refine mx_callV (kc := 16) (ks := 661) (N := n_H_needRoomForDrawing) (as := []) (ci := 6) d_H_key_1 s_H_65 ⟨Nat.le_of_ble_eq_true rfl, Nat.le_of_ble_eq_true rfl⟩ rfl (mj_wt_8 (Nat.le_of_ble_eq_true rfl)) (hH.o) ⟨_, rfl, rfl⟩ (ct_needRoom hj) (fun r_1 A_1 h_1 => ?_) (fun E_1 A_x h_1 => ?_)
  rotate_left
  · exact mt_n h_1 rfl fun hn => ⟨rfl, rfl, hn⟩
  obtain ⟨rfl, h1, hA_1⟩ := h_1
  obtain rfl := hA_1.symm
  clear hA_1
  refine mx_R fun hR_1 => ?_
  refine mx_aload_n 0 d_H_key_4 rfl rfl ?_
  refine mx_getPs 0 d_H_key_5 f_H_11 rfl rfl (hH.o) (hH.p0) ?_
  refine mx_aload_n 0 d_H_key_8 rfl rfl ?_
  refine mx_getI 1 d_H_key_9 f_H_68 rfl rfl (hH.o) ?_
  rw [hxn]
  refine mx_new (kc := 15) (ks := 647) (n := 14) ((1000 + 100 * gI A 200 3)) d_H_key_12 w_H_9 (by have h9 := hj.h.f (gI A 200 3) (by omega) h1 0 (by omega) (by omega); rw [Int.add_zero] at h9; exact h9) ?_
  refine mx_R fun hR_2 => ?_
  refine mx_dup d_H_key_15 (fun z h => by cases h) ?_
  refine mx_null d_H_key_16 ?_
  refine mx_null d_H_key_17 ?_
  refine mx_iconst d_H_key_18 ?_
  refine mx_iconst d_H_key_19 ?_
  refine mx_iconst d_H_key_20 ?_
  refine mx_callI (kc := 0) (ks := 0) (N := n_D_init) (as := [_, _, _, _, _]) d_H_key_21 s_H_72 ⟨Nat.le_of_ble_eq_true rfl, Nat.le_of_ble_eq_true rfl⟩ rfl (mj_wt_8 (Nat.le_of_ble_eq_true rfl)) (ct_D_init (A := sN A (1000 + 100 * gI A 200 3) (.inl 0)) (t := (1000 + 100 * gI A 200 3)) (by rw [gS_sN, if_pos rfl]) (fun j j0 j1 => by rw [gS_sN, if_neg (by omega)]; exact hj.h.f (gI A 200 3) (by omega) h1 j (by omega) j1) (r32_mk (by omega) (by omega)) (r32_mk (by omega) (by omega)) (r32_mk (by omega) (by omega))) (fun r_21 A_21 h_21 => ?_)
  obtain ⟨rfl, hA_21⟩ := h_21
  obtain rfl := hA_21.symm
  clear hA_21
  refine mx_R fun hR_3 => ?_
  refine mx_aast d_H_key_24 ((by rw [dnw_So (by omega), gS_sN, if_neg (by omega)]; exact hH.s0)) (by decide) (by omega) (by omega) ((by rw [dnw_So (by omega), gS_sN, if_pos rfl]; rfl)) ?_
  refine mx_R fun hR_4 => ?_
  refine mx_aload_n 0 d_H_key_25 rfl rfl ?_
  refine mx_dup d_H_key_26 (fun z h => by cases h) ?_
  refine mx_getI 1 d_H_key_27 f_H_68 rfl rfl ((by rw [gS_sP, dnw_So (by omega), gS_sN, if_neg (by omega)]; exact hH.o)) ?_
  rw [gI_sP, dnw_Io (by omega), gI_sN, if_neg (by omega), hxn]
  refine mx_dup_x1 d_H_key_30 (fun z h => by cases h) (fun z h => by cases h) ?_
  refine mx_iconst d_H_key_31 ?_
  refine mx_iadd d_H_key_32 ?_
  refine mx_putI 1 d_H_key_33 f_H_68 rfl ((by rw [gS_sP, dnw_So (by omega), gS_sN, if_neg (by omega)]; exact hH.o)) (Or.inl rfl) (Or.inl rfl) (by first | assumption | exact hR_4 _ _ | exact hR_3 _ _ | exact hR_2 _ _ | exact hR_1 _ _ | exact hR _ _ | exact r32_mk (by omega) (by omega)) ?_
  refine mx_R fun hR_5 => ?_
  refine mx_iret d_H_key_36 rfl ?_
  exact ⟨h1, rfl, rfl⟩
abbrev or2 (x y : Int) : Int := ((x.toNat ||| y.toNat : Nat) : Int)
/-- the drawings that a new in-between hangs on -/
def bo_m (A : mj_M) (a b : Int) : Int := or2 (or2 (or2 (2 ^ a.toNat) (2 ^ b.toNat)) (gI A (1000 + 100 * a) 4)) (gI A (1000 + 100 * b) 4)
def bw_m (A : mj_M) (a b n d : Int) : mj_M := dnw_m (sN A (1000 + 100 * gI A 200 3) (.inl 0)) (1000 + 100 * gI A 200 3) (some (1000 + 100 * a)) (some (1000 + 100 * b)) n d (bo_m A a b)
theorem bo_r {a b : Int} (hx : CX A) (ha : 0 ≤ a ∧ a < gI A 100 1) (hb : 0 ≤ b ∧ b < gI A 100 1) : (0 ≤ or2 (2 ^ a.toNat) (2 ^ b.toNat) ∧ or2 (2 ^ a.toNat) (2 ^ b.toNat) < 65536) ∧ (0 ≤ or2 (or2 (2 ^ a.toNat) (2 ^ b.toNat)) (gI A (1000 + 100 * a) 4) ∧ or2 (or2 (2 ^ a.toNat) (2 ^ b.toNat)) (gI A (1000 + 100 * a) 4) < 65536) ∧ 0 ≤ bo_m A a b ∧ bo_m A a b < 65536 := by
  have hnd := hx.nd
  have pa := p2_i (k := a) (by omega)
  have pb := p2_i (k := b) (by omega)
  have h1 := or_b (x := 2 ^ a.toNat) (y := 2 ^ b.toNat) (by omega) (by omega)
  have h2 := or_b h1 (hx.h a ha.1 ha.2).1
  have h3 := or_b h2 (hx.h b hb.1 hb.2).1
  exact ⟨h1, h2, h3⟩
theorem ct_between {C : Int → cT} {a b n d : Int} (hj : JJ C A) (ha : r32 a) (hb : r32 b) (hn : r32 n) (hd : r32 d) : mj_Cal G n_H_between [mR (some 100), mI a, mI b, mI n, mI d] A (fun r A' => ((0 ≤ a ∧ a < gI A 200 3 ∧ 0 ≤ b ∧ b < gI A 200 3) ∧ (1 ≤ d ∧ d ≤ 24 ∧ 0 ≤ n ∧ n ≤ d) ∧ (gI A 200 3 < 16)) ∧ r = some (mI (gI A 200 3)) ∧ ∃ W, fo (bw_m A a b n d) W (gI A 200 3) ∧ gI W (1000 + 100 * gI A 200 3) 13 = 0 ∧ cb n d (ch_c A a) (ch_c A b) (ch_c W (gI A 200 3)) ∧ A' = sI (sP W 101 (gI A 200 3) (some (1000 + 100 * gI A 200 3))) 100 1 ((gI A 200 3) + 1)) (px3 A xI xA xS (0 ≤ a ∧ a < gI A 200 3 ∧ 0 ≤ b ∧ b < gI A 200 3) (1 ≤ d ∧ d ≤ 24 ∧ 0 ≤ n ∧ n ≤ d) (gI A 200 3 < 16)) := by
  refine mj_bodyK 20 685 [some (mR (some 100)), some (mI a), some (mI b), some (mI n), some (mI d), none, none, none, none] rfl rfl rfl (by decide +kernel) (Nat.le_of_ble_eq_true rfl) (by simp) rfl ?_
  have hH := hj.x.H
  have hxn := hj.x.n
  have hnd := hj.m.g.nd
  have hD := hj.D
  refine mx_R fun hR => ?_
  refine mx_aload_n 0 d_H_between_0 rfl rfl ?_
  refine mx_iload_n 1 d_H_between_1 rfl rfl ?_
  refine mx_callV (kc := 19) (ks := 679) (N := n_H_needDrawing) (as := [_]) (ci := 6) d_H_between_2 s_H_75 ⟨Nat.le_of_ble_eq_true rfl, Nat.le_of_ble_eq_true rfl⟩ rfl (mj_wt_8 (Nat.le_of_ble_eq_true rfl)) (hH.o) ⟨_, rfl, rfl⟩ (ct_needDrawing hj ha) (fun r_2 A_2 h_2 => ?_) (fun E_2 A_x h_2 => ?_)
  rotate_left
  · exact mt_n h_2 rfl fun hn => ⟨rfl, Or.inl ⟨rfl, by omega⟩⟩
  obtain ⟨rfl, h1, hA_2⟩ := h_2
  obtain rfl := hA_2.symm
  clear hA_2
  refine mx_R fun hR_1 => ?_
  refine mx_aload_n 0 d_H_between_5 rfl rfl ?_
  refine mx_iload_n 2 d_H_between_6 rfl rfl ?_
  refine mx_callV (kc := 18) (ks := 673) (N := n_H_needDrawing) (as := [_]) (ci := 6) d_H_between_7 s_H_75 ⟨Nat.le_of_ble_eq_true rfl, Nat.le_of_ble_eq_true rfl⟩ rfl (mj_wt_8 (Nat.le_of_ble_eq_true rfl)) (hH.o) ⟨_, rfl, rfl⟩ (ct_needDrawing hj hb) (fun r_7 A_7 h_7 => ?_) (fun E_7 A_x h_7 => ?_)
  rotate_left
  · exact mt_n h_7 rfl fun hn => ⟨rfl, Or.inl ⟨rfl, by omega⟩⟩
  obtain ⟨rfl, h2, hA_7⟩ := h_7
  obtain rfl := hA_7.symm
  clear hA_7
  refine mx_R fun hR_2 => ?_
  refine mx_iload 4 d_H_between_10 rfl ?_
  refine mx_iconst d_H_between_12 ?_
  refine mx_icmp_lt 33 d_H_between_13 rfl (by first | assumption | exact hR_2 _ _ | exact hR_1 _ _ | exact hR _ _ | exact r32_mk (by omega) (by omega)) (by first | assumption | exact hR_2 _ _ | exact hR_1 _ _ | exact hR _ _ | exact r32_mk (by omega) (by omega)) (fun c_13 => ?_) (fun c_13 => ?_)
  · refine mx_throw (text := "n is 0 to d, d is 1 to 24") t_H_79_83 (by decide) rfl (Nat.le_of_ble_eq_true rfl) (Nat.le_of_ble_eq_true rfl) d_H_between_33 d_H_between_36 d_H_between_37 d_H_between_39 d_H_between_42 ?_
    exact ⟨rfl, Or.inr (Or.inl ⟨rfl, by omega, by omega⟩)⟩
  · refine mx_iload 4 d_H_between_16 rfl ?_
    refine mx_bipush d_H_between_18 (by decide) ?_
    refine mx_icmp_gt 33 d_H_between_20 rfl (by first | assumption | exact hR_2 _ _ | exact hR_1 _ _ | exact hR _ _ | exact r32_mk (by omega) (by omega)) (by first | assumption | exact hR_2 _ _ | exact hR_1 _ _ | exact hR _ _ | exact r32_mk (by omega) (by omega)) (fun c_20 => ?_) (fun c_20 => ?_)
    · refine mx_throw (text := "n is 0 to d, d is 1 to 24") t_H_79_83 (by decide) rfl (Nat.le_of_ble_eq_true rfl) (Nat.le_of_ble_eq_true rfl) d_H_between_33 d_H_between_36 d_H_between_37 d_H_between_39 d_H_between_42 ?_
      exact ⟨rfl, Or.inr (Or.inl ⟨rfl, by omega, by omega⟩)⟩
    · refine mx_iload_n 3 d_H_between_23 rfl rfl ?_
      refine mx_if_lt 33 d_H_between_24 rfl (by first | assumption | exact hR_2 _ _ | exact hR_1 _ _ | exact hR _ _ | exact r32_mk (by omega) (by omega)) (fun c_24 => ?_) (fun c_24 => ?_)
      · refine mx_throw (text := "n is 0 to d, d is 1 to 24") t_H_79_83 (by decide) rfl (Nat.le_of_ble_eq_true rfl) (Nat.le_of_ble_eq_true rfl) d_H_between_33 d_H_between_36 d_H_between_37 d_H_between_39 d_H_between_42 ?_
        exact ⟨rfl, Or.inr (Or.inl ⟨rfl, by omega, by omega⟩)⟩
      · refine mx_iload_n 3 d_H_between_27 rfl rfl ?_
        refine mx_iload 4 d_H_between_28 rfl ?_
        refine mx_icmp_le 43 d_H_between_30 rfl (by first | assumption | exact hR_2 _ _ | exact hR_1 _ _ | exact hR _ _ | exact r32_mk (by omega) (by omega)) (by first | assumption | exact hR_2 _ _ | exact hR_1 _ _ | exact hR _ _ | exact r32_mk (by omega) (by omega)) (fun c_30 => ?_) (fun c_30 => ?_)
        · refine mx_aload_n 0 d_H_between_43 rfl rfl ?_
          refine mx_callV (kc := 17) (ks := 667) (N := n_H_needRoomForDrawing) (as := []) (ci := 6) d_H_between_44 s_H_65 ⟨Nat.le_of_ble_eq_true rfl, Nat.le_of_ble_eq_true rfl⟩ rfl (mj_wt_8 (Nat.le_of_ble_eq_true rfl)) (hH.o) ⟨_, rfl, rfl⟩ (ct_needRoom hj) (fun r_44 A_44 h_44 => ?_) (fun E_44 A_x h_44 => ?_)
          rotate_left
          · exact mt_n h_44 rfl fun hn => ⟨rfl, Or.inr (Or.inr ⟨rfl, by omega, by omega, hn⟩)⟩
          obtain ⟨rfl, h3, hA_44⟩ := h_44
          obtain rfl := hA_44.symm
          clear hA_44
          refine mx_R fun hR_3 => ?_
          have hJ : (1 ≤ d ∧ d ≤ 24 ∧ 0 ≤ n ∧ n ≤ d) := by omega
          have hbo := bo_r hj.x (a := a) (b := b) (by omega) (by omega)
          have hha := (hj.x.h a h1.1 (by omega)).1
          have hhb := (hj.x.h b h2.1 (by omega)).1
          have pa := p2_i (k := a) (by omega)
          have pb := p2_i (k := b) (by omega)
          have hfr : ∀ j, 1 ≤ j → j ≤ 15 → gS A ((1000 + 100 * gI A 200 3) + j) = none := fun j j0 j1 => hj.h.f (gI A 200 3) (by omega) h3 j (by omega) j1
          have hSo : ∀ c, c ≠ (1000 + 100 * gI A 200 3) → ¬ ((1000 + 100 * gI A 200 3) + 1 ≤ c ∧ c ≤ (1000 + 100 * gI A 200 3) + 15) → gS (bw_m A a b n d) c = gS A c := fun c hc1 hc2 => by
            unfold bw_m
            rw [dnw_So hc2, gS_sN, if_neg hc1]
          have hIo : ∀ c i, ¬ ((1000 + 100 * gI A 200 3) ≤ c ∧ c ≤ (1000 + 100 * gI A 200 3) + 15) → gI (bw_m A a b n d) c i = gI A c i := fun c i hc => by
            unfold bw_m
            rw [dnw_Io hc, gI_sN, if_neg (by omega)]
          have hPo : ∀ c i, ¬ ((1000 + 100 * gI A 200 3) ≤ c ∧ c ≤ (1000 + 100 * gI A 200 3) + 15) → gP (bw_m A a b n d) c i = gP A c i := fun c i hc => by
            unfold bw_m
            rw [dnw_Po hc, gP_sN, if_neg (by omega)]
          have hD1 : DS (bw_m A a b n d) ((gI A 200 3) + 1) := fun e e0 e1 => by
            by_cases he : e = (gI A 200 3)
            · rw [he]
              exact dnw_DS (by rw [gS_sN, if_pos rfl])
            · exact DS1_ag (fun c c0 c1 => hSo c (by omega) (by omega)) (fun c i c0 c1 => hPo c i (by omega)) (hD e e0 (by omega))
          have hce : ∀ e, 0 ≤ e → e < (gI A 200 3) → ce (ch_c A e) (ch_c (bw_m A a b n d) e) := fun e e0 e1 => ch_ag (fun i => hPo _ _ (by omega)) (fun c i c0 c1 => hIo c i (by omega)) (fun i i0 i1 => hD.ek e e0 e1 i i0 i1) (hj.cr e e0 e1)
          have e2 : gI (bw_m A a b n d) (1000 + 100 * gI A 200 3) 2 = n := by
            unfold bw_m
            rw [dnw_It]
            rfl
          have e3 : gI (bw_m A a b n d) (1000 + 100 * gI A 200 3) 3 = d := by
            unfold bw_m
            rw [dnw_It]
            rfl
          refine mx_R fun hR => ?_
          refine mx_aload_n 0 d_H_between_47 rfl rfl ?_
          refine mx_getPs 0 d_H_between_48 f_H_11 rfl rfl (hH.o) (hH.p0) ?_
          refine mx_iload_n 1 d_H_between_51 rfl rfl ?_
          refine mx_aalds d_H_between_52 (hH.s0) (by decide) (by omega) (by omega) (hj.x.r a h1.1 (by omega)) ?_
          refine mx_astore 5 d_H_between_53 (Nat.le_of_ble_eq_true rfl) ?_
          refine mx_aload_n 0 d_H_between_55 rfl rfl ?_
          refine mx_getPs 0 d_H_between_56 f_H_11 rfl rfl (hH.o) (hH.p0) ?_
          refine mx_iload_n 2 d_H_between_59 rfl rfl ?_
          refine mx_aalds d_H_between_60 (hH.s0) (by decide) (by omega) (by omega) (hj.x.r b h2.1 (by omega)) ?_
          refine mx_astore 6 d_H_between_61 (Nat.le_of_ble_eq_true rfl) ?_
          refine mx_iconst d_H_between_63 ?_
          refine mx_iload_n 1 d_H_between_64 rfl rfl ?_
          refine mx_ishl1 d_H_between_65 h1.1 (by omega) ?_
          refine mx_iconst d_H_between_66 ?_
          refine mx_iload_n 2 d_H_between_67 rfl rfl ?_
          refine mx_ishl1 d_H_between_68 h2.1 (by omega) ?_
          refine mx_ior d_H_between_69 (by omega) (by omega) ?_
          refine mx_aload 5 d_H_between_70 rfl ?_
          refine mx_getI 4 d_H_between_72 f_H_86 rfl rfl (hD.o a h1.1 h1.2) ?_
          refine mx_ior d_H_between_75 ⟨hbo.1.1, Int.lt_of_lt_of_le hbo.1.2 (by decide)⟩ (by omega) ?_
          refine mx_aload 6 d_H_between_76 rfl ?_
          refine mx_getI 4 d_H_between_78 f_H_86 rfl rfl (hD.o b h2.1 h2.2) ?_
          refine mx_ior d_H_between_81 ⟨hbo.2.1.1, Int.lt_of_lt_of_le hbo.2.1.2 (by decide)⟩ (by omega) ?_
          refine mx_istore 7 d_H_between_82 (Nat.le_of_ble_eq_true rfl) ?_
          show mj_X G n_H_between _ A _ _ 84 [some (mR (some 100)), some (mI a), some (mI b), some (mI n), some (mI d), some (mR (some (1000 + 100 * a))), some (mR (some (1000 + 100 * b))), some (mI (bo_m A a b)), none] []
          refine mx_R fun hR => ?_
          refine mx_new (kc := 16) (ks := 653) (n := 14) ((1000 + 100 * gI A 200 3)) d_H_between_84 w_H_9 (by have h9 := hj.h.f (gI A 200 3) (by omega) h3 0 (by omega) (by omega); rw [Int.add_zero] at h9; exact h9) ?_
          refine mx_R fun hR_1 => ?_
          refine mx_dup d_H_between_87 (fun z h => by cases h) ?_
          refine mx_aload 5 d_H_between_88 rfl ?_
          refine mx_aload 6 d_H_between_90 rfl ?_
          refine mx_iload_n 3 d_H_between_92 rfl rfl ?_
          refine mx_iload 4 d_H_between_93 rfl ?_
          refine mx_iload 7 d_H_between_95 rfl ?_
          refine mx_callI (kc := 1) (ks := 6) (N := n_D_init) (as := [_, _, _, _, _]) d_H_between_97 s_H_72 ⟨Nat.le_of_ble_eq_true rfl, Nat.le_of_ble_eq_true rfl⟩ rfl (mj_wt_8 (Nat.le_of_ble_eq_true rfl)) (ct_D_init (A := sN A (1000 + 100 * gI A 200 3) (.inl 0)) (t := (1000 + 100 * gI A 200 3)) (a := some (1000 + 100 * a)) (b := some (1000 + 100 * b)) (by rw [gS_sN, if_pos rfl]) (fun j j0 j1 => by rw [gS_sN, if_neg (by omega)]; exact hfr j j0 j1) hn hd (by have := hbo.2.2; exact r32_mk (by omega) (by omega))) (fun r_97 A_97 h_97 => ?_)
          obtain ⟨rfl, hA_97⟩ := h_97
          obtain rfl := hA_97.symm
          clear hA_97
          refine mx_R fun hR_2 => ?_
          refine mx_astore 8 d_H_between_100 (Nat.le_of_ble_eq_true rfl) ?_
          refine mx_aload 8 d_H_between_102 rfl ?_
          refine mx_callV (kc := 1) (ks := 6) (N := n_D_follow) (as := []) (ci := 0) d_H_between_104 s_H_89 ⟨Nat.le_of_ble_eq_true rfl, Nat.le_of_ble_eq_true rfl⟩ rfl (mj_wt_8 (Nat.le_of_ble_eq_true rfl)) ((hD1 (gI A 200 3) (by omega) (by omega)).1) ⟨_, rfl, rfl⟩ (ct_follow (A := bw_m A a b n d) (m := (gI A 200 3) + 1) (d := (gI A 200 3)) (a := a) (b := b) hD1 ⟨by omega, by omega⟩ h1 h2 (cr_e (hce a h1.1 h1.2) (hj.cr a h1.1 h1.2)) (cr_e (hce b h2.1 h2.2) (hj.cr b h2.1 h2.2)) dnw_P0 dnw_P1 (by rw [e2, e3]; omega) (by rw [e3]; omega)) (fun r_104 A_104 h_104 => ?_) (fun E_104 A_x h_104 => ?_)
          rotate_left
          · exact h_104.elim
          obtain ⟨rfl, hfo, h13, hcb⟩ := h_104
          refine mx_R fun hR_3 => ?_
          rw [e2, e3] at hcb
          have hSW : ∀ c, c ≠ (1000 + 100 * gI A 200 3) → ¬ ((1000 + 100 * gI A 200 3) + 1 ≤ c ∧ c ≤ (1000 + 100 * gI A 200 3) + 15) → gS A_104 c = gS A c := fun c c0 c1 => (hfo.S c).trans (hSo c c0 c1)
          have hPW : ∀ c i, ¬ ((1000 + 100 * gI A 200 3) ≤ c ∧ c ≤ (1000 + 100 * gI A 200 3) + 15) → gP A_104 c i = gP A c i := fun c i c0 => (hfo.P c i).trans (hPo c i c0)
          have hIW : ∀ c i, ¬ ((1000 + 100 * gI A 200 3) ≤ c ∧ c ≤ (1000 + 100 * gI A 200 3) + 15) → gI A_104 c i = gI A c i := fun c i c0 => (hfo.I c i (by omega)).trans (hIo c i c0)
          have hSD : gS A_104 (1000 + 100 * gI A 200 3) = some (.inl 0) := (hfo.S _).trans (hD1 (gI A 200 3) (by omega) (by omega)).1
          refine mx_aload_n 0 d_H_between_107 rfl rfl ?_
          refine mx_getPs 0 d_H_between_108 f_H_11 rfl rfl ((hSW 100 (by omega) (by omega)).trans hH.o) ((hPW 100 0 (by omega)).trans hH.p0) ?_
          refine mx_aload_n 0 d_H_between_111 rfl rfl ?_
          refine mx_getI 1 d_H_between_112 f_H_68 rfl rfl ((hSW 100 (by omega) (by omega)).trans hH.o) ?_
          rw [hIW 100 1 (by omega), hxn]
          refine mx_aload 8 d_H_between_115 rfl ?_
          refine mx_aast d_H_between_117 ((hSW 101 (by omega) (by omega)).trans hH.s0) (by decide) (by omega) (by omega) (hSD) ?_
          refine mx_R fun hR_4 => ?_
          refine mx_aload_n 0 d_H_between_118 rfl rfl ?_
          refine mx_dup d_H_between_119 (fun z h => by cases h) ?_
          refine mx_getI 1 d_H_between_120 f_H_68 rfl rfl ((hSW 100 (by omega) (by omega)).trans hH.o) ?_
          rw [gI_sP, hIW 100 1 (by omega), hxn]
          refine mx_dup_x1 d_H_between_123 (fun z h => by cases h) (fun z h => by cases h) ?_
          refine mx_iconst d_H_between_124 ?_
          refine mx_iadd d_H_between_125 ?_
          refine mx_putI 1 d_H_between_126 f_H_68 rfl ((hSW 100 (by omega) (by omega)).trans hH.o) (Or.inl rfl) (Or.inl rfl) (by first | assumption | exact hR_4 _ _ | exact hR_3 _ _ | exact hR_2 _ _ | exact hR_1 _ _ | exact hR _ _ | exact r32_mk (by omega) (by omega)) ?_
          refine mx_R fun hR_5 => ?_
          refine mx_iret d_H_between_129 rfl ?_
          exact ⟨⟨by omega, hJ, h3⟩, rfl, _, hfo, h13, cb_e hcb (ce_sy (hce a h1.1 h1.2)) (ce_sy (hce b h2.1 h2.2)) ce_rf, rfl⟩
        · refine mx_throw (text := "n is 0 to d, d is 1 to 24") t_H_79_83 (by decide) rfl (Nat.le_of_ble_eq_true rfl) (Nat.le_of_ble_eq_true rfl) d_H_between_33 d_H_between_36 d_H_between_37 d_H_between_39 d_H_between_42 ?_
          exact ⟨rfl, Or.inr (Or.inl ⟨rfl, by omega, by omega⟩)⟩
end CLSN
