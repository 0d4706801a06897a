/-! SMALL METHODS OF THE CLASS -/
section SMALL
variable {G : mj_G} {A : mj_M}
/-- Arrays.fill(int[], int) -/
theorem ct_fill {c x n : Int} (hs : gS A c = some (.inr (0, n))) (hn0 : 0 ≤ n) (hn : n < 2147483647) (hx : r32 x) : mj_Cal G n_J_fill [mR (some c), mI x] A (fun r A' => r = none ∧ A' = sF A c (fun j => if 0 ≤ j ∧ j < n then x else gI A c j)) mj_no := by
  refine mj_bodyK 0 0 [some (mR (some c)), some (mI x), none, none] rfl rfl rfl (by decide +kernel) (Nat.le_of_ble_eq_true rfl) (by simp) rfl ?_
  have hl : ∀ i : Int, (0 ≤ i ∧ i ≤ n) → mj_X G n_J_fill (mj_Qm G n_J_fill (fun r A' => r = none ∧ A' = sF A c (fun j => if 0 ≤ j ∧ j < n then x else gI A c j)) mj_no) (sF A c (fun j => if 0 ≤ j ∧ j < i then x else gI A c j)) 0 0 5 [some (mR (some c)), some (mI x), some (mI i), some (mI n)] [] := by
    refine mj_loop _ (fun i => (n - i).toNat) _ ?_
    intro i hi ih
    refine mx_R fun hR => ?_
    refine mx_iload_n 2 d_J_fill_5 rfl rfl ?_
    refine mx_iload_n 3 d_J_fill_6 rfl rfl ?_
    refine mx_icmp_ge 20 d_J_fill_7 rfl (by first | assumption | exact hR _ _ | exact r32_mk (by omega) (by omega)) (by first | assumption | exact hR _ _ | exact r32_mk (by omega) (by omega)) (fun c_7 => ?_) (fun c_7 => ?_)
    · refine mx_vret d_J_fill_20 rfl ?_
      exact ⟨rfl, by rw [show i = n by omega]⟩
    · refine mx_aload_n 0 d_J_fill_10 rfl rfl ?_
      refine mx_iload_n 2 d_J_fill_11 rfl rfl ?_
      refine mx_iload_n 1 d_J_fill_12 rfl rfl ?_
      refine mx_iast d_J_fill_13 (hs) (by omega) (by omega) (by first | assumption | exact hR _ _ | exact r32_mk (by omega) (by omega)) ?_
      refine mx_R fun hR_1 => ?_
      refine mx_iinc 2 d_J_fill_14 rfl (Nat.le_of_ble_eq_true rfl) ?_
      refine mx_goto 5 d_J_fill_17 rfl ?_
      refine mj_Xeq ?_ (ih (i + 1) ⟨by omega, by omega⟩ (by omega))
      rw [sI_sF]
      refine sF_congr fun j => ?_
      by_cases e : j = i
      · rw [if_pos e, if_pos (by omega)]
      · rw [if_neg e]
        by_cases e2 : 0 ≤ j ∧ j < i
        · rw [if_pos e2, if_pos (by omega)]
        · rw [if_neg e2, if_neg (by omega)]
  refine mx_R fun hR => ?_
  refine mx_iconst d_J_fill_0 ?_
  refine mx_istore_n 2 d_J_fill_1 rfl (Nat.le_of_ble_eq_true rfl) ?_
  refine mx_aload_n 0 d_J_fill_2 rfl rfl ?_
  refine mx_alen d_J_fill_3 (by assumption) ?_
  refine mx_istore_n 3 d_J_fill_4 rfl (Nat.le_of_ble_eq_true rfl) ?_
  refine mj_Xeq (sF_id fun j => ?_).symm (hl 0 ⟨by omega, hn0⟩)
  rw [if_neg (by omega)]
theorem ct_isPoint {x y : Int} (hx : r32 x) (hy : r32 y) : mj_Cal G n_H_isPoint [mI x, mI y] A (fun r A' => r = some (mI (if 0 ≤ x ∧ x < 16 ∧ 0 ≤ y ∧ y < 12 then 1 else 0)) ∧ A' = A) mj_no := by
  refine mj_bodyK 0 0 [some (mI x), some (mI y)] rfl rfl rfl (by decide +kernel) (Nat.le_of_ble_eq_true rfl) (by simp) rfl ?_
  refine mx_R fun hR => ?_
  refine mx_iload_n 0 d_H_isPoint_0 rfl rfl ?_
  refine mx_if_lt 24 d_H_isPoint_1 rfl (by first | assumption | exact hR _ _ | exact r32_mk (by omega) (by omega)) (fun c_1 => ?_) (fun c_1 => ?_)
  · refine mx_iconst d_H_isPoint_24 ?_
    refine mx_zret d_H_isPoint_25 rfl (by first | exact Or.inl rfl | exact Or.inr rfl | omega) ?_
    first | exact ⟨by rw [if_pos (by omega)], rfl⟩ | exact ⟨by rw [if_neg (by omega)], rfl⟩
  · refine mx_iload_n 0 d_H_isPoint_4 rfl rfl ?_
    refine mx_bipush d_H_isPoint_5 (by decide) ?_
    refine mx_icmp_ge 24 d_H_isPoint_7 rfl (by first | assumption | exact hR _ _ | exact r32_mk (by omega) (by omega)) (by first | assumption | exact hR _ _ | exact r32_mk (by omega) (by omega)) (fun c_7 => ?_) (fun c_7 => ?_)
    · refine mx_iconst d_H_isPoint_24 ?_
      refine mx_zret d_H_isPoint_25 rfl (by first | exact Or.inl rfl | exact Or.inr rfl | omega) ?_
      first | exact ⟨by rw [if_pos (by omega)], rfl⟩ | exact ⟨by rw [if_neg (by omega)], rfl⟩
    · refine mx_iload_n 1 d_H_isPoint_10 rfl rfl ?_
      refine mx_if_lt 24 d_H_isPoint_11 rfl (by first | assumption | exact hR _ _ | exact r32_mk (by omega) (by omega)) (fun c_11 => ?_) (fun c_11 => ?_)
      · refine mx_iconst d_H_isPoint_24 ?_
        refine mx_zret d_H_isPoint_25 rfl (by first | exact Or.inl rfl | exact Or.inr rfl | omega) ?_
        first | exact ⟨by rw [if_pos (by omega)], rfl⟩ | exact ⟨by rw [if_neg (by omega)], rfl⟩
      · refine mx_iload_n 1 d_H_isPoint_14 rfl rfl ?_
        refine mx_bipush d_H_isPoint_15 (by decide) ?_
        refine mx_icmp_ge 24 d_H_isPoint_17 rfl (by first | assumption | exact hR _ _ | exact r32_mk (by omega) (by omega)) (by first | assumption | exact hR _ _ | exact r32_mk (by omega) (by omega)) (fun c_17 => ?_) (fun c_17 => ?_)
        · refine mx_iconst d_H_isPoint_24 ?_
          refine mx_zret d_H_isPoint_25 rfl (by first | exact Or.inl rfl | exact Or.inr rfl | omega) ?_
          first | exact ⟨by rw [if_pos (by omega)], rfl⟩ | exact ⟨by rw [if_neg (by omega)], rfl⟩
        · refine mx_iconst d_H_isPoint_20 ?_
          refine mx_goto 25 d_H_isPoint_21 rfl ?_
          refine mx_zret d_H_isPoint_25 rfl (by first | exact Or.inl rfl | exact Or.inr rfl | omega) ?_
          first | exact ⟨by rw [if_pos (by omega)], rfl⟩ | exact ⟨by rw [if_neg (by omega)], rfl⟩
theorem ct_placeOf {x y : Int} : mj_Cal G n_H_placeOf [mI x, mI y] A (fun r A' => r = some (mI (y * 16 + x)) ∧ A' = A) mj_no := by
  refine mj_bodyK 0 0 [some (mI x), some (mI y)] rfl rfl rfl (by decide +kernel) (Nat.le_of_ble_eq_true rfl) (by simp) rfl ?_
  refine mx_R fun hR => ?_
  refine mx_iload_n 1 d_H_placeOf_0 rfl rfl ?_
  refine mx_bipush d_H_placeOf_1 (by decide) ?_
  refine mx_imul d_H_placeOf_3 ?_
  refine mx_iload_n 0 d_H_placeOf_4 rfl rfl ?_
  refine mx_iadd d_H_placeOf_5 ?_
  refine mx_iret d_H_placeOf_6 rfl ?_
  exact ⟨rfl, rfl⟩
/-- from a to b, n of d -/
def mj_pw (a b n d : Int) : Int := if d = 0 then a else a + (n * (b - a)).tdiv d
theorem ct_partWay {a b n d : Int} (hd : r32 d) (hn : r32 (n * (b - a))) : mj_Cal G n_H_partWay [mI a, mI b, mI n, mI d] A (fun r A' => r = some (mI (mj_pw a b n d)) ∧ A' = A) mj_no := by
  refine mj_bodyK 0 0 [some (mI a), some (mI b), some (mI n), some (mI d)] rfl rfl rfl (by decide +kernel) (Nat.le_of_ble_eq_true rfl) (by simp) rfl ?_
  refine mx_R fun hR => ?_
  refine mx_iload_n 3 d_H_partWay_0 rfl rfl ?_
  refine mx_if_ne 8 d_H_partWay_1 rfl (by first | assumption | exact hR _ _ | exact r32_mk (by omega) (by omega)) (fun c_1 => ?_) (fun c_1 => ?_)
  · refine mx_iload_n 0 d_H_partWay_8 rfl rfl ?_
    refine mx_iload_n 2 d_H_partWay_9 rfl rfl ?_
    refine mx_iload_n 1 d_H_partWay_10 rfl rfl ?_
    refine mx_iload_n 0 d_H_partWay_11 rfl rfl ?_
    refine mx_isub d_H_partWay_12 ?_
    refine mx_imul d_H_partWay_13 ?_
    refine mx_iload_n 3 d_H_partWay_14 rfl rfl ?_
    refine mx_idiv d_H_partWay_15 (by first | assumption | exact hR _ _ | exact r32_mk (by omega) (by omega)) (by first | assumption | exact hR _ _ | exact r32_mk (by omega) (by omega)) (by assumption) ?_
    refine mx_iadd d_H_partWay_16 ?_
    refine mx_iret d_H_partWay_17 rfl ?_
    first | exact ⟨by unfold mj_pw; rw [if_pos (by assumption)], rfl⟩ | exact ⟨by unfold mj_pw; rw [if_neg (by assumption)], rfl⟩
  · refine mx_iload_n 0 d_H_partWay_4 rfl rfl ?_
    refine mx_goto 17 d_H_partWay_5 rfl ?_
    refine mx_iret d_H_partWay_17 rfl ?_
    first | exact ⟨by unfold mj_pw; rw [if_pos (by assumption)], rfl⟩ | exact ⟨by unfold mj_pw; rw [if_neg (by assumption)], rfl⟩
theorem ct_isKey {t : Int} (hs : gS A t = some (.inl 0)) : mj_Cal G n_D_isKey [mR (some t)] A (fun r A' => r = some (mI (if gP A t 0 = none then 1 else 0)) ∧ A' = A) mj_no := by
  refine mj_bodyK 0 0 [some (mR (some t))] rfl rfl rfl (by decide +kernel) (Nat.le_of_ble_eq_true rfl) (by simp) rfl ?_
  refine mx_R fun hR => ?_
  refine mx_aload_n 0 d_D_isKey_0 rfl rfl ?_
  refine mx_getP 0 d_D_isKey_1 f_D_9 rfl rfl (by assumption) ?_
  refine mx_ifnonnull 11 d_D_isKey_4 rfl (fun c_4 => ?_) (fun c_4 => ?_)
  · refine mx_iconst d_D_isKey_11 ?_
    refine mx_zret d_D_isKey_12 rfl (by first | exact Or.inl rfl | exact Or.inr rfl | omega) ?_
    first | exact ⟨by rw [if_pos (by assumption)], rfl⟩ | exact ⟨by rw [if_neg (by assumption)], rfl⟩
  · refine mx_iconst d_D_isKey_7 ?_
    refine mx_goto 12 d_D_isKey_8 rfl ?_
    refine mx_zret d_D_isKey_12 rfl (by first | exact Or.inl rfl | exact Or.inr rfl | omega) ?_
    first | exact ⟨by rw [if_pos (by assumption)], rfl⟩ | exact ⟨by rw [if_neg (by assumption)], rfl⟩
theorem ct_hangsOnNumber {t x : Int} (hs : gS A t = some (.inl 0)) (h0 : 0 ≤ x) (h1 : x < 31) : mj_Cal G n_D_hangsOnNumber [mR (some t), mI x] A (fun r A' => r = some (mI (if gI A t 4 / 2 ^ x.toNat % 2 = 1 then 1 else 0)) ∧ A' = A) mj_no := by
  refine mj_bodyK 0 0 [some (mR (some t)), some (mI x)] rfl rfl rfl (by decide +kernel) (Nat.le_of_ble_eq_true rfl) (by simp) rfl ?_
  refine mx_R fun hR => ?_
  refine mx_aload_n 0 d_D_hangsOnNumber_0 rfl rfl ?_
  refine mx_getI 4 d_D_hangsOnNumber_1 f_D_25 rfl rfl (by assumption) ?_
  refine mx_iload_n 1 d_D_hangsOnNumber_4 rfl rfl ?_
  refine mx_ishr d_D_hangsOnNumber_5 (hR _ _) h0 h1 ?_
  refine mx_iconst d_D_hangsOnNumber_6 ?_
  refine mx_iand1 d_D_hangsOnNumber_7  ?_
  refine mx_iconst d_D_hangsOnNumber_8 ?_
  refine mx_icmp_ne 16 d_D_hangsOnNumber_9 rfl (by first | assumption | exact hR _ _ | exact r32_mk (by omega) (by omega)) (by first | assumption | exact hR _ _ | exact r32_mk (by omega) (by omega)) (fun c_9 => ?_) (fun c_9 => ?_)
  · refine mx_iconst d_D_hangsOnNumber_16 ?_
    refine mx_zret d_D_hangsOnNumber_17 rfl (by first | exact Or.inl rfl | exact Or.inr rfl | omega) ?_
    first | exact ⟨by rw [if_pos (by assumption)], rfl⟩ | exact ⟨by rw [if_neg (by assumption)], rfl⟩
  · refine mx_iconst d_D_hangsOnNumber_12 ?_
    refine mx_goto 17 d_D_hangsOnNumber_13 rfl ?_
    refine mx_zret d_D_hangsOnNumber_17 rfl (by first | exact Or.inl rfl | exact Or.inr rfl | omega) ?_
    first | exact ⟨by rw [if_pos (by assumption)], rfl⟩ | exact ⟨by rw [if_neg (by assumption)], rfl⟩
/-- the first of n that is x, or -1 -/
theorem ct_placeOfStroke {t x n q : Int} {k : Int → Int} (hs : gS A t = some (.inl 0)) (hn : gI A t 6 = n) (hn8 : n ≤ 8) (hq : gP A t 5 = some q) (hsq : gS A q = some (.inr (6, 8))) (hk : ∀ i, 0 ≤ i → i < n → gP A q i = some (k i) ∧ gS A (k i) = some (.inl 5)) (hx : r32 x) : mj_Cal G n_D_placeOfStroke [mR (some t), mI x] A (fun r A' => A' = A ∧ ((∃ i, r = some (mI i) ∧ 0 ≤ i ∧ i < n ∧ gI A (k i) 0 = x ∧ ∀ j, 0 ≤ j → j < i → gI A (k j) 0 ≠ x) ∨ (r = some (mI (-1)) ∧ ∀ j, 0 ≤ j → j < n → gI A (k j) 0 ≠ x))) mj_no := by
  refine mj_bodyK 0 0 [some (mR (some t)), some (mI x), none] rfl rfl rfl (by decide +kernel) (Nat.le_of_ble_eq_true rfl) (by simp) rfl ?_
  have hl : ∀ i : Int, (0 ≤ i ∧ i ≤ 8 ∧ ∀ j, 0 ≤ j → j < i → gI A (k j) 0 ≠ x) → mj_X G n_D_placeOfStroke (mj_Qm G n_D_placeOfStroke (fun r A' => A' = A ∧ ((∃ i, r = some (mI i) ∧ 0 ≤ i ∧ i < n ∧ gI A (k i) 0 = x ∧ ∀ j, 0 ≤ j → j < i → gI A (k j) 0 ≠ x) ∨ (r = some (mI (-1)) ∧ ∀ j, 0 ≤ j → j < n → gI A (k j) 0 ≠ x))) mj_no) A 0 0 2 [some (mR (some t)), some (mI x), some (mI i)] [] := by
    refine mj_loop _ (fun i => (8 - i).toNat) _ ?_
    intro i hi ih
    refine mx_R fun hR => ?_
    refine mx_iload_n 2 d_D_placeOfStroke_2 rfl rfl ?_
    refine mx_aload_n 0 d_D_placeOfStroke_3 rfl rfl ?_
    refine mx_getI 6 d_D_placeOfStroke_4 f_D_49 rfl rfl (by assumption) ?_
    refine mx_icmp_ge 31 d_D_placeOfStroke_7 rfl (r32_mk (by omega) (by omega)) (hR _ _) (fun c_7 => ?_) (fun c_7 => ?_)
    · refine mx_iconst d_D_placeOfStroke_31 ?_
      refine mx_iret d_D_placeOfStroke_32 rfl ?_
      exact ⟨rfl, Or.inr ⟨rfl, fun j h0 h1 => hi.2.2 j h0 (by omega)⟩⟩
    · refine mx_aload_n 0 d_D_placeOfStroke_10 rfl rfl ?_
      refine mx_getPs 5 d_D_placeOfStroke_11 f_D_30 rfl rfl (by assumption) (by assumption) ?_
      refine mx_iload_n 2 d_D_placeOfStroke_14 rfl rfl ?_
      refine mx_aalds d_D_placeOfStroke_15 (by assumption) (by decide) (by omega) (by omega) ((hk i hi.1 (by omega)).1) ?_
      refine mx_getI 0 d_D_placeOfStroke_16 f_D_52 rfl rfl ((hk i hi.1 (by omega)).2) ?_
      refine mx_iload_n 1 d_D_placeOfStroke_19 rfl rfl ?_
      refine mx_icmp_ne 25 d_D_placeOfStroke_20 rfl (by first | assumption | exact hR _ _ | exact r32_mk (by omega) (by omega)) (by first | assumption | exact hR _ _ | exact r32_mk (by omega) (by omega)) (fun c_20 => ?_) (fun c_20 => ?_)
      · refine mx_iinc 2 d_D_placeOfStroke_25 rfl (Nat.le_of_ble_eq_true rfl) ?_
        refine mx_goto 2 d_D_placeOfStroke_28 rfl ?_
        refine ih (i + 1) ⟨by omega, by omega, fun j h0 h1 => ?_⟩ (by omega)
        by_cases e : j = i
        · rw [e]; exact c_20
        · exact hi.2.2 j h0 (by omega)
      · refine mx_iload_n 2 d_D_placeOfStroke_23 rfl rfl ?_
        refine mx_iret d_D_placeOfStroke_24 rfl ?_
        exact ⟨rfl, Or.inl ⟨i, rfl, hi.1, by omega, c_20, hi.2.2⟩⟩
  refine mx_R fun hR => ?_
  refine mx_iconst d_D_placeOfStroke_0 ?_
  refine mx_istore_n 2 d_D_placeOfStroke_1 rfl (Nat.le_of_ble_eq_true rfl) ?_
  exact hl 0 ⟨by omega, by omega, fun j h0 h1 => by omega⟩
end SMALL
