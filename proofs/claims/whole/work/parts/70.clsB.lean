/-! THE HOUSE, 11: places of pegs -/
section CLSB
variable {G : mj_G} {A : mj_M}
/-- the last told up to f -/
def tlp (b : Int → Int) (f e : Int) : Prop := (e = -1 ∧ ∀ k, 0 ≤ k → k ≤ f → b k = 0) ∨ ((0 ≤ e ∧ e ≤ f) ∧ b e ≠ 0 ∧ ∀ k, e < k → k ≤ f → b k = 0)
/-- the first told from f on -/
def tff (b : Int → Int) (f e : Int) : Prop := (e = -1 ∧ ∀ k, f ≤ k → k < 24 → b k = 0) ∨ ((f ≤ e ∧ e < 24) ∧ b e ≠ 0 ∧ ∀ k, f ≤ k → k < e → b k = 0)
theorem ct_lastTold {n p f : Int} (hP : PS A n) (hp : 0 ≤ p ∧ p < n) (hf : 0 ≤ f ∧ f < 24) : mj_Cal G n_P_lastToldUpTo [mR (some (6000 + 100 * p)), mI f] A (fun r A' => (∃ e, r = some (mI e) ∧ tlp (gI A (6000 + 100 * p + 1)) f e) ∧ A' = A) mj_no := by
  refine mj_bodyK 0 0 [some (mR (some (6000 + 100 * p))), some (mI f), none] rfl rfl rfl (by decide +kernel) (Nat.le_of_ble_eq_true rfl) (by simp) rfl ?_
  have hl : ∀ i : Int, ((-1 ≤ i ∧ i ≤ f) ∧ ∀ k, i < k → k ≤ f → (gI A (6000 + 100 * p + 1)) k = 0) → mj_X G n_P_lastToldUpTo (mj_Qm G n_P_lastToldUpTo (fun r A' => (∃ e, r = some (mI e) ∧ tlp (gI A (6000 + 100 * p + 1)) f e) ∧ A' = A) mj_no) A 0 0 2 [some (mR (some (6000 + 100 * p))), some (mI f), some (mI i)] [] := by
    refine mj_loop _ (fun i => (i + 1).toNat) _ ?_
    intro i ⟨hi, hk⟩ ih
    refine mx_R fun hR => ?_
    refine mx_iload_n 2 d_P_lastToldUpTo_2 rfl rfl ?_
    refine mx_if_lt 23 d_P_lastToldUpTo_3 rfl (by first | assumption | exact hR _ _ | exact r32_mk (by omega) (by omega)) (fun c_3 => ?_) (fun c_3 => ?_)
    · refine mx_iconst d_P_lastToldUpTo_23 ?_
      refine mx_iret d_P_lastToldUpTo_24 rfl ?_
      exact ⟨⟨-1, rfl, Or.inl ⟨rfl, fun k k0 k1 => hk k (by omega) k1⟩⟩, rfl⟩
    · refine mx_aload_n 0 d_P_lastToldUpTo_6 rfl rfl ?_
      refine mx_getPs 1 d_P_lastToldUpTo_7 f_P_15 rfl rfl (hP.o _ (by omega) (by omega)) (hP.p1 _ (by omega) (by omega)) ?_
      refine mx_iload_n 2 d_P_lastToldUpTo_10 rfl rfl ?_
      refine mx_zald d_P_lastToldUpTo_11 (hP.s1 _ (by omega) (by omega)) (by omega) (by omega) ?_
      refine mx_if_eq 17 d_P_lastToldUpTo_12 rfl (by first | assumption | exact hR _ _ | exact r32_mk (by omega) (by omega)) (fun c_12 => ?_) (fun c_12 => ?_)
      · refine mx_iinc 2 d_P_lastToldUpTo_17 rfl (Nat.le_of_ble_eq_true rfl) ?_
        refine mx_goto 2 d_P_lastToldUpTo_20 rfl ?_
        refine ih (i + -1) ⟨by omega, fun k k0 k1 => ?_⟩ (by omega)
        by_cases e : k = i
        · rw [e]; assumption
        · exact hk k (by omega) k1
      · refine mx_iload_n 2 d_P_lastToldUpTo_15 rfl rfl ?_
        refine mx_iret d_P_lastToldUpTo_16 rfl ?_
        exact ⟨⟨i, rfl, Or.inr ⟨by omega, by assumption, hk⟩⟩, rfl⟩
  refine mx_R fun hR => ?_
  refine mx_iload_n 1 d_P_lastToldUpTo_0 rfl rfl ?_
  refine mx_istore_n 2 d_P_lastToldUpTo_1 rfl (Nat.le_of_ble_eq_true rfl) ?_
  exact hl f ⟨by omega, fun k k0 k1 => by omega⟩
theorem ct_firstTold {n p f : Int} (hP : PS A n) (hp : 0 ≤ p ∧ p < n) (hf : 0 ≤ f ∧ f < 24) : mj_Cal G n_P_firstToldFrom [mR (some (6000 + 100 * p)), mI f] A (fun r A' => (∃ e, r = some (mI e) ∧ tff (gI A (6000 + 100 * p + 1)) f e) ∧ A' = A) mj_no := by
  refine mj_bodyK 0 0 [some (mR (some (6000 + 100 * p))), some (mI f), none] rfl rfl rfl (by decide +kernel) (Nat.le_of_ble_eq_true rfl) (by simp) rfl ?_
  have hl : ∀ i : Int, ((f ≤ i ∧ i ≤ 24) ∧ ∀ k, f ≤ k → k < i → (gI A (6000 + 100 * p + 1)) k = 0) → mj_X G n_P_firstToldFrom (mj_Qm G n_P_firstToldFrom (fun r A' => (∃ e, r = some (mI e) ∧ tff (gI A (6000 + 100 * p + 1)) f e) ∧ A' = A) mj_no) A 0 0 2 [some (mR (some (6000 + 100 * p))), some (mI f), some (mI i)] [] := by
    refine mj_loop _ (fun i => (24 - i).toNat) _ ?_
    intro i ⟨hi, hk⟩ ih
    refine mx_R fun hR => ?_
    refine mx_iload_n 2 d_P_firstToldFrom_2 rfl rfl ?_
    refine mx_bipush d_P_firstToldFrom_3 (by decide) ?_
    refine mx_icmp_ge 25 d_P_firstToldFrom_5 rfl (by first | assumption | exact hR _ _ | exact r32_mk (by omega) (by omega)) (by first | assumption | exact hR _ _ | exact r32_mk (by omega) (by omega)) (fun c_5 => ?_) (fun c_5 => ?_)
    · refine mx_iconst d_P_firstToldFrom_25 ?_
      refine mx_iret d_P_firstToldFrom_26 rfl ?_
      exact ⟨⟨-1, rfl, Or.inl ⟨rfl, fun k k0 k1 => hk k k0 (by omega)⟩⟩, rfl⟩
    · refine mx_aload_n 0 d_P_firstToldFrom_8 rfl rfl ?_
      refine mx_getPs 1 d_P_firstToldFrom_9 f_P_15 rfl rfl (hP.o _ (by omega) (by omega)) (hP.p1 _ (by omega) (by omega)) ?_
      refine mx_iload_n 2 d_P_firstToldFrom_12 rfl rfl ?_
      refine mx_zald d_P_firstToldFrom_13 (hP.s1 _ (by omega) (by omega)) (by omega) (by omega) ?_
      refine mx_if_eq 19 d_P_firstToldFrom_14 rfl (by first | assumption | exact hR _ _ | exact r32_mk (by omega) (by omega)) (fun c_14 => ?_) (fun c_14 => ?_)
      · refine mx_iinc 2 d_P_firstToldFrom_19 rfl (Nat.le_of_ble_eq_true rfl) ?_
        refine mx_goto 2 d_P_firstToldFrom_22 rfl ?_
        refine ih (i + 1) ⟨by omega, fun k k0 k1 => ?_⟩ (by omega)
        by_cases e : k = i
        · rw [e]; assumption
        · exact hk k k0 (by omega)
      · refine mx_iload_n 2 d_P_firstToldFrom_17 rfl rfl ?_
        refine mx_iret d_P_firstToldFrom_18 rfl ?_
        exact ⟨⟨i, rfl, Or.inr ⟨by omega, by assumption, hk⟩⟩, rfl⟩
  refine mx_R fun hR => ?_
  refine mx_iload_n 1 d_P_firstToldFrom_0 rfl rfl ?_
  refine mx_istore_n 2 d_P_firstToldFrom_1 rfl (Nat.le_of_ble_eq_true rfl) ?_
  exact hl f ⟨by omega, fun k k0 k1 => by omega⟩
/-- the place between two that were told -/
def ovh (X : Int → Int) (f e l : Int) : Int := if e = -1 ∧ l = -1 then 0 else if e = -1 then X l else if l = -1 then X e else mj_pw (X e) (X l) (f - e) (l - e)
theorem ct_ownPlaceAt {n p f q : Int} (hP : PS A n) (hp : 0 ≤ p ∧ p < n) (hf : 0 ≤ f ∧ f < 24) (hq : gS A q = some (.inr (0, 24))) (hx : ∀ k, 0 ≤ k → k < 24 → (gI A (6000 + 100 * p + 1)) k ≠ 0 → -20 ≤ gI A q k ∧ gI A q k ≤ 20) : mj_Cal G n_P_ownPlaceAt [mR (some (6000 + 100 * p)), mI f, mR (some q)] A (fun r A' => (∃ e l, r = some (mI (ovh (gI A q) f e l)) ∧ tlp (gI A (6000 + 100 * p + 1)) f e ∧ tff (gI A (6000 + 100 * p + 1)) f l) ∧ A' = A) mj_no := by
  refine mj_bodyK 0 0 [some (mR (some (6000 + 100 * p))), some (mI f), some (mR (some q)), none, none] rfl rfl rfl (by decide +kernel) (Nat.le_of_ble_eq_true rfl) (by simp) rfl ?_
  refine mx_R fun hR => ?_
  refine mx_aload_n 0 d_P_ownPlaceAt_0 rfl rfl ?_
  refine mx_iload_n 1 d_P_ownPlaceAt_1 rfl rfl ?_
  refine mx_callV (kc := 0) (ks := 0) (N := n_P_lastToldUpTo) (as := [_]) (ci := 2) d_P_ownPlaceAt_2 s_P_34 ⟨Nat.le_of_ble_eq_true rfl, Nat.le_of_ble_eq_true rfl⟩ rfl (mj_wt_8 (Nat.le_of_ble_eq_true rfl)) (hP.o _ (by omega) (by omega)) ⟨_, rfl, rfl⟩ (ct_lastTold hP hp hf) (fun r_2 A_2 h_2 => ?_) (fun E_2 A_x h_2 => ?_)
  rotate_left
  · exact h_2.elim
  obtain ⟨⟨e, rfl, he⟩, hA_2⟩ := h_2
  obtain rfl := hA_2.symm
  clear hA_2
  refine mx_R fun hR_1 => ?_
  refine mx_istore_n 3 d_P_ownPlaceAt_5 rfl (Nat.le_of_ble_eq_true rfl) ?_
  refine mx_aload_n 0 d_P_ownPlaceAt_6 rfl rfl ?_
  refine mx_iload_n 1 d_P_ownPlaceAt_7 rfl rfl ?_
  refine mx_callV (kc := 0) (ks := 0) (N := n_P_firstToldFrom) (as := [_]) (ci := 2) d_P_ownPlaceAt_8 s_P_38 ⟨Nat.le_of_ble_eq_true rfl, Nat.le_of_ble_eq_true rfl⟩ rfl (mj_wt_8 (Nat.le_of_ble_eq_true rfl)) (hP.o _ (by omega) (by omega)) ⟨_, rfl, rfl⟩ (ct_firstTold hP hp hf) (fun r_8 A_8 h_8 => ?_) (fun E_8 A_x h_8 => ?_)
  rotate_left
  · exact h_8.elim
  obtain ⟨⟨l, rfl, hl⟩, hA_8⟩ := h_8
  obtain rfl := hA_8.symm
  clear hA_8
  refine mx_R fun hR_2 => ?_
  refine mx_istore 4 d_P_ownPlaceAt_11 (Nat.le_of_ble_eq_true rfl) ?_
  have he1 : e = -1 ∨ ((0 ≤ e ∧ e ≤ f) ∧ -20 ≤ gI A q e ∧ gI A q e ≤ 20) := by
    rcases he with h | h
    · exact Or.inl h.1
    · exact Or.inr ⟨h.1, hx e h.1.1 (by omega) h.2.1⟩
  have hl1 : l = -1 ∨ ((f ≤ l ∧ l < 24) ∧ -20 ≤ gI A q l ∧ gI A q l ≤ 20) := by
    rcases hl with h | h
    · exact Or.inl h.1
    · exact Or.inr ⟨h.1, hx l (by omega) h.1.2 h.2.1⟩
  refine mx_iload_n 3 d_P_ownPlaceAt_13 rfl rfl ?_
  refine mx_iconst d_P_ownPlaceAt_14 ?_
  refine mx_icmp_ne 26 d_P_ownPlaceAt_15 rfl (by first | assumption | exact hR_2 _ _ | exact hR_1 _ _ | exact hR _ _ | exact r32_mk (by omega) (by omega)) (by first | assumption | exact hR_2 _ _ | exact hR_1 _ _ | exact hR _ _ | exact r32_mk (by omega) (by omega)) (fun c_15 => ?_) (fun c_15 => ?_)
  · refine mx_iload_n 3 d_P_ownPlaceAt_26 rfl rfl ?_
    refine mx_iconst d_P_ownPlaceAt_27 ?_
    refine mx_icmp_ne 36 d_P_ownPlaceAt_28 rfl (by first | assumption | exact hR_2 _ _ | exact hR_1 _ _ | exact hR _ _ | exact r32_mk (by omega) (by omega)) (by first | assumption | exact hR_2 _ _ | exact hR_1 _ _ | exact hR _ _ | exact r32_mk (by omega) (by omega)) (fun c_28 => ?_) (fun c_28 => ?_)
    · refine mx_iload 4 d_P_ownPlaceAt_36 rfl ?_
      refine mx_iconst d_P_ownPlaceAt_38 ?_
      refine mx_icmp_ne 46 d_P_ownPlaceAt_39 rfl (by first | assumption | exact hR_2 _ _ | exact hR_1 _ _ | exact hR _ _ | exact r32_mk (by omega) (by omega)) (by first | assumption | exact hR_2 _ _ | exact hR_1 _ _ | exact hR _ _ | exact r32_mk (by omega) (by omega)) (fun c_39 => ?_) (fun c_39 => ?_)
      · refine mx_aload_n 2 d_P_ownPlaceAt_46 rfl rfl ?_
        refine mx_iload_n 3 d_P_ownPlaceAt_47 rfl rfl ?_
        refine mx_iald d_P_ownPlaceAt_48 (hq) (by omega) (by omega) ?_
        refine mx_aload_n 2 d_P_ownPlaceAt_49 rfl rfl ?_
        refine mx_iload 4 d_P_ownPlaceAt_50 rfl ?_
        refine mx_iald d_P_ownPlaceAt_52 (hq) (by omega) (by omega) ?_
        refine mx_iload_n 1 d_P_ownPlaceAt_53 rfl rfl ?_
        refine mx_iload_n 3 d_P_ownPlaceAt_54 rfl rfl ?_
        refine mx_isub d_P_ownPlaceAt_55 ?_
        refine mx_iload 4 d_P_ownPlaceAt_56 rfl ?_
        refine mx_iload_n 3 d_P_ownPlaceAt_58 rfl rfl ?_
        refine mx_isub d_P_ownPlaceAt_59 ?_
        refine mx_callSN (kc := 0) (ks := 0) (N := n_H_partWay) (as := [_, _, _, _]) d_P_ownPlaceAt_60 s_P_41 ⟨Nat.le_of_ble_eq_true rfl, Nat.le_of_ble_eq_true rfl⟩ rfl (mj_wt_8 (Nat.le_of_ble_eq_true rfl)) (ct_partWay (r32_mk (by omega) (by omega)) (by have h9 := mo_mulr (a := f - e) (b := gI A q l - gI A q e) (by omega) (by omega); exact r32_mk (by omega) (by omega))) (fun r_60 A_60 h_60 => ?_)
        obtain ⟨rfl, hA_60⟩ := h_60
        obtain rfl := hA_60.symm
        clear hA_60
        refine mx_R fun hR_3 => ?_
        refine mx_iret d_P_ownPlaceAt_63 rfl ?_
        exact ⟨⟨e, l, by unfold ovh; rw [if_neg (by omega), if_neg (by omega), if_neg (by omega)], he, hl⟩, rfl⟩
      · refine mx_aload_n 2 d_P_ownPlaceAt_42 rfl rfl ?_
        refine mx_iload_n 3 d_P_ownPlaceAt_43 rfl rfl ?_
        refine mx_iald d_P_ownPlaceAt_44 (hq) (by omega) (by omega) ?_
        refine mx_iret d_P_ownPlaceAt_45 rfl ?_
        exact ⟨⟨e, l, by unfold ovh; rw [if_neg (by omega), if_neg (by omega), if_pos (by omega)], he, hl⟩, rfl⟩
    · refine mx_aload_n 2 d_P_ownPlaceAt_31 rfl rfl ?_
      refine mx_iload 4 d_P_ownPlaceAt_32 rfl ?_
      refine mx_iald d_P_ownPlaceAt_34 (hq) (by omega) (by omega) ?_
      refine mx_iret d_P_ownPlaceAt_35 rfl ?_
      exact ⟨⟨e, l, by unfold ovh; rw [if_neg (by omega), if_pos (by omega)], he, hl⟩, rfl⟩
  · refine mx_iload 4 d_P_ownPlaceAt_18 rfl ?_
    refine mx_iconst d_P_ownPlaceAt_20 ?_
    refine mx_icmp_ne 26 d_P_ownPlaceAt_21 rfl (by first | assumption | exact hR_2 _ _ | exact hR_1 _ _ | exact hR _ _ | exact r32_mk (by omega) (by omega)) (by first | assumption | exact hR_2 _ _ | exact hR_1 _ _ | exact hR _ _ | exact r32_mk (by omega) (by omega)) (fun c_21 => ?_) (fun c_21 => ?_)
    · refine mx_iload_n 3 d_P_ownPlaceAt_26 rfl rfl ?_
      refine mx_iconst d_P_ownPlaceAt_27 ?_
      refine mx_icmp_ne 36 d_P_ownPlaceAt_28 rfl (by first | assumption | exact hR_2 _ _ | exact hR_1 _ _ | exact hR _ _ | exact r32_mk (by omega) (by omega)) (by first | assumption | exact hR_2 _ _ | exact hR_1 _ _ | exact hR _ _ | exact r32_mk (by omega) (by omega)) (fun c_28 => ?_) (fun c_28 => ?_)
      · refine mx_iload 4 d_P_ownPlaceAt_36 rfl ?_
        refine mx_iconst d_P_ownPlaceAt_38 ?_
        refine mx_icmp_ne 46 d_P_ownPlaceAt_39 rfl (by first | assumption | exact hR_2 _ _ | exact hR_1 _ _ | exact hR _ _ | exact r32_mk (by omega) (by omega)) (by first | assumption | exact hR_2 _ _ | exact hR_1 _ _ | exact hR _ _ | exact r32_mk (by omega) (by omega)) (fun c_39 => ?_) (fun c_39 => ?_)
        · refine mx_aload_n 2 d_P_ownPlaceAt_46 rfl rfl ?_
          refine mx_iload_n 3 d_P_ownPlaceAt_47 rfl rfl ?_
          refine mx_iald d_P_ownPlaceAt_48 (hq) (by omega) (by omega) ?_
          refine mx_aload_n 2 d_P_ownPlaceAt_49 rfl rfl ?_
          refine mx_iload 4 d_P_ownPlaceAt_50 rfl ?_
          refine mx_iald d_P_ownPlaceAt_52 (hq) (by omega) (by omega) ?_
          refine mx_iload_n 1 d_P_ownPlaceAt_53 rfl rfl ?_
          refine mx_iload_n 3 d_P_ownPlaceAt_54 rfl rfl ?_
          refine mx_isub d_P_ownPlaceAt_55 ?_
          refine mx_iload 4 d_P_ownPlaceAt_56 rfl ?_
          refine mx_iload_n 3 d_P_ownPlaceAt_58 rfl rfl ?_
          refine mx_isub d_P_ownPlaceAt_59 ?_
          refine mx_callSN (kc := 0) (ks := 0) (N := n_H_partWay) (as := [_, _, _, _]) d_P_ownPlaceAt_60 s_P_41 ⟨Nat.le_of_ble_eq_true rfl, Nat.le_of_ble_eq_true rfl⟩ rfl (mj_wt_8 (Nat.le_of_ble_eq_true rfl)) (ct_partWay (r32_mk (by omega) (by omega)) (by have h9 := mo_mulr (a := f - e) (b := gI A q l - gI A q e) (by omega) (by omega); exact r32_mk (by omega) (by omega))) (fun r_60 A_60 h_60 => ?_)
          obtain ⟨rfl, hA_60⟩ := h_60
          obtain rfl := hA_60.symm
          clear hA_60
          refine mx_R fun hR_4 => ?_
          refine mx_iret d_P_ownPlaceAt_63 rfl ?_
          exact ⟨⟨e, l, by unfold ovh; rw [if_neg (by omega), if_neg (by omega), if_neg (by omega)], he, hl⟩, rfl⟩
        · refine mx_aload_n 2 d_P_ownPlaceAt_42 rfl rfl ?_
          refine mx_iload_n 3 d_P_ownPlaceAt_43 rfl rfl ?_
          refine mx_iald d_P_ownPlaceAt_44 (hq) (by omega) (by omega) ?_
          refine mx_iret d_P_ownPlaceAt_45 rfl ?_
          exact ⟨⟨e, l, by unfold ovh; rw [if_neg (by omega), if_neg (by omega), if_pos (by omega)], he, hl⟩, rfl⟩
      · refine mx_aload_n 2 d_P_ownPlaceAt_31 rfl rfl ?_
        refine mx_iload 4 d_P_ownPlaceAt_32 rfl ?_
        refine mx_iald d_P_ownPlaceAt_34 (hq) (by omega) (by omega) ?_
        refine mx_iret d_P_ownPlaceAt_35 rfl ?_
        exact ⟨⟨e, l, by unfold ovh; rw [if_neg (by omega), if_pos (by omega)], he, hl⟩, rfl⟩
    · refine mx_iconst d_P_ownPlaceAt_24 ?_
      refine mx_iret d_P_ownPlaceAt_25 rfl ?_
      exact ⟨⟨e, l, by unfold ovh; rw [if_pos (by omega)], he, hl⟩, rfl⟩
/-- the pegs of the house and of the reference are alike -/
def PK (A : mj_M) : Prop := (gI A 100 9 = gI A 200 32) ∧ (PS A (gI A 200 32)) ∧ (∀ p, 0 ≤ p → p < gI A 200 32 → gP A 109 p = some (6000 + 100 * p)) ∧ (∀ p, 0 ≤ p → p < gI A 200 32 → gP A (6000 + 100 * p) 0 = pp (gI A 233 p)) ∧ (∀ p, 0 ≤ p → p < gI A 200 32 → gI A (6000 + 100 * p) 4 = gI A 234 p) ∧ (∀ p, 0 ≤ p → p < gI A 200 32 → ∀ k, 0 ≤ k → k < gI A 234 p → gI A (6000 + 100 * p + 1) (gI A 235 (6 * p + k)) = 1 ∧ gI A (6000 + 100 * p + 2) (gI A 235 (6 * p + k)) = gI A 236 (6 * p + k) ∧ gI A (6000 + 100 * p + 3) (gI A 235 (6 * p + k)) = gI A 237 (6 * p + k)) ∧ (∀ p, 0 ≤ p → p < gI A 200 32 → ∀ f, 0 ≤ f → f < 24 → gI A (6000 + 100 * p + 1) f = 0 ∨ (gI A (6000 + 100 * p + 1) f = 1 ∧ ∃ k, 0 ≤ k ∧ k < gI A 234 p ∧ gI A 235 (6 * p + k) = f)) ∧ (∀ p, 0 ≤ p → p < gI A 200 32 → ∀ i j, 0 ≤ i → i < gI A 234 p → 0 ≤ j → j < gI A 234 p → gI A 235 (6 * p + i) = gI A 235 (6 * p + j) → i = j) ∧ (∀ p, gI A 200 32 ≤ p → p < 6 → (∀ j, 0 ≤ j → j ≤ 3 → gS A (6000 + 100 * p + j) = none) ∧ gI A 234 p = 0)
theorem PK.np {A : mj_M} (h : PK A) : gI A 100 9 = gI A 200 32 := h.1
theorem PK.S {A : mj_M} (h : PK A) : PS A (gI A 200 32) := h.2.1
theorem PK.r {A : mj_M} (h : PK A) : ∀ p, 0 ≤ p → p < gI A 200 32 → gP A 109 p = some (6000 + 100 * p) := h.2.2.1
theorem PK.c {A : mj_M} (h : PK A) : ∀ p, 0 ≤ p → p < gI A 200 32 → gP A (6000 + 100 * p) 0 = pp (gI A 233 p) := h.2.2.2.1
theorem PK.n {A : mj_M} (h : PK A) : ∀ p, 0 ≤ p → p < gI A 200 32 → gI A (6000 + 100 * p) 4 = gI A 234 p := h.2.2.2.2.1
theorem PK.t {A : mj_M} (h : PK A) : ∀ p, 0 ≤ p → p < gI A 200 32 → ∀ k, 0 ≤ k → k < gI A 234 p → gI A (6000 + 100 * p + 1) (gI A 235 (6 * p + k)) = 1 ∧ gI A (6000 + 100 * p + 2) (gI A 235 (6 * p + k)) = gI A 236 (6 * p + k) ∧ gI A (6000 + 100 * p + 3) (gI A 235 (6 * p + k)) = gI A 237 (6 * p + k) := h.2.2.2.2.2.1
theorem PK.b {A : mj_M} (h : PK A) : ∀ p, 0 ≤ p → p < gI A 200 32 → ∀ f, 0 ≤ f → f < 24 → gI A (6000 + 100 * p + 1) f = 0 ∨ (gI A (6000 + 100 * p + 1) f = 1 ∧ ∃ k, 0 ≤ k ∧ k < gI A 234 p ∧ gI A 235 (6 * p + k) = f) := h.2.2.2.2.2.2.1
theorem PK.d {A : mj_M} (h : PK A) : ∀ p, 0 ≤ p → p < gI A 200 32 → ∀ i j, 0 ≤ i → i < gI A 234 p → 0 ≤ j → j < gI A 234 p → gI A 235 (6 * p + i) = gI A 235 (6 * p + j) → i = j := h.2.2.2.2.2.2.2.1
theorem PK.f {A : mj_M} (h : PK A) : ∀ p, gI A 200 32 ≤ p → p < 6 → (∀ j, 0 ≤ j → j ≤ 3 → gS A (6000 + 100 * p + j) = none) ∧ gI A 234 p = 0 := h.2.2.2.2.2.2.2.2
theorem mo_ah_s {t : Int → Int} {p f : Int} (hp : 0 ≤ p) : ∀ n : Nat, (mo_ah t p f n = -1 ∧ ∀ k : Int, 0 ≤ k → k < n → f < t (6 * p + k)) ∨ ((∃ k : Int, 0 ≤ k ∧ k < n ∧ mo_ah t p f n = 6 * p + k) ∧ t (mo_ah t p f n) ≤ f ∧ ∀ k : Int, 0 ≤ k → k < n → t (6 * p + k) ≤ f → t (6 * p + k) ≤ t (mo_ah t p f n))
  | 0 => Or.inl ⟨rfl, fun k k0 k1 => by omega⟩
  | n + 1 => by
    have h := mo_ah_s (t := t) (f := f) hp n
    rw [mo_ah]
    by_cases hc : t (6 * p + n) ≤ f ∧ (mo_ah t p f n = -1 ∨ t (6 * p + n) > t (mo_ah t p f n))
    · rw [if_pos hc]
      refine Or.inr ⟨⟨n, by omega, by omega, rfl⟩, hc.1, fun k k0 k1 k2 => ?_⟩
      by_cases e : k = n
      · rw [e]; omega
      · rcases h with h | h
        · have := h.2 k k0 (by omega); omega
        · have := h.2.2 k k0 (by omega) k2
          obtain ⟨j, j0, j1, j2⟩ := h.1
          omega
    · rw [if_neg hc]
      rcases h with h | h
      · refine Or.inl ⟨h.1, fun k k0 k1 => ?_⟩
        by_cases e : k = n
        · rw [e]; have := h.1; omega
        · exact h.2 k k0 (by omega)
      · obtain ⟨j, j0, j1, j2⟩ := h.1
        refine Or.inr ⟨⟨j, j0, by omega, j2⟩, h.2.1, fun k k0 k1 k2 => ?_⟩
        by_cases e : k = n
        · rw [e] at k2 ⊢; omega
        · exact h.2.2 k k0 (by omega) k2
theorem mo_be_s {t : Int → Int} {p f : Int} (hp : 0 ≤ p) : ∀ n : Nat, (mo_be t p f n = -1 ∧ ∀ k : Int, 0 ≤ k → k < n → t (6 * p + k) < f) ∨ ((∃ k : Int, 0 ≤ k ∧ k < n ∧ mo_be t p f n = 6 * p + k) ∧ f ≤ t (mo_be t p f n) ∧ ∀ k : Int, 0 ≤ k → k < n → f ≤ t (6 * p + k) → t (mo_be t p f n) ≤ t (6 * p + k))
  | 0 => Or.inl ⟨rfl, fun k k0 k1 => by omega⟩
  | n + 1 => by
    have h := mo_be_s (t := t) (f := f) hp n
    rw [mo_be]
    by_cases hc : t (6 * p + n) ≥ f ∧ (mo_be t p f n = -1 ∨ t (6 * p + n) < t (mo_be t p f n))
    · rw [if_pos hc]
      refine Or.inr ⟨⟨n, by omega, by omega, rfl⟩, hc.1, fun k k0 k1 k2 => ?_⟩
      by_cases e : k = n
      · rw [e]; omega
      · rcases h with h | h
        · have := h.2 k k0 (by omega); omega
        · have := h.2.2 k k0 (by omega) k2
          obtain ⟨j, j0, j1, j2⟩ := h.1
          omega
    · rw [if_neg hc]
      rcases h with h | h
      · refine Or.inl ⟨h.1, fun k k0 k1 => ?_⟩
        by_cases e : k = n
        · rw [e]; have := h.1; omega
        · exact h.2 k k0 (by omega)
      · obtain ⟨j, j0, j1, j2⟩ := h.1
        refine Or.inr ⟨⟨j, j0, by omega, j2⟩, h.2.1, fun k k0 k1 k2 => ?_⟩
        by_cases e : k = n
        · rw [e] at k2 ⊢; omega
        · exact h.2.2 k k0 (by omega) k2
/-- both ways to the place of a peg -/
theorem ov_eq {b t x X : Int → Int} {p f e l N : Int} (hp : 0 ≤ p) (hN : 0 ≤ N) (hf : 0 ≤ f ∧ f < 24) (ht : ∀ k, 0 ≤ t k ∧ t k ≤ 23) (h1 : ∀ k, 0 ≤ k → k < N → b (t (6 * p + k)) = 1 ∧ X (t (6 * p + k)) = x (6 * p + k)) (h2 : ∀ f, 0 ≤ f → f < 24 → b f = 0 ∨ (b f = 1 ∧ ∃ k, 0 ≤ k ∧ k < N ∧ t (6 * p + k) = f)) (he : tlp b f e) (hl : tff b f l) : ovh X f e l = mo_ow N t x p f := by
  have ha := mo_ah_s (t := t) (p := p) (f := f) hp N.toNat
  have hb := mo_be_s (t := t) (p := p) (f := f) hp N.toNat
  have ha' : (e = -1 ∧ mo_ah t p f N.toNat = -1) ∨ (e ≠ -1 ∧ mo_ah t p f N.toNat ≠ -1 ∧ t (mo_ah t p f N.toNat) = e ∧ x (mo_ah t p f N.toNat) = X e) := by
    rcases ha with ⟨a1, a2⟩ | ⟨⟨k, k0, k1, k2⟩, a2, a3⟩
    · rcases he with ⟨e1, e2⟩ | ⟨e1, e2, e3⟩
      · exact Or.inl ⟨e1, a1⟩
      · exfalso
        rcases h2 e e1.1 (by omega) with q | ⟨q, k, k0, k1, k2⟩
        · exact e2 q
        · have := a2 k k0 (by omega); omega
    · have hk := h1 k k0 (by omega)
      rw [k2] at a2 a3 ⊢
      have htk := ht (6 * p + k)
      rcases he with ⟨e1, e2⟩ | ⟨e1, e2, e3⟩
      · exfalso
        have := e2 (t (6 * p + k)) htk.1 a2
        omega
      · have hek : t (6 * p + k) = e := by
          rcases h2 e e1.1 (by omega) with q | ⟨q, j, j0, j1, j2⟩
          · exact absurd q e2
          · have h3 := a3 j j0 (by omega) (by omega)
            by_cases h4 : e < t (6 * p + k)
            · have := e3 _ h4 a2; omega
            · omega
        refine Or.inr ⟨by omega, by omega, hek, ?_⟩
        rw [← hek]; exact hk.2.symm
  have hb' : (l = -1 ∧ mo_be t p f N.toNat = -1) ∨ (l ≠ -1 ∧ mo_be t p f N.toNat ≠ -1 ∧ t (mo_be t p f N.toNat) = l ∧ x (mo_be t p f N.toNat) = X l) := by
    rcases hb with ⟨a1, a2⟩ | ⟨⟨k, k0, k1, k2⟩, a2, a3⟩
    · rcases hl with ⟨e1, e2⟩ | ⟨e1, e2, e3⟩
      · exact Or.inl ⟨e1, a1⟩
      · exfalso
        rcases h2 l (by omega) e1.2 with q | ⟨q, k, k0, k1, k2⟩
        · exact e2 q
        · have := a2 k k0 (by omega); omega
    · have hk := h1 k k0 (by omega)
      rw [k2] at a2 a3 ⊢
      have htk := ht (6 * p + k)
      rcases hl with ⟨e1, e2⟩ | ⟨e1, e2, e3⟩
      · exfalso
        have := e2 (t (6 * p + k)) a2 (by omega)
        omega
      · have hek : t (6 * p + k) = l := by
          rcases h2 l (by omega) e1.2 with q | ⟨q, j, j0, j1, j2⟩
          · exact absurd q e2
          · have h3 := a3 j j0 (by omega) (by omega)
            by_cases h4 : t (6 * p + k) < l
            · have := e3 _ a2 h4; omega
            · omega
        refine Or.inr ⟨by omega, by omega, hek, ?_⟩
        rw [← hek]; exact hk.2.symm
  unfold ovh mo_ow mo_ov mj_pw
  generalize mo_ah t p f N.toNat = a at ha' ⊢
  generalize mo_be t p f N.toNat = c at hb' ⊢
  rcases ha' with ⟨q1, q2⟩ | ⟨q1, q2, q3, q4⟩
  · rcases hb' with ⟨r1, r2⟩ | ⟨r1, r2, r3, r4⟩
    · rw [if_pos ⟨q1, r1⟩, if_pos ⟨q2, r2⟩]
    · rw [if_neg (fun h => r1 h.2), if_pos q1, if_neg (fun h => r2 h.2), if_pos q2, if_neg r2, if_pos (by omega), r4]
  · rcases hb' with ⟨r1, r2⟩ | ⟨r1, r2, r3, r4⟩
    · rw [if_neg (fun h => q1 h.1), if_neg q1, if_pos r1, if_neg (fun h => q2 h.1), if_neg q2, if_pos r2, if_pos (by omega), q4]
    · rw [if_neg (show ¬ (e = -1 ∧ l = -1) from fun h => q1 h.1), if_neg q1, if_neg r1, if_neg (show ¬ (a = -1 ∧ c = -1) from fun h => q2 h.1), if_neg q2, if_neg r2, q3, q4, r3, r4]
theorem pp_0 {a : Int} (h : pp a = none) : a = -1 := by
  by_cases e : a = -1
  · exact e
  · rw [show pp a = some (6000 + 100 * a) from if_neg e] at h; cases h
theorem pp_1 {a : Int} (h : pp a ≠ none) : a ≠ -1 := fun e => h (if_pos e)
theorem pp_s {a : Int} (h : a ≠ -1) : pp a = some (6000 + 100 * a) := if_neg h
theorem ct_own2 {p f z q : Int} (hk : PK A) (hg : mo_pg A) (hp : 0 ≤ p ∧ p < gI A 200 32) (hf : 0 ≤ f ∧ f < 24) (hz : (z ≠ 0 ∧ q = 6000 + 100 * p + 2) ∨ (z = 0 ∧ q = 6000 + 100 * p + 3)) : mj_Cal G n_P_ownPlaceAt [mR (some (6000 + 100 * p)), mI f, mR (some q)] A (fun r A' => r = some (mI (mo_ow (gI A 234 p) (gI A 235) (gI A (mo_xr z)) p f)) ∧ A' = A) mj_no := by
  have hP := hk.S
  have htn := hg.tn p hp.1 hp.2
  have hb := hk.b p hp.1 hp.2
  have ht := hk.t p hp.1 hp.2
  have hX : ∀ k, 0 ≤ k → k < gI A 234 p → gI A q (gI A 235 (6 * p + k)) = gI A (mo_xr z) (6 * p + k) := fun k k0 k1 => by
    have h := ht k k0 k1
    rcases hz with ⟨z1, z2⟩ | ⟨z1, z2⟩
    · rw [z2, show mo_xr z = 236 from if_neg z1]; exact h.2.1
    · rw [z2, show mo_xr z = 237 from if_pos z1]; exact h.2.2
  have hXr : ∀ k, -20 ≤ gI A (mo_xr z) k ∧ gI A (mo_xr z) k ≤ 20 := fun k => by
    unfold mo_xr
    split
    · exact hg.ty k
    · exact hg.tx k
  refine (ct_ownPlaceAt hP hp hf (q := q) ?_ (fun k k0 k1 k2 => ?_)).mono (fun r A' h => ?_) (fun _ _ h => h)
  · rcases hz with ⟨z1, z2⟩ | ⟨z1, z2⟩
    · rw [z2]; exact hP.s2 p hp.1 hp.2
    · rw [z2]; exact hP.s3 p hp.1 hp.2
  · rcases hb k k0 k1 with h | ⟨h, j, j0, j1, j2⟩
    · exact absurd h k2
    · rw [← j2, hX j j0 j1]; exact hXr _
  · obtain ⟨⟨e, l, h1, h2, h3⟩, h4⟩ := h
    refine ⟨?_, h4⟩
    rw [h1, ov_eq (x := gI A (mo_xr z)) hp.1 htn.1 hf hg.ta (fun k k0 k1 => ⟨(ht k k0 k1).1, hX k k0 k1⟩) hb h2 h3]
theorem ct_placeAt {p f z : Int} (hk : PK A) (hg : mo_pg A) (hp : 0 ≤ p ∧ p < gI A 200 32) (hf : 0 ≤ f ∧ f < 24) (hz : z = 0 ∨ z = 1) : mj_Cal G n_P_placeAt [mR (some (6000 + 100 * p)), mI f, mI z] A (fun r A' => r = some (mI (mo_po A p f z)) ∧ A' = A) mj_no := by
  refine mj_bodyK 0 0 [some (mR (some (6000 + 100 * p))), some (mI f), some (mI z), none, none] rfl rfl rfl (by decide +kernel) (Nat.le_of_ble_eq_true rfl) (by simp) rfl ?_
  have hn := hg.np
  have hP := hk.S
  have hv : mo_po A p f z = mo_pl (gI A 233) (fun q => mo_ow (gI A 234 q) (gI A 235) (gI A (mo_xr z)) q f) 6 p := by
    unfold mo_po
    rw [if_neg (by omega)]
  have hl : ∀ q : Nat × Int × Int, (-1 ≤ q.2.1 ∧ q.2.1 < gI A 200 32 ∧ q.2.1 < (q.1 : Int) ∧ q.2.2 + mo_pl (gI A 233) (fun q => mo_ow (gI A 234 q) (gI A 235) (gI A (mo_xr z)) q f) q.1 q.2.1 = mo_po A p f z) → mj_X G n_P_placeAt (mj_Qm G n_P_placeAt (fun r A' => r = some (mI (mo_po A p f z)) ∧ A' = A) mj_no) A 0 0 5 [some (mR (some (6000 + 100 * p))), some (mI f), some (mI z), some (mI q.2.2), some (mR (pp q.2.1))] [] := by
    refine mj_loop _ (fun q => q.1) _ ?_
    intro ⟨n, k, v⟩ ⟨h1, h2, h3, h4⟩ ih
    replace h1 : -1 ≤ k := h1
    replace h2 : k < gI A 200 32 := h2
    replace h3 : k < (n : Int) := h3
    replace h4 : v + mo_pl (gI A 233) (fun q => mo_ow (gI A 234 q) (gI A 235) (gI A (mo_xr z)) q f) n k = mo_po A p f z := h4
    show mj_X G n_P_placeAt _ A 0 0 5 [some (mR (some (6000 + 100 * p))), some (mI f), some (mI z), some (mI v), some (mR (pp k))] []
    refine mx_R fun hR => ?_
    refine mx_aload 4 d_P_placeAt_5 rfl ?_
    refine mx_ifnull 46 d_P_placeAt_7 rfl (fun c_7 => ?_) (fun c_7 => ?_)
    · refine mx_iload_n 3 d_P_placeAt_46 rfl rfl ?_
      refine mx_iret d_P_placeAt_47 rfl ?_
      have hk1 := pp_0 c_7
      refine ⟨?_, rfl⟩
      rw [← h4]
      cases n with
      | zero => show some (mI v) = some (mI (v + 0)); rw [Int.add_zero]
      | succ n => rw [mo_pl, if_pos hk1, Int.add_zero]
    · have hk1 := pp_1 c_7
      rw [pp_s hk1]
      have hko := hP.o k (by omega) h2
      have hca := hg.ca k (by omega) h2
      refine mx_iload_n 3 d_P_placeAt_10 rfl rfl ?_
      refine mx_aload 4 d_P_placeAt_11 rfl ?_
      refine mx_iload_n 1 d_P_placeAt_13 rfl rfl ?_
      refine mx_iload_n 2 d_P_placeAt_14 rfl rfl ?_
      refine mx_if_eq 26 d_P_placeAt_15 rfl (by first | assumption | exact hR _ _ | exact r32_mk (by omega) (by omega)) (fun c_15 => ?_) (fun c_15 => ?_)
      · refine mx_aload 4 d_P_placeAt_26 rfl ?_
        refine mx_getPs 3 d_P_placeAt_28 f_P_23 rfl rfl (hko) (hP.p3 k (by omega) h2) ?_
        refine mx_callV (kc := 0) (ks := 0) (N := n_P_ownPlaceAt) (as := [_, _]) (ci := 2) d_P_placeAt_31 s_P_30 ⟨Nat.le_of_ble_eq_true rfl, Nat.le_of_ble_eq_true rfl⟩ rfl (mj_wt_8 (Nat.le_of_ble_eq_true rfl)) (hko) ⟨_, rfl, rfl⟩ (ct_own2 (z := z) hk hg ⟨by omega, h2⟩ hf (by first | exact Or.inl ⟨by assumption, rfl⟩ | exact Or.inr ⟨by assumption, rfl⟩)) (fun r_31 A_31 h_31 => ?_) (fun E_31 A_x h_31 => ?_)
        rotate_left
        · exact h_31.elim
        obtain ⟨rfl, hA_31⟩ := h_31
        obtain rfl := hA_31.symm
        clear hA_31
        refine mx_R fun hR_1 => ?_
        refine mx_iadd d_P_placeAt_34 ?_
        refine mx_istore_n 3 d_P_placeAt_35 rfl (Nat.le_of_ble_eq_true rfl) ?_
        refine mx_aload 4 d_P_placeAt_36 rfl ?_
        refine mx_getP 0 d_P_placeAt_38 f_P_9 rfl rfl (hko) ?_
        rw [hk.c k (by omega) h2]
        refine mx_astore 4 d_P_placeAt_41 (Nat.le_of_ble_eq_true rfl) ?_
        refine mx_goto 5 d_P_placeAt_43 rfl ?_
        obtain ⟨m, rfl⟩ : ∃ m, n = m + 1 := ⟨n - 1, by omega⟩
        refine ih (m, gI A 233 k, v + mo_ow (gI A 234 k) (gI A 235) (gI A (mo_xr z)) k f) ⟨hca.1, by show gI A 233 k < _; omega, by show gI A 233 k < (m : Int); omega, ?_⟩ (by show m < m + 1; omega)
        show v + mo_ow (gI A 234 k) (gI A 235) (gI A (mo_xr z)) k f + mo_pl _ _ m (gI A 233 k) = _
        rw [mo_pl, if_neg hk1] at h4
        rw [Int.add_assoc]
        exact h4
      · refine mx_aload 4 d_P_placeAt_18 rfl ?_
        refine mx_getPs 2 d_P_placeAt_20 f_P_19 rfl rfl (hko) (hP.p2 k (by omega) h2) ?_
        refine mx_goto 31 d_P_placeAt_23 rfl ?_
        refine mx_callV (kc := 0) (ks := 0) (N := n_P_ownPlaceAt) (as := [_, _]) (ci := 2) d_P_placeAt_31 s_P_30 ⟨Nat.le_of_ble_eq_true rfl, Nat.le_of_ble_eq_true rfl⟩ rfl (mj_wt_8 (Nat.le_of_ble_eq_true rfl)) (hko) ⟨_, rfl, rfl⟩ (ct_own2 (z := z) hk hg ⟨by omega, h2⟩ hf (by first | exact Or.inl ⟨by assumption, rfl⟩ | exact Or.inr ⟨by assumption, rfl⟩)) (fun r_31 A_31 h_31 => ?_) (fun E_31 A_x h_31 => ?_)
        rotate_left
        · exact h_31.elim
        obtain ⟨rfl, hA_31⟩ := h_31
        obtain rfl := hA_31.symm
        clear hA_31
        refine mx_R fun hR_2 => ?_
        refine mx_iadd d_P_placeAt_34 ?_
        refine mx_istore_n 3 d_P_placeAt_35 rfl (Nat.le_of_ble_eq_true rfl) ?_
        refine mx_aload 4 d_P_placeAt_36 rfl ?_
        refine mx_getP 0 d_P_placeAt_38 f_P_9 rfl rfl (hko) ?_
        rw [hk.c k (by omega) h2]
        refine mx_astore 4 d_P_placeAt_41 (Nat.le_of_ble_eq_true rfl) ?_
        refine mx_goto 5 d_P_placeAt_43 rfl ?_
        obtain ⟨m, rfl⟩ : ∃ m, n = m + 1 := ⟨n - 1, by omega⟩
        refine ih (m, gI A 233 k, v + mo_ow (gI A 234 k) (gI A 235) (gI A (mo_xr z)) k f) ⟨hca.1, by show gI A 233 k < _; omega, by show gI A 233 k < (m : Int); omega, ?_⟩ (by show m < m + 1; omega)
        show v + mo_ow (gI A 234 k) (gI A 235) (gI A (mo_xr z)) k f + mo_pl _ _ m (gI A 233 k) = _
        rw [mo_pl, if_neg hk1] at h4
        rw [Int.add_assoc]
        exact h4
  refine mx_R fun hR => ?_
  refine mx_iconst d_P_placeAt_0 ?_
  refine mx_istore_n 3 d_P_placeAt_1 rfl (Nat.le_of_ble_eq_true rfl) ?_
  refine mx_aload_n 0 d_P_placeAt_2 rfl rfl ?_
  refine mx_astore 4 d_P_placeAt_3 (Nat.le_of_ble_eq_true rfl) ?_
  have h9 := hl (6, p, 0) ⟨by show -1 ≤ p; omega, hp.2, by show p < ((6 : Nat) : Int); omega, by show 0 + mo_pl _ _ 6 p = _; rw [hv, Int.zero_add]⟩
  rw [show pp (((6, p, 0) : Nat × Int × Int).2.1) = some (6000 + 100 * p) from pp_s (by show p ≠ -1; omega)] at h9
  exact h9
end CLSB
