/-! THE REFERENCE, 6: sheets, sounds, mouths, pegs -/
/-- what a level has, back from a frame: blank or a drawing; hold; a cycle -/
def mj_sh (v : Int → Int) : Nat → Int → Int
  | 0, _ => -1
  | n + 1, at_ => if at_ < 0 then -1 else if -1 ≤ v at_ ∧ v at_ ≤ 15 then v at_ else mj_sh v n (at_ - (if v at_ = -2 then 1 else v at_ - 99))
/-- the last that is not x, back from a frame -/
def mj_bk (v : Int → Int) (x : Int) : Nat → Int → Int
  | 0, _ => -1
  | n + 1, at_ => if at_ < 0 then -1 else if v at_ = x then mj_bk v x n (at_ - 1) else v at_
theorem mj_sh_lt {v : Int → Int} {n : Nat} {a : Int} (h : a < 0) : mj_sh v n a = -1 := by
  cases n with
  | zero => rfl
  | succ n => rw [mj_sh, if_pos h]
theorem mj_bk_lt {v : Int → Int} {n : Nat} {a x : Int} (h : a < 0) : mj_bk v x n a = -1 := by
  cases n with
  | zero => rfl
  | succ n => rw [mj_bk, if_pos h]
theorem mj_bk_cases {v : Int → Int} {x : Int} : ∀ (n : Nat) (a : Int), mj_bk v x n a = -1 ∨ ∃ k, 0 ≤ k ∧ k ≤ a ∧ v k ≠ x ∧ mj_bk v x n a = v k
  | 0, _ => Or.inl rfl
  | n + 1, a => by
    rw [mj_bk]
    by_cases h : a < 0
    · rw [if_pos h]; exact Or.inl rfl
    · rw [if_neg h]
      by_cases h2 : v a = x
      · rw [if_pos h2]
        rcases mj_bk_cases n (a - 1) with e | ⟨k, h3, h4, h5, h6⟩
        · exact Or.inl e
        · exact Or.inr ⟨k, h3, by omega, h5, h6⟩
      · rw [if_neg h2]; exact Or.inr ⟨a, by omega, by omega, h2, rfl⟩
theorem mj_sh_cases {v : Int → Int} : ∀ (n : Nat) (a : Int), mj_sh v n a = -1 ∨ ∃ k, -1 ≤ v k ∧ v k ≤ 15 ∧ mj_sh v n a = v k
  | 0, _ => Or.inl rfl
  | n + 1, a => by
    rw [mj_sh]
    by_cases h : a < 0
    · rw [if_pos h]; exact Or.inl rfl
    · rw [if_neg h]
      by_cases h2 : -1 ≤ v a ∧ v a ≤ 15
      · rw [if_pos h2]; exact Or.inr ⟨a, h2.1, h2.2, rfl⟩
      · rw [if_neg h2]
        exact mj_sh_cases n _
section MOD6
variable {G : mj_G} {A : mj_M}
theorem cm_soundAt {s f : Int} (hM : MS A) (hs : 0 ≤ s ∧ s < 6) (hf : 0 ≤ f ∧ f < 24) : mj_Cal G n_M_soundAt [mR (some 200), mI s, mI f] A (fun r A' => r = some (mI (mj_bk (fun k => gI A 227 (24 * s + k)) (-2) 24 f)) ∧ A' = A) mj_no := by
  refine mj_bodyK 0 0 [some (mR (some 200)), some (mI s), some (mI f), none] rfl rfl rfl (by decide +kernel) (Nat.le_of_ble_eq_true rfl) (by simp) rfl ?_
  have hl : ∀ q : Nat × Int, (q.2 < (q.1 : Int) ∧ -1 ≤ q.2 ∧ q.2 < 24 ∧ mj_bk (fun k => gI A 227 (24 * s + k)) (-2) 24 f = mj_bk (fun k => gI A 227 (24 * s + k)) (-2) q.1 q.2) → mj_X G n_M_soundAt (mj_Qm G n_M_soundAt (fun r A' => r = some (mI (mj_bk (fun k => gI A 227 (24 * s + k)) (-2) 24 f)) ∧ A' = A) mj_no) A 0 0 2 [some (mR (some 200)), some (mI s), some (mI f), some (mI q.2)] [] := by
    refine mj_loop _ (fun q => q.1) _ ?_
    intro ⟨n, k⟩ ⟨h1, h2, h3, h4⟩ ih
    replace h1 : k < (n : Int) := h1
    replace h2 : -1 ≤ k := h2
    replace h3 : k < 24 := h3
    show mj_X G n_M_soundAt _ A 0 0 2 [some (mR (some 200)), some (mI s), some (mI f), some (mI k)] []
    refine mx_R fun hR => ?_
    refine mx_iload_n 3 d_M_soundAt_2 rfl rfl ?_
    refine mx_if_lt 40 d_M_soundAt_3 rfl (by first | assumption | exact hR _ _ | exact r32_mk (by omega) (by omega)) (fun c_3 => ?_) (fun c_3 => ?_)
    · refine mx_iconst d_M_soundAt_40 ?_
      refine mx_iret d_M_soundAt_41 rfl ?_
      exact ⟨by rw [h4]; show some (mI (-1)) = some (mI (mj_bk _ _ n k)); rw [mj_bk_lt (by omega)], rfl⟩
    · refine mx_aload_n 0 d_M_soundAt_6 rfl rfl ?_
      refine mx_getPs 27 d_M_soundAt_7 f_M_74 rfl rfl (hM.o) (hM.p27) ?_
      refine mx_bipush d_M_soundAt_10 (by decide) ?_
      refine mx_iload_n 1 d_M_soundAt_12 rfl rfl ?_
      refine mx_imul d_M_soundAt_13 ?_
      refine mx_iload_n 3 d_M_soundAt_14 rfl rfl ?_
      refine mx_iadd d_M_soundAt_15 ?_
      refine mx_iald d_M_soundAt_16 (hM.s27) (by omega) (by omega) ?_
      refine mx_bipush d_M_soundAt_17 (by decide) ?_
      refine mx_icmp_eq 34 d_M_soundAt_19 rfl (by first | assumption | exact hR _ _ | exact r32_mk (by omega) (by omega)) (by first | assumption | exact hR _ _ | exact r32_mk (by omega) (by omega)) (fun c_19 => ?_) (fun c_19 => ?_)
      · refine mx_iinc 3 d_M_soundAt_34 rfl (Nat.le_of_ble_eq_true rfl) ?_
        refine mx_goto 2 d_M_soundAt_37 rfl ?_
        obtain ⟨m, rfl⟩ : ∃ m, n = m + 1 := ⟨n - 1, by omega⟩
        refine ih (m, k + (-1)) ⟨by show k + (-1) < (m : Int); omega, by show -1 ≤ k + (-1); omega, by show k + (-1) < 24; omega, ?_⟩ (by show m < m + 1; omega)
        rw [h4]
        show mj_bk _ _ (m + 1) k = mj_bk _ _ m (k + (-1))
        rw [mj_bk, if_neg (by omega), if_pos (by assumption)]
        rfl
      · refine mx_aload_n 0 d_M_soundAt_22 rfl rfl ?_
        refine mx_getPs 27 d_M_soundAt_23 f_M_74 rfl rfl (hM.o) (hM.p27) ?_
        refine mx_bipush d_M_soundAt_26 (by decide) ?_
        refine mx_iload_n 1 d_M_soundAt_28 rfl rfl ?_
        refine mx_imul d_M_soundAt_29 ?_
        refine mx_iload_n 3 d_M_soundAt_30 rfl rfl ?_
        refine mx_iadd d_M_soundAt_31 ?_
        refine mx_iald d_M_soundAt_32 (hM.s27) (by omega) (by omega) ?_
        refine mx_iret d_M_soundAt_33 rfl ?_
        obtain ⟨m, rfl⟩ : ∃ m, n = m + 1 := ⟨n - 1, by omega⟩
        exact ⟨by rw [h4]; show _ = some (mI (mj_bk _ _ (m + 1) k)); rw [mj_bk, if_neg (by omega), if_neg (by assumption)], rfl⟩
  refine mx_R fun hR => ?_
  refine mx_iload_n 2 d_M_soundAt_0 rfl rfl ?_
  refine mx_istore_n 3 d_M_soundAt_1 rfl (Nat.le_of_ble_eq_true rfl) ?_
  exact hl (24, f) ⟨by show f < ((24 : Nat) : Int); omega, by show -1 ≤ f; omega, hf.2, rfl⟩
/-- what a level has at a frame -/
def mo_ha (A : mj_M) (s l f : Int) : Int := if gI A 228 (4 * s + l) ≠ 0 then (if mj_bk (fun k => gI A 227 (24 * s + k)) (-2) 24 (if f + 1 < gI A 224 s then f + 1 else f) = -1 then -1 else gI A 231 (mj_bk (fun k => gI A 227 (24 * s + k)) (-2) 24 (if f + 1 < gI A 224 s then f + 1 else f))) else mj_sh (fun k => gI A 226 (24 * (4 * s + l) + k)) 24 f
theorem mo_ha1 {A : mj_M} {s l f : Int} (h : gI A 228 (4 * s + l) ≠ 0) : mo_ha A s l f = if mj_bk (fun k => gI A 227 (24 * s + k)) (-2) 24 (if f + 1 < gI A 224 s then f + 1 else f) = -1 then -1 else gI A 231 (mj_bk (fun k => gI A 227 (24 * s + k)) (-2) 24 (if f + 1 < gI A 224 s then f + 1 else f)) := if_pos h
theorem mo_ha0 {A : mj_M} {s l f : Int} (h : gI A 228 (4 * s + l) = 0) : mo_ha A s l f = mj_sh (fun k => gI A 226 (24 * (4 * s + l) + k)) 24 f := if_neg fun h2 => h2 h
/-- the rows of what has been told are in their ranges -/
def mo_rg (A : mj_M) : Prop := (0 ≤ gI A 200 3 ∧ gI A 200 3 ≤ 16) ∧ (0 ≤ gI A 200 23 ∧ gI A 200 23 ≤ 6) ∧ (∀ s, 0 ≤ s → s < gI A 200 23 → 1 ≤ gI A 224 s ∧ gI A 224 s ≤ 24) ∧ (∀ s, 0 ≤ s → s < gI A 200 23 → 0 ≤ gI A 225 s ∧ gI A 225 s ≤ 3) ∧ (∀ k, (-2 ≤ gI A 226 k ∧ gI A 226 k ≤ 15) ∨ (100 ≤ gI A 226 k ∧ gI A 226 k ≤ 123)) ∧ (∀ k, 0 ≤ k → k < 96 * gI A 200 23 → gI A 226 k ≤ 15 → gI A 226 k < gI A 200 3) ∧ (∀ k, -2 ≤ gI A 227 k ∧ gI A 227 k ≤ 7) ∧ (∀ k, 0 ≤ k → k < 8 → -1 ≤ gI A 231 k ∧ gI A 231 k < gI A 200 3)
theorem mo_rg.nd {A : mj_M} (h : mo_rg A) : 0 ≤ gI A 200 3 ∧ gI A 200 3 ≤ 16 := h.1
theorem mo_rg.ns {A : mj_M} (h : mo_rg A) : 0 ≤ gI A 200 23 ∧ gI A 200 23 ≤ 6 := h.2.1
theorem mo_rg.fr {A : mj_M} (h : mo_rg A) : ∀ s, 0 ≤ s → s < gI A 200 23 → 1 ≤ gI A 224 s ∧ gI A 224 s ≤ 24 := h.2.2.1
theorem mo_rg.pal {A : mj_M} (h : mo_rg A) : ∀ s, 0 ≤ s → s < gI A 200 23 → 0 ≤ gI A 225 s ∧ gI A 225 s ≤ 3 := h.2.2.2.1
theorem mo_rg.sh {A : mj_M} (h : mo_rg A) : ∀ k, (-2 ≤ gI A 226 k ∧ gI A 226 k ≤ 15) ∨ (100 ≤ gI A 226 k ∧ gI A 226 k ≤ 123) := h.2.2.2.2.1
theorem mo_rg.shd {A : mj_M} (h : mo_rg A) : ∀ k, 0 ≤ k → k < 96 * gI A 200 23 → gI A 226 k ≤ 15 → gI A 226 k < gI A 200 3 := h.2.2.2.2.2.1
theorem mo_rg.vo {A : mj_M} (h : mo_rg A) : ∀ k, -2 ≤ gI A 227 k ∧ gI A 227 k ≤ 7 := h.2.2.2.2.2.2.1
theorem mo_rg.mo {A : mj_M} (h : mo_rg A) : ∀ k, 0 ≤ k → k < 8 → -1 ≤ gI A 231 k ∧ gI A 231 k < gI A 200 3 := h.2.2.2.2.2.2.2
theorem cm_hasAt {s l f : Int} (hM : MS A) (hg : mo_rg A) (hs : 0 ≤ s ∧ s < gI A 200 23) (hl : 0 ≤ l ∧ l ≤ 3) (hf : 0 ≤ f ∧ f < gI A 224 s) : mj_Cal G n_M_hasAt [mR (some 200), mI s, mI l, mI f] A (fun r A' => r = some (mI (mo_ha A s l f)) ∧ A' = A) mj_no := by
  refine mj_bodyK 0 0 [some (mR (some 200)), some (mI s), some (mI l), some (mI f), none, none] rfl rfl rfl (by decide +kernel) (Nat.le_of_ble_eq_true rfl) (by simp) rfl ?_
  have hns := hg.ns
  have hfr := hg.fr s hs.1 hs.2
  have hlp : gI A 228 (4 * s + l) = 0 → ∀ q : Nat × Int × Option mj_V, (q.2.1 < (q.1 : Int) ∧ (-24 ≤ q.2.1 ∧ q.2.1 < 24) ∧ mj_sh (fun k => gI A 226 (24 * (4 * s + l) + k)) 24 f = mj_sh (fun k => gI A 226 (24 * (4 * s + l) + k)) q.1 q.2.1) → mj_X G n_M_hasAt (mj_Qm G n_M_hasAt (fun r A' => r = some (mI (mo_ha A s l f)) ∧ A' = A) mj_no) A 0 0 60 [some (mR (some 200)), some (mI s), some (mI l), some (mI f), some (mI q.2.1), q.2.2] [] := by
    intro hz
    refine mj_loop _ (fun q => q.1) _ ?_
    intro ⟨n, k, o⟩ ⟨h1, h2, h3⟩ ih
    replace h1 : k < (n : Int) := h1
    replace h2 : -24 ≤ k ∧ k < 24 := h2
    have hk := hg.sh (24 * (4 * s + l) + k)
    have hv : mo_ha A s l f = mj_sh (fun k => gI A 226 (24 * (4 * s + l) + k)) n k := by
      unfold mo_ha
      rw [if_neg (by omega)]
      exact h3
    show mj_X G n_M_hasAt _ A 0 0 60 [some (mR (some 200)), some (mI s), some (mI l), some (mI f), some (mI k), o] []
    refine mx_R fun hR => ?_
    refine mx_iload 4 d_M_hasAt_60 rfl ?_
    refine mx_if_lt 121 d_M_hasAt_62 rfl (by first | assumption | exact hR _ _ | exact r32_mk (by omega) (by omega)) (fun c_62 => ?_) (fun c_62 => ?_)
    · refine mx_iconst d_M_hasAt_121 ?_
      refine mx_iret d_M_hasAt_122 rfl ?_
      exact ⟨by rw [hv, mj_sh_lt (by omega)], rfl⟩
    · refine mx_aload_n 0 d_M_hasAt_65 rfl rfl ?_
      refine mx_getPs 26 d_M_hasAt_66 f_M_71 rfl rfl (hM.o) (hM.p26) ?_
      refine mx_bipush d_M_hasAt_69 (by decide) ?_
      refine mx_iconst d_M_hasAt_71 ?_
      refine mx_iload_n 1 d_M_hasAt_72 rfl rfl ?_
      refine mx_imul d_M_hasAt_73 ?_
      refine mx_iload_n 2 d_M_hasAt_74 rfl rfl ?_
      refine mx_iadd d_M_hasAt_75 ?_
      refine mx_imul d_M_hasAt_76 ?_
      refine mx_iload 4 d_M_hasAt_77 rfl ?_
      refine mx_iadd d_M_hasAt_79 ?_
      refine mx_iald d_M_hasAt_80 (hM.s26) (by omega) (by omega) ?_
      refine mx_istore 5 d_M_hasAt_81 (Nat.le_of_ble_eq_true rfl) ?_
      refine mx_iload 5 d_M_hasAt_83 rfl ?_
      refine mx_iconst d_M_hasAt_85 ?_
      refine mx_bipush d_M_hasAt_86 (by decide) ?_
      refine mx_callS (kc := 0) (ks := 0) (N := n_M_in) (as := [_, _, _]) d_M_hasAt_88 s_M_126 ⟨Nat.le_of_ble_eq_true rfl, Nat.le_of_ble_eq_true rfl⟩ rfl (mj_wt_8 (Nat.le_of_ble_eq_true rfl)) (cm_in (v := gI A 226 (24 * (4 * s + l) + k)) (hR _ _) (r32_mk (by omega) (by omega)) (r32_mk (by omega) (by omega))) (fun r_88 A_88 h_88 => ?_) (fun E_88 A_x h_88 => ?_)
      rotate_left
      · exact h_88.elim
      obtain ⟨rfl, hA_88⟩ := h_88
      obtain rfl := hA_88.symm
      clear hA_88
      refine mx_R fun hR_1 => ?_
      refine mx_if_eq 97 d_M_hasAt_91 rfl (by first | assumption | exact hR_1 _ _ | exact hR _ _ | exact r32_mk (by omega) (by omega)) (fun c_91 => ?_) (fun c_91 => ?_)
      · refine mx_iload 4 d_M_hasAt_97 rfl ?_
        refine mx_iload 5 d_M_hasAt_99 rfl ?_
        refine mx_bipush d_M_hasAt_101 (by decide) ?_
        refine mx_icmp_ne 110 d_M_hasAt_103 rfl (by first | assumption | exact hR_1 _ _ | exact hR _ _ | exact r32_mk (by omega) (by omega)) (by first | assumption | exact hR_1 _ _ | exact hR _ _ | exact r32_mk (by omega) (by omega)) (fun c_103 => ?_) (fun c_103 => ?_)
        · refine mx_iload 5 d_M_hasAt_110 rfl ?_
          refine mx_bipush d_M_hasAt_112 (by decide) ?_
          refine mx_isub d_M_hasAt_114 ?_
          refine mx_isub d_M_hasAt_115 ?_
          refine mx_istore 4 d_M_hasAt_116 (Nat.le_of_ble_eq_true rfl) ?_
          refine mx_goto 60 d_M_hasAt_118 rfl ?_
          obtain ⟨m, rfl⟩ : ∃ m, n = m + 1 := ⟨n - 1, by omega⟩
          refine ih (m, _, _) ⟨?_, ?_, ?_⟩ (by show m < m + 1; omega)
          · first | (show k - 1 < (m : Int); omega) | (show k - (gI A 226 _ - 99) < (m : Int); omega)
          · first | (show -24 ≤ k - 1 ∧ k - 1 < 24; omega) | (show -24 ≤ k - (gI A 226 _ - 99) ∧ k - (gI A 226 _ - 99) < 24; omega)
          · refine Eq.trans h3 ?_
            show mj_sh _ (m + 1) k = mj_sh _ m _
            rw [mj_sh, if_neg (by omega), if_neg (by omega)]
            first | rw [if_pos (by assumption)] | rw [if_neg (by assumption)]
        · refine mx_iconst d_M_hasAt_106 ?_
          refine mx_goto 115 d_M_hasAt_107 rfl ?_
          refine mx_isub d_M_hasAt_115 ?_
          refine mx_istore 4 d_M_hasAt_116 (Nat.le_of_ble_eq_true rfl) ?_
          refine mx_goto 60 d_M_hasAt_118 rfl ?_
          obtain ⟨m, rfl⟩ : ∃ m, n = m + 1 := ⟨n - 1, by omega⟩
          refine ih (m, _, _) ⟨?_, ?_, ?_⟩ (by show m < m + 1; omega)
          · first | (show k - 1 < (m : Int); omega) | (show k - (gI A 226 _ - 99) < (m : Int); omega)
          · first | (show -24 ≤ k - 1 ∧ k - 1 < 24; omega) | (show -24 ≤ k - (gI A 226 _ - 99) ∧ k - (gI A 226 _ - 99) < 24; omega)
          · refine Eq.trans h3 ?_
            show mj_sh _ (m + 1) k = mj_sh _ m _
            rw [mj_sh, if_neg (by omega), if_neg (by omega)]
            first | rw [if_pos (by assumption)] | rw [if_neg (by assumption)]
      · refine mx_iload 5 d_M_hasAt_94 rfl ?_
        refine mx_iret d_M_hasAt_96 rfl ?_
        obtain ⟨m, rfl⟩ : ∃ m, n = m + 1 := ⟨n - 1, by omega⟩
        exact ⟨by rw [hv, mj_sh, if_neg (by omega), if_pos (by omega)], rfl⟩
  refine mx_R fun hR => ?_
  refine mx_aload_n 0 d_M_hasAt_0 rfl rfl ?_
  refine mx_getPs 28 d_M_hasAt_1 f_M_77 rfl rfl (hM.o) (hM.p28) ?_
  refine mx_iconst d_M_hasAt_4 ?_
  refine mx_iload_n 1 d_M_hasAt_5 rfl rfl ?_
  refine mx_imul d_M_hasAt_6 ?_
  refine mx_iload_n 2 d_M_hasAt_7 rfl rfl ?_
  refine mx_iadd d_M_hasAt_8 ?_
  refine mx_zald d_M_hasAt_9 (hM.s28) (by omega) (by omega) ?_
  refine mx_if_eq 57 d_M_hasAt_10 rfl (by first | assumption | exact hR _ _ | exact r32_mk (by omega) (by omega)) (fun c_10 => ?_) (fun c_10 => ?_)
  · refine mx_iload_n 3 d_M_hasAt_57 rfl rfl ?_
    refine mx_istore 4 d_M_hasAt_58 (Nat.le_of_ble_eq_true rfl) ?_
    exact hlp (by omega) (24, f, none) ⟨by show f < ((24 : Nat) : Int); omega, by show -24 ≤ f ∧ f < 24; omega, rfl⟩
  · refine mx_aload_n 0 d_M_hasAt_13 rfl rfl ?_
    refine mx_iload_n 1 d_M_hasAt_14 rfl rfl ?_
    refine mj_cutI ( (if f + 1 < gI A 224 s then f + 1 else f)) 34 ?_ (fun hJ_15 => ?_)
    · refine mx_callV (kc := 0) (ks := 0) (N := n_M_soundAt) (as := [_, _]) (ci := 7) d_M_hasAt_34 s_M_205 ⟨Nat.le_of_ble_eq_true rfl, Nat.le_of_ble_eq_true rfl⟩ rfl (mj_wt_8 (Nat.le_of_ble_eq_true rfl)) (hM.o) ⟨_, rfl, rfl⟩ (cm_soundAt hM ⟨hs.1, by omega⟩ ⟨by split <;> omega, by split <;> omega⟩) (fun r_34 A_34 h_34 => ?_) (fun E_34 A_x h_34 => ?_)
      rotate_left
      · exact h_34.elim
      obtain ⟨rfl, hA_34⟩ := h_34
      obtain rfl := hA_34.symm
      clear hA_34
      refine mx_R fun hR_1 => ?_
      refine mx_istore 4 d_M_hasAt_37 (Nat.le_of_ble_eq_true rfl) ?_
      have hb2 : -1 ≤ mj_bk (fun k => gI A 227 (24 * s + k)) (-2) 24 (if f + 1 < gI A 224 s then f + 1 else f) ∧ mj_bk (fun k => gI A 227 (24 * s + k)) (-2) 24 (if f + 1 < gI A 224 s then f + 1 else f) ≤ 7 := by
        rcases mj_bk_cases (v := fun k => gI A 227 (24 * s + k)) (x := -2) 24 (if f + 1 < gI A 224 s then f + 1 else f) with e | ⟨k, h1, h2, h3, h4⟩
        · rw [e]; omega
        · have h5 := hg.vo (24 * s + k)
          have h7 : gI A 227 (24 * s + k) ≠ -2 := h3
          rw [h4]
          show -1 ≤ gI A 227 (24 * s + k) ∧ gI A 227 (24 * s + k) ≤ 7
          omega
      refine mx_iload 4 d_M_hasAt_39 rfl ?_
      refine mx_iconst d_M_hasAt_41 ?_
      refine mx_icmp_ne 49 d_M_hasAt_42 rfl (by first | assumption | exact hR_1 _ _ | exact hR _ _ | exact r32_mk (by omega) (by omega)) (by first | assumption | exact hR_1 _ _ | exact hR _ _ | exact r32_mk (by omega) (by omega)) (fun c_42 => ?_) (fun c_42 => ?_)
      · refine mx_aload_n 0 d_M_hasAt_49 rfl rfl ?_
        refine mx_getPs 31 d_M_hasAt_50 f_M_86 rfl rfl (hM.o) (hM.p31) ?_
        refine mx_iload 4 d_M_hasAt_53 rfl ?_
        refine mx_iald d_M_hasAt_55 (hM.s31) (by omega) (by omega) ?_
        refine mx_iret d_M_hasAt_56 rfl ?_
        rw [mo_ha1 c_10]
        first | exact ⟨by rw [if_pos c_42], rfl⟩ | exact ⟨by rw [if_neg c_42], rfl⟩
      · refine mx_iconst d_M_hasAt_45 ?_
        refine mx_goto 56 d_M_hasAt_46 rfl ?_
        refine mx_iret d_M_hasAt_56 rfl ?_
        rw [mo_ha1 c_10]
        first | exact ⟨by rw [if_pos c_42], rfl⟩ | exact ⟨by rw [if_neg c_42], rfl⟩
    · refine mx_iload_n 3 d_M_hasAt_15 rfl rfl ?_
      refine mx_iconst d_M_hasAt_16 ?_
      refine mx_iadd d_M_hasAt_17 ?_
      refine mx_aload_n 0 d_M_hasAt_18 rfl rfl ?_
      refine mx_getPs 24 d_M_hasAt_19 f_M_65 rfl rfl (hM.o) (hM.p24) ?_
      refine mx_iload_n 1 d_M_hasAt_22 rfl rfl ?_
      refine mx_iald d_M_hasAt_23 (hM.s24) (by omega) (by omega) ?_
      refine mx_icmp_ge 33 d_M_hasAt_24 rfl (by first | assumption | exact hR _ _ | exact r32_mk (by omega) (by omega)) (by first | assumption | exact hR _ _ | exact r32_mk (by omega) (by omega)) (fun c_24 => ?_) (fun c_24 => ?_)
      · refine mx_iload_n 3 d_M_hasAt_33 rfl rfl ?_
        exact mj_ji hJ_15 (by omega)
      · refine mx_iload_n 3 d_M_hasAt_27 rfl rfl ?_
        refine mx_iconst d_M_hasAt_28 ?_
        refine mx_iadd d_M_hasAt_29 ?_
        refine mx_goto 34 d_M_hasAt_30 rfl ?_
        exact mj_ji hJ_15 (by omega)
theorem cm_expose {s l f w : Int} (hM : MS A) (hg : mo_rg A) (hs : r32 s) (hl : r32 l) (hf : r32 f) (hw : r32 w) : mj_Cal G n_M_expose [mR (some 200), mI s, mI l, mI f, mI w] A (fun r A' => ((((0 ≤ s ∧ s < gI A 200 23 ∧ 0 ≤ l ∧ l ≤ 3) ∧ (0 ≤ s ∧ s < gI A 200 23 ∧ 0 ≤ f ∧ f < gI A 224 s) ∧ (0 ≤ w ∧ w ≤ 15 → w < gI A 200 3)) ∧ ((-2 ≤ w ∧ w ≤ 15) ∨ (100 ≤ w ∧ w ≤ 123))) ∧ r = some (mI (gI A 226 (24 * (4 * s + l) + f))) ∧ A' = sI (sI A 200 0 0) 226 (24 * (4 * s + l) + f) w) ∨ (¬ (((0 ≤ s ∧ s < gI A 200 23 ∧ 0 ≤ l ∧ l ≤ 3) ∧ (0 ≤ s ∧ s < gI A 200 23 ∧ 0 ≤ f ∧ f < gI A 224 s) ∧ (0 ≤ w ∧ w ≤ 15 → w < gI A 200 3)) ∧ ((-2 ≤ w ∧ w ≤ 15) ∨ (100 ≤ w ∧ w ≤ 123))) ∧ r = some (mI 0) ∧ A' = sI A 200 0 (if ((0 ≤ s ∧ s < gI A 200 23 ∧ 0 ≤ l ∧ l ≤ 3) ∧ (0 ≤ s ∧ s < gI A 200 23 ∧ 0 ≤ f ∧ f < gI A 224 s) ∧ (0 ≤ w ∧ w ≤ 15 → w < gI A 200 3)) then (if ((-2 ≤ w ∧ w ≤ 15) ∨ (100 ≤ w ∧ w ≤ 123)) then 0 else 2) else 1))) mj_no := by
  refine mj_bodyK 0 0 [some (mR (some 200)), some (mI s), some (mI l), some (mI f), some (mI w), none, none, none] rfl rfl rfl (by decide +kernel) (Nat.le_of_ble_eq_true rfl) (by simp) rfl ?_
  have hns := hg.ns
  refine mx_R fun hR => ?_
  refine mj_cutB (((0 ≤ s ∧ s < gI A 200 23 ∧ 0 ≤ l ∧ l ≤ 3) ∧ (0 ≤ s ∧ s < gI A 200 23 ∧ 0 ≤ f ∧ f < gI A 224 s) ∧ (0 ≤ w ∧ w ≤ 15 → w < gI A 200 3))) 43 ?_ (fun hJ_0 => ?_)
  · refine mx_istore 5 d_M_expose_43 (Nat.le_of_ble_eq_true rfl) ?_
    refine mx_aload_n 0 d_M_expose_45 rfl rfl ?_
    refine mx_iload 5 d_M_expose_46 rfl ?_
    refine mj_cutB (((-2 ≤ w ∧ w ≤ 15) ∨ (100 ≤ w ∧ w ≤ 123))) 77 ?_ (fun hJ_48 => ?_)
    · refine mx_callV (kc := 0) (ks := 0) (N := n_M_asked2) (as := [_, _]) (ci := 7) d_M_expose_77 s_M_166 ⟨Nat.le_of_ble_eq_true rfl, Nat.le_of_ble_eq_true rfl⟩ rfl (mj_wt_8 (Nat.le_of_ble_eq_true rfl)) (hM.o) ⟨_, rfl, rfl⟩ (cm_asked2 _ _ hM) (fun r_77 A_77 h_77 => ?_) (fun E_77 A_x h_77 => ?_)
      rotate_left
      · exact h_77.elim
      obtain ⟨rfl, hA_77⟩ := h_77
      obtain rfl := hA_77.symm
      clear hA_77
      refine mx_R fun hR_1 => ?_
      refine mx_if_ne 85 d_M_expose_80 rfl (by first | assumption | exact hR_1 _ _ | exact hR _ _ | exact r32_mk (by omega) (by omega)) (fun c_80 => ?_) (fun c_80 => ?_)
      · have hP : ((0 ≤ s ∧ s < gI A 200 23 ∧ 0 ≤ l ∧ l ≤ 3) ∧ (0 ≤ s ∧ s < gI A 200 23 ∧ 0 ≤ f ∧ f < gI A 224 s) ∧ (0 ≤ w ∧ w ≤ 15 → w < gI A 200 3)) ∧ ((-2 ≤ w ∧ w ≤ 15) ∨ (100 ≤ w ∧ w ≤ 123)) := by omega
        rw [if_pos hP.1, if_pos hP.2]
        have hfr := hg.fr s hP.1.1.1 hP.1.1.2.1
        refine mx_R fun hR => ?_
        refine mx_bipush d_M_expose_85 (by decide) ?_
        refine mx_iconst d_M_expose_87 ?_
        refine mx_iload_n 1 d_M_expose_88 rfl rfl ?_
        refine mx_imul d_M_expose_89 ?_
        refine mx_iload_n 2 d_M_expose_90 rfl rfl ?_
        refine mx_iadd d_M_expose_91 ?_
        refine mx_imul d_M_expose_92 ?_
        refine mx_iload_n 3 d_M_expose_93 rfl rfl ?_
        refine mx_iadd d_M_expose_94 ?_
        refine mx_istore 6 d_M_expose_95 (Nat.le_of_ble_eq_true rfl) ?_
        refine mx_aload_n 0 d_M_expose_97 rfl rfl ?_
        refine mx_getPs 26 d_M_expose_98 f_M_71 rfl rfl (hM.o) (hM.p26) ?_
        refine mx_iload 6 d_M_expose_101 rfl ?_
        refine mx_iald d_M_expose_103 (hM.s26) (by omega) (by omega) ?_
        refine mx_istore 7 d_M_expose_104 (Nat.le_of_ble_eq_true rfl) ?_
        refine mx_aload_n 0 d_M_expose_106 rfl rfl ?_
        refine mx_getPs 26 d_M_expose_107 f_M_71 rfl rfl (hM.o) (hM.p26) ?_
        refine mx_iload 6 d_M_expose_110 rfl ?_
        refine mx_iload 4 d_M_expose_112 rfl ?_
        refine mx_iast d_M_expose_114 (hM.s26) (by omega) (by omega) (by first | assumption | exact hR _ _ | exact r32_mk (by omega) (by omega)) ?_
        refine mx_R fun hR_1 => ?_
        refine mx_iload 7 d_M_expose_115 rfl ?_
        refine mx_iret d_M_expose_117 rfl ?_
        exact Or.inl ⟨hP, rfl, rfl⟩
      · refine mx_iconst d_M_expose_83 ?_
        refine mx_iret d_M_expose_84 rfl ?_
        exact Or.inr ⟨by omega, rfl, rfl⟩
    · refine mx_iload 4 d_M_expose_48 rfl ?_
      refine mx_bipush d_M_expose_50 (by decide) ?_
      refine mx_bipush d_M_expose_52 (by decide) ?_
      refine mx_callS (kc := 0) (ks := 0) (N := n_M_in) (as := [_, _, _]) d_M_expose_54 s_M_126 ⟨Nat.le_of_ble_eq_true rfl, Nat.le_of_ble_eq_true rfl⟩ rfl (mj_wt_8 (Nat.le_of_ble_eq_true rfl)) (cm_in hw (r32_mk (by omega) (by omega)) (r32_mk (by omega) (by omega))) (fun r_54 A_54 h_54 => ?_) (fun E_54 A_x h_54 => ?_)
      rotate_left
      · exact h_54.elim
      obtain ⟨rfl, hA_54⟩ := h_54
      obtain rfl := hA_54.symm
      clear hA_54
      refine mx_R fun hR_2 => ?_
      refine mx_if_ne 72 d_M_expose_57 rfl (by first | assumption | exact hR_2 _ _ | exact hR _ _ | exact r32_mk (by omega) (by omega)) (fun c_57 => ?_) (fun c_57 => ?_)
      · refine mx_iconst d_M_expose_72 ?_
        refine mx_goto 77 d_M_expose_73 rfl ?_
        first | exact mj_j1 hJ_48 (by omega) | exact mj_j0 hJ_48 (by omega)
      · refine mx_iload 4 d_M_expose_60 rfl ?_
        refine mx_bipush d_M_expose_62 (by decide) ?_
        refine mx_bipush d_M_expose_64 (by decide) ?_
        refine mx_callS (kc := 0) (ks := 0) (N := n_M_in) (as := [_, _, _]) d_M_expose_66 s_M_126 ⟨Nat.le_of_ble_eq_true rfl, Nat.le_of_ble_eq_true rfl⟩ rfl (mj_wt_8 (Nat.le_of_ble_eq_true rfl)) (cm_in hw (r32_mk (by omega) (by omega)) (r32_mk (by omega) (by omega))) (fun r_66 A_66 h_66 => ?_) (fun E_66 A_x h_66 => ?_)
        rotate_left
        · exact h_66.elim
        obtain ⟨rfl, hA_66⟩ := h_66
        obtain rfl := hA_66.symm
        clear hA_66
        refine mx_R fun hR_3 => ?_
        refine mx_if_eq 76 d_M_expose_69 rfl (by first | assumption | exact hR_3 _ _ | exact hR_2 _ _ | exact hR _ _ | exact r32_mk (by omega) (by omega)) (fun c_69 => ?_) (fun c_69 => ?_)
        · refine mx_iconst d_M_expose_76 ?_
          first | exact mj_j1 hJ_48 (by omega) | exact mj_j0 hJ_48 (by omega)
        · refine mx_iconst d_M_expose_72 ?_
          refine mx_goto 77 d_M_expose_73 rfl ?_
          first | exact mj_j1 hJ_48 (by omega) | exact mj_j0 hJ_48 (by omega)
  · refine mx_aload_n 0 d_M_expose_0 rfl rfl ?_
    refine mx_iload_n 1 d_M_expose_1 rfl rfl ?_
    refine mx_iload_n 2 d_M_expose_2 rfl rfl ?_
    refine mx_callV (kc := 0) (ks := 0) (N := n_M_isLevel) (as := [_, _]) (ci := 7) d_M_expose_3 s_M_199 ⟨Nat.le_of_ble_eq_true rfl, Nat.le_of_ble_eq_true rfl⟩ rfl (mj_wt_8 (Nat.le_of_ble_eq_true rfl)) (hM.o) ⟨_, rfl, rfl⟩ (cm_isLevel hM hs hl hg.ns) (fun r_3 A_3 h_3 => ?_) (fun E_3 A_x h_3 => ?_)
    rotate_left
    · exact h_3.elim
    obtain ⟨rfl, hA_3⟩ := h_3
    obtain rfl := hA_3.symm
    clear hA_3
    refine mx_R fun hR_4 => ?_
    refine mx_if_eq 42 d_M_expose_6 rfl (by first | assumption | exact hR_4 _ _ | exact hR _ _ | exact r32_mk (by omega) (by omega)) (fun c_6 => ?_) (fun c_6 => ?_)
    · refine mx_iconst d_M_expose_42 ?_
      first | exact mj_j1 hJ_0 (by omega) | exact mj_j0 hJ_0 (by omega)
    · refine mx_aload_n 0 d_M_expose_9 rfl rfl ?_
      refine mx_iload_n 1 d_M_expose_10 rfl rfl ?_
      refine mx_iload_n 3 d_M_expose_11 rfl rfl ?_
      refine mx_callV (kc := 0) (ks := 0) (N := n_M_isFrame) (as := [_, _]) (ci := 7) d_M_expose_12 s_M_202 ⟨Nat.le_of_ble_eq_true rfl, Nat.le_of_ble_eq_true rfl⟩ rfl (mj_wt_8 (Nat.le_of_ble_eq_true rfl)) (hM.o) ⟨_, rfl, rfl⟩ (cm_isFrame hM hs hf hg.ns hg.fr) (fun r_12 A_12 h_12 => ?_) (fun E_12 A_x h_12 => ?_)
      rotate_left
      · exact h_12.elim
      obtain ⟨rfl, hA_12⟩ := h_12
      obtain rfl := hA_12.symm
      clear hA_12
      refine mx_R fun hR_5 => ?_
      refine mx_if_eq 42 d_M_expose_15 rfl (by first | assumption | exact hR_5 _ _ | exact hR_4 _ _ | exact hR _ _ | exact r32_mk (by omega) (by omega)) (fun c_15 => ?_) (fun c_15 => ?_)
      · refine mx_iconst d_M_expose_42 ?_
        first | exact mj_j1 hJ_0 (by omega) | exact mj_j0 hJ_0 (by omega)
      · refine mx_iload 4 d_M_expose_18 rfl ?_
        refine mx_iconst d_M_expose_20 ?_
        refine mx_bipush d_M_expose_21 (by decide) ?_
        refine mx_callS (kc := 0) (ks := 0) (N := n_M_in) (as := [_, _, _]) d_M_expose_23 s_M_126 ⟨Nat.le_of_ble_eq_true rfl, Nat.le_of_ble_eq_true rfl⟩ rfl (mj_wt_8 (Nat.le_of_ble_eq_true rfl)) (cm_in hw (r32_mk (by omega) (by omega)) (r32_mk (by omega) (by omega))) (fun r_23 A_23 h_23 => ?_) (fun E_23 A_x h_23 => ?_)
        rotate_left
        · exact h_23.elim
        obtain ⟨rfl, hA_23⟩ := h_23
        obtain rfl := hA_23.symm
        clear hA_23
        refine mx_R fun hR_6 => ?_
        refine mx_if_eq 38 d_M_expose_26 rfl (by first | assumption | exact hR_6 _ _ | exact hR_5 _ _ | exact hR_4 _ _ | exact hR _ _ | exact r32_mk (by omega) (by omega)) (fun c_26 => ?_) (fun c_26 => ?_)
        · refine mx_iconst d_M_expose_38 ?_
          refine mx_goto 43 d_M_expose_39 rfl ?_
          first | exact mj_j1 hJ_0 (by omega) | exact mj_j0 hJ_0 (by omega)
        · refine mx_aload_n 0 d_M_expose_29 rfl rfl ?_
          refine mx_iload 4 d_M_expose_30 rfl ?_
          refine mx_callV (kc := 0) (ks := 0) (N := n_M_isDrawing) (as := [_]) (ci := 7) d_M_expose_32 s_M_130 ⟨Nat.le_of_ble_eq_true rfl, Nat.le_of_ble_eq_true rfl⟩ rfl (mj_wt_8 (Nat.le_of_ble_eq_true rfl)) (hM.o) ⟨_, rfl, rfl⟩ (cm_isDrawing hM hw hg.nd) (fun r_32 A_32 h_32 => ?_) (fun E_32 A_x h_32 => ?_)
          rotate_left
          · exact h_32.elim
          obtain ⟨rfl, hA_32⟩ := h_32
          obtain rfl := hA_32.symm
          clear hA_32
          refine mx_R fun hR_7 => ?_
          refine mx_if_eq 42 d_M_expose_35 rfl (by first | assumption | exact hR_7 _ _ | exact hR_6 _ _ | exact hR_5 _ _ | exact hR_4 _ _ | exact hR _ _ | exact r32_mk (by omega) (by omega)) (fun c_35 => ?_) (fun c_35 => ?_)
          · refine mx_iconst d_M_expose_42 ?_
            first | exact mj_j1 hJ_0 (by omega) | exact mj_j0 hJ_0 (by omega)
          · refine mx_iconst d_M_expose_38 ?_
            refine mx_goto 43 d_M_expose_39 rfl ?_
            first | exact mj_j1 hJ_0 (by omega) | exact mj_j0 hJ_0 (by omega)
theorem cm_voice {s f w : Int} (hM : MS A) (hg : mo_rg A) (hs : r32 s) (hf : r32 f) (hw : r32 w) : mj_Cal G n_M_voice [mR (some 200), mI s, mI f, mI w] A (fun r A' => (((0 ≤ s ∧ s < gI A 200 23 ∧ 0 ≤ f ∧ f < gI A 224 s) ∧ -1 ≤ w ∧ w ≤ 7) ∧ r = some (mI (mj_bk (fun k => gI A 227 (24 * s + k)) (-2) 24 f)) ∧ A' = sI (sI A 200 0 0) 227 (24 * s + f) w) ∨ (¬ ((0 ≤ s ∧ s < gI A 200 23 ∧ 0 ≤ f ∧ f < gI A 224 s) ∧ -1 ≤ w ∧ w ≤ 7) ∧ r = some (mI 0) ∧ A' = sI A 200 0 (if ((0 ≤ s ∧ s < gI A 200 23 ∧ 0 ≤ f ∧ f < gI A 224 s) ∧ -1 ≤ w ∧ w ≤ 7) then 0 else 1))) mj_no := by
  refine mj_bodyK 0 0 [some (mR (some 200)), some (mI s), some (mI f), some (mI w), none] rfl rfl rfl (by decide +kernel) (Nat.le_of_ble_eq_true rfl) (by simp) rfl ?_
  have hns := hg.ns
  refine mx_R fun hR => ?_
  refine mx_aload_n 0 d_M_voice_0 rfl rfl ?_
  refine mj_cutB (((0 ≤ s ∧ s < gI A 200 23 ∧ 0 ≤ f ∧ f < gI A 224 s) ∧ -1 ≤ w ∧ w ≤ 7)) 25 ?_ (fun hJ_1 => ?_)
  · refine mx_callV (kc := 0) (ks := 0) (N := n_M_asked1) (as := [_]) (ci := 7) d_M_voice_25 s_M_138 ⟨Nat.le_of_ble_eq_true rfl, Nat.le_of_ble_eq_true rfl⟩ rfl (mj_wt_8 (Nat.le_of_ble_eq_true rfl)) (hM.o) ⟨_, rfl, rfl⟩ (cm_asked1 _ hM) (fun r_25 A_25 h_25 => ?_) (fun E_25 A_x h_25 => ?_)
    rotate_left
    · exact h_25.elim
    obtain ⟨rfl, hA_25⟩ := h_25
    obtain rfl := hA_25.symm
    clear hA_25
    refine mx_R fun hR_1 => ?_
    refine mx_if_ne 33 d_M_voice_28 rfl (by first | assumption | exact hR_1 _ _ | exact hR _ _ | exact r32_mk (by omega) (by omega)) (fun c_28 => ?_) (fun c_28 => ?_)
    · have hP : ((0 ≤ s ∧ s < gI A 200 23 ∧ 0 ≤ f ∧ f < gI A 224 s) ∧ -1 ≤ w ∧ w ≤ 7) := by omega
      rw [if_pos hP]
      have hfr := hg.fr s hP.1.1 hP.1.2.1
      refine mx_R fun hR => ?_
      refine mx_aload_n 0 d_M_voice_33 rfl rfl ?_
      refine mx_iload_n 1 d_M_voice_34 rfl rfl ?_
      refine mx_iload_n 2 d_M_voice_35 rfl rfl ?_
      refine mx_callV (kc := 0) (ks := 0) (N := n_M_soundAt) (as := [_, _]) (ci := 7) d_M_voice_36 s_M_205 ⟨Nat.le_of_ble_eq_true rfl, Nat.le_of_ble_eq_true rfl⟩ rfl (mj_wt_8 (Nat.le_of_ble_eq_true rfl)) (hM.o) ⟨_, rfl, rfl⟩ (cm_soundAt (A := sI A 200 0 0) hM ⟨by omega, by omega⟩ ⟨by omega, by omega⟩) (fun r_36 A_36 h_36 => ?_) (fun E_36 A_x h_36 => ?_)
      rotate_left
      · exact h_36.elim
      obtain ⟨rfl, hA_36⟩ := h_36
      obtain rfl := hA_36.symm
      clear hA_36
      refine mx_R fun hR_1 => ?_
      refine mx_istore 4 d_M_voice_39 (Nat.le_of_ble_eq_true rfl) ?_
      refine mx_aload_n 0 d_M_voice_41 rfl rfl ?_
      refine mx_getPs 27 d_M_voice_42 f_M_74 rfl rfl (hM.o) (hM.p27) ?_
      refine mx_bipush d_M_voice_45 (by decide) ?_
      refine mx_iload_n 1 d_M_voice_47 rfl rfl ?_
      refine mx_imul d_M_voice_48 ?_
      refine mx_iload_n 2 d_M_voice_49 rfl rfl ?_
      refine mx_iadd d_M_voice_50 ?_
      refine mx_iload_n 3 d_M_voice_51 rfl rfl ?_
      refine mx_iast d_M_voice_52 (hM.s27) (by omega) (by omega) (by first | assumption | exact hR_1 _ _ | exact hR _ _ | exact r32_mk (by omega) (by omega)) ?_
      refine mx_R fun hR_2 => ?_
      refine mx_iload 4 d_M_voice_53 rfl ?_
      refine mx_iret d_M_voice_55 rfl ?_
      exact Or.inl ⟨hP, rfl, rfl⟩
    · refine mx_iconst d_M_voice_31 ?_
      refine mx_iret d_M_voice_32 rfl ?_
      exact Or.inr ⟨by omega, rfl, rfl⟩
  · refine mx_aload_n 0 d_M_voice_1 rfl rfl ?_
    refine mx_iload_n 1 d_M_voice_2 rfl rfl ?_
    refine mx_iload_n 2 d_M_voice_3 rfl rfl ?_
    refine mx_callV (kc := 0) (ks := 0) (N := n_M_isFrame) (as := [_, _]) (ci := 7) d_M_voice_4 s_M_202 ⟨Nat.le_of_ble_eq_true rfl, Nat.le_of_ble_eq_true rfl⟩ rfl (mj_wt_8 (Nat.le_of_ble_eq_true rfl)) (hM.o) ⟨_, rfl, rfl⟩ (cm_isFrame hM hs hf hg.ns hg.fr) (fun r_4 A_4 h_4 => ?_) (fun E_4 A_x h_4 => ?_)
    rotate_left
    · exact h_4.elim
    obtain ⟨rfl, hA_4⟩ := h_4
    obtain rfl := hA_4.symm
    clear hA_4
    refine mx_R fun hR_2 => ?_
    refine mx_if_eq 24 d_M_voice_7 rfl (by first | assumption | exact hR_2 _ _ | exact hR _ _ | exact r32_mk (by omega) (by omega)) (fun c_7 => ?_) (fun c_7 => ?_)
    · refine mx_iconst d_M_voice_24 ?_
      first | exact mj_j1 hJ_1 (by omega) | exact mj_j0 hJ_1 (by omega)
    · refine mx_iload_n 3 d_M_voice_10 rfl rfl ?_
      refine mx_iconst d_M_voice_11 ?_
      refine mx_bipush d_M_voice_12 (by decide) ?_
      refine mx_callS (kc := 0) (ks := 0) (N := n_M_in) (as := [_, _, _]) d_M_voice_14 s_M_126 ⟨Nat.le_of_ble_eq_true rfl, Nat.le_of_ble_eq_true rfl⟩ rfl (mj_wt_8 (Nat.le_of_ble_eq_true rfl)) (cm_in hw (r32_mk (by omega) (by omega)) (r32_mk (by omega) (by omega))) (fun r_14 A_14 h_14 => ?_) (fun E_14 A_x h_14 => ?_)
      rotate_left
      · exact h_14.elim
      obtain ⟨rfl, hA_14⟩ := h_14
      obtain rfl := hA_14.symm
      clear hA_14
      refine mx_R fun hR_3 => ?_
      refine mx_if_eq 24 d_M_voice_17 rfl (by first | assumption | exact hR_3 _ _ | exact hR_2 _ _ | exact hR _ _ | exact r32_mk (by omega) (by omega)) (fun c_17 => ?_) (fun c_17 => ?_)
      · refine mx_iconst d_M_voice_24 ?_
        first | exact mj_j1 hJ_1 (by omega) | exact mj_j0 hJ_1 (by omega)
      · refine mx_iconst d_M_voice_20 ?_
        refine mx_goto 25 d_M_voice_21 rfl ?_
        first | exact mj_j1 hJ_1 (by omega) | exact mj_j0 hJ_1 (by omega)
theorem cm_mouth {w d : Int} (hM : MS A) (hg : mo_rg A) (hw : r32 w) (hd : r32 d) : mj_Cal G n_M_mouth [mR (some 200), mI w, mI d] A (fun r A' => (((0 ≤ w ∧ w ≤ 7) ∧ (d = -1 ∨ (0 ≤ d ∧ d < gI A 200 3))) ∧ r = some (mI (gI A 231 w)) ∧ A' = sI (sI A 200 0 0) 231 w d) ∨ (¬ ((0 ≤ w ∧ w ≤ 7) ∧ (d = -1 ∨ (0 ≤ d ∧ d < gI A 200 3))) ∧ r = some (mI 0) ∧ A' = sI A 200 0 (if ((0 ≤ w ∧ w ≤ 7) ∧ (d = -1 ∨ (0 ≤ d ∧ d < gI A 200 3))) then 0 else 1))) mj_no := by
  refine mj_bodyK 0 0 [some (mR (some 200)), some (mI w), some (mI d), none] rfl rfl rfl (by decide +kernel) (Nat.le_of_ble_eq_true rfl) (by simp) rfl ?_
  refine mx_R fun hR => ?_
  refine mx_aload_n 0 d_M_mouth_0 rfl rfl ?_
  refine mj_cutB (((0 ≤ w ∧ w ≤ 7) ∧ (d = -1 ∨ (0 ≤ d ∧ d < gI A 200 3)))) 29 ?_ (fun hJ_1 => ?_)
  · refine mx_callV (kc := 0) (ks := 0) (N := n_M_asked1) (as := [_]) (ci := 7) d_M_mouth_29 s_M_138 ⟨Nat.le_of_ble_eq_true rfl, Nat.le_of_ble_eq_true rfl⟩ rfl (mj_wt_8 (Nat.le_of_ble_eq_true rfl)) (hM.o) ⟨_, rfl, rfl⟩ (cm_asked1 _ hM) (fun r_29 A_29 h_29 => ?_) (fun E_29 A_x h_29 => ?_)
    rotate_left
    · exact h_29.elim
    obtain ⟨rfl, hA_29⟩ := h_29
    obtain rfl := hA_29.symm
    clear hA_29
    refine mx_R fun hR_1 => ?_
    refine mx_if_ne 37 d_M_mouth_32 rfl (by first | assumption | exact hR_1 _ _ | exact hR _ _ | exact r32_mk (by omega) (by omega)) (fun c_32 => ?_) (fun c_32 => ?_)
    · have hP : ((0 ≤ w ∧ w ≤ 7) ∧ (d = -1 ∨ (0 ≤ d ∧ d < gI A 200 3))) := by omega
      rw [if_pos hP]
      refine mx_R fun hR => ?_
      refine mx_aload_n 0 d_M_mouth_37 rfl rfl ?_
      refine mx_getPs 31 d_M_mouth_38 f_M_86 rfl rfl (hM.o) (hM.p31) ?_
      refine mx_iload_n 1 d_M_mouth_41 rfl rfl ?_
      refine mx_iald d_M_mouth_42 (hM.s31) (by omega) (by omega) ?_
      refine mx_istore_n 3 d_M_mouth_43 rfl (Nat.le_of_ble_eq_true rfl) ?_
      refine mx_aload_n 0 d_M_mouth_44 rfl rfl ?_
      refine mx_getPs 31 d_M_mouth_45 f_M_86 rfl rfl (hM.o) (hM.p31) ?_
      refine mx_iload_n 1 d_M_mouth_48 rfl rfl ?_
      refine mx_iload_n 2 d_M_mouth_49 rfl rfl ?_
      refine mx_iast d_M_mouth_50 (hM.s31) (by omega) (by omega) (by first | assumption | exact hR _ _ | exact r32_mk (by omega) (by omega)) ?_
      refine mx_R fun hR_1 => ?_
      refine mx_iload_n 3 d_M_mouth_51 rfl rfl ?_
      refine mx_iret d_M_mouth_52 rfl ?_
      exact Or.inl ⟨hP, rfl, rfl⟩
    · refine mx_iconst d_M_mouth_35 ?_
      refine mx_iret d_M_mouth_36 rfl ?_
      exact Or.inr ⟨by omega, rfl, rfl⟩
  · refine mx_iload_n 1 d_M_mouth_1 rfl rfl ?_
    refine mx_iconst d_M_mouth_2 ?_
    refine mx_bipush d_M_mouth_3 (by decide) ?_
    refine mx_callS (kc := 0) (ks := 0) (N := n_M_in) (as := [_, _, _]) d_M_mouth_5 s_M_126 ⟨Nat.le_of_ble_eq_true rfl, Nat.le_of_ble_eq_true rfl⟩ rfl (mj_wt_8 (Nat.le_of_ble_eq_true rfl)) (cm_in hw (r32_mk (by omega) (by omega)) (r32_mk (by omega) (by omega))) (fun r_5 A_5 h_5 => ?_) (fun E_5 A_x h_5 => ?_)
    rotate_left
    · exact h_5.elim
    obtain ⟨rfl, hA_5⟩ := h_5
    obtain rfl := hA_5.symm
    clear hA_5
    refine mx_R fun hR_2 => ?_
    refine mx_if_eq 28 d_M_mouth_8 rfl (by first | assumption | exact hR_2 _ _ | exact hR _ _ | exact r32_mk (by omega) (by omega)) (fun c_8 => ?_) (fun c_8 => ?_)
    · refine mx_iconst d_M_mouth_28 ?_
      first | exact mj_j1 hJ_1 (by omega) | exact mj_j0 hJ_1 (by omega)
    · refine mx_iload_n 2 d_M_mouth_11 rfl rfl ?_
      refine mx_iconst d_M_mouth_12 ?_
      refine mx_icmp_eq 24 d_M_mouth_13 rfl (by first | assumption | exact hR_2 _ _ | exact hR _ _ | exact r32_mk (by omega) (by omega)) (by first | assumption | exact hR_2 _ _ | exact hR _ _ | exact r32_mk (by omega) (by omega)) (fun c_13 => ?_) (fun c_13 => ?_)
      · refine mx_iconst d_M_mouth_24 ?_
        refine mx_goto 29 d_M_mouth_25 rfl ?_
        first | exact mj_j1 hJ_1 (by omega) | exact mj_j0 hJ_1 (by omega)
      · refine mx_aload_n 0 d_M_mouth_16 rfl rfl ?_
        refine mx_iload_n 2 d_M_mouth_17 rfl rfl ?_
        refine mx_callV (kc := 0) (ks := 0) (N := n_M_isDrawing) (as := [_]) (ci := 7) d_M_mouth_18 s_M_130 ⟨Nat.le_of_ble_eq_true rfl, Nat.le_of_ble_eq_true rfl⟩ rfl (mj_wt_8 (Nat.le_of_ble_eq_true rfl)) (hM.o) ⟨_, rfl, rfl⟩ (cm_isDrawing hM hd hg.nd) (fun r_18 A_18 h_18 => ?_) (fun E_18 A_x h_18 => ?_)
        rotate_left
        · exact h_18.elim
        obtain ⟨rfl, hA_18⟩ := h_18
        obtain rfl := hA_18.symm
        clear hA_18
        refine mx_R fun hR_3 => ?_
        refine mx_if_eq 28 d_M_mouth_21 rfl (by first | assumption | exact hR_3 _ _ | exact hR_2 _ _ | exact hR _ _ | exact r32_mk (by omega) (by omega)) (fun c_21 => ?_) (fun c_21 => ?_)
        · refine mx_iconst d_M_mouth_28 ?_
          first | exact mj_j1 hJ_1 (by omega) | exact mj_j0 hJ_1 (by omega)
        · refine mx_iconst d_M_mouth_24 ?_
          refine mx_goto 29 d_M_mouth_25 rfl ?_
          first | exact mj_j1 hJ_1 (by omega) | exact mj_j0 hJ_1 (by omega)
theorem cm_speaks {s l : Int} (hM : MS A) (hg : mo_rg A) (hs : r32 s) (hl : r32 l) (hv : ∀ k, gI A 228 k = 0 ∨ gI A 228 k = 1) : mj_Cal G n_M_speaks [mR (some 200), mI s, mI l] A (fun r A' => ((0 ≤ s ∧ s < gI A 200 23 ∧ 0 ≤ l ∧ l ≤ 3) ∧ r = some (mI (1 - gI A 228 (4 * s + l))) ∧ A' = sI (sI A 200 0 0) 228 (4 * s + l) (1 - gI A 228 (4 * s + l))) ∨ (¬ (0 ≤ s ∧ s < gI A 200 23 ∧ 0 ≤ l ∧ l ≤ 3) ∧ r = some (mI 0) ∧ A' = sI A 200 0 (if (0 ≤ s ∧ s < gI A 200 23 ∧ 0 ≤ l ∧ l ≤ 3) then 0 else 1))) mj_no := by
  refine mj_bodyK 0 0 [some (mR (some 200)), some (mI s), some (mI l)] rfl rfl rfl (by decide +kernel) (Nat.le_of_ble_eq_true rfl) (by simp) rfl ?_
  have hns := hg.ns
  refine mx_R fun hR => ?_
  refine mx_aload_n 0 d_M_speaks_0 rfl rfl ?_
  refine mx_aload_n 0 d_M_speaks_1 rfl rfl ?_
  refine mx_iload_n 1 d_M_speaks_2 rfl rfl ?_
  refine mx_iload_n 2 d_M_speaks_3 rfl rfl ?_
  refine mx_callV (kc := 0) (ks := 0) (N := n_M_isLevel) (as := [_, _]) (ci := 7) d_M_speaks_4 s_M_199 ⟨Nat.le_of_ble_eq_true rfl, Nat.le_of_ble_eq_true rfl⟩ rfl (mj_wt_8 (Nat.le_of_ble_eq_true rfl)) (hM.o) ⟨_, rfl, rfl⟩ (cm_isLevel hM hs hl hg.ns) (fun r_4 A_4 h_4 => ?_) (fun E_4 A_x h_4 => ?_)
  rotate_left
  · exact h_4.elim
  obtain ⟨rfl, hA_4⟩ := h_4
  obtain rfl := hA_4.symm
  clear hA_4
  refine mx_R fun hR_1 => ?_
  refine mx_callV (kc := 0) (ks := 0) (N := n_M_asked1) (as := [_]) (ci := 7) d_M_speaks_7 s_M_138 ⟨Nat.le_of_ble_eq_true rfl, Nat.le_of_ble_eq_true rfl⟩ rfl (mj_wt_8 (Nat.le_of_ble_eq_true rfl)) (hM.o) ⟨_, rfl, rfl⟩ (cm_asked1 _ hM) (fun r_7 A_7 h_7 => ?_) (fun E_7 A_x h_7 => ?_)
  rotate_left
  · exact h_7.elim
  obtain ⟨rfl, hA_7⟩ := h_7
  obtain rfl := hA_7.symm
  clear hA_7
  refine mx_R fun hR_2 => ?_
  refine mx_if_ne 15 d_M_speaks_10 rfl (by first | assumption | exact hR_2 _ _ | exact hR_1 _ _ | exact hR _ _ | exact r32_mk (by omega) (by omega)) (fun c_10 => ?_) (fun c_10 => ?_)
  · have hP : (0 ≤ s ∧ s < gI A 200 23 ∧ 0 ≤ l ∧ l ≤ 3) := by omega
    rw [if_pos hP]
    have hv1 := hv (4 * s + l)
    refine mx_R fun hR => ?_
    refine mx_aload_n 0 d_M_speaks_15 rfl rfl ?_
    refine mx_getPs 28 d_M_speaks_16 f_M_77 rfl rfl (hM.o) (hM.p28) ?_
    refine mx_iconst d_M_speaks_19 ?_
    refine mx_iload_n 1 d_M_speaks_20 rfl rfl ?_
    refine mx_imul d_M_speaks_21 ?_
    refine mx_iload_n 2 d_M_speaks_22 rfl rfl ?_
    refine mx_iadd d_M_speaks_23 ?_
    refine mj_cutI ( 1 - gI A 228 (4 * s + l)) 42 ?_ (fun hJ_24 => ?_)
    · refine mx_zast d_M_speaks_42 (hM.s28) (by omega) (by omega) (by omega) ?_
      refine mx_R fun hR_1 => ?_
      refine mx_aload_n 0 d_M_speaks_43 rfl rfl ?_
      refine mx_getPs 28 d_M_speaks_44 f_M_77 rfl rfl (hM.o) (hM.p28) ?_
      refine mx_iconst d_M_speaks_47 ?_
      refine mx_iload_n 1 d_M_speaks_48 rfl rfl ?_
      refine mx_imul d_M_speaks_49 ?_
      refine mx_iload_n 2 d_M_speaks_50 rfl rfl ?_
      refine mx_iadd d_M_speaks_51 ?_
      refine mx_zald d_M_speaks_52 (hM.s28) (by omega) (by omega) ?_
      (try simp only [gI_sI, gI_sF, gI_sP, gI_sN, gP_sI, gP_sF, gP_sP, gP_sN, gS_sI, gS_sF, gS_sP, gS_sN, Int.reduceEq, false_and, and_false, true_and, and_true, eq_self, if_false, if_true, reduceIte, reduceCtorEq])
      refine mx_zret d_M_speaks_53 rfl (by omega) ?_
      exact Or.inl ⟨hP, rfl, rfl⟩
    · refine mx_aload_n 0 d_M_speaks_24 rfl rfl ?_
      refine mx_getPs 28 d_M_speaks_25 f_M_77 rfl rfl (hM.o) (hM.p28) ?_
      refine mx_iconst d_M_speaks_28 ?_
      refine mx_iload_n 1 d_M_speaks_29 rfl rfl ?_
      refine mx_imul d_M_speaks_30 ?_
      refine mx_iload_n 2 d_M_speaks_31 rfl rfl ?_
      refine mx_iadd d_M_speaks_32 ?_
      refine mx_zald d_M_speaks_33 (hM.s28) (by omega) (by omega) ?_
      refine mx_if_ne 41 d_M_speaks_34 rfl (by first | assumption | exact hR _ _ | exact r32_mk (by omega) (by omega)) (fun c_34 => ?_) (fun c_34 => ?_)
      · refine mx_iconst d_M_speaks_41 ?_
        exact mj_ji hJ_24 (by (have h9 : gI (sI A 200 0 0) 228 (4 * s + l) = gI A 228 (4 * s + l) := rfl; omega))
      · refine mx_iconst d_M_speaks_37 ?_
        refine mx_goto 42 d_M_speaks_38 rfl ?_
        exact mj_ji hJ_24 (by (have h9 : gI (sI A 200 0 0) 228 (4 * s + l) = gI A 228 (4 * s + l) := rfl; omega))
  · refine mx_iconst d_M_speaks_13 ?_
    refine mx_zret d_M_speaks_14 rfl (by first | exact Or.inl rfl | exact Or.inr rfl | omega) ?_
    exact Or.inr ⟨by omega, rfl, rfl⟩
theorem cm_peg {w : Int} (hM : MS A) (hn : 0 ≤ gI A 200 32 ∧ gI A 200 32 ≤ 6) (hw : r32 w) : mj_Cal G n_M_peg [mR (some 200), mI w] A (fun r A' => (((w = -1 ∨ (0 ≤ w ∧ w < gI A 200 32)) ∧ gI A 200 32 < 6) ∧ r = some (mI (gI A 200 32)) ∧ A' = sI (sI (sI A 200 0 0) 233 (gI A 200 32) w) 200 32 (gI A 200 32 + 1)) ∨ (¬ ((w = -1 ∨ (0 ≤ w ∧ w < gI A 200 32)) ∧ gI A 200 32 < 6) ∧ r = some (mI 0) ∧ A' = sI A 200 0 (if (w = -1 ∨ (0 ≤ w ∧ w < gI A 200 32)) then (if gI A 200 32 < 6 then 0 else 2) else 1))) mj_no := by
  refine mj_bodyK 0 0 [some (mR (some 200)), some (mI w)] rfl rfl rfl (by decide +kernel) (Nat.le_of_ble_eq_true rfl) (by simp) rfl ?_
  refine mx_R fun hR => ?_
  refine mx_aload_n 0 d_M_peg_0 rfl rfl ?_
  refine mj_cutB ((w = -1 ∨ (0 ≤ w ∧ w < gI A 200 32))) 25 ?_ (fun hJ_1 => ?_)
  · refine mj_cutB (gI A 200 32 < 6) 39 ?_ (fun hJ_25 => ?_)
    · refine mx_callV (kc := 0) (ks := 0) (N := n_M_asked2) (as := [_, _]) (ci := 7) d_M_peg_39 s_M_166 ⟨Nat.le_of_ble_eq_true rfl, Nat.le_of_ble_eq_true rfl⟩ rfl (mj_wt_8 (Nat.le_of_ble_eq_true rfl)) (hM.o) ⟨_, rfl, rfl⟩ (cm_asked2 _ _ hM) (fun r_39 A_39 h_39 => ?_) (fun E_39 A_x h_39 => ?_)
      rotate_left
      · exact h_39.elim
      obtain ⟨rfl, hA_39⟩ := h_39
      obtain rfl := hA_39.symm
      clear hA_39
      refine mx_R fun hR_1 => ?_
      refine mx_if_ne 47 d_M_peg_42 rfl (by first | assumption | exact hR_1 _ _ | exact hR _ _ | exact r32_mk (by omega) (by omega)) (fun c_42 => ?_) (fun c_42 => ?_)
      · have hP : (w = -1 ∨ (0 ≤ w ∧ w < gI A 200 32)) ∧ gI A 200 32 < 6 := by omega
        rw [if_pos hP.1, if_pos hP.2]
        refine mx_R fun hR => ?_
        refine mx_aload_n 0 d_M_peg_47 rfl rfl ?_
        refine mx_getPs 33 d_M_peg_48 f_M_89 rfl rfl (hM.o) (hM.p33) ?_
        refine mx_aload_n 0 d_M_peg_51 rfl rfl ?_
        refine mx_getI 32 d_M_peg_52 f_M_208 rfl rfl (hM.o) ?_
        refine mx_iload_n 1 d_M_peg_55 rfl rfl ?_
        refine mx_iast d_M_peg_56 (hM.s33) (by (try simp only [gI_sI, gI_sF, gI_sP, gI_sN, gP_sI, gP_sF, gP_sP, gP_sN, gS_sI, gS_sF, gS_sP, gS_sN, Int.reduceEq, false_and, and_false, true_and, and_true, eq_self, if_false, if_true, reduceIte, reduceCtorEq]); omega) (by (try simp only [gI_sI, gI_sF, gI_sP, gI_sN, gP_sI, gP_sF, gP_sP, gP_sN, gS_sI, gS_sF, gS_sP, gS_sN, Int.reduceEq, false_and, and_false, true_and, and_true, eq_self, if_false, if_true, reduceIte, reduceCtorEq]); omega) (by first | assumption | exact hR _ _ | exact r32_mk (by omega) (by omega)) ?_
        refine mx_R fun hR_1 => ?_
        refine mx_aload_n 0 d_M_peg_57 rfl rfl ?_
        refine mx_dup d_M_peg_58 (fun z h => by cases h) ?_
        refine mx_getI 32 d_M_peg_59 f_M_208 rfl rfl (hM.o) ?_
        (try simp only [gI_sI, gI_sF, gI_sP, gI_sN, gP_sI, gP_sF, gP_sP, gP_sN, gS_sI, gS_sF, gS_sP, gS_sN, Int.reduceEq, false_and, and_false, true_and, and_true, eq_self, if_false, if_true, reduceIte, reduceCtorEq])
        refine mx_iconst d_M_peg_62 ?_
        refine mx_iadd d_M_peg_63 ?_
        refine mx_putI 32 d_M_peg_64 f_M_208 rfl (hM.o) (Or.inl rfl) (Or.inl rfl) (by first | assumption | exact hR_1 _ _ | exact hR _ _ | exact r32_mk (by omega) (by omega)) ?_
        refine mx_R fun hR_2 => ?_
        refine mx_aload_n 0 d_M_peg_67 rfl rfl ?_
        refine mx_getI 32 d_M_peg_68 f_M_208 rfl rfl (hM.o) ?_
        (try simp only [gI_sI, gI_sF, gI_sP, gI_sN, gP_sI, gP_sF, gP_sP, gP_sN, gS_sI, gS_sF, gS_sP, gS_sN, Int.reduceEq, false_and, and_false, true_and, and_true, eq_self, if_false, if_true, reduceIte, reduceCtorEq])
        refine mx_iconst d_M_peg_71 ?_
        refine mx_isub d_M_peg_72 ?_
        refine mx_iret d_M_peg_73 rfl ?_
        exact Or.inl ⟨hP, by rw [show gI A 200 32 + 1 - 1 = gI A 200 32 by omega], rfl⟩
      · refine mx_iconst d_M_peg_45 ?_
        refine mx_iret d_M_peg_46 rfl ?_
        exact Or.inr ⟨by omega, rfl, rfl⟩
    · refine mx_aload_n 0 d_M_peg_25 rfl rfl ?_
      refine mx_getI 32 d_M_peg_26 f_M_208 rfl rfl (hM.o) ?_
      refine mx_bipush d_M_peg_29 (by decide) ?_
      refine mx_icmp_ge 38 d_M_peg_31 rfl (by first | assumption | exact hR _ _ | exact r32_mk (by omega) (by omega)) (by first | assumption | exact hR _ _ | exact r32_mk (by omega) (by omega)) (fun c_31 => ?_) (fun c_31 => ?_)
      · refine mx_iconst d_M_peg_38 ?_
        first | exact mj_j1 hJ_25 (by omega) | exact mj_j0 hJ_25 (by omega)
      · refine mx_iconst d_M_peg_34 ?_
        refine mx_goto 39 d_M_peg_35 rfl ?_
        first | exact mj_j1 hJ_25 (by omega) | exact mj_j0 hJ_25 (by omega)
  · refine mx_iload_n 1 d_M_peg_1 rfl rfl ?_
    refine mx_iconst d_M_peg_2 ?_
    refine mx_icmp_eq 20 d_M_peg_3 rfl (by first | assumption | exact hR _ _ | exact r32_mk (by omega) (by omega)) (by first | assumption | exact hR _ _ | exact r32_mk (by omega) (by omega)) (fun c_3 => ?_) (fun c_3 => ?_)
    · refine mx_iconst d_M_peg_20 ?_
      refine mx_goto 25 d_M_peg_21 rfl ?_
      first | exact mj_j1 hJ_1 (by omega) | exact mj_j0 hJ_1 (by omega)
    · refine mx_iload_n 1 d_M_peg_6 rfl rfl ?_
      refine mx_iconst d_M_peg_7 ?_
      refine mx_aload_n 0 d_M_peg_8 rfl rfl ?_
      refine mx_getI 32 d_M_peg_9 f_M_208 rfl rfl (hM.o) ?_
      refine mx_iconst d_M_peg_12 ?_
      refine mx_isub d_M_peg_13 ?_
      refine mx_callS (kc := 0) (ks := 0) (N := n_M_in) (as := [_, _, _]) d_M_peg_14 s_M_126 ⟨Nat.le_of_ble_eq_true rfl, Nat.le_of_ble_eq_true rfl⟩ rfl (mj_wt_8 (Nat.le_of_ble_eq_true rfl)) (cm_in hw (r32_mk (by omega) (by omega)) (r32_mk (by omega) (by omega))) (fun r_14 A_14 h_14 => ?_) (fun E_14 A_x h_14 => ?_)
      rotate_left
      · exact h_14.elim
      obtain ⟨rfl, hA_14⟩ := h_14
      obtain rfl := hA_14.symm
      clear hA_14
      refine mx_R fun hR_2 => ?_
      refine mx_if_eq 24 d_M_peg_17 rfl (by first | assumption | exact hR_2 _ _ | exact hR _ _ | exact r32_mk (by omega) (by omega)) (fun c_17 => ?_) (fun c_17 => ?_)
      · refine mx_iconst d_M_peg_24 ?_
        first | exact mj_j1 hJ_1 (by omega) | exact mj_j0 hJ_1 (by omega)
      · refine mx_iconst d_M_peg_20 ?_
        refine mx_goto 25 d_M_peg_21 rfl ?_
        first | exact mj_j1 hJ_1 (by omega) | exact mj_j0 hJ_1 (by omega)
end MOD6
