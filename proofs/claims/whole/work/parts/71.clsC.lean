/-! THE HOUSE, 12: scenes -/
section CLSC
variable {G : mj_G} {A : mj_M}
/-- the scenes of the house and of the reference are alike -/
def SK (A : mj_M) : Prop := (gI A 100 6 = gI A 200 23) ∧ (SS A (gI A 200 23)) ∧ (∀ s, 0 ≤ s → s < gI A 200 23 → gP A 106 s = some (4000 + 100 * s)) ∧ (∀ s, 0 ≤ s → s < gI A 200 23 → gI A (4000 + 100 * s) 0 = gI A 224 s) ∧ (∀ s, 0 ≤ s → s < gI A 200 23 → gI A (4000 + 100 * s) 1 = gI A 225 s) ∧ (∀ s, 0 ≤ s → s < gI A 200 23 → ∀ l f, 0 ≤ l → l ≤ 3 → 0 ≤ f → f < gI A 224 s → gI A (4000 + 100 * s + 1) (l * gI A 224 s + f) = gI A 226 (24 * (4 * s + l) + f)) ∧ (∀ s, 0 ≤ s → s < gI A 200 23 → ∀ f, 0 ≤ f → f < gI A 224 s → gI A (4000 + 100 * s + 2) f = if gI A 227 (24 * s + f) = -2 then -3 else gI A 227 (24 * s + f)) ∧ (∀ s, 0 ≤ s → s < gI A 200 23 → ∀ l, 0 ≤ l → l ≤ 3 → gI A (4000 + 100 * s + 3) l = gI A 228 (4 * s + l)) ∧ (∀ s, 0 ≤ s → s < gI A 200 23 → ∀ l, 0 ≤ l → l ≤ 3 → gP A (4000 + 100 * s + 4) l = pp (gI A 229 (5 * s + l))) ∧ (∀ s, 0 ≤ s → s < gI A 200 23 → ∀ l, 0 ≤ l → l ≤ 3 → gI A (4000 + 100 * s + 5) l = gI A 230 (5 * s + l)) ∧ (∀ s, 0 ≤ s → s < gI A 200 23 → gP A (4000 + 100 * s) 7 = pp (gI A 229 (5 * s + 4))) ∧ (∀ s, gI A 200 23 ≤ s → s < 6 → ∀ j, 0 ≤ j → j ≤ 6 → gS A (4000 + 100 * s + j) = none) ∧ (∀ k, 24 * gI A 200 23 ≤ k → gI A 238 k = 0) ∧ (∀ k, 4 * gI A 200 23 ≤ k → gI A 228 k = 0) ∧ (∀ k, gI A 238 k = 0 ∨ gI A 238 k = 1) ∧ (∀ k, 0 ≤ k → k < 8 → gI A 108 k = gI A 231 k) ∧ (∀ k, 0 ≤ k → k < 32 → gI A 105 k = gI A 222 k)
theorem SK.n {A : mj_M} (h : SK A) : gI A 100 6 = gI A 200 23 := h.1
theorem SK.S {A : mj_M} (h : SK A) : SS A (gI A 200 23) := h.2.1
theorem SK.r {A : mj_M} (h : SK A) : ∀ s, 0 ≤ s → s < gI A 200 23 → gP A 106 s = some (4000 + 100 * s) := h.2.2.1
theorem SK.fr {A : mj_M} (h : SK A) : ∀ s, 0 ≤ s → s < gI A 200 23 → gI A (4000 + 100 * s) 0 = gI A 224 s := h.2.2.2.1
theorem SK.pal {A : mj_M} (h : SK A) : ∀ s, 0 ≤ s → s < gI A 200 23 → gI A (4000 + 100 * s) 1 = gI A 225 s := h.2.2.2.2.1
theorem SK.sh {A : mj_M} (h : SK A) : ∀ s, 0 ≤ s → s < gI A 200 23 → ∀ l f, 0 ≤ l → l ≤ 3 → 0 ≤ f → f < gI A 224 s → gI A (4000 + 100 * s + 1) (l * gI A 224 s + f) = gI A 226 (24 * (4 * s + l) + f) := h.2.2.2.2.2.1
theorem SK.so {A : mj_M} (h : SK A) : ∀ s, 0 ≤ s → s < gI A 200 23 → ∀ f, 0 ≤ f → f < gI A 224 s → gI A (4000 + 100 * s + 2) f = if gI A 227 (24 * s + f) = -2 then -3 else gI A 227 (24 * s + f) := h.2.2.2.2.2.2.1
theorem SK.sp {A : mj_M} (h : SK A) : ∀ s, 0 ≤ s → s < gI A 200 23 → ∀ l, 0 ≤ l → l ≤ 3 → gI A (4000 + 100 * s + 3) l = gI A 228 (4 * s + l) := h.2.2.2.2.2.2.2.1
theorem SK.pg {A : mj_M} (h : SK A) : ∀ s, 0 ≤ s → s < gI A 200 23 → ∀ l, 0 ≤ l → l ≤ 3 → gP A (4000 + 100 * s + 4) l = pp (gI A 229 (5 * s + l)) := h.2.2.2.2.2.2.2.2.1
theorem SK.de {A : mj_M} (h : SK A) : ∀ s, 0 ≤ s → s < gI A 200 23 → ∀ l, 0 ≤ l → l ≤ 3 → gI A (4000 + 100 * s + 5) l = gI A 230 (5 * s + l) := h.2.2.2.2.2.2.2.2.2.1
theorem SK.cm {A : mj_M} (h : SK A) : ∀ s, 0 ≤ s → s < gI A 200 23 → gP A (4000 + 100 * s) 7 = pp (gI A 229 (5 * s + 4)) := h.2.2.2.2.2.2.2.2.2.2.1
theorem SK.f {A : mj_M} (h : SK A) : ∀ s, gI A 200 23 ≤ s → s < 6 → ∀ j, 0 ≤ j → j ≤ 6 → gS A (4000 + 100 * s + j) = none := h.2.2.2.2.2.2.2.2.2.2.2.1
theorem SK.z1 {A : mj_M} (h : SK A) : ∀ k, 24 * gI A 200 23 ≤ k → gI A 238 k = 0 := h.2.2.2.2.2.2.2.2.2.2.2.2.1
theorem SK.z2 {A : mj_M} (h : SK A) : ∀ k, 4 * gI A 200 23 ≤ k → gI A 228 k = 0 := h.2.2.2.2.2.2.2.2.2.2.2.2.2.1
theorem SK.b {A : mj_M} (h : SK A) : ∀ k, gI A 238 k = 0 ∨ gI A 238 k = 1 := h.2.2.2.2.2.2.2.2.2.2.2.2.2.2.1
theorem SK.mo {A : mj_M} (h : SK A) : ∀ k, 0 ≤ k → k < 8 → gI A 108 k = gI A 231 k := h.2.2.2.2.2.2.2.2.2.2.2.2.2.2.2.1
theorem SK.pl {A : mj_M} (h : SK A) : ∀ k, 0 ≤ k → k < 32 → gI A 105 k = gI A 222 k := h.2.2.2.2.2.2.2.2.2.2.2.2.2.2.2.2
/-- the shots of both are alike -/
def ST (A : mj_M) : Prop := ∀ s, 0 ≤ s → s < gI A 200 23 → ∀ f p, 0 ≤ f → f < gI A 224 s → 0 ≤ p → p < 192 → gI A (4000 + 100 * s + 6) (192 * f + p) = if gI A 238 (24 * s + f) = 0 then -1 else gI A 239 (192 * (24 * s + f) + p)
theorem lm_b {l n : Int} (hl : 0 ≤ l ∧ l ≤ 3) (hn : 0 ≤ n) : 0 ≤ l * n ∧ l * n + n ≤ 4 * n := by
  have e : l = 0 ∨ l = 1 ∨ l = 2 ∨ l = 3 := by omega
  rcases e with e | e | e | e <;> rw [e] <;> omega
theorem ct_drawingOnSheet {s l f : Int} (hk : SK A) (hg : mo_rg A) (hs : 0 ≤ s ∧ s < gI A 200 23) (hl : 0 ≤ l ∧ l ≤ 3) (hf : 0 ≤ f ∧ f < gI A 224 s) : mj_Cal G n_S_drawingOnSheet [mR (some (4000 + 100 * s)), mI l, mI f] A (fun r A' => r = some (mI (mj_sh (fun k => gI A 226 (24 * (4 * s + l) + k)) 24 f)) ∧ A' = A) mj_no := by
  refine mj_bodyK 0 0 [some (mR (some (4000 + 100 * s))), some (mI l), some (mI f), none, none] rfl rfl rfl (by decide +kernel) (Nat.le_of_ble_eq_true rfl) (by simp) rfl ?_
  have hS := hk.S
  have hfr := hg.fr s hs.1 hs.2
  have hfr0 := hk.fr s hs.1 hs.2
  have hlm := lm_b hl (n := gI A 224 s) (by omega)
  have hlp : ∀ q : Nat × Int × Option mj_V, (q.2.1 < (q.1 : Int) ∧ (-24 ≤ q.2.1 ∧ q.2.1 ≤ f) ∧ mj_sh (fun k => gI A 226 (24 * (4 * s + l) + k)) 24 f = mj_sh (fun k => gI A 226 (24 * (4 * s + l) + k)) q.1 q.2.1) → mj_X G n_S_drawingOnSheet (mj_Qm G n_S_drawingOnSheet (fun r A' => r = some (mI (mj_sh (fun k => gI A 226 (24 * (4 * s + l) + k)) 24 f)) ∧ A' = A) mj_no) A 0 0 2 [some (mR (some (4000 + 100 * s))), some (mI l), some (mI f), some (mI q.2.1), q.2.2] [] := by
    refine mj_loop _ (fun q => q.1) _ ?_
    intro ⟨n, k, o⟩ ⟨h1, h2, h3⟩ ih
    replace h1 : k < (n : Int) := h1
    replace h2 : -24 ≤ k ∧ k ≤ f := h2
    replace h3 : mj_sh (fun k => gI A 226 (24 * (4 * s + l) + k)) 24 f = mj_sh (fun k => gI A 226 (24 * (4 * s + l) + k)) n k := h3
    have hkr := hg.sh (24 * (4 * s + l) + k)
    show mj_X G n_S_drawingOnSheet _ A 0 0 2 [some (mR (some (4000 + 100 * s))), some (mI l), some (mI f), some (mI k), o] []
    refine mx_R fun hR => ?_
    refine mx_iload_n 3 d_S_drawingOnSheet_2 rfl rfl ?_
    refine mx_if_lt 58 d_S_drawingOnSheet_3 rfl (by first | assumption | exact hR _ _ | exact r32_mk (by omega) (by omega)) (fun c_3 => ?_) (fun c_3 => ?_)
    · refine mx_iconst d_S_drawingOnSheet_58 ?_
      refine mx_iret d_S_drawingOnSheet_59 rfl ?_
      exact ⟨by rw [h3, mj_sh_lt (by omega)], rfl⟩
    · refine mx_aload_n 0 d_S_drawingOnSheet_6 rfl rfl ?_
      refine mx_getPs 2 d_S_drawingOnSheet_7 f_S_18 rfl rfl (hS.o _ (by omega) (by omega)) (hS.p2 _ (by omega) (by omega)) ?_
      refine mx_iload_n 1 d_S_drawingOnSheet_10 rfl rfl ?_
      refine mx_aload_n 0 d_S_drawingOnSheet_11 rfl rfl ?_
      refine mx_getI 0 d_S_drawingOnSheet_12 f_S_9 rfl rfl (hS.o _ (by omega) (by omega)) ?_
      rw [hfr0]
      refine mx_imul d_S_drawingOnSheet_15 ?_
      refine mx_iload_n 3 d_S_drawingOnSheet_16 rfl rfl ?_
      refine mx_iadd d_S_drawingOnSheet_17 ?_
      refine mx_iald d_S_drawingOnSheet_18 (hS.s2 _ (by omega) (by omega)) (by omega) (by rw [hfr0]; omega) ?_
      rw [hk.sh s hs.1 hs.2 l k hl.1 hl.2 (by omega) (by omega)]
      refine mx_istore 4 d_S_drawingOnSheet_19 (Nat.le_of_ble_eq_true rfl) ?_
      refine mx_iload 4 d_S_drawingOnSheet_21 rfl ?_
      refine mx_bipush d_S_drawingOnSheet_23 (by decide) ?_
      refine mx_icmp_ne 34 d_S_drawingOnSheet_25 rfl (by first | assumption | exact hR _ _ | exact r32_mk (by omega) (by omega)) (by first | assumption | exact hR _ _ | exact r32_mk (by omega) (by omega)) (fun c_25 => ?_) (fun c_25 => ?_)
      · refine mx_iload 4 d_S_drawingOnSheet_34 rfl ?_
        refine mx_bipush d_S_drawingOnSheet_36 (by decide) ?_
        refine mx_icmp_le 52 d_S_drawingOnSheet_38 rfl (by first | assumption | exact hR _ _ | exact r32_mk (by omega) (by omega)) (by first | assumption | exact hR _ _ | exact r32_mk (by omega) (by omega)) (fun c_38 => ?_) (fun c_38 => ?_)
        · refine mx_iload 4 d_S_drawingOnSheet_52 rfl ?_
          refine mx_iret d_S_drawingOnSheet_54 rfl ?_
          obtain ⟨m, rfl⟩ : ∃ m, n = m + 1 := ⟨n - 1, by omega⟩
          exact ⟨by rw [h3, mj_sh, if_neg (by omega), if_pos (by omega)], rfl⟩
        · refine mx_iload_n 3 d_S_drawingOnSheet_41 rfl rfl ?_
          refine mx_iload 4 d_S_drawingOnSheet_42 rfl ?_
          refine mx_bipush d_S_drawingOnSheet_44 (by decide) ?_
          refine mx_isub d_S_drawingOnSheet_46 ?_
          refine mx_isub d_S_drawingOnSheet_47 ?_
          refine mx_istore_n 3 d_S_drawingOnSheet_48 rfl (Nat.le_of_ble_eq_true rfl) ?_
          refine mx_goto 55 d_S_drawingOnSheet_49 rfl ?_
          refine mx_goto 2 d_S_drawingOnSheet_55 rfl ?_
          obtain ⟨m, rfl⟩ : ∃ m, n = m + 1 := ⟨n - 1, by omega⟩
          refine ih (m, _, _) ⟨?_, ?_, ?_⟩ (by show m < m + 1; omega)
          · first | (show k + -1 < (m : Int); omega) | (show k - (gI A 226 _ - 99) < (m : Int); omega)
          · first | (show -24 ≤ k + -1 ∧ k + -1 ≤ f; omega) | (show -24 ≤ k - (gI A 226 _ - 99) ∧ k - (gI A 226 _ - 99) ≤ f; omega)
          · refine Eq.trans h3 ?_
            show mj_sh _ (m + 1) k = mj_sh _ m _
            rw [mj_sh, if_neg (by omega), if_neg (by omega)]
            first
              | (rw [if_pos (by assumption)]; rfl)
              | (rw [if_neg (by assumption)])
      · refine mx_iinc 3 d_S_drawingOnSheet_28 rfl (Nat.le_of_ble_eq_true rfl) ?_
        refine mx_goto 55 d_S_drawingOnSheet_31 rfl ?_
        refine mx_goto 2 d_S_drawingOnSheet_55 rfl ?_
        obtain ⟨m, rfl⟩ : ∃ m, n = m + 1 := ⟨n - 1, by omega⟩
        refine ih (m, _, _) ⟨?_, ?_, ?_⟩ (by show m < m + 1; omega)
        · first | (show k + -1 < (m : Int); omega) | (show k - (gI A 226 _ - 99) < (m : Int); omega)
        · first | (show -24 ≤ k + -1 ∧ k + -1 ≤ f; omega) | (show -24 ≤ k - (gI A 226 _ - 99) ∧ k - (gI A 226 _ - 99) ≤ f; omega)
        · refine Eq.trans h3 ?_
          show mj_sh _ (m + 1) k = mj_sh _ m _
          rw [mj_sh, if_neg (by omega), if_neg (by omega)]
          first
            | (rw [if_pos (by assumption)]; rfl)
            | (rw [if_neg (by assumption)])
  refine mx_R fun hR => ?_
  refine mx_iload_n 2 d_S_drawingOnSheet_0 rfl rfl ?_
  refine mx_istore_n 3 d_S_drawingOnSheet_1 rfl (Nat.le_of_ble_eq_true rfl) ?_
  exact hlp (24, f, none) ⟨by show f < ((24 : Nat) : Int); omega, by show -24 ≤ f ∧ f ≤ f; omega, rfl⟩
theorem ct_soundAt {s f : Int} (hk : SK A) (hg : mo_rg A) (hs : 0 ≤ s ∧ s < gI A 200 23) (hf : 0 ≤ f ∧ f < gI A 224 s) : mj_Cal G n_S_soundAt [mR (some (4000 + 100 * s)), mI f] A (fun r A' => r = some (mI (mj_bk (fun k => gI A 227 (24 * s + k)) (-2) 24 f)) ∧ A' = A) mj_no := by
  refine mj_bodyK 0 0 [some (mR (some (4000 + 100 * s))), some (mI f), none] rfl rfl rfl (by decide +kernel) (Nat.le_of_ble_eq_true rfl) (by simp) rfl ?_
  have hS := hk.S
  have hfr := hg.fr s hs.1 hs.2
  have hfr0 := hk.fr s hs.1 hs.2
  have hl : ∀ q : Nat × Int, (q.2 < (q.1 : Int) ∧ (-1 ≤ q.2 ∧ q.2 ≤ f) ∧ mj_bk (fun k => gI A 227 (24 * s + k)) (-2) 24 f = mj_bk (fun k => gI A 227 (24 * s + k)) (-2) q.1 q.2) → mj_X G n_S_soundAt (mj_Qm G n_S_soundAt (fun r A' => r = some (mI (mj_bk (fun k => gI A 227 (24 * s + k)) (-2) 24 f)) ∧ A' = A) mj_no) A 0 0 2 [some (mR (some (4000 + 100 * s))), some (mI f), some (mI q.2)] [] := by
    refine mj_loop _ (fun q => q.1) _ ?_
    intro ⟨n, k⟩ ⟨h1, h2, h3⟩ ih
    replace h1 : k < (n : Int) := h1
    replace h2 : -1 ≤ k ∧ k ≤ f := h2
    replace h3 : mj_bk (fun k => gI A 227 (24 * s + k)) (-2) 24 f = mj_bk (fun k => gI A 227 (24 * s + k)) (-2) n k := h3
    have hvo := hg.vo (24 * s + k)
    show mj_X G n_S_soundAt _ A 0 0 2 [some (mR (some (4000 + 100 * s))), some (mI f), some (mI k)] []
    refine mx_R fun hR => ?_
    refine mx_iload_n 2 d_S_soundAt_2 rfl rfl ?_
    refine mx_if_lt 30 d_S_soundAt_3 rfl (by first | assumption | exact hR _ _ | exact r32_mk (by omega) (by omega)) (fun c_3 => ?_) (fun c_3 => ?_)
    · refine mx_iconst d_S_soundAt_30 ?_
      refine mx_iret d_S_soundAt_31 rfl ?_
      exact ⟨by rw [h3, mj_bk_lt (by omega)], rfl⟩
    · refine mx_aload_n 0 d_S_soundAt_6 rfl rfl ?_
      refine mx_getPs 3 d_S_soundAt_7 f_S_28 rfl rfl (hS.o _ (by omega) (by omega)) (hS.p3 _ (by omega) (by omega)) ?_
      refine mx_iload_n 2 d_S_soundAt_10 rfl rfl ?_
      refine mx_iald d_S_soundAt_11 (hS.s3 _ (by omega) (by omega)) (by omega) (by rw [hfr0]; omega) ?_
      rw [hk.so s hs.1 hs.2 k (by omega) (by omega)]
      refine mx_bipush d_S_soundAt_12 (by decide) ?_
      refine mx_icmp_eq 24 d_S_soundAt_14 rfl (by first | assumption | exact hR _ _ | exact r32_mk (by omega) (by omega)) (by first | assumption | exact hR _ _ | exact r32_mk (by omega) (by omega)) (fun c_14 => ?_) (fun c_14 => ?_)
      · refine mx_iinc 2 d_S_soundAt_24 rfl (Nat.le_of_ble_eq_true rfl) ?_
        refine mx_goto 2 d_S_soundAt_27 rfl ?_
        obtain ⟨m, rfl⟩ : ∃ m, n = m + 1 := ⟨n - 1, by omega⟩
        refine ih (m, k + -1) ⟨by show k + -1 < (m : Int); omega, by show -1 ≤ k + -1 ∧ k + -1 ≤ f; omega, ?_⟩ (by show m < m + 1; omega)
        rw [h3]
        show mj_bk _ _ (m + 1) k = mj_bk _ _ m (k + -1)
        have he : gI A 227 (24 * s + k) = -2 := by
          by_cases e : gI A 227 (24 * s + k) = -2
          · exact e
          · rw [if_neg e] at c_14
            omega
        rw [mj_bk, if_neg (by omega), if_pos he]
        rfl
      · refine mx_aload_n 0 d_S_soundAt_17 rfl rfl ?_
        refine mx_getPs 3 d_S_soundAt_18 f_S_28 rfl rfl (hS.o _ (by omega) (by omega)) (hS.p3 _ (by omega) (by omega)) ?_
        refine mx_iload_n 2 d_S_soundAt_21 rfl rfl ?_
        refine mx_iald d_S_soundAt_22 (hS.s3 _ (by omega) (by omega)) (by omega) (by rw [hfr0]; omega) ?_
        rw [hk.so s hs.1 hs.2 k (by omega) (by omega)]
        refine mx_iret d_S_soundAt_23 rfl ?_
        obtain ⟨m, rfl⟩ : ∃ m, n = m + 1 := ⟨n - 1, by omega⟩
        refine ⟨?_, rfl⟩
        have hne : gI A 227 (24 * s + k) ≠ -2 := by
          intro e
          rw [if_pos e] at c_14
          exact c_14 rfl
        rw [h3, if_neg hne, mj_bk, if_neg (by omega), if_neg hne]
  refine mx_R fun hR => ?_
  refine mx_iload_n 1 d_S_soundAt_0 rfl rfl ?_
  refine mx_istore_n 2 d_S_soundAt_1 rfl (Nat.le_of_ble_eq_true rfl) ?_
  exact hl (24, f) ⟨by show f < ((24 : Nat) : Int); omega, by show -1 ≤ f ∧ f ≤ f; omega, rfl⟩
theorem ct_drawingAt {s l f : Int} (hH : HS A) (hk : SK A) (hg : mo_rg A) (hs : 0 ≤ s ∧ s < gI A 200 23) (hl : 0 ≤ l ∧ l ≤ 3) (hf : 0 ≤ f ∧ f < gI A 224 s) : mj_Cal G n_H_drawingAt [mR (some 100), mR (some (4000 + 100 * s)), mI l, mI f] A (fun r A' => r = some (mI (mo_ha A s l f)) ∧ A' = A) mj_no := by
  refine mj_bodyK 0 0 [some (mR (some 100)), some (mR (some (4000 + 100 * s))), some (mI l), some (mI f), none] rfl rfl rfl (by decide +kernel) (Nat.le_of_ble_eq_true rfl) (by simp) rfl ?_
  have hS := hk.S
  have hfr := hg.fr s hs.1 hs.2
  have hfr0 := hk.fr s hs.1 hs.2
  refine mx_R fun hR => ?_
  refine mx_aload_n 1 d_H_drawingAt_0 rfl rfl ?_
  refine mx_getPs 4 d_H_drawingAt_1 f_H_199 rfl rfl (hS.o _ (by omega) (by omega)) (hS.p4 _ (by omega) (by omega)) ?_
  refine mx_iload_n 2 d_H_drawingAt_4 rfl rfl ?_
  refine mx_zald d_H_drawingAt_5 (hS.s4 _ (by omega) (by omega)) (by omega) (by omega) ?_
  rw [hk.sp s hs.1 hs.2 l hl.1 hl.2]
  refine mx_if_ne 16 d_H_drawingAt_6 rfl (by first | assumption | exact hR _ _ | exact r32_mk (by omega) (by omega)) (fun c_6 => ?_) (fun c_6 => ?_)
  · refine mx_aload_n 1 d_H_drawingAt_16 rfl rfl ?_
    refine mx_iload_n 3 d_H_drawingAt_17 rfl rfl ?_
    refine mx_iconst d_H_drawingAt_18 ?_
    refine mx_iadd d_H_drawingAt_19 ?_
    refine mx_aload_n 1 d_H_drawingAt_20 rfl rfl ?_
    refine mx_getI 0 d_H_drawingAt_21 f_H_184 rfl rfl (hS.o _ (by omega) (by omega)) ?_
    rw [hfr0]
    refine mx_iconst d_H_drawingAt_24 ?_
    refine mx_isub d_H_drawingAt_25 ?_
    refine mx_min d_H_drawingAt_26 s_H_408 (Nat.le_of_ble_eq_true rfl) (mj_wt_13 (Nat.le_of_ble_eq_true rfl)) (by first | assumption | exact hR _ _ | exact r32_mk (by omega) (by omega)) (by first | assumption | exact hR _ _ | exact r32_mk (by omega) (by omega)) ?_
    rw [show (if gI A 224 s - 1 < f + 1 then gI A 224 s - 1 else f + 1) = (if f + 1 < gI A 224 s then f + 1 else f) by omega]
    refine mx_callV (kc := 0) (ks := 0) (N := n_S_soundAt) (as := [_]) (ci := 4) d_H_drawingAt_29 s_H_193 ⟨Nat.le_of_ble_eq_true rfl, Nat.le_of_ble_eq_true rfl⟩ rfl (mj_wt_8 (Nat.le_of_ble_eq_true rfl)) (hS.o _ (by omega) (by omega)) ⟨_, rfl, rfl⟩ (ct_soundAt hk hg hs ⟨by split <;> omega, by split <;> omega⟩) (fun r_29 A_29 h_29 => ?_) (fun E_29 A_x h_29 => ?_)
    rotate_left
    · exact h_29.elim
    obtain ⟨rfl, hA_29⟩ := h_29
    obtain rfl := hA_29.symm
    clear hA_29
    refine mx_R fun hR_1 => ?_
    refine mx_istore 4 d_H_drawingAt_32 (Nat.le_of_ble_eq_true rfl) ?_
    have hb2 : -1 ≤ mj_bk (fun k => gI A 227 (24 * s + k)) (-2) 24 (if f + 1 < gI A 224 s then f + 1 else f) ∧ mj_bk (fun k => gI A 227 (24 * s + k)) (-2) 24 (if f + 1 < gI A 224 s then f + 1 else f) ≤ 7 := by
      rcases mj_bk_cases (v := (fun k => gI A 227 (24 * s + k))) (x := -2) 24 (if f + 1 < gI A 224 s then f + 1 else f) with e | ⟨k, h1, h2, h3, h4⟩
      · rw [e]; omega
      · have h5 := hg.vo (24 * s + k)
        have h7 : gI A 227 (24 * s + k) ≠ -2 := h3
        rw [h4]
        show -1 ≤ gI A 227 (24 * s + k) ∧ gI A 227 (24 * s + k) ≤ 7
        omega
    refine mx_iload 4 d_H_drawingAt_34 rfl ?_
    refine mx_iconst d_H_drawingAt_36 ?_
    refine mx_icmp_ne 44 d_H_drawingAt_37 rfl (by first | assumption | exact hR_1 _ _ | exact hR _ _ | exact r32_mk (by omega) (by omega)) (by first | assumption | exact hR_1 _ _ | exact hR _ _ | exact r32_mk (by omega) (by omega)) (fun c_37 => ?_) (fun c_37 => ?_)
    · refine mx_aload_n 0 d_H_drawingAt_44 rfl rfl ?_
      refine mx_getPs 7 d_H_drawingAt_45 f_H_25 rfl rfl (hH.o) (hH.p7) ?_
      refine mx_iload 4 d_H_drawingAt_48 rfl ?_
      refine mx_iald d_H_drawingAt_50 (hH.s7) (by omega) (by omega) ?_
      rw [hk.mo _ (by omega) (by omega)]
      refine mx_iret d_H_drawingAt_51 rfl ?_
      rw [mo_ha1 (by assumption)]
      first | exact ⟨by rw [if_pos c_37], rfl⟩ | exact ⟨by rw [if_neg c_37], rfl⟩
    · refine mx_iconst d_H_drawingAt_40 ?_
      refine mx_goto 51 d_H_drawingAt_41 rfl ?_
      refine mx_iret d_H_drawingAt_51 rfl ?_
      rw [mo_ha1 (by assumption)]
      first | exact ⟨by rw [if_pos c_37], rfl⟩ | exact ⟨by rw [if_neg c_37], rfl⟩
  · refine mx_aload_n 1 d_H_drawingAt_9 rfl rfl ?_
    refine mx_iload_n 2 d_H_drawingAt_10 rfl rfl ?_
    refine mx_iload_n 3 d_H_drawingAt_11 rfl rfl ?_
    refine mx_callV (kc := 0) (ks := 0) (N := n_S_drawingOnSheet) (as := [_, _]) (ci := 4) d_H_drawingAt_12 s_H_405 ⟨Nat.le_of_ble_eq_true rfl, Nat.le_of_ble_eq_true rfl⟩ rfl (mj_wt_8 (Nat.le_of_ble_eq_true rfl)) (hS.o _ (by omega) (by omega)) ⟨_, rfl, rfl⟩ (ct_drawingOnSheet hk hg hs hl hf) (fun r_12 A_12 h_12 => ?_) (fun E_12 A_x h_12 => ?_)
    rotate_left
    · exact h_12.elim
    obtain ⟨rfl, hA_12⟩ := h_12
    obtain rfl := hA_12.symm
    clear hA_12
    refine mx_R fun hR_2 => ?_
    refine mx_iret d_H_drawingAt_15 rfl ?_
    exact ⟨by rw [mo_ha0 (by assumption)], rfl⟩
theorem ct_shiftOf {s l f z : Int} (hk : SK A) (hg : mo_rg A) (hs : 0 ≤ s ∧ s < gI A 200 23) (hK : PK A) (hp : mo_pg A) (hh : mo_hg A) (hl : 0 ≤ l ∧ l ≤ 3) (hf : 0 ≤ f ∧ f < 24) (hz : z = 0 ∨ z = 1) : mj_Cal G n_S_shiftOf [mR (some (4000 + 100 * s)), mI l, mI f, mI z] A (fun r A' => r = some (mI (mo_mv A s l f z)) ∧ A' = A) mj_no := by
  refine mj_bodyK 0 0 [some (mR (some (4000 + 100 * s))), some (mI l), some (mI f), some (mI z), none, none] rfl rfl rfl (by decide +kernel) (Nat.le_of_ble_eq_true rfl) (by simp) rfl ?_
  have hS := hk.S
  have hns := hg.ns
  have hnp := hp.np
  have hu1 := hh.hu (5 * s + l) (by omega) (by omega)
  have hu2 := hh.hu (5 * s + 4) (by omega) (by omega)
  have hd := hh.de s l hs.1 hs.2 hl.1 hl.2
  have hde := hk.de s hs.1 hs.2 l hl.1 hl.2
  have hpl := hk.pg s hs.1 hs.2 l hl.1 hl.2
  have hcm := hk.cm s hs.1 hs.2
  have b1 := mo_po_b hp (p := gI A 229 (5 * s + l)) (z := z) hf
  have b2 := mo_po_b hp (p := gI A 229 (5 * s + 4)) (z := z) hf
  refine mx_R fun hR => ?_
  refine mj_cutI ( mo_po A (gI A 229 (5 * s + l)) f z) 24 ?_ (fun hJ_0 => ?_)
  · refine mx_istore 4 d_S_shiftOf_24 (Nat.le_of_ble_eq_true rfl) ?_
    refine mj_cutI ( mo_po A (gI A 229 (5 * s + 4)) f z) 46 ?_ (fun hJ_26 => ?_)
    · refine mx_istore 5 d_S_shiftOf_46 (Nat.le_of_ble_eq_true rfl) ?_
      refine mx_iload 4 d_S_shiftOf_48 rfl ?_
      refine mx_iload 5 d_S_shiftOf_50 rfl ?_
      refine mx_iconst d_S_shiftOf_52 ?_
      refine mx_aload_n 0 d_S_shiftOf_53 rfl rfl ?_
      refine mx_getPs 6 d_S_shiftOf_54 f_S_41 rfl rfl (hS.o _ (by omega) (by omega)) (hS.p6 _ (by omega) (by omega)) ?_
      refine mx_iload_n 1 d_S_shiftOf_57 rfl rfl ?_
      refine mx_iald d_S_shiftOf_58 (hS.s6 _ (by omega) (by omega)) (by omega) (by omega) ?_
      rw [hde]
      refine mx_max d_S_shiftOf_59 s_S_55 (Nat.le_of_ble_eq_true rfl) (mj_wt_13 (Nat.le_of_ble_eq_true rfl)) ((r32_mk (by omega) (by omega))) ((r32_mk (by omega) (by omega))) ?_
      rw [show (if (1 : Int) < gI A 230 (5 * s + l) then gI A 230 (5 * s + l) else 1) = gI A 230 (5 * s + l) by omega]
      refine mx_idiv d_S_shiftOf_62 (by first | assumption | exact hR _ _ | exact r32_mk (by omega) (by omega)) (by first | assumption | exact hR _ _ | exact r32_mk (by omega) (by omega)) (by omega) ?_
      refine mx_isub d_S_shiftOf_63 ?_
      refine mx_iret d_S_shiftOf_64 rfl ?_
      exact ⟨rfl, rfl⟩
    · refine mx_aload_n 0 d_S_shiftOf_26 rfl rfl ?_
      refine mx_getP 7 d_S_shiftOf_27 f_S_51 rfl rfl (hS.o _ (by omega) (by omega)) ?_
      rw [hcm]
      refine mx_ifnonnull 37 d_S_shiftOf_30 rfl (fun c_30 => ?_) (fun c_30 => ?_)
      · refine mx_aload_n 0 d_S_shiftOf_37 rfl rfl ?_
        refine mx_getPs 7 d_S_shiftOf_38 f_S_51 rfl rfl (hS.o _ (by omega) (by omega)) (hcm.trans (pp_s (pp_1 (by assumption)))) ?_
        refine mx_iload_n 2 d_S_shiftOf_41 rfl rfl ?_
        refine mx_iload_n 3 d_S_shiftOf_42 rfl rfl ?_
        refine mx_callV (kc := 0) (ks := 0) (N := n_P_placeAt) (as := [_, _]) (ci := 2) d_S_shiftOf_43 s_S_47 ⟨Nat.le_of_ble_eq_true rfl, Nat.le_of_ble_eq_true rfl⟩ rfl (mj_wt_8 (Nat.le_of_ble_eq_true rfl)) ((hK.S).o _ (by have := pp_1 c_30; omega) (by omega)) ⟨_, rfl, rfl⟩ (ct_placeAt hK hp ⟨by have := pp_1 c_30; omega, by omega⟩ hf hz) (fun r_43 A_43 h_43 => ?_) (fun E_43 A_x h_43 => ?_)
        rotate_left
        · exact h_43.elim
        obtain ⟨rfl, hA_43⟩ := h_43
        obtain rfl := hA_43.symm
        clear hA_43
        refine mx_R fun hR_1 => ?_
        exact mj_ji hJ_26 (by first | rfl | (unfold mo_po; rw [if_pos (pp_0 (by assumption))]))
      · refine mx_iconst d_S_shiftOf_33 ?_
        refine mx_goto 46 d_S_shiftOf_34 rfl ?_
        exact mj_ji hJ_26 (by first | rfl | (unfold mo_po; rw [if_pos (pp_0 (by assumption))]))
  · refine mx_aload_n 0 d_S_shiftOf_0 rfl rfl ?_
    refine mx_getPs 5 d_S_shiftOf_1 f_S_37 rfl rfl (hS.o _ (by omega) (by omega)) (hS.p5 _ (by omega) (by omega)) ?_
    refine mx_iload_n 1 d_S_shiftOf_4 rfl rfl ?_
    refine mx_aald d_S_shiftOf_5 (hS.s5 _ (by omega) (by omega)) (by decide) (by omega) (by omega) ?_
    rw [hpl]
    refine mx_ifnonnull 13 d_S_shiftOf_6 rfl (fun c_6 => ?_) (fun c_6 => ?_)
    · refine mx_aload_n 0 d_S_shiftOf_13 rfl rfl ?_
      refine mx_getPs 5 d_S_shiftOf_14 f_S_37 rfl rfl (hS.o _ (by omega) (by omega)) (hS.p5 _ (by omega) (by omega)) ?_
      refine mx_iload_n 1 d_S_shiftOf_17 rfl rfl ?_
      refine mx_aalds d_S_shiftOf_18 (hS.s5 _ (by omega) (by omega)) (by decide) (by omega) (by omega) (hpl.trans (pp_s (pp_1 (by assumption)))) ?_
      refine mx_iload_n 2 d_S_shiftOf_19 rfl rfl ?_
      refine mx_iload_n 3 d_S_shiftOf_20 rfl rfl ?_
      refine mx_callV (kc := 0) (ks := 0) (N := n_P_placeAt) (as := [_, _]) (ci := 2) d_S_shiftOf_21 s_S_47 ⟨Nat.le_of_ble_eq_true rfl, Nat.le_of_ble_eq_true rfl⟩ rfl (mj_wt_8 (Nat.le_of_ble_eq_true rfl)) ((hK.S).o _ (by have := pp_1 c_6; omega) (by omega)) ⟨_, rfl, rfl⟩ (ct_placeAt hK hp ⟨by have := pp_1 c_6; omega, by omega⟩ hf hz) (fun r_21 A_21 h_21 => ?_) (fun E_21 A_x h_21 => ?_)
      rotate_left
      · exact h_21.elim
      obtain ⟨rfl, hA_21⟩ := h_21
      obtain rfl := hA_21.symm
      clear hA_21
      refine mx_R fun hR_2 => ?_
      exact mj_ji hJ_0 (by first | rfl | (unfold mo_po; rw [if_pos (pp_0 (by assumption))]))
    · refine mx_iconst d_S_shiftOf_9 ?_
      refine mx_goto 24 d_S_shiftOf_10 rfl ?_
      exact mj_ji hJ_0 (by first | rfl | (unfold mo_po; rw [if_pos (pp_0 (by assumption))]))
theorem ct_isAsShot {s f c : Int} (hk : SK A) (hg : mo_rg A) (hs : 0 ≤ s ∧ s < gI A 200 23) (hf : 0 ≤ f ∧ f < gI A 224 s) (hc : gS A c = some (.inr (0, 192))) : mj_Cal G n_S_isAsShot [mR (some (4000 + 100 * s)), mI f, mR (some c)] A (fun r A' => r = some (mI (if mj_all (fun p => decide (gI A ((4000 + 100 * s) + 6) (192 * f + p) = gI A c p)) 192 = true then 1 else 0)) ∧ A' = A) mj_no := by
  refine mj_bodyK 0 0 [some (mR (some (4000 + 100 * s))), some (mI f), some (mR (some c)), none] rfl rfl rfl (by decide +kernel) (Nat.le_of_ble_eq_true rfl) (by simp) rfl ?_
  have hS := hk.S
  have hfr := hg.fr s hs.1 hs.2
  have hfr0 := hk.fr s hs.1 hs.2
  have hl : ∀ i : Int, ((0 ≤ i ∧ i ≤ 192) ∧ ∀ p, 0 ≤ p → p < i → gI A ((4000 + 100 * s) + 6) (192 * f + p) = gI A c p) → mj_X G n_S_isAsShot (mj_Qm G n_S_isAsShot (fun r A' => r = some (mI (if mj_all (fun p => decide (gI A ((4000 + 100 * s) + 6) (192 * f + p) = gI A c p)) 192 = true then 1 else 0)) ∧ A' = A) mj_no) A 0 0 2 [some (mR (some (4000 + 100 * s))), some (mI f), some (mR (some c)), some (mI i)] [] := by
    refine mj_loop _ (fun i => (193 - i).toNat) _ ?_
    intro i ⟨hi, hp⟩ ih
    refine mx_R fun hR => ?_
    refine mx_iload_n 3 d_S_isAsShot_2 rfl rfl ?_
    refine mx_sipush d_S_isAsShot_3 (by decide) ?_
    refine mx_icmp_ge 35 d_S_isAsShot_6 rfl (by first | assumption | exact hR _ _ | exact r32_mk (by omega) (by omega)) (by first | assumption | exact hR _ _ | exact r32_mk (by omega) (by omega)) (fun c_6 => ?_) (fun c_6 => ?_)
    · refine mx_iconst d_S_isAsShot_35 ?_
      refine mx_zret d_S_isAsShot_36 rfl (by first | exact Or.inl rfl | exact Or.inr rfl | omega) ?_
      refine ⟨congrArg (fun z => some (mI z)) (if_pos ?_).symm, rfl⟩
      refine (mj_all_iff 192).mpr fun p p0 p1 => ?_
      rw [decide_eq_true_iff]
      exact hp p p0 (by omega)
    · refine mx_aload_n 0 d_S_isAsShot_9 rfl rfl ?_
      refine mx_getPs 8 d_S_isAsShot_10 f_S_44 rfl rfl (hS.o _ (by omega) (by omega)) (hS.p8 _ (by omega) (by omega)) ?_
      refine mx_iload_n 1 d_S_isAsShot_13 rfl rfl ?_
      refine mx_sipush d_S_isAsShot_14 (by decide) ?_
      refine mx_imul d_S_isAsShot_17 ?_
      refine mx_iload_n 3 d_S_isAsShot_18 rfl rfl ?_
      refine mx_iadd d_S_isAsShot_19 ?_
      rw [show f * 192 + i = 192 * f + i by omega]
      refine mx_iald d_S_isAsShot_20 (hS.s8 _ (by omega) (by omega)) (by omega) (by rw [hfr0]; omega) ?_
      refine mx_aload_n 2 d_S_isAsShot_21 rfl rfl ?_
      refine mx_iload_n 3 d_S_isAsShot_22 rfl rfl ?_
      refine mx_iald d_S_isAsShot_23 (hc) (by omega) (by omega) ?_
      refine mx_icmp_eq 29 d_S_isAsShot_24 rfl (by first | assumption | exact hR _ _ | exact r32_mk (by omega) (by omega)) (by first | assumption | exact hR _ _ | exact r32_mk (by omega) (by omega)) (fun c_24 => ?_) (fun c_24 => ?_)
      · refine mx_iinc 3 d_S_isAsShot_29 rfl (Nat.le_of_ble_eq_true rfl) ?_
        refine mx_goto 2 d_S_isAsShot_32 rfl ?_
        refine ih (i + 1) ⟨by omega, fun p p0 p1 => ?_⟩ (by omega)
        by_cases e : p = i
        · rw [e]; assumption
        · exact hp p p0 (by omega)
      · refine mx_iconst d_S_isAsShot_27 ?_
        refine mx_zret d_S_isAsShot_28 rfl (by first | exact Or.inl rfl | exact Or.inr rfl | omega) ?_
        refine ⟨congrArg (fun z => some (mI z)) (if_neg ?_).symm, rfl⟩
        intro h
        have h9 := (mj_all_iff 192).mp h i hi.1 (by omega)
        rw [decide_eq_true_iff] at h9
        omega
  refine mx_R fun hR => ?_
  refine mx_iconst d_S_isAsShot_0 ?_
  refine mx_istore_n 3 d_S_isAsShot_1 rfl (Nat.le_of_ble_eq_true rfl) ?_
  exact hl 0 ⟨by omega, fun p p0 p1 => by omega⟩
theorem ct_keep {s f c : Int} (hk : SK A) (hg : mo_rg A) (hs : 0 ≤ s ∧ s < gI A 200 23) (hf : 0 ≤ f ∧ f < gI A 224 s) (hc : gS A c = some (.inr (0, 192))) : mj_Cal G n_S_keep [mR (some (4000 + 100 * s)), mI f, mR (some c)] A (fun r A' => r = none ∧ A' = sF A ((4000 + 100 * s) + 6) (fun i => if 192 * f ≤ i ∧ i < 192 * f + 192 then gI A c (i - 192 * f) else gI A ((4000 + 100 * s) + 6) i)) mj_no := by
  refine mj_bodyK 0 0 [some (mR (some (4000 + 100 * s))), some (mI f), some (mR (some c))] rfl rfl rfl (by decide +kernel) (Nat.le_of_ble_eq_true rfl) (by simp) rfl ?_
  have hS := hk.S
  have hfr := hg.fr s hs.1 hs.2
  have hfr0 := hk.fr s hs.1 hs.2
  refine mx_R fun hR => ?_
  refine mx_aload_n 2 d_S_keep_0 rfl rfl ?_
  refine mx_iconst d_S_keep_1 ?_
  refine mx_aload_n 0 d_S_keep_2 rfl rfl ?_
  refine mx_getPs 8 d_S_keep_3 f_S_44 rfl rfl (hS.o _ (by omega) (by omega)) (hS.p8 _ (by omega) (by omega)) ?_
  refine mx_iload_n 1 d_S_keep_6 rfl rfl ?_
  refine mx_sipush d_S_keep_7 (by decide) ?_
  refine mx_imul d_S_keep_10 ?_
  refine mx_sipush d_S_keep_11 (by decide) ?_
  refine mx_copy d_S_keep_14 s_S_61 mj_cp2 mj_cp3 mj_cp4 (hc) (hS.s8 s hs.1 hs.2) (by omega) (by omega) (by omega) (by omega) (by rw [hfr0]; omega) (Nat.le_of_ble_eq_true rfl) (mj_wt_18 (Nat.le_of_ble_eq_true rfl)) ?_
  refine mx_R fun hR_1 => ?_
  refine mx_vret d_S_keep_17 rfl ?_
  refine ⟨rfl, sF_congr fun i => ?_⟩
  rw [show f * 192 = 192 * f by omega, show 0 + (i - 192 * f) = i - 192 * f by omega]
end CLSC
