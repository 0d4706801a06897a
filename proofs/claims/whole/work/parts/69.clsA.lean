/-! THE HOUSE, 10: all that hangs on a drawing follows -/
abbrev pd (a : Int) : Option Int := if a = -1 then none else some (1000 + 100 * a)
abbrev pp (a : Int) : Option Int := if a = -1 then none else some (6000 + 100 * a)
section CLSA
variable {G : mj_G} {A : mj_M}
/-- the drawings of the house and of the reference are joined alike -/
def CX (A : mj_M) : Prop := (HS A) ∧ (DS A (gI A 100 1)) ∧ (0 ≤ gI A 100 1 ∧ gI A 100 1 ≤ 16) ∧ (gI A 100 1 = gI A 200 3) ∧ (∀ d, 0 ≤ d → d < gI A 100 1 → gP A 101 d = some (1000 + 100 * d)) ∧ (∀ d, 0 ≤ d → d < gI A 100 1 → gP A (1000 + 100 * d) 0 = pd (gI A 204 d)) ∧ (∀ d, 0 ≤ d → d < gI A 100 1 → gP A (1000 + 100 * d) 1 = pd (gI A 205 d)) ∧ (∀ d, 0 ≤ d → d < gI A 100 1 → gI A (1000 + 100 * d) 2 = gI A 206 d ∧ gI A (1000 + 100 * d) 3 = gI A 207 d) ∧ (∀ d, 0 ≤ d → d < gI A 100 1 → (0 ≤ gI A (1000 + 100 * d) 4 ∧ gI A (1000 + 100 * d) 4 < 65536) ∧ ∀ o, 0 ≤ o → o < 16 → (bt (gI A (1000 + 100 * d) 4) o ↔ d ≠ o ∧ mo_on A d o = true)) ∧ (∀ d, 0 ≤ d → d < gI A 100 1 → gI A 204 d ≠ -1 → mo_bt A d)
theorem CX.H {A : mj_M} (h : CX A) : HS A := h.1
theorem CX.D {A : mj_M} (h : CX A) : DS A (gI A 100 1) := h.2.1
theorem CX.nd {A : mj_M} (h : CX A) : 0 ≤ gI A 100 1 ∧ gI A 100 1 ≤ 16 := h.2.2.1
theorem CX.n {A : mj_M} (h : CX A) : gI A 100 1 = gI A 200 3 := h.2.2.2.1
theorem CX.r {A : mj_M} (h : CX A) : ∀ d, 0 ≤ d → d < gI A 100 1 → gP A 101 d = some (1000 + 100 * d) := h.2.2.2.2.1
theorem CX.a {A : mj_M} (h : CX A) : ∀ d, 0 ≤ d → d < gI A 100 1 → gP A (1000 + 100 * d) 0 = pd (gI A 204 d) := h.2.2.2.2.2.1
theorem CX.b {A : mj_M} (h : CX A) : ∀ d, 0 ≤ d → d < gI A 100 1 → gP A (1000 + 100 * d) 1 = pd (gI A 205 d) := h.2.2.2.2.2.2.1
theorem CX.p {A : mj_M} (h : CX A) : ∀ d, 0 ≤ d → d < gI A 100 1 → gI A (1000 + 100 * d) 2 = gI A 206 d ∧ gI A (1000 + 100 * d) 3 = gI A 207 d := h.2.2.2.2.2.2.2.1
theorem CX.h {A : mj_M} (h : CX A) : ∀ d, 0 ≤ d → d < gI A 100 1 → (0 ≤ gI A (1000 + 100 * d) 4 ∧ gI A (1000 + 100 * d) 4 < 65536) ∧ ∀ o, 0 ≤ o → o < 16 → (bt (gI A (1000 + 100 * d) 4) o ↔ d ≠ o ∧ mo_on A d o = true) := h.2.2.2.2.2.2.2.2.1
theorem CX.f {A : mj_M} (h : CX A) : ∀ d, 0 ≤ d → d < gI A 100 1 → gI A 204 d ≠ -1 → mo_bt A d := h.2.2.2.2.2.2.2.2.2
theorem CX.hp (h : CX A) : hgp (gI A 204) (gI A 205) (gI A 100 1) := fun k h0 h1 e => ⟨(h.f k h0 h1 e).a, (h.f k h0 h1 e).b⟩
/-- what letting all follow may change -/
def lf (A : mj_M) (W : mj_M) : Prop := (∀ c, gS W c = gS A c) ∧ (∀ c i, gP W c i = gP A c i) ∧ (∀ c i, ¬ (1000 ≤ c ∧ c < 2600 ∧ (c % 100 = 0 ∧ (i = 6 ∨ i = 9 ∨ i = 10 ∨ i = 13) ∨ 2 ≤ c % 100 ∧ c % 100 ≤ 11)) → gI W c i = gI A c i)
theorem lf.S {A : mj_M} {W : mj_M} (h : lf A W) : ∀ c, gS W c = gS A c := h.1
theorem lf.P {A : mj_M} {W : mj_M} (h : lf A W) : ∀ c i, gP W c i = gP A c i := h.2.1
theorem lf.I {A : mj_M} {W : mj_M} (h : lf A W) : ∀ c i, ¬ (1000 ≤ c ∧ c < 2600 ∧ (c % 100 = 0 ∧ (i = 6 ∨ i = 9 ∨ i = 10 ∨ i = 13) ∨ 2 ≤ c % 100 ∧ c % 100 ≤ 11)) → gI W c i = gI A c i := h.2.2
theorem lf_DS {W : mj_M} {m : Int} (h : lf A W) (hD : DS A m) : DS W m := by
  have e1 : W.1 = A.1 := funext h.S
  have e2 : W.2.2 = A.2.2 := funext fun c => funext fun i => h.P c i
  have e3 : gS W = gS A := e1
  have e4 : gP W = gP A := e2
  unfold DS DS1 CS at hD ⊢
  rw [e3, e4]
  exact hD
theorem lf_HS {W : mj_M} (h : lf A W) (hH : HS A) : HS W := by
  have e1 : W.1 = A.1 := funext h.S
  have e2 : W.2.2 = A.2.2 := funext fun c => funext fun i => h.P c i
  have e3 : gS W = gS A := e1
  have e4 : gP W = gP A := e2
  unfold HS at hH ⊢
  rw [e3, e4]
  exact hH
/-- the followers below i are done -/
def lg (A : mj_M) (k : Int) (i : Int) (W : mj_M) : Prop := (lf A W) ∧ (∀ d, 0 ≤ d → d < gI A 100 1 → (¬ mo_on A d k = true ∨ d = k ∨ i ≤ d) → ce (ch_c A d) (ch_c W d)) ∧ (∀ d, 0 ≤ d → d < gI A 100 1 → ¬ mo_on A d k = true → gI W (1000 + 100 * d) 13 = gI A (1000 + 100 * d) 13) ∧ (∀ d, 0 ≤ d → d < i → mo_on A d k = true → gI W (1000 + 100 * d) 13 = 0) ∧ (∀ d, 0 ≤ d → d < i → gI A 204 d ≠ -1 → cb (gI A 206 d) (gI A 207 d) (ch_c W (gI A 204 d)) (ch_c W (gI A 205 d)) (ch_c W d)) ∧ (∀ d, 0 ≤ d → d < gI A 100 1 → cr (ch_c W d))
theorem lg.l {A : mj_M} {k : Int} {i : Int} {W : mj_M} (h : lg A k i W) : lf A W := h.1
theorem lg.e {A : mj_M} {k : Int} {i : Int} {W : mj_M} (h : lg A k i W) : ∀ d, 0 ≤ d → d < gI A 100 1 → (¬ mo_on A d k = true ∨ d = k ∨ i ≤ d) → ce (ch_c A d) (ch_c W d) := h.2.1
theorem lg.o {A : mj_M} {k : Int} {i : Int} {W : mj_M} (h : lg A k i W) : ∀ d, 0 ≤ d → d < gI A 100 1 → ¬ mo_on A d k = true → gI W (1000 + 100 * d) 13 = gI A (1000 + 100 * d) 13 := h.2.2.1
theorem lg.z {A : mj_M} {k : Int} {i : Int} {W : mj_M} (h : lg A k i W) : ∀ d, 0 ≤ d → d < i → mo_on A d k = true → gI W (1000 + 100 * d) 13 = 0 := h.2.2.2.1
theorem lg.b {A : mj_M} {k : Int} {i : Int} {W : mj_M} (h : lg A k i W) : ∀ d, 0 ≤ d → d < i → gI A 204 d ≠ -1 → cb (gI A 206 d) (gI A 207 d) (ch_c W (gI A 204 d)) (ch_c W (gI A 205 d)) (ch_c W d) := h.2.2.2.2.1
theorem lg.c {A : mj_M} {k : Int} {i : Int} {W : mj_M} (h : lg A k i W) : ∀ d, 0 ≤ d → d < gI A 100 1 → cr (ch_c W d) := h.2.2.2.2.2
theorem lg_0 {k i : Int} {W : mj_M} (hx : CX A) (hk : gI A 204 k = -1) (hki : 0 ≤ k ∧ k < i) (hi : i < gI A 100 1) (h : lg A k i W) (hno : (∀ d, 0 ≤ d → d < gI A 100 1 → gI A 204 d ≠ -1 → ¬ mo_on A d k = true → cb (gI A 206 d) (gI A 207 d) (ch_c A (gI A 204 d)) (ch_c A (gI A 205 d)) (ch_c A d))) (hn : ¬ mo_on A i k = true) : lg A k (i + 1) W := by
  have hnd := hx.nd
  refine ⟨h.l, fun d d0 d1 d2 => h.e d d0 d1 (d2.imp_right (fun h => h.imp_right (fun h => by omega))), h.o, fun d d0 d1 d2 => ?_, fun d d0 d1 d2 => ?_, h.c⟩
  · by_cases e : d = i
    · rw [e] at d2; exact absurd d2 hn
    · exact h.z d d0 (by omega) d2
  · by_cases e : d = i
    · have hf := hx.f d d0 (by omega) d2
      have ha := hf.a
      have hb := hf.b
      have hn' : ¬ mo_on A d k = true := by rw [e]; exact hn
      have h1 := hgs_1 hx.hp (by omega) d0 (by omega) (o := k) (k := d)
      refine cb_e (hno d d0 (by omega) d2 hn') (h.e _ ha.1 (by omega) (Or.inl fun h2 => hn' (h1.mpr (Or.inr ⟨d2, Or.inl h2⟩)))) (h.e _ hb.1 (by omega) (Or.inl fun h2 => hn' (h1.mpr (Or.inr ⟨d2, Or.inr h2⟩)))) (h.e d d0 (by omega) (Or.inl hn'))
    · exact h.b d d0 (by omega) d2
theorem lg_1 {k i : Int} {W V : mj_M} (hx : CX A) (hki : 0 ≤ k ∧ k < i) (hi : i < gI A 100 1) (h : lg A k i W) (hn : mo_on A i k = true) (hne : gI A 204 i ≠ -1) (hf : fo W V i) (h13 : gI V (1000 + 100 * i) 13 = 0) (hcb : cb (gI A 206 i) (gI A 207 i) (ch_c W (gI A 204 i)) (ch_c W (gI A 205 i)) (ch_c V i)) : lg A k (i + 1) V := by
  have hnd := hx.nd
  have hDW := lf_DS h.l hx.D
  have hoe : ∀ d, 0 ≤ d → d < gI A 100 1 → d ≠ i → ce (ch_c W d) (ch_c V d) := fun d d0 d1 d2 => fo_ce hf hDW ⟨d0, d1⟩ (h.c d d0 d1) d2
  refine ⟨⟨fun c => (hf.S c).trans (h.l.S c), fun c j => (hf.P c j).trans (h.l.P c j), fun c j hc => ?_⟩, fun d d0 d1 d2 => ?_, fun d d0 d1 d2 => ?_, fun d d0 d1 d2 => ?_, fun d d0 d1 d2 => ?_, fun d d0 d1 => ?_⟩
  · rw [hf.I c j (by omega)]
    exact h.l.I c j hc
  · by_cases e : d = i
    · exfalso
      rw [e] at d2
      rcases d2 with d2 | d2
      · exact d2 hn
      · omega
    · exact ce_tr (h.e d d0 d1 (d2.imp_right (fun h => h.imp_right (fun h => by omega)))) (hoe d d0 d1 e)
  · have e : d ≠ i := fun e => by rw [e] at d2; exact d2 hn
    rw [hf.I _ _ (by omega)]
    exact h.o d d0 d1 d2
  · by_cases e : d = i
    · rw [e]; exact h13
    · rw [hf.I _ _ (by omega)]
      exact h.z d d0 (by omega) d2
  · have hfd := hx.f d d0 (by omega) d2
    have ha := hfd.a
    have hb := hfd.b
    by_cases e : d = i
    · rw [e] at ha hb ⊢
      exact cb_e hcb (hoe _ ha.1 (by omega) (by omega)) (hoe _ hb.1 (by omega) (by omega)) ce_rf
    · exact cb_e (h.b d d0 (by omega) d2) (hoe _ ha.1 (by omega) (by omega)) (hoe _ hb.1 (by omega) (by omega)) (hoe d d0 (by omega) e)
  · by_cases e : d = i
    · have hfi := hx.f i (by omega) hi hne
      have ha := hfi.a
      have hb := hfi.b
      rw [e]
      exact cb_r hcb (h.c _ ha.1 (by omega)) (h.c _ hb.1 (by omega)) hfi.p hfi.w.1
    · exact cr_e (hoe d d0 d1 e) (h.c d d0 d1)
theorem ct_letAllFollow {k : Int} (hx : CX A) (hc : ∀ d, 0 ≤ d → d < gI A 100 1 → cr (ch_c A d)) (hk0 : 0 ≤ k ∧ k < gI A 100 1) (hk : gI A 204 k = -1) (hno : (∀ d, 0 ≤ d → d < gI A 100 1 → gI A 204 d ≠ -1 → ¬ mo_on A d k = true → cb (gI A 206 d) (gI A 207 d) (ch_c A (gI A 204 d)) (ch_c A (gI A 205 d)) (ch_c A d))) : mj_Cal G n_H_letAllFollow [mR (some 100), mI k] A (fun r A' => r = none ∧ lg A k (gI A 100 1) A') mj_no := by
  refine mj_bodyK 0 0 [some (mR (some 100)), some (mI k), none] rfl rfl rfl (by decide +kernel) (Nat.le_of_ble_eq_true rfl) (by simp) rfl ?_
  have hnd := hx.nd
  have hH := hx.H
  have hD := hx.D
  have hl : ∀ q : Int × mj_M, ((k < q.1 ∧ q.1 ≤ gI A 100 1) ∧ lg A k q.1 q.2) → mj_X G n_H_letAllFollow (mj_Qm G n_H_letAllFollow (fun r A' => r = none ∧ lg A k (gI A 100 1) A') mj_no) q.2 0 0 14 [some (mR (some 100)), some (mI k), some (mI q.1)] [] := by
    refine mj_loop _ (fun q => (17 - q.1).toNat) _ ?_
    intro ⟨i, W⟩ ⟨hi, hg⟩ ih
    replace hi : k < i ∧ i ≤ gI A 100 1 := hi
    replace hg : lg A k i W := hg
    show mj_X G n_H_letAllFollow (mj_Qm G n_H_letAllFollow (fun r A' => r = none ∧ lg A k (gI A 100 1) A') mj_no) W 0 0 14 [some (mR (some 100)), some (mI k), some (mI i)] []
    have hHA := hH
    have hDA := hD
    have hH := lf_HS hg.l hHA
    have hD := lf_DS hg.l hDA
    have e1 : gI W 100 1 = gI A 100 1 := hg.l.I _ _ (by omega)
    have e4 : gI W (1000 + 100 * i) 4 = gI A (1000 + 100 * i) 4 := hg.l.I _ _ (by omega)
    refine mx_R fun hR => ?_
    refine mx_iload_n 2 d_H_letAllFollow_14 rfl rfl ?_
    refine mx_aload_n 0 d_H_letAllFollow_15 rfl rfl ?_
    refine mx_getI 1 d_H_letAllFollow_16 f_H_68 rfl rfl (hH.o) ?_
    rw [e1]
    refine mx_icmp_ge 50 d_H_letAllFollow_19 rfl (by first | assumption | exact hR _ _ | exact r32_mk (by omega) (by omega)) (by first | assumption | exact hR _ _ | exact r32_mk (by omega) (by omega)) (fun c_19 => ?_) (fun c_19 => ?_)
    · refine mx_vret d_H_letAllFollow_50 rfl ?_
      rw [show i = gI A 100 1 by omega] at hg
      exact ⟨rfl, hg⟩
    · have hb := (hx.h i (by omega) (by omega)).2 k hk0.1 (by omega)
      have hri := (hg.l.P 101 i).trans (hx.r i (by omega) (by omega))
      have hrr := (hx.h i (by omega) (by omega)).1
      refine mx_aload_n 0 d_H_letAllFollow_22 rfl rfl ?_
      refine mx_getPs 0 d_H_letAllFollow_23 f_H_11 rfl rfl (hH.o) (hH.p0) ?_
      refine mx_iload_n 2 d_H_letAllFollow_26 rfl rfl ?_
      refine mx_aalds d_H_letAllFollow_27 (hH.s0) (by decide) (by omega) (by omega) (hri) ?_
      refine mx_iload_n 1 d_H_letAllFollow_28 rfl rfl ?_
      refine mx_callV (kc := 0) (ks := 0) (N := n_D_hangsOnNumber) (as := [_]) (ci := 0) d_H_letAllFollow_29 s_H_368 ⟨Nat.le_of_ble_eq_true rfl, Nat.le_of_ble_eq_true rfl⟩ rfl (mj_wt_8 (Nat.le_of_ble_eq_true rfl)) (hD.o _ (by omega) (by omega)) ⟨_, rfl, rfl⟩ (ct_hangsOnNumber (hD.o i (by omega) (by omega)) hk0.1 (by omega)) (fun r_29 A_29 h_29 => ?_) (fun E_29 A_x h_29 => ?_)
      rotate_left
      · exact h_29.elim
      obtain ⟨rfl, hA_29⟩ := h_29
      obtain rfl := hA_29.symm
      clear hA_29
      refine mx_R fun hR_1 => ?_
      rw [e4]
      refine mx_if_eq 44 d_H_letAllFollow_32 rfl (by first | assumption | exact hR_1 _ _ | exact hR _ _ | exact r32_mk (by omega) (by omega)) (fun c_32 => ?_) (fun c_32 => ?_)
      · refine mx_iinc 2 d_H_letAllFollow_44 rfl (Nat.le_of_ble_eq_true rfl) ?_
        refine mx_goto 14 d_H_letAllFollow_47 rfl ?_
        first
        | exact ih (i + 1, W) ⟨⟨by show k < i + 1; omega, by show i + 1 ≤ _; omega⟩, lg_0 hx hk ⟨hk0.1, hi.1⟩ (by omega) hg hno (fun h => mj_if0 c_32 (hb.mpr ⟨by omega, h⟩))⟩ (by show (17 - (i + 1)).toNat < (17 - i).toNat; omega)
        | exact ih (i + 1, A_41) ⟨⟨by show k < i + 1; omega, by show i + 1 ≤ _; omega⟩, lg_1 hx ⟨hk0.1, hi.1⟩ (by omega) hg hon.2 hne hfo h13 hcb⟩ (by show (17 - (i + 1)).toNat < (17 - i).toNat; omega)
      · have hon := hb.mp (mj_if1 c_32)
        have hne : gI A 204 i ≠ -1 := by
          rcases (hgs_1 hx.hp (by omega) (by omega) (by omega) (o := k) (k := i)).mp hon.2 with h | h
          · exact absurd h hon.1
          · exact h.1
        have hf := hx.f i (by omega) (by omega) hne
        have hfa := hf.a
        have hfb := hf.b
        have hfp := hf.p
        have hfw := hf.w
        have hpp := hx.p i (by omega) (by omega)
        have e2 : gI W (1000 + 100 * i) 2 = gI A 206 i := (hg.l.I _ _ (by omega)).trans hpp.1
        have e3 : gI W (1000 + 100 * i) 3 = gI A 207 i := (hg.l.I _ _ (by omega)).trans hpp.2
        refine mx_aload_n 0 d_H_letAllFollow_35 rfl rfl ?_
        refine mx_getPs 0 d_H_letAllFollow_36 f_H_11 rfl rfl (hH.o) (hH.p0) ?_
        refine mx_iload_n 2 d_H_letAllFollow_39 rfl rfl ?_
        refine mx_aalds d_H_letAllFollow_40 (hH.s0) (by decide) (by omega) (by omega) (hri) ?_
        refine mx_callV (kc := 0) (ks := 0) (N := n_D_follow) (as := []) (ci := 0) d_H_letAllFollow_41 s_H_89 ⟨Nat.le_of_ble_eq_true rfl, Nat.le_of_ble_eq_true rfl⟩ rfl (mj_wt_8 (Nat.le_of_ble_eq_true rfl)) (hD.o _ (by omega) (by omega)) ⟨_, rfl, rfl⟩ (ct_follow (d := i) (a := gI A 204 i) (b := gI A 205 i) hD ⟨by omega, by omega⟩ hfa hfb (hg.c _ hfa.1 (by omega)) (hg.c _ hfb.1 (by omega)) (((hg.l.P _ _).trans (hx.a i (by omega) (by omega))).trans (if_neg hne)) (((hg.l.P _ _).trans (hx.b i (by omega) (by omega))).trans (if_neg (by omega))) (by rw [e2, e3]; exact hfp) (by rw [e3]; exact hfw)) (fun r_41 A_41 h_41 => ?_) (fun E_41 A_x h_41 => ?_)
        rotate_left
        · exact h_41.elim
        obtain ⟨rfl, hfo, h13, hcb⟩ := h_41
        refine mx_R fun hR_2 => ?_
        rw [e2, e3] at hcb
        refine mx_iinc 2 d_H_letAllFollow_44 rfl (Nat.le_of_ble_eq_true rfl) ?_
        refine mx_goto 14 d_H_letAllFollow_47 rfl ?_
        first
        | exact ih (i + 1, W) ⟨⟨by show k < i + 1; omega, by show i + 1 ≤ _; omega⟩, lg_0 hx hk ⟨hk0.1, hi.1⟩ (by omega) hg hno (fun h => mj_if0 c_32 (hb.mpr ⟨by omega, h⟩))⟩ (by show (17 - (i + 1)).toNat < (17 - i).toNat; omega)
        | exact ih (i + 1, A_41) ⟨⟨by show k < i + 1; omega, by show i + 1 ≤ _; omega⟩, lg_1 hx ⟨hk0.1, hi.1⟩ (by omega) hg hon.2 hne hfo h13 hcb⟩ (by show (17 - (i + 1)).toNat < (17 - i).toNat; omega)
  refine mx_R fun hR => ?_
  refine mx_aload_n 0 d_H_letAllFollow_0 rfl rfl ?_
  refine mx_getPs 0 d_H_letAllFollow_1 f_H_11 rfl rfl (hH.o) (hH.p0) ?_
  refine mx_iload_n 1 d_H_letAllFollow_4 rfl rfl ?_
  refine mx_aalds d_H_letAllFollow_5 (hH.s0) (by decide) (by omega) (by omega) (hx.r k hk0.1 hk0.2) ?_
  refine mx_iconst d_H_letAllFollow_6 ?_
  refine mx_putI 13 d_H_letAllFollow_7 f_H_365 rfl (hD.o _ (by omega) (by omega)) (Or.inl rfl) (Or.inr ⟨rfl, by first | exact Or.inl rfl | exact Or.inr rfl | omega⟩) (by first | assumption | exact hR _ _ | exact r32_mk (by omega) (by omega)) ?_
  refine mx_R fun hR_1 => ?_
  refine mx_iload_n 1 d_H_letAllFollow_10 rfl rfl ?_
  refine mx_iconst d_H_letAllFollow_11 ?_
  refine mx_iadd d_H_letAllFollow_12 ?_
  refine mx_istore_n 2 d_H_letAllFollow_13 rfl (Nat.le_of_ble_eq_true rfl) ?_
  have hlf : lf A (sI A (1000 + 100 * k) 13 0) := ⟨fun _ => rfl, fun _ _ => rfl, fun c i hc => by rw [gI_sI, if_neg (by omega)]⟩
  have hce : ∀ d, 0 ≤ d → d < gI A 100 1 → ce (ch_c A d) (ch_c (sI A (1000 + 100 * k) 13 0) d) := fun d d0 d1 => ch_ce hD ⟨d0, d1⟩ (hc d d0 d1) (fun _ _ => rfl) (fun c i h0 h1 h2 => by rw [gI_sI, if_neg (by omega)])
  refine hl (k + 1, sI A (1000 + 100 * k) 13 0) ⟨⟨by show k < k + 1; omega, by show k + 1 ≤ _; omega⟩, hlf, fun d d0 d1 d2 => hce d d0 d1, fun d d0 d1 d2 => ?_, fun d d0 d1 d2 => ?_, fun d d0 d1 d2 => ?_, fun d d0 d1 => cr_e (hce d d0 d1) (hc d d0 d1)⟩
  · have e : d ≠ k := fun e => by
      rw [e] at d2
      exact d2 ((hgs_1 hx.hp (by omega) hk0.1 hk0.2 (o := k) (k := k)).mpr (Or.inl rfl))
    show gI (sI A (1000 + 100 * k) 13 0) (1000 + 100 * d) 13 = _
    rw [gI_sI, if_neg (by omega)]
  · have hle := hgs_le hx.hp 17 d d0 (by omega) d2
    show gI (sI A (1000 + 100 * k) 13 0) (1000 + 100 * d) 13 = 0
    rw [gI_sI, if_pos ⟨by omega, rfl⟩]
  · have e : d ≠ k := fun e => by rw [e] at d2; exact d2 hk
    have hf := hx.f d d0 (by omega) d2
    have ha := hf.a
    have hb := hf.b
    have hno2 := hno d d0 (by omega) d2 (fun h => by
      have := hgs_le hx.hp 17 d d0 (by omega) h
      omega)
    exact cb_e hno2 (hce _ ha.1 (by omega)) (hce _ hb.1 (by omega)) (hce d d0 (by omega))
end CLSA
