/-! THE REFERENCE, 23: all pictures are laid -/
section MODN
variable {G : mj_G} {A : mj_M}
/-- ranges of what is drawn -/
def mz (A : mj_M) : Prop := (mo_st2 A) ∧ (mo_pt A) ∧ (∀ q, ¬ (0 ≤ q ∧ q < 192) → gI A 221 q = 0) ∧ (∀ k, -1 ≤ gI A 218 k ∧ gI A 218 k ≤ 7) ∧ (gI A 200 17 = 0 ∨ gI A 200 17 = 1)
theorem mz.st {A : mj_M} (h : mz A) : mo_st2 A := h.1
theorem mz.pt {A : mj_M} (h : mz A) : mo_pt A := h.2.1
theorem mz.z {A : mj_M} (h : mz A) : ∀ q, ¬ (0 ≤ q ∧ q < 192) → gI A 221 q = 0 := h.2.2.1
theorem mz.pi {A : mj_M} (h : mz A) : ∀ k, -1 ≤ gI A 218 k ∧ gI A 218 k ≤ 7 := h.2.2.2.1
theorem mz.o {A : mj_M} (h : mz A) : gI A 200 17 = 0 ∨ gI A 200 17 = 1 := h.2.2.2.2
/-- the pictures of the drawings below n are laid -/
def laid (C : Int → cT) (A : mj_M) (n : Int) : Prop := ∀ d, 0 ≤ d → d < n → ce (C d) (mo_c A d) ∧ ∀ p, 0 ≤ p → p < 192 → gI A 218 (192 * d + p) = c_pf (C d) p ∧ gI A 219 (192 * d + p) = c_mk (C d) p
/-- what the drawings hold -/
def dC (C : Int → cT) (A : mj_M) : Prop := (∀ d, 0 ≤ d → d < gI A 200 3 → gI A 204 d = -1 → ce (C d) (mo_c A d)) ∧ (∀ d, 0 ≤ d → d < gI A 200 3 → gI A 204 d ≠ -1 → mo_bt A d ∧ cb (gI A 206 d) (gI A 207 d) (C (gI A 204 d)) (C (gI A 205 d)) (C d)) ∧ (gI A 200 17 = 0 → laid C A (gI A 200 3))
theorem dC.k {C : Int → cT} {A : mj_M} (h : dC C A) : ∀ d, 0 ≤ d → d < gI A 200 3 → gI A 204 d = -1 → ce (C d) (mo_c A d) := h.1
theorem dC.b {C : Int → cT} {A : mj_M} (h : dC C A) : ∀ d, 0 ≤ d → d < gI A 200 3 → gI A 204 d ≠ -1 → mo_bt A d ∧ cb (gI A 206 d) (gI A 207 d) (C (gI A 204 d)) (C (gI A 205 d)) (C d) := h.2.1
theorem dC.l {C : Int → cT} {A : mj_M} (h : dC C A) : gI A 200 17 = 0 → laid C A (gI A 200 3) := h.2.2
theorem cm_draws2 {d : Int} (hM : MS A) (hz : mz A) (hd : 0 ≤ d ∧ d < 16) :
    mj_Cal G n_M_draws [mR (some 200), mI d] A (fun r A' => r = none ∧ ly A A' ∧ (∀ c i, c ≤ 216 → ¬ (c = 200 ∧ i = 45) → gI A' c i = gI A c i) ∧ mz A' ∧ (∀ q, ¬ (192 * d ≤ q ∧ q < 192 * d + 192) → gI A' 218 q = gI A 218 q ∧ gI A' 219 q = gI A 219 q) ∧ ∀ p, 0 ≤ p → p < 192 → gI A' 218 (192 * d + p) = c_pf (mo_c A d) p ∧ gI A' 219 (192 * d + p) = c_mk (mo_c A d) p) mj_no := by
  have hst := hz.st
  have hpt := hz.pt
  refine (cm_draws hM hst hd (hpt.n d hd.1 hd.2) hpt.s hpt.f hz.z).mono (fun r A' h => ?_) (fun _ _ h => h)
  obtain ⟨e, h, g, c, w, n, rfl, hh, hm, hg, hp, hc⟩ := h
  have hpf : ∀ p, 0 ≤ p → p < 192 → g (192 * d + p) = c_pf (mo_c A d) p := fun p p0 p1 => pc_pf_u (hp p p0 p1)
  refine ⟨e, ⟨fun _ => rfl, fun _ _ => rfl, fun c i h1 h2 => ?_⟩, fun c i h1 h2 => ?_, ⟨hst, hpt, hc, fun k => ?_, hz.o⟩, fun q hq => ⟨hg q hq, hh q hq⟩, fun p p0 p1 => ⟨hpf p p0 p1, hm p p0 p1⟩⟩
  · unfold fi_m
    simp only [gI_sI, gI_sF]
    grind
  · unfold fi_m
    simp only [gI_sI, gI_sF]
    grind
  · show -1 ≤ g k ∧ g k ≤ 7
    by_cases hk : 192 * d ≤ k ∧ k < 192 * d + 192
    · have e9 := hpf (k - 192 * d) (by omega) (by omega)
      rw [show 192 * d + (k - 192 * d) = k by omega] at e9
      rw [e9]
      exact pc_pf_r (pc_ln_r _ fun i h0 h1 => hst.c _) _ fun i h0 h1 => hpt.f _
    · rw [hg k hk]
      exact hz.pi k
theorem cm_lays {C : Int → cT} (hM : MS A) (hn : 0 ≤ gI A 200 3 ∧ gI A 200 3 ≤ 16) (hz : mz A) (hC : dC C A) :
    mj_Cal G n_M_lays [mR (some 200)] A (fun r A' => r = none ∧ ly A A' ∧ mz A' ∧ gI A' 200 17 = 0 ∧ laid C A' (gI A 200 3) ∧ ∀ k, gI A 200 3 ≤ k → k < 16 → ce (mo_c A k) (mo_c A' k)) mj_no := by
  refine mj_bodyK 0 0 [some (mR (some 200)), none] rfl rfl rfl (by decide +kernel) (Nat.le_of_ble_eq_true rfl) (by simp) rfl ?_
  by_cases ho : gI A 200 17 = 0
  · have hl := hC.l ho
    refine mx_R fun hR => ?_
    refine mx_iconst d_M_lays_0 ?_
    refine mx_istore_n 1 d_M_lays_1 rfl (Nat.le_of_ble_eq_true rfl) ?_
    refine mx_iload_n 1 d_M_lays_2 rfl rfl ?_
    refine mx_aload_n 0 d_M_lays_3 rfl rfl ?_
    refine mx_getI 3 d_M_lays_4 f_M_123 rfl rfl (hM.o) ?_
    refine mx_icmp_ge 43 d_M_lays_7 rfl (by first | assumption | exact hR _ _ | exact r32_mk (by omega) (by omega)) (by first | assumption | exact hR _ _ | exact r32_mk (by omega) (by omega)) (fun c_7 => ?_) (fun c_7 => ?_)
    · refine mx_aload_n 0 d_M_lays_43 rfl rfl ?_
      refine mx_iconst d_M_lays_44 ?_
      refine mx_putI 17 d_M_lays_45 f_M_134 rfl (hM.o) (Or.inl rfl) (Or.inr ⟨rfl, by first | exact Or.inl rfl | exact Or.inr rfl | omega⟩) (by first | assumption | exact hR _ _ | exact r32_mk (by omega) (by omega)) ?_
      refine mx_R fun hR_1 => ?_
      refine mx_vret d_M_lays_48 rfl ?_
      exact ⟨rfl, ⟨fun _ => rfl, fun _ _ => rfl, fun c i h1 h2 => by rw [gI_sI, if_neg (by omega)]⟩, ⟨hz.st, hz.pt, hz.z, hz.pi, Or.inl rfl⟩, rfl, hl, fun k _ _ => ce_rf⟩
    · refine mx_aload_n 0 d_M_lays_10 rfl rfl ?_
      refine mx_getI 17 d_M_lays_11 f_M_134 rfl rfl (hM.o) ?_
      refine mx_if_eq 43 d_M_lays_14 rfl (by first | assumption | exact hR _ _ | exact r32_mk (by omega) (by omega)) (fun c_14 => ?_) (fun c_14 => ?_)
      · refine mx_aload_n 0 d_M_lays_43 rfl rfl ?_
        refine mx_iconst d_M_lays_44 ?_
        refine mx_putI 17 d_M_lays_45 f_M_134 rfl (hM.o) (Or.inl rfl) (Or.inr ⟨rfl, by first | exact Or.inl rfl | exact Or.inr rfl | omega⟩) (by first | assumption | exact hR _ _ | exact r32_mk (by omega) (by omega)) ?_
        refine mx_R fun hR_2 => ?_
        refine mx_vret d_M_lays_48 rfl ?_
        exact ⟨rfl, ⟨fun _ => rfl, fun _ _ => rfl, fun c i h1 h2 => by rw [gI_sI, if_neg (by omega)]⟩, ⟨hz.st, hz.pt, hz.z, hz.pi, Or.inl rfl⟩, rfl, hl, fun k _ _ => ce_rf⟩
      · exact absurd ho (by assumption)
  · have hlp : ∀ q : Int × mj_M, ((0 ≤ q.1 ∧ q.1 ≤ gI A 200 3) ∧ ly A q.2 ∧ mz q.2 ∧ gI q.2 200 17 ≠ 0 ∧ laid C q.2 q.1 ∧ (∀ k, gI A 200 3 ≤ k → k < 16 → ce (mo_c A k) (mo_c q.2 k)) ∧ ∀ d, 0 ≤ d → d < gI A 200 3 → gI A 204 d = -1 → ce (C d) (mo_c q.2 d)) → mj_X G n_M_lays (mj_Qm G n_M_lays (fun r A' => r = none ∧ ly A A' ∧ mz A' ∧ gI A' 200 17 = 0 ∧ laid C A' (gI A 200 3) ∧ ∀ k, gI A 200 3 ≤ k → k < 16 → ce (mo_c A k) (mo_c A' k)) mj_no) q.2 0 0 2 [some (mR (some 200)), some (mI q.1)] [] := by
      refine mj_loop _ (fun q => (16 - q.1).toNat) _ ?_
      intro ⟨t, W⟩ ⟨ht, hy, hz, ho, hl, hu, hk⟩ ih
      replace ht : 0 ≤ t ∧ t ≤ gI A 200 3 := ht
      replace hy : ly A W := hy
      replace hz : mz W := hz
      replace ho : gI W 200 17 ≠ 0 := ho
      replace hl : laid C W t := hl
      replace hu : ∀ k, gI A 200 3 ≤ k → k < 16 → ce (mo_c A k) (mo_c W k) := hu
      replace hk : ∀ d, 0 ≤ d → d < gI A 200 3 → gI A 204 d = -1 → ce (C d) (mo_c W d) := hk
      show mj_X G n_M_lays _ W 0 0 2 [some (mR (some 200)), some (mI t)] []
      have hMA := hM
      have hM := ly_MS hy hMA
      have e3 : gI W 200 3 = gI A 200 3 := hy.I 200 3 (by omega) (by omega)
      have e4 : gI W 204 t = gI A 204 t := hy.I 204 t (by omega) (by omega)
      have e5 : gI W 205 t = gI A 205 t := hy.I 205 t (by omega) (by omega)
      have e6 : gI W 206 t = gI A 206 t := hy.I 206 t (by omega) (by omega)
      have e7 : gI W 207 t = gI A 207 t := hy.I 207 t (by omega) (by omega)
      have tail : ∀ V : mj_M, ly A V → mz V → gI V 200 17 ≠ 0 → laid C V t → ce (C t) (mo_c V t) → (∀ k, gI A 200 3 ≤ k → k < 16 → ce (mo_c A k) (mo_c V k)) → (∀ d, 0 ≤ d → d < gI A 200 3 → gI A 204 d = -1 → ce (C d) (mo_c V d)) → t < gI A 200 3 → mj_X G n_M_lays (mj_Qm G n_M_lays (fun r A' => r = none ∧ ly A A' ∧ mz A' ∧ gI A' 200 17 = 0 ∧ laid C A' (gI A 200 3) ∧ ∀ k, gI A 200 3 ≤ k → k < 16 → ce (mo_c A k) (mo_c A' k)) mj_no) V 0 0 32 [some (mR (some 200)), some (mI t)] [] := by
        intro V hyV hzV hoV hlV hcV huV hkV htn
        have hM := ly_MS hyV hMA
        refine mx_R fun hR => ?_
        refine mx_aload_n 0 d_M_lays_32 rfl rfl ?_
        refine mx_iload_n 1 d_M_lays_33 rfl rfl ?_
        refine mx_callV (kc := 0) (ks := 0) (N := n_M_draws) (as := [_]) (ci := 7) d_M_lays_34 s_M_190 ⟨Nat.le_of_ble_eq_true rfl, Nat.le_of_ble_eq_true rfl⟩ rfl (mj_wt_8 (Nat.le_of_ble_eq_true rfl)) (hM.o) ⟨_, rfl, rfl⟩ (cm_draws2 hM hzV ⟨by omega, by omega⟩) (fun r_34 A_34 h_34 => ?_) (fun E_34 A_x h_34 => ?_)
        rotate_left
        · exact h_34.elim
        obtain ⟨rfl, hy1, hs1, hz1, hq1, hp1⟩ := h_34
        refine mx_R fun hR_1 => ?_
        refine mx_iinc 1 d_M_lays_37 rfl (Nat.le_of_ble_eq_true rfl) ?_
        refine mx_goto 2 d_M_lays_40 rfl ?_
        have hsc : ∀ d, mo_c A_34 d = mo_c V d := by
          intro d
          have e9 : gI A_34 209 = gI V 209 := funext fun i => hs1 209 i (by omega) (by omega)
          have e10 : gI A_34 210 = gI V 210 := funext fun i => hs1 210 i (by omega) (by omega)
          have e11 : gI A_34 211 = gI V 211 := funext fun i => hs1 211 i (by omega) (by omega)
          have e12 : gI A_34 212 = gI V 212 := funext fun i => hs1 212 i (by omega) (by omega)
          have e13 : gI A_34 213 = gI V 213 := funext fun i => hs1 213 i (by omega) (by omega)
          have e14 : gI A_34 214 = gI V 214 := funext fun i => hs1 214 i (by omega) (by omega)
          have e15 : gI A_34 215 = gI V 215 := funext fun i => hs1 215 i (by omega) (by omega)
          have e16 : gI A_34 216 = gI V 216 := funext fun i => hs1 216 i (by omega) (by omega)
          show (gI A_34 209 d, (fun i => gI A_34 210 (8 * d + i)), (fun i => gI A_34 211 (8 * d + i)), (fun q => gI A_34 212 (32 * d + q)), gI A_34 213 d, (fun i => gI A_34 214 (6 * d + i)), (fun i => gI A_34 215 (6 * d + i)), gI A_34 216 d) = mo_c V d
          rw [e9, e10, e11, e12, e13, e14, e15, e16]
        refine ih (t + 1, A_34) ⟨⟨by show 0 ≤ t + 1; omega, by show t + 1 ≤ gI A 200 3; omega⟩, ly_tr hyV hy1, hz1, ?_, ?_, fun k k0 k1 => by show ce (mo_c A k) (mo_c A_34 k); rw [hsc k]; exact huV k k0 k1, fun d d0 d1 d2 => ?_⟩ (by show (16 - (t + 1)).toNat < (16 - t).toNat; omega)
        · show gI A_34 200 17 ≠ 0
          rw [hs1 200 17 (by omega) (by omega)]
          exact hoV
        · intro d d0 d1
          replace d1 : d < t + 1 := d1
          show ce (C d) (mo_c A_34 d) ∧ ∀ p, 0 ≤ p → p < 192 → gI A_34 218 (192 * d + p) = c_pf (C d) p ∧ gI A_34 219 (192 * d + p) = c_mk (C d) p
          rw [hsc d]
          by_cases e : d = t
          · rw [e]
            refine ⟨hcV, fun p p0 p1 => ?_⟩
            rw [(hp1 p p0 p1).1, (hp1 p p0 p1).2, c_pf_e hcV, c_mk_e hcV]
            exact ⟨rfl, rfl⟩
          · have h9 := hlV d d0 (by omega)
            refine ⟨h9.1, fun p p0 p1 => ?_⟩
            rw [(hq1 (192 * d + p) (by omega)).1, (hq1 (192 * d + p) (by omega)).2]
            exact h9.2 p p0 p1
        · show ce (C d) (mo_c A_34 d)
          rw [hsc d]
          exact hkV d d0 d1 d2
      refine mx_R fun hR => ?_
      refine mx_iload_n 1 d_M_lays_2 rfl rfl ?_
      refine mx_aload_n 0 d_M_lays_3 rfl rfl ?_
      refine mx_getI 3 d_M_lays_4 f_M_123 rfl rfl (hM.o) ?_
      rw [e3]
      refine mx_icmp_ge 43 d_M_lays_7 rfl (by first | assumption | exact hR _ _ | exact r32_mk (by omega) (by omega)) (by first | assumption | exact hR _ _ | exact r32_mk (by omega) (by omega)) (fun c_7 => ?_) (fun c_7 => ?_)
      · refine mx_aload_n 0 d_M_lays_43 rfl rfl ?_
        refine mx_iconst d_M_lays_44 ?_
        refine mx_putI 17 d_M_lays_45 f_M_134 rfl (hM.o) (Or.inl rfl) (Or.inr ⟨rfl, by first | exact Or.inl rfl | exact Or.inr rfl | omega⟩) (by first | assumption | exact hR _ _ | exact r32_mk (by omega) (by omega)) ?_
        refine mx_R fun hR_1 => ?_
        refine mx_vret d_M_lays_48 rfl ?_
        refine ⟨rfl, ⟨hy.S, hy.P, fun c i h1 h2 => by rw [gI_sI, if_neg (by omega)]; exact hy.I c i h1 h2⟩, ⟨hz.st, hz.pt, hz.z, hz.pi, Or.inl rfl⟩, rfl, ?_, hu⟩
        rw [show gI A 200 3 = t by omega]
        exact hl
      · refine mx_aload_n 0 d_M_lays_10 rfl rfl ?_
        refine mx_getI 17 d_M_lays_11 f_M_134 rfl rfl (hM.o) ?_
        refine mx_if_eq 43 d_M_lays_14 rfl (by first | assumption | exact hR _ _ | exact r32_mk (by omega) (by omega)) (fun c_14 => ?_) (fun c_14 => ?_)
        · exact absurd (by assumption) ho
        · refine mx_aload_n 0 d_M_lays_17 rfl rfl ?_
          refine mx_getPs 4 d_M_lays_18 f_M_7 rfl rfl (hM.o) (hM.p4) ?_
          refine mx_iload_n 1 d_M_lays_21 rfl rfl ?_
          refine mx_iald d_M_lays_22 (hM.s4) (by omega) (by omega) ?_
          rw [e4]
          refine mx_iconst d_M_lays_23 ?_
          refine mx_icmp_eq 32 d_M_lays_24 rfl (by rw [← e4]; exact hR _ _) ((r32_mk (by omega) (by omega))) (fun c_24 => ?_) (fun c_24 => ?_)
          · first
            | exact tail W hy hz ho hl (hk t (by omega) (by omega) (by assumption)) hu hk (by omega)
            | have hbt := (hC.b t (by omega) (by omega) (by assumption))
              have hb := hbt.1
              have hba := hb.a
              have hbb := hb.b
              refine tail A_29 (ly_tr hy hy1) ⟨hs1, hp1, fun q hq => by rw [hr1 221 q (by omega)]; exact hz.z q hq, fun k => by rw [hr1 218 k (by omega)]; exact hz.pi k, ?_⟩ ?_ ?_ ?_ (fun k k0 k1 => ce_tr (hu k k0 k1) (ho1 k (by omega) k1 (by omega))) ?_ (by omega)
              · rw [hr1 200 17 (by omega)]; exact hz.o
              · rw [hr1 200 17 (by omega)]; exact ho
              · intro d d0 d1
                have h9 := hl d d0 d1
                refine ⟨ce_tr h9.1 (ho1 d d0 (by omega) (by omega)), fun p p0 p1 => ?_⟩
                rw [hr1 218 _ (by omega), hr1 219 _ (by omega)]
                exact h9.2 p p0 p1
              · rw [e4, e5, e6, e7] at hb1
                exact cb_u hbt.2 hb1 (hl _ hba.1 hba.2).1 (hl _ hbb.1 hbb.2).1
              · intro d d0 d1 d2
                exact ce_tr (hk d d0 d1 d2) (ho1 d d0 (by omega) (fun e => by rw [e] at d2; exact absurd d2 (by assumption)))
          · refine mx_aload_n 0 d_M_lays_27 rfl rfl ?_
            refine mx_iload_n 1 d_M_lays_28 rfl rfl ?_
            refine mx_callV (kc := 0) (ks := 0) (N := n_M_comes) (as := [_]) (ci := 7) d_M_lays_29 s_M_186 ⟨Nat.le_of_ble_eq_true rfl, Nat.le_of_ble_eq_true rfl⟩ rfl (mj_wt_8 (Nat.le_of_ble_eq_true rfl)) (hM.o) ⟨_, rfl, rfl⟩ (cm_comes2 hM hz.st hz.pt ⟨by omega, by omega⟩ (by have hb := (hC.b t (by omega) (by omega) (by assumption)).1; exact ⟨by rw [e4]; exact hb.a, by rw [e5]; exact hb.b, by rw [e6, e7]; exact hb.p, by rw [e7]; exact hb.w⟩)) (fun r_29 A_29 h_29 => ?_) (fun E_29 A_x h_29 => ?_)
            rotate_left
            · exact h_29.elim
            obtain ⟨rfl, hy1, hs1, hp1, hb1, ho1, hr1⟩ := h_29
            refine mx_R fun hR_2 => ?_
            first
            | exact tail W hy hz ho hl (hk t (by omega) (by omega) (by assumption)) hu hk (by omega)
            | have hbt := (hC.b t (by omega) (by omega) (by assumption))
              have hb := hbt.1
              have hba := hb.a
              have hbb := hb.b
              refine tail A_29 (ly_tr hy hy1) ⟨hs1, hp1, fun q hq => by rw [hr1 221 q (by omega)]; exact hz.z q hq, fun k => by rw [hr1 218 k (by omega)]; exact hz.pi k, ?_⟩ ?_ ?_ ?_ (fun k k0 k1 => ce_tr (hu k k0 k1) (ho1 k (by omega) k1 (by omega))) ?_ (by omega)
              · rw [hr1 200 17 (by omega)]; exact hz.o
              · rw [hr1 200 17 (by omega)]; exact ho
              · intro d d0 d1
                have h9 := hl d d0 d1
                refine ⟨ce_tr h9.1 (ho1 d d0 (by omega) (by omega)), fun p p0 p1 => ?_⟩
                rw [hr1 218 _ (by omega), hr1 219 _ (by omega)]
                exact h9.2 p p0 p1
              · rw [e4, e5, e6, e7] at hb1
                exact cb_u hbt.2 hb1 (hl _ hba.1 hba.2).1 (hl _ hbb.1 hbb.2).1
              · intro d d0 d1 d2
                exact ce_tr (hk d d0 d1 d2) (ho1 d d0 (by omega) (fun e => by rw [e] at d2; exact absurd d2 (by assumption)))
    refine mx_R fun hR => ?_
    refine mx_iconst d_M_lays_0 ?_
    refine mx_istore_n 1 d_M_lays_1 rfl (Nat.le_of_ble_eq_true rfl) ?_
    exact hlp (0, A) ⟨⟨by show (0 : Int) ≤ 0; omega, hn.1⟩, ly_rf, hz, ho, fun d d0 d1 => absurd d1 (by show ¬ d < 0; omega), fun k _ _ => ce_rf, hC.k⟩
end MODN
