/-! THE HOUSE, 19: shots, hours -/
section CLSK
variable {G : mj_G} {A : mj_M}
/-- what shooting a scene may change -/
def lsh (A : mj_M) (s : Int) (W : mj_M) : Prop := (∀ c, gS W c = gS A c) ∧ (∀ c i, gP W c i = gP A c i) ∧ (∀ c i, ¬ (c = 4000 + 100 * s + 6) → ¬ (c = 115 ∨ (120 ≤ c ∧ c ≤ 124) ∨ (c = 117 ∧ i = 2) ∨ (1000 ≤ c ∧ c < 2600 ∧ (13 ≤ c % 100 ∧ c % 100 ≤ 15 ∨ c % 100 = 0 ∧ i = 13))) → gI W c i = gI A c i)
theorem lsh.S {A : mj_M} {s : Int} {W : mj_M} (h : lsh A s W) : ∀ c, gS W c = gS A c := h.1
theorem lsh.P {A : mj_M} {s : Int} {W : mj_M} (h : lsh A s W) : ∀ c i, gP W c i = gP A c i := h.2.1
theorem lsh.I {A : mj_M} {s : Int} {W : mj_M} (h : lsh A s W) : ∀ c i, ¬ (c = 4000 + 100 * s + 6) → ¬ (c = 115 ∨ (120 ≤ c ∧ c ≤ 124) ∨ (c = 117 ∧ i = 2) ∨ (1000 ≤ c ∧ c < 2600 ∧ (13 ≤ c % 100 ∧ c % 100 ≤ 15 ∨ c % 100 = 0 ∧ i = 13))) → gI W c i = gI A c i := h.2.2
theorem lsh_lh {s : Int} {W V : mj_M} (h : lsh A s W) (k : lh W V) : lsh A s V := ⟨fun c => (k.S c).trans (h.S c), fun c i => (k.P c i).trans (h.P c i), fun c i h1 h2 => (k.I c i h2).trans (h.I c i h1 h2)⟩
/-- the frames below k are shot -/
def shq (C : Int → cT) (A : mj_M) (s : Int) (k : Int) (W : mj_M) : Prop := (JJ C W) ∧ (lsh A s W) ∧ (∀ f p, 0 ≤ f → f < k → 0 ≤ p → p < 192 → gI W (4000 + 100 * s + 6) (192 * f + p) = mo_se (vi C A) s f (p.tmod 16) (p.tdiv 16)) ∧ (∀ f p, k ≤ f → 0 ≤ p → p < 192 → gI W (4000 + 100 * s + 6) (192 * f + p) = gI A (4000 + 100 * s + 6) (192 * f + p))
theorem shq.j {C : Int → cT} {A : mj_M} {s : Int} {k : Int} {W : mj_M} (h : shq C A s k W) : JJ C W := h.1
theorem shq.l {C : Int → cT} {A : mj_M} {s : Int} {k : Int} {W : mj_M} (h : shq C A s k W) : lsh A s W := h.2.1
theorem shq.n {C : Int → cT} {A : mj_M} {s : Int} {k : Int} {W : mj_M} (h : shq C A s k W) : ∀ f p, 0 ≤ f → f < k → 0 ≤ p → p < 192 → gI W (4000 + 100 * s + 6) (192 * f + p) = mo_se (vi C A) s f (p.tmod 16) (p.tdiv 16) := h.2.2.1
theorem shq.o {C : Int → cT} {A : mj_M} {s : Int} {k : Int} {W : mj_M} (h : shq C A s k W) : ∀ f p, k ≤ f → 0 ≤ p → p < 192 → gI W (4000 + 100 * s + 6) (192 * f + p) = gI A (4000 + 100 * s + 6) (192 * f + p) := h.2.2.2
theorem sq_st {C : Int → cT} {W : mj_M} {s f : Int} (hj : JJ C A) (hst : ST A) (hs : 0 ≤ s ∧ s < gI A 200 23) (hf : 0 ≤ f ∧ f < gI A 224 s) (h6 : ∀ p, 0 ≤ p → p < 192 → gI W ((4000 + 100 * s) + 6) (192 * f + p) = gI A ((4000 + 100 * s) + 6) (192 * f + p)) (hco : ∀ p, 0 ≤ p → p < 192 → gI W 115 p = mo_se (vi C A) s f (p.tmod 16) (p.tdiv 16)) : mj_all (fun p => decide (gI W ((4000 + 100 * s) + 6) (192 * f + p) = gI W 115 p)) 192 = true ↔ ¬ mo_st (vi C A) s f := by
  have hns := hj.m.g.ns
  have e38 : gI (vi C A) 238 = gI A 238 := vi_fn (by omega)
  have e39 : gI (vi C A) 239 = gI A 239 := vi_fn (by omega)
  rw [mj_all_iff]
  unfold mo_st
  rw [e38, e39]
  constructor
  · intro h hx
    have h0 := h 0 (by omega) (by omega)
    rw [decide_eq_true_iff, h6 _ (by omega) (by omega), hst s hs.1 hs.2 f 0 hf.1 hf.2 (by omega) (by omega), hco _ (by omega) (by omega)] at h0
    have hb := vi_b hj (s := s) (f := f) (x := Int.tmod 0 16) (y := Int.tdiv 0 16)
    rcases hx with hx | ⟨p, p0, p1, hp⟩
    · rw [if_pos hx] at h0
      omega
    · have hz : ¬ gI A 238 (24 * s + f) = 0 := fun e => by
        rw [if_pos e] at h0
        omega
      have h1 := h p p0 (by omega)
      rw [decide_eq_true_iff, h6 p p0 p1, hst s hs.1 hs.2 f p hf.1 hf.2 p0 p1, if_neg hz, hco p p0 p1] at h1
      exact hp h1
  · intro h p p0 p1
    rw [decide_eq_true_iff, h6 p p0 (by omega), hst s hs.1 hs.2 f p hf.1 hf.2 p0 (by omega), if_neg (fun e => h (Or.inl e)), hco p p0 (by omega)]
    by_cases e : gI A 239 (192 * (24 * s + f) + p) = mo_se (vi C A) s f (p.tmod 16) (p.tdiv 16)
    · exact e
    · exact absurd (Or.inr ⟨p, p0, by omega, e⟩) h
theorem lsh_vi {C : Int → cT} {s : Int} {W : mj_M} (h : lsh A s W) (hs : 0 ≤ s) {f x y : Int} : mo_se (vi C W) s f x y = mo_se (vi C A) s f x y := mo_se_c (fun c h0 h1 => by
  rw [vi_fn (by omega), vi_fn (by omega)]
  exact funext fun i => h.I c i (by omega) (by omega)) rfl
/-- the shots kept change nothing else -/
theorem JJ_6 {C : Int → cT} {s : Int} {f : Int → Int} (hs : 0 ≤ s ∧ s < 6) (h : JJ C A) : JJ C (sF A ((4000 + 100 * s) + 6) f) := by
  have eI : ∀ c i, c ≠ (4000 + 100 * s) + 6 → gI (sF A ((4000 + 100 * s) + 6) f) c i = gI A c i := fun c i hc => by rw [gI_sF, if_neg hc]
  exact ⟨MI_ag (A := A) (fun _ _ _ => rfl) (fun _ _ _ _ => rfl) (fun c i h0 h1 => eI c i (by omega)) h.m, CX_ag (A := A) (fun _ _ _ => rfl) (fun _ _ _ => rfl) (fun c i hc => eI c i (by omega)) h.x, HJ_ag h (fun _ _ _ => rfl) (fun _ _ _ _ => rfl) (fun c i hc => eI c i (by omega)), SK_ag (A := A) h.m.g.ns (fun _ _ _ => rfl) (fun _ _ _ => rfl) (fun c i hc => eI c i (by omega)) h.s, PK_ag (A := A) h.m.p.np (fun _ _ _ => rfl) (fun _ _ _ => rfl) (fun c i hc => eI c i (by omega)) h.p, XK_ag (A := A) (fun _ _ => rfl) (fun c i hc => eI c i (by omega)) h.y, FW_ag (A := A) (fun c i hc => eI c i (by omega)) h.w⟩
theorem ct_shoot {C : Int → cT} {s : Int} (hj : JJ C A) (hst : ST A) (hs : r32 s) : mj_Cal G n_H_shoot [mR (some 100), mI s] A (fun r A' => (0 ≤ s ∧ s < gI A 200 23) ∧ r = some (mI (mj_sum (fun f => mo_sb (vi C A) s f) (gI A 224 s).toNat)) ∧ shq C A s (gI A 224 s) A') (px1 A xI (0 ≤ s ∧ s < gI A 200 23)) := by
  refine mj_bodyK 1 6 [some (mR (some 100)), some (mI s), none, none, none] rfl rfl rfl (by decide +kernel) (Nat.le_of_ble_eq_true rfl) (by simp) rfl ?_
  have hH := hj.x.H
  have hns := hj.m.g.ns
  have hS := hj.s.S
  refine mx_R fun hR => ?_
  refine mx_aload_n 0 d_H_shoot_0 rfl rfl ?_
  refine mx_iload_n 1 d_H_shoot_1 rfl rfl ?_
  refine mx_callV (kc := 0) (ks := 0) (N := n_H_needScene) (as := [_]) (ci := 6) d_H_shoot_2 s_H_173 ⟨Nat.le_of_ble_eq_true rfl, Nat.le_of_ble_eq_true rfl⟩ rfl (mj_wt_8 (Nat.le_of_ble_eq_true rfl)) (hH.o) ⟨_, rfl, rfl⟩ (ct_needScene hj hs) (fun r_2 A_2 h_2 => ?_) (fun E_2 A_x h_2 => ?_)
  rotate_left
  · exact mt_n h_2 rfl fun hn => ⟨rfl, rfl, hn⟩
  obtain ⟨rfl, h1, hA_2⟩ := h_2
  obtain rfl := hA_2.symm
  clear hA_2
  refine mx_R fun hR_1 => ?_
  refine mx_aload_n 0 d_H_shoot_5 rfl rfl ?_
  refine mx_getPs 5 d_H_shoot_6 f_H_21 rfl rfl (hH.o) (hH.p5) ?_
  refine mx_iload_n 1 d_H_shoot_9 rfl rfl ?_
  refine mx_aalds d_H_shoot_10 (hH.s5) (by decide) (by omega) (by omega) (hj.s.r s h1.1 h1.2) ?_
  refine mx_astore_n 2 d_H_shoot_11 rfl (Nat.le_of_ble_eq_true rfl) ?_
  refine mx_iconst d_H_shoot_12 ?_
  refine mx_istore_n 3 d_H_shoot_13 rfl (Nat.le_of_ble_eq_true rfl) ?_
  refine mx_iconst d_H_shoot_14 ?_
  refine mx_istore 4 d_H_shoot_15 (Nat.le_of_ble_eq_true rfl) ?_
  have hfr := hj.m.g.fr s h1.1 h1.2
  have hl : ∀ q : Nat × mj_M, ((q.1 : Int) ≤ gI A 224 s ∧ shq C A s q.1 q.2) → mj_X G n_H_shoot (mj_Qm G n_H_shoot (fun r A' => (0 ≤ s ∧ s < gI A 200 23) ∧ r = some (mI (mj_sum (fun f => mo_sb (vi C A) s f) (gI A 224 s).toNat)) ∧ shq C A s (gI A 224 s) A') (px1 A xI (0 ≤ s ∧ s < gI A 200 23))) q.2 0 0 17 [some (mR (some 100)), some (mI s), some (mR (some (4000 + 100 * s))), some (mI (mj_sum (fun f => mo_sb (vi C A) s f) q.1)), some (mI (q.1 : Int))] [] := by
    refine mj_loop _ (fun q => 25 - q.1) _ ?_
    intro ⟨k, W⟩ ⟨hk, hq⟩ ih
    replace hk : (k : Int) ≤ gI A 224 s := hk
    replace hq : shq C A s k W := hq
    show mj_X G n_H_shoot (mj_Qm G n_H_shoot (fun r A' => (0 ≤ s ∧ s < gI A 200 23) ∧ r = some (mI (mj_sum (fun f => mo_sb (vi C A) s f) (gI A 224 s).toNat)) ∧ shq C A s (gI A 224 s) A') (px1 A xI (0 ≤ s ∧ s < gI A 200 23))) W 0 0 17 [some (mR (some 100)), some (mI s), some (mR (some (4000 + 100 * s))), some (mI (mj_sum (fun f => mo_sb (vi C A) s f) k)), some (mI (k : Int))] []
    have hw := hq.j
    have hlw := hq.l
    have hH := hw.x.H
    have e23 : gI W 200 23 = gI A 200 23 := hlw.I _ _ (by omega) (by omega)
    have e24 : gI W 224 s = gI A 224 s := hlw.I _ _ (by omega) (by omega)
    have hs' : 0 ≤ s ∧ s < gI W 200 23 := by rw [e23]; exact h1
    have hS := hw.s.S
    have hfr0 := (hw.s.fr s hs'.1 hs'.2).trans e24
    have e9 : mj_sum (fun f => mo_sb (vi C A) s f) (k + 1) = mj_sum (fun f => mo_sb (vi C A) s f) k + mo_sb (vi C A) s k := rfl
    refine mx_R fun hR => ?_
    refine mx_iload 4 d_H_shoot_17 rfl ?_
    refine mx_aload_n 2 d_H_shoot_19 rfl rfl ?_
    refine mx_getI 0 d_H_shoot_20 f_H_184 rfl rfl (hS.o s hs'.1 hs'.2) ?_
    rw [hfr0]
    refine mx_icmp_ge 65 d_H_shoot_23 rfl (by first | assumption | exact hR _ _ | exact r32_mk (by omega) (by omega)) (by first | assumption | exact hR _ _ | exact r32_mk (by omega) (by omega)) (fun c_23 => ?_) (fun c_23 => ?_)
    · refine mx_iload_n 3 d_H_shoot_65 rfl rfl ?_
      refine mx_iret d_H_shoot_66 rfl ?_
      refine ⟨h1, ?_, ?_⟩
      · rw [show (gI A 224 s).toNat = k by omega]
      · rw [show gI A 224 s = k by omega]
        exact hq
    · refine mx_aload_n 0 d_H_shoot_26 rfl rfl ?_
      refine mx_aload_n 2 d_H_shoot_27 rfl rfl ?_
      refine mx_iload 4 d_H_shoot_28 rfl ?_
      refine mx_callV (kc := 0) (ks := 0) (N := n_H_compose) (as := [_, _]) (ci := 6) d_H_shoot_30 s_H_240 ⟨Nat.le_of_ble_eq_true rfl, Nat.le_of_ble_eq_true rfl⟩ rfl (mj_wt_8 (Nat.le_of_ble_eq_true rfl)) (hH.o) ⟨_, rfl, rfl⟩ (ct_compose (f := (k : Int)) hw hs' (by rw [e24]; exact ⟨by omega, by omega⟩)) (fun r_30 A_30 h_30 => ?_) (fun E_30 A_x h_30 => ?_)
      rotate_left
      · exact h_30.elim
      obtain ⟨rfl, hq2, hco⟩ := h_30
      refine mx_R fun hR_1 => ?_
      have hw2 := hq2.j
      have hl2 := hq2.l
      have hH := hw2.x.H
      have hl3 := lsh_lh hlw hl2
      have e23' : gI A_30 200 23 = gI A 200 23 := hl3.I _ _ (by omega) (by omega)
      have e24' : gI A_30 224 s = gI A 224 s := hl3.I _ _ (by omega) (by omega)
      have hs2 : 0 ≤ s ∧ s < gI A_30 200 23 := by rw [e23']; exact h1
      have hf2 : 0 ≤ (k : Int) ∧ (k : Int) < gI A_30 224 s := by rw [e24']; exact ⟨by omega, by omega⟩
      have hS := hw2.s.S
      have hco2 : ∀ p, 0 ≤ p → p < 192 → gI A_30 115 p = mo_se (vi C A) s k (p.tmod 16) (p.tdiv 16) := fun p p0 p1 => by
        rw [co_all hco p0 p1, lsh_vi hlw h1.1]
      have h6 : ∀ c i, c = (4000 + 100 * s) + 6 → gI A_30 c i = gI W c i := fun c i hc => hl2.I c i (by omega)
      have hall := sq_st (W := A_30) (f := (k : Int)) hj hst h1 ⟨by omega, by omega⟩ (fun p p0 p1 => by rw [h6 _ _ rfl, hq.o k p (by omega) p0 p1]) hco2
      have hn3 : ∀ f p : Int, 0 ≤ f → f < k → 0 ≤ p → p < 192 → gI A_30 ((4000 + 100 * s) + 6) (192 * f + p) = mo_se (vi C A) s f (p.tmod 16) (p.tdiv 16) := fun f p f0 f1 p0 p1 => by
        rw [h6 _ _ rfl]
        exact hq.n f p f0 f1 p0 p1
      have ho3 : ∀ f p : Int, k ≤ f → 0 ≤ p → p < 192 → gI A_30 ((4000 + 100 * s) + 6) (192 * f + p) = gI A ((4000 + 100 * s) + 6) (192 * f + p) := fun f p f0 p0 p1 => by
        rw [h6 _ _ rfl]
        exact hq.o f p f0 p0 p1
      refine mx_aload_n 2 d_H_shoot_33 rfl rfl ?_
      refine mx_iload 4 d_H_shoot_34 rfl ?_
      refine mx_aload_n 0 d_H_shoot_36 rfl rfl ?_
      refine mx_getPs 14 d_H_shoot_37 f_H_49 rfl rfl (hH.o) (hH.p14) ?_
      refine mx_callV (kc := 0) (ks := 0) (N := n_S_isAsShot) (as := [_, _]) (ci := 4) d_H_shoot_40 s_H_244 ⟨Nat.le_of_ble_eq_true rfl, Nat.le_of_ble_eq_true rfl⟩ rfl (mj_wt_8 (Nat.le_of_ble_eq_true rfl)) (hS.o s hs2.1 hs2.2) ⟨_, rfl, rfl⟩ (ct_isAsShot (A := A_30) (f := (k : Int)) hw2.s hw2.m.g hs2 hf2 hH.s14) (fun r_40 A_40 h_40 => ?_) (fun E_40 A_x h_40 => ?_)
      rotate_left
      · exact h_40.elim
      obtain ⟨rfl, hA_40⟩ := h_40
      obtain rfl := hA_40.symm
      clear hA_40
      refine mx_R fun hR_2 => ?_
      refine mx_if_ne 59 d_H_shoot_43 rfl (by split <;> exact r32_mk (by omega) (by omega)) (fun c_43 => ?_) (fun c_43 => ?_)
      · skip
        have hno := hall.mp (mj_if1 c_43)
        have hsh := (mj_all_iff 192).mp (mj_if1 c_43)
        refine mx_R fun hR => ?_
        refine mx_iinc 4 d_H_shoot_59 rfl (Nat.le_of_ble_eq_true rfl) ?_
        refine mx_goto 17 d_H_shoot_62 rfl ?_
        have h9 := ih (k + 1, A_30) ⟨by show ((k + 1 : Nat) : Int) ≤ _; omega, hw2, hl3, fun f p f0 f1 p0 p1 => ?_, fun f p f0 p0 p1 => ho3 f p (by replace f0 : ((k + 1 : Nat) : Int) ≤ f := f0; omega) p0 p1⟩ (by show 25 - (k + 1) < 25 - k; omega)
        · replace h9 : mj_X G n_H_shoot (mj_Qm G n_H_shoot (fun r A' => (0 ≤ s ∧ s < gI A 200 23) ∧ r = some (mI (mj_sum (fun f => mo_sb (vi C A) s f) (gI A 224 s).toNat)) ∧ shq C A s (gI A 224 s) A') (px1 A xI (0 ≤ s ∧ s < gI A 200 23))) A_30 0 0 17 [some (mR (some 100)), some (mI s), some (mR (some (4000 + 100 * s))), some (mI (mj_sum (fun f => mo_sb (vi C A) s f) (k + 1))), some (mI ((k + 1 : Nat) : Int))] [] := h9
          rw [show ((k + 1 : Nat) : Int) = (k : Int) + 1 by omega, e9, mo_sb_0 hno, Int.add_zero] at h9
          exact h9
        · replace f1 : f < ((k + 1 : Nat) : Int) := f1
          by_cases e : f = k
          · have h8 := hsh p p0 (by omega)
            rw [decide_eq_true_iff] at h8
            rw [e, h8, hco2 p p0 p1]
          · exact hn3 f p f0 (by omega) p0 p1
      · refine mx_aload_n 2 d_H_shoot_46 rfl rfl ?_
        refine mx_iload 4 d_H_shoot_47 rfl ?_
        refine mx_aload_n 0 d_H_shoot_49 rfl rfl ?_
        refine mx_getPs 14 d_H_shoot_50 f_H_49 rfl rfl (hH.o) (hH.p14) ?_
        refine mx_callV (kc := 0) (ks := 0) (N := n_S_keep) (as := [_, _]) (ci := 4) d_H_shoot_53 s_H_248 ⟨Nat.le_of_ble_eq_true rfl, Nat.le_of_ble_eq_true rfl⟩ rfl (mj_wt_8 (Nat.le_of_ble_eq_true rfl)) (hS.o s hs2.1 hs2.2) ⟨_, rfl, rfl⟩ (ct_keep (A := A_30) (f := (k : Int)) hw2.s hw2.m.g hs2 hf2 hH.s14) (fun r_53 A_53 h_53 => ?_) (fun E_53 A_x h_53 => ?_)
        rotate_left
        · exact h_53.elim
        obtain ⟨rfl, hA_53⟩ := h_53
        obtain rfl := hA_53.symm
        clear hA_53
        refine mx_R fun hR_3 => ?_
        refine mx_iinc 3 d_H_shoot_56 rfl (Nat.le_of_ble_eq_true rfl) ?_
        refine mx_iinc 4 d_H_shoot_59 rfl (Nat.le_of_ble_eq_true rfl) ?_
        refine mx_goto 17 d_H_shoot_62 rfl ?_
        have hst2 : mo_st (vi C A) s k := Classical.byContradiction fun hx => mj_if0 c_43 (hall.mpr hx)
        have h9 := ih (k + 1, sF A_30 ((4000 + 100 * s) + 6) (fun i => if 192 * (k : Int) ≤ i ∧ i < 192 * (k : Int) + 192 then gI A_30 115 (i - 192 * (k : Int)) else gI A_30 ((4000 + 100 * s) + 6) i)) ⟨by show ((k + 1 : Nat) : Int) ≤ _; omega, JJ_6 ⟨h1.1, by omega⟩ hw2, ⟨fun c => hl3.S c, fun c i => hl3.P c i, fun c i hc hc2 => by show gI (sF A_30 ((4000 + 100 * s) + 6) _) c i = _; rw [gI_sF, if_neg hc]; exact hl3.I c i hc hc2⟩, fun f p f0 f1 p0 p1 => ?_, fun f p f0 p0 p1 => ?_⟩ (by show 25 - (k + 1) < 25 - k; omega)
        · replace h9 : mj_X G n_H_shoot (mj_Qm G n_H_shoot (fun r A' => (0 ≤ s ∧ s < gI A 200 23) ∧ r = some (mI (mj_sum (fun f => mo_sb (vi C A) s f) (gI A 224 s).toNat)) ∧ shq C A s (gI A 224 s) A') (px1 A xI (0 ≤ s ∧ s < gI A 200 23))) (sF A_30 ((4000 + 100 * s) + 6) (fun i => if 192 * (k : Int) ≤ i ∧ i < 192 * (k : Int) + 192 then gI A_30 115 (i - 192 * (k : Int)) else gI A_30 ((4000 + 100 * s) + 6) i)) 0 0 17 [some (mR (some 100)), some (mI s), some (mR (some (4000 + 100 * s))), some (mI (mj_sum (fun f => mo_sb (vi C A) s f) (k + 1))), some (mI ((k + 1 : Nat) : Int))] [] := h9
          rw [show ((k + 1 : Nat) : Int) = (k : Int) + 1 by omega, e9, mo_sb_1 hst2] at h9
          exact h9
        · replace f1 : f < ((k + 1 : Nat) : Int) := f1
          show gI (sF A_30 ((4000 + 100 * s) + 6) _) ((4000 + 100 * s) + 6) (192 * f + p) = _
          rw [gI_sF, if_pos rfl]
          by_cases e : f = k
          · rw [if_pos (by omega), e, show 192 * (k : Int) + p - 192 * (k : Int) = p by omega, hco2 p p0 p1]
          · rw [if_neg (by omega)]
            exact hn3 f p f0 (by omega) p0 p1
        · replace f0 : ((k + 1 : Nat) : Int) ≤ f := f0
          show gI (sF A_30 ((4000 + 100 * s) + 6) _) ((4000 + 100 * s) + 6) (192 * f + p) = _
          rw [gI_sF, if_pos rfl, if_neg (by omega)]
          exact ho3 f p (by omega) p0 p1
  exact hl (0, A) ⟨by show ((0 : Nat) : Int) ≤ _; omega, hj, ⟨fun _ => rfl, fun _ _ => rfl, fun _ _ _ _ => rfl⟩, fun f p f0 f1 => absurd f1 (by show ¬ f < 0; omega), fun f p f0 p0 p1 => rfl⟩
theorem ct_hours_d {C : Int → cT} {h : Int} (hj : JJ C A) (hT : (0 ≤ h ∧ h < gI A 200 40)) {PX : String → mj_M → Prop} :
    ∀ q : Nat × (Int → Int) × Option mj_V × Option mj_V × Option mj_V, ((q.1 : Int) ≤ gI A 200 3 ∧ (∀ i, 0 ≤ i → i < gI A 200 40 → q.2.1 i = (hr (mo_w A) (gI A 241) (gI A 200 40 - 1).toNat) q.1 i)) → mj_X G n_H_hours (mj_Qm G n_H_hours (fun r A' => (0 ≤ h ∧ h < gI A 200 40) ∧ r = some (mI ((hr (mo_w A) (gI A 241) (gI A 200 40 - 1).toNat) (gI A 200 3).toNat h)) ∧ ∃ g, A' = (fun g => sF A 118 g) g) PX) ((fun g => sF A 118 g) q.2.1) 0 0 33 [some (mR (some 100)), some (mI h), some (mI (q.1 : Int)), q.2.2.1, q.2.2.2.1, q.2.2.2.2] [] := by
  have hnd := hj.m.g.nd
  have hnh := hj.m.nh
  have hxn := hj.x.n
  have hn1 := hj.y.nh
  refine mj_loop _ (fun q => 17 - q.1) _ ?_
  intro ⟨t, g, l4, l5, l6⟩ ⟨ht, hg⟩ ih
  replace ht : (t : Int) ≤ gI A 200 3 := ht
  replace hg : ∀ i, 0 ≤ i → i < gI A 200 40 → g i = (hr (mo_w A) (gI A 241) (gI A 200 40 - 1).toNat) t i := hg
  show mj_X G n_H_hours (mj_Qm G n_H_hours (fun r A' => (0 ≤ h ∧ h < gI A 200 40) ∧ r = some (mI ((hr (mo_w A) (gI A 241) (gI A 200 40 - 1).toNat) (gI A 200 3).toNat h)) ∧ ∃ g, A' = (fun g => sF A 118 g) g) PX) ((fun g => sF A 118 g) g) 0 0 33 [some (mR (some 100)), some (mI h), some (mI (t : Int)), l4, l5, l6] []
  have hHA := hj.x.H
  have hDA := hj.D
  have eS : ∀ c, gS ((fun g => sF A 118 g) g) c = gS A c := fun c => rfl
  have eP : ∀ c i, gP ((fun g => sF A 118 g) g) c i = gP A c i := fun c i => rfl
  have eI : ∀ c i, c ≠ 118 → gI ((fun g => sF A 118 g) g) c i = gI A c i := fun c i hc => by
    rw [gI_sF, if_neg hc]
  have e13 : ∀ i, gI ((fun g => sF A 118 g) g) 118 i = g i := fun i => by rw [gI_sF, if_pos rfl]
  have hH : HS ((fun g => sF A 118 g) g) := HS_ag (fun c h0 h1 => eS c) (fun c i h0 h1 _ => eP c i) hHA
  have hD : DS ((fun g => sF A 118 g) g) (gI A 200 3) := fun d d0 d1 => DS1_ag (fun c h0 h1 => eS c) (fun c i h0 h1 => eP c i) (hDA d d0 d1)
  have hkey : ∀ d, 0 ≤ d → d < gI A 200 3 → gI A 204 d = -1 → gI A (1000 + 100 * d) 6 = gI A 209 d := fun d d0 d1 d2 => (hj.h.e d d0 d1).n.symm.trans (hj.m.C.k d d0 d1 d2).n
  have hw8 : ∀ d, 0 ≤ d → d < gI A 200 3 → 0 ≤ gI A (1000 + 100 * d) 6 ∧ gI A (1000 + 100 * d) 6 ≤ 8 := fun d d0 d1 => (hj.cr d d0 d1).n
  have hww : ∀ i : Int, 0 ≤ i → i < t → mo_w A i ≤ 8 := fun i i0 i1 => by
    have h1 := hw8 i i0 (by omega)
    show (if gI A 204 i = -1 then gI A 209 i else 0) ≤ 8
    by_cases e : gI A 204 i = -1
    · rw [if_pos e, ← hkey i i0 (by omega) e]; omega
    · rw [if_neg e]; omega
  have hrr := hr_r (w := mo_w A) (s := gI A 241) (h := (gI A 200 40 - 1).toNat) (fun i i0 i1 => hj.m.hs i i0 (by omega)) t hww
  have hgr : ∀ i, 0 ≤ i → i < gI A 200 40 → 0 ≤ g i ∧ g i ≤ 128 := fun i i0 i1 => by
    rw [hg i i0 i1]
    have := hrr i
    omega
  have ehb : hb g (gI A 200 40 - 1).toNat = hb ((hr (mo_w A) (gI A 241) (gI A 200 40 - 1).toNat) t) (gI A 200 40 - 1).toNat := hb_c _ fun i i0 i1 => hg i i0 (by omega)
  have hbr := hb_r (b := g) (gI A 200 40 - 1).toNat
  have hsb := hj.m.hs (hb g (gI A 200 40 - 1).toNat) (by omega) (by omega)
  have e1 : ((t + 1 : Nat) : Int) = (t : Int) + 1 := by omega
  have hno : (mo_w A t ≤ 0) → ∀ l4 l5 l6, (t : Int) < gI A 200 3 → mj_X G n_H_hours (mj_Qm G n_H_hours (fun r A' => (0 ≤ h ∧ h < gI A 200 40) ∧ r = some (mI ((hr (mo_w A) (gI A 241) (gI A 200 40 - 1).toNat) (gI A 200 3).toNat h)) ∧ ∃ g, A' = (fun g => sF A 118 g) g) PX) ((fun g => sF A 118 g) g) 0 0 33 [some (mR (some 100)), some (mI h), some (mI ((t : Int) + 1)), l4, l5, l6] [] := fun hz l4 l5 l6 ht3 => by
    have h9 := ih (t + 1, g, l4, l5, l6) ⟨by show ((t + 1 : Nat) : Int) ≤ _; omega, fun i i0 i1 => by
      show g i = (hr (mo_w A) (gI A 241) (gI A 200 40 - 1).toNat) (t + 1) i
      rw [hr, if_neg (by omega)]
      exact hg i i0 i1⟩ (by show 17 - (t + 1) < 17 - t; omega)
    replace h9 : mj_X G n_H_hours (mj_Qm G n_H_hours (fun r A' => (0 ≤ h ∧ h < gI A 200 40) ∧ r = some (mI ((hr (mo_w A) (gI A 241) (gI A 200 40 - 1).toNat) (gI A 200 3).toNat h)) ∧ ∃ g, A' = (fun g => sF A 118 g) g) PX) ((fun g => sF A 118 g) g) 0 0 33 [some (mR (some 100)), some (mI h), some (mI ((t + 1 : Nat) : Int)), l4, l5, l6] [] := h9
    rw [e1] at h9
    exact h9
  have ehh : hb (gI ((fun g => sF A 118 g) g) 118) (gI ((fun g => sF A 118 g) g) 100 11 - 1).toNat = hb g (gI A 200 40 - 1).toNat := by
    rw [eI 100 11 (by omega), hn1]
    exact hb_c _ fun i _ _ => e13 i
  refine mx_R fun hR => ?_
  refine mx_iload_n 2 d_H_hours_33 rfl rfl ?_
  refine mx_aload_n 0 d_H_hours_34 rfl rfl ?_
  refine mx_getI 1 d_H_hours_35 f_H_68 rfl rfl (hH.o) ?_
  rw [eI 100 1 (by omega), hxn]
  refine mx_icmp_ge 111 d_H_hours_38 rfl (by first | assumption | exact hR _ _ | exact r32_mk (by omega) (by omega)) (by first | assumption | exact hR _ _ | exact r32_mk (by omega) (by omega)) (fun c_38 => ?_) (fun c_38 => ?_)
  · refine mx_aload_n 0 d_H_hours_111 rfl rfl ?_
    refine mx_getPs 17 d_H_hours_112 f_H_43 rfl rfl (hH.o) (hH.p17) ?_
    refine mx_iload_n 1 d_H_hours_115 rfl rfl ?_
    refine mx_iald d_H_hours_116 (hH.s17) (by omega) (by omega) ?_
    refine mx_iret d_H_hours_117 rfl ?_
    refine ⟨hT, ?_, g, rfl⟩
    rw [e13, show (gI A 200 3).toNat = t by omega, ← hg h hT.1 hT.2]
  · refine mx_aload_n 0 d_H_hours_41 rfl rfl ?_
    refine mx_getPs 0 d_H_hours_42 f_H_11 rfl rfl (hH.o) (hH.p0) ?_
    refine mx_iload_n 2 d_H_hours_45 rfl rfl ?_
    refine mx_aalds d_H_hours_46 (hH.s0) (by decide) (by omega) (by omega) ((eP 101 _).trans (hj.x.r t (by omega) (by omega))) ?_
    refine mx_getI 6 d_H_hours_47 f_H_124 rfl rfl (hD.o t (by omega) (by omega)) ?_
    rw [eI (1000 + 100 * (t : Int)) 6 (by omega)]
    have hwt := hw8 t (by omega) (by omega)
    have hat := hj.x.a t (by omega) (by omega)
    refine mx_istore_n 3 d_H_hours_50 rfl (Nat.le_of_ble_eq_true rfl) ?_
    refine mx_aload_n 0 d_H_hours_51 rfl rfl ?_
    refine mx_getPs 0 d_H_hours_52 f_H_11 rfl rfl (hH.o) (hH.p0) ?_
    refine mx_iload_n 2 d_H_hours_55 rfl rfl ?_
    refine mx_aalds d_H_hours_56 (hH.s0) (by decide) (by omega) (by omega) ((eP 101 _).trans (hj.x.r t (by omega) (by omega))) ?_
    refine mx_callV (kc := 0) (ks := 0) (N := n_D_isKey) (as := []) (ci := 0) d_H_hours_57 s_H_324 ⟨Nat.le_of_ble_eq_true rfl, Nat.le_of_ble_eq_true rfl⟩ rfl (mj_wt_8 (Nat.le_of_ble_eq_true rfl)) (hD.o t (by omega) (by omega)) ⟨_, rfl, rfl⟩ (ct_isKey (hD.o t (by omega) (by omega))) (fun r_57 A_57 h_57 => ?_) (fun E_57 A_x h_57 => ?_)
    rotate_left
    · exact h_57.elim
    obtain ⟨rfl, hA_57⟩ := h_57
    obtain rfl := hA_57.symm
    clear hA_57
    refine mx_R fun hR_1 => ?_
    rw [eP (1000 + 100 * (t : Int)) 0, hat]
    refine mx_if_eq 105 d_H_hours_60 rfl (by first | assumption | exact hR_1 _ _ | exact hR _ _ | exact r32_mk (by omega) (by omega)) (fun c_60 => ?_) (fun c_60 => ?_)
    · refine mx_iinc 2 d_H_hours_105 rfl (Nat.le_of_ble_eq_true rfl) ?_
      refine mx_goto 33 d_H_hours_108 rfl ?_
      first
      | (refine hno ?_ _ _ _ (by omega)
         have hnk : gI A 204 t ≠ -1 := fun e => mj_if0 (by assumption) (if_pos e)
         show (if gI A 204 t = -1 then gI A 209 t else 0) ≤ 0
         rw [if_neg hnk]
         omega)
      | (refine hno ?_ _ _ _ (by omega)
         have hk := pd_0 (mj_if1 (by assumption))
         show (if gI A 204 t = -1 then gI A 209 t else 0) ≤ 0
         rw [if_pos hk, ← hkey t (by omega) (by omega) hk]
         omega)
      | exact hfin
    · refine mx_iload_n 3 d_H_hours_63 rfl rfl ?_
      refine mx_if_le 105 d_H_hours_64 rfl (by first | assumption | exact hR_1 _ _ | exact hR _ _ | exact r32_mk (by omega) (by omega)) (fun c_64 => ?_) (fun c_64 => ?_)
      · refine mx_iinc 2 d_H_hours_105 rfl (Nat.le_of_ble_eq_true rfl) ?_
        refine mx_goto 33 d_H_hours_108 rfl ?_
        first
        | (refine hno ?_ _ _ _ (by omega)
           have hnk : gI A 204 t ≠ -1 := fun e => mj_if0 (by assumption) (if_pos e)
           show (if gI A 204 t = -1 then gI A 209 t else 0) ≤ 0
           rw [if_neg hnk]
           omega)
        | (refine hno ?_ _ _ _ (by omega)
           have hk := pd_0 (mj_if1 (by assumption))
           show (if gI A 204 t = -1 then gI A 209 t else 0) ≤ 0
           rw [if_pos hk, ← hkey t (by omega) (by omega) hk]
           omega)
        | exact hfin
      · refine mx_aload_n 0 d_H_hours_67 rfl rfl ?_
        refine mx_callV (kc := 0) (ks := 0) (N := n_H_firstFree) (as := []) (ci := 6) d_H_hours_68 s_H_327 ⟨Nat.le_of_ble_eq_true rfl, Nat.le_of_ble_eq_true rfl⟩ rfl (mj_wt_8 (Nat.le_of_ble_eq_true rfl)) (hH.o) ⟨_, rfl, rfl⟩ (ct_firstFree (A := (fun g => sF A 118 g) g) hH (by rw [eI 100 11 (by omega), hn1]; omega) (fun i i0 i1 => by rw [eI 100 11 (by omega), hn1] at i1; rw [e13]; have := hgr i i0 i1; omega)) (fun r_68 A_68 h_68 => ?_) (fun E_68 A_x h_68 => ?_)
        rotate_left
        · exact h_68.elim
        obtain ⟨rfl, hA_68⟩ := h_68
        obtain rfl := hA_68.symm
        clear hA_68
        refine mx_R fun hR_2 => ?_
        rw [ehh]
        refine mx_istore 4 d_H_hours_71 (Nat.le_of_ble_eq_true rfl) ?_
        refine mx_iconst d_H_hours_73 ?_
        refine mx_aload_n 0 d_H_hours_74 rfl rfl ?_
        refine mx_getPs 10 d_H_hours_75 f_H_40 rfl rfl (hH.o) (hH.p10) ?_
        refine mx_iload 4 d_H_hours_78 rfl ?_
        refine mx_iald d_H_hours_80 (hH.s10) (by omega) (by omega) ?_
        rw [eI 111 _ (by omega), hj.y.hs _ (by omega) (by omega)]
        refine mx_max d_H_hours_81 s_H_330 (Nat.le_of_ble_eq_true rfl) (mj_wt_13 (Nat.le_of_ble_eq_true rfl)) ((r32_mk (by omega) (by omega))) ((r32_mk (by omega) (by omega))) ?_
        rw [show (if (1 : Int) < gI A 241 (hb g (gI A 200 40 - 1).toNat) then gI A 241 (hb g (gI A 200 40 - 1).toNat) else 1) = gI A 241 (hb g (gI A 200 40 - 1).toNat) by omega]
        refine mx_istore 5 d_H_hours_84 (Nat.le_of_ble_eq_true rfl) ?_
        refine mx_aload_n 0 d_H_hours_86 rfl rfl ?_
        refine mx_getPs 17 d_H_hours_87 f_H_43 rfl rfl (hH.o) (hH.p17) ?_
        refine mx_iload 4 d_H_hours_90 rfl ?_
        refine mx_dup2 d_H_hours_92 (fun z h => by cases h) (fun z h => by cases h) ?_
        refine mx_iald d_H_hours_93 (hH.s17) (by omega) (by omega) ?_
        rw [e13]
        have hgb := hgr (hb g (gI A 200 40 - 1).toNat) (by omega) (by omega)
        have hqq := hr_q (w := gI A (1000 + 100 * (t : Int)) 6) (s := gI A 241 (hb g (gI A 200 40 - 1).toNat)) ⟨by omega, by omega⟩ hsb
        refine mx_iload_n 3 d_H_hours_94 rfl rfl ?_
        refine mx_iload 5 d_H_hours_95 rfl ?_
        refine mx_iadd d_H_hours_97 ?_
        refine mx_iconst d_H_hours_98 ?_
        refine mx_isub d_H_hours_99 ?_
        refine mx_iload 5 d_H_hours_100 rfl ?_
        refine mx_idiv d_H_hours_102 (by first | assumption | exact hR_2 _ _ | exact hR_1 _ _ | exact hR _ _ | exact r32_mk (by omega) (by omega)) (by first | assumption | exact hR_2 _ _ | exact hR_1 _ _ | exact hR _ _ | exact r32_mk (by omega) (by omega)) (by omega) ?_
        refine mx_iadd d_H_hours_103 ?_
        refine mx_iast d_H_hours_104 (hH.s17) (by omega) (by omega) (by first | assumption | exact hR_2 _ _ | exact hR_1 _ _ | exact hR _ _ | exact r32_mk (by omega) (by omega)) ?_
        refine mx_R fun hR_3 => ?_
        rw [sI_sF]
        have hk := pd_0 (mj_if1 c_60)
        have ewt : mo_w A t = gI A (1000 + 100 * (t : Int)) 6 := by
          show (if gI A 204 t = -1 then gI A 209 t else 0) = _
          rw [if_pos hk, hkey t (by omega) (by omega) hk]
        have hfin : mj_X G n_H_hours (mj_Qm G n_H_hours (fun r A' => (0 ≤ h ∧ h < gI A 200 40) ∧ r = some (mI ((hr (mo_w A) (gI A 241) (gI A 200 40 - 1).toNat) (gI A 200 3).toNat h)) ∧ ∃ g, A' = (fun g => sF A 118 g) g) PX) ((fun g => sF A 118 g) (fun j => if j = hb g (gI A 200 40 - 1).toNat then g (hb g (gI A 200 40 - 1).toNat) + (gI A (1000 + 100 * (t : Int)) 6 + gI A 241 (hb g (gI A 200 40 - 1).toNat) - 1).tdiv (gI A 241 (hb g (gI A 200 40 - 1).toNat)) else g j)) 0 0 33 [some (mR (some 100)), some (mI h), some (mI ((t : Int) + 1)), some (mI (gI A (1000 + 100 * (t : Int)) 6)), some (mI (hb g (gI A 200 40 - 1).toNat)), some (mI (gI A 241 (hb g (gI A 200 40 - 1).toNat)))] [] := by
          have h9 := ih (t + 1, _, some (mI (gI A (1000 + 100 * (t : Int)) 6)), some (mI (hb g (gI A 200 40 - 1).toNat)), some (mI (gI A 241 (hb g (gI A 200 40 - 1).toNat)))) ⟨by show ((t + 1 : Nat) : Int) ≤ _; omega, fun i i0 i1 => by
            show (if i = hb g (gI A 200 40 - 1).toNat then g (hb g (gI A 200 40 - 1).toNat) + (gI A (1000 + 100 * (t : Int)) 6 + gI A 241 (hb g (gI A 200 40 - 1).toNat) - 1).tdiv (gI A 241 (hb g (gI A 200 40 - 1).toNat)) else g i) = (hr (mo_w A) (gI A 241) (gI A 200 40 - 1).toNat) (t + 1) i
            have h8 : 0 < mo_w A t := by rw [ewt]; omega
            rw [hr, if_pos h8]
            show _ = (if i = hb ((hr (mo_w A) (gI A 241) (gI A 200 40 - 1).toNat) t) (gI A 200 40 - 1).toNat then (hr (mo_w A) (gI A 241) (gI A 200 40 - 1).toNat) t (hb ((hr (mo_w A) (gI A 241) (gI A 200 40 - 1).toNat) t) (gI A 200 40 - 1).toNat) + (mo_w A t + gI A 241 (hb ((hr (mo_w A) (gI A 241) (gI A 200 40 - 1).toNat) t) (gI A 200 40 - 1).toNat) - 1).tdiv (gI A 241 (hb ((hr (mo_w A) (gI A 241) (gI A 200 40 - 1).toNat) t) (gI A 200 40 - 1).toNat)) else (hr (mo_w A) (gI A 241) (gI A 200 40 - 1).toNat) t i)
            rw [← ehb, ewt, ← hg (hb g (gI A 200 40 - 1).toNat) (by omega) (by omega), ← hg i i0 i1]⟩ (by show 17 - (t + 1) < 17 - t; omega)
          exact h9
        refine mx_iinc 2 d_H_hours_105 rfl (Nat.le_of_ble_eq_true rfl) ?_
        refine mx_goto 33 d_H_hours_108 rfl ?_
        first
        | (refine hno ?_ _ _ _ (by omega)
           have hnk : gI A 204 t ≠ -1 := fun e => mj_if0 (by assumption) (if_pos e)
           show (if gI A 204 t = -1 then gI A 209 t else 0) ≤ 0
           rw [if_neg hnk]
           omega)
        | (refine hno ?_ _ _ _ (by omega)
           have hk := pd_0 (mj_if1 (by assumption))
           show (if gI A 204 t = -1 then gI A 209 t else 0) ≤ 0
           rw [if_pos hk, ← hkey t (by omega) (by omega) hk]
           omega)
        | exact hfin
theorem ct_hours {C : Int → cT} {h : Int} (hj : JJ C A) (hh : r32 h) : mj_Cal G n_H_hours [mR (some 100), mI h] A (fun r A' => (0 ≤ h ∧ h < gI A 200 40) ∧ r = some (mI ((hr (mo_w A) (gI A 241) (gI A 200 40 - 1).toNat) (gI A 200 3).toNat h)) ∧ ∃ g, A' = (fun g => sF A 118 g) g) (px1 A xI (0 ≤ h ∧ h < gI A 200 40)) := by
  refine mj_bodyK 1 6 [some (mR (some 100)), some (mI h), none, none, none, none] rfl rfl rfl (by decide +kernel) (Nat.le_of_ble_eq_true rfl) (by simp) rfl ?_
  have hH := hj.x.H
  have hn1 := hj.y.nh
  have hnh := hj.m.nh
  refine mx_R fun hR => ?_
  refine mx_iload_n 1 d_H_hours_0 rfl rfl ?_
  refine mx_if_lt 12 d_H_hours_1 rfl (by first | assumption | exact hR _ _ | exact r32_mk (by omega) (by omega)) (fun c_1 => ?_) (fun c_1 => ?_)
  · refine mx_throwW (text := "no such hand") t_H_319_323 (by decide) rfl (Nat.le_of_ble_eq_true rfl) (Nat.le_of_ble_eq_true rfl) d_H_hours_12 d_H_hours_15 d_H_hours_16 d_H_hours_19 d_H_hours_22 ?_
    exact ⟨rfl, rfl, by omega⟩
  · refine mx_iload_n 1 d_H_hours_4 rfl rfl ?_
    refine mx_aload_n 0 d_H_hours_5 rfl rfl ?_
    refine mx_getI 11 d_H_hours_6 f_H_254 rfl rfl (hH.o) ?_
    refine mx_icmp_lt 23 d_H_hours_9 rfl (by first | assumption | exact hR _ _ | exact r32_mk (by omega) (by omega)) (by first | assumption | exact hR _ _ | exact r32_mk (by omega) (by omega)) (fun c_9 => ?_) (fun c_9 => ?_)
    · refine mx_aload_n 0 d_H_hours_23 rfl rfl ?_
      refine mx_getPs 17 d_H_hours_24 f_H_43 rfl rfl (hH.o) (hH.p17) ?_
      refine mx_iconst d_H_hours_27 ?_
      refine mx_callS (kc := 1) (ks := 6) (N := n_J_fill) (as := [_, _]) d_H_hours_28 s_H_28 ⟨Nat.le_of_ble_eq_true rfl, Nat.le_of_ble_eq_true rfl⟩ rfl (mj_wt_8 (Nat.le_of_ble_eq_true rfl)) (ct_fill (n := 4) hH.s17 (by omega) (by omega) (r32_mk (by omega) (by omega))) (fun r_28 A_28 h_28 => ?_) (fun E_28 A_x h_28 => ?_)
      rotate_left
      · exact h_28.elim
      obtain ⟨rfl, hA_28⟩ := h_28
      obtain rfl := hA_28.symm
      clear hA_28
      refine mx_R fun hR_1 => ?_
      refine mx_iconst d_H_hours_31 ?_
      refine mx_istore_n 2 d_H_hours_32 rfl (Nat.le_of_ble_eq_true rfl) ?_
      refine mx_less (kc' := 0) (ks' := 0) (by decide) (by decide) ?_
      exact ct_hours_d (G := G) (PX := px1 A xI (0 ≤ h ∧ h < gI A 200 40)) hj (h := h) ⟨by omega, by omega⟩ (0, (fun j => if 0 ≤ j ∧ j < 4 then 0 else gI A 118 j), none, none, none) ⟨by have := hj.m.g.nd; show ((0 : Nat) : Int) ≤ _; omega, fun i i0 i1 => if_pos ⟨i0, by omega⟩⟩
    · refine mx_throwW (text := "no such hand") t_H_319_323 (by decide) rfl (Nat.le_of_ble_eq_true rfl) (Nat.le_of_ble_eq_true rfl) d_H_hours_12 d_H_hours_15 d_H_hours_16 d_H_hours_19 d_H_hours_22 ?_
      exact ⟨rfl, rfl, by omega⟩
end CLSK
