/-! THE HOUSE, 20: a key is drawn anew, all follows -/
section CLSL
variable {G : mj_G} {A : mj_M}
/-- the key k is drawn anew -/
def ck (A : mj_M) (k : Int) (B : mj_M) : Prop := (∀ c, gS B c = gS A c) ∧ (∀ c i, c ≠ 1000 + 100 * k + 1 → gP B c i = gP A c i) ∧ (∀ c i, ¬ (c = 100 ∧ (i = 2 ∨ i = 3)) → ¬ (c = 1000 + 100 * k ∧ (i = 6 ∨ i = 9 ∨ i = 10)) → ¬ (1000 + 100 * k + 2 ≤ c ∧ c ≤ 1000 + 100 * k + 11) → gI B c i = gI A c i) ∧ (DS1 B k) ∧ (cr (ch_c B k))
theorem ck.S {A : mj_M} {k : Int} {B : mj_M} (h : ck A k B) : ∀ c, gS B c = gS A c := h.1
theorem ck.P {A : mj_M} {k : Int} {B : mj_M} (h : ck A k B) : ∀ c i, c ≠ 1000 + 100 * k + 1 → gP B c i = gP A c i := h.2.1
theorem ck.I {A : mj_M} {k : Int} {B : mj_M} (h : ck A k B) : ∀ c i, ¬ (c = 100 ∧ (i = 2 ∨ i = 3)) → ¬ (c = 1000 + 100 * k ∧ (i = 6 ∨ i = 9 ∨ i = 10)) → ¬ (1000 + 100 * k + 2 ≤ c ∧ c ≤ 1000 + 100 * k + 11) → gI B c i = gI A c i := h.2.2.1
theorem ck.D {A : mj_M} {k : Int} {B : mj_M} (h : ck A k B) : DS1 B k := h.2.2.2.1
theorem ck.r {A : mj_M} {k : Int} {B : mj_M} (h : ck A k B) : cr (ch_c B k) := h.2.2.2.2
theorem ck_CX {C : Int → cT} {B : mj_M} {k : Int} (hj : JJ C A) (hk : 0 ≤ k ∧ k < gI A 200 3) (h : ck A k B) : CX B := by
  have hx := hj.x
  have hnd := hx.nd
  have hxn := hx.n
  have e1 : gI B 100 1 = gI A 100 1 := h.I _ _ (by omega) (by omega) (by omega)
  have e3 : gI B 200 3 = gI A 200 3 := h.I _ _ (by omega) (by omega) (by omega)
  have e4 : gI B 204 = gI A 204 := funext fun i => h.I _ _ (by omega) (by omega) (by omega)
  have e5 : gI B 205 = gI A 205 := funext fun i => h.I _ _ (by omega) (by omega) (by omega)
  have e6 : gI B 206 = gI A 206 := funext fun i => h.I _ _ (by omega) (by omega) (by omega)
  have e7 : gI B 207 = gI A 207 := funext fun i => h.I _ _ (by omega) (by omega) (by omega)
  refine ⟨HS_ag (fun c h0 h1 => h.S c) (fun c i h0 h1 h2 => h.P c i (by omega)) hx.H, ?_, by rw [e1]; exact hnd, by rw [e1, e3]; exact hx.n, ?_, ?_, ?_, ?_, ?_, ?_⟩
  · rw [e1]
    intro d d0 d1
    by_cases e : d = k
    · rw [e]; exact h.D
    · exact DS1_ag (fun c h0 h1 => h.S c) (fun c i h0 h1 => h.P c i (by omega)) (hx.D d d0 d1)
  · rw [e1]
    exact fun d d0 d1 => (h.P _ _ (by omega)).trans (hx.r d d0 d1)
  · rw [e1, e4]
    exact fun d d0 d1 => (h.P _ _ (by omega)).trans (hx.a d d0 d1)
  · rw [e1, e5]
    exact fun d d0 d1 => (h.P _ _ (by omega)).trans (hx.b d d0 d1)
  · rw [e1, e6, e7]
    exact fun d d0 d1 => ⟨(h.I _ _ (by omega) (by omega) (by omega)).trans (hx.p d d0 d1).1, (h.I _ _ (by omega) (by omega) (by omega)).trans (hx.p d d0 d1).2⟩
  · rw [e1]
    intro d d0 d1
    have h9 := hx.h d d0 d1
    rw [h.I (1000 + 100 * d) 4 (by omega) (by omega) (by omega)]
    refine ⟨h9.1, fun o o0 o1 => ?_⟩
    show _ ↔ d ≠ o ∧ hgs (gI B 204) (gI B 205) o 17 d = true
    rw [e4, e5]
    exact h9.2 o o0 o1
  · rw [e1, e4]
    intro d d0 d1 d2
    have h9 := hx.f d d0 d1 d2
    unfold mo_bt at h9 ⊢
    rw [e4, e5, e6, e7]
    exact h9
theorem ck_o {C : Int → cT} {B : mj_M} {k d : Int} (hj : JJ C A) (h : ck A k B) (hd : 0 ≤ d ∧ d < gI A 200 3) (n : d ≠ k) : ce (ch_c A d) (ch_c B d) :=
  ch_ag (fun i => h.P _ _ (by omega)) (fun c i h0 h1 => h.I _ _ (by omega) (by omega) (by omega)) (fun i i0 i1 => hj.D.ek d hd.1 hd.2 i i0 i1) (hj.cr d hd.1 hd.2)
theorem ck_r {C : Int → cT} {B : mj_M} {k : Int} (hj : JJ C A) (h : ck A k B) (d : Int) (d0 : 0 ≤ d) (d1 : d < gI A 200 3) : cr (ch_c B d) := by
  by_cases e : d = k
  · rw [e]; exact h.r
  · exact cr_e (ck_o hj h ⟨d0, d1⟩ e) (hj.cr d d0 d1)
/-- what is so when all has followed -/
def kf (C : Int → cT) (A : mj_M) (k : Int) (B : mj_M) (W : mj_M) : Prop := (CX W) ∧ (∀ c, gS W c = gS A c) ∧ (∀ c i, c ≠ 1000 + 100 * k + 1 → gP W c i = gP A c i) ∧ (∀ c i, ¬ (c = 100 ∧ (i = 2 ∨ i = 3)) → ¬ (1000 ≤ c ∧ c < 2600 ∧ (c % 100 = 0 ∧ (i = 6 ∨ i = 9 ∨ i = 10 ∨ i = 13) ∨ 2 ≤ c % 100 ∧ c % 100 ≤ 11)) → gI W c i = gI A c i) ∧ (∀ d, 0 ≤ d → d < gI A 200 3 → cr (ch_c W d)) ∧ (∀ d, 0 ≤ d → d < gI A 200 3 → gI A 204 d ≠ -1 → cb (gI A 206 d) (gI A 207 d) (ch_c W (gI A 204 d)) (ch_c W (gI A 205 d)) (ch_c W d)) ∧ (ce (ch_c B k) (ch_c W k)) ∧ (∀ d, 0 ≤ d → d < gI A 200 3 → gI A 204 d = -1 → d ≠ k → ce (C d) (ch_c W d)) ∧ (∀ d, 0 ≤ d → d < gI A 200 3 → gI W (1000 + 100 * d) 13 = 0 ∨ (gI W (1000 + 100 * d) 13 = 1 ∧ pv W d)) ∧ (gI W 100 2 = gI B 100 2 ∧ gI W 100 3 = gI B 100 3)
theorem kf.x {C : Int → cT} {A : mj_M} {k : Int} {B : mj_M} {W : mj_M} (h : kf C A k B W) : CX W := h.1
theorem kf.S {C : Int → cT} {A : mj_M} {k : Int} {B : mj_M} {W : mj_M} (h : kf C A k B W) : ∀ c, gS W c = gS A c := h.2.1
theorem kf.P {C : Int → cT} {A : mj_M} {k : Int} {B : mj_M} {W : mj_M} (h : kf C A k B W) : ∀ c i, c ≠ 1000 + 100 * k + 1 → gP W c i = gP A c i := h.2.2.1
theorem kf.I {C : Int → cT} {A : mj_M} {k : Int} {B : mj_M} {W : mj_M} (h : kf C A k B W) : ∀ c i, ¬ (c = 100 ∧ (i = 2 ∨ i = 3)) → ¬ (1000 ≤ c ∧ c < 2600 ∧ (c % 100 = 0 ∧ (i = 6 ∨ i = 9 ∨ i = 10 ∨ i = 13) ∨ 2 ≤ c % 100 ∧ c % 100 ≤ 11)) → gI W c i = gI A c i := h.2.2.2.1
theorem kf.c {C : Int → cT} {A : mj_M} {k : Int} {B : mj_M} {W : mj_M} (h : kf C A k B W) : ∀ d, 0 ≤ d → d < gI A 200 3 → cr (ch_c W d) := h.2.2.2.2.1
theorem kf.b {C : Int → cT} {A : mj_M} {k : Int} {B : mj_M} {W : mj_M} (h : kf C A k B W) : ∀ d, 0 ≤ d → d < gI A 200 3 → gI A 204 d ≠ -1 → cb (gI A 206 d) (gI A 207 d) (ch_c W (gI A 204 d)) (ch_c W (gI A 205 d)) (ch_c W d) := h.2.2.2.2.2.1
theorem kf.k {C : Int → cT} {A : mj_M} {k : Int} {B : mj_M} {W : mj_M} (h : kf C A k B W) : ce (ch_c B k) (ch_c W k) := h.2.2.2.2.2.2.1
theorem kf.o {C : Int → cT} {A : mj_M} {k : Int} {B : mj_M} {W : mj_M} (h : kf C A k B W) : ∀ d, 0 ≤ d → d < gI A 200 3 → gI A 204 d = -1 → d ≠ k → ce (C d) (ch_c W d) := h.2.2.2.2.2.2.2.1
theorem kf.v {C : Int → cT} {A : mj_M} {k : Int} {B : mj_M} {W : mj_M} (h : kf C A k B W) : ∀ d, 0 ≤ d → d < gI A 200 3 → gI W (1000 + 100 * d) 13 = 0 ∨ (gI W (1000 + 100 * d) 13 = 1 ∧ pv W d) := h.2.2.2.2.2.2.2.2.1
theorem kf.p {C : Int → cT} {A : mj_M} {k : Int} {B : mj_M} {W : mj_M} (h : kf C A k B W) : gI W 100 2 = gI B 100 2 ∧ gI W 100 3 = gI B 100 3 := h.2.2.2.2.2.2.2.2.2
theorem ct_lf {C : Int → cT} {B : mj_M} {k : Int} (hj : JJ C A) (hk : 0 ≤ k ∧ k < gI A 200 3) (hk4 : gI A 204 k = -1) (h : ck A k B) : mj_Cal G n_H_letAllFollow [mR (some 100), mI k] B (fun r A' => r = none ∧ kf C A k B A') mj_no := by
  have hxB := ck_CX hj hk h
  have hnd := hj.x.nd
  have hxn := hj.x.n
  have e1 : gI B 100 1 = gI A 100 1 := h.I _ _ (by omega) (by omega) (by omega)
  have e4 : gI B 204 = gI A 204 := funext fun i => h.I _ _ (by omega) (by omega) (by omega)
  have e5 : gI B 205 = gI A 205 := funext fun i => h.I _ _ (by omega) (by omega) (by omega)
  have e6 : gI B 206 = gI A 206 := funext fun i => h.I _ _ (by omega) (by omega) (by omega)
  have e7 : gI B 207 = gI A 207 := funext fun i => h.I _ _ (by omega) (by omega) (by omega)
  have eon : ∀ d, mo_on B d k = mo_on A d k := fun d => by
    show hgs (gI B 204) (gI B 205) k 17 d = _
    rw [e4, e5]
  have hcrB : ∀ d, 0 ≤ d → d < gI B 100 1 → cr (ch_c B d) := fun d d0 d1 => ck_r hj h d d0 (by omega)
  have hcb : ∀ d, 0 ≤ d → d < gI A 200 3 → gI A 204 d ≠ -1 → cb (gI A 206 d) (gI A 207 d) (ch_c A (gI A 204 d)) (ch_c A (gI A 205 d)) (ch_c A d) := fun d d0 d1 d2 => by
    have h9 := hj.m.C.b d d0 d1 d2
    have ha := h9.1.a
    have hb := h9.1.b
    exact cb_e h9.2 (hj.h.e _ ha.1 (by omega)) (hj.h.e _ hb.1 (by omega)) (hj.h.e d d0 d1)
  refine (ct_letAllFollow (A := B) hxB hcrB (by rw [e1]; omega) (by rw [e4]; exact hk4) (fun d d0 d1 d2 d3 => ?_)).mono (fun r A' hp => ?_) (fun _ _ h => h)
  · rw [e1, hxn] at d1
    rw [e4] at d2
    rw [eon] at d3
    have hf := hj.x.f d d0 (by omega) d2
    have ha := hf.a
    have hb := hf.b
    have h1 := hgs_1 hj.x.hp (by omega) d0 (by omega) (o := k) (k := d)
    have hkon : ∀ q, q = k → mo_on A q k = true := fun q hq => by
      rw [hq]
      exact (hgs_1 hj.x.hp (by omega) hk.1 (by omega) (o := k) (k := k)).mpr (Or.inl rfl)
    have na : gI A 204 d ≠ k := fun e => d3 (h1.mpr (Or.inr ⟨d2, Or.inl (hkon _ e)⟩))
    have nb : gI A 205 d ≠ k := fun e => d3 (h1.mpr (Or.inr ⟨d2, Or.inr (hkon _ e)⟩))
    have ndk : d ≠ k := fun e => d3 (hkon _ e)
    rw [e4, e5, e6, e7]
    exact cb_e (hcb d d0 d1 d2) (ck_o hj h ⟨ha.1, by omega⟩ na) (ck_o hj h ⟨hb.1, by omega⟩ nb) (ck_o hj h ⟨d0, d1⟩ ndk)
  · obtain ⟨hr, hg⟩ := hp
    rw [e1] at hg
    have hl := hg.l
    have eIW : ∀ c i, ¬ (1000 ≤ c ∧ c < 2600) → gI A' c i = gI B c i := fun c i hc => hl.I c i (by omega)
    refine ⟨hr, CX_ag (fun c _ _ => hl.S c) (fun c i _ => hl.P c i) (fun c i hc => hl.I c i (by omega)) hxB, fun c => (hl.S c).trans (h.S c), fun c i hc => (hl.P c i).trans (h.P c i hc), fun c i hc1 hc2 => ?_, fun d d0 d1 => hg.c d d0 (by rw [e1]; omega), fun d d0 d1 d2 => ?_, hg.e k hk.1 (by rw [e1]; omega) (Or.inr (Or.inl rfl)), fun d d0 d1 d2 d3 => ?_, fun d d0 d1 => ?_, ⟨eIW _ _ (by omega), eIW _ _ (by omega)⟩⟩
    · rw [hl.I c i hc2]
      exact h.I c i hc1 (by omega) (by omega)
    · have h9 := hg.b d d0 (by omega) (by rw [e4]; exact d2)
      rw [e4, e5, e6, e7] at h9
      exact h9
    · have hnon : ¬ mo_on B d k = true := fun hon => by
        rw [eon] at hon
        rcases (hgs_1 hj.x.hp (by omega) d0 (by omega) (o := k) (k := d)).mp hon with h9 | h9
        · exact d3 h9
        · exact h9.1 d2
      exact ce_tr (ce_tr (hj.h.e d d0 d1) (ck_o hj h ⟨d0, d1⟩ d3)) (hg.e d d0 (by rw [e1]; omega) (Or.inl hnon))
    · by_cases hon : mo_on B d k = true
      · exact Or.inl (hg.z d d0 (by omega) hon)
      · have hdk : d ≠ k := fun e => by
          rw [e, eon] at hon
          exact hon ((hgs_1 hj.x.hp (by omega) hk.1 (by omega) (o := k) (k := k)).mpr (Or.inl rfl))
        have h13 : gI A' (1000 + 100 * d) 13 = gI A (1000 + 100 * d) 13 := (hg.o d d0 (by rw [e1]; omega) hon).trans (h.I _ _ (by omega) (by omega) (by omega))
        rw [h13]
        rcases hj.h.v d d0 d1 with h9 | ⟨h9, h8⟩
        · exact Or.inl h9
        · refine Or.inr ⟨h9, pv_e (ce_tr (ck_o hj h ⟨d0, d1⟩ hdk) (hg.e d d0 (by rw [e1]; omega) (Or.inl hon))) (fun c i h0 h1 => ?_) h8⟩
          rw [hl.I c i (by omega)]
          exact h.I c i (by omega) (by omega) (by omega)
/-- a stroke's row and the pen are set -/
def st_h (V : mj_M) (t a b x y v : Int) : mj_M := sI (sI (sI (sI (sI (sI (sI V t 1 a) t 2 b) t 3 x) t 4 y) t 5 v) 100 2 x) 100 3 y
theorem st_hI {V : mj_M} {t a b x y v c i : Int} (h1 : c ≠ t) (h2 : ¬ (c = 100 ∧ (i = 2 ∨ i = 3))) : gI (st_h V t a b x y v) c i = gI V c i := by
  unfold st_h
  rw [gI_sI, if_neg (by omega), gI_sI, if_neg (by omega), gI_sI, if_neg (by omega), gI_sI, if_neg (by omega), gI_sI, if_neg (by omega), gI_sI, if_neg (by omega), gI_sI, if_neg (by omega)]
theorem st_ht {V : mj_M} {t a b x y v i : Int} (h1 : t ≠ 100) : gI (st_h V t a b x y v) t i = if i = 5 then v else if i = 4 then y else if i = 3 then x else if i = 2 then b else if i = 1 then a else gI V t i := by
  unfold st_h
  rw [gI_sI, if_neg (by omega), gI_sI, if_neg (by omega)]
  simp only [gI_sI, true_and]
theorem ck_st {C : Int → cT} {V : mj_M} {d its a b x y v i n' : Int} (hj : JJ C A) (hd : 0 ≤ d ∧ d < gI A 200 3) (hS : ∀ c, gS V c = gS A c) (hP : ∀ c j, gP V c j = gP A c j) (hI : ∀ c j, ¬ (c = (1000 + 100 * d) ∧ j = 6) → ¬ (c = sk A d i ∧ j = 0) → gI V c j = gI A c j) (h6 : gI V (1000 + 100 * d) 6 = n') (h0 : gI V (sk A d i) 0 = its) (hf : (c_f (ch_c A d) its = i ∧ i ≠ -1 ∧ n' = c_n (ch_c A d)) ∨ (c_f (ch_c A d) its = -1 ∧ i = c_n (ch_c A d) ∧ n' = c_n (ch_c A d) + 1)) (hi : 0 ≤ its ∧ its ≤ 7) (ha : 0 ≤ a ∧ a < 16) (hb : 0 ≤ b ∧ b < 12) (hx : 0 ≤ x ∧ x < 16) (hy : 0 ≤ y ∧ y < 12) (hv : 0 ≤ v ∧ v ≤ 7) :
    ck A d (st_h V (sk A d i) a b x y v) ∧ pu (ch_c A d) (ch_c (st_h V (sk A d i) a b x y v) d) its a b x y v i := by
  have hcr := hj.cr d hd.1 hd.2
  have hn := hcr.n
  have r := c_f_r (c := ch_c A d) its
  have pg := c_pg hcr hi
  have hi8 : 0 ≤ i ∧ i < 8 := by omega
  have hD := hj.D
  have hsk := hD.ek d hd.1 hd.2 i hi8.1 hi8.2
  have hskj : ∀ j : Int, 0 ≤ j → j < 8 → _ := fun j j0 j1 => hD.ek d hd.1 hd.2 j j0 j1
  have hne : ∀ j, 0 ≤ j → j < 8 → j ≠ i → sk A d j ≠ sk A d i := fun j j0 j1 j2 e => j2 (hD.ij d hd.1 hd.2 j0 j1 hi8.1 hi8.2 e)
  have eS : ∀ c, gS (st_h V (sk A d i) a b x y v) c = gS A c := hS
  have eP : ∀ c j, gP (st_h V (sk A d i) a b x y v) c j = gP A c j := hP
  have esk : ∀ j, sk (st_h V (sk A d i) a b x y v) d j = sk A d j := fun j => sk_e eP j
  have e6 : gI (st_h V (sk A d i) a b x y v) (1000 + 100 * d) 6 = n' := by rw [st_hI (by omega) (by omega), h6]
  have eo : ∀ c j, c ≠ sk A d i → ¬ (c = 100 ∧ (j = 2 ∨ j = 3)) → ¬ (c = (1000 + 100 * d) ∧ j = 6) → gI (st_h V (sk A d i) a b x y v) c j = gI A c j := fun c j h1 h2 h3 => by
    rw [st_hI h1 h2, hI c j h3 (by omega)]
  have ht : ∀ j, gI (st_h V (sk A d i) a b x y v) (sk A d i) j = if j = 5 then v else if j = 4 then y else if j = 3 then x else if j = 2 then b else if j = 1 then a else gI V (sk A d i) j := fun j => st_ht (by omega)
  have hpu : pu (ch_c A d) (ch_c (st_h V (sk A d i) a b x y v) d) its a b x y v i := by
    have en : c_n (ch_c (st_h V (sk A d i) a b x y v) d) = n' := e6
    refine ⟨by omega, fun j j0 j1 => ?_, fun j j0 j1 => ?_, fun j q j0 j1 q0 q1 => ?_, eo _ _ (by omega) (by omega) (by omega), fun j j0 j1 => eo _ _ (by omega) (by omega) (by omega), fun j j0 j1 => eo _ _ (by omega) (by omega) (by omega), eo _ _ (by omega) (by omega) (by omega)⟩
    · show gI (st_h V (sk A d i) a b x y v) (sk (st_h V (sk A d i) a b x y v) d j) 0 = _
      rw [esk]
      by_cases e : j = i
      · rw [if_pos e, e, ht]
        simp
        exact h0
      · have hj9 := hskj j j0 (by omega)
        rw [if_neg e, eo _ _ (hne j j0 (by omega) e) (by omega) (by omega)]
    · show gI (st_h V (sk A d i) a b x y v) (sk (st_h V (sk A d i) a b x y v) d j) 5 = _
      rw [esk]
      by_cases e : j = i
      · rw [if_pos e, e, ht]
        simp
      · have hj9 := hskj j j0 (by omega)
        rw [if_neg e, eo _ _ (hne j j0 (by omega) e) (by omega) (by omega)]
    · rw [ch_E1 ⟨q0, q1⟩, esk]
      by_cases e : j = i
      · rw [if_pos e, e, ht]
        have e4 : q = 0 ∨ q = 1 ∨ q = 2 ∨ q = 3 := by omega
        rcases e4 with e4 | e4 | e4 | e4 <;> rw [e4] <;> simp
      · have hj9 := hskj j j0 (by omega)
        rw [if_neg e, eo _ _ (hne j j0 (by omega) e) (by omega) (by omega), ch_E1 ⟨q0, q1⟩]
  refine ⟨⟨eS, fun c j _ => eP c j, fun c j h1 h2 h3 => eo c j (by omega) h1 (by omega), DS1_ag (fun c _ _ => eS c) (fun c j _ _ => eP c j) (hD d hd.1 hd.2), pu_r hcr hpu hi ha hb hx hy hv⟩, hpu⟩
theorem ct_stroke {C : Int → cT} {d its x y c : Int} (hj : JJ C A) (hd : r32 d) (hi : r32 its) (hx : r32 x) (hy : r32 y) (hc : r32 c) : mj_Cal G n_H_stroke [mR (some 100), mI d, mI its, mI x, mI y, mI c] A (fun r A' => ((mo_s1 A d x y c) ∧ (0 ≤ its ∧ its ≤ 7) ∧ (mo_op A d)) ∧ r = some (mI (c_n (ch_c A' d))) ∧ ∃ B i, ck A d B ∧ kf C A d B A' ∧ pu (ch_c A d) (ch_c B d) its (gI A 200 1) (gI A 200 2) x y c i ∧ gI B 100 2 = x ∧ gI B 100 3 = y) (px3 A xI xA xS (mo_s1 A d x y c) (0 ≤ its ∧ its ≤ 7) (mo_op A d)) := by
  refine mj_bodyK 5 30 [some (mR (some 100)), some (mI d), some (mI its), some (mI x), some (mI y), some (mI c)] rfl rfl rfl (by decide +kernel) (Nat.le_of_ble_eq_true rfl) (by simp) rfl ?_
  have hH := hj.x.H
  have hD := hj.D
  have hxn := hj.x.n
  have hnd := hj.m.g.nd
  have hpx := hj.m.px
  have hpn := hj.h.pn
  refine mx_R fun hR => ?_
  refine mx_aload_n 0 d_H_stroke_0 rfl rfl ?_
  refine mx_iload_n 1 d_H_stroke_1 rfl rfl ?_
  refine mx_callV (kc := 4) (ks := 24) (N := n_H_needDrawing) (as := [_]) (ci := 6) d_H_stroke_2 s_H_75 ⟨Nat.le_of_ble_eq_true rfl, Nat.le_of_ble_eq_true rfl⟩ rfl (mj_wt_8 (Nat.le_of_ble_eq_true rfl)) (hH.o) ⟨_, rfl, rfl⟩ (ct_needDrawing hj hd) (fun r_2 A_2 h_2 => ?_) (fun E_2 A_x h_2 => ?_)
  rotate_left
  · exact mt_n h_2 rfl fun hn => ⟨rfl, Or.inl ⟨rfl, fun h => hn h.1⟩⟩
  obtain ⟨rfl, h1, hA_2⟩ := h_2
  obtain rfl := hA_2.symm
  clear hA_2
  refine mx_R fun hR_1 => ?_
  refine mx_iload_n 3 d_H_stroke_5 rfl rfl ?_
  refine mx_iload 4 d_H_stroke_6 rfl ?_
  refine mx_callS (kc := 3) (ks := 18) (N := n_H_needPoint) (as := [_, _]) d_H_stroke_8 s_H_92 ⟨Nat.le_of_ble_eq_true rfl, Nat.le_of_ble_eq_true rfl⟩ rfl (mj_wt_8 (Nat.le_of_ble_eq_true rfl)) (ct_needPoint hx hy) (fun r_8 A_8 h_8 => ?_) (fun E_8 A_x h_8 => ?_)
  rotate_left
  · exact mt_n h_8 rfl fun hn => ⟨rfl, Or.inl ⟨rfl, fun h => hn h.2.1⟩⟩
  obtain ⟨rfl, h2, hA_8⟩ := h_8
  obtain rfl := hA_8.symm
  clear hA_8
  refine mx_R fun hR_2 => ?_
  refine mx_iload 5 d_H_stroke_11 rfl ?_
  refine mx_callS (kc := 2) (ks := 12) (N := n_H_needColourName) (as := [_]) d_H_stroke_13 s_H_96 ⟨Nat.le_of_ble_eq_true rfl, Nat.le_of_ble_eq_true rfl⟩ rfl (mj_wt_8 (Nat.le_of_ble_eq_true rfl)) (ct_needColourName hc) (fun r_13 A_13 h_13 => ?_) (fun E_13 A_x h_13 => ?_)
  rotate_left
  · exact mt_n h_13 rfl fun hn => ⟨rfl, Or.inl ⟨rfl, fun h => hn h.2.2⟩⟩
  obtain ⟨rfl, h3, hA_13⟩ := h_13
  obtain rfl := hA_13.symm
  clear hA_13
  refine mx_R fun hR_3 => ?_
  have hI : (mo_s1 A d x y c) := ⟨h1, h2, h3⟩
  refine mx_iload_n 2 d_H_stroke_16 rfl rfl ?_
  refine mx_callS (kc := 1) (ks := 6) (N := n_H_needStrokeName) (as := [_]) d_H_stroke_17 s_H_99 ⟨Nat.le_of_ble_eq_true rfl, Nat.le_of_ble_eq_true rfl⟩ rfl (mj_wt_8 (Nat.le_of_ble_eq_true rfl)) (ct_needStrokeName hi) (fun r_17 A_17 h_17 => ?_) (fun E_17 A_x h_17 => ?_)
  rotate_left
  · exact mt_n h_17 rfl fun hn => ⟨rfl, Or.inr (Or.inl ⟨rfl, hI, hn⟩)⟩
  obtain ⟨rfl, h4, hA_17⟩ := h_17
  obtain rfl := hA_17.symm
  clear hA_17
  refine mx_R fun hR_4 => ?_
  refine mx_aload_n 0 d_H_stroke_20 rfl rfl ?_
  refine mx_iload_n 1 d_H_stroke_21 rfl rfl ?_
  refine mx_callV (kc := 0) (ks := 0) (N := n_H_needChangeable) (as := [_]) (ci := 6) d_H_stroke_22 s_H_102 ⟨Nat.le_of_ble_eq_true rfl, Nat.le_of_ble_eq_true rfl⟩ rfl (mj_wt_8 (Nat.le_of_ble_eq_true rfl)) (hH.o) ⟨_, rfl, rfl⟩ (ct_needChangeable hj h1) (fun r_22 A_22 h_22 => ?_) (fun E_22 A_x h_22 => ?_)
  rotate_left
  · exact mt_n h_22 rfl fun hn => ⟨rfl, Or.inr (Or.inr ⟨rfl, hI, h4, fun h => hn h.2.2⟩)⟩
  obtain ⟨rfl, h5, hA_22⟩ := h_22
  obtain rfl := hA_22.symm
  clear hA_22
  refine mx_R fun hR_5 => ?_
  have hK : (mo_op A d) := ⟨h1.1, h1.2, h5.1, h5.2⟩
  have hcr := hj.cr d h1.1 h1.2
  have hn8 := hcr.n
  have r9 := c_f_r (c := ch_c A d) its
  have pg := c_pg hcr h4
  have hip := h2
  unfold mo_ip at hip
  refine mx_aload_n 0 d_H_stroke_25 rfl rfl ?_
  refine mx_getPs 0 d_H_stroke_26 f_H_11 rfl rfl (hH.o) (hH.p0) ?_
  refine mx_iload_n 1 d_H_stroke_29 rfl rfl ?_
  refine mx_aalds d_H_stroke_30 (hH.s0) (by decide) (by omega) (by omega) (hj.x.r d h1.1 (by omega)) ?_
  refine mx_iload_n 2 d_H_stroke_31 rfl rfl ?_
  refine mx_callV (kc := 0) (ks := 0) (N := n_D_strokeToDraw) (as := [_]) (ci := 0) d_H_stroke_32 s_H_105 ⟨Nat.le_of_ble_eq_true rfl, Nat.le_of_ble_eq_true rfl⟩ rfl (mj_wt_8 (Nat.le_of_ble_eq_true rfl)) (hD.o d h1.1 h1.2) ⟨_, rfl, rfl⟩ (ct_strokeToDraw hD h1 hn8 pg hi) (fun r_32 A_32 h_32 => ?_) (fun E_32 A_x h_32 => ?_)
  rotate_left
  · exact h_32.elim
  refine mx_R fun hR_6 => ?_
  have hq2 : ∃ i n' : Int, r_32 = some (mR (some (sk A d i))) ∧ (∀ c, gS A_32 c = gS A c) ∧ (∀ c j, gP A_32 c j = gP A c j) ∧ (∀ c j, ¬ (c = (1000 + 100 * d) ∧ j = 6) → ¬ (c = sk A d i ∧ j = 0) → gI A_32 c j = gI A c j) ∧ gI A_32 (1000 + 100 * d) 6 = n' ∧ gI A_32 (sk A d i) 0 = its ∧ ((c_f (ch_c A d) its = i ∧ i ≠ -1 ∧ n' = c_n (ch_c A d)) ∨ (c_f (ch_c A d) its = -1 ∧ i = c_n (ch_c A d) ∧ n' = c_n (ch_c A d) + 1)) := by
    rcases h_32 with ⟨q1, q2, q3⟩ | ⟨q1, q2, q3⟩
    · refine ⟨_, _, q2, by rw [q3]; exact fun _ => rfl, by rw [q3]; exact fun _ _ => rfl, by rw [q3]; exact fun _ _ _ _ => rfl, rfl, ?_, Or.inl ⟨rfl, q1, by rw [q3]⟩⟩
      rw [q3]
      exact (r9.resolve_left q1).2.2
    · have hs9 := hD.ek d h1.1 h1.2 (gI A (1000 + 100 * d) 6) hn8.1 (pg q1)
      refine ⟨_, _, q2, by rw [q3]; exact fun _ => rfl, by rw [q3]; exact fun _ _ => rfl, fun c j c1 c2 => by rw [q3, gI_sI, if_neg c1, gI_sI, if_neg c2], by rw [q3, gI_sIs], ?_, Or.inr ⟨q1, rfl, rfl⟩⟩
      rw [q3, gI_sI, if_neg (by omega), gI_sIs]
  obtain ⟨i, n', rfl, qS, qP, qI, q6, q0, qf⟩ := hq2
  have hsk := hD.ek d h1.1 h1.2 i (by omega) (by omega)
  have hks := (qS _).trans (hD.ks d h1.1 h1.2 i (by omega) (by omega))
  have e2 : gI A_32 100 2 = gI A 200 1 := (qI _ _ (by omega) (by omega)).trans hpn.1
  have e3 : gI A_32 100 3 = gI A 200 2 := (qI _ _ (by omega) (by omega)).trans hpn.2
  have hH1 : HS A_32 := HS_ag (fun c _ _ => qS c) (fun c j _ _ _ => qP c j) hH
  have hck := ck_st (a := gI A 200 1) (b := gI A 200 2) (x := x) (y := y) (v := c) hj h1 qS qP qI q6 q0 qf h4 hpx.1 hpx.2 ⟨hip.1, hip.2.1⟩ hip.2.2 h3
  refine mx_aload_n 0 d_H_stroke_35 rfl rfl ?_
  refine mx_getI 2 d_H_stroke_36 f_H_109 rfl rfl (hH1.o) ?_
  rw [e2]
  refine mx_aload_n 0 d_H_stroke_39 rfl rfl ?_
  refine mx_getI 3 d_H_stroke_40 f_H_112 rfl rfl (hH1.o) ?_
  rw [e3]
  refine mx_iload_n 3 d_H_stroke_43 rfl rfl ?_
  refine mx_iload 4 d_H_stroke_44 rfl ?_
  refine mx_iload 5 d_H_stroke_46 rfl ?_
  refine mx_callV (kc := 0) (ks := 0) (N := n_K_set) (as := [_, _, _, _, _]) (ci := 5) d_H_stroke_48 s_H_115 ⟨Nat.le_of_ble_eq_true rfl, Nat.le_of_ble_eq_true rfl⟩ rfl (mj_wt_8 (Nat.le_of_ble_eq_true rfl)) (hks) ⟨_, rfl, rfl⟩ (ct_set (A := A_32) hks (r32_mk (by omega) (by omega)) (r32_mk (by omega) (by omega)) hx hy hc) (fun r_48 A_48 h_48 => ?_) (fun E_48 A_x h_48 => ?_)
  rotate_left
  · exact h_48.elim
  obtain ⟨rfl, hA_48⟩ := h_48
  obtain rfl := hA_48.symm
  clear hA_48
  refine mx_R fun hR_7 => ?_
  refine mx_aload_n 0 d_H_stroke_51 rfl rfl ?_
  refine mx_iload_n 3 d_H_stroke_52 rfl rfl ?_
  refine mx_putI 2 d_H_stroke_53 f_H_109 rfl (hH1.o) (Or.inl rfl) (Or.inl rfl) (by first | assumption | exact hR_7 _ _ | exact hR_6 _ _ | exact hR_5 _ _ | exact hR_4 _ _ | exact hR_3 _ _ | exact hR_2 _ _ | exact hR_1 _ _ | exact hR _ _ | exact r32_mk (by omega) (by omega)) ?_
  refine mx_R fun hR_8 => ?_
  refine mx_aload_n 0 d_H_stroke_56 rfl rfl ?_
  refine mx_iload 4 d_H_stroke_57 rfl ?_
  refine mx_putI 3 d_H_stroke_59 f_H_112 rfl (hH1.o) (Or.inl rfl) (Or.inl rfl) (by first | assumption | exact hR_8 _ _ | exact hR_7 _ _ | exact hR_6 _ _ | exact hR_5 _ _ | exact hR_4 _ _ | exact hR_3 _ _ | exact hR_2 _ _ | exact hR_1 _ _ | exact hR _ _ | exact r32_mk (by omega) (by omega)) ?_
  refine mx_R fun hR_9 => ?_
  have hB : sI (sI (sI (sI (sI (sI (sI A_32 (sk A d i) 1 (gI A 200 1)) (sk A d i) 2 (gI A 200 2)) (sk A d i) 3 x) (sk A d i) 4 y) (sk A d i) 5 c) 100 2 x) 100 3 y = st_h A_32 (sk A d i) (gI A 200 1) (gI A 200 2) x y c := rfl
  rw [hB]
  refine mx_aload_n 0 d_H_stroke_62 rfl rfl ?_
  refine mx_iload_n 1 d_H_stroke_63 rfl rfl ?_
  refine mx_callV (kc := 0) (ks := 0) (N := n_H_letAllFollow) (as := [_]) (ci := 6) d_H_stroke_64 s_H_121 ⟨Nat.le_of_ble_eq_true rfl, Nat.le_of_ble_eq_true rfl⟩ rfl (mj_wt_8 (Nat.le_of_ble_eq_true rfl)) (hH1.o) ⟨_, rfl, rfl⟩ (ct_lf (B := st_h A_32 (sk A d i) (gI A 200 1) (gI A 200 2) x y c) hj h1 h5.1 hck.1) (fun r_64 A_64 h_64 => ?_) (fun E_64 A_x h_64 => ?_)
  rotate_left
  · exact h_64.elim
  obtain ⟨rfl, hkf⟩ := h_64
  refine mx_R fun hR_10 => ?_
  have hH2 := hkf.x.H
  have hD2 := hkf.x.D
  have e1' : gI A_64 100 1 = gI A 100 1 := hkf.I _ _ (by omega) (by omega)
  refine mx_aload_n 0 d_H_stroke_67 rfl rfl ?_
  refine mx_getPs 0 d_H_stroke_68 f_H_11 rfl rfl (hH2.o) (hH2.p0) ?_
  refine mx_iload_n 1 d_H_stroke_71 rfl rfl ?_
  refine mx_aalds d_H_stroke_72 (hH2.s0) (by decide) (by omega) (by omega) (hkf.x.r d h1.1 (by rw [e1']; omega)) ?_
  refine mx_getI 6 d_H_stroke_73 f_H_124 rfl rfl (hD2.o d h1.1 (by rw [e1']; omega)) ?_
  refine mx_iret d_H_stroke_76 rfl ?_
  refine ⟨⟨hI, h4, hK⟩, rfl, _, i, hck.1, hkf, hck.2, ?_, ?_⟩
  · unfold st_h
    rw [gI_sI, if_neg (by omega), gI_sIs]
  · unfold st_h
    rw [gI_sIs]
end CLSL
