/-! BOTH SIDES: what joins them -/
section CLSD
variable {G : mj_G} {A : mj_M}
/-- the drawings that the house keeps -/
def HJ (C : Int → cT) (A : mj_M) : Prop := (∀ d, 0 ≤ d → d < gI A 200 3 → ce (C d) (ch_c A d)) ∧ (∀ d, 0 ≤ d → d < gI A 200 3 → gI A (1000 + 100 * d) 13 = 0 ∨ (gI A (1000 + 100 * d) 13 = 1 ∧ pv A d)) ∧ (∀ p, ¬ (0 ≤ p ∧ p < 192) → gI A 124 p = 0) ∧ (∀ d, 0 ≤ d → d < gI A 200 3 → gI A (1000 + 100 * d) 11 = gI A 208 d) ∧ (∀ d, gI A 200 3 ≤ d → d < 16 → ∀ j, 0 ≤ j → j ≤ 15 → gS A (1000 + 100 * d + j) = none) ∧ (gI A 100 2 = gI A 200 1 ∧ gI A 100 3 = gI A 200 2)
theorem HJ.e {C : Int → cT} {A : mj_M} (h : HJ C A) : ∀ d, 0 ≤ d → d < gI A 200 3 → ce (C d) (ch_c A d) := h.1
theorem HJ.v {C : Int → cT} {A : mj_M} (h : HJ C A) : ∀ d, 0 ≤ d → d < gI A 200 3 → gI A (1000 + 100 * d) 13 = 0 ∨ (gI A (1000 + 100 * d) 13 = 1 ∧ pv A d) := h.2.1
theorem HJ.z {C : Int → cT} {A : mj_M} (h : HJ C A) : ∀ p, ¬ (0 ≤ p ∧ p < 192) → gI A 124 p = 0 := h.2.2.1
theorem HJ.ap {C : Int → cT} {A : mj_M} (h : HJ C A) : ∀ d, 0 ≤ d → d < gI A 200 3 → gI A (1000 + 100 * d) 11 = gI A 208 d := h.2.2.2.1
theorem HJ.f {C : Int → cT} {A : mj_M} (h : HJ C A) : ∀ d, gI A 200 3 ≤ d → d < 16 → ∀ j, 0 ≤ j → j ≤ 15 → gS A (1000 + 100 * d + j) = none := h.2.2.2.2.1
theorem HJ.pn {C : Int → cT} {A : mj_M} (h : HJ C A) : gI A 100 2 = gI A 200 1 ∧ gI A 100 3 = gI A 200 2 := h.2.2.2.2.2
/-- hands and film; what is made for a while; the law's row -/
def XK (A : mj_M) : Prop := (gI A 100 11 = gI A 200 40) ∧ (∀ k, 0 ≤ k → k < gI A 200 40 → gI A 111 k = gI A 241 k) ∧ (gI A 100 13 = gI A 200 43) ∧ (∀ k, 0 ≤ k → k < gI A 200 43 → gI A 113 k = gI A 244 k) ∧ (gS A 130 = none ∧ ∀ i, gI A 130 i = 0) ∧ (gS A 140 = some (.inr (2, 1)))
theorem XK.nh {A : mj_M} (h : XK A) : gI A 100 11 = gI A 200 40 := h.1
theorem XK.hs {A : mj_M} (h : XK A) : ∀ k, 0 ≤ k → k < gI A 200 40 → gI A 111 k = gI A 241 k := h.2.1
theorem XK.nf {A : mj_M} (h : XK A) : gI A 100 13 = gI A 200 43 := h.2.2.1
theorem XK.rl {A : mj_M} (h : XK A) : ∀ k, 0 ≤ k → k < gI A 200 43 → gI A 113 k = gI A 244 k := h.2.2.2.1
theorem XK.t {A : mj_M} (h : XK A) : gS A 130 = none ∧ ∀ i, gI A 130 i = 0 := h.2.2.2.2.1
theorem XK.o {A : mj_M} (h : XK A) : gS A 140 = some (.inr (2, 1)) := h.2.2.2.2.2
/-- what is not yet made is empty -/
def FW (A : mj_M) : Prop := ∀ k, gI A 200 3 ≤ k → k < 16 → gI A 209 k = 0 ∧ gI A 213 k = 0 ∧ gI A 216 k = 0 ∧ gI A 208 k = 0
def JJ (C : Int → cT) (A : mj_M) : Prop := (MI C A) ∧ (CX A) ∧ (HJ C A) ∧ (SK A) ∧ (PK A) ∧ (XK A) ∧ (FW A)
theorem JJ.m {C : Int → cT} {A : mj_M} (h : JJ C A) : MI C A := h.1
theorem JJ.x {C : Int → cT} {A : mj_M} (h : JJ C A) : CX A := h.2.1
theorem JJ.h {C : Int → cT} {A : mj_M} (h : JJ C A) : HJ C A := h.2.2.1
theorem JJ.s {C : Int → cT} {A : mj_M} (h : JJ C A) : SK A := h.2.2.2.1
theorem JJ.p {C : Int → cT} {A : mj_M} (h : JJ C A) : PK A := h.2.2.2.2.1
theorem JJ.y {C : Int → cT} {A : mj_M} (h : JJ C A) : XK A := h.2.2.2.2.2.1
theorem JJ.w {C : Int → cT} {A : mj_M} (h : JJ C A) : FW A := h.2.2.2.2.2.2
/-- the house's drawings are no more than the reference's -/
theorem MS_ag {B : mj_M} (hS : ∀ c, 200 ≤ c → c ≤ 245 → gS B c = gS A c) (hP : ∀ c i, 200 ≤ c → c ≤ 245 → gP B c i = gP A c i) (h : MS A) : MS B := by
  refine ⟨(hS 200 (by omega) (by omega)).trans h.1, fun q hq => ?_⟩
  have hr : ∀ q ∈ mT_m, 0 ≤ q.1 ∧ q.1 ≤ 45 := by decide
  have h1 := hr q hq
  exact ⟨(hP _ _ (by omega) (by omega)).trans (h.2 q hq).1, (hS _ (by omega) (by omega)).trans (h.2 q hq).2⟩
theorem MI_ag {C : Int → cT} {B : mj_M} (hS : ∀ c, 200 ≤ c → c ≤ 245 → gS B c = gS A c) (hP : ∀ c i, 200 ≤ c → c ≤ 245 → gP B c i = gP A c i) (hI : ∀ c i, 200 ≤ c → c ≤ 245 → gI B c i = gI A c i) (h : MI C A) : MI C B := by
  have e : ∀ c, 200 ≤ c → c ≤ 245 → gI B c = gI A c := fun c h0 h1 => funext fun i => hI c i h0 h1
  have e0 := e 200 (by omega) (by omega)
  have e4 := e 204 (by omega) (by omega)
  have e5 := e 205 (by omega) (by omega)
  have e6 := e 206 (by omega) (by omega)
  have e7 := e 207 (by omega) (by omega)
  have e8 := e 208 (by omega) (by omega)
  have e9 := e 209 (by omega) (by omega)
  have e10 := e 210 (by omega) (by omega)
  have e11 := e 211 (by omega) (by omega)
  have e12 := e 212 (by omega) (by omega)
  have e13 := e 213 (by omega) (by omega)
  have e14 := e 214 (by omega) (by omega)
  have e15 := e 215 (by omega) (by omega)
  have e16 := e 216 (by omega) (by omega)
  have e18 := e 218 (by omega) (by omega)
  have e19 := e 219 (by omega) (by omega)
  have e21 := e 221 (by omega) (by omega)
  have e22 := e 222 (by omega) (by omega)
  have e24 := e 224 (by omega) (by omega)
  have e25 := e 225 (by omega) (by omega)
  have e26 := e 226 (by omega) (by omega)
  have e27 := e 227 (by omega) (by omega)
  have e28 := e 228 (by omega) (by omega)
  have e29 := e 229 (by omega) (by omega)
  have e30 := e 230 (by omega) (by omega)
  have e31 := e 231 (by omega) (by omega)
  have e33 := e 233 (by omega) (by omega)
  have e34 := e 234 (by omega) (by omega)
  have e35 := e 235 (by omega) (by omega)
  have e36 := e 236 (by omega) (by omega)
  have e37 := e 237 (by omega) (by omega)
  have e41 := e 241 (by omega) (by omega)
  have e44 := e 244 (by omega) (by omega)
  have hc : ∀ d, mo_c B d = mo_c A d := fun d => by
    show (gI B 209 d, (fun i => gI B 210 (8 * d + i)), (fun i => gI B 211 (8 * d + i)), (fun q => gI B 212 (32 * d + q)), gI B 213 d, (fun i => gI B 214 (6 * d + i)), (fun i => gI B 215 (6 * d + i)), gI B 216 d) = mo_c A d
    rw [e9, e10, e11, e12, e13, e14, e15, e16]
  obtain ⟨h1, h2, h3, h4, h5, h6, h7, h8, h9, h10, h11, h12, h13, h14, h15⟩ := h
  refine ⟨MS_ag hS hP h1, ?_, ?_, ?_, ?_, ⟨fun d d0 d1 d2 => ?_, fun d d0 d1 d2 => ?_, fun ho d d0 d1 => ?_⟩, ?_, ?_, ?_, ?_, ?_, ?_, ?_, ?_, ?_⟩
  · unfold mo_rg at h2 ⊢
    rw [e0, e24, e25, e26, e27, e31]; exact h2
  · unfold mo_pg at h3 ⊢
    rw [e0, e33, e34, e35, e36, e37]; exact h3
  · unfold mo_hg at h4 ⊢
    rw [e0, e29, e30]; exact h4
  · unfold mz mo_st2 mo_pt at h5 ⊢
    rw [e0, e9, e11, e12, e13, e14, e15, e16, e18, e21]; exact h5
  · rw [hc]
    rw [e0] at d1
    rw [e4] at d2
    exact h6.k d d0 d1 d2
  · rw [e0] at d1
    rw [e4] at d2
    have h9 := h6.b d d0 d1 d2
    unfold mo_bt at h9 ⊢
    rw [e4, e5, e6, e7]
    exact h9
  · rw [e0] at ho d1
    have h9 := h6.l ho d d0 d1
    rw [hc, e18, e19]
    exact h9
  · rw [e22]; exact h7
  · rw [e8]; exact h8
  · rw [e28]; exact h9
  · rw [e0]; exact h10
  · rw [e0]; exact h11
  · rw [e0, e41]; exact h12
  · rw [e0]; exact h13
  · rw [e0, e44]; exact h14
  · rw [e0]; exact h15
theorem HS_ag {B : mj_M} (hS : ∀ c, 100 ≤ c → c ≤ 124 → gS B c = gS A c) (hP : ∀ c i, 100 ≤ c → c ≤ 124 → ¬ (c = 101 ∨ c = 106 ∨ c = 109) → gP B c i = gP A c i) (h : HS A) : HS B := by
  have hr : ∀ q ∈ mT_h, (101 ≤ q.2.1 ∧ q.2.1 ≤ 118) := by decide
  obtain ⟨h1, h2, ⟨a1, a2, a3, a4, a5, a6, a7, a8⟩, b1, b2, b3, b4, b5, b6⟩ := h
  refine ⟨(hS _ (by omega) (by omega)).trans h1, fun q hq => ?_, ⟨(hP _ _ (by omega) (by omega) (by omega)).trans a1, (hS _ (by omega) (by omega)).trans a2, (hP _ _ (by omega) (by omega) (by omega)).trans a3, (hP _ _ (by omega) (by omega) (by omega)).trans a4, (hP _ _ (by omega) (by omega) (by omega)).trans a5, (hS _ (by omega) (by omega)).trans a6, (hS _ (by omega) (by omega)).trans a7, (hS _ (by omega) (by omega)).trans a8⟩, (hP _ _ (by omega) (by omega) (by omega)).trans b1, (hS _ (by omega) (by omega)).trans b2, (hP _ _ (by omega) (by omega) (by omega)).trans b3, (hP _ _ (by omega) (by omega) (by omega)).trans b4, (hS _ (by omega) (by omega)).trans b5, (hS _ (by omega) (by omega)).trans b6⟩
  have h3 := hr q hq
  exact ⟨(hP _ _ (by omega) (by omega) (by omega)).trans (h2 q hq).1, (hS _ (by omega) (by omega)).trans (h2 q hq).2⟩
theorem DS1_ag {B : mj_M} {d : Int} (hS : ∀ c, 1000 + 100 * d ≤ c → c ≤ 1000 + 100 * d + 15 → gS B c = gS A c) (hP : ∀ c i, 1000 + 100 * d ≤ c → c ≤ 1000 + 100 * d + 15 → gP B c i = gP A c i) (h : DS1 A d) : DS1 B d := by
  obtain ⟨h1, ⟨p1, p2, p3, p4⟩, ⟨s1, s2, s3⟩, ⟨c1, ⟨c2, c3, c4⟩, c5, c6, c7⟩, h5, h6, h7⟩ := h
  refine ⟨(hS _ (by omega) (by omega)).trans h1, ⟨(hP _ _ (by omega) (by omega)).trans p1, (hP _ _ (by omega) (by omega)).trans p2, (hP _ _ (by omega) (by omega)).trans p3, (hP _ _ (by omega) (by omega)).trans p4⟩, ⟨(hS _ (by omega) (by omega)).trans s1, (hS _ (by omega) (by omega)).trans s2, (hS _ (by omega) (by omega)).trans s3⟩, ⟨(hS _ (by omega) (by omega)).trans c1, ⟨(hP _ _ (by omega) (by omega)).trans c2, (hP _ _ (by omega) (by omega)).trans c3, (hP _ _ (by omega) (by omega)).trans c4⟩, (hS _ (by omega) (by omega)).trans c5, (hS _ (by omega) (by omega)).trans c6, (hS _ (by omega) (by omega)).trans c7⟩, fun j j0 j1 => (hS _ (by omega) (by omega)).trans (h5 j j0 j1), fun i i0 i1 => ?_, fun i i' i0 i1 j0 j1 e => ?_⟩
  · obtain ⟨j, e, j0, j1⟩ := h6 i i0 i1
    exact ⟨j, (hP _ _ (by omega) (by omega)).trans e, j0, j1⟩
  · rw [hP _ _ (by omega) (by omega), hP _ _ (by omega) (by omega)] at e
    exact h7 i i' i0 i1 j0 j1 e
theorem SS1_ag {B : mj_M} {s : Int} (hS : ∀ c, 4000 + 100 * s ≤ c → c ≤ 4000 + 100 * s + 6 → gS B c = gS A c) (hP : ∀ i, i ≠ 7 → gP B (4000 + 100 * s) i = gP A (4000 + 100 * s) i) (hI : gI B (4000 + 100 * s) 0 = gI A (4000 + 100 * s) 0) (h : SS1 A s) : SS1 B s := by
  obtain ⟨h1, ⟨p1, p2, p3, p4, p5, p6⟩, s1, s2, s3, s4, s5, s6⟩ := h
  refine ⟨(hS _ (by omega) (by omega)).trans h1, ⟨(hP _ (by omega)).trans p1, (hP _ (by omega)).trans p2, (hP _ (by omega)).trans p3, (hP _ (by omega)).trans p4, (hP _ (by omega)).trans p5, (hP _ (by omega)).trans p6⟩, ?_, ?_, (hS _ (by omega) (by omega)).trans s3, (hS _ (by omega) (by omega)).trans s4, (hS _ (by omega) (by omega)).trans s5, ?_⟩
  · rw [hI]; exact (hS _ (by omega) (by omega)).trans s1
  · rw [hI]; exact (hS _ (by omega) (by omega)).trans s2
  · rw [hI]; exact (hS _ (by omega) (by omega)).trans s6
theorem PS1_ag {B : mj_M} {p : Int} (hS : ∀ c, 6000 + 100 * p ≤ c → c ≤ 6000 + 100 * p + 3 → gS B c = gS A c) (hP : ∀ i, gP B (6000 + 100 * p) i = gP A (6000 + 100 * p) i) (h : PS1 A p) : PS1 B p := by
  obtain ⟨h1, ⟨p1, p2, p3⟩, s1, s2, s3⟩ := h
  exact ⟨(hS _ (by omega) (by omega)).trans h1, ⟨(hP _).trans p1, (hP _).trans p2, (hP _).trans p3⟩, (hS _ (by omega) (by omega)).trans s1, (hS _ (by omega) (by omega)).trans s2, (hS _ (by omega) (by omega)).trans s3⟩
theorem CX_ag {B : mj_M} (hS : ∀ c, 100 ≤ c → c ≤ 124 ∨ (1000 ≤ c ∧ c < 2600) → gS B c = gS A c) (hP : ∀ c i, ((100 ≤ c ∧ c ≤ 124 ∧ ¬ (c = 106 ∨ c = 109)) ∨ (1000 ≤ c ∧ c < 2600)) → gP B c i = gP A c i) (hI : ∀ c i, ((c = 100 ∧ i = 1) ∨ (c = 200 ∧ i = 3) ∨ (204 ≤ c ∧ c ≤ 207) ∨ (1000 ≤ c ∧ c < 2600 ∧ c % 100 = 0 ∧ 2 ≤ i ∧ i ≤ 4)) → gI B c i = gI A c i) (h : CX A) : CX B := by
  have hnd := h.nd
  have e1 : gI B 100 1 = gI A 100 1 := hI _ _ (by omega)
  have e3 : gI B 200 3 = gI A 200 3 := hI _ _ (by omega)
  have e4 : gI B 204 = gI A 204 := funext fun i => hI _ _ (by omega)
  have e5 : gI B 205 = gI A 205 := funext fun i => hI _ _ (by omega)
  have e6 : gI B 206 = gI A 206 := funext fun i => hI _ _ (by omega)
  have e7 : gI B 207 = gI A 207 := funext fun i => hI _ _ (by omega)
  refine ⟨HS_ag (fun c h0 h1 => hS c h0 (by omega)) (fun c i h0 h1 h2 => hP c i (by omega)) h.H, ?_, by rw [e1]; exact hnd, by rw [e1, e3]; exact h.n, ?_, ?_, ?_, ?_, ?_, ?_⟩
  · rw [e1]
    exact fun d d0 d1 => DS1_ag (fun c h0 h1 => hS c (by omega) (by omega)) (fun c i h0 h1 => hP c i (by omega)) (h.D d d0 d1)
  · rw [e1]
    exact fun d d0 d1 => (hP _ _ (by omega)).trans (h.r d d0 d1)
  · rw [e1, e4]
    exact fun d d0 d1 => (hP _ _ (by omega)).trans (h.a d d0 d1)
  · rw [e1, e5]
    exact fun d d0 d1 => (hP _ _ (by omega)).trans (h.b d d0 d1)
  · rw [e1, e6, e7]
    exact fun d d0 d1 => ⟨(hI _ _ (by omega)).trans (h.p d d0 d1).1, (hI _ _ (by omega)).trans (h.p d d0 d1).2⟩
  · rw [e1]
    intro d d0 d1
    have h9 := h.h d d0 d1
    rw [hI (1000 + 100 * d) 4 (by omega)]
    refine ⟨h9.1, fun o o0 o1 => ?_⟩
    show _ ↔ d ≠ o ∧ hgs (gI B 204) (gI B 205) o 17 d = true
    rw [e4, e5]
    exact h9.2 o o0 o1
  · rw [e1, e4]
    intro d d0 d1 d2
    have h9 := h.f d d0 d1 d2
    unfold mo_bt at h9 ⊢
    rw [e4, e5, e6, e7]
    exact h9
/-- a drawing kept is as it was -/
theorem ch_ag {B : mj_M} {d : Int} (hP : ∀ i, gP B (1000 + 100 * d + 1) i = gP A (1000 + 100 * d + 1) i) (hI : ∀ c i, 1000 + 100 * d ≤ c → c ≤ 1000 + 100 * d + 15 → gI B c i = gI A c i) (hk : ∀ i, 0 ≤ i → i < 8 → 1000 + 100 * d + 2 ≤ sk A d i ∧ sk A d i ≤ 1000 + 100 * d + 9) (hcr : cr (ch_c A d)) : ce (ch_c A d) (ch_c B d) := by
  have hn := hcr.n
  have ek : ∀ i, sk B d i = sk A d i := fun i => by unfold sk; rw [hP]
  refine ce_mk (hI _ _ (by omega) (by omega)).symm (fun i h0 h1 => ?_) (fun i h0 h1 => ?_) (fun q h0 h1 => ?_) (hI _ _ (by omega) (by omega)).symm (fun i h0 h1 => ?_) (fun i h0 h1 => ?_) (hI _ _ (by omega) (by omega)).symm
  · have k := hk i h0 (by omega)
    show gI A (sk A d i) 0 = gI B (sk B d i) 0
    rw [ek, hI _ _ (by omega) (by omega)]
  · have k := hk i h0 (by omega)
    show gI A (sk A d i) 5 = gI B (sk B d i) 5
    rw [ek, hI _ _ (by omega) (by omega)]
  · have k := hk (q / 4) (by omega) (by omega)
    show gI A (sk A d (q / 4)) (q % 4 + 1) = gI B (sk B d (q / 4)) (q % 4 + 1)
    rw [ek, hI _ _ (by omega) (by omega)]
  · exact (hI (1000 + 100 * d + 10) i (by omega) (by omega)).symm
  · exact (hI (1000 + 100 * d + 11) i (by omega) (by omega)).symm
theorem JJ.cr {C : Int → cT} (h : JJ C A) (d : Int) (d0 : 0 ≤ d) (d1 : d < gI A 200 3) : cr (ch_c A d) := cr_e (h.h.e d d0 d1) (h.m.cr d d0 d1)
theorem JJ.D {C : Int → cT} (h : JJ C A) : DS A (gI A 200 3) := by
  have h1 := h.x.D
  rw [h.x.n] at h1
  exact h1
theorem HJ_ag {C : Int → cT} {B : mj_M} (hj : JJ C A) (hS : ∀ c, 1000 ≤ c → c < 2600 → gS B c = gS A c) (hP : ∀ c i, 1000 ≤ c → c < 2600 → gP B c i = gP A c i) (hI : ∀ c i, ((c = 100 ∧ (i = 2 ∨ i = 3)) ∨ (c = 200 ∧ (1 ≤ i ∧ i ≤ 3)) ∨ c = 208 ∨ c = 124 ∨ (1000 ≤ c ∧ c < 2600)) → gI B c i = gI A c i) : HJ C B := by
  have h := hj.h
  have hnd := hj.m.g.nd
  have e3 : gI B 200 3 = gI A 200 3 := hI _ _ (by omega)
  have hce : ∀ d, 0 ≤ d → d < gI A 200 3 → ce (ch_c A d) (ch_c B d) := fun d d0 d1 => ch_ag (fun i => hP _ _ (by omega) (by omega)) (fun c i h0 h1 => hI _ _ (by omega)) (fun i i0 i1 => hj.D.ek d d0 d1 i i0 i1) (hj.cr d d0 d1)
  refine ⟨?_, ?_, fun p hp => (hI 124 p (by omega)).trans (h.z p hp), ?_, ?_, ?_⟩
  · rw [e3]
    exact fun d d0 d1 => ce_tr (h.e d d0 d1) (hce d d0 d1)
  · rw [e3]
    intro d d0 d1
    rw [hI _ 13 (by omega)]
    rcases h.v d d0 d1 with h9 | ⟨h9, h8⟩
    · exact Or.inl h9
    · exact Or.inr ⟨h9, pv_e (hce d d0 d1) (fun c i h0 h1 => hI _ _ (by omega)) h8⟩
  · rw [e3]
    intro d d0 d1
    rw [hI _ 11 (by omega), hI 208 d (by omega)]
    exact h.ap d d0 d1
  · rw [e3]
    exact fun d d0 d1 j j0 j1 => (hS _ (by omega) (by omega)).trans (h.f d d0 d1 j j0 j1)
  · rw [hI 100 2 (by omega), hI 100 3 (by omega), hI 200 1 (by omega), hI 200 2 (by omega)]
    exact h.pn
theorem SK_ag {B : mj_M} (hns : 0 ≤ gI A 200 23 ∧ gI A 200 23 ≤ 6) (hS : ∀ c, 4000 ≤ c → c < 4600 → gS B c = gS A c) (hP : ∀ c i, (c = 106 ∨ (4000 ≤ c ∧ c < 4600)) → gP B c i = gP A c i) (hI : ∀ c i, ((c = 100 ∧ i = 6) ∨ (c = 200 ∧ i = 23) ∨ c = 105 ∨ c = 108 ∨ c = 222 ∨ (224 ≤ c ∧ c ≤ 231) ∨ c = 238 ∨ (4000 ≤ c ∧ c < 4600 ∧ c % 100 ≠ 6)) → gI B c i = gI A c i) (h : SK A) : SK B := by
  have e3 : gI B 200 23 = gI A 200 23 := hI _ _ (by omega)
  have e24 : gI B 224 = gI A 224 := funext fun i => hI _ _ (by omega)
  have e25 : gI B 225 = gI A 225 := funext fun i => hI _ _ (by omega)
  have e26 : gI B 226 = gI A 226 := funext fun i => hI _ _ (by omega)
  have e27 : gI B 227 = gI A 227 := funext fun i => hI _ _ (by omega)
  have e28 : gI B 228 = gI A 228 := funext fun i => hI _ _ (by omega)
  have e29 : gI B 229 = gI A 229 := funext fun i => hI _ _ (by omega)
  have e30 : gI B 230 = gI A 230 := funext fun i => hI _ _ (by omega)
  have e31 : gI B 231 = gI A 231 := funext fun i => hI _ _ (by omega)
  have e38 : gI B 238 = gI A 238 := funext fun i => hI _ _ (by omega)
  have e22 : gI B 222 = gI A 222 := funext fun i => hI _ _ (by omega)
  obtain ⟨h1, h2, h3, h4, h5, h6, h7, h8, h9, h10, h11, h13, h14, h15, h16, h17, h18⟩ := h
  unfold SK
  rw [e3, e24, e25, e26, e27, e28, e29, e30, e31, e38, e22]
  refine ⟨(hI _ _ (by omega)).trans h1, fun s s0 s1 => SS1_ag (fun c c0 c1 => hS c (by omega) (by omega)) (fun i _ => hP _ _ (by omega)) (hI _ _ (by omega)) (h2 s s0 s1), fun s s0 s1 => (hP _ _ (by omega)).trans (h3 s s0 s1), fun s s0 s1 => (hI _ _ (by omega)).trans (h4 s s0 s1), fun s s0 s1 => (hI _ _ (by omega)).trans (h5 s s0 s1), fun s s0 s1 l f l0 l1 f0 f1 => (hI _ _ (by omega)).trans (h6 s s0 s1 l f l0 l1 f0 f1), fun s s0 s1 f f0 f1 => (hI _ _ (by omega)).trans (h7 s s0 s1 f f0 f1), fun s s0 s1 l l0 l1 => (hI _ _ (by omega)).trans (h8 s s0 s1 l l0 l1), fun s s0 s1 l l0 l1 => (hP _ _ (by omega)).trans (h9 s s0 s1 l l0 l1), fun s s0 s1 l l0 l1 => (hI _ _ (by omega)).trans (h10 s s0 s1 l l0 l1), fun s s0 s1 => (hP _ _ (by omega)).trans (h11 s s0 s1), fun s s0 s1 j j0 j1 => (hS _ (by omega) (by omega)).trans (h13 s s0 s1 j j0 j1), h14, h15, h16, fun k k0 k1 => (hI _ _ (by omega)).trans (h17 k k0 k1), fun k k0 k1 => (hI _ _ (by omega)).trans (h18 k k0 k1)⟩
theorem ST_ag {B : mj_M} (hns : 0 ≤ gI A 200 23 ∧ gI A 200 23 ≤ 6) (hI : ∀ c i, ((c = 200 ∧ i = 23) ∨ c = 224 ∨ c = 238 ∨ c = 239 ∨ (4000 ≤ c ∧ c < 4600 ∧ c % 100 = 6)) → gI B c i = gI A c i) (h : ST A) : ST B := by
  have e3 : gI B 200 23 = gI A 200 23 := hI _ _ (by omega)
  have e24 : gI B 224 = gI A 224 := funext fun i => hI _ _ (by omega)
  have e38 : gI B 238 = gI A 238 := funext fun i => hI _ _ (by omega)
  have e39 : gI B 239 = gI A 239 := funext fun i => hI _ _ (by omega)
  unfold ST
  rw [e3, e24, e38, e39]
  exact fun s s0 s1 f p f0 f1 p0 p1 => (hI _ _ (by omega)).trans (h s s0 s1 f p f0 f1 p0 p1)
theorem PK_ag {B : mj_M} (hnp : 0 ≤ gI A 200 32 ∧ gI A 200 32 ≤ 6) (hS : ∀ c, 6000 ≤ c → c < 6600 → gS B c = gS A c) (hP : ∀ c i, (c = 109 ∨ (6000 ≤ c ∧ c < 6600)) → gP B c i = gP A c i) (hI : ∀ c i, ((c = 100 ∧ i = 9) ∨ (c = 200 ∧ i = 32) ∨ (233 ≤ c ∧ c ≤ 237) ∨ (6000 ≤ c ∧ c < 6600)) → gI B c i = gI A c i) (h : PK A) : PK B := by
  have e32 : gI B 200 32 = gI A 200 32 := hI _ _ (by omega)
  have e33 : gI B 233 = gI A 233 := funext fun i => hI _ _ (by omega)
  have e34 : gI B 234 = gI A 234 := funext fun i => hI _ _ (by omega)
  have e35 : gI B 235 = gI A 235 := funext fun i => hI _ _ (by omega)
  have e36 : gI B 236 = gI A 236 := funext fun i => hI _ _ (by omega)
  have e37 : gI B 237 = gI A 237 := funext fun i => hI _ _ (by omega)
  obtain ⟨h1, h2, h3, h4, h5, h6, h7, h8, h9⟩ := h
  unfold PK
  rw [e32, e33, e34, e35, e36, e37]
  refine ⟨(hI _ _ (by omega)).trans h1, fun p p0 p1 => PS1_ag (fun c c0 c1 => hS c (by omega) (by omega)) (fun i => hP _ _ (by omega)) (h2 p p0 p1), fun p p0 p1 => (hP _ _ (by omega)).trans (h3 p p0 p1), fun p p0 p1 => (hP _ _ (by omega)).trans (h4 p p0 p1), fun p p0 p1 => (hI _ _ (by omega)).trans (h5 p p0 p1), fun p p0 p1 k k0 k1 => ?_, fun p p0 p1 f f0 f1 => ?_, h8, fun p p0 p1 => ⟨fun j j0 j1 => (hS _ (by omega) (by omega)).trans ((h9 p p0 p1).1 j j0 j1), (h9 p p0 p1).2⟩⟩
  · rw [hI _ _ (by omega), hI _ _ (by omega), hI _ _ (by omega)]
    exact h6 p p0 p1 k k0 k1
  · rw [hI _ _ (by omega)]
    exact h7 p p0 p1 f f0 f1
theorem XK_ag {B : mj_M} (hS : ∀ c, (c = 130 ∨ c = 140) → gS B c = gS A c) (hI : ∀ c i, ((c = 100 ∧ (i = 11 ∨ i = 13)) ∨ (c = 200 ∧ (i = 40 ∨ i = 43)) ∨ c = 111 ∨ c = 113 ∨ c = 241 ∨ c = 244 ∨ c = 130) → gI B c i = gI A c i) (h : XK A) : XK B := by
  have e40 : gI B 200 40 = gI A 200 40 := hI _ _ (by omega)
  have e43 : gI B 200 43 = gI A 200 43 := hI _ _ (by omega)
  have e41 : gI B 241 = gI A 241 := funext fun i => hI _ _ (by omega)
  have e44 : gI B 244 = gI A 244 := funext fun i => hI _ _ (by omega)
  obtain ⟨h1, h2, h3, h4, h5, h6⟩ := h
  unfold XK
  rw [e40, e43, e41, e44]
  exact ⟨(hI _ _ (by omega)).trans h1, fun k k0 k1 => (hI _ _ (by omega)).trans (h2 k k0 k1), (hI _ _ (by omega)).trans h3, fun k k0 k1 => (hI _ _ (by omega)).trans (h4 k k0 k1), ⟨(hS 130 (by omega)).trans h5.1, fun i => (hI _ _ (by omega)).trans (h5.2 i)⟩, (hS 140 (by omega)).trans h6⟩
theorem FW_ag {B : mj_M} (hI : ∀ c i, ((c = 200 ∧ i = 3) ∨ c = 208 ∨ c = 209 ∨ c = 213 ∨ c = 216) → gI B c i = gI A c i) (h : FW A) : FW B := by
  intro k k0 k1
  rw [hI 200 3 (by omega)] at k0
  rw [hI 209 k (by omega), hI 213 k (by omega), hI 216 k (by omega), hI 208 k (by omega)]
  exact h k k0 k1
/-- a call that asks keeps all -/
theorem JJ_lh {C : Int → cT} {B : mj_M} (h : JJ C A) (k : lh A B) (hv : ∀ d, 0 ≤ d → d < gI A 200 3 → gI B (1000 + 100 * d) 13 = 0 ∨ (gI B (1000 + 100 * d) 13 = 1 ∧ pv B d)) (hz : ∀ p, ¬ (0 ≤ p ∧ p < 192) → gI B 124 p = 0) : JJ C B := by
  have hnd := h.m.g.nd
  have e3 : gI B 200 3 = gI A 200 3 := k.I _ _ (by omega)
  refine ⟨MI_ag (fun c _ _ => k.S c) (fun c i _ _ => k.P c i) (fun c i h0 h1 => k.I c i (by omega)) h.m, CX_ag (fun c _ _ => k.S c) (fun c i _ => k.P c i) (fun c i hc => k.I c i (by omega)) h.x, ⟨?_, ?_, hz, ?_, ?_, ?_⟩, SK_ag h.m.g.ns (fun c _ _ => k.S c) (fun c i _ => k.P c i) (fun c i hc => k.I c i (by omega)) h.s, PK_ag h.m.p.np (fun c _ _ => k.S c) (fun c i _ => k.P c i) (fun c i hc => k.I c i (by omega)) h.p, XK_ag (fun c _ => k.S c) (fun c i hc => k.I c i (by omega)) h.y, FW_ag (fun c i hc => k.I c i (by omega)) h.w⟩
  · rw [e3]
    exact fun d d0 d1 => ce_tr (h.h.e d d0 d1) (lh_ce k h.D ⟨d0, d1⟩ (h.cr d d0 d1))
  · rw [e3]; exact hv
  · rw [e3]
    intro d d0 d1
    rw [k.I _ _ (by omega), k.I _ _ (by omega)]
    exact h.h.ap d d0 d1
  · rw [e3]
    exact fun d d0 d1 j j0 j1 => (k.S _).trans (h.h.f d d0 d1 j j0 j1)
  · rw [k.I _ _ (by omega), k.I _ _ (by omega), k.I _ _ (by omega), k.I _ _ (by omega)]
    exact h.h.pn
end CLSD
