/-! STEPS, 2: what changes, but no drawing -/
section STPB
variable {G : mj_G} {A : mj_M}
theorem lm_i {l l' f f' n : Int} (hl : 0 ≤ l ∧ l ≤ 3) (hl' : 0 ≤ l' ∧ l' ≤ 3) (hf : 0 ≤ f ∧ f < n) (hf' : 0 ≤ f' ∧ f' < n) (h : l * n + f = l' * n + f') : l = l' ∧ f = f' := by
  have e : l = 0 ∨ l = 1 ∨ l = 2 ∨ l = 3 := by omega
  have e' : l' = 0 ∨ l' = 1 ∨ l' = 2 ∨ l' = 3 := by omega
  rcases e with e | e | e | e <;> rcases e' with e' | e' | e' | e' <;> rw [e, e'] at h <;> omega
theorem ch_cg {A' : mj_M} {d m : Int} (hD : DS A m) (hd : 0 ≤ d ∧ d < m) (hcr : cr (ch_c A d)) (hP : ∀ i, gP A' (1000 + 100 * d + 1) i = gP A (1000 + 100 * d + 1) i) (h : ∀ c i, ((c = 1000 + 100 * d ∧ (i = 6 ∨ i = 9 ∨ i = 10)) ∨ (1000 + 100 * d + 2 ≤ c ∧ c ≤ 1000 + 100 * d + 11)) → gI A' c i = gI A c i) : ce (ch_c A d) (ch_c A' d) := by
  have hn := hcr.n
  have ek := fun i i0 i1 => hD.ek d hd.1 hd.2 i i0 i1
  have es : ∀ i, sk A' d i = sk A d i := fun i => by unfold sk; rw [hP]
  refine ce_mk (h (1000 + 100 * d) 6 (by omega)).symm (fun i h0 h1 => ?_) (fun i h0 h1 => ?_) (fun q h0 h1 => ?_) (h (1000 + 100 * d) 9 (by omega)).symm (fun i h0 h1 => ?_) (fun i h0 h1 => ?_) (h (1000 + 100 * d) 10 (by omega)).symm
  · have k := ek i h0 (by omega)
    show gI A (sk A d i) 0 = gI A' (sk A' d i) 0
    rw [es, h _ _ (by omega)]
  · have k := ek i h0 (by omega)
    show gI A (sk A d i) 5 = gI A' (sk A' d i) 5
    rw [es, h _ _ (by omega)]
  · have k := ek (q / 4) (by omega) (by omega)
    show gI A (sk A d (q / 4)) (q % 4 + 1) = gI A' (sk A' d (q / 4)) (q % 4 + 1)
    rw [es, h _ _ (by omega)]
  · exact (h (1000 + 100 * d + 10) i (by omega)).symm
  · exact (h (1000 + 100 * d + 11) i (by omega)).symm
theorem jt_pen {X : Int → Int} {C : Int → cT} {B : mj_M} {px py : Int} (h : JT X C A) (hc : 0 ≤ px ∧ px < 16 ∧ 0 ≤ py ∧ py < 12) (hS : ∀ c, gS B c = gS A c) (hP : ∀ c i, gP B c i = gP A c i) (hI : ∀ c i, ¬ ((c = 200 ∧ i = 0) ∨ (c = 140 ∧ i = 0) ∨ (c = 100 ∧ (i = 2 ∨ i = 3)) ∨ (c = 200 ∧ (i = 1 ∨ i = 2))) → gI B c i = gI A c i) (t1 : gI B 100 2 = px) (t2 : gI B 100 3 = py) (t3 : gI B 200 1 = px) (t4 : gI B 200 2 = py) : JT X C B := by
  have hj := h.j
  have hnd := hj.m.g.nd
  have hns := hj.m.g.ns
  have hnp := hj.m.p.np
  have hhj : HJ C B := by
    have e3 : gI B 200 3 = gI A 200 3 := hI _ _ (by omega)
    have hce : ∀ d, 0 ≤ d → d < gI A 200 3 → ce (ch_c A d) (ch_c B d) := fun d d0 d1 => ch_cg hj.D ⟨d0, d1⟩ (hj.cr d d0 d1) (fun i => hP _ _) (fun c i hc => hI c i (by omega))
    refine ⟨?_, ?_, fun p hp => (hI 124 p (by omega)).trans (hj.h.z p hp), ?_, ?_, ?_⟩
    · rw [e3]
      exact fun d d0 d1 => ce_tr (hj.h.e d d0 d1) (hce d d0 d1)
    · rw [e3]
      intro d d0 d1
      rw [hI _ 13 (by omega)]
      rcases hj.h.v d d0 d1 with h9 | ⟨h9, h8⟩
      · exact Or.inl h9
      · exact Or.inr ⟨h9, pv_e (hce d d0 d1) (fun c i h0 h1 => hI _ _ (by omega)) h8⟩
    · rw [e3]
      intro d d0 d1
      rw [hI _ 11 (by omega), hI 208 d (by omega)]
      exact hj.h.ap d d0 d1
    · rw [e3]
      exact fun d d0 d1 j j0 j1 => (hS _).trans (hj.h.f d d0 d1 j j0 j1)
    · rw [t1, t2, t3, t4]; exact ⟨rfl, rfl⟩
  exact ⟨⟨⟨MS_ag (fun c _ _ => hS c) (fun c i c0 c1 => hP c i) hj.m.M, mo_rg_ag (fun c i hc => hI c i (by omega)) hj.m.g, mo_pg_ag (fun c i hc => hI c i (by omega)) hj.m.p, mo_hg_ag (fun c i hc => hI c i (by omega)) hj.m.h, mz_ag (fun c i hc => hI c i (by omega)) hj.m.z, dC_ag (fun c i hc => hI c i (by omega)) hj.m.C, fun q => by rw [hI 222 q (by omega)]; exact hj.m.co q, fun q => by rw [hI 208 q (by omega)]; exact hj.m.gd q, fun q => by rw [hI 228 q (by omega)]; exact hj.m.sp q, by rw [t3, t4]; omega, by rw [hI 200 40 (by omega)]; exact hj.m.nh, fun q q0 q1 => by rw [hI 200 40 (by omega)] at q1; rw [hI 241 q (by omega)]; exact hj.m.hs q q0 q1, by rw [hI 200 43 (by omega)]; exact hj.m.nf, fun q q0 q1 => by rw [hI 200 43 (by omega)] at q1; rw [hI 244 q (by omega), hI 200 23 (by omega)]; exact hj.m.rl q q0 q1, by rw [hI 200 3 (by omega)]; exact hj.m.cr⟩, CX_ag (fun c _ _ => hS c) (fun c i hc => hP c i) (fun c i hc => hI c i (by omega)) hj.x, hhj, SK_ag hns (fun c _ _ => hS c) (fun c i hc => hP c i) (fun c i hc => hI c i (by omega)) hj.s, PK_ag hnp (fun c _ _ => hS c) (fun c i hc => hP c i) (fun c i hc => hI c i (by omega)) hj.p, XK_ag (fun c _ => hS c) (fun c i hc => hI c i (by omega)) hj.y, FW_ag (fun c i hc => hI c i (by omega)) hj.w⟩, ST_ag hns (fun c i hc => hI c i (by omega)) h.t, (hS 50).trans h.s, (funext fun i => hI 50 i (by omega)).trans h.x⟩
theorem jt_approve {X : Int → Int} {C : Int → cT} {B : mj_M} {pd z : Int} (h : JT X C A) (hc : 0 ≤ pd ∧ pd < gI A 200 3) (hz : z = 0 ∨ z = 1) (hS : ∀ c, gS B c = gS A c) (hP : ∀ c i, gP B c i = gP A c i) (hI : ∀ c i, ¬ ((c = 200 ∧ i = 0) ∨ (c = 140 ∧ i = 0) ∨ (c = 1000 + 100 * pd ∧ i = 11) ∨ (c = 208 ∧ i = pd)) → gI B c i = gI A c i) (t1 : gI B (1000 + 100 * pd) 11 = z) (t2 : gI B 208 pd = z) : JT X C B := by
  have hj := h.j
  have hnd := hj.m.g.nd
  have hns := hj.m.g.ns
  have hnp := hj.m.p.np
  have hhj : HJ C B := by
    have e3 : gI B 200 3 = gI A 200 3 := hI _ _ (by omega)
    have hce : ∀ d, 0 ≤ d → d < gI A 200 3 → ce (ch_c A d) (ch_c B d) := fun d d0 d1 => ch_cg hj.D ⟨d0, d1⟩ (hj.cr d d0 d1) (fun i => hP _ _) (fun c i hc => hI c i (by omega))
    refine ⟨?_, ?_, fun p hp => (hI 124 p (by omega)).trans (hj.h.z p hp), ?_, ?_, ?_⟩
    · rw [e3]
      exact fun d d0 d1 => ce_tr (hj.h.e d d0 d1) (hce d d0 d1)
    · rw [e3]
      intro d d0 d1
      rw [hI _ 13 (by omega)]
      rcases hj.h.v d d0 d1 with h9 | ⟨h9, h8⟩
      · exact Or.inl h9
      · exact Or.inr ⟨h9, pv_e (hce d d0 d1) (fun c i h0 h1 => hI _ _ (by omega)) h8⟩
    · rw [e3]
      intro d d0 d1
      by_cases e : d = pd
      · rw [e, t1, t2]
      · rw [hI _ 11 (by omega), hI 208 d (by omega)]
        exact hj.h.ap d d0 d1
    · rw [e3]
      exact fun d d0 d1 j j0 j1 => (hS _).trans (hj.h.f d d0 d1 j j0 j1)
    · rw [hI 100 2 (by omega), hI 100 3 (by omega), hI 200 1 (by omega), hI 200 2 (by omega)]
      exact hj.h.pn
  exact ⟨⟨⟨MS_ag (fun c _ _ => hS c) (fun c i c0 c1 => hP c i) hj.m.M, mo_rg_ag (fun c i hc => hI c i (by omega)) hj.m.g, mo_pg_ag (fun c i hc => hI c i (by omega)) hj.m.p, mo_hg_ag (fun c i hc => hI c i (by omega)) hj.m.h, mz_ag (fun c i hc => hI c i (by omega)) hj.m.z, dC_ag (fun c i hc => hI c i (by omega)) hj.m.C, fun q => by rw [hI 222 q (by omega)]; exact hj.m.co q, fun q => by
      by_cases e : q = pd
      · rw [e, t2]; exact hz
      · rw [hI 208 q (by omega)]; exact hj.m.gd q, fun q => by rw [hI 228 q (by omega)]; exact hj.m.sp q, by rw [hI 200 1 (by omega), hI 200 2 (by omega)]; exact hj.m.px, by rw [hI 200 40 (by omega)]; exact hj.m.nh, fun q q0 q1 => by rw [hI 200 40 (by omega)] at q1; rw [hI 241 q (by omega)]; exact hj.m.hs q q0 q1, by rw [hI 200 43 (by omega)]; exact hj.m.nf, fun q q0 q1 => by rw [hI 200 43 (by omega)] at q1; rw [hI 244 q (by omega), hI 200 23 (by omega)]; exact hj.m.rl q q0 q1, by rw [hI 200 3 (by omega)]; exact hj.m.cr⟩, CX_ag (fun c _ _ => hS c) (fun c i hc => hP c i) (fun c i hc => hI c i (by omega)) hj.x, hhj, SK_ag hns (fun c _ _ => hS c) (fun c i hc => hP c i) (fun c i hc => hI c i (by omega)) hj.s, PK_ag hnp (fun c _ _ => hS c) (fun c i hc => hP c i) (fun c i hc => hI c i (by omega)) hj.p, XK_ag (fun c _ => hS c) (fun c i hc => hI c i (by omega)) hj.y, fun k k0 k1 => by
      rw [hI 200 3 (by omega)] at k0
      rw [hI 209 k (by omega), hI 213 k (by omega), hI 216 k (by omega), hI 208 k (by omega)]
      exact hj.w k k0 k1⟩, ST_ag hns (fun c i hc => hI c i (by omega)) h.t, (hS 50).trans h.s, (funext fun i => hI 50 i (by omega)).trans h.x⟩
theorem jt_colour {X : Int → Int} {C : Int → cT} {B : mj_M} {k pc : Int} (h : JT X C A) (hc : 1 ≤ pc ∧ pc ≤ 99) (hS : ∀ c, gS B c = gS A c) (hP : ∀ c i, gP B c i = gP A c i) (hI : ∀ c i, ¬ ((c = 200 ∧ i = 0) ∨ (c = 140 ∧ i = 0) ∨ (c = 105 ∧ i = k) ∨ (c = 222 ∧ i = k)) → gI B c i = gI A c i) (t1 : gI B 105 k = pc) (t2 : gI B 222 k = pc) : JT X C B := by
  have hj := h.j
  have hnd := hj.m.g.nd
  have hns := hj.m.g.ns
  have hnp := hj.m.p.np
  have hsk : SK B := by
    obtain ⟨h1, h2, h3, h4, h5, h6, h7, h8, h9, h10, h11, h13, h14, h15, h16, h17, h18⟩ := hj.s
    unfold SK
    rw [hI 200 23 (by omega), (funext fun i => hI 224 i (by omega) : gI B 224 = gI A 224), (funext fun i => hI 225 i (by omega) : gI B 225 = gI A 225), (funext fun i => hI 226 i (by omega) : gI B 226 = gI A 226), (funext fun i => hI 227 i (by omega) : gI B 227 = gI A 227), (funext fun i => hI 228 i (by omega) : gI B 228 = gI A 228), (funext fun i => hI 229 i (by omega) : gI B 229 = gI A 229), (funext fun i => hI 230 i (by omega) : gI B 230 = gI A 230), (funext fun i => hI 231 i (by omega) : gI B 231 = gI A 231), (funext fun i => hI 238 i (by omega) : gI B 238 = gI A 238)]
    refine ⟨(hI _ _ (by omega)).trans h1, fun s s0 s1 => SS1_ag (fun c c0 c1 => hS c) (fun i hi => hP _ _) (hI _ _ (by omega)) (h2 s s0 s1), fun s s0 s1 => (hP _ _).trans (h3 s s0 s1), fun s s0 s1 => (hI _ _ (by omega)).trans (h4 s s0 s1), fun s s0 s1 => (hI _ _ (by omega)).trans (h5 s s0 s1), fun s s0 s1 l f l0 l1 f0 f1 => (hI _ _ (by omega)).trans (h6 s s0 s1 l f l0 l1 f0 f1), fun s s0 s1 f f0 f1 => (hI _ _ (by omega)).trans (h7 s s0 s1 f f0 f1), fun s s0 s1 l l0 l1 => (hI _ _ (by omega)).trans (h8 s s0 s1 l l0 l1), fun s s0 s1 l l0 l1 => (hP _ _).trans (h9 s s0 s1 l l0 l1), fun s s0 s1 l l0 l1 => (hI _ _ (by omega)).trans (h10 s s0 s1 l l0 l1), fun s s0 s1 => (hP _ _).trans (h11 s s0 s1), fun s s0 s1 j j0 j1 => (hS _).trans (h13 s s0 s1 j j0 j1), h14, h15, h16, fun k k0 k1 => (hI _ _ (by omega)).trans (h17 k k0 k1), ?_⟩
    · intro q q0 q1
      by_cases e : q = k
      · rw [e, t1, t2]
      · rw [hI 105 q (by omega), hI 222 q (by omega)]; exact h18 q q0 q1
  exact ⟨⟨⟨MS_ag (fun c _ _ => hS c) (fun c i c0 c1 => hP c i) hj.m.M, mo_rg_ag (fun c i hc => hI c i (by omega)) hj.m.g, mo_pg_ag (fun c i hc => hI c i (by omega)) hj.m.p, mo_hg_ag (fun c i hc => hI c i (by omega)) hj.m.h, mz_ag (fun c i hc => hI c i (by omega)) hj.m.z, dC_ag (fun c i hc => hI c i (by omega)) hj.m.C, fun q => by
      by_cases e : q = k
      · rw [e, t2]; omega
      · rw [hI 222 q (by omega)]; exact hj.m.co q, fun q => by rw [hI 208 q (by omega)]; exact hj.m.gd q, fun q => by rw [hI 228 q (by omega)]; exact hj.m.sp q, by rw [hI 200 1 (by omega), hI 200 2 (by omega)]; exact hj.m.px, by rw [hI 200 40 (by omega)]; exact hj.m.nh, fun q q0 q1 => by rw [hI 200 40 (by omega)] at q1; rw [hI 241 q (by omega)]; exact hj.m.hs q q0 q1, by rw [hI 200 43 (by omega)]; exact hj.m.nf, fun q q0 q1 => by rw [hI 200 43 (by omega)] at q1; rw [hI 244 q (by omega), hI 200 23 (by omega)]; exact hj.m.rl q q0 q1, by rw [hI 200 3 (by omega)]; exact hj.m.cr⟩, CX_ag (fun c _ _ => hS c) (fun c i hc => hP c i) (fun c i hc => hI c i (by omega)) hj.x, HJ_ag hj (fun c _ _ => hS c) (fun c i c0 c1 => hP c i) (fun c i hc => hI c i (by omega)), hsk, PK_ag hnp (fun c _ _ => hS c) (fun c i hc => hP c i) (fun c i hc => hI c i (by omega)) hj.p, XK_ag (fun c _ => hS c) (fun c i hc => hI c i (by omega)) hj.y, FW_ag (fun c i hc => hI c i (by omega)) hj.w⟩, ST_ag hns (fun c i hc => hI c i (by omega)) h.t, (hS 50).trans h.s, (funext fun i => hI 50 i (by omega)).trans h.x⟩
theorem jt_expose {X : Int → Int} {C : Int → cT} {B : mj_M} {ps pl pf w : Int} (h : JT X C A) (hs : 0 ≤ ps ∧ ps < gI A 200 23) (hl : 0 ≤ pl ∧ pl ≤ 3) (hf : 0 ≤ pf ∧ pf < gI A 224 ps) (hw : 0 ≤ w ∧ w ≤ 15 → w < gI A 200 3) (hw2 : (-2 ≤ w ∧ w ≤ 15) ∨ (100 ≤ w ∧ w ≤ 123)) (hS : ∀ c, gS B c = gS A c) (hP : ∀ c i, gP B c i = gP A c i) (hI : ∀ c i, ¬ ((c = 200 ∧ i = 0) ∨ (c = 140 ∧ i = 0) ∨ (c = 4000 + 100 * ps + 1 ∧ i = pl * gI A 224 ps + pf) ∨ (c = 226 ∧ i = 24 * (4 * ps + pl) + pf)) → gI B c i = gI A c i) (t1 : gI B (4000 + 100 * ps + 1) (pl * gI A 224 ps + pf) = w) (t2 : gI B 226 (24 * (4 * ps + pl) + pf) = w) : JT X C B := by
  have hj := h.j
  have hnd := hj.m.g.nd
  have hns := hj.m.g.ns
  have hnp := hj.m.p.np
  have hg : mo_rg B := by
    obtain ⟨g1, g2, g3, g4, g5, g6, g7, g8⟩ := hj.m.g
    unfold mo_rg
    rw [hI 200 3 (by omega), hI 200 23 (by omega), (funext fun i => hI 224 i (by omega) : gI B 224 = gI A 224), (funext fun i => hI 225 i (by omega) : gI B 225 = gI A 225), (funext fun i => hI 227 i (by omega) : gI B 227 = gI A 227), (funext fun i => hI 231 i (by omega) : gI B 231 = gI A 231)]
    refine ⟨g1, g2, g3, g4, fun q => ?_, fun q q0 q1 q2 => ?_, g7, g8⟩
    · by_cases e : q = 24 * (4 * ps + pl) + pf
      · rw [e, t2]; exact hw2
      · rw [hI 226 q (by omega)]; exact g5 q
    · by_cases e : q = 24 * (4 * ps + pl) + pf
      · rw [e, t2] at q2 ⊢
        omega
      · rw [hI 226 q (by omega)] at q2 ⊢
        exact g6 q q0 q1 q2
  have hsk : SK B := by
    obtain ⟨h1, h2, h3, h4, h5, h6, h7, h8, h9, h10, h11, h13, h14, h15, h16, h17, h18⟩ := hj.s
    unfold SK
    rw [hI 200 23 (by omega), (funext fun i => hI 224 i (by omega) : gI B 224 = gI A 224), (funext fun i => hI 225 i (by omega) : gI B 225 = gI A 225), (funext fun i => hI 227 i (by omega) : gI B 227 = gI A 227), (funext fun i => hI 228 i (by omega) : gI B 228 = gI A 228), (funext fun i => hI 229 i (by omega) : gI B 229 = gI A 229), (funext fun i => hI 230 i (by omega) : gI B 230 = gI A 230), (funext fun i => hI 231 i (by omega) : gI B 231 = gI A 231), (funext fun i => hI 238 i (by omega) : gI B 238 = gI A 238), (funext fun i => hI 222 i (by omega) : gI B 222 = gI A 222)]
    refine ⟨(hI _ _ (by omega)).trans h1, fun s s0 s1 => SS1_ag (fun c c0 c1 => hS c) (fun i hi => hP _ _) (hI _ _ (by omega)) (h2 s s0 s1), fun s s0 s1 => (hP _ _).trans (h3 s s0 s1), fun s s0 s1 => (hI _ _ (by omega)).trans (h4 s s0 s1), fun s s0 s1 => (hI _ _ (by omega)).trans (h5 s s0 s1), ?_, fun s s0 s1 f f0 f1 => (hI _ _ (by omega)).trans (h7 s s0 s1 f f0 f1), fun s s0 s1 l l0 l1 => (hI _ _ (by omega)).trans (h8 s s0 s1 l l0 l1), fun s s0 s1 l l0 l1 => (hP _ _).trans (h9 s s0 s1 l l0 l1), fun s s0 s1 l l0 l1 => (hI _ _ (by omega)).trans (h10 s s0 s1 l l0 l1), fun s s0 s1 => (hP _ _).trans (h11 s s0 s1), fun s s0 s1 j j0 j1 => (hS _).trans (h13 s s0 s1 j j0 j1), h14, h15, h16, fun k k0 k1 => (hI _ _ (by omega)).trans (h17 k k0 k1), fun k k0 k1 => (hI _ _ (by omega)).trans (h18 k k0 k1)⟩
    · intro s s0 s1 l f l0 l1 f0 f1
      have hfr := hj.m.g.fr s s0 s1
      have hfr2 := hj.m.g.fr ps hs.1 hs.2
      by_cases es : s = ps
      · rw [es] at f1 ⊢
        by_cases e : l = pl ∧ f = pf
        · rw [e.1, e.2, t1, t2]
        · have e2 : ¬ (l * gI A 224 ps + f = pl * gI A 224 ps + pf) := fun e3 => e (lm_i ⟨l0, l1⟩ hl ⟨f0, f1⟩ hf e3)
          rw [hI _ _ (by omega), hI 226 _ (by omega)]
          exact h6 ps hs.1 hs.2 l f l0 l1 f0 f1
      · rw [hI _ _ (by omega), hI 226 _ (by omega)]
        exact h6 s s0 s1 l f l0 l1 f0 f1
  exact ⟨⟨⟨MS_ag (fun c _ _ => hS c) (fun c i c0 c1 => hP c i) hj.m.M, hg, mo_pg_ag (fun c i hc => hI c i (by omega)) hj.m.p, mo_hg_ag (fun c i hc => hI c i (by omega)) hj.m.h, mz_ag (fun c i hc => hI c i (by omega)) hj.m.z, dC_ag (fun c i hc => hI c i (by omega)) hj.m.C, fun q => by rw [hI 222 q (by omega)]; exact hj.m.co q, fun q => by rw [hI 208 q (by omega)]; exact hj.m.gd q, fun q => by rw [hI 228 q (by omega)]; exact hj.m.sp q, by rw [hI 200 1 (by omega), hI 200 2 (by omega)]; exact hj.m.px, by rw [hI 200 40 (by omega)]; exact hj.m.nh, fun q q0 q1 => by rw [hI 200 40 (by omega)] at q1; rw [hI 241 q (by omega)]; exact hj.m.hs q q0 q1, by rw [hI 200 43 (by omega)]; exact hj.m.nf, fun q q0 q1 => by rw [hI 200 43 (by omega)] at q1; rw [hI 244 q (by omega), hI 200 23 (by omega)]; exact hj.m.rl q q0 q1, by rw [hI 200 3 (by omega)]; exact hj.m.cr⟩, CX_ag (fun c _ _ => hS c) (fun c i hc => hP c i) (fun c i hc => hI c i (by omega)) hj.x, HJ_ag hj (fun c _ _ => hS c) (fun c i c0 c1 => hP c i) (fun c i hc => hI c i (by omega)), hsk, PK_ag hnp (fun c _ _ => hS c) (fun c i hc => hP c i) (fun c i hc => hI c i (by omega)) hj.p, XK_ag (fun c _ => hS c) (fun c i hc => hI c i (by omega)) hj.y, FW_ag (fun c i hc => hI c i (by omega)) hj.w⟩, ST_ag hns (fun c i hc => hI c i (by omega)) h.t, (hS 50).trans h.s, (funext fun i => hI 50 i (by omega)).trans h.x⟩
theorem jt_voice {X : Int → Int} {C : Int → cT} {B : mj_M} {ps pf w : Int} (h : JT X C A) (hs : 0 ≤ ps ∧ ps < gI A 200 23) (hf : 0 ≤ pf ∧ pf < gI A 224 ps) (hw : -1 ≤ w ∧ w ≤ 7) (hS : ∀ c, gS B c = gS A c) (hP : ∀ c i, gP B c i = gP A c i) (hI : ∀ c i, ¬ ((c = 200 ∧ i = 0) ∨ (c = 140 ∧ i = 0) ∨ (c = 4000 + 100 * ps + 2 ∧ i = pf) ∨ (c = 227 ∧ i = 24 * ps + pf)) → gI B c i = gI A c i) (t1 : gI B (4000 + 100 * ps + 2) pf = w) (t2 : gI B 227 (24 * ps + pf) = w) : JT X C B := by
  have hj := h.j
  have hnd := hj.m.g.nd
  have hns := hj.m.g.ns
  have hnp := hj.m.p.np
  have hg : mo_rg B := by
    obtain ⟨g1, g2, g3, g4, g5, g6, g7, g8⟩ := hj.m.g
    unfold mo_rg
    rw [hI 200 3 (by omega), hI 200 23 (by omega), (funext fun i => hI 224 i (by omega) : gI B 224 = gI A 224), (funext fun i => hI 225 i (by omega) : gI B 225 = gI A 225), (funext fun i => hI 226 i (by omega) : gI B 226 = gI A 226), (funext fun i => hI 231 i (by omega) : gI B 231 = gI A 231)]
    refine ⟨g1, g2, g3, g4, g5, g6, fun q => ?_, g8⟩
    by_cases e : q = 24 * ps + pf
    · rw [e, t2]; omega
    · rw [hI 227 q (by omega)]; exact g7 q
  have hsk : SK B := by
    obtain ⟨h1, h2, h3, h4, h5, h6, h7, h8, h9, h10, h11, h13, h14, h15, h16, h17, h18⟩ := hj.s
    unfold SK
    rw [hI 200 23 (by omega), (funext fun i => hI 224 i (by omega) : gI B 224 = gI A 224), (funext fun i => hI 225 i (by omega) : gI B 225 = gI A 225), (funext fun i => hI 226 i (by omega) : gI B 226 = gI A 226), (funext fun i => hI 228 i (by omega) : gI B 228 = gI A 228), (funext fun i => hI 229 i (by omega) : gI B 229 = gI A 229), (funext fun i => hI 230 i (by omega) : gI B 230 = gI A 230), (funext fun i => hI 231 i (by omega) : gI B 231 = gI A 231), (funext fun i => hI 238 i (by omega) : gI B 238 = gI A 238), (funext fun i => hI 222 i (by omega) : gI B 222 = gI A 222)]
    refine ⟨(hI _ _ (by omega)).trans h1, fun s s0 s1 => SS1_ag (fun c c0 c1 => hS c) (fun i hi => hP _ _) (hI _ _ (by omega)) (h2 s s0 s1), fun s s0 s1 => (hP _ _).trans (h3 s s0 s1), fun s s0 s1 => (hI _ _ (by omega)).trans (h4 s s0 s1), fun s s0 s1 => (hI _ _ (by omega)).trans (h5 s s0 s1), fun s s0 s1 l f l0 l1 f0 f1 => (hI _ _ (by omega)).trans (h6 s s0 s1 l f l0 l1 f0 f1), ?_, fun s s0 s1 l l0 l1 => (hI _ _ (by omega)).trans (h8 s s0 s1 l l0 l1), fun s s0 s1 l l0 l1 => (hP _ _).trans (h9 s s0 s1 l l0 l1), fun s s0 s1 l l0 l1 => (hI _ _ (by omega)).trans (h10 s s0 s1 l l0 l1), fun s s0 s1 => (hP _ _).trans (h11 s s0 s1), fun s s0 s1 j j0 j1 => (hS _).trans (h13 s s0 s1 j j0 j1), h14, h15, h16, fun k k0 k1 => (hI _ _ (by omega)).trans (h17 k k0 k1), fun k k0 k1 => (hI _ _ (by omega)).trans (h18 k k0 k1)⟩
    · intro s s0 s1 f f0 f1
      have hfr := hj.m.g.fr s s0 s1
      have hfr2 := hj.m.g.fr ps hs.1 hs.2
      by_cases e : s = ps ∧ f = pf
      · rw [e.1, e.2, t1, t2, if_neg (by omega)]
      · rw [hI _ _ (by omega), hI 227 _ (by omega)]
        exact h7 s s0 s1 f f0 f1
  exact ⟨⟨⟨MS_ag (fun c _ _ => hS c) (fun c i c0 c1 => hP c i) hj.m.M, hg, mo_pg_ag (fun c i hc => hI c i (by omega)) hj.m.p, mo_hg_ag (fun c i hc => hI c i (by omega)) hj.m.h, mz_ag (fun c i hc => hI c i (by omega)) hj.m.z, dC_ag (fun c i hc => hI c i (by omega)) hj.m.C, fun q => by rw [hI 222 q (by omega)]; exact hj.m.co q, fun q => by rw [hI 208 q (by omega)]; exact hj.m.gd q, fun q => by rw [hI 228 q (by omega)]; exact hj.m.sp q, by rw [hI 200 1 (by omega), hI 200 2 (by omega)]; exact hj.m.px, by rw [hI 200 40 (by omega)]; exact hj.m.nh, fun q q0 q1 => by rw [hI 200 40 (by omega)] at q1; rw [hI 241 q (by omega)]; exact hj.m.hs q q0 q1, by rw [hI 200 43 (by omega)]; exact hj.m.nf, fun q q0 q1 => by rw [hI 200 43 (by omega)] at q1; rw [hI 244 q (by omega), hI 200 23 (by omega)]; exact hj.m.rl q q0 q1, by rw [hI 200 3 (by omega)]; exact hj.m.cr⟩, CX_ag (fun c _ _ => hS c) (fun c i hc => hP c i) (fun c i hc => hI c i (by omega)) hj.x, HJ_ag hj (fun c _ _ => hS c) (fun c i c0 c1 => hP c i) (fun c i hc => hI c i (by omega)), hsk, PK_ag hnp (fun c _ _ => hS c) (fun c i hc => hP c i) (fun c i hc => hI c i (by omega)) hj.p, XK_ag (fun c _ => hS c) (fun c i hc => hI c i (by omega)) hj.y, FW_ag (fun c i hc => hI c i (by omega)) hj.w⟩, ST_ag hns (fun c i hc => hI c i (by omega)) h.t, (hS 50).trans h.s, (funext fun i => hI 50 i (by omega)).trans h.x⟩
theorem jt_mouth {X : Int → Int} {C : Int → cT} {B : mj_M} {pw pd : Int} (h : JT X C A) (hw : 0 ≤ pw ∧ pw ≤ 7) (hd : pd = -1 ∨ (0 ≤ pd ∧ pd < gI A 200 3)) (hS : ∀ c, gS B c = gS A c) (hP : ∀ c i, gP B c i = gP A c i) (hI : ∀ c i, ¬ ((c = 200 ∧ i = 0) ∨ (c = 140 ∧ i = 0) ∨ (c = 108 ∧ i = pw) ∨ (c = 231 ∧ i = pw)) → gI B c i = gI A c i) (t1 : gI B 108 pw = pd) (t2 : gI B 231 pw = pd) : JT X C B := by
  have hj := h.j
  have hnd := hj.m.g.nd
  have hns := hj.m.g.ns
  have hnp := hj.m.p.np
  have hg : mo_rg B := by
    obtain ⟨g1, g2, g3, g4, g5, g6, g7, g8⟩ := hj.m.g
    unfold mo_rg
    rw [hI 200 3 (by omega), hI 200 23 (by omega), (funext fun i => hI 224 i (by omega) : gI B 224 = gI A 224), (funext fun i => hI 225 i (by omega) : gI B 225 = gI A 225), (funext fun i => hI 226 i (by omega) : gI B 226 = gI A 226), (funext fun i => hI 227 i (by omega) : gI B 227 = gI A 227)]
    refine ⟨g1, g2, g3, g4, g5, g6, g7, fun q q0 q1 => ?_⟩
    by_cases e : q = pw
    · rw [e, t2]; omega
    · rw [hI 231 q (by omega)]; exact g8 q q0 q1
  have hsk : SK B := by
    obtain ⟨h1, h2, h3, h4, h5, h6, h7, h8, h9, h10, h11, h13, h14, h15, h16, h17, h18⟩ := hj.s
    unfold SK
    rw [hI 200 23 (by omega), (funext fun i => hI 224 i (by omega) : gI B 224 = gI A 224), (funext fun i => hI 225 i (by omega) : gI B 225 = gI A 225), (funext fun i => hI 226 i (by omega) : gI B 226 = gI A 226), (funext fun i => hI 227 i (by omega) : gI B 227 = gI A 227), (funext fun i => hI 228 i (by omega) : gI B 228 = gI A 228), (funext fun i => hI 229 i (by omega) : gI B 229 = gI A 229), (funext fun i => hI 230 i (by omega) : gI B 230 = gI A 230), (funext fun i => hI 238 i (by omega) : gI B 238 = gI A 238), (funext fun i => hI 222 i (by omega) : gI B 222 = gI A 222)]
    refine ⟨(hI _ _ (by omega)).trans h1, fun s s0 s1 => SS1_ag (fun c c0 c1 => hS c) (fun i hi => hP _ _) (hI _ _ (by omega)) (h2 s s0 s1), fun s s0 s1 => (hP _ _).trans (h3 s s0 s1), fun s s0 s1 => (hI _ _ (by omega)).trans (h4 s s0 s1), fun s s0 s1 => (hI _ _ (by omega)).trans (h5 s s0 s1), fun s s0 s1 l f l0 l1 f0 f1 => (hI _ _ (by omega)).trans (h6 s s0 s1 l f l0 l1 f0 f1), fun s s0 s1 f f0 f1 => (hI _ _ (by omega)).trans (h7 s s0 s1 f f0 f1), fun s s0 s1 l l0 l1 => (hI _ _ (by omega)).trans (h8 s s0 s1 l l0 l1), fun s s0 s1 l l0 l1 => (hP _ _).trans (h9 s s0 s1 l l0 l1), fun s s0 s1 l l0 l1 => (hI _ _ (by omega)).trans (h10 s s0 s1 l l0 l1), fun s s0 s1 => (hP _ _).trans (h11 s s0 s1), fun s s0 s1 j j0 j1 => (hS _).trans (h13 s s0 s1 j j0 j1), h14, h15, h16, ?_, fun k k0 k1 => (hI _ _ (by omega)).trans (h18 k k0 k1)⟩
    · intro q q0 q1
      by_cases e : q = pw
      · rw [e, t1, t2]
      · rw [hI 108 q (by omega), hI 231 q (by omega)]; exact h17 q q0 q1
  exact ⟨⟨⟨MS_ag (fun c _ _ => hS c) (fun c i c0 c1 => hP c i) hj.m.M, hg, mo_pg_ag (fun c i hc => hI c i (by omega)) hj.m.p, mo_hg_ag (fun c i hc => hI c i (by omega)) hj.m.h, mz_ag (fun c i hc => hI c i (by omega)) hj.m.z, dC_ag (fun c i hc => hI c i (by omega)) hj.m.C, fun q => by rw [hI 222 q (by omega)]; exact hj.m.co q, fun q => by rw [hI 208 q (by omega)]; exact hj.m.gd q, fun q => by rw [hI 228 q (by omega)]; exact hj.m.sp q, by rw [hI 200 1 (by omega), hI 200 2 (by omega)]; exact hj.m.px, by rw [hI 200 40 (by omega)]; exact hj.m.nh, fun q q0 q1 => by rw [hI 200 40 (by omega)] at q1; rw [hI 241 q (by omega)]; exact hj.m.hs q q0 q1, by rw [hI 200 43 (by omega)]; exact hj.m.nf, fun q q0 q1 => by rw [hI 200 43 (by omega)] at q1; rw [hI 244 q (by omega), hI 200 23 (by omega)]; exact hj.m.rl q q0 q1, by rw [hI 200 3 (by omega)]; exact hj.m.cr⟩, CX_ag (fun c _ _ => hS c) (fun c i hc => hP c i) (fun c i hc => hI c i (by omega)) hj.x, HJ_ag hj (fun c _ _ => hS c) (fun c i c0 c1 => hP c i) (fun c i hc => hI c i (by omega)), hsk, PK_ag hnp (fun c _ _ => hS c) (fun c i hc => hP c i) (fun c i hc => hI c i (by omega)) hj.p, XK_ag (fun c _ => hS c) (fun c i hc => hI c i (by omega)) hj.y, FW_ag (fun c i hc => hI c i (by omega)) hj.w⟩, ST_ag hns (fun c i hc => hI c i (by omega)) h.t, (hS 50).trans h.s, (funext fun i => hI 50 i (by omega)).trans h.x⟩
theorem jt_speaks {X : Int → Int} {C : Int → cT} {B : mj_M} {ps pl v : Int} (h : JT X C A) (hs : 0 ≤ ps ∧ ps < gI A 200 23) (hl : 0 ≤ pl ∧ pl ≤ 3) (hv : v = 0 ∨ v = 1) (hS : ∀ c, gS B c = gS A c) (hP : ∀ c i, gP B c i = gP A c i) (hI : ∀ c i, ¬ ((c = 200 ∧ i = 0) ∨ (c = 140 ∧ i = 0) ∨ (c = 4000 + 100 * ps + 3 ∧ i = pl) ∨ (c = 228 ∧ i = 4 * ps + pl)) → gI B c i = gI A c i) (t1 : gI B (4000 + 100 * ps + 3) pl = v) (t2 : gI B 228 (4 * ps + pl) = v) : JT X C B := by
  have hj := h.j
  have hnd := hj.m.g.nd
  have hns := hj.m.g.ns
  have hnp := hj.m.p.np
  have hsk : SK B := by
    obtain ⟨h1, h2, h3, h4, h5, h6, h7, h8, h9, h10, h11, h13, h14, h15, h16, h17, h18⟩ := hj.s
    unfold SK
    rw [hI 200 23 (by omega), (funext fun i => hI 224 i (by omega) : gI B 224 = gI A 224), (funext fun i => hI 225 i (by omega) : gI B 225 = gI A 225), (funext fun i => hI 226 i (by omega) : gI B 226 = gI A 226), (funext fun i => hI 227 i (by omega) : gI B 227 = gI A 227), (funext fun i => hI 229 i (by omega) : gI B 229 = gI A 229), (funext fun i => hI 230 i (by omega) : gI B 230 = gI A 230), (funext fun i => hI 231 i (by omega) : gI B 231 = gI A 231), (funext fun i => hI 238 i (by omega) : gI B 238 = gI A 238), (funext fun i => hI 222 i (by omega) : gI B 222 = gI A 222)]
    refine ⟨(hI _ _ (by omega)).trans h1, fun s s0 s1 => SS1_ag (fun c c0 c1 => hS c) (fun i hi => hP _ _) (hI _ _ (by omega)) (h2 s s0 s1), fun s s0 s1 => (hP _ _).trans (h3 s s0 s1), fun s s0 s1 => (hI _ _ (by omega)).trans (h4 s s0 s1), fun s s0 s1 => (hI _ _ (by omega)).trans (h5 s s0 s1), fun s s0 s1 l f l0 l1 f0 f1 => (hI _ _ (by omega)).trans (h6 s s0 s1 l f l0 l1 f0 f1), fun s s0 s1 f f0 f1 => (hI _ _ (by omega)).trans (h7 s s0 s1 f f0 f1), ?_, fun s s0 s1 l l0 l1 => (hP _ _).trans (h9 s s0 s1 l l0 l1), fun s s0 s1 l l0 l1 => (hI _ _ (by omega)).trans (h10 s s0 s1 l l0 l1), fun s s0 s1 => (hP _ _).trans (h11 s s0 s1), fun s s0 s1 j j0 j1 => (hS _).trans (h13 s s0 s1 j j0 j1), h14, ?_, h16, fun k k0 k1 => (hI _ _ (by omega)).trans (h17 k k0 k1), fun k k0 k1 => (hI _ _ (by omega)).trans (h18 k k0 k1)⟩
    · intro s s0 s1 l l0 l1
      by_cases e : s = ps ∧ l = pl
      · rw [e.1, e.2, t1, t2]
      · rw [hI _ _ (by omega), hI 228 _ (by omega)]
        exact h8 s s0 s1 l l0 l1
    · intro q hq
      rw [hI 228 q (by omega)]
      exact h15 q hq
  exact ⟨⟨⟨MS_ag (fun c _ _ => hS c) (fun c i c0 c1 => hP c i) hj.m.M, mo_rg_ag (fun c i hc => hI c i (by omega)) hj.m.g, mo_pg_ag (fun c i hc => hI c i (by omega)) hj.m.p, mo_hg_ag (fun c i hc => hI c i (by omega)) hj.m.h, mz_ag (fun c i hc => hI c i (by omega)) hj.m.z, dC_ag (fun c i hc => hI c i (by omega)) hj.m.C, fun q => by rw [hI 222 q (by omega)]; exact hj.m.co q, fun q => by rw [hI 208 q (by omega)]; exact hj.m.gd q, fun q => by
      by_cases e : q = 4 * ps + pl
      · rw [e, t2]; exact hv
      · rw [hI 228 q (by omega)]; exact hj.m.sp q, by rw [hI 200 1 (by omega), hI 200 2 (by omega)]; exact hj.m.px, by rw [hI 200 40 (by omega)]; exact hj.m.nh, fun q q0 q1 => by rw [hI 200 40 (by omega)] at q1; rw [hI 241 q (by omega)]; exact hj.m.hs q q0 q1, by rw [hI 200 43 (by omega)]; exact hj.m.nf, fun q q0 q1 => by rw [hI 200 43 (by omega)] at q1; rw [hI 244 q (by omega), hI 200 23 (by omega)]; exact hj.m.rl q q0 q1, by rw [hI 200 3 (by omega)]; exact hj.m.cr⟩, CX_ag (fun c _ _ => hS c) (fun c i hc => hP c i) (fun c i hc => hI c i (by omega)) hj.x, HJ_ag hj (fun c _ _ => hS c) (fun c i c0 c1 => hP c i) (fun c i hc => hI c i (by omega)), hsk, PK_ag hnp (fun c _ _ => hS c) (fun c i hc => hP c i) (fun c i hc => hI c i (by omega)) hj.p, XK_ag (fun c _ => hS c) (fun c i hc => hI c i (by omega)) hj.y, FW_ag (fun c i hc => hI c i (by omega)) hj.w⟩, ST_ag hns (fun c i hc => hI c i (by omega)) h.t, (hS 50).trans h.s, (funext fun i => hI 50 i (by omega)).trans h.x⟩
theorem jt_hang {X : Int → Int} {C : Int → cT} {B : mj_M} {ps pl pp0 pe : Int} (h : JT X C A) (hs : 0 ≤ ps ∧ ps < gI A 200 23) (hl : 0 ≤ pl ∧ pl ≤ 4) (hp : pp0 = -1 ∨ (0 ≤ pp0 ∧ pp0 < gI A 200 32)) (he : pl = 4 ∨ (1 ≤ pe ∧ pe ≤ 4)) (hS : ∀ c, gS B c = gS A c) (hP : ∀ c i, ¬ (c = 4000 + 100 * ps + 4 ∧ i = pl) → ¬ (c = 4000 + 100 * ps ∧ i = 7) → gP B c i = gP A c i) (hI : ∀ c i, ¬ ((c = 200 ∧ i = 0) ∨ (c = 140 ∧ i = 0) ∨ (c = 4000 + 100 * ps + 5 ∧ i = pl) ∨ (c = 229 ∧ i = 5 * ps + pl) ∨ (c = 230 ∧ i = 5 * ps + pl)) → gI B c i = gI A c i) (t1 : pl ≠ 4 → gI B (4000 + 100 * ps + 5) pl = pe ∧ gP B (4000 + 100 * ps + 4) pl = pp pp0) (t2 : gI B 229 (5 * ps + pl) = pp0) (t3 : gI B 230 (5 * ps + pl) = pe) (t4 : pl = 4 → gP B (4000 + 100 * ps) 7 = pp pp0) (t5 : pl ≠ 4 → gP B (4000 + 100 * ps) 7 = gP A (4000 + 100 * ps) 7) (t6 : pl = 4 → ∀ i, gP B (4000 + 100 * ps + 4) i = gP A (4000 + 100 * ps + 4) i) : JT X C B := by
  have hj := h.j
  have hnd := hj.m.g.nd
  have hns := hj.m.g.ns
  have hnp := hj.m.p.np
  have hhg : mo_hg B := by
    obtain ⟨g1, g2⟩ := hj.m.h
    unfold mo_hg
    rw [hI 200 23 (by omega), hI 200 32 (by omega)]
    refine ⟨fun q q0 q1 => ?_, fun s l s0 s1 l0 l1 => ?_⟩
    · by_cases e : q = 5 * ps + pl
      · rw [e, t2]; omega
      · rw [hI 229 q (by omega)]; exact g1 q q0 q1
    · by_cases e : 5 * s + l = 5 * ps + pl
      · rw [e, t3]; omega
      · rw [hI 230 _ (by omega)]; exact g2 s l s0 s1 l0 l1
  have hsk : SK B := by
    obtain ⟨h1, h2, h3, h4, h5, h6, h7, h8, h9, h10, h11, h13, h14, h15, h16, h17, h18⟩ := hj.s
    unfold SK
    rw [hI 200 23 (by omega), (funext fun i => hI 224 i (by omega) : gI B 224 = gI A 224), (funext fun i => hI 225 i (by omega) : gI B 225 = gI A 225), (funext fun i => hI 226 i (by omega) : gI B 226 = gI A 226), (funext fun i => hI 227 i (by omega) : gI B 227 = gI A 227), (funext fun i => hI 228 i (by omega) : gI B 228 = gI A 228), (funext fun i => hI 231 i (by omega) : gI B 231 = gI A 231), (funext fun i => hI 238 i (by omega) : gI B 238 = gI A 238), (funext fun i => hI 222 i (by omega) : gI B 222 = gI A 222)]
    refine ⟨(hI _ _ (by omega)).trans h1, ?_, ?_, fun s s0 s1 => (hI _ _ (by omega)).trans (h4 s s0 s1), fun s s0 s1 => (hI _ _ (by omega)).trans (h5 s s0 s1), fun s s0 s1 l f l0 l1 f0 f1 => (hI _ _ (by omega)).trans (h6 s s0 s1 l f l0 l1 f0 f1), fun s s0 s1 f f0 f1 => (hI _ _ (by omega)).trans (h7 s s0 s1 f f0 f1), fun s s0 s1 l l0 l1 => (hI _ _ (by omega)).trans (h8 s s0 s1 l l0 l1), ?_, ?_, ?_, fun s s0 s1 j j0 j1 => (hS _).trans (h13 s s0 s1 j j0 j1), h14, h15, h16, fun k k0 k1 => (hI _ _ (by omega)).trans (h17 k k0 k1), fun k k0 k1 => (hI _ _ (by omega)).trans (h18 k k0 k1)⟩
    · intro s s0 s1
      exact SS1_ag (fun c c0 c1 => hS c) (fun i hi => hP _ _ (by omega) (by omega)) (hI _ _ (by omega)) (h2 s s0 s1)
    · exact fun s s0 s1 => (hP _ _ (by omega) (by omega)).trans (h3 s s0 s1)
    · intro s s0 s1 l l0 l1
      by_cases e : s = ps ∧ l = pl
      · rw [e.1, e.2, t2]
        exact (t1 (by omega)).2
      · rw [hI 229 _ (by omega)]
        by_cases e2 : s = ps
        · by_cases e4 : pl = 4
          · rw [e2, t6 e4]
            exact h9 ps hs.1 hs.2 l l0 l1
          · rw [hP _ _ (by omega) (by omega)]
            exact h9 s s0 s1 l l0 l1
        · rw [hP _ _ (by omega) (by omega)]
          exact h9 s s0 s1 l l0 l1
    · intro s s0 s1 l l0 l1
      by_cases e : s = ps ∧ l = pl
      · rw [e.1, e.2, t3]
        exact (t1 (by omega)).1
      · rw [hI 230 _ (by omega), hI _ _ (by omega)]
        exact h10 s s0 s1 l l0 l1
    · intro s s0 s1
      by_cases e : s = ps
      · rw [e]
        by_cases e4 : pl = 4
        · rw [t4 e4, show 5 * ps + 4 = 5 * ps + pl by omega, t2]
        · rw [t5 e4, hI 229 _ (by omega)]
          exact h11 ps hs.1 hs.2
      · rw [hP _ _ (by omega) (by omega), hI 229 _ (by omega)]
        exact h11 s s0 s1
  exact ⟨⟨⟨MS_ag (fun c _ _ => hS c) (fun c i c0 c1 => hP c i (by omega) (by omega)) hj.m.M, mo_rg_ag (fun c i hc => hI c i (by omega)) hj.m.g, mo_pg_ag (fun c i hc => hI c i (by omega)) hj.m.p, hhg, mz_ag (fun c i hc => hI c i (by omega)) hj.m.z, dC_ag (fun c i hc => hI c i (by omega)) hj.m.C, fun q => by rw [hI 222 q (by omega)]; exact hj.m.co q, fun q => by rw [hI 208 q (by omega)]; exact hj.m.gd q, fun q => by rw [hI 228 q (by omega)]; exact hj.m.sp q, by rw [hI 200 1 (by omega), hI 200 2 (by omega)]; exact hj.m.px, by rw [hI 200 40 (by omega)]; exact hj.m.nh, fun q q0 q1 => by rw [hI 200 40 (by omega)] at q1; rw [hI 241 q (by omega)]; exact hj.m.hs q q0 q1, by rw [hI 200 43 (by omega)]; exact hj.m.nf, fun q q0 q1 => by rw [hI 200 43 (by omega)] at q1; rw [hI 244 q (by omega), hI 200 23 (by omega)]; exact hj.m.rl q q0 q1, by rw [hI 200 3 (by omega)]; exact hj.m.cr⟩, CX_ag (fun c _ _ => hS c) (fun c i hc => hP c i (by omega) (by omega)) (fun c i hc => hI c i (by omega)) hj.x, HJ_ag hj (fun c _ _ => hS c) (fun c i c0 c1 => hP c i (by omega) (by omega)) (fun c i hc => hI c i (by omega)), hsk, PK_ag hnp (fun c _ _ => hS c) (fun c i hc => hP c i (by omega) (by omega)) (fun c i hc => hI c i (by omega)) hj.p, XK_ag (fun c _ => hS c) (fun c i hc => hI c i (by omega)) hj.y, FW_ag (fun c i hc => hI c i (by omega)) hj.w⟩, ST_ag hns (fun c i hc => hI c i (by omega)) h.t, (hS 50).trans h.s, (funext fun i => hI 50 i (by omega)).trans h.x⟩
theorem jt_hand {X : Int → Int} {C : Int → cT} {B : mj_M} {w : Int} (h : JT X C A) (hw : 1 ≤ w ∧ w ≤ 9) (hn : gI A 200 40 < 4) (hS : ∀ c, gS B c = gS A c) (hP : ∀ c i, gP B c i = gP A c i) (hI : ∀ c i, ¬ ((c = 200 ∧ i = 0) ∨ (c = 140 ∧ i = 0) ∨ (c = 111 ∧ i = gI A 200 40) ∨ (c = 100 ∧ i = 11) ∨ (c = 241 ∧ i = gI A 200 40) ∨ (c = 200 ∧ i = 40)) → gI B c i = gI A c i) (t1 : gI B 111 (gI A 200 40) = w) (t2 : gI B 100 11 = gI A 200 40 + 1) (t3 : gI B 241 (gI A 200 40) = w) (t4 : gI B 200 40 = gI A 200 40 + 1) : JT X C B := by
  have hj := h.j
  have hnd := hj.m.g.nd
  have hns := hj.m.g.ns
  have hnp := hj.m.p.np
  have hnh := hj.m.nh
  have hxk : XK B := by
    obtain ⟨h1, h2, h3, h4, h5, h6⟩ := hj.y
    refine ⟨t2.trans t4.symm, fun q q0 q1 => ?_, by rw [hI 100 13 (by omega), hI 200 43 (by omega)]; exact h3, fun q q0 q1 => ?_, ⟨(hS 130).trans h5.1, fun i => (hI 130 i (by omega)).trans (h5.2 i)⟩, (hS 140).trans h6⟩
    · rw [t4] at q1
      by_cases e : q = gI A 200 40
      · rw [e, t1, t3]
      · rw [hI 111 q (by omega), hI 241 q (by omega)]; exact h2 q q0 (by omega)
    · rw [hI 200 43 (by omega)] at q1
      rw [hI 113 q (by omega), hI 244 q (by omega)]; exact h4 q q0 q1
  exact ⟨⟨⟨MS_ag (fun c _ _ => hS c) (fun c i c0 c1 => hP c i) hj.m.M, mo_rg_ag (fun c i hc => hI c i (by omega)) hj.m.g, mo_pg_ag (fun c i hc => hI c i (by omega)) hj.m.p, mo_hg_ag (fun c i hc => hI c i (by omega)) hj.m.h, mz_ag (fun c i hc => hI c i (by omega)) hj.m.z, dC_ag (fun c i hc => hI c i (by omega)) hj.m.C, fun q => by rw [hI 222 q (by omega)]; exact hj.m.co q, fun q => by rw [hI 208 q (by omega)]; exact hj.m.gd q, fun q => by rw [hI 228 q (by omega)]; exact hj.m.sp q, by rw [hI 200 1 (by omega), hI 200 2 (by omega)]; exact hj.m.px, by rw [t4]; omega, fun q q0 q1 => by
      rw [t4] at q1
      by_cases e : q = gI A 200 40
      · rw [e, t3]; exact hw
      · rw [hI 241 q (by omega)]; exact hj.m.hs q q0 (by omega), by rw [hI 200 43 (by omega)]; exact hj.m.nf, fun q q0 q1 => by rw [hI 200 43 (by omega)] at q1; rw [hI 244 q (by omega), hI 200 23 (by omega)]; exact hj.m.rl q q0 q1, by rw [hI 200 3 (by omega)]; exact hj.m.cr⟩, CX_ag (fun c _ _ => hS c) (fun c i hc => hP c i) (fun c i hc => hI c i (by omega)) hj.x, HJ_ag hj (fun c _ _ => hS c) (fun c i c0 c1 => hP c i) (fun c i hc => hI c i (by omega)), SK_ag hns (fun c _ _ => hS c) (fun c i hc => hP c i) (fun c i hc => hI c i (by omega)) hj.s, PK_ag hnp (fun c _ _ => hS c) (fun c i hc => hP c i) (fun c i hc => hI c i (by omega)) hj.p, hxk, FW_ag (fun c i hc => hI c i (by omega)) hj.w⟩, ST_ag hns (fun c i hc => hI c i (by omega)) h.t, (hS 50).trans h.s, (funext fun i => hI 50 i (by omega)).trans h.x⟩
theorem jt_splice {X : Int → Int} {C : Int → cT} {B : mj_M} {ps : Int} (h : JT X C A) (hs : 0 ≤ ps ∧ ps < gI A 200 23) (hn : gI A 200 43 < 10) (hS : ∀ c, gS B c = gS A c) (hP : ∀ c i, gP B c i = gP A c i) (hI : ∀ c i, ¬ ((c = 200 ∧ i = 0) ∨ (c = 140 ∧ i = 0) ∨ (c = 113 ∧ i = gI A 200 43) ∨ (c = 100 ∧ i = 13) ∨ (c = 244 ∧ i = gI A 200 43) ∨ (c = 200 ∧ i = 43)) → gI B c i = gI A c i) (t1 : gI B 113 (gI A 200 43) = ps) (t2 : gI B 100 13 = gI A 200 43 + 1) (t3 : gI B 244 (gI A 200 43) = ps) (t4 : gI B 200 43 = gI A 200 43 + 1) : JT X C B := by
  have hj := h.j
  have hnd := hj.m.g.nd
  have hns := hj.m.g.ns
  have hnp := hj.m.p.np
  have hnf := hj.m.nf
  have hxk : XK B := by
    obtain ⟨h1, h2, h3, h4, h5, h6⟩ := hj.y
    refine ⟨by rw [hI 100 11 (by omega), hI 200 40 (by omega)]; exact h1, fun q q0 q1 => ?_, t2.trans t4.symm, fun q q0 q1 => ?_, ⟨(hS 130).trans h5.1, fun i => (hI 130 i (by omega)).trans (h5.2 i)⟩, (hS 140).trans h6⟩
    · rw [hI 200 40 (by omega)] at q1
      rw [hI 111 q (by omega), hI 241 q (by omega)]; exact h2 q q0 q1
    · rw [t4] at q1
      by_cases e : q = gI A 200 43
      · rw [e, t1, t3]
      · rw [hI 113 q (by omega), hI 244 q (by omega)]; exact h4 q q0 (by omega)
  exact ⟨⟨⟨MS_ag (fun c _ _ => hS c) (fun c i c0 c1 => hP c i) hj.m.M, mo_rg_ag (fun c i hc => hI c i (by omega)) hj.m.g, mo_pg_ag (fun c i hc => hI c i (by omega)) hj.m.p, mo_hg_ag (fun c i hc => hI c i (by omega)) hj.m.h, mz_ag (fun c i hc => hI c i (by omega)) hj.m.z, dC_ag (fun c i hc => hI c i (by omega)) hj.m.C, fun q => by rw [hI 222 q (by omega)]; exact hj.m.co q, fun q => by rw [hI 208 q (by omega)]; exact hj.m.gd q, fun q => by rw [hI 228 q (by omega)]; exact hj.m.sp q, by rw [hI 200 1 (by omega), hI 200 2 (by omega)]; exact hj.m.px, by rw [hI 200 40 (by omega)]; exact hj.m.nh, fun q q0 q1 => by rw [hI 200 40 (by omega)] at q1; rw [hI 241 q (by omega)]; exact hj.m.hs q q0 q1, by rw [t4]; omega, fun q q0 q1 => by
      rw [t4] at q1
      rw [hI 200 23 (by omega)]
      by_cases e : q = gI A 200 43
      · rw [e, t3]; exact hs
      · rw [hI 244 q (by omega)]; exact hj.m.rl q q0 (by omega), by rw [hI 200 3 (by omega)]; exact hj.m.cr⟩, CX_ag (fun c _ _ => hS c) (fun c i hc => hP c i) (fun c i hc => hI c i (by omega)) hj.x, HJ_ag hj (fun c _ _ => hS c) (fun c i c0 c1 => hP c i) (fun c i hc => hI c i (by omega)), SK_ag hns (fun c _ _ => hS c) (fun c i hc => hP c i) (fun c i hc => hI c i (by omega)) hj.s, PK_ag hnp (fun c _ _ => hS c) (fun c i hc => hP c i) (fun c i hc => hI c i (by omega)) hj.p, hxk, FW_ag (fun c i hc => hI c i (by omega)) hj.w⟩, ST_ag hns (fun c i hc => hI c i (by omega)) h.t, (hS 50).trans h.s, (funext fun i => hI 50 i (by omega)).trans h.x⟩
theorem jt_cut {X : Int → Int} {C : Int → cT} {B : mj_M}  (h : JT X C A)  (hS : ∀ c, gS B c = gS A c) (hP : ∀ c i, gP B c i = gP A c i) (hI : ∀ c i, ¬ ((c = 200 ∧ i = 0) ∨ (c = 140 ∧ i = 0) ∨ (c = 100 ∧ i = 13) ∨ (c = 200 ∧ i = 43)) → gI B c i = gI A c i) (t2 : gI B 100 13 = 0) (t4 : gI B 200 43 = 0) : JT X C B := by
  have hj := h.j
  have hnd := hj.m.g.nd
  have hns := hj.m.g.ns
  have hnp := hj.m.p.np
  have hxk : XK B := by
    obtain ⟨h1, h2, h3, h4, h5, h6⟩ := hj.y
    refine ⟨by rw [hI 100 11 (by omega), hI 200 40 (by omega)]; exact h1, fun q q0 q1 => ?_, t2.trans t4.symm, fun q q0 q1 => ?_, ⟨(hS 130).trans h5.1, fun i => (hI 130 i (by omega)).trans (h5.2 i)⟩, (hS 140).trans h6⟩
    · rw [hI 200 40 (by omega)] at q1
      rw [hI 111 q (by omega), hI 241 q (by omega)]; exact h2 q q0 q1
    · rw [t4] at q1; omega
  exact ⟨⟨⟨MS_ag (fun c _ _ => hS c) (fun c i c0 c1 => hP c i) hj.m.M, mo_rg_ag (fun c i hc => hI c i (by omega)) hj.m.g, mo_pg_ag (fun c i hc => hI c i (by omega)) hj.m.p, mo_hg_ag (fun c i hc => hI c i (by omega)) hj.m.h, mz_ag (fun c i hc => hI c i (by omega)) hj.m.z, dC_ag (fun c i hc => hI c i (by omega)) hj.m.C, fun q => by rw [hI 222 q (by omega)]; exact hj.m.co q, fun q => by rw [hI 208 q (by omega)]; exact hj.m.gd q, fun q => by rw [hI 228 q (by omega)]; exact hj.m.sp q, by rw [hI 200 1 (by omega), hI 200 2 (by omega)]; exact hj.m.px, by rw [hI 200 40 (by omega)]; exact hj.m.nh, fun q q0 q1 => by rw [hI 200 40 (by omega)] at q1; rw [hI 241 q (by omega)]; exact hj.m.hs q q0 q1, by rw [t4]; omega, fun q q0 q1 => by rw [t4] at q1; omega, by rw [hI 200 3 (by omega)]; exact hj.m.cr⟩, CX_ag (fun c _ _ => hS c) (fun c i hc => hP c i) (fun c i hc => hI c i (by omega)) hj.x, HJ_ag hj (fun c _ _ => hS c) (fun c i c0 c1 => hP c i) (fun c i hc => hI c i (by omega)), SK_ag hns (fun c _ _ => hS c) (fun c i hc => hP c i) (fun c i hc => hI c i (by omega)) hj.s, PK_ag hnp (fun c _ _ => hS c) (fun c i hc => hP c i) (fun c i hc => hI c i (by omega)) hj.p, hxk, FW_ag (fun c i hc => hI c i (by omega)) hj.w⟩, ST_ag hns (fun c i hc => hI c i (by omega)) h.t, (hS 50).trans h.s, (funext fun i => hI 50 i (by omega)).trans h.x⟩
theorem jt_move {X : Int → Int} {C : Int → cT} {B : mj_M} {pq pf x y k n : Int} (h : JT X C A) (hp : 0 ≤ pq ∧ pq < gI A 200 32) (hf : 0 ≤ pf ∧ pf ≤ 23) (hx : -20 ≤ x ∧ x ≤ 20) (hy : -20 ≤ y ∧ y ≤ 20) (hk : (k = gI A 234 pq ∧ n = gI A 234 pq + 1 ∧ gI A 234 pq < 6 ∧ ∀ j, 0 ≤ j → j < gI A 234 pq → gI A 235 (6 * pq + j) ≠ pf) ∨ ((0 ≤ k ∧ k < gI A 234 pq) ∧ n = gI A 234 pq ∧ gI A 235 (6 * pq + k) = pf)) (hS : ∀ c, gS B c = gS A c) (hP : ∀ c i, gP B c i = gP A c i) (hI : ∀ c i, ¬ ((c = 200 ∧ i = 0) ∨ (c = 140 ∧ i = 0) ∨ (c = 6000 + 100 * pq ∧ i = 4) ∨ (c = 6000 + 100 * pq + 1 ∧ i = pf) ∨ (c = 6000 + 100 * pq + 2 ∧ i = pf) ∨ (c = 6000 + 100 * pq + 3 ∧ i = pf) ∨ (c = 234 ∧ i = pq) ∨ (c = 235 ∧ i = 6 * pq + k) ∨ (c = 236 ∧ i = 6 * pq + k) ∨ (c = 237 ∧ i = 6 * pq + k)) → gI B c i = gI A c i) (t1 : gI B (6000 + 100 * pq) 4 = n) (t2 : gI B (6000 + 100 * pq + 1) pf = 1) (t3 : gI B (6000 + 100 * pq + 2) pf = x) (t4 : gI B (6000 + 100 * pq + 3) pf = y) (t5 : gI B 234 pq = n) (t6 : gI B 235 (6 * pq + k) = pf) (t7 : gI B 236 (6 * pq + k) = x) (t8 : gI B 237 (6 * pq + k) = y) : JT X C B := by
  have hj := h.j
  have hnd := hj.m.g.nd
  have hns := hj.m.g.ns
  have hnp := hj.m.p.np
  have htn := hj.m.p.tn pq hp.1 hp.2
  have hn2 : gI A 234 pq ≤ n ∧ n ≤ 6 ∧ 0 ≤ k ∧ k < n ∧ (∀ j, 0 ≤ j → j < n → j ≠ k → j < gI A 234 pq) := by
    rcases hk with ⟨k1, k2, k3, -⟩ | ⟨k1, k2, -⟩
    · exact ⟨by omega, by omega, by omega, by omega, fun j j0 j1 j2 => by omega⟩
    · exact ⟨by omega, by omega, by omega, by omega, fun j j0 j1 j2 => by omega⟩
  have hpg : mo_pg B := by
    obtain ⟨g1, g2, g3, g4, g5, g6⟩ := hj.m.p
    unfold mo_pg
    rw [hI 200 32 (by omega), (funext fun i => hI 233 i (by omega) : gI B 233 = gI A 233)]
    refine ⟨g1, g2, fun q q0 q1 => ?_, fun q => ?_, fun q => ?_, fun q => ?_⟩
    · by_cases e : q = pq
      · rw [e, t5]; omega
      · rw [hI 234 q (by omega)]; exact g3 q q0 q1
    · by_cases e : q = 6 * pq + k
      · rw [e, t6]; exact hf
      · rw [hI 235 q (by omega)]; exact g4 q
    · by_cases e : q = 6 * pq + k
      · rw [e, t7]; exact hx
      · rw [hI 236 q (by omega)]; exact g5 q
    · by_cases e : q = 6 * pq + k
      · rw [e, t8]; exact hy
      · rw [hI 237 q (by omega)]; exact g6 q
  have hpk : PK B := by
    obtain ⟨h1, h2, h3, h4, h5, h6, h7, h8, h9⟩ := hj.p
    have hne : ∀ j, 0 ≤ j → j < n → j ≠ k → gI A 235 (6 * pq + j) ≠ pf := fun j j0 j1 j2 => by
      have j3 := hn2.2.2.2.2 j j0 j1 j2
      rcases hk with ⟨k1, k2, k3, k4⟩ | ⟨k1, k2, k3⟩
      · exact k4 j j0 j3
      · intro e
        exact j2 (h8 pq hp.1 hp.2 j k j0 j3 k1.1 k1.2 (e.trans k3.symm))
    have e35 : ∀ q j, 0 ≤ j → j < 6 → ¬ (q = pq ∧ j = k) → gI B 235 (6 * q + j) = gI A 235 (6 * q + j) ∧ gI B 236 (6 * q + j) = gI A 236 (6 * q + j) ∧ gI B 237 (6 * q + j) = gI A 237 (6 * q + j) := fun q j j0 j1 hne => ⟨hI _ _ (by omega), hI _ _ (by omega), hI _ _ (by omega)⟩
    unfold PK
    rw [hI 200 32 (by omega), (funext fun i => hI 233 i (by omega) : gI B 233 = gI A 233)]
    refine ⟨(hI _ _ (by omega)).trans h1, fun q q0 q1 => PS1_ag (fun c c0 c1 => hS c) (fun i => hP _ _) (h2 q q0 q1), fun q q0 q1 => (hP _ _).trans (h3 q q0 q1), fun q q0 q1 => (hP _ _).trans (h4 q q0 q1), fun q q0 q1 => ?_, fun q q0 q1 j j0 j1 => ?_, fun q q0 q1 f f0 f1 => ?_, fun q q0 q1 i j i0 i1 j0 j1 e => ?_, fun q q0 q1 => ⟨fun j j0 j1 => (hS _).trans ((h9 q q0 q1).1 j j0 j1), ?_⟩⟩
    · by_cases e : q = pq
      · rw [e, t1, t5]
      · rw [hI _ _ (by omega), hI 234 q (by omega)]; exact h5 q q0 q1
    · have hq6 := hj.m.p.tn q q0 q1
      by_cases e : q = pq
      · rw [e] at j1 ⊢
        rw [t5] at j1
        by_cases e2 : j = k
        · rw [e2, t6, t7, t8]; exact ⟨t2, t3, t4⟩
        · have e3 := e35 pq j j0 (by omega) (by omega)
          have e4 := hne j j0 j1 e2
          rw [e3.1, e3.2.1, e3.2.2, hI _ _ (by omega), hI _ _ (by omega), hI _ _ (by omega)]
          exact h6 pq hp.1 hp.2 j j0 (hn2.2.2.2.2 j j0 j1 e2)
      · rw [hI 234 q (by omega)] at j1
        have e3 := e35 q j j0 (by omega) (by omega)
        rw [e3.1, e3.2.1, e3.2.2, hI _ _ (by omega), hI _ _ (by omega), hI _ _ (by omega)]
        exact h6 q q0 q1 j j0 j1
    · have hq6 := hj.m.p.tn q q0 q1
      by_cases e : q = pq
      · rw [e]
        by_cases e2 : f = pf
        · rw [e2, t2]
          exact Or.inr ⟨rfl, k, hn2.2.2.1, by rw [t5]; exact hn2.2.2.2.1, t6⟩
        · rw [hI _ _ (by omega)]
          rcases h7 pq hp.1 hp.2 f f0 f1 with h | ⟨h, j, j0, j1, j2⟩
          · exact Or.inl h
          · have e3 : j ≠ k := fun e3 => by
              rcases hk with ⟨k1, k2, k3, k4⟩ | ⟨k1, k2, k3⟩
              · omega
              · rw [e3, k3] at j2; exact e2 j2.symm
            refine Or.inr ⟨h, j, j0, by rw [t5]; omega, ?_⟩
            rw [(e35 pq j j0 (by omega) (by omega)).1]; exact j2
      · rw [hI _ _ (by omega)]
        rcases h7 q q0 q1 f f0 f1 with h | ⟨h, j, j0, j1, j2⟩
        · exact Or.inl h
        · refine Or.inr ⟨h, j, j0, by rw [hI 234 q (by omega)]; exact j1, ?_⟩
          rw [(e35 q j j0 (by omega) (by omega)).1]; exact j2
    · have hq6 := hj.m.p.tn q q0 q1
      by_cases e9 : q = pq
      · rw [e9] at i1 j1 e
        rw [t5] at i1 j1
        by_cases ei : i = k
        · by_cases ej : j = k
          · omega
          · exfalso
            rw [ei, t6, (e35 pq j j0 (by omega) (by omega)).1] at e
            exact hne j j0 j1 ej e.symm
        · by_cases ej : j = k
          · exfalso
            rw [ej, t6, (e35 pq i i0 (by omega) (by omega)).1] at e
            exact hne i i0 i1 ei e
          · rw [(e35 pq i i0 (by omega) (by omega)).1, (e35 pq j j0 (by omega) (by omega)).1] at e
            exact h8 pq hp.1 hp.2 i j i0 (hn2.2.2.2.2 i i0 i1 ei) j0 (hn2.2.2.2.2 j j0 j1 ej) e
      · rw [hI 234 q (by omega)] at i1 j1
        rw [(e35 q i i0 (by omega) (by omega)).1, (e35 q j j0 (by omega) (by omega)).1] at e
        exact h8 q q0 q1 i j i0 i1 j0 j1 e
    · rw [hI 234 q (by omega)]; exact (h9 q q0 q1).2
  exact ⟨⟨⟨MS_ag (fun c _ _ => hS c) (fun c i c0 c1 => hP c i) hj.m.M, mo_rg_ag (fun c i hc => hI c i (by omega)) hj.m.g, hpg, mo_hg_ag (fun c i hc => hI c i (by omega)) hj.m.h, mz_ag (fun c i hc => hI c i (by omega)) hj.m.z, dC_ag (fun c i hc => hI c i (by omega)) hj.m.C, fun q => by rw [hI 222 q (by omega)]; exact hj.m.co q, fun q => by rw [hI 208 q (by omega)]; exact hj.m.gd q, fun q => by rw [hI 228 q (by omega)]; exact hj.m.sp q, by rw [hI 200 1 (by omega), hI 200 2 (by omega)]; exact hj.m.px, by rw [hI 200 40 (by omega)]; exact hj.m.nh, fun q q0 q1 => by rw [hI 200 40 (by omega)] at q1; rw [hI 241 q (by omega)]; exact hj.m.hs q q0 q1, by rw [hI 200 43 (by omega)]; exact hj.m.nf, fun q q0 q1 => by rw [hI 200 43 (by omega)] at q1; rw [hI 244 q (by omega), hI 200 23 (by omega)]; exact hj.m.rl q q0 q1, by rw [hI 200 3 (by omega)]; exact hj.m.cr⟩, CX_ag (fun c _ _ => hS c) (fun c i hc => hP c i) (fun c i hc => hI c i (by omega)) hj.x, HJ_ag hj (fun c _ _ => hS c) (fun c i c0 c1 => hP c i) (fun c i hc => hI c i (by omega)), SK_ag hns (fun c _ _ => hS c) (fun c i hc => hP c i) (fun c i hc => hI c i (by omega)) hj.s, hpk, XK_ag (fun c _ => hS c) (fun c i hc => hI c i (by omega)) hj.y, FW_ag (fun c i hc => hI c i (by omega)) hj.w⟩, ST_ag hns (fun c i hc => hI c i (by omega)) h.t, (hS 50).trans h.s, (funext fun i => hI 50 i (by omega)).trans h.x⟩
theorem jt_hours {X : Int → Int} {C : Int → cT} {B : mj_M}  (h : JT X C A)  (hS : ∀ c, gS B c = gS A c) (hP : ∀ c i, gP B c i = gP A c i) (hI : ∀ c i, ¬ ((c = 200 ∧ i = 0) ∨ (c = 140 ∧ i = 0) ∨ (c = 242)) → gI B c i = gI A c i)  : JT X C B := by
  have hj := h.j
  have hnd := hj.m.g.nd
  have hns := hj.m.g.ns
  have hnp := hj.m.p.np
  exact ⟨⟨⟨MS_ag (fun c _ _ => hS c) (fun c i c0 c1 => hP c i) hj.m.M, mo_rg_ag (fun c i hc => hI c i (by omega)) hj.m.g, mo_pg_ag (fun c i hc => hI c i (by omega)) hj.m.p, mo_hg_ag (fun c i hc => hI c i (by omega)) hj.m.h, mz_ag (fun c i hc => hI c i (by omega)) hj.m.z, dC_ag (fun c i hc => hI c i (by omega)) hj.m.C, fun q => by rw [hI 222 q (by omega)]; exact hj.m.co q, fun q => by rw [hI 208 q (by omega)]; exact hj.m.gd q, fun q => by rw [hI 228 q (by omega)]; exact hj.m.sp q, by rw [hI 200 1 (by omega), hI 200 2 (by omega)]; exact hj.m.px, by rw [hI 200 40 (by omega)]; exact hj.m.nh, fun q q0 q1 => by rw [hI 200 40 (by omega)] at q1; rw [hI 241 q (by omega)]; exact hj.m.hs q q0 q1, by rw [hI 200 43 (by omega)]; exact hj.m.nf, fun q q0 q1 => by rw [hI 200 43 (by omega)] at q1; rw [hI 244 q (by omega), hI 200 23 (by omega)]; exact hj.m.rl q q0 q1, by rw [hI 200 3 (by omega)]; exact hj.m.cr⟩, CX_ag (fun c _ _ => hS c) (fun c i hc => hP c i) (fun c i hc => hI c i (by omega)) hj.x, HJ_ag hj (fun c _ _ => hS c) (fun c i c0 c1 => hP c i) (fun c i hc => hI c i (by omega)), SK_ag hns (fun c _ _ => hS c) (fun c i hc => hP c i) (fun c i hc => hI c i (by omega)) hj.s, PK_ag hnp (fun c _ _ => hS c) (fun c i hc => hP c i) (fun c i hc => hI c i (by omega)) hj.p, XK_ag (fun c _ => hS c) (fun c i hc => hI c i (by omega)) hj.y, FW_ag (fun c i hc => hI c i (by omega)) hj.w⟩, ST_ag hns (fun c i hc => hI c i (by omega)) h.t, (hS 50).trans h.s, (funext fun i => hI 50 i (by omega)).trans h.x⟩
end STPB
