/-! STEPS, 5: a new scene, a new peg, shots -/
section STPE
variable {G : mj_G} {A : mj_M}
theorem jt_scene {X : Int → Int} {C : Int → cT} {B : mj_M} {n fr pa : Int} (h : JT X C A) (hn : n = gI A 200 23) (hn6 : n < 6) (hfr : 1 ≤ fr ∧ fr ≤ 24) (hpa : 0 ≤ pa ∧ pa ≤ 3)
    (hS : ∀ c, ¬ (4000 + 100 * n ≤ c ∧ c ≤ 4000 + 100 * n + 6) → gS B c = gS A c)
    (hP : ∀ c i, ¬ ((4000 + 100 * n ≤ c ∧ c ≤ 4000 + 100 * n + 6) ∨ (c = 106 ∧ i = n)) → gP B c i = gP A c i)
    (hI : ∀ c i, ¬ ((4000 + 100 * n ≤ c ∧ c ≤ 4000 + 100 * n + 6) ∨ (c = 100 ∧ i = 6) ∨ (c = 200 ∧ (i = 0 ∨ i = 23)) ∨ (c = 140 ∧ i = 0) ∨ ((c = 224 ∨ c = 225) ∧ i = n) ∨ (c = 226 ∧ 96 * n ≤ i ∧ i < 96 * n + 96) ∨ (c = 227 ∧ 24 * n ≤ i ∧ i < 24 * n + 24) ∨ ((c = 229 ∨ c = 230) ∧ 5 * n ≤ i ∧ i < 5 * n + 5)) → gI B c i = gI A c i)
    (t1 : SS1 B n) (t2 : gP B 106 n = some (4000 + 100 * n)) (t3 : gI B 100 6 = n + 1) (t4 : gI B 200 23 = n + 1) (t5 : gI B 224 n = fr ∧ gI B 225 n = pa)
    (t6 : ∀ i, 96 * n ≤ i → i < 96 * n + 96 → gI B 226 i = -2) (t7 : ∀ i, 24 * n ≤ i → i < 24 * n + 24 → gI B 227 i = -2) (t8 : ∀ i, 5 * n ≤ i → i < 5 * n + 5 → gI B 229 i = -1 ∧ gI B 230 i = 1)
    (u1 : gI B (4000 + 100 * n) 0 = fr ∧ gI B (4000 + 100 * n) 1 = pa ∧ gP B (4000 + 100 * n) 7 = none) (u2 : ∀ i, 0 ≤ i → i < 4 * fr → gI B (4000 + 100 * n + 1) i = -2) (u3 : ∀ i, 0 ≤ i → i < fr → gI B (4000 + 100 * n + 2) i = -3) (u4 : ∀ i, 0 ≤ i → i < 4 → gI B (4000 + 100 * n + 3) i = 0 ∧ gP B (4000 + 100 * n + 4) i = none ∧ gI B (4000 + 100 * n + 5) i = 1) (u5 : ∀ i, 0 ≤ i → i < 192 * fr → gI B (4000 + 100 * n + 6) i = -1) : JT X C B := by
  have hj := h.j
  have hnd := hj.m.g.nd
  have hns := hj.m.g.ns
  have hnp := hj.m.p.np
  have hg : mo_rg B := by
    obtain ⟨g1, g2, g3, g4, g5, g6, g7, g8⟩ := hj.m.g
    unfold mo_rg
    rw [hI 200 3 (by omega), t4, (funext fun i => hI 231 i (by omega) : gI B 231 = gI A 231)]
    refine ⟨g1, by omega, fun q q0 q1 => ?_, fun q q0 q1 => ?_, fun q => ?_, fun q q0 q1 q2 => ?_, fun q => ?_, g8⟩
    · by_cases e : q = n
      · rw [e, t5.1]; exact hfr
      · rw [hI 224 q (by omega)]; exact g3 q q0 (by omega)
    · by_cases e : q = n
      · rw [e, t5.2]; exact hpa
      · rw [hI 225 q (by omega)]; exact g4 q q0 (by omega)
    · by_cases e : 96 * n ≤ q ∧ q < 96 * n + 96
      · rw [t6 q e.1 e.2]; omega
      · rw [hI 226 q (by omega)]; exact g5 q
    · by_cases e : 96 * n ≤ q ∧ q < 96 * n + 96
      · rw [t6 q e.1 e.2]; omega
      · rw [hI 226 q (by omega)] at q2 ⊢; exact g6 q q0 (by omega) q2
    · by_cases e : 24 * n ≤ q ∧ q < 24 * n + 24
      · rw [t7 q e.1 e.2]; omega
      · rw [hI 227 q (by omega)]; exact g7 q
  have hhg : mo_hg B := by
    obtain ⟨g1, g2⟩ := hj.m.h
    unfold mo_hg
    rw [t4, hI 200 32 (by omega)]
    refine ⟨fun q q0 q1 => ?_, fun s l s0 s1 l0 l1 => ?_⟩
    · by_cases e : 5 * n ≤ q ∧ q < 5 * n + 5
      · rw [(t8 q e.1 e.2).1]; omega
      · rw [hI 229 q (by omega)]; exact g1 q q0 (by omega)
    · by_cases e : s = n
      · rw [(t8 _ (by omega) (by omega)).2]; omega
      · rw [hI 230 _ (by omega)]; exact g2 s l s0 (by omega) l0 l1
  have hsk : SK B := by
    obtain ⟨h1, h2, h3, h4, h5, h6, h7, h8, h9, h10, h11, h13, h14, h15, h16, h17, h18⟩ := hj.s
    unfold SK
    rw [t4, (funext fun i => hI 228 i (by omega) : gI B 228 = gI A 228), (funext fun i => hI 231 i (by omega) : gI B 231 = gI A 231), (funext fun i => hI 238 i (by omega) : gI B 238 = gI A 238), (funext fun i => hI 222 i (by omega) : gI B 222 = gI A 222)]
    refine ⟨t3, fun s s0 s1 => ?_, fun s s0 s1 => ?_, fun s s0 s1 => ?_, fun s s0 s1 => ?_, fun s s0 s1 l f l0 l1 f0 f1 => ?_, fun s s0 s1 f f0 f1 => ?_, fun s s0 s1 l l0 l1 => ?_, fun s s0 s1 l l0 l1 => ?_, fun s s0 s1 l l0 l1 => ?_, fun s s0 s1 => ?_, fun s s0 s1 j j0 j1 => (hS _ (by omega)).trans (h13 s (by omega) s1 j j0 j1), fun k hk => h14 k (by omega), fun k hk => h15 k (by omega), h16, fun k k0 k1 => (hI _ _ (by omega)).trans (h17 k k0 k1), fun k k0 k1 => (hI _ _ (by omega)).trans (h18 k k0 k1)⟩
    · by_cases e : s = n
      · rw [e]; exact t1
      · exact SS1_ag (A := A) (fun c c0 c1 => hS c (by omega)) (fun i hi => hP _ _ (by omega)) (hI _ _ (by omega)) (h2 s s0 (by omega))
    · by_cases e : s = n
      · rw [e]; exact t2
      · exact (hP _ _ (by omega)).trans (h3 s s0 (by omega))
    · by_cases e : s = n
      · rw [e, t5.1]; exact u1.1
      · rw [hI 224 s (by omega)]; exact (hI _ _ (by omega)).trans (h4 s s0 (by omega))
    · by_cases e : s = n
      · rw [e, t5.2]; exact u1.2.1
      · rw [hI 225 s (by omega)]; exact (hI _ _ (by omega)).trans (h5 s s0 (by omega))
    · by_cases e : s = n
      · rw [e, t5.1] at f1
        rw [e, t5.1, t6 _ (by omega) (by omega)]
        have hlm := lm_b (l := l) (n := fr) ⟨l0, l1⟩ (by omega)
        exact u2 _ (by omega) (by omega)
      · have e24 := hI 224 s (by omega)
        rw [e24] at f1
        have hfr2 := hj.m.g.fr s s0 (by omega)
        rw [e24, hI 226 _ (by omega), hI _ _ (by omega)]
        exact h6 s s0 (by omega) l f l0 l1 f0 f1
    · by_cases e : s = n
      · rw [e, t5.1] at f1
        rw [e, t7 _ (by omega) (by omega), if_pos rfl]
        exact u3 _ f0 f1
      · have e24 := hI 224 s (by omega)
        rw [e24] at f1
        have hfr2 := hj.m.g.fr s s0 (by omega)
        rw [hI 227 _ (by omega), hI _ _ (by omega)]
        exact h7 s s0 (by omega) f f0 f1
    · by_cases e : s = n
      · rw [e, h15 _ (by omega)]
        exact (u4 l l0 (by omega)).1
      · rw [hI _ _ (by omega)]; exact h8 s s0 (by omega) l l0 l1
    · by_cases e : s = n
      · rw [e, (t8 _ (by omega) (by omega)).1]
        exact (u4 l l0 (by omega)).2.1
      · rw [hI 229 _ (by omega), hP _ _ (by omega)]; exact h9 s s0 (by omega) l l0 l1
    · by_cases e : s = n
      · rw [e, (t8 _ (by omega) (by omega)).2]
        exact (u4 l l0 (by omega)).2.2
      · rw [hI 230 _ (by omega), hI _ _ (by omega)]; exact h10 s s0 (by omega) l l0 l1
    · by_cases e : s = n
      · rw [e, (t8 _ (by omega) (by omega)).1]
        exact u1.2.2
      · rw [hI 229 _ (by omega), hP _ _ (by omega)]; exact h11 s s0 (by omega)
  have hst : ST B := by
    have h14 := hj.s.z1
    unfold ST
    rw [t4, (funext fun i => hI 238 i (by omega) : gI B 238 = gI A 238), (funext fun i => hI 239 i (by omega) : gI B 239 = gI A 239)]
    intro s s0 s1 f p f0 f1 p0 p1
    by_cases e : s = n
    · rw [e, t5.1] at f1
      rw [e, h14 _ (by omega), if_pos rfl]
      exact u5 _ (by omega) (by omega)
    · have e24 := hI 224 s (by omega)
      rw [e24] at f1
      rw [hI _ _ (by omega)]
      exact h.t s s0 (by omega) f p f0 f1 p0 p1
  exact ⟨⟨⟨MS_ag (A := A) (fun c c0 c1 => hS c (by omega)) (fun c i c0 c1 => hP c i (by omega)) hj.m.M, hg, mo_pg_ag (fun c i hc => hI c i (by omega)) hj.m.p, hhg, mz_ag (fun c i hc => hI c i (by omega)) hj.m.z, dC_ag (fun c i hc => hI c i (by omega)) hj.m.C, fun q => by rw [hI 222 q (by omega)]; exact hj.m.co q, fun q => by rw [hI 208 q (by omega)]; exact hj.m.gd q, fun q => by rw [hI 228 q (by omega)]; exact hj.m.sp q, by rw [hI 200 1 (by omega), hI 200 2 (by omega)]; exact hj.m.px, by rw [hI 200 40 (by omega)]; exact hj.m.nh, fun q q0 q1 => by rw [hI 200 40 (by omega)] at q1; rw [hI 241 q (by omega)]; exact hj.m.hs q q0 q1, by rw [hI 200 43 (by omega)]; exact hj.m.nf, fun q q0 q1 => by rw [hI 200 43 (by omega)] at q1; rw [hI 244 q (by omega), t4]; have h9 := hj.m.rl q q0 q1; omega, by rw [hI 200 3 (by omega)]; exact hj.m.cr⟩, CX_ag (A := A) (fun c hc hc2 => hS c (by omega)) (fun c i hc => hP c i (by omega)) (fun c i hc => hI c i (by omega)) hj.x, HJ_ag (A := A) hj (fun c c0 c1 => hS c (by omega)) (fun c i c0 c1 => hP c i (by omega)) (fun c i hc => hI c i (by omega)), hsk, PK_ag (A := A) hnp (fun c c0 c1 => hS c (by omega)) (fun c i hc => hP c i (by omega)) (fun c i hc => hI c i (by omega)) hj.p, XK_ag (A := A) (fun c hc => hS c (by omega)) (fun c i hc => hI c i (by omega)) hj.y, FW_ag (fun c i hc => hI c i (by omega)) hj.w⟩, hst, (hS 50 (by omega)).trans h.s, (funext fun i => hI 50 i (by omega)).trans h.x⟩
theorem jt_peg {X : Int → Int} {C : Int → cT} {B : mj_M} {n pw : Int} (h : JT X C A) (hn : n = gI A 200 32) (hn6 : n < 6) (hpw : pw = -1 ∨ (0 ≤ pw ∧ pw < n))
    (hS : ∀ c, ¬ (6000 + 100 * n ≤ c ∧ c ≤ 6000 + 100 * n + 3) → gS B c = gS A c)
    (hP : ∀ c i, ¬ ((6000 + 100 * n ≤ c ∧ c ≤ 6000 + 100 * n + 3) ∨ (c = 109 ∧ i = n)) → gP B c i = gP A c i)
    (hI : ∀ c i, ¬ ((6000 + 100 * n ≤ c ∧ c ≤ 6000 + 100 * n + 3) ∨ (c = 100 ∧ i = 9) ∨ (c = 200 ∧ (i = 0 ∨ i = 32)) ∨ (c = 140 ∧ i = 0) ∨ (c = 233 ∧ i = n)) → gI B c i = gI A c i)
    (t1 : PS1 B n) (t2 : gP B 109 n = some (6000 + 100 * n)) (t3 : gI B 100 9 = n + 1) (t4 : gI B 200 32 = n + 1) (t5 : gI B 233 n = pw) (u1 : gP B (6000 + 100 * n) 0 = pp pw) (u2 : gI B (6000 + 100 * n) 4 = 0) (u3 : ∀ f, 0 ≤ f → f < 24 → gI B (6000 + 100 * n + 1) f = 0) : JT X C B := by
  have hj := h.j
  have hnd := hj.m.g.nd
  have hns := hj.m.g.ns
  have hnp := hj.m.p.np
  have hz : gI A 234 n = 0 := (hj.p.f n (by omega) hn6).2
  have hpg : mo_pg B := by
    obtain ⟨g1, g2, g3, g4, g5, g6⟩ := hj.m.p
    unfold mo_pg
    rw [t4, (funext fun i => hI 234 i (by omega) : gI B 234 = gI A 234), (funext fun i => hI 235 i (by omega) : gI B 235 = gI A 235), (funext fun i => hI 236 i (by omega) : gI B 236 = gI A 236), (funext fun i => hI 237 i (by omega) : gI B 237 = gI A 237)]
    refine ⟨by omega, fun q q0 q1 => ?_, fun q q0 q1 => ?_, g4, g5, g6⟩
    · by_cases e : q = n
      · rw [e, t5]; omega
      · rw [hI 233 q (by omega)]; exact g2 q q0 (by omega)
    · by_cases e : q = n
      · rw [e, hz]; omega
      · exact g3 q q0 (by omega)
  have hhg : mo_hg B := by
    obtain ⟨g1, g2⟩ := hj.m.h
    unfold mo_hg
    rw [t4, hI 200 23 (by omega), (funext fun i => hI 229 i (by omega) : gI B 229 = gI A 229), (funext fun i => hI 230 i (by omega) : gI B 230 = gI A 230)]
    exact ⟨fun q q0 q1 => by have := g1 q q0 q1; omega, g2⟩
  have hpk : PK B := by
    obtain ⟨h1, h2, h3, h4, h5, h6, h7, h8, h9⟩ := hj.p
    unfold PK
    rw [t4, (funext fun i => hI 234 i (by omega) : gI B 234 = gI A 234), (funext fun i => hI 235 i (by omega) : gI B 235 = gI A 235), (funext fun i => hI 236 i (by omega) : gI B 236 = gI A 236), (funext fun i => hI 237 i (by omega) : gI B 237 = gI A 237)]
    refine ⟨t3, fun q q0 q1 => ?_, fun q q0 q1 => ?_, fun q q0 q1 => ?_, fun q q0 q1 => ?_, fun q q0 q1 j j0 j1 => ?_, fun q q0 q1 f f0 f1 => ?_, fun q q0 q1 i j i0 i1 j0 j1 e => ?_, fun q q0 q1 => ⟨fun j j0 j1 => (hS _ (by omega)).trans ((h9 q (by omega) q1).1 j j0 j1), (h9 q (by omega) q1).2⟩⟩
    · by_cases e : q = n
      · rw [e]; exact t1
      · exact PS1_ag (A := A) (fun c c0 c1 => hS c (by omega)) (fun i => hP _ _ (by omega)) (h2 q q0 (by omega))
    · by_cases e : q = n
      · rw [e]; exact t2
      · exact (hP _ _ (by omega)).trans (h3 q q0 (by omega))
    · by_cases e : q = n
      · rw [e, t5]; exact u1
      · rw [hI 233 q (by omega)]; exact (hP _ _ (by omega)).trans (h4 q q0 (by omega))
    · by_cases e : q = n
      · rw [e, hz]; exact u2
      · exact (hI _ _ (by omega)).trans (h5 q q0 (by omega))
    · by_cases e : q = n
      · rw [e, hz] at j1; omega
      · rw [hI _ _ (by omega), hI _ _ (by omega), hI _ _ (by omega)]; exact h6 q q0 (by omega) j j0 j1
    · by_cases e : q = n
      · rw [e]; exact Or.inl (u3 f f0 f1)
      · rw [hI _ _ (by omega)]; exact h7 q q0 (by omega) f f0 f1
    · by_cases e9 : q = n
      · rw [e9, hz] at i1; omega
      · exact h8 q q0 (by omega) i j i0 i1 j0 j1 e
  exact ⟨⟨⟨MS_ag (A := A) (fun c c0 c1 => hS c (by omega)) (fun c i c0 c1 => hP c i (by omega)) hj.m.M, mo_rg_ag (fun c i hc => hI c i (by omega)) hj.m.g, hpg, hhg, mz_ag (fun c i hc => hI c i (by omega)) hj.m.z, dC_ag (fun c i hc => hI c i (by omega)) hj.m.C, fun q => by rw [hI 222 q (by omega)]; exact hj.m.co q, fun q => by rw [hI 208 q (by omega)]; exact hj.m.gd q, fun q => by rw [hI 228 q (by omega)]; exact hj.m.sp q, by rw [hI 200 1 (by omega), hI 200 2 (by omega)]; exact hj.m.px, by rw [hI 200 40 (by omega)]; exact hj.m.nh, fun q q0 q1 => by rw [hI 200 40 (by omega)] at q1; rw [hI 241 q (by omega)]; exact hj.m.hs q q0 q1, by rw [hI 200 43 (by omega)]; exact hj.m.nf, fun q q0 q1 => by rw [hI 200 43 (by omega)] at q1; rw [hI 244 q (by omega), hI 200 23 (by omega)]; exact hj.m.rl q q0 q1, by rw [hI 200 3 (by omega)]; exact hj.m.cr⟩, CX_ag (A := A) (fun c hc hc2 => hS c (by omega)) (fun c i hc => hP c i (by omega)) (fun c i hc => hI c i (by omega)) hj.x, HJ_ag (A := A) hj (fun c c0 c1 => hS c (by omega)) (fun c i c0 c1 => hP c i (by omega)) (fun c i hc => hI c i (by omega)), SK_ag (A := A) hns (fun c c0 c1 => hS c (by omega)) (fun c i hc => hP c i (by omega)) (fun c i hc => hI c i (by omega)) hj.s, hpk, XK_ag (A := A) (fun c hc => hS c (by omega)) (fun c i hc => hI c i (by omega)) hj.y, FW_ag (fun c i hc => hI c i (by omega)) hj.w⟩, ST_ag hns (fun c i hc => hI c i (by omega)) h.t, (hS 50 (by omega)).trans h.s, (funext fun i => hI 50 i (by omega)).trans h.x⟩
theorem jt_shots {X : Int → Int} {C : Int → cT} {W B : mj_M} {s : Int} (hx : gI A 50 = X) (hss : gS A 50 = some (.inl 99)) (hst0 : ST A) (hj : JJ C W) (hs : 0 ≤ s ∧ s < gI A 200 23) (h23 : gI W 200 23 = gI A 200 23) (h24 : gI W 224 = gI A 224) (hS : ∀ c, gS B c = gS W c) (hP : ∀ c i, gP B c i = gP W c i) (hI : ∀ c i, ¬ (c = 238 ∨ c = 239) → gI B c i = gI W c i)
    (wx : gI W 50 = gI A 50) (ws : gS W 50 = gS A 50) (k1 : ∀ q, gI B 238 q = if 24 * s ≤ q ∧ q < 24 * s + gI A 224 s then 1 else gI A 238 q) (k2 : ∀ s' f p, 0 ≤ f → f < gI A 224 s' → 0 ≤ p → p < 192 → 0 ≤ s' → s' < gI A 200 23 → s' ≠ s → gI B 239 (192 * (24 * s' + f) + p) = gI A 239 (192 * (24 * s' + f) + p) ∧ gI W (4000 + 100 * s' + 6) (192 * f + p) = gI A (4000 + 100 * s' + 6) (192 * f + p))
    (k3 : ∀ f p, 0 ≤ f → f < gI A 224 s → 0 ≤ p → p < 192 → gI W (4000 + 100 * s + 6) (192 * f + p) = gI B 239 (192 * (24 * s + f) + p)) (hb : ∀ k, gI A 238 k = 0 ∨ gI A 238 k = 1) (hz : ∀ k, 24 * gI A 200 23 ≤ k → gI A 238 k = 0) (hfr : ∀ s', 0 ≤ s' → s' < gI A 200 23 → 1 ≤ gI A 224 s' ∧ gI A 224 s' ≤ 24) : JT X C B := by
  have hnd := hj.m.g.nd
  have hns := hj.m.g.ns
  have hnp := hj.m.p.np
  have hsk : SK B := by
    obtain ⟨h1, h2, h3, h4, h5, h6, h7, h8, h9, h10, h11, h13, h14, h15, h16, h17, h18⟩ := hj.s
    have hfs := hfr s hs.1 hs.2
    unfold SK
    rw [hI 200 23 (by omega), (funext fun i => hI 224 i (by omega) : gI B 224 = gI W 224), (funext fun i => hI 225 i (by omega) : gI B 225 = gI W 225), (funext fun i => hI 226 i (by omega) : gI B 226 = gI W 226), (funext fun i => hI 227 i (by omega) : gI B 227 = gI W 227), (funext fun i => hI 228 i (by omega) : gI B 228 = gI W 228), (funext fun i => hI 229 i (by omega) : gI B 229 = gI W 229), (funext fun i => hI 230 i (by omega) : gI B 230 = gI W 230), (funext fun i => hI 231 i (by omega) : gI B 231 = gI W 231), (funext fun i => hI 222 i (by omega) : gI B 222 = gI W 222)]
    refine ⟨(hI _ _ (by omega)).trans h1, fun s s0 s1 => SS1_ag (fun c c0 c1 => hS c) (fun i hi => hP _ _) (hI _ _ (by omega)) (h2 s s0 s1), fun s s0 s1 => (hP _ _).trans (h3 s s0 s1), fun s s0 s1 => (hI _ _ (by omega)).trans (h4 s s0 s1), fun s s0 s1 => (hI _ _ (by omega)).trans (h5 s s0 s1), fun s s0 s1 l f l0 l1 f0 f1 => (hI _ _ (by omega)).trans (h6 s s0 s1 l f l0 l1 f0 f1), fun s s0 s1 f f0 f1 => (hI _ _ (by omega)).trans (h7 s s0 s1 f f0 f1), fun s s0 s1 l l0 l1 => (hI _ _ (by omega)).trans (h8 s s0 s1 l l0 l1), fun s s0 s1 l l0 l1 => (hP _ _).trans (h9 s s0 s1 l l0 l1), fun s s0 s1 l l0 l1 => (hI _ _ (by omega)).trans (h10 s s0 s1 l l0 l1), fun s s0 s1 => (hP _ _).trans (h11 s s0 s1), fun s s0 s1 j j0 j1 => (hS _).trans (h13 s s0 s1 j j0 j1), fun k hk => ?_, h15, fun k => ?_, fun k k0 k1 => (hI _ _ (by omega)).trans (h17 k k0 k1), fun k k0 k1 => (hI _ _ (by omega)).trans (h18 k k0 k1)⟩
    · rw [k1, if_neg (by omega)]; exact hz k (by omega)
    · rw [k1]
      by_cases e : 24 * s ≤ k ∧ k < 24 * s + gI A 224 s
      · rw [if_pos e]; exact Or.inr rfl
      · rw [if_neg e]; exact hb k
  have hst : ST B := by
    unfold ST
    rw [hI 200 23 (by omega), h23, (funext fun i => hI 224 i (by omega) : gI B 224 = gI W 224), h24]
    intro s' s0 s1 f p f0 f1 p0 p1
    have hfs := hfr s' s0 s1
    have hfs2 := hfr s hs.1 hs.2
    rw [hI _ _ (by omega), k1]
    by_cases e : s' = s
    · rw [e] at f1 ⊢
      rw [if_pos (show 24 * s ≤ 24 * s + f ∧ 24 * s + f < 24 * s + gI A 224 s by omega), if_neg (by omega)]
      exact k3 f p f0 f1 p0 p1
    · have h9 := k2 s' f p f0 f1 p0 p1 s0 s1 e
      rw [if_neg (show ¬ (24 * s ≤ 24 * s' + f ∧ 24 * s' + f < 24 * s + gI A 224 s) by omega), h9.1, h9.2]
      exact hst0 s' s0 s1 f p f0 f1 p0 p1
  exact ⟨⟨⟨MS_ag (fun c _ _ => hS c) (fun c i c0 c1 => hP c i) hj.m.M, mo_rg_ag (fun c i hc => hI c i (by omega)) hj.m.g, mo_pg_ag (fun c i hc => hI c i (by omega)) hj.m.p, mo_hg_ag (fun c i hc => hI c i (by omega)) hj.m.h, mz_ag (fun c i hc => hI c i (by omega)) hj.m.z, dC_ag (fun c i hc => hI c i (by omega)) hj.m.C, fun q => by rw [hI 222 q (by omega)]; exact hj.m.co q, fun q => by rw [hI 208 q (by omega)]; exact hj.m.gd q, fun q => by rw [hI 228 q (by omega)]; exact hj.m.sp q, by rw [hI 200 1 (by omega), hI 200 2 (by omega)]; exact hj.m.px, by rw [hI 200 40 (by omega)]; exact hj.m.nh, fun q q0 q1 => by rw [hI 200 40 (by omega)] at q1; rw [hI 241 q (by omega)]; exact hj.m.hs q q0 q1, by rw [hI 200 43 (by omega)]; exact hj.m.nf, fun q q0 q1 => by rw [hI 200 43 (by omega)] at q1; rw [hI 244 q (by omega), hI 200 23 (by omega)]; exact hj.m.rl q q0 q1, by rw [hI 200 3 (by omega)]; exact hj.m.cr⟩, CX_ag (fun c _ _ => hS c) (fun c i hc => hP c i) (fun c i hc => hI c i (by omega)) hj.x, HJ_ag hj (fun c _ _ => hS c) (fun c i c0 c1 => hP c i) (fun c i hc => hI c i (by omega)), hsk, PK_ag hnp (fun c _ _ => hS c) (fun c i hc => hP c i) (fun c i hc => hI c i (by omega)) hj.p, XK_ag (fun c _ => hS c) (fun c i hc => hI c i (by omega)) hj.y, FW_ag (fun c i hc => hI c i (by omega)) hj.w⟩, hst, ((hS 50).trans ws).trans hss, (funext fun i => hI 50 i (by omega) : gI B 50 = gI W 50).trans (wx.trans hx)⟩
end STPE
