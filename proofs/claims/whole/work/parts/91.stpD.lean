/-! STEPS, 4: a new drawing -/
section STPD
variable {G : mj_G} {A : mj_M}
theorem hgs_cg {a b a' b' : Int → Int} {o N : Int} (hp : hgp a b N) (e : ∀ k, 0 ≤ k → k < N → a' k = a k ∧ b' k = b k) : ∀ (n : Nat) (k : Int), 0 ≤ k → k < N → hgs a' b' o n k = hgs a b o n k
  | 0, _, _, _ => rfl
  | n + 1, k, h0, h1 => by
    rw [hgs, hgs, (e k h0 h1).1, (e k h0 h1).2]
    by_cases ea : a k = -1
    · simp [ea]
    · have h2 := hp k h0 h1 ea
      rw [hgs_cg hp e n (a k) h2.1.1 (by omega), hgs_cg hp e n (b k) h2.2.1 (by omega)]
theorem cr_0 {c : cT} (n : c_n c = 0) (p : c_p c = 0) (h : c_c c = 0) : cr c :=
  ⟨by omega, fun i h0 h1 => by omega, fun i j i0 i1 j0 j1 e => by omega, fun i h0 h1 => by omega, fun i h0 h1 => by omega, by omega, fun i h0 h1 => by omega, fun i h0 h1 => by omega, Or.inl h⟩
theorem jt_new {X : Int → Int} {C : Int → cT} {A2 : mj_M} {a b nn m : Int} (h : JT X C A) (hn : (gI A 200 3) < 16)
    (hS : ∀ c, ¬ ((1000 + 100 * gI A 200 3) ≤ c ∧ c ≤ (1000 + 100 * gI A 200 3) + 15) → gS A2 c = gS A c)
    (hP : ∀ c i, ¬ ((1000 + 100 * gI A 200 3) ≤ c ∧ c ≤ (1000 + 100 * gI A 200 3) + 15) → ¬ (c = 101 ∧ i = (gI A 200 3)) → gP A2 c i = gP A c i)
    (hI : ∀ c i, ¬ ((1000 + 100 * gI A 200 3) ≤ c ∧ c ≤ (1000 + 100 * gI A 200 3) + 15) → ¬ (c = 100 ∧ i = 1) → ¬ (c = 200 ∧ (i = 0 ∨ i = 3 ∨ i = 17)) → ¬ (c = 140 ∧ i = 0) → ¬ (204 ≤ c ∧ c ≤ 207 ∧ i = (gI A 200 3)) → gI A2 c i = gI A c i)
    (hD : DS1 A2 (gI A 200 3)) (t1 : gP A2 101 (gI A 200 3) = some (1000 + 100 * gI A 200 3)) (t2 : gP A2 (1000 + 100 * gI A 200 3) 0 = pd a ∧ gP A2 (1000 + 100 * gI A 200 3) 1 = pd b) (t3 : gI A2 100 1 = (gI A 200 3) + 1) (t4 : gI A2 200 3 = (gI A 200 3) + 1) (t5 : gI A2 200 17 = 1)
    (t6 : gI A2 204 (gI A 200 3) = a ∧ gI A2 205 (gI A 200 3) = b ∧ gI A2 206 (gI A 200 3) = nn ∧ gI A2 207 (gI A 200 3) = m)
    (t7 : gI A2 (1000 + 100 * gI A 200 3) 2 = nn ∧ gI A2 (1000 + 100 * gI A 200 3) 3 = m ∧ gI A2 (1000 + 100 * gI A 200 3) 11 = 0 ∧ gI A2 (1000 + 100 * gI A 200 3) 13 = 0)
    (t8 : (a = -1 ∧ b = -1 ∧ gI A2 (1000 + 100 * gI A 200 3) 4 = 0 ∧ gI A2 (1000 + 100 * gI A 200 3) 6 = 0 ∧ gI A2 (1000 + 100 * gI A 200 3) 9 = 0 ∧ gI A2 (1000 + 100 * gI A 200 3) 10 = 0) ∨ ((0 ≤ a ∧ a < (gI A 200 3)) ∧ (0 ≤ b ∧ b < (gI A 200 3)) ∧ (0 ≤ nn ∧ nn ≤ m) ∧ (1 ≤ m ∧ m ≤ 24) ∧ gI A2 (1000 + 100 * gI A 200 3) 4 = bo_m A a b ∧ cb nn m (ch_c A a) (ch_c A b) (ch_c A2 (gI A 200 3)))) : JT X (fun d => if d = (gI A 200 3) then ch_c A2 (gI A 200 3) else C d) A2 := by
  have hj := h.j
  have hnd := hj.m.g.nd
  have hns := hj.m.g.ns
  have hnp := hj.m.p.np
  have hxn := hj.x.n
  have hw0 := hj.w (gI A 200 3) (by omega) hn
  have eI : ∀ c i, ((208 ≤ c) ∨ (201 ≤ c ∧ c ≤ 203) ∨ (c = 200 ∧ i ≠ 0 ∧ i ≠ 3 ∧ i ≠ 17) ∨ (204 ≤ c ∧ c ≤ 207 ∧ i ≠ (gI A 200 3))) → c < 1000 → gI A2 c i = gI A c i := fun c i h1 h2 => hI c i (by omega) (by omega) (by omega) (by omega) (by omega)
  have hce : ∀ d, 0 ≤ d → d < (gI A 200 3) → ce (ch_c A d) (ch_c A2 d) := fun d d0 d1 => ch_cg hj.D ⟨d0, d1⟩ (hj.cr d d0 d1) (fun i => hP _ _ (by omega) (by omega)) (fun c i hc => hI c i (by omega) (by omega) (by omega) (by omega) (by omega))
  have hmc : ∀ d, mo_c A2 d = mo_c A d := mo_c_ag (A := A) (fun c i hc => eI c i (by omega) (by omega))
  have hif : ∀ d, d < (gI A 200 3) → (fun d => if d = (gI A 200 3) then ch_c A2 (gI A 200 3) else C d) d = C d := fun d hd => if_neg (by omega)
  have hif2 : (fun d => if d = (gI A 200 3) then ch_c A2 (gI A 200 3) else C d) (gI A 200 3) = ch_c A2 (gI A 200 3) := if_pos rfl
  have hcrn : cr (ch_c A2 (gI A 200 3)) := by
    rcases t8 with ⟨_, _, _, q6, q9, q10⟩ | ⟨qa, qb, qn, qm, _, qc⟩
    · exact cr_0 q6 q9 q10
    · exact cb_r qc (hj.cr a qa.1 qa.2) (hj.cr b qb.1 qb.2) qn qm.1
  have hpar : ∀ d, 0 ≤ d → d < (gI A 200 3) + 1 → gI A2 204 d ≠ -1 → mo_bt A2 d := fun d d0 d1 d2 => by
    by_cases e : d = (gI A 200 3)
    · rw [e, t6.1] at d2
      rcases t8 with ⟨qa, _⟩ | ⟨qa, qb, qn, qm, _, _⟩
      · exact absurd qa d2
      · rw [e]
        unfold mo_bt
        rw [t6.1, t6.2.1, t6.2.2.1, t6.2.2.2]
        exact ⟨qa, qb, qn, qm⟩
    · rw [eI 204 d (by omega) (by omega)] at d2
      exact mo_bt_ag (A := A) (fun c c0 c1 => eI c d (by omega) (by omega)) (hj.x.f d d0 (by omega) d2)
  have hhp2 : hgp (gI A2 204) (gI A2 205) ((gI A 200 3) + 1) := fun k k0 k1 k2 => ⟨(hpar k k0 k1 k2).a, (hpar k k0 k1 k2).b⟩
  have hhp : hgp (gI A 204) (gI A 205) (gI A 200 3) := by
    have h1 := hj.x.hp
    rw [hxn] at h1
    exact h1
  have hon : ∀ d o, 0 ≤ d → d < (gI A 200 3) → hgs (gI A2 204) (gI A2 205) o 17 d = mo_on A d o := fun d o d0 d1 => hgs_cg hhp (fun k k0 k1 => ⟨eI 204 k (by omega) (by omega), eI 205 k (by omega) (by omega)⟩) 17 d d0 d1
  have hg2 : mo_rg A2 := by
    obtain ⟨g1, g2, g3, g4, g5, g6, g7, g8⟩ := hj.m.g
    unfold mo_rg
    rw [t4, eI 200 23 (by omega) (by omega), (funext fun i => eI 224 i (by omega) (by omega) : gI A2 224 = gI A 224), (funext fun i => eI 225 i (by omega) (by omega) : gI A2 225 = gI A 225), (funext fun i => eI 226 i (by omega) (by omega) : gI A2 226 = gI A 226), (funext fun i => eI 227 i (by omega) (by omega) : gI A2 227 = gI A 227), (funext fun i => eI 231 i (by omega) (by omega) : gI A2 231 = gI A 231)]
    refine ⟨by omega, g2, g3, g4, g5, fun q q0 q1 q2 => ?_, g7, fun q q0 q1 => ?_⟩
    · have := g6 q q0 q1 q2
      omega
    · have := g8 q q0 q1
      omega
  have hdc : dC (fun d => if d = (gI A 200 3) then ch_c A2 (gI A 200 3) else C d) A2 := by
    refine ⟨fun d d0 d1 d2 => ?_, fun d d0 d1 d2 => ?_, fun ho => by rw [t5] at ho; omega⟩
    · rw [t4] at d1
      by_cases e : d = (gI A 200 3)
      · rw [e, t6.1] at d2
        rw [e, hif2, hmc]
        rcases t8 with ⟨_, _, _, q6, q9, q10⟩ | ⟨qa, _⟩
        · exact ce_mk (q6.trans hw0.1.symm) (fun i i0 i1 => by rw [show c_n (ch_c A2 (gI A 200 3)) = 0 from q6] at i1; omega) (fun i i0 i1 => by rw [show c_n (ch_c A2 (gI A 200 3)) = 0 from q6] at i1; omega) (fun i i0 i1 => by rw [show c_n (ch_c A2 (gI A 200 3)) = 0 from q6] at i1; omega) (q9.trans hw0.2.1.symm) (fun i i0 i1 => by rw [show c_p (ch_c A2 (gI A 200 3)) = 0 from q9] at i1; omega) (fun i i0 i1 => by rw [show c_p (ch_c A2 (gI A 200 3)) = 0 from q9] at i1; omega) (q10.trans hw0.2.2.1.symm)
        · omega
      · rw [hif d (by omega), hmc]
        rw [eI 204 d (by omega) (by omega)] at d2
        exact hj.m.C.k d d0 (by omega) d2
    · rw [t4] at d1
      refine ⟨hpar d d0 d1 d2, ?_⟩
      by_cases e : d = (gI A 200 3)
      · rw [e, t6.1] at d2
        rw [e, t6.1, t6.2.1, t6.2.2.1, t6.2.2.2]
        rcases t8 with ⟨qa, _⟩ | ⟨qa, qb, qn, qm, _, qc⟩
        · exact absurd qa d2
        · rw [hif a qa.2, hif b qb.2, hif2]
          exact cb_e qc (ce_sy (hj.h.e a qa.1 qa.2)) (ce_sy (hj.h.e b qb.1 qb.2)) ce_rf
      · rw [eI 204 d (by omega) (by omega)] at d2
        have h9 := hj.m.C.b d d0 (by omega) d2
        have ha := h9.1.a
        have hb := h9.1.b
        rw [eI 204 d (by omega) (by omega), eI 205 d (by omega) (by omega), eI 206 d (by omega) (by omega), eI 207 d (by omega) (by omega), hif d (by omega), hif _ (by omega), hif _ (by omega)]
        exact h9.2
  have hcx : CX A2 := by
    refine ⟨HS_ag (A := A) (fun c h0 h1 => hS c (by omega)) (fun c i h0 h1 h2 => hP c i (by omega) (by omega)) hj.x.H, ?_, by rw [t3]; omega, by rw [t3, t4], ?_, ?_, ?_, ?_, ?_, ?_⟩
    · rw [t3]
      intro d d0 d1
      by_cases e : d = (gI A 200 3)
      · rw [e]; exact hD
      · exact DS1_ag (A := A) (fun c c0 c1 => hS c (by omega)) (fun c i c0 c1 => hP c i (by omega) (by omega)) (hj.D d d0 (by omega))
    · rw [t3]
      intro d d0 d1
      by_cases e : d = (gI A 200 3)
      · rw [e]; exact t1
      · rw [hP _ _ (by omega) (by omega)]; exact hj.x.r d d0 (by omega)
    · rw [t3]
      intro d d0 d1
      by_cases e : d = (gI A 200 3)
      · rw [e, t6.1]; exact t2.1
      · rw [hP _ _ (by omega) (by omega), eI 204 d (by omega) (by omega)]; exact hj.x.a d d0 (by omega)
    · rw [t3]
      intro d d0 d1
      by_cases e : d = (gI A 200 3)
      · rw [e, t6.2.1]; exact t2.2
      · rw [hP _ _ (by omega) (by omega), eI 205 d (by omega) (by omega)]; exact hj.x.b d d0 (by omega)
    · rw [t3]
      intro d d0 d1
      by_cases e : d = (gI A 200 3)
      · rw [e, t6.2.2.1, t6.2.2.2]; exact ⟨t7.1, t7.2.1⟩
      · rw [hI (1000 + 100 * d) 2 (by omega) (by omega) (by omega) (by omega) (by omega), hI (1000 + 100 * d) 3 (by omega) (by omega) (by omega) (by omega) (by omega), eI 206 d (by omega) (by omega), eI 207 d (by omega) (by omega)]; exact hj.x.p d d0 (by omega)
    · rw [t3]
      intro d d0 d1
      by_cases e : d = (gI A 200 3)
      · rw [e]
        rcases t8 with ⟨qa, qb, q4, _⟩ | ⟨qa, qb, _, _, q4, _⟩
        · refine ⟨by rw [q4]; omega, fun o o0 o1 => ?_⟩
          have h1 := hgs_1 hhp2 (by omega) (by omega) (by omega) (o := o) (k := (gI A 200 3))
          rw [q4]
          constructor
          · intro hb; exact absurd hb bt_0
          · intro ⟨g1, g2⟩
            exfalso
            rcases h1.mp g2 with g3 | g3
            · exact g1 g3
            · exact g3.1 (t6.1.trans qa)
        · have hbo := bo_r hj.x (a := a) (b := b) (by omega) (by omega)
          rw [q4]
          refine ⟨⟨hbo.2.2.1, hbo.2.2.2⟩, fun o o0 o1 => ?_⟩
          have h1 := hgs_1 hhp2 (by omega) (by omega) (by omega) (o := o) (k := (gI A 200 3))
          rw [t6.1, t6.2.1, hon a o qa.1 qa.2, hon b o qb.1 qb.2] at h1
          have hxa := hj.x.h a qa.1 (by omega)
          have hxb := hj.x.h b qb.1 (by omega)
          have pa := p2_i (k := a) (by omega)
          have pb := p2_i (k := b) (by omega)
          have b1 : bt (bo_m A a b) o ↔ ((o = a ∨ o = b) ∨ bt (gI A (1000 + 100 * a) 4) o) ∨ bt (gI A (1000 + 100 * b) 4) o := by
            unfold bo_m
            rw [bt_or hbo.2.1.1 hxb.1.1, bt_or hbo.1.1 hxa.1.1, bt_or (by omega) (by omega), bt_pow o0 qa.1, bt_pow o0 qb.1]
          have ra := hgs_1 hhp (by omega) qa.1 qa.2 (o := a) (k := a)
          have rb := hgs_1 hhp (by omega) qb.1 qb.2 (o := b) (k := b)
          have la := fun hq => hgs_le hhp 17 a qa.1 qa.2 (o := o) hq
          have lb := fun hq => hgs_le hhp 17 b qb.1 qb.2 (o := o) hq
          have key : bt (bo_m A a b) o ↔ (mo_on A a o = true ∨ mo_on A b o = true) := by
            rw [b1, hxa.2 o o0 o1, hxb.2 o o0 o1]
            constructor
            · intro hq
              rcases hq with (((hq | hq) | hq) | hq)
              · rw [hq]; exact Or.inl (ra.mpr (Or.inl rfl))
              · rw [hq]; exact Or.inr (rb.mpr (Or.inl rfl))
              · exact Or.inl hq.2
              · exact Or.inr hq.2
            · intro hq
              rcases hq with hq | hq
              · by_cases eo : a = o
                · exact Or.inl (Or.inl (Or.inl eo.symm))
                · exact Or.inl (Or.inr ⟨eo, hq⟩)
              · by_cases eo : b = o
                · exact Or.inl (Or.inl (Or.inr eo.symm))
                · exact Or.inr ⟨eo, hq⟩
          rw [key]
          constructor
          · intro hq
            have ho : o < (gI A 200 3) := by
              rcases hq with hq | hq
              · have := la hq; omega
              · have := lb hq; omega
            exact ⟨by omega, h1.mpr (Or.inr ⟨by omega, hq⟩)⟩
          · intro ⟨g1, g2⟩
            rcases h1.mp g2 with g3 | g3
            · exact absurd g3 g1
            · exact g3.2
      · have h9 := hj.x.h d d0 (by omega)
        rw [hI _ 4 (by omega) (by omega) (by omega) (by omega) (by omega)]
        refine ⟨h9.1, fun o o0 o1 => ?_⟩
        show _ ↔ d ≠ o ∧ hgs (gI A2 204) (gI A2 205) o 17 d = true
        rw [hon d o d0 (by omega)]
        exact h9.2 o o0 o1
    · rw [t3]
      exact hpar
  refine ⟨⟨⟨MS_ag (A := A) (fun c c0 c1 => hS c (by omega)) (fun c i c0 c1 => hP c i (by omega) (by omega)) hj.m.M, hg2, mo_pg_ag (A := A) (fun c i hc => eI c i (by omega) (by omega)) hj.m.p, mo_hg_ag (A := A) (fun c i hc => eI c i (by omega) (by omega)) hj.m.h, ⟨mo_st2_ag (A := A) (fun c i hc => eI c i (by omega) (by omega)) hj.m.z.st, mo_pt_ag (A := A) (fun c i hc => eI c i (by omega) (by omega)) hj.m.z.pt, fun q hq => (eI 221 q (by omega) (by omega)).trans (hj.m.z.z q hq), fun q => by rw [eI 218 q (by omega) (by omega)]; exact hj.m.z.pi q, Or.inr t5⟩, hdc, fun q => by rw [eI 222 q (by omega) (by omega)]; exact hj.m.co q, fun q => by rw [eI 208 q (by omega) (by omega)]; exact hj.m.gd q, fun q => by rw [eI 228 q (by omega) (by omega)]; exact hj.m.sp q, by rw [eI 200 1 (by omega) (by omega), eI 200 2 (by omega) (by omega)]; exact hj.m.px, by rw [eI 200 40 (by omega) (by omega)]; exact hj.m.nh, fun q q0 q1 => by rw [eI 200 40 (by omega) (by omega)] at q1; rw [eI 241 q (by omega) (by omega)]; exact hj.m.hs q q0 q1, by rw [eI 200 43 (by omega) (by omega)]; exact hj.m.nf, fun q q0 q1 => by rw [eI 200 43 (by omega) (by omega)] at q1; rw [eI 244 q (by omega) (by omega), eI 200 23 (by omega) (by omega)]; exact hj.m.rl q q0 q1, ?_⟩, hcx, ⟨?_, ?_, fun p hp => ?_, ?_, ?_, ?_⟩, SK_ag (A := A) hns (fun c c0 c1 => hS c (by omega)) (fun c i hc => hP c i (by omega) (by omega)) (fun c i hc => hI c i (by omega) (by omega) (by omega) (by omega) (by omega)) hj.s, PK_ag (A := A) hnp (fun c c0 c1 => hS c (by omega)) (fun c i hc => hP c i (by omega) (by omega)) (fun c i hc => hI c i (by omega) (by omega) (by omega) (by omega) (by omega)) hj.p, XK_ag (A := A) (fun c hc => hS c (by omega)) (fun c i hc => hI c i (by omega) (by omega) (by omega) (by omega) (by omega)) hj.y, fun q q0 q1 => ?_⟩, ST_ag (A := A) hns (fun c i hc => hI c i (by omega) (by omega) (by omega) (by omega) (by omega)) h.t, (hS 50 (by omega)).trans h.s, (funext fun i => hI 50 i (by omega) (by omega) (by omega) (by omega) (by omega)).trans h.x⟩
  · rw [t4]
    intro d d0 d1
    by_cases e : d = (gI A 200 3)
    · rw [e, hif2]; exact hcrn
    · rw [hif d (by omega)]; exact hj.m.cr d d0 (by omega)
  · rw [t4]
    intro d d0 d1
    by_cases e : d = (gI A 200 3)
    · rw [e, hif2]; exact ce_rf
    · rw [hif d (by omega)]; exact ce_tr (hj.h.e d d0 (by omega)) (hce d d0 (by omega))
  · rw [t4]
    intro d d0 d1
    by_cases e : d = (gI A 200 3)
    · rw [e]; exact Or.inl t7.2.2.2
    · rw [hI _ 13 (by omega) (by omega) (by omega) (by omega) (by omega)]
      rcases hj.h.v d d0 (by omega) with h9 | ⟨h9, h8⟩
      · exact Or.inl h9
      · exact Or.inr ⟨h9, pv_e (hce d d0 (by omega)) (fun c i h0 h1 => hI _ _ (by omega) (by omega) (by omega) (by omega) (by omega)) h8⟩
  · rw [hI 124 p (by omega) (by omega) (by omega) (by omega) (by omega)]
    exact hj.h.z p hp
  · rw [t4]
    intro d d0 d1
    by_cases e : d = (gI A 200 3)
    · rw [e, t7.2.2.1, eI 208 _ (by omega) (by omega)]; exact hw0.2.2.2.symm
    · rw [hI _ 11 (by omega) (by omega) (by omega) (by omega) (by omega), eI 208 d (by omega) (by omega)]
      exact hj.h.ap d d0 (by omega)
  · rw [t4]
    exact fun d d0 d1 j j0 j1 => (hS _ (by omega)).trans (hj.h.f d (by omega) d1 j j0 j1)
  · rw [hI 100 2 (by omega) (by omega) (by omega) (by omega) (by omega), hI 100 3 (by omega) (by omega) (by omega) (by omega) (by omega), eI 200 1 (by omega) (by omega), eI 200 2 (by omega) (by omega)]
    exact hj.h.pn
  · rw [t4] at q0
    rw [eI 209 q (by omega) (by omega), eI 213 q (by omega) (by omega), eI 216 q (by omega) (by omega), eI 208 q (by omega) (by omega)]
    exact hj.w q (by omega) q1
end STPD
