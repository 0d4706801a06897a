/-! THE LAW, 6: steps that make, move, hang, shoot -/
section STPI
variable {G : mj_G} {A : mj_M}
theorem tl_I {p f x y c i : Int} : gI (tl_m A p f x y) c i = if c = 6000 + 100 * p + 3 ∧ i = f then y else if c = 6000 + 100 * p + 2 ∧ i = f then x else if gI A (6000 + 100 * p + 1) f = 0 ∧ c = 6000 + 100 * p ∧ i = 4 then gI A (6000 + 100 * p) 4 + 1 else if gI A (6000 + 100 * p + 1) f = 0 ∧ c = 6000 + 100 * p + 1 ∧ i = f then 1 else gI A c i := by
  unfold tl_m
  by_cases e : gI A (6000 + 100 * p + 1) f = 0
  · rw [if_pos e]
    simp only [gI_sI, e, true_and]
  · rw [if_neg e]
    simp only [gI_sI, e, false_and, if_false]
theorem tl_P {p f x y c i : Int} : gP (tl_m A p f x y) c i = gP A c i := by
  unfold tl_m
  by_cases e : gI A (6000 + 100 * p + 1) f = 0
  · rw [if_pos e]; rfl
  · rw [if_neg e]; rfl
theorem js_move {X : Int → Int} {C : Int → cT} {p f x y : Int} (h : JT X C A) (rp : r32 p) (rf : r32 f) (rx : r32 x) (ry : r32 y) : mj_Cal G n_L_move [mR (some 100), mI p, mI f, mI x, mI y, mR (some 140)] A (fun r A1 => ∃ kk, r = some (mI kk) ∧ (0 ≤ kk ∧ kk ≤ 3) ∧ (gS A1 50 = some (.inl 99) ∧ gI A1 50 = X ∧ gS A1 200 = some (.inl 7)) ∧ mj_Cal G n_M_move [mR (some 200), mI p, mI f, mI x, mI y] A1 (fun b A2 => ∃ v, b = some (mI v) ∧ gI A2 200 0 = kk ∧ (kk = 0 → gI A2 140 0 = nrm v) ∧ JE X A2) mj_no) mj_no := by
  refine (lx_move h rp rf rx ry).mono (fun r A1 hp => ?_) (fun _ _ h => h)
  have hj := h.j
  have hnd := hj.m.g.nd
  have hns := hj.m.g.ns
  have hnp := hj.m.p.np
  rcases hp with ⟨hc, rfl, W, hw, hA1⟩ | ⟨hn, rfl, hA1⟩
  · have eG : ∀ c, (c = 50 ∨ (200 ≤ c ∧ c ≤ 245)) → gI A1 c = gI A c := fun c c0 => funext fun i => by rw [hA1, hw]; simp only [gI_sI, tl_I]; ((try simp only [true_and, and_true, if_true, and_self]); (repeat (first | rw [if_neg (by omega)] | rw [if_pos (by omega)])))
    have e : ∀ c, 200 ≤ c → c ≤ 245 → gI A1 c = gI A c := fun c c0 c1 => eG c (Or.inr ⟨c0, c1⟩)
    have hSG : ∀ c, (c = 50 ∨ (200 ≤ c ∧ c ≤ 245)) → gS A1 c = gS A c := fun c c0 => by rw [hA1, hw]; show gS (tl_m A p f x y) c = _; exact tl_S c
    have hSm : ∀ c, 200 ≤ c → c ≤ 245 → gS A1 c = gS A c := fun c c0 c1 => hSG c (Or.inr ⟨c0, c1⟩)
    have hPm : ∀ c i, 200 ≤ c → c ≤ 245 → gP A1 c i = gP A c i := fun c i c0 c1 => by rw [hA1, hw]; show gP (tl_m A p f x y) c i = _; exact tl_P
    have hm1 : MI C A1 := MI_ag (A := A) hSm hPm (fun c i c0 c1 => congrFun (e c c0 c1) i) hj.m
    refine ⟨0, rfl, by omega, ⟨(hSG 50 (Or.inl rfl)).trans h.s, (eG 50 (Or.inl rfl)).trans h.x, hm1.M.o⟩, (cm_move (A := A1) hm1.M hm1.p rp rf rx ry).mono (fun b9 A2 hq => ?_) (fun _ _ h => h)⟩
    try simp only [e 200 (by omega) (by omega), e 204 (by omega) (by omega), e 205 (by omega) (by omega), e 206 (by omega) (by omega), e 207 (by omega) (by omega), e 208 (by omega) (by omega), e 209 (by omega) (by omega), e 210 (by omega) (by omega), e 211 (by omega) (by omega), e 212 (by omega) (by omega), e 213 (by omega) (by omega), e 214 (by omega) (by omega), e 215 (by omega) (by omega), e 216 (by omega) (by omega), e 222 (by omega) (by omega), e 224 (by omega) (by omega), e 225 (by omega) (by omega), e 226 (by omega) (by omega), e 227 (by omega) (by omega), e 228 (by omega) (by omega), e 229 (by omega) (by omega), e 230 (by omega) (by omega), e 231 (by omega) (by omega), e 233 (by omega) (by omega), e 234 (by omega) (by omega), e 235 (by omega) (by omega), e 236 (by omega) (by omega), e 237 (by omega) (by omega), e 238 (by omega) (by omega), e 239 (by omega) (by omega), e 241 (by omega) (by omega), e 244 (by omega) (by omega)] at hq
    obtain ⟨_, hb, hA2⟩ | ⟨hn, _⟩ := hq
    rotate_left
    · exact absurd hc hn
    have hmv := hj.p.mv hc.1 (f := f) ⟨hc.2.1.1, by omega⟩ (hj.m.p.tn p hc.1.1 hc.1.2).1
    have htn := hj.m.p.tn p hc.1.1 hc.1.2
    have hn4 := hj.p.n p hc.1.1 hc.1.2
    have hmk := mv_k_r (t := gI A 235) (p := p) (f := f) (gI A 234 p).toNat
    have hfr : 0 ≤ f ∧ f ≤ 23 := ⟨hc.2.1.1, hc.2.1.2.1⟩
    have hxr : -20 ≤ x ∧ x ≤ 20 := ⟨hc.2.1.2.2.1, hc.2.1.2.2.2.1⟩
    have hyr : -20 ≤ y ∧ y ≤ 20 := ⟨hc.2.1.2.2.2.2.1, hc.2.1.2.2.2.2.2⟩
    by_cases eM : mv_k (gI A 235) p f (gI A 234 p).toNat = -1
    · have e0 := hmv.mpr eM
      rw [if_pos eM] at hA2
      have hne : ∀ j, 0 ≤ j → j < gI A 234 p → gI A 235 (6 * p + j) ≠ f := fun j j0 j1 => by
        rcases hmk with hmk | hmk
        · exact hmk.2 j j0 (by omega)
        · omega
      have h6 : gI A 234 p < 6 := by
        rcases hc.2.2.2 with h9 | h9
        · exact absurd eM h9
        · exact h9
      have h2 : JT X C A2 := jt_move (pq := p) (pf := f) (x := x) (y := y) (k := gI A 234 p) (n := gI A 234 p + 1) h hc.1 hfr hxr hyr (Or.inl ⟨rfl, rfl, h6, hne⟩) (fun c => by rw [hA2, hA1, hw]; show gS (tl_m A p f x y) c = _; exact tl_S c) (fun c i => by rw [hA2, hA1, hw]; show gP (tl_m A p f x y) c i = _; exact tl_P) (fun c i hc => by rw [hA2, hA1, hw]; unfold mo_m; simp only [gI_sI, tl_I]; ((try simp only [true_and, and_true, if_true, and_self]); (repeat (first | rw [if_neg (by omega)] | rw [if_pos (by omega)])))) (by rw [hA2, hA1, hw]; unfold mo_m; simp only [gI_sI, tl_I, e0]; ((try simp only [true_and, and_true, if_true, and_self]); (repeat (first | rw [if_neg (by omega)] | rw [if_pos (by omega)]))); rw [hn4]) (by rw [hA2, hA1, hw]; unfold mo_m; simp only [gI_sI, tl_I, e0]; ((try simp only [true_and, and_true, if_true, and_self]); (repeat (first | rw [if_neg (by omega)] | rw [if_pos (by omega)])))) (by rw [hA2, hA1, hw]; unfold mo_m; simp only [gI_sI, tl_I]; ((try simp only [true_and, and_true, if_true, and_self]); (repeat (first | rw [if_neg (by omega)] | rw [if_pos (by omega)])))) (by rw [hA2, hA1, hw]; unfold mo_m; simp only [gI_sI, tl_I]; ((try simp only [true_and, and_true, if_true, and_self]); (repeat (first | rw [if_neg (by omega)] | rw [if_pos (by omega)])))) (by rw [hA2]; unfold mo_m; simp only [gI_sI]; ((try simp only [true_and, and_true, if_true, and_self]); (repeat (first | rw [if_neg (by omega)] | rw [if_pos (by omega)])))) (by rw [hA2]; unfold mo_m; simp only [gI_sI]; ((try simp only [true_and, and_true, if_true, and_self]); (repeat (first | rw [if_neg (by omega)] | rw [if_pos (by omega)])))) (by rw [hA2]; unfold mo_m; simp only [gI_sI]; ((try simp only [true_and, and_true, if_true, and_self]); (repeat (first | rw [if_neg (by omega)] | rw [if_pos (by omega)])))) (by rw [hA2]; unfold mo_m; simp only [gI_sI]; ((try simp only [true_and, and_true, if_true, and_self]); (repeat (first | rw [if_neg (by omega)] | rw [if_pos (by omega)]))))
      exact ⟨_, hb, by rw [hA2]; unfold mo_m; simp only [gI_sI]; ((try simp only [true_and, and_true, if_true, and_self]); (repeat (first | rw [if_neg (by omega)] | rw [if_pos (by omega)]))), fun _ => by rw [hA2, hA1]; unfold mo_m; simp only [gI_sI]; ((try simp only [true_and, and_true, if_true, and_self]); (repeat (first | rw [if_neg (by omega)] | rw [if_pos (by omega)]))), C, h2⟩
    · have e0 : ¬ gI A (6000 + 100 * p + 1) f = 0 := fun z => eM (hmv.mp z)
      have e1 : gI A (6000 + 100 * p + 1) f = 1 := by
        rcases hj.p.b p hc.1.1 hc.1.2 f hfr.1 (by omega) with h9 | h9
        · exact absurd h9 e0
        · exact h9.1
      rw [if_neg eM] at hA2
      have hk : (0 ≤ mv_k (gI A 235) p f (gI A 234 p).toNat ∧ mv_k (gI A 235) p f (gI A 234 p).toNat < gI A 234 p) ∧ gI A 234 p = gI A 234 p ∧ gI A 235 (6 * p + mv_k (gI A 235) p f (gI A 234 p).toNat) = f := by
        rcases hmk with hmk | hmk
        · exact absurd hmk.1 eM
        · exact ⟨⟨hmk.1.1, by omega⟩, rfl, hmk.2⟩
      have h2 : JT X C A2 := jt_move (pq := p) (pf := f) (x := x) (y := y) (k := mv_k (gI A 235) p f (gI A 234 p).toNat) (n := gI A 234 p) h hc.1 hfr hxr hyr (Or.inr hk) (fun c => by rw [hA2, hA1, hw]; show gS (tl_m A p f x y) c = _; exact tl_S c) (fun c i => by rw [hA2, hA1, hw]; show gP (tl_m A p f x y) c i = _; exact tl_P) (fun c i hc => by rw [hA2, hA1, hw]; unfold mo_m; simp only [gI_sI, tl_I]; ((try simp only [true_and, and_true, if_true, and_self]); (repeat (first | rw [if_neg (by omega)] | rw [if_pos (by omega)])))) (by rw [hA2, hA1, hw]; unfold mo_m; simp only [gI_sI, tl_I]; ((try simp only [true_and, and_true, if_true, and_self]); (repeat (first | rw [if_neg (by omega)] | rw [if_pos (by omega)]))); exact hn4) (by rw [hA2, hA1, hw]; unfold mo_m; simp only [gI_sI, tl_I]; ((try simp only [true_and, and_true, if_true, and_self]); (repeat (first | rw [if_neg (by omega)] | rw [if_pos (by omega)]))); exact e1) (by rw [hA2, hA1, hw]; unfold mo_m; simp only [gI_sI, tl_I]; ((try simp only [true_and, and_true, if_true, and_self]); (repeat (first | rw [if_neg (by omega)] | rw [if_pos (by omega)])))) (by rw [hA2, hA1, hw]; unfold mo_m; simp only [gI_sI, tl_I]; ((try simp only [true_and, and_true, if_true, and_self]); (repeat (first | rw [if_neg (by omega)] | rw [if_pos (by omega)])))) (by rw [hA2, hA1, hw]; unfold mo_m; simp only [gI_sI, tl_I]; ((try simp only [true_and, and_true, if_true, and_self]); (repeat (first | rw [if_neg (by omega)] | rw [if_pos (by omega)])))) (by rw [hA2]; unfold mo_m; simp only [gI_sI]; ((try simp only [true_and, and_true, if_true, and_self]); (repeat (first | rw [if_neg (by omega)] | rw [if_pos (by omega)])))) (by rw [hA2]; unfold mo_m; simp only [gI_sI]; ((try simp only [true_and, and_true, if_true, and_self]); (repeat (first | rw [if_neg (by omega)] | rw [if_pos (by omega)])))) (by rw [hA2]; unfold mo_m; simp only [gI_sI]; ((try simp only [true_and, and_true, if_true, and_self]); (repeat (first | rw [if_neg (by omega)] | rw [if_pos (by omega)]))))
      exact ⟨_, hb, by rw [hA2]; unfold mo_m; simp only [gI_sI]; ((try simp only [true_and, and_true, if_true, and_self]); (repeat (first | rw [if_neg (by omega)] | rw [if_pos (by omega)]))), fun _ => by rw [hA2, hA1]; unfold mo_m; simp only [gI_sI]; ((try simp only [true_and, and_true, if_true, and_self]); (repeat (first | rw [if_neg (by omega)] | rw [if_pos (by omega)]))), C, h2⟩
  · rw [hA1]
    refine ⟨_, rfl, by (repeat' split) <;> omega, ⟨h.s, h.x, hj.m.M.o⟩, (cm_move (A := A) hj.m.M hj.m.p rp rf rx ry).mono (fun b9 A2 hq => ?_) (fun _ _ h => h)⟩
    obtain ⟨hc, _⟩ | ⟨_, hb, hA2⟩ := hq
    · exact absurd hc hn
    refine ⟨0, hb, by rw [hA2, gI_sIs], fun hk => ?_, C, by rw [hA2]; exact JT_0 h⟩
    exfalso
    revert hk
    by_cases h1 : (0 ≤ p ∧ p < gI A 200 32)
    · rw [if_pos h1]
      by_cases h2 : (0 ≤ f ∧ f ≤ 23 ∧ -20 ≤ x ∧ x ≤ 20 ∧ -20 ≤ y ∧ y ≤ 20)
      · rw [if_pos h2, if_neg (fun h3 => hn ⟨h1, h2, h3⟩)]; omega
      · rw [if_neg h2]; omega
    · rw [if_neg h1]; omega
theorem hg_I {s l p e c i : Int} : gI (hg_m A s l p e) c i = if l ≠ 4 ∧ c = 4000 + 100 * s + 5 ∧ i = l then e else gI A c i := by
  unfold hg_m
  by_cases h : l = 4
  · rw [if_pos h, if_neg (fun z => z.1 h)]; rfl
  · rw [if_neg h]
    simp only [gI_sI, gI_sP, ne_eq, h, not_false_eq_true, true_and]
theorem hg_S {s l p e c : Int} : gS (hg_m A s l p e) c = gS A c := by
  unfold hg_m
  by_cases h : l = 4
  · rw [if_pos h]; rfl
  · rw [if_neg h]; rfl
theorem hg_P {s l p e c i : Int} : gP (hg_m A s l p e) c i = if l = 4 ∧ c = 4000 + 100 * s ∧ i = 7 then pp p else if l ≠ 4 ∧ c = 4000 + 100 * s + 4 ∧ i = l then pp p else gP A c i := by
  unfold hg_m
  by_cases h : l = 4
  · rw [if_pos h, gP_sP]
    simp only [h, true_and, ne_eq, not_true_eq_false, false_and, if_false]
  · rw [if_neg h, gP_sI, gP_sP]
    simp only [h, false_and, if_false, ne_eq, not_false_eq_true, true_and]
theorem js_hang {X : Int → Int} {C : Int → cT} {s l p e : Int} (h : JT X C A) (rs : r32 s) (rl : r32 l) (rp : r32 p) (re : r32 e) : mj_Cal G n_L_hang [mR (some 100), mI s, mI l, mI p, mI e] A (fun r A1 => ∃ kk, r = some (mI kk) ∧ (0 ≤ kk ∧ kk ≤ 3) ∧ (gS A1 50 = some (.inl 99) ∧ gI A1 50 = X ∧ gS A1 200 = some (.inl 7)) ∧ mj_Cal G n_M_hang [mR (some 200), mI s, mI l, mI p, mI e] A1 (fun b A2 => b = none ∧ gI A2 200 0 = kk ∧ JE X A2) mj_no) mj_no := by
  refine (lx_hang h rs rl rp re).mono (fun r A1 hp => ?_) (fun _ _ h => h)
  have hj := h.j
  have hnd := hj.m.g.nd
  have hns := hj.m.g.ns
  have hnp := hj.m.p.np
  rcases hp with ⟨hc, rfl, W, hw, hA1⟩ | ⟨hn, rfl, hA1⟩
  · have eG : ∀ c, (c = 50 ∨ (200 ≤ c ∧ c ≤ 245)) → gI A1 c = gI A c := fun c c0 => funext fun i => by rw [hA1, hw]; simp only [gI_sI, hg_I]; ((try simp only [true_and, and_true, if_true, and_self]); (repeat (first | rw [if_neg (by omega)] | rw [if_pos (by omega)])))
    have eM : ∀ c, 200 ≤ c → c ≤ 245 → gI A1 c = gI A c := fun c c0 c1 => eG c (Or.inr ⟨c0, c1⟩)
    have hSG : ∀ c, (c = 50 ∨ (200 ≤ c ∧ c ≤ 245)) → gS A1 c = gS A c := fun c c0 => by rw [hA1, hw]; exact hg_S
    have hSm : ∀ c, 200 ≤ c → c ≤ 245 → gS A1 c = gS A c := fun c c0 c1 => hSG c (Or.inr ⟨c0, c1⟩)
    have hPm : ∀ c i, 200 ≤ c → c ≤ 245 → gP A1 c i = gP A c i := fun c i c0 c1 => by rw [hA1, hw, hg_P, if_neg (by omega), if_neg (by omega)]
    have hm1 : MI C A1 := MI_ag (A := A) hSm hPm (fun c i c0 c1 => congrFun (eM c c0 c1) i) hj.m
    refine ⟨0, rfl, by omega, ⟨(hSG 50 (Or.inl rfl)).trans h.s, (eG 50 (Or.inl rfl)).trans h.x, hm1.M.o⟩, (cm_hang (A := A1) hm1.M hm1.p hm1.g.ns rs rl rp re).mono (fun b9 A2 hq => ?_) (fun _ _ h => h)⟩
    try simp only [eM 200 (by omega) (by omega), eM 204 (by omega) (by omega), eM 205 (by omega) (by omega), eM 206 (by omega) (by omega), eM 207 (by omega) (by omega), eM 208 (by omega) (by omega), eM 209 (by omega) (by omega), eM 210 (by omega) (by omega), eM 211 (by omega) (by omega), eM 212 (by omega) (by omega), eM 213 (by omega) (by omega), eM 214 (by omega) (by omega), eM 215 (by omega) (by omega), eM 216 (by omega) (by omega), eM 222 (by omega) (by omega), eM 224 (by omega) (by omega), eM 225 (by omega) (by omega), eM 226 (by omega) (by omega), eM 227 (by omega) (by omega), eM 228 (by omega) (by omega), eM 229 (by omega) (by omega), eM 230 (by omega) (by omega), eM 231 (by omega) (by omega), eM 233 (by omega) (by omega), eM 234 (by omega) (by omega), eM 235 (by omega) (by omega), eM 236 (by omega) (by omega), eM 237 (by omega) (by omega), eM 238 (by omega) (by omega), eM 239 (by omega) (by omega), eM 241 (by omega) (by omega), eM 244 (by omega) (by omega)] at hq
    obtain ⟨hb, ⟨_, hA2⟩ | ⟨hn, _⟩⟩ := hq
    rotate_left
    · exact absurd hc hn
    have h2 : JT X C A2 := jt_hang (ps := s) (pl := l) (pp0 := p) (pe := e) h hc.1.1 hc.1.2.1 hc.1.2.2 hc.2 (fun c => by rw [hA2, hA1, hw]; show gS (hg_m A s l p e) c = _; exact hg_S) (fun c i h1 h2 => by rw [hA2, hA1, hw]; show gP (hg_m A s l p e) c i = _; rw [hg_P, if_neg (by omega), if_neg (by omega)]) (fun c i hc => by rw [hA2, hA1, hw]; simp only [gI_sI, hg_I]; ((try simp only [true_and, and_true, if_true, and_self]); (repeat (first | rw [if_neg (by omega)] | rw [if_pos (by omega)])))) (fun h4 => ⟨by rw [hA2, hA1, hw]; simp only [gI_sI, hg_I]; ((try simp only [true_and, and_true, if_true, and_self]); (repeat (first | rw [if_neg (by omega)] | rw [if_pos (by omega)]))), by rw [hA2, hA1, hw]; show gP (hg_m A s l p e) _ _ = _; rw [hg_P, if_neg (by omega), if_pos (by omega)]⟩) (by rw [hA2]; simp only [gI_sI]; ((try simp only [true_and, and_true, if_true, and_self]); (repeat (first | rw [if_neg (by omega)] | rw [if_pos (by omega)])))) (by rw [hA2]; simp only [gI_sI]; ((try simp only [true_and, and_true, if_true, and_self]); (repeat (first | rw [if_neg (by omega)] | rw [if_pos (by omega)])))) (fun h4 => by rw [hA2, hA1, hw]; show gP (hg_m A s l p e) _ _ = _; rw [hg_P, if_pos (by omega)]) (fun h4 => by rw [hA2, hA1, hw]; show gP (hg_m A s l p e) _ _ = _; rw [hg_P, if_neg (by omega), if_neg (by omega)]) (fun h4 i => by rw [hA2, hA1, hw]; show gP (hg_m A s l p e) _ _ = _; rw [hg_P, if_neg (by omega), if_neg (by omega)])
    exact ⟨hb, by rw [hA2]; simp only [gI_sI]; ((try simp only [true_and, and_true, if_true, and_self]); (repeat (first | rw [if_neg (by omega)] | rw [if_pos (by omega)]))), C, h2⟩
  · rw [hA1]
    refine ⟨_, rfl, by (repeat' split) <;> omega, ⟨h.s, h.x, hj.m.M.o⟩, (cm_hang (A := A) hj.m.M hj.m.p hj.m.g.ns rs rl rp re).mono (fun b9 A2 hq => ?_) (fun _ _ h => h)⟩
    obtain ⟨hb, ⟨hc, _⟩ | ⟨_, hA2⟩⟩ := hq
    · exact absurd hc hn
    refine ⟨hb, by rw [hA2, gI_sIs], C, by rw [hA2]; exact JT_0 h⟩
theorem ns_I {n fr pa c i : Int} (h : ¬ (4000 + 100 * n ≤ c ∧ c ≤ 4000 + 100 * n + 6)) (h2 : ¬ (c = 100 ∧ i = 6)) : gI (ns_m A n fr pa) c i = gI A c i := by
  unfold ns_m
  rw [gI_sI, if_neg h2, gI_sP, scw_I]
  ((try simp only [true_and, and_true, if_true, and_self]); (repeat (first | rw [if_neg (by omega)] | rw [if_pos (by omega)])))
  rw [gI_sN, if_neg (by omega)]
theorem ns_P {n fr pa c i : Int} (h : ¬ (4000 + 100 * n ≤ c ∧ c ≤ 4000 + 100 * n + 6)) (h2 : ¬ (c = 106 ∧ i = n)) : gP (ns_m A n fr pa) c i = gP A c i := by
  unfold ns_m
  rw [gP_sI, gP_sP, if_neg h2, scw_P]
  ((try simp only [true_and, and_true, if_true, and_self]); (repeat (first | rw [if_neg (by omega)] | rw [if_pos (by omega)])))
  rw [gP_sN, if_neg (by omega)]
theorem js_scene {X : Int → Int} {C : Int → cT} {fr p : Int} (h : JT X C A) (rfr : r32 fr) (rp : r32 p) : mj_Cal G n_L_scene [mR (some 100), mI fr, mI p, mR (some 140)] A (fun r A1 => ∃ kk, r = some (mI kk) ∧ (0 ≤ kk ∧ kk ≤ 3) ∧ (gS A1 50 = some (.inl 99) ∧ gI A1 50 = X ∧ gS A1 200 = some (.inl 7)) ∧ mj_Cal G n_M_scene [mR (some 200), mI fr, mI p] A1 (fun b A2 => ∃ v, b = some (mI v) ∧ gI A2 200 0 = kk ∧ (kk = 0 → gI A2 140 0 = nrm v) ∧ JE X A2) mj_no) mj_no := by
  refine (lx_scene h rfr rp).mono (fun r A1 hp => ?_) (fun _ _ h => h)
  have hj := h.j
  have hnd := hj.m.g.nd
  have hns := hj.m.g.ns
  have hnp := hj.m.p.np
  rcases hp with ⟨hc, rfl, W, hw, hA1⟩ | ⟨hn, rfl, hA1⟩
  · have eG : ∀ c, (c = 50 ∨ (200 ≤ c ∧ c ≤ 245)) → gI A1 c = gI A c := fun c c0 => funext fun i => by rw [hA1, gI_sI, if_neg (by omega), hw]; exact ns_I (by omega) (by omega)
    have e : ∀ c, 200 ≤ c → c ≤ 245 → gI A1 c = gI A c := fun c c0 c1 => eG c (Or.inr ⟨c0, c1⟩)
    have hSG : ∀ c, (c = 50 ∨ (200 ≤ c ∧ c ≤ 245)) → gS A1 c = gS A c := fun c c0 => by rw [hA1, hw]; show gS (ns_m A (gI A 200 23) fr p) c = _; exact ns_S (by omega)
    have hSm : ∀ c, 200 ≤ c → c ≤ 245 → gS A1 c = gS A c := fun c c0 c1 => hSG c (Or.inr ⟨c0, c1⟩)
    have hPm : ∀ c i, 200 ≤ c → c ≤ 245 → gP A1 c i = gP A c i := fun c i c0 c1 => by rw [hA1, hw]; show gP (ns_m A (gI A 200 23) fr p) c i = _; exact ns_P (by omega) (by omega)
    have hm1 : MI C A1 := MI_ag (A := A) hSm hPm (fun c i c0 c1 => congrFun (e c c0 c1) i) hj.m
    refine ⟨0, rfl, by omega, ⟨(hSG 50 (Or.inl rfl)).trans h.s, (eG 50 (Or.inl rfl)).trans h.x, hm1.M.o⟩, (cm_scene (A := A1) hm1.M hm1.g.ns rfr rp).mono (fun b9 A2 hq => ?_) (fun _ _ h => h)⟩
    try simp only [e 200 (by omega) (by omega), e 204 (by omega) (by omega), e 205 (by omega) (by omega), e 206 (by omega) (by omega), e 207 (by omega) (by omega), e 208 (by omega) (by omega), e 209 (by omega) (by omega), e 210 (by omega) (by omega), e 211 (by omega) (by omega), e 212 (by omega) (by omega), e 213 (by omega) (by omega), e 214 (by omega) (by omega), e 215 (by omega) (by omega), e 216 (by omega) (by omega), e 222 (by omega) (by omega), e 224 (by omega) (by omega), e 225 (by omega) (by omega), e 226 (by omega) (by omega), e 227 (by omega) (by omega), e 228 (by omega) (by omega), e 229 (by omega) (by omega), e 230 (by omega) (by omega), e 231 (by omega) (by omega), e 233 (by omega) (by omega), e 234 (by omega) (by omega), e 235 (by omega) (by omega), e 236 (by omega) (by omega), e 237 (by omega) (by omega), e 238 (by omega) (by omega), e 239 (by omega) (by omega), e 241 (by omega) (by omega), e 244 (by omega) (by omega)] at hq
    obtain ⟨_, hb, hA2⟩ | ⟨hn, _⟩ := hq
    rotate_left
    · exact absurd hc hn
    have g23 : gI (sI A1 200 0 0) 200 23 = gI A 200 23 := by rw [gI_sI, if_neg (by omega), e 200 (by omega) (by omega)]
    unfold sc_m at hA2
    rw [g23] at hA2
    have hn6 := hc.2.2
    have hIh : ∀ c i, ¬ (200 ≤ c ∧ c ≤ 245) → ¬ (c = 140 ∧ i = 0) → gI A2 c i = gI (ns_m A (gI A 200 23) fr p) c i := fun c i h1 h3 => by
      rw [hA2, gI_sI, if_neg (by omega)]
      unfold sc_3 sc_2 sc_1
      simp only [gI_sF, gI_sI]
      rw [if_neg (by omega), if_neg (by omega), if_neg (by omega), if_neg (by omega), if_neg (by omega), if_neg (by omega), if_neg (by omega), hA1, hw, gI_sI, if_neg h3]
    have hPh : ∀ c i, gP A2 c i = gP (ns_m A (gI A 200 23) fr p) c i := fun c i => by rw [hA2, ← hw]; show gP A1 c i = gP W c i; rw [hA1]; rfl
    have hSh : ∀ c, gS A2 c = gS (ns_m A (gI A 200 23) fr p) c := fun c => by rw [hA2, ← hw]; show gS A1 c = gS W c; rw [hA1]; rfl
    have nI : ∀ j i, 0 ≤ j → j ≤ 6 → gI (ns_m A (gI A 200 23) fr p) (4000 + 100 * gI A 200 23 + j) i = gI (sc_i (sN A (4000 + 100 * gI A 200 23) (.inl 4)) (4000 + 100 * gI A 200 23) fr p) (4000 + 100 * gI A 200 23 + j) i := fun j i j0 j1 => by unfold ns_m; rw [gI_sI, if_neg (by omega), gI_sP]
    have nI0 : ∀ i, gI (ns_m A (gI A 200 23) fr p) (4000 + 100 * gI A 200 23) i = gI (sc_i (sN A (4000 + 100 * gI A 200 23) (.inl 4)) (4000 + 100 * gI A 200 23) fr p) (4000 + 100 * gI A 200 23) i := fun i => by unfold ns_m; rw [gI_sI, if_neg (by omega), gI_sP]
    have nP : ∀ c i, c ≠ 106 → gP (ns_m A (gI A 200 23) fr p) c i = gP (sc_i (sN A (4000 + 100 * gI A 200 23) (.inl 4)) (4000 + 100 * gI A 200 23) fr p) c i := fun c i hc => by unfold ns_m; rw [gP_sI, gP_sP, if_neg (by omega)]
    have hss := scw_SS (A := sN A (4000 + 100 * gI A 200 23) (.inl 4)) (fr := fr) (pa := p) (s := gI A 200 23) (by rw [gS_sN, if_pos rfl])
    have h2 : JT X C A2 := jt_scene (n := gI A 200 23) (fr := fr) (pa := p) h rfl hn6 hc.2.1 hc.1 (fun c hc => (hSh c).trans (ns_S hc)) (fun c i hc => (hPh c i).trans (ns_P (by omega) (by omega))) (fun c i hc => by
        by_cases hr : 200 ≤ c ∧ c ≤ 245
        · rw [hA2, gI_sI, if_neg (by omega)]
          unfold sc_3 sc_2 sc_1
          simp only [gI_sF, gI_sI]
          rw [← congrFun (e c hr.1 hr.2) i]
          by_cases c1 : c = 230
          · rw [if_pos c1, if_neg (by omega)]; rw [c1]; ((try simp only [true_and, and_true, if_true, and_self]); (repeat (first | rw [if_neg (by omega)] | rw [if_pos (by omega)])))
          · rw [if_neg c1]
            by_cases c2 : c = 229
            · rw [if_pos c2, if_neg (by omega)]; rw [c2]; ((try simp only [true_and, and_true, if_true, and_self]); (repeat (first | rw [if_neg (by omega)] | rw [if_pos (by omega)])))
            · rw [if_neg c2]
              by_cases c3 : c = 227
              · rw [if_pos c3, if_neg (by omega)]; rw [c3]; ((try simp only [true_and, and_true, if_true, and_self]); (repeat (first | rw [if_neg (by omega)] | rw [if_pos (by omega)])))
              · rw [if_neg c3]
                by_cases c4 : c = 226
                · rw [if_pos c4, if_neg (by omega)]; rw [c4]; ((try simp only [true_and, and_true, if_true, and_self]); (repeat (first | rw [if_neg (by omega)] | rw [if_pos (by omega)])))
                · rw [if_neg c4]; ((try simp only [true_and, and_true, if_true, and_self]); (repeat (first | rw [if_neg (by omega)] | rw [if_pos (by omega)])))
        · exact (hIh c i hr (by omega)).trans (ns_I (by omega) (by omega)))
      (SS1_ag (fun c c0 c1 => (hSh c).trans (by unfold ns_m; rw [gS_sI, gS_sP])) (fun i hi => (hPh _ i).trans (nP _ i (by omega))) ((hIh _ 0 (by omega) (by omega)).trans (nI0 0)) hss) (by rw [hPh]; unfold ns_m; rw [gP_sI, gP_sP, if_pos ⟨rfl, rfl⟩]) (by rw [hIh _ _ (by omega) (by omega)]; unfold ns_m; rw [gI_sIs]) (by rw [hA2, gI_sIs]) ⟨by rw [hA2]; unfold sc_3 sc_2 sc_1; simp only [gI_sF, gI_sI]; ((try simp only [true_and, and_true, if_true, and_self]); (repeat (first | rw [if_neg (by omega)] | rw [if_pos (by omega)]))), by rw [hA2]; unfold sc_3 sc_2 sc_1; simp only [gI_sF, gI_sI]; ((try simp only [true_and, and_true, if_true, and_self]); (repeat (first | rw [if_neg (by omega)] | rw [if_pos (by omega)])))⟩
      (fun i i0 i1 => by rw [hA2]; unfold sc_3 sc_2 sc_1; simp only [gI_sF, gI_sI]; ((try simp only [true_and, and_true, if_true, and_self]); (repeat (first | rw [if_neg (by omega)] | rw [if_pos (by omega)])))) (fun i i0 i1 => by rw [hA2]; unfold sc_3 sc_2 sc_1; simp only [gI_sF, gI_sI]; ((try simp only [true_and, and_true, if_true, and_self]); (repeat (first | rw [if_neg (by omega)] | rw [if_pos (by omega)])))) (fun i i0 i1 => ⟨by rw [hA2]; unfold sc_3 sc_2 sc_1; simp only [gI_sF, gI_sI]; ((try simp only [true_and, and_true, if_true, and_self]); (repeat (first | rw [if_neg (by omega)] | rw [if_pos (by omega)]))), by rw [hA2]; unfold sc_3 sc_2 sc_1; simp only [gI_sF, gI_sI]; ((try simp only [true_and, and_true, if_true, and_self]); (repeat (first | rw [if_neg (by omega)] | rw [if_pos (by omega)])))⟩)
      ⟨by rw [hIh _ _ (by omega) (by omega), nI0, scw_I]; ((try simp only [true_and, and_true, if_true, and_self]); (repeat (first | rw [if_neg (by omega)] | rw [if_pos (by omega)]))), by rw [hIh _ _ (by omega) (by omega), nI0, scw_I]; ((try simp only [true_and, and_true, if_true, and_self]); (repeat (first | rw [if_neg (by omega)] | rw [if_pos (by omega)]))), by rw [hPh, nP _ _ (by omega), scw_P]; ((try simp only [true_and, and_true, if_true, and_self]); (repeat (first | rw [if_neg (by omega)] | rw [if_pos (by omega)]))); rw [gP_sN, if_pos rfl]⟩
      (fun i i0 i1 => by rw [hIh _ _ (by omega) (by omega), nI 1 i (by omega) (by omega), scw_I]; ((try simp only [true_and, and_true, if_true, and_self]); (repeat (first | rw [if_neg (by omega)] | rw [if_pos (by omega)])))) (fun i i0 i1 => by rw [hIh _ _ (by omega) (by omega), nI 2 i (by omega) (by omega), scw_I]; ((try simp only [true_and, and_true, if_true, and_self]); (repeat (first | rw [if_neg (by omega)] | rw [if_pos (by omega)])))) (fun i i0 i1 => ⟨by rw [hIh _ _ (by omega) (by omega), nI 3 i (by omega) (by omega), scw_I, if_neg (by omega), if_neg (by omega), if_pos (Or.inr rfl)], by rw [hPh, nP _ _ (by omega), scw_P]; ((try simp only [true_and, and_true, if_true, and_self]); (repeat (first | rw [if_neg (by omega)] | rw [if_pos (by omega)]))), by rw [hIh _ _ (by omega) (by omega), nI 5 i (by omega) (by omega), scw_I]; ((try simp only [true_and, and_true, if_true, and_self]); (repeat (first | rw [if_neg (by omega)] | rw [if_pos (by omega)])))⟩) (fun i i0 i1 => by rw [hIh _ _ (by omega) (by omega), nI 6 i (by omega) (by omega), scw_I]; ((try simp only [true_and, and_true, if_true, and_self]); (repeat (first | rw [if_neg (by omega)] | rw [if_pos (by omega)]))))
    have g140 : gI A2 140 0 = nrm (gI A 200 23) := by
      rw [hA2, gI_sI, if_neg (by omega)]
      unfold sc_3 sc_2 sc_1
      simp only [gI_sF, gI_sI]
      rw [hA1, gI_sIs]
      ((try simp only [true_and, and_true, if_true, and_self]); (repeat (first | rw [if_neg (by omega)] | rw [if_pos (by omega)])))
    have g200 : gI A2 200 0 = 0 := by
      rw [hA2, gI_sI, if_neg (by omega)]
      unfold sc_3 sc_2 sc_1
      simp only [gI_sF, gI_sI]
      ((try simp only [true_and, and_true, if_true, and_self]); (repeat (first | rw [if_neg (by omega)] | rw [if_pos (by omega)])))
    exact ⟨_, hb, g200, fun _ => g140, C, h2⟩
  · rw [hA1]
    refine ⟨_, rfl, by (repeat' split) <;> omega, ⟨h.s, h.x, hj.m.M.o⟩, (cm_scene (A := A) hj.m.M hj.m.g.ns rfr rp).mono (fun b9 A2 hq => ?_) (fun _ _ h => h)⟩
    obtain ⟨hc, _⟩ | ⟨_, hb, hA2⟩ := hq
    · exact absurd hc hn
    refine ⟨0, hb, by rw [hA2, gI_sIs], fun hk => ?_, C, by rw [hA2]; exact JT_0 h⟩
    exfalso
    revert hk
    by_cases h1 : (0 ≤ p ∧ p ≤ 3)
    · rw [if_pos h1]
      by_cases h2 : (1 ≤ fr ∧ fr ≤ 24)
      · rw [if_pos h2, if_neg (fun h3 => hn ⟨h1, h2, h3⟩)]; omega
      · rw [if_neg h2]; omega
    · rw [if_neg h1]; omega
theorem np_I {n w c i : Int} (h : ¬ (6000 + 100 * n ≤ c ∧ c ≤ 6000 + 100 * n + 3)) (h2 : ¬ (c = 100 ∧ i = 9)) : gI (np_m A n w) c i = gI A c i := by
  unfold np_m
  rw [gI_sI, if_neg h2, gI_sP, pgw_I]
  ((try simp only [true_and, and_true, if_true, and_self]); (repeat (first | rw [if_neg (by omega)] | rw [if_pos (by omega)])))
  rw [gI_sN, if_neg (by omega)]
theorem np_P {n w c i : Int} (h : ¬ (6000 + 100 * n ≤ c ∧ c ≤ 6000 + 100 * n + 3)) (h2 : ¬ (c = 109 ∧ i = n)) : gP (np_m A n w) c i = gP A c i := by
  unfold np_m
  rw [gP_sI, gP_sP, if_neg h2, pgw_P]
  ((try simp only [true_and, and_true, if_true, and_self]); (repeat (first | rw [if_neg (by omega)] | rw [if_pos (by omega)])))
  rw [gP_sN, if_neg (by omega)]
theorem js_peg {X : Int → Int} {C : Int → cT} {w : Int} (h : JT X C A) (rw : r32 w) : mj_Cal G n_L_peg [mR (some 100), mI w, mR (some 140)] A (fun r A1 => ∃ kk, r = some (mI kk) ∧ (0 ≤ kk ∧ kk ≤ 3) ∧ (gS A1 50 = some (.inl 99) ∧ gI A1 50 = X ∧ gS A1 200 = some (.inl 7)) ∧ mj_Cal G n_M_peg [mR (some 200), mI w] A1 (fun b A2 => ∃ v, b = some (mI v) ∧ gI A2 200 0 = kk ∧ (kk = 0 → gI A2 140 0 = nrm v) ∧ JE X A2) mj_no) mj_no := by
  refine (lx_peg h rw).mono (fun r A1 hp => ?_) (fun _ _ h => h)
  have hj := h.j
  have hnd := hj.m.g.nd
  have hns := hj.m.g.ns
  have hnp := hj.m.p.np
  rcases hp with ⟨hc, rfl, W, hw, hA1⟩ | ⟨hn, rfl, hA1⟩
  · have eG : ∀ c, (c = 50 ∨ (200 ≤ c ∧ c ≤ 245)) → gI A1 c = gI A c := fun c c0 => funext fun i => by rw [hA1, gI_sI, if_neg (by omega), hw]; exact np_I (by omega) (by omega)
    have e : ∀ c, 200 ≤ c → c ≤ 245 → gI A1 c = gI A c := fun c c0 c1 => eG c (Or.inr ⟨c0, c1⟩)
    have hSG : ∀ c, (c = 50 ∨ (200 ≤ c ∧ c ≤ 245)) → gS A1 c = gS A c := fun c c0 => by rw [hA1, hw]; show gS (np_m A (gI A 200 32) w) c = _; exact np_S (by omega)
    have hSm : ∀ c, 200 ≤ c → c ≤ 245 → gS A1 c = gS A c := fun c c0 c1 => hSG c (Or.inr ⟨c0, c1⟩)
    have hPm : ∀ c i, 200 ≤ c → c ≤ 245 → gP A1 c i = gP A c i := fun c i c0 c1 => by rw [hA1, hw]; show gP (np_m A (gI A 200 32) w) c i = _; exact np_P (by omega) (by omega)
    have hm1 : MI C A1 := MI_ag (A := A) hSm hPm (fun c i c0 c1 => congrFun (e c c0 c1) i) hj.m
    refine ⟨0, rfl, by omega, ⟨(hSG 50 (Or.inl rfl)).trans h.s, (eG 50 (Or.inl rfl)).trans h.x, hm1.M.o⟩, (cm_peg (A := A1) hm1.M hm1.p.np rw).mono (fun b9 A2 hq => ?_) (fun _ _ h => h)⟩
    try simp only [e 200 (by omega) (by omega), e 204 (by omega) (by omega), e 205 (by omega) (by omega), e 206 (by omega) (by omega), e 207 (by omega) (by omega), e 208 (by omega) (by omega), e 209 (by omega) (by omega), e 210 (by omega) (by omega), e 211 (by omega) (by omega), e 212 (by omega) (by omega), e 213 (by omega) (by omega), e 214 (by omega) (by omega), e 215 (by omega) (by omega), e 216 (by omega) (by omega), e 222 (by omega) (by omega), e 224 (by omega) (by omega), e 225 (by omega) (by omega), e 226 (by omega) (by omega), e 227 (by omega) (by omega), e 228 (by omega) (by omega), e 229 (by omega) (by omega), e 230 (by omega) (by omega), e 231 (by omega) (by omega), e 233 (by omega) (by omega), e 234 (by omega) (by omega), e 235 (by omega) (by omega), e 236 (by omega) (by omega), e 237 (by omega) (by omega), e 238 (by omega) (by omega), e 239 (by omega) (by omega), e 241 (by omega) (by omega), e 244 (by omega) (by omega)] at hq
    obtain ⟨_, hb, hA2⟩ | ⟨hn, _⟩ := hq
    rotate_left
    · exact absurd hc hn
    have hn6 := hc.2
    have hIh : ∀ c i, ¬ (200 ≤ c ∧ c ≤ 245) → ¬ (c = 140 ∧ i = 0) → gI A2 c i = gI (np_m A (gI A 200 32) w) c i := fun c i h1 h3 => by
      rw [hA2, hA1, hw]; simp only [gI_sI]; ((try simp only [true_and, and_true, if_true, and_self]); (repeat (first | rw [if_neg (by omega)] | rw [if_pos (by omega)])))
    have hPh : ∀ c i, gP A2 c i = gP (np_m A (gI A 200 32) w) c i := fun c i => by rw [hA2, ← hw]; show gP A1 c i = gP W c i; rw [hA1]; rfl
    have hSh : ∀ c, gS A2 c = gS (np_m A (gI A 200 32) w) c := fun c => by rw [hA2, ← hw]; show gS A1 c = gS W c; rw [hA1]; rfl
    have nP : ∀ c i, c ≠ 109 → gP (np_m A (gI A 200 32) w) c i = gP (pg_m (sN A (6000 + 100 * gI A 200 32) (.inl 2)) (6000 + 100 * gI A 200 32) (pp w)) c i := fun c i hc => by unfold np_m; rw [gP_sI, gP_sP, if_neg (by omega)]
    have nI : ∀ c i, c ≠ 100 → gI (np_m A (gI A 200 32) w) c i = gI (pg_m (sN A (6000 + 100 * gI A 200 32) (.inl 2)) (6000 + 100 * gI A 200 32) (pp w)) c i := fun c i hc => by unfold np_m; rw [gI_sI, if_neg (by omega), gI_sP]
    have nS : ∀ c, gS (np_m A (gI A 200 32) w) c = gS (pg_m (sN A (6000 + 100 * gI A 200 32) (.inl 2)) (6000 + 100 * gI A 200 32) (pp w)) c := fun c => by unfold np_m; rw [gS_sI, gS_sP]
    have h2 : JT X C A2 := jt_peg (n := gI A 200 32) (pw := w) h rfl hn6 hc.1 (fun c hc => (hSh c).trans (np_S hc)) (fun c i hc => (hPh c i).trans (np_P (by omega) (by omega))) (fun c i hc => by
        by_cases hr : 200 ≤ c ∧ c ≤ 245
        · rw [hA2]; simp only [gI_sI]; rw [← congrFun (e c hr.1 hr.2) i]; ((try simp only [true_and, and_true, if_true, and_self]); (repeat (first | rw [if_neg (by omega)] | rw [if_pos (by omega)])))
        · exact (hIh c i hr (by omega)).trans (np_I (by omega) (by omega)))
      ⟨by rw [hSh, nS, pgw_S]; ((try simp only [true_and, and_true, if_true, and_self]); (repeat (first | rw [if_neg (by omega)] | rw [if_pos (by omega)]))); rw [gS_sN, if_pos rfl], ⟨by rw [hPh, nP _ _ (by omega), pgw_P]; ((try simp only [true_and, and_true, if_true, and_self]); (repeat (first | rw [if_neg (by omega)] | rw [if_pos (by omega)]))), by rw [hPh, nP _ _ (by omega), pgw_P]; ((try simp only [true_and, and_true, if_true, and_self]); (repeat (first | rw [if_neg (by omega)] | rw [if_pos (by omega)]))), by rw [hPh, nP _ _ (by omega), pgw_P]; ((try simp only [true_and, and_true, if_true, and_self]); (repeat (first | rw [if_neg (by omega)] | rw [if_pos (by omega)])))⟩, by rw [hSh, nS, pgw_S]; ((try simp only [true_and, and_true, if_true, and_self]); (repeat (first | rw [if_neg (by omega)] | rw [if_pos (by omega)]))), by rw [hSh, nS, pgw_S]; ((try simp only [true_and, and_true, if_true, and_self]); (repeat (first | rw [if_neg (by omega)] | rw [if_pos (by omega)]))), by rw [hSh, nS, pgw_S]; ((try simp only [true_and, and_true, if_true, and_self]); (repeat (first | rw [if_neg (by omega)] | rw [if_pos (by omega)])))⟩
      (by rw [hPh]; unfold np_m; rw [gP_sI, gP_sP, if_pos ⟨rfl, rfl⟩]) (by rw [hIh _ _ (by omega) (by omega)]; unfold np_m; rw [gI_sIs]) (by rw [hA2, gI_sIs]) (by rw [hA2]; simp only [gI_sI]; ((try simp only [true_and, and_true, if_true, and_self]); (repeat (first | rw [if_neg (by omega)] | rw [if_pos (by omega)])))) (by rw [hPh, nP _ _ (by omega), pgw_P]; ((try simp only [true_and, and_true, if_true, and_self]); (repeat (first | rw [if_neg (by omega)] | rw [if_pos (by omega)])))) (by rw [hIh _ _ (by omega) (by omega), nI _ _ (by omega), pgw_I]; ((try simp only [true_and, and_true, if_true, and_self]); (repeat (first | rw [if_neg (by omega)] | rw [if_pos (by omega)]))); rw [gI_sN, if_pos rfl]) (fun f f0 f1 => by rw [hIh _ _ (by omega) (by omega), nI _ _ (by omega), pgw_I]; ((try simp only [true_and, and_true, if_true, and_self]); (repeat (first | rw [if_neg (by omega)] | rw [if_pos (by omega)]))))
    exact ⟨_, hb, by rw [hA2]; simp only [gI_sI]; ((try simp only [true_and, and_true, if_true, and_self]); (repeat (first | rw [if_neg (by omega)] | rw [if_pos (by omega)]))), fun _ => by rw [hA2, hA1]; simp only [gI_sI]; ((try simp only [true_and, and_true, if_true, and_self]); (repeat (first | rw [if_neg (by omega)] | rw [if_pos (by omega)]))), C, h2⟩
  · rw [hA1]
    refine ⟨_, rfl, by (repeat' split) <;> omega, ⟨h.s, h.x, hj.m.M.o⟩, (cm_peg (A := A) hj.m.M hj.m.p.np rw).mono (fun b9 A2 hq => ?_) (fun _ _ h => h)⟩
    obtain ⟨hc, _⟩ | ⟨_, hb, hA2⟩ := hq
    · exact absurd hc hn
    refine ⟨0, hb, by rw [hA2, gI_sIs], fun hk => ?_, C, by rw [hA2]; exact JT_0 h⟩
    exfalso
    revert hk
    by_cases h1 : (w = -1 ∨ (0 ≤ w ∧ w < gI A 200 32))
    · rw [if_pos h1, if_neg (fun h2 => hn ⟨h1, h2⟩)]; omega
    · rw [if_neg h1]; omega
theorem js_shoot {X : Int → Int} {C : Int → cT} {s : Int} (h : JT X C A) (rs : r32 s) : mj_Cal G n_L_shoot [mR (some 100), mI s, mR (some 140)] A (fun r A1 => ∃ kk, r = some (mI kk) ∧ (0 ≤ kk ∧ kk ≤ 3) ∧ (gS A1 50 = some (.inl 99) ∧ gI A1 50 = X ∧ gS A1 200 = some (.inl 7)) ∧ mj_Cal G n_M_shoot [mR (some 200), mI s] A1 (fun b A2 => ∃ v, b = some (mI v) ∧ gI A2 200 0 = kk ∧ (kk = 0 → gI A2 140 0 = nrm v) ∧ JE X A2) mj_no) mj_no := by
  refine (lx_shoot h rs).mono (fun r A1 hp => ?_) (fun _ _ h => h)
  have hj := h.j
  have hnd := hj.m.g.nd
  have hns := hj.m.g.ns
  have hnp := hj.m.p.np
  rcases hp with ⟨hc, rfl, W, hw, hA1⟩ | ⟨hn, rfl, hA1⟩
  · have eG : ∀ c, (c = 50 ∨ (200 ≤ c ∧ c ≤ 245)) → gI A1 c = gI A c := fun c c0 => funext fun i => by rw [hA1, gI_sI, if_neg (by omega)]; exact hw.l.I c i (by omega) (by omega)
    have e : ∀ c, 200 ≤ c → c ≤ 245 → gI A1 c = gI A c := fun c c0 c1 => eG c (Or.inr ⟨c0, c1⟩)
    have hSG : ∀ c, (c = 50 ∨ (200 ≤ c ∧ c ≤ 245)) → gS A1 c = gS A c := fun c c0 => by rw [hA1]; exact hw.l.S c
    have hSm : ∀ c, 200 ≤ c → c ≤ 245 → gS A1 c = gS A c := fun c c0 c1 => hSG c (Or.inr ⟨c0, c1⟩)
    have hPm : ∀ c i, 200 ≤ c → c ≤ 245 → gP A1 c i = gP A c i := fun c i c0 c1 => by rw [hA1]; exact hw.l.P c i
    have hm1 : MI C A1 := MI_ag (A := A) hSm hPm (fun c i c0 c1 => congrFun (e c c0 c1) i) hj.m
    have ense := fun s f x y => mo_se_c (A := vi C A) (B := vi C A1) (s := s) (f := f) (x := x) (y := y) (fun c c0 c1 => by rw [vi_fn (by omega), vi_fn (by omega), e c (by omega) (by omega)]) rfl
    have ensb := fun s f => mo_sb_c (A := vi C A1) (B := vi C A) (s := s) (f := f) (mo_st_c (by rw [vi_fn (by omega), vi_fn (by omega), e 238 (by omega) (by omega)]) (fun p _ _ => by rw [vi_fn (by omega), vi_fn (by omega), e 239 (by omega) (by omega)]) (fun x y => ense s f x y))
    refine ⟨0, rfl, by omega, ⟨(hSG 50 (Or.inl rfl)).trans h.s, (eG 50 (Or.inl rfl)).trans h.x, hm1.M.o⟩, (cm_shoot (A := A1) hm1 (fun k => by rw [e 238 (by omega) (by omega)]; exact hj.s.b k) rs).mono (fun b9 A2 hq => ?_) (fun _ _ h => h)⟩
    try simp only [e 200 (by omega) (by omega), e 204 (by omega) (by omega), e 205 (by omega) (by omega), e 206 (by omega) (by omega), e 207 (by omega) (by omega), e 208 (by omega) (by omega), e 209 (by omega) (by omega), e 210 (by omega) (by omega), e 211 (by omega) (by omega), e 212 (by omega) (by omega), e 213 (by omega) (by omega), e 214 (by omega) (by omega), e 215 (by omega) (by omega), e 216 (by omega) (by omega), e 222 (by omega) (by omega), e 224 (by omega) (by omega), e 225 (by omega) (by omega), e 226 (by omega) (by omega), e 227 (by omega) (by omega), e 228 (by omega) (by omega), e 229 (by omega) (by omega), e 230 (by omega) (by omega), e 231 (by omega) (by omega), e 233 (by omega) (by omega), e 234 (by omega) (by omega), e 235 (by omega) (by omega), e 236 (by omega) (by omega), e 237 (by omega) (by omega), e 238 (by omega) (by omega), e 239 (by omega) (by omega), e 241 (by omega) (by omega), e 244 (by omega) (by omega), ense, ensb] at hq
    obtain ⟨_, hb, hA2⟩ | ⟨hn, _⟩ := hq
    rotate_left
    · exact absurd hc hn
    obtain ⟨W2, hLZ, hA2⟩ := hA2
    have hfs := hj.m.g.fr s hc.1 hc.2
    have hjW2 : JJ C W2 := JJ_LZ (JJ_0 (v := 0) (by rw [hA1]; exact JJ_o hw.j)) hLZ
    have w2I : ∀ c i, ¬ (209 ≤ c ∧ c ≤ 221) → c ≠ 200 → gI W2 c i = gI A1 c i := fun c i h1 h2 => by rw [hLZ.y.I c i h1 (fun z => h2 z.1), gI_sI, if_neg (fun z => h2 z.1)]
    have w2A : ∀ c, 222 ≤ c → c ≤ 245 → gI W2 c = gI A c := fun c c0 c1 => (funext fun i => w2I c i (by omega) (by omega)).trans (e c (by omega) c1)
    have e1W : ∀ c i, c ≠ 140 → gI A1 c i = gI W c i := fun c i hc => by rw [hA1, gI_sI, if_neg (fun z => hc z.1)]
    have e23 : gI W2 200 23 = gI A 200 23 := by rw [hLZ.y.I 200 23 (by omega) (by omega), gI_sI, if_neg (by omega), e 200 (by omega) (by omega)]
    have hB8 : ∀ q, gI A2 238 q = if 24 * s ≤ q ∧ q < 24 * s + gI A 224 s then 1 else gI A 238 q := fun q => by
      rw [hA2]
      unfold sw_m
      rw [gI_sF, if_neg (by omega), gI_sF, if_pos rfl, w2A 238 (by omega) (by omega)]
    have hB9 : ∀ q, gI A2 239 q = if 192 * (24 * s) ≤ q ∧ q < 192 * (24 * s + gI A 224 s) then sh_v (vi C A1) s q else gI A 239 q := fun q => by
      rw [hA2]
      unfold sw_m
      rw [gI_sF, if_pos rfl, w2A 239 (by omega) (by omega)]
    have hBI : ∀ c i, ¬ (c = 238 ∨ c = 239) → gI A2 c i = gI W2 c i := fun c i hc => by
      rw [hA2]
      unfold sw_m
      rw [gI_sF, if_neg (by omega), gI_sF, if_neg (by omega)]
    have h2 : JT X C A2 := jt_shots (A := A) (W := W2) (s := s) h.x h.s h.t hjW2 hc e23 (w2A 224 (by omega) (by omega)) (fun c => by rw [hA2]; rfl) (fun c i => by rw [hA2]; rfl) hBI (funext fun i => by rw [w2I 50 i (by omega) (by omega), e1W 50 i (by omega)]; exact hw.l.I 50 i (by omega) (by omega)) (by rw [hLZ.y.S 50]; show gS A1 50 = _; rw [hA1]; exact hw.l.S 50) hB8 (fun s' f p f0 f1 p0 p1 s0 s1 hne => ?_) (fun f p f0 f1 p0 p1 => ?_) hj.s.b hj.s.z1 hj.m.g.fr
    · have o2 : gI A2 200 0 = 0 := by rw [hBI 200 0 (by omega), hLZ.y.I 200 0 (by omega) (by omega), gI_sIs]
      exact ⟨_, hb, o2, fun _ => by rw [hBI 140 0 (by omega), w2I 140 0 (by omega) (by omega), hA1, gI_sIs], C, h2⟩
    · have hfs' := hj.m.g.fr s' s0 s1
      refine ⟨?_, ?_⟩
      · rw [hB9, if_neg (by omega)]
      · rw [w2I _ _ (by omega) (by omega), e1W _ _ (by omega)]
        exact hw.l.I _ _ (by omega) (by omega)
    · rw [hB9, if_pos (by omega), w2I _ _ (by omega) (by omega), e1W _ _ (by omega), hw.n f p f0 f1 p0 p1]
      unfold sh_v
      rw [show (192 * (24 * s + f) + p) / 192 - 24 * s = f by omega, show (192 * (24 * s + f) + p) % 192 = p by omega]
      exact (ense s f _ _).symm
  · rw [hA1]
    refine ⟨_, rfl, by (repeat' split) <;> omega, ⟨h.s, h.x, hj.m.M.o⟩, (cm_shoot (A := A) hj.m hj.s.b rs).mono (fun b9 A2 hq => ?_) (fun _ _ h => h)⟩
    obtain ⟨hc, _⟩ | ⟨_, hb, hA2⟩ := hq
    · exact absurd hc hn
    refine ⟨0, hb, by rw [hA2, gI_sIs], fun hk => ?_, C, by rw [hA2]; exact JT_0 h⟩
    exfalso
    revert hk
    rw [if_neg hn]; omega
/-- a drawing was made on both sides -/
theorem jt_mk {X : Int → Int} {C : Int → cT} {V A1 A2 : mj_M} {a b nn m o v : Int} (h : JT X C A) (hn : gI A 200 3 < 16) (hf : fo (dnw_m (sN A (1000 + 100 * gI A 200 3) (.inl 0)) (1000 + 100 * gI A 200 3) (pd a) (pd b) nn m o) V (gI A 200 3)) (h13 : gI V (1000 + 100 * gI A 200 3) 13 = 0) (hA1 : A1 = sI (sI (sP V 101 (gI A 200 3) (some (1000 + 100 * gI A 200 3))) 100 1 (gI A 200 3 + 1)) 140 0 v) (hA2 : A2 = mk_m (sI A1 200 0 0) a b nn m)
    (t8 : (a = -1 ∧ b = -1 ∧ o = 0 ∧ gI V (1000 + 100 * gI A 200 3) 6 = 0 ∧ gI V (1000 + 100 * gI A 200 3) 9 = 0 ∧ gI V (1000 + 100 * gI A 200 3) 10 = 0) ∨ ((0 ≤ a ∧ a < gI A 200 3) ∧ (0 ≤ b ∧ b < gI A 200 3) ∧ (0 ≤ nn ∧ nn ≤ m) ∧ (1 ≤ m ∧ m ≤ 24) ∧ o = bo_m A a b ∧ cb nn m (ch_c A a) (ch_c A b) (ch_c V (gI A 200 3)))) : ∃ C', JT X C' A2 := by
  have hj := h.j
  have hnd := hj.m.g.nd
  have kS : ∀ c, ¬ (1000 + 100 * gI A 200 3 ≤ c ∧ c ≤ 1000 + 100 * gI A 200 3 + 15) → gS (dnw_m (sN A (1000 + 100 * gI A 200 3) (.inl 0)) (1000 + 100 * gI A 200 3) (pd a) (pd b) nn m o) c = gS A c := fun c hc => by rw [dnw_So (by omega), gS_sN, if_neg (by omega)]
  have kP : ∀ c i, ¬ (1000 + 100 * gI A 200 3 ≤ c ∧ c ≤ 1000 + 100 * gI A 200 3 + 15) → gP (dnw_m (sN A (1000 + 100 * gI A 200 3) (.inl 0)) (1000 + 100 * gI A 200 3) (pd a) (pd b) nn m o) c i = gP A c i := fun c i hc => by rw [dnw_Po hc, gP_sN, if_neg (by omega)]
  have kI : ∀ c i, ¬ (1000 + 100 * gI A 200 3 ≤ c ∧ c ≤ 1000 + 100 * gI A 200 3 + 15) → gI (dnw_m (sN A (1000 + 100 * gI A 200 3) (.inl 0)) (1000 + 100 * gI A 200 3) (pd a) (pd b) nn m o) c i = gI A c i := fun c i hc => by rw [dnw_Io hc, gI_sN, if_neg (by omega)]
  have vI : ∀ c i, ¬ (1000 + 100 * gI A 200 3 ≤ c ∧ c ≤ 1000 + 100 * gI A 200 3 + 15) → gI V c i = gI A c i := fun c i hc => (hf.I c i (by omega)).trans (kI c i hc)
  have g3 : gI (sI A1 200 0 0) 200 3 = gI A 200 3 := by rw [gI_sI, if_neg (by omega), hA1, gI_sI, if_neg (by omega), gI_sI, if_neg (by omega), gI_sP, vI _ _ (by omega)]
  unfold mk_m at hA2
  rw [g3] at hA2
  have hS2 : ∀ c, gS A2 c = gS V c := fun c => by rw [hA2]; show gS A1 c = _; rw [hA1]; rfl
  have hP2 : ∀ c i, ¬ (c = 101 ∧ i = gI A 200 3) → gP A2 c i = gP V c i := fun c i hc => by rw [hA2]; show gP A1 c i = _; rw [hA1, gP_sI, gP_sI, gP_sP, if_neg hc]
  have hI2 : ∀ c i, ¬ (c = 100 ∧ i = 1) → ¬ (c = 200 ∧ (i = 0 ∨ i = 3 ∨ i = 17)) → ¬ (c = 140 ∧ i = 0) → ¬ (204 ≤ c ∧ c ≤ 207 ∧ i = gI A 200 3) → gI A2 c i = gI V c i := fun c i h1 h2 h3 h4 => by
    rw [hA2, hA1]; simp only [gI_sI, gI_sP]; ((try simp only [true_and, and_true, if_true, and_self]); (repeat (first | rw [if_neg (by omega)] | rw [if_pos (by omega)])))
  have hDV : DS1 V (gI A 200 3) := DS1_ag (fun c c0 c1 => hf.S c) (fun c i c0 c1 => hf.P c i) (dnw_DS (by rw [gS_sN, if_pos rfl]))
  have hce : cr (ch_c V (gI A 200 3)) → ce (ch_c V (gI A 200 3)) (ch_c A2 (gI A 200 3)) := fun hcr => by
    have hDS : DS V (gI A 200 3 + 1) := fun d d0 d1 => by
      by_cases e : d = gI A 200 3
      · rw [e]; exact hDV
      · exact DS1_ag (A := A) (fun c c0 c1 => (hf.S c).trans (kS c (by omega))) (fun c i c0 c1 => (hf.P c i).trans (kP c i (by omega))) (hj.D d d0 (by omega))
    exact ch_ag (fun i => hP2 _ _ (by omega)) (fun c i c0 c1 => hI2 _ _ (by omega) (by omega) (by omega) (by omega)) (fun i i0 i1 => hDS.ek _ hnd.1 (by omega) i i0 i1) hcr
  have vT : ∀ i, ¬ (i = 6 ∨ i = 9 ∨ i = 10 ∨ i = 13) → gI A2 (1000 + 100 * gI A 200 3) i = if i = 4 then o else if i = 3 then m else if i = 2 then nn else 0 := fun i hi => by
    rw [hI2 _ _ (by omega) (by omega) (by omega) (by omega), hf.I _ _ (by omega), dnw_It, gI_sN, if_pos rfl]
  refine ⟨_, jt_new (A2 := A2) (a := a) (b := b) (nn := nn) (m := m) h hn (fun c hc => ((hS2 c).trans (hf.S c)).trans (kS c hc)) (fun c i hc h1 => ((hP2 c i h1).trans (hf.P c i)).trans (kP c i hc)) (fun c i hc h1 h2 h3 h4 => (hI2 c i h1 h2 h3 h4).trans (vI c i hc)) (DS1_ag (fun c c0 c1 => hS2 c) (fun c i c0 c1 => hP2 c i (by omega)) hDV) ?_ ⟨?_, ?_⟩ ?_ ?_ ?_ ⟨?_, ?_, ?_, ?_⟩ ⟨?_, ?_, ?_, ?_⟩ ?_⟩
  · rw [hA2]; show gP A1 101 _ = _; rw [hA1, gP_sI, gP_sI, gP_sP, if_pos ⟨rfl, rfl⟩]
  · rw [hP2 _ _ (by omega), hf.P, dnw_P0]
  · rw [hP2 _ _ (by omega), hf.P, dnw_P1]
  · rw [hA2, hA1]; simp only [gI_sI, gI_sP]; ((try simp only [true_and, and_true, if_true, and_self]); (repeat (first | rw [if_neg (by omega)] | rw [if_pos (by omega)])))
  · rw [hA2, gI_sIs]
  · rw [hA2]; simp only [gI_sI]; ((try simp only [true_and, and_true, if_true, and_self]); (repeat (first | rw [if_neg (by omega)] | rw [if_pos (by omega)])))
  · rw [hA2]; simp only [gI_sI]; ((try simp only [true_and, and_true, if_true, and_self]); (repeat (first | rw [if_neg (by omega)] | rw [if_pos (by omega)])))
  · rw [hA2]; simp only [gI_sI]; ((try simp only [true_and, and_true, if_true, and_self]); (repeat (first | rw [if_neg (by omega)] | rw [if_pos (by omega)])))
  · rw [hA2]; simp only [gI_sI]; ((try simp only [true_and, and_true, if_true, and_self]); (repeat (first | rw [if_neg (by omega)] | rw [if_pos (by omega)])))
  · rw [hA2]; simp only [gI_sI]; ((try simp only [true_and, and_true, if_true, and_self]); (repeat (first | rw [if_neg (by omega)] | rw [if_pos (by omega)])))
  · rw [vT 2 (by omega), if_neg (by omega), if_neg (by omega), if_pos rfl]
  · rw [vT 3 (by omega), if_neg (by omega), if_pos rfl]
  · rw [vT 11 (by omega), if_neg (by omega), if_neg (by omega), if_neg (by omega)]
  · rw [hI2 _ _ (by omega) (by omega) (by omega) (by omega)]; exact h13
  · have v4 : gI A2 (1000 + 100 * gI A 200 3) 4 = o := by rw [vT 4 (by omega), if_pos rfl]
    rcases t8 with ⟨q1, q2, q3, q6, q9, q10⟩ | ⟨q1, q2, q3, q4, q5, q6⟩
    · refine Or.inl ⟨q1, q2, v4.trans q3, ?_, ?_, ?_⟩
      · rw [hI2 _ _ (by omega) (by omega) (by omega) (by omega)]; exact q6
      · rw [hI2 _ _ (by omega) (by omega) (by omega) (by omega)]; exact q9
      · rw [hI2 _ _ (by omega) (by omega) (by omega) (by omega)]; exact q10
    · exact Or.inr ⟨q1, q2, q3, q4, v4.trans q5, cb_e q6 ce_rf ce_rf (hce (cb_r q6 (hj.cr a q1.1 q1.2) (hj.cr b q2.1 q2.2) q3 q4.1))⟩
theorem mk_0 {A1 A2 : mj_M} {a b n d v : Int} (hA2 : A2 = mk_m (sI A1 200 0 0) a b n d) (h : gI A1 140 0 = v) : gI A2 200 0 = 0 ∧ gI A2 140 0 = v := by
  unfold mk_m at hA2
  rw [hA2]
  refine ⟨?_, ?_⟩
  · simp only [gI_sI]; ((try simp only [true_and, and_true, if_true, and_self]); (repeat (first | rw [if_neg (by omega)] | rw [if_pos (by omega)])))
  · simp only [gI_sI]; ((try simp only [true_and, and_true, if_true, and_self]); (repeat (first | rw [if_neg (by omega)] | rw [if_pos (by omega)]))); exact h
theorem ky_I {n c i : Int} (h : ¬ (1000 + 100 * n ≤ c ∧ c ≤ 1000 + 100 * n + 15)) (h2 : ¬ (c = 100 ∧ i = 1)) : gI (ky_m A n) c i = gI A c i := by
  unfold ky_m
  rw [gI_sI, if_neg h2, gI_sP, dnw_Io h, gI_sN, if_neg (by omega)]
theorem ky_P {n c i : Int} (h : ¬ (1000 + 100 * n ≤ c ∧ c ≤ 1000 + 100 * n + 15)) (h2 : ¬ (c = 101 ∧ i = n)) : gP (ky_m A n) c i = gP A c i := by
  unfold ky_m
  rw [gP_sI, gP_sP, if_neg h2, dnw_Po h, gP_sN, if_neg (by omega)]
theorem bw_I {a b n d c i : Int} (h : ¬ (1000 + 100 * gI A 200 3 ≤ c ∧ c ≤ 1000 + 100 * gI A 200 3 + 15)) : gI (bw_m A a b n d) c i = gI A c i := by
  unfold bw_m
  rw [dnw_Io h, gI_sN, if_neg (by omega)]
theorem bw_P {a b n d c i : Int} (h : ¬ (1000 + 100 * gI A 200 3 ≤ c ∧ c ≤ 1000 + 100 * gI A 200 3 + 15)) : gP (bw_m A a b n d) c i = gP A c i := by
  unfold bw_m
  rw [dnw_Po h, gP_sN, if_neg (by omega)]
theorem js_key {X : Int → Int} {C : Int → cT} (h : JT X C A) : mj_Cal G n_L_key [mR (some 100), mR (some 140)] A (fun r A1 => ∃ kk, r = some (mI kk) ∧ (0 ≤ kk ∧ kk ≤ 3) ∧ (gS A1 50 = some (.inl 99) ∧ gI A1 50 = X ∧ gS A1 200 = some (.inl 7)) ∧ mj_Cal G n_M_key [mR (some 200)] A1 (fun b A2 => ∃ v, b = some (mI v) ∧ gI A2 200 0 = kk ∧ (kk = 0 → gI A2 140 0 = nrm v) ∧ JE X A2) mj_no) mj_no := by
  refine (lx_key h).mono (fun r A1 hp => ?_) (fun _ _ h => h)
  have hj := h.j
  have hnd := hj.m.g.nd
  have hns := hj.m.g.ns
  have hnp := hj.m.p.np
  rcases hp with ⟨hc, rfl, W, hw, hA1⟩ | ⟨hn, rfl, hA1⟩
  · have eG : ∀ c, (c = 50 ∨ (200 ≤ c ∧ c ≤ 245)) → gI A1 c = gI A c := fun c c0 => funext fun i => by rw [hA1, gI_sI, if_neg (by omega), hw]; exact ky_I (by omega) (by omega)
    have e : ∀ c, 200 ≤ c → c ≤ 245 → gI A1 c = gI A c := fun c c0 c1 => eG c (Or.inr ⟨c0, c1⟩)
    have hSG : ∀ c, (c = 50 ∨ (200 ≤ c ∧ c ≤ 245)) → gS A1 c = gS A c := fun c c0 => by rw [hA1, hw]; show gS (ky_m A (gI A 200 3)) c = _; exact ky_S (by omega)
    have hSm : ∀ c, 200 ≤ c → c ≤ 245 → gS A1 c = gS A c := fun c c0 c1 => hSG c (Or.inr ⟨c0, c1⟩)
    have hPm : ∀ c i, 200 ≤ c → c ≤ 245 → gP A1 c i = gP A c i := fun c i c0 c1 => by rw [hA1, hw]; show gP (ky_m A (gI A 200 3)) c i = _; exact ky_P (by omega) (by omega)
    have hm1 : MI C A1 := MI_ag (A := A) hSm hPm (fun c i c0 c1 => congrFun (e c c0 c1) i) hj.m
    refine ⟨0, rfl, by omega, ⟨(hSG 50 (Or.inl rfl)).trans h.s, (eG 50 (Or.inl rfl)).trans h.x, hm1.M.o⟩, (cm_key (A := A1) hm1.M hm1.g.nd).mono (fun b9 A2 hq => ?_) (fun _ _ h => h)⟩
    try simp only [e 200 (by omega) (by omega), e 204 (by omega) (by omega), e 205 (by omega) (by omega), e 206 (by omega) (by omega), e 207 (by omega) (by omega), e 208 (by omega) (by omega), e 209 (by omega) (by omega), e 210 (by omega) (by omega), e 211 (by omega) (by omega), e 212 (by omega) (by omega), e 213 (by omega) (by omega), e 214 (by omega) (by omega), e 215 (by omega) (by omega), e 216 (by omega) (by omega), e 222 (by omega) (by omega), e 224 (by omega) (by omega), e 225 (by omega) (by omega), e 226 (by omega) (by omega), e 227 (by omega) (by omega), e 228 (by omega) (by omega), e 229 (by omega) (by omega), e 230 (by omega) (by omega), e 231 (by omega) (by omega), e 233 (by omega) (by omega), e 234 (by omega) (by omega), e 235 (by omega) (by omega), e 236 (by omega) (by omega), e 237 (by omega) (by omega), e 238 (by omega) (by omega), e 239 (by omega) (by omega), e 241 (by omega) (by omega), e 244 (by omega) (by omega)] at hq
    obtain ⟨_, hb, hA2⟩ | ⟨hn, _⟩ := hq
    rotate_left
    · exfalso; omega
    have hK : ∀ i, ¬ (2 ≤ i ∧ i ≤ 4) → gI (dnw_m (sN A (1000 + 100 * gI A 200 3) (.inl 0)) (1000 + 100 * gI A 200 3) (pd (-1)) (pd (-1)) 0 1 0) (1000 + 100 * gI A 200 3) i = 0 := fun i hi => by
      rw [dnw_It, if_neg (by omega), if_neg (by omega), if_neg (by omega), gI_sN, if_pos rfl]
    have h2 := jt_mk (C := C) (A1 := A1) (v := nrm (gI A 200 3)) (o := 0) h hc fo_rf (hK 13 (by omega)) (by rw [hA1, hw]; rfl) hA2 (Or.inl ⟨rfl, rfl, rfl, hK 6 (by omega), hK 9 (by omega), hK 10 (by omega)⟩)
    have h3 := mk_0 hA2 (v := nrm (gI A 200 3)) (by rw [hA1, gI_sIs])
    exact ⟨_, hb, h3.1, fun _ => h3.2, h2⟩
  · rw [hA1]
    refine ⟨_, rfl, by (repeat' split) <;> omega, ⟨h.s, h.x, hj.m.M.o⟩, (cm_key (A := A) hj.m.M hj.m.g.nd).mono (fun b9 A2 hq => ?_) (fun _ _ h => h)⟩
    obtain ⟨hc, _⟩ | ⟨hn2, hb, hA2⟩ := hq
    · exact absurd hc hn
    refine ⟨0, hb, by rw [hA2, gI_sIs, if_neg hn], fun hk => ?_, C, by rw [hA2]; exact JT_0 h⟩
    exfalso
    revert hk
    rw [if_neg hn]; omega
theorem js_between {X : Int → Int} {C : Int → cT} {a b n d : Int} (h : JT X C A) (ra : r32 a) (rb : r32 b) (rn : r32 n) (rd : r32 d) : mj_Cal G n_L_between [mR (some 100), mI a, mI b, mI n, mI d, mR (some 140)] A (fun r A1 => ∃ kk, r = some (mI kk) ∧ (0 ≤ kk ∧ kk ≤ 3) ∧ (gS A1 50 = some (.inl 99) ∧ gI A1 50 = X ∧ gS A1 200 = some (.inl 7)) ∧ mj_Cal G n_M_between [mR (some 200), mI a, mI b, mI n, mI d] A1 (fun b A2 => ∃ v, b = some (mI v) ∧ gI A2 200 0 = kk ∧ (kk = 0 → gI A2 140 0 = nrm v) ∧ JE X A2) mj_no) mj_no := by
  refine (lx_between h ra rb rn rd).mono (fun r A1 hp => ?_) (fun _ _ h => h)
  have hj := h.j
  have hnd := hj.m.g.nd
  have hns := hj.m.g.ns
  have hnp := hj.m.p.np
  rcases hp with ⟨hc, rfl, W, hw, hA1⟩ | ⟨hn, rfl, hA1⟩
  · obtain ⟨V, hf, h13, hcb, hW⟩ := hw
    have eG : ∀ c, (c = 50 ∨ (200 ≤ c ∧ c ≤ 245)) → gI A1 c = gI A c := fun c c0 => funext fun i => by rw [hA1, gI_sI, if_neg (by omega), hW, gI_sI, if_neg (by omega), gI_sP]; exact (hf.I c i (by omega)).trans (bw_I (by omega))
    have e : ∀ c, 200 ≤ c → c ≤ 245 → gI A1 c = gI A c := fun c c0 c1 => eG c (Or.inr ⟨c0, c1⟩)
    have hSG : ∀ c, (c = 50 ∨ (200 ≤ c ∧ c ≤ 245)) → gS A1 c = gS A c := fun c c0 => by rw [hA1, hW]; show gS V c = _; exact (hf.S c).trans (bw_S (by omega))
    have hSm : ∀ c, 200 ≤ c → c ≤ 245 → gS A1 c = gS A c := fun c c0 c1 => hSG c (Or.inr ⟨c0, c1⟩)
    have hPm : ∀ c i, 200 ≤ c → c ≤ 245 → gP A1 c i = gP A c i := fun c i c0 c1 => by rw [hA1, hW, gP_sI, gP_sI, gP_sP, if_neg (by omega)]; exact (hf.P c i).trans (bw_P (by omega))
    have hm1 : MI C A1 := MI_ag (A := A) hSm hPm (fun c i c0 c1 => congrFun (e c c0 c1) i) hj.m
    refine ⟨0, rfl, by omega, ⟨(hSG 50 (Or.inl rfl)).trans h.s, (eG 50 (Or.inl rfl)).trans h.x, hm1.M.o⟩, (cm_between (A := A1) hm1.M hm1.g.nd ra rb rn rd).mono (fun b9 A2 hq => ?_) (fun _ _ h => h)⟩
    try simp only [e 200 (by omega) (by omega), e 204 (by omega) (by omega), e 205 (by omega) (by omega), e 206 (by omega) (by omega), e 207 (by omega) (by omega), e 208 (by omega) (by omega), e 209 (by omega) (by omega), e 210 (by omega) (by omega), e 211 (by omega) (by omega), e 212 (by omega) (by omega), e 213 (by omega) (by omega), e 214 (by omega) (by omega), e 215 (by omega) (by omega), e 216 (by omega) (by omega), e 222 (by omega) (by omega), e 224 (by omega) (by omega), e 225 (by omega) (by omega), e 226 (by omega) (by omega), e 227 (by omega) (by omega), e 228 (by omega) (by omega), e 229 (by omega) (by omega), e 230 (by omega) (by omega), e 231 (by omega) (by omega), e 233 (by omega) (by omega), e 234 (by omega) (by omega), e 235 (by omega) (by omega), e 236 (by omega) (by omega), e 237 (by omega) (by omega), e 238 (by omega) (by omega), e 239 (by omega) (by omega), e 241 (by omega) (by omega), e 244 (by omega) (by omega)] at hq
    obtain ⟨_, hb, hA2⟩ | ⟨hn, _⟩ := hq
    rotate_left
    · exact absurd hc hn
    have hbw : fo (dnw_m (sN A (1000 + 100 * gI A 200 3) (.inl 0)) (1000 + 100 * gI A 200 3) (pd a) (pd b) n d (bo_m A a b)) V (gI A 200 3) := by
      have e1 : pd a = some (1000 + 100 * a) := if_neg (by omega)
      have e2 : pd b = some (1000 + 100 * b) := if_neg (by omega)
      rw [e1, e2]
      exact hf
    have h2 := jt_mk (C := C) (A1 := A1) (v := nrm (gI A 200 3)) h hc.2.2 hbw h13 (by rw [hA1, hW]) hA2 (Or.inr ⟨⟨hc.1.1, hc.1.2.1⟩, ⟨hc.1.2.2.1, hc.1.2.2.2⟩, ⟨hc.2.1.2.2.1, hc.2.1.2.2.2⟩, ⟨hc.2.1.1, hc.2.1.2.1⟩, rfl, hcb⟩)
    have h3 := mk_0 hA2 (v := nrm (gI A 200 3)) (by rw [hA1, gI_sIs])
    exact ⟨_, hb, h3.1, fun _ => h3.2, h2⟩
  · rw [hA1]
    refine ⟨_, rfl, by (repeat' split) <;> omega, ⟨h.s, h.x, hj.m.M.o⟩, (cm_between (A := A) hj.m.M hj.m.g.nd ra rb rn rd).mono (fun b9 A2 hq => ?_) (fun _ _ h => h)⟩
    obtain ⟨hc, _⟩ | ⟨_, hb, hA2⟩ := hq
    · exact absurd hc hn
    refine ⟨0, hb, by rw [hA2, gI_sIs], fun hk => ?_, C, by rw [hA2]; exact JT_0 h⟩
    exfalso
    revert hk
    by_cases h1 : (0 ≤ a ∧ a < gI A 200 3 ∧ 0 ≤ b ∧ b < gI A 200 3)
    · rw [if_pos h1]
      by_cases h2 : (1 ≤ d ∧ d ≤ 24 ∧ 0 ≤ n ∧ n ≤ d)
      · rw [if_pos h2, if_neg (fun h3 => hn ⟨h1, h2, h3⟩)]; omega
      · rw [if_neg h2]; omega
    · rw [if_neg h1]; omega
end STPI
