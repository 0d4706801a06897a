/-! THE LAW, 3: steps that ask -/
section STPF
variable {G : mj_G} {A : mj_M}
theorem mi_hp {C : Int → cT} (h : MI C A) : mo_hp A := fun k k0 k1 k2 => ⟨(h.C.b k k0 k1 k2).1.a, (h.C.b k k0 k1 k2).1.b⟩
theorem mo_fb_cg {B : mj_M} {C : Int → cT} {s f : Int} (h : ∀ c, 222 ≤ c → c ≤ 237 → gI B c = gI A c) : ∀ n : Nat, mo_fb C B s f n = mo_fb C A s f n
  | 0 => rfl
  | n + 1 => by rw [mo_fb, mo_fb, mo_fb_cg h n, mo_ha_c h]
theorem mo_fj_cg {B : mj_M} {s f : Int} (h : ∀ c, 222 ≤ c → c ≤ 237 → gI B c = gI A c) : ∀ n : Nat, mo_fj B s f n = mo_fj A s f n
  | 0 => rfl
  | n + 1 => by rw [mo_fj, mo_fj, mo_fj_cg h n, mo_ha_c h, mo_ha_c h, mo_ha_c h, h 224 (by omega) (by omega)]
theorem mo_fa_cg {B : mj_M} {C : Int → cT} {s f : Int} (h : ∀ c, 222 ≤ c → c ≤ 237 → gI B c = gI A c) : mo_fa C B s f = mo_fa C A s f := by
  unfold mo_fa mo_fe
  rw [mo_fb_cg h, mo_fj_cg h]
  have e : (fun p : Int => decide (mo_se (vi C B) s f (p.tmod 16) (p.tdiv 16) = 0)) = (fun p : Int => decide (mo_se (vi C A) s f (p.tmod 16) (p.tdiv 16) = 0)) := funext fun p => by
    rw [mo_se_c (A := vi C A) (B := vi C B) (fun c c0 c1 => by rw [vi_fn (by omega), vi_fn (by omega), h c c0 c1]) rfl]
  rw [e]
theorem js_of {X : Int → Int} {C : Int → cT} {d w : Int} (h : JT X C A) (rd : r32 d) (rw : r32 w) : mj_Cal G n_L_of [mR (some 100), mI d, mI w, mR (some 140)] A (fun r A1 => ∃ kk, r = some (mI kk) ∧ (0 ≤ kk ∧ kk ≤ 3) ∧ (gS A1 50 = some (.inl 99) ∧ gI A1 50 = X ∧ gS A1 200 = some (.inl 7)) ∧ mj_Cal G n_M_of [mR (some 200), mI d, mI w] A1 (fun b A2 => ∃ v, b = some (mI v) ∧ gI A2 200 0 = kk ∧ (kk = 0 → gI A2 140 0 = nrm v) ∧ JE X A2) mj_no) mj_no := by
  refine (lx_of h rd rw).mono (fun r A1 hp => ?_) (fun _ _ h => h)
  have hj := h.j
  have hnd := hj.m.g.nd
  have hns := hj.m.g.ns
  have hnp := hj.m.p.np
  rcases hp with ⟨hc, rfl, W, hw, hA1⟩ | ⟨hn, rfl, hA1⟩
  · have eG : ∀ c, (c = 50 ∨ (200 ≤ c ∧ c ≤ 245)) → gI A1 c = gI A c := fun c c0 => funext fun i => by rw [hA1, gI_sI, if_neg (by omega)]; exact hw.l.I c i (by omega)
    have e : ∀ c, 200 ≤ c → c ≤ 245 → gI A1 c = gI A c := fun c c0 c1 => eG c (Or.inr ⟨c0, c1⟩)
    have hSG : ∀ c, (c = 50 ∨ (200 ≤ c ∧ c ≤ 245)) → gS A1 c = gS A c := fun c c0 => by rw [hA1]; exact hw.l.S c
    have hSm : ∀ c, 200 ≤ c → c ≤ 245 → gS A1 c = gS A c := fun c c0 c1 => hSG c (Or.inr ⟨c0, c1⟩)
    have hPm : ∀ c i, 200 ≤ c → c ≤ 245 → gP A1 c i = gP A c i := fun c i c0 c1 => by rw [hA1]; exact hw.l.P c i
    have hm1 : MI C A1 := MI_ag (A := A) hSm hPm (fun c i c0 c1 => congrFun (e c c0 c1) i) hj.m
    refine ⟨0, rfl, by omega, ⟨(hSG 50 (Or.inl rfl)).trans h.s, (eG 50 (Or.inl rfl)).trans h.x, hm1.M.o⟩, (cm_of (A := A1) hm1 rd rw).mono (fun b9 A2 hq => ?_) (fun _ _ h => h)⟩
    try simp only [e 200 (by omega) (by omega), e 204 (by omega) (by omega), e 205 (by omega) (by omega), e 206 (by omega) (by omega), e 207 (by omega) (by omega), e 208 (by omega) (by omega), e 209 (by omega) (by omega), e 210 (by omega) (by omega), e 211 (by omega) (by omega), e 212 (by omega) (by omega), e 213 (by omega) (by omega), e 214 (by omega) (by omega), e 215 (by omega) (by omega), e 216 (by omega) (by omega), e 222 (by omega) (by omega), e 224 (by omega) (by omega), e 225 (by omega) (by omega), e 226 (by omega) (by omega), e 227 (by omega) (by omega), e 228 (by omega) (by omega), e 229 (by omega) (by omega), e 230 (by omega) (by omega), e 231 (by omega) (by omega), e 233 (by omega) (by omega), e 234 (by omega) (by omega), e 235 (by omega) (by omega), e 236 (by omega) (by omega), e 237 (by omega) (by omega), e 238 (by omega) (by omega), e 239 (by omega) (by omega), e 241 (by omega) (by omega), e 244 (by omega) (by omega)] at hq
    obtain ⟨_, hb, hA2⟩ | ⟨hn, _⟩ := hq
    rotate_left
    · exact absurd hc hn
    have h1 : JT X C A1 := by rw [hA1]; exact JT_o (JT_cq h hw)
    have h2 := JT_LZ (JT_0 (v := 0) h1) hA2
    have o1 : gI A2 140 0 = gI A1 140 0 := hA2.y.I 140 0 (by omega) (by omega)
    have o2 : gI A2 200 0 = 0 := hA2.y.I 200 0 (by omega) (by omega)
    exact ⟨_, hb, o2, fun _ => o1.trans (by rw [hA1, gI_sIs]), C, h2⟩
  · rw [hA1]
    refine ⟨_, rfl, by (repeat' split) <;> omega, ⟨h.s, h.x, hj.m.M.o⟩, (cm_of (A := A) hj.m rd rw).mono (fun b9 A2 hq => ?_) (fun _ _ h => h)⟩
    obtain ⟨hc, _⟩ | ⟨_, hb, hA2⟩ := hq
    · exact absurd hc hn
    refine ⟨0, hb, by rw [hA2, gI_sIs], fun hk => ?_, C, by rw [hA2]; exact JT_0 h⟩
    exfalso
    revert hk
    by_cases h1 : (0 ≤ d ∧ d < gI A 200 3)
    · rw [if_pos h1, if_neg (fun h2 => hn ⟨h1, h2⟩)]; omega
    · rw [if_neg h1]; omega
theorem js_point {X : Int → Int} {C : Int → cT} {d x y : Int} (h : JT X C A) (rd : r32 d) (rx : r32 x) (ry : r32 y) : mj_Cal G n_L_point [mR (some 100), mI d, mI x, mI y, mR (some 140)] A (fun r A1 => ∃ kk, r = some (mI kk) ∧ (0 ≤ kk ∧ kk ≤ 3) ∧ (gS A1 50 = some (.inl 99) ∧ gI A1 50 = X ∧ gS A1 200 = some (.inl 7)) ∧ mj_Cal G n_M_point [mR (some 200), mI d, mI x, mI y] A1 (fun b A2 => ∃ v, b = some (mI v) ∧ gI A2 200 0 = kk ∧ (kk = 0 → gI A2 140 0 = nrm v) ∧ JE X A2) mj_no) mj_no := by
  refine (lx_point h rd rx ry).mono (fun r A1 hp => ?_) (fun _ _ h => h)
  have hj := h.j
  have hnd := hj.m.g.nd
  have hns := hj.m.g.ns
  have hnp := hj.m.p.np
  rcases hp with ⟨hc, rfl, W, hw, hA1⟩ | ⟨hn, rfl, hA1⟩
  · have eG : ∀ c, (c = 50 ∨ (200 ≤ c ∧ c ≤ 245)) → gI A1 c = gI A c := fun c c0 => funext fun i => by rw [hA1, gI_sI, if_neg (by omega)]; exact hw.l.I c i (by omega)
    have e : ∀ c, 200 ≤ c → c ≤ 245 → gI A1 c = gI A c := fun c c0 c1 => eG c (Or.inr ⟨c0, c1⟩)
    have hSG : ∀ c, (c = 50 ∨ (200 ≤ c ∧ c ≤ 245)) → gS A1 c = gS A c := fun c c0 => by rw [hA1]; exact hw.l.S c
    have hSm : ∀ c, 200 ≤ c → c ≤ 245 → gS A1 c = gS A c := fun c c0 c1 => hSG c (Or.inr ⟨c0, c1⟩)
    have hPm : ∀ c i, 200 ≤ c → c ≤ 245 → gP A1 c i = gP A c i := fun c i c0 c1 => by rw [hA1]; exact hw.l.P c i
    have hm1 : MI C A1 := MI_ag (A := A) hSm hPm (fun c i c0 c1 => congrFun (e c c0 c1) i) hj.m
    refine ⟨0, rfl, by omega, ⟨(hSG 50 (Or.inl rfl)).trans h.s, (eG 50 (Or.inl rfl)).trans h.x, hm1.M.o⟩, (cm_point (A := A1) hm1 rd rx ry).mono (fun b9 A2 hq => ?_) (fun _ _ h => h)⟩
    try simp only [e 200 (by omega) (by omega), e 204 (by omega) (by omega), e 205 (by omega) (by omega), e 206 (by omega) (by omega), e 207 (by omega) (by omega), e 208 (by omega) (by omega), e 209 (by omega) (by omega), e 210 (by omega) (by omega), e 211 (by omega) (by omega), e 212 (by omega) (by omega), e 213 (by omega) (by omega), e 214 (by omega) (by omega), e 215 (by omega) (by omega), e 216 (by omega) (by omega), e 222 (by omega) (by omega), e 224 (by omega) (by omega), e 225 (by omega) (by omega), e 226 (by omega) (by omega), e 227 (by omega) (by omega), e 228 (by omega) (by omega), e 229 (by omega) (by omega), e 230 (by omega) (by omega), e 231 (by omega) (by omega), e 233 (by omega) (by omega), e 234 (by omega) (by omega), e 235 (by omega) (by omega), e 236 (by omega) (by omega), e 237 (by omega) (by omega), e 238 (by omega) (by omega), e 239 (by omega) (by omega), e 241 (by omega) (by omega), e 244 (by omega) (by omega)] at hq
    obtain ⟨_, hb, hA2⟩ | ⟨hn, _⟩ := hq
    rotate_left
    · exact absurd hc hn
    have h1 : JT X C A1 := by rw [hA1]; exact JT_o (JT_cq h hw)
    have h2 := JT_LZ (JT_0 (v := 0) h1) hA2
    have o1 : gI A2 140 0 = gI A1 140 0 := hA2.y.I 140 0 (by omega) (by omega)
    have o2 : gI A2 200 0 = 0 := hA2.y.I 200 0 (by omega) (by omega)
    exact ⟨_, hb, o2, fun _ => o1.trans (by rw [hA1, gI_sIs]), C, h2⟩
  · rw [hA1]
    refine ⟨_, rfl, by (repeat' split) <;> omega, ⟨h.s, h.x, hj.m.M.o⟩, (cm_point (A := A) hj.m rd rx ry).mono (fun b9 A2 hq => ?_) (fun _ _ h => h)⟩
    obtain ⟨hc, _⟩ | ⟨_, hb, hA2⟩ := hq
    · exact absurd hc hn
    refine ⟨0, hb, by rw [hA2, gI_sIs], fun hk => ?_, C, by rw [hA2]; exact JT_0 h⟩
    exfalso
    revert hk
    rw [if_neg hn]; omega
theorem js_has {X : Int → Int} {C : Int → cT} {s l f : Int} (h : JT X C A) (rs : r32 s) (rl : r32 l) (rf : r32 f) : mj_Cal G n_L_has [mR (some 100), mI s, mI l, mI f, mR (some 140)] A (fun r A1 => ∃ kk, r = some (mI kk) ∧ (0 ≤ kk ∧ kk ≤ 3) ∧ (gS A1 50 = some (.inl 99) ∧ gI A1 50 = X ∧ gS A1 200 = some (.inl 7)) ∧ mj_Cal G n_M_has [mR (some 200), mI s, mI l, mI f] A1 (fun b A2 => ∃ v, b = some (mI v) ∧ gI A2 200 0 = kk ∧ (kk = 0 → gI A2 140 0 = nrm v) ∧ JE X A2) mj_no) mj_no := by
  refine (lx_has h rs rl rf).mono (fun r A1 hp => ?_) (fun _ _ h => h)
  have hj := h.j
  have hnd := hj.m.g.nd
  have hns := hj.m.g.ns
  have hnp := hj.m.p.np
  rcases hp with ⟨hc, rfl, W, hw, hA1⟩ | ⟨hn, rfl, hA1⟩
  · have eG : ∀ c, (c = 50 ∨ (200 ≤ c ∧ c ≤ 245)) → gI A1 c = gI A c := fun c c0 => funext fun i => by rw [hA1, gI_sI, if_neg (by omega), hw]
    have e : ∀ c, 200 ≤ c → c ≤ 245 → gI A1 c = gI A c := fun c c0 c1 => eG c (Or.inr ⟨c0, c1⟩)
    have hSG : ∀ c, (c = 50 ∨ (200 ≤ c ∧ c ≤ 245)) → gS A1 c = gS A c := fun c c0 => by rw [hA1, hw]; rfl
    have hSm : ∀ c, 200 ≤ c → c ≤ 245 → gS A1 c = gS A c := fun c c0 c1 => hSG c (Or.inr ⟨c0, c1⟩)
    have hPm : ∀ c i, 200 ≤ c → c ≤ 245 → gP A1 c i = gP A c i := fun c i c0 c1 => by rw [hA1, hw]; rfl
    have hm1 : MI C A1 := MI_ag (A := A) hSm hPm (fun c i c0 c1 => congrFun (e c c0 c1) i) hj.m
    have h22 := fun c (c0 : 222 ≤ c) (c1 : c ≤ 237) => e c (by omega) (by omega)
    have enha := fun s l f => mo_ha_c (A := A) (B := A1) (s := s) (l := l) (f := f) h22
    refine ⟨0, rfl, by omega, ⟨(hSG 50 (Or.inl rfl)).trans h.s, (eG 50 (Or.inl rfl)).trans h.x, hm1.M.o⟩, (cm_has (A := A1) hm1.M hm1.g rs rl rf).mono (fun b9 A2 hq => ?_) (fun _ _ h => h)⟩
    try simp only [e 200 (by omega) (by omega), e 204 (by omega) (by omega), e 205 (by omega) (by omega), e 206 (by omega) (by omega), e 207 (by omega) (by omega), e 208 (by omega) (by omega), e 209 (by omega) (by omega), e 210 (by omega) (by omega), e 211 (by omega) (by omega), e 212 (by omega) (by omega), e 213 (by omega) (by omega), e 214 (by omega) (by omega), e 215 (by omega) (by omega), e 216 (by omega) (by omega), e 222 (by omega) (by omega), e 224 (by omega) (by omega), e 225 (by omega) (by omega), e 226 (by omega) (by omega), e 227 (by omega) (by omega), e 228 (by omega) (by omega), e 229 (by omega) (by omega), e 230 (by omega) (by omega), e 231 (by omega) (by omega), e 233 (by omega) (by omega), e 234 (by omega) (by omega), e 235 (by omega) (by omega), e 236 (by omega) (by omega), e 237 (by omega) (by omega), e 238 (by omega) (by omega), e 239 (by omega) (by omega), e 241 (by omega) (by omega), e 244 (by omega) (by omega), enha] at hq
    obtain ⟨_, hb, hA2⟩ | ⟨hn, _⟩ := hq
    rotate_left
    · exact absurd hc hn
    have h1 : JT X C A1 := by rw [hA1]; exact (by rw [hw]; exact JT_o h)
    have h2 : JT X C A2 := by rw [hA2]; exact JT_0 h1
    exact ⟨_, hb, by rw [hA2, gI_sIs], fun _ => by rw [hA2, gI_sI, if_neg (by omega), hA1, gI_sIs], C, h2⟩
  · rw [hA1]
    refine ⟨_, rfl, by (repeat' split) <;> omega, ⟨h.s, h.x, hj.m.M.o⟩, (cm_has (A := A) hj.m.M hj.m.g rs rl rf).mono (fun b9 A2 hq => ?_) (fun _ _ h => h)⟩
    obtain ⟨hc, _⟩ | ⟨_, hb, hA2⟩ := hq
    · exact absurd hc hn
    refine ⟨0, hb, by rw [hA2, gI_sIs], fun hk => ?_, C, by rw [hA2]; exact JT_0 h⟩
    exfalso
    revert hk
    rw [if_neg hn]; omega
theorem js_moved {X : Int → Int} {C : Int → cT} {s l f z : Int} (h : JT X C A) (rs : r32 s) (rl : r32 l) (rf : r32 f) (hz : z = 0 ∨ z = 1) : mj_Cal G n_L_moved [mR (some 100), mI s, mI l, mI f, mI z, mR (some 140)] A (fun r A1 => ∃ kk, r = some (mI kk) ∧ (0 ≤ kk ∧ kk ≤ 3) ∧ (gS A1 50 = some (.inl 99) ∧ gI A1 50 = X ∧ gS A1 200 = some (.inl 7)) ∧ mj_Cal G n_M_moved [mR (some 200), mI s, mI l, mI f, mI z] A1 (fun b A2 => ∃ v, b = some (mI v) ∧ gI A2 200 0 = kk ∧ (kk = 0 → gI A2 140 0 = nrm v) ∧ JE X A2) mj_no) mj_no := by
  refine (lx_moved h rs rl rf hz).mono (fun r A1 hp => ?_) (fun _ _ h => h)
  have hj := h.j
  have hnd := hj.m.g.nd
  have hns := hj.m.g.ns
  have hnp := hj.m.p.np
  rcases hp with ⟨hc, rfl, W, hw, hA1⟩ | ⟨hn, rfl, hA1⟩
  · have eG : ∀ c, (c = 50 ∨ (200 ≤ c ∧ c ≤ 245)) → gI A1 c = gI A c := fun c c0 => funext fun i => by rw [hA1, gI_sI, if_neg (by omega), hw]
    have e : ∀ c, 200 ≤ c → c ≤ 245 → gI A1 c = gI A c := fun c c0 c1 => eG c (Or.inr ⟨c0, c1⟩)
    have hSG : ∀ c, (c = 50 ∨ (200 ≤ c ∧ c ≤ 245)) → gS A1 c = gS A c := fun c c0 => by rw [hA1, hw]; rfl
    have hSm : ∀ c, 200 ≤ c → c ≤ 245 → gS A1 c = gS A c := fun c c0 c1 => hSG c (Or.inr ⟨c0, c1⟩)
    have hPm : ∀ c i, 200 ≤ c → c ≤ 245 → gP A1 c i = gP A c i := fun c i c0 c1 => by rw [hA1, hw]; rfl
    have hm1 : MI C A1 := MI_ag (A := A) hSm hPm (fun c i c0 c1 => congrFun (e c c0 c1) i) hj.m
    have h22 := fun c (c0 : 222 ≤ c) (c1 : c ≤ 237) => e c (by omega) (by omega)
    have enmv := fun s l f z => mo_mv_c (A := A) (B := A1) (s := s) (l := l) (f := f) (z := z) h22
    refine ⟨0, rfl, by omega, ⟨(hSG 50 (Or.inl rfl)).trans h.s, (eG 50 (Or.inl rfl)).trans h.x, hm1.M.o⟩, (cm_moved (A := A1) hm1.M hm1.g hm1.p hm1.h rs rl rf hz).mono (fun b9 A2 hq => ?_) (fun _ _ h => h)⟩
    try simp only [e 200 (by omega) (by omega), e 204 (by omega) (by omega), e 205 (by omega) (by omega), e 206 (by omega) (by omega), e 207 (by omega) (by omega), e 208 (by omega) (by omega), e 209 (by omega) (by omega), e 210 (by omega) (by omega), e 211 (by omega) (by omega), e 212 (by omega) (by omega), e 213 (by omega) (by omega), e 214 (by omega) (by omega), e 215 (by omega) (by omega), e 216 (by omega) (by omega), e 222 (by omega) (by omega), e 224 (by omega) (by omega), e 225 (by omega) (by omega), e 226 (by omega) (by omega), e 227 (by omega) (by omega), e 228 (by omega) (by omega), e 229 (by omega) (by omega), e 230 (by omega) (by omega), e 231 (by omega) (by omega), e 233 (by omega) (by omega), e 234 (by omega) (by omega), e 235 (by omega) (by omega), e 236 (by omega) (by omega), e 237 (by omega) (by omega), e 238 (by omega) (by omega), e 239 (by omega) (by omega), e 241 (by omega) (by omega), e 244 (by omega) (by omega), enmv] at hq
    obtain ⟨_, hb, hA2⟩ | ⟨hn, _⟩ := hq
    rotate_left
    · exact absurd hc hn
    have h1 : JT X C A1 := by rw [hA1]; exact (by rw [hw]; exact JT_o h)
    have h2 : JT X C A2 := by rw [hA2]; exact JT_0 h1
    exact ⟨_, hb, by rw [hA2, gI_sIs], fun _ => by rw [hA2, gI_sI, if_neg (by omega), hA1, gI_sIs], C, h2⟩
  · rw [hA1]
    refine ⟨_, rfl, by (repeat' split) <;> omega, ⟨h.s, h.x, hj.m.M.o⟩, (cm_moved (A := A) hj.m.M hj.m.g hj.m.p hj.m.h rs rl rf hz).mono (fun b9 A2 hq => ?_) (fun _ _ h => h)⟩
    obtain ⟨hc, _⟩ | ⟨_, hb, hA2⟩ := hq
    · exact absurd hc hn
    refine ⟨0, hb, by rw [hA2, gI_sIs], fun hk => ?_, C, by rw [hA2]; exact JT_0 h⟩
    exfalso
    revert hk
    rw [if_neg hn]; omega
theorem js_seen {X : Int → Int} {C : Int → cT} {s f x y : Int} (h : JT X C A) (rs : r32 s) (rf : r32 f) (rx : r32 x) (ry : r32 y) : mj_Cal G n_L_seen [mR (some 100), mI s, mI f, mI x, mI y, mR (some 140)] A (fun r A1 => ∃ kk, r = some (mI kk) ∧ (0 ≤ kk ∧ kk ≤ 3) ∧ (gS A1 50 = some (.inl 99) ∧ gI A1 50 = X ∧ gS A1 200 = some (.inl 7)) ∧ mj_Cal G n_M_seen [mR (some 200), mI s, mI f, mI x, mI y] A1 (fun b A2 => ∃ v, b = some (mI v) ∧ gI A2 200 0 = kk ∧ (kk = 0 → gI A2 140 0 = nrm v) ∧ JE X A2) mj_no) mj_no := by
  refine (lx_seen h rs rf rx ry).mono (fun r A1 hp => ?_) (fun _ _ h => h)
  have hj := h.j
  have hnd := hj.m.g.nd
  have hns := hj.m.g.ns
  have hnp := hj.m.p.np
  rcases hp with ⟨hc, rfl, W, hw, hA1⟩ | ⟨hn, rfl, hA1⟩
  · have eG : ∀ c, (c = 50 ∨ (200 ≤ c ∧ c ≤ 245)) → gI A1 c = gI A c := fun c c0 => funext fun i => by rw [hA1, gI_sI, if_neg (by omega)]; exact hw.l.I c i (by omega)
    have e : ∀ c, 200 ≤ c → c ≤ 245 → gI A1 c = gI A c := fun c c0 c1 => eG c (Or.inr ⟨c0, c1⟩)
    have hSG : ∀ c, (c = 50 ∨ (200 ≤ c ∧ c ≤ 245)) → gS A1 c = gS A c := fun c c0 => by rw [hA1]; exact hw.l.S c
    have hSm : ∀ c, 200 ≤ c → c ≤ 245 → gS A1 c = gS A c := fun c c0 c1 => hSG c (Or.inr ⟨c0, c1⟩)
    have hPm : ∀ c i, 200 ≤ c → c ≤ 245 → gP A1 c i = gP A c i := fun c i c0 c1 => by rw [hA1]; exact hw.l.P c i
    have hm1 : MI C A1 := MI_ag (A := A) hSm hPm (fun c i c0 c1 => congrFun (e c c0 c1) i) hj.m
    have ense := fun s f x y => mo_se_c (A := vi C A) (B := vi C A1) (s := s) (f := f) (x := x) (y := y) (fun c c0 c1 => by rw [vi_fn (by omega), vi_fn (by omega), e c (by omega) (by omega)]) rfl
    refine ⟨0, rfl, by omega, ⟨(hSG 50 (Or.inl rfl)).trans h.s, (eG 50 (Or.inl rfl)).trans h.x, hm1.M.o⟩, (cm_seen (A := A1) hm1 rs rf rx ry).mono (fun b9 A2 hq => ?_) (fun _ _ h => h)⟩
    try simp only [e 200 (by omega) (by omega), e 204 (by omega) (by omega), e 205 (by omega) (by omega), e 206 (by omega) (by omega), e 207 (by omega) (by omega), e 208 (by omega) (by omega), e 209 (by omega) (by omega), e 210 (by omega) (by omega), e 211 (by omega) (by omega), e 212 (by omega) (by omega), e 213 (by omega) (by omega), e 214 (by omega) (by omega), e 215 (by omega) (by omega), e 216 (by omega) (by omega), e 222 (by omega) (by omega), e 224 (by omega) (by omega), e 225 (by omega) (by omega), e 226 (by omega) (by omega), e 227 (by omega) (by omega), e 228 (by omega) (by omega), e 229 (by omega) (by omega), e 230 (by omega) (by omega), e 231 (by omega) (by omega), e 233 (by omega) (by omega), e 234 (by omega) (by omega), e 235 (by omega) (by omega), e 236 (by omega) (by omega), e 237 (by omega) (by omega), e 238 (by omega) (by omega), e 239 (by omega) (by omega), e 241 (by omega) (by omega), e 244 (by omega) (by omega), ense] at hq
    obtain ⟨_, hb, hA2⟩ | ⟨hn, _⟩ := hq
    rotate_left
    · exact absurd hc hn
    have h1 : JT X C A1 := by rw [hA1]; exact JT_o (JT_cq h hw)
    have h2 := JT_LZ (JT_0 (v := 0) h1) hA2
    have o1 : gI A2 140 0 = gI A1 140 0 := hA2.y.I 140 0 (by omega) (by omega)
    have o2 : gI A2 200 0 = 0 := hA2.y.I 200 0 (by omega) (by omega)
    exact ⟨_, hb, o2, fun _ => o1.trans (by rw [hA1, gI_sIs]), C, h2⟩
  · rw [hA1]
    refine ⟨_, rfl, by (repeat' split) <;> omega, ⟨h.s, h.x, hj.m.M.o⟩, (cm_seen (A := A) hj.m rs rf rx ry).mono (fun b9 A2 hq => ?_) (fun _ _ h => h)⟩
    obtain ⟨hc, _⟩ | ⟨_, hb, hA2⟩ := hq
    · exact absurd hc hn
    refine ⟨0, hb, by rw [hA2, gI_sIs], fun hk => ?_, C, by rw [hA2]; exact JT_0 h⟩
    exfalso
    revert hk
    rw [if_neg hn]; omega
theorem js_seenAnew {X : Int → Int} {C : Int → cT} {s f x y : Int} (h : JT X C A) (rs : r32 s) (rf : r32 f) (rx : r32 x) (ry : r32 y) : mj_Cal G n_L_seenAnew [mR (some 100), mI s, mI f, mI x, mI y, mR (some 140)] A (fun r A1 => ∃ kk, r = some (mI kk) ∧ (0 ≤ kk ∧ kk ≤ 3) ∧ (gS A1 50 = some (.inl 99) ∧ gI A1 50 = X ∧ gS A1 200 = some (.inl 7)) ∧ mj_Cal G n_M_seenAnew [mR (some 200), mI s, mI f, mI x, mI y] A1 (fun b A2 => ∃ v, b = some (mI v) ∧ gI A2 200 0 = kk ∧ (kk = 0 → gI A2 140 0 = nrm v) ∧ JE X A2) mj_no) mj_no := by
  refine (lx_seenAnew h rs rf rx ry).mono (fun r A1 hp => ?_) (fun _ _ h => h)
  have hj := h.j
  have hnd := hj.m.g.nd
  have hns := hj.m.g.ns
  have hnp := hj.m.p.np
  rcases hp with ⟨hc, rfl, W, hw, hA1⟩ | ⟨hn, rfl, hA1⟩
  · have eG : ∀ c, (c = 50 ∨ (200 ≤ c ∧ c ≤ 245)) → gI A1 c = gI A c := fun c c0 => funext fun i => by rw [hA1, gI_sI, if_neg (by omega)]; exact hw.l.I c i (by omega)
    have e : ∀ c, 200 ≤ c → c ≤ 245 → gI A1 c = gI A c := fun c c0 c1 => eG c (Or.inr ⟨c0, c1⟩)
    have hSG : ∀ c, (c = 50 ∨ (200 ≤ c ∧ c ≤ 245)) → gS A1 c = gS A c := fun c c0 => by rw [hA1]; exact hw.l.S c
    have hSm : ∀ c, 200 ≤ c → c ≤ 245 → gS A1 c = gS A c := fun c c0 c1 => hSG c (Or.inr ⟨c0, c1⟩)
    have hPm : ∀ c i, 200 ≤ c → c ≤ 245 → gP A1 c i = gP A c i := fun c i c0 c1 => by rw [hA1]; exact hw.l.P c i
    have hm1 : MI C A1 := MI_ag (A := A) hSm hPm (fun c i c0 c1 => congrFun (e c c0 c1) i) hj.m
    have ense := fun s f x y => mo_se_c (A := vi C A) (B := vi C A1) (s := s) (f := f) (x := x) (y := y) (fun c c0 c1 => by rw [vi_fn (by omega), vi_fn (by omega), e c (by omega) (by omega)]) rfl
    refine ⟨0, rfl, by omega, ⟨(hSG 50 (Or.inl rfl)).trans h.s, (eG 50 (Or.inl rfl)).trans h.x, hm1.M.o⟩, (cm_seenAnew (A := A1) hm1 rs rf rx ry).mono (fun b9 A2 hq => ?_) (fun _ _ h => h)⟩
    try simp only [e 200 (by omega) (by omega), e 204 (by omega) (by omega), e 205 (by omega) (by omega), e 206 (by omega) (by omega), e 207 (by omega) (by omega), e 208 (by omega) (by omega), e 209 (by omega) (by omega), e 210 (by omega) (by omega), e 211 (by omega) (by omega), e 212 (by omega) (by omega), e 213 (by omega) (by omega), e 214 (by omega) (by omega), e 215 (by omega) (by omega), e 216 (by omega) (by omega), e 222 (by omega) (by omega), e 224 (by omega) (by omega), e 225 (by omega) (by omega), e 226 (by omega) (by omega), e 227 (by omega) (by omega), e 228 (by omega) (by omega), e 229 (by omega) (by omega), e 230 (by omega) (by omega), e 231 (by omega) (by omega), e 233 (by omega) (by omega), e 234 (by omega) (by omega), e 235 (by omega) (by omega), e 236 (by omega) (by omega), e 237 (by omega) (by omega), e 238 (by omega) (by omega), e 239 (by omega) (by omega), e 241 (by omega) (by omega), e 244 (by omega) (by omega), ense] at hq
    obtain ⟨_, hb, hA2⟩ | ⟨hn, _⟩ := hq
    rotate_left
    · exact absurd hc hn
    have h1 : JT X C A1 := by rw [hA1]; exact JT_o (JT_cq h hw)
    have h2 := JT_LZ (JT_0 (v := 0) h1) hA2
    have o1 : gI A2 140 0 = gI A1 140 0 := hA2.y.I 140 0 (by omega) (by omega)
    have o2 : gI A2 200 0 = 0 := hA2.y.I 200 0 (by omega) (by omega)
    exact ⟨_, hb, o2, fun _ => o1.trans (by rw [hA1, gI_sIs]), C, h2⟩
  · rw [hA1]
    refine ⟨_, rfl, by (repeat' split) <;> omega, ⟨h.s, h.x, hj.m.M.o⟩, (cm_seenAnew (A := A) hj.m rs rf rx ry).mono (fun b9 A2 hq => ?_) (fun _ _ h => h)⟩
    obtain ⟨hc, _⟩ | ⟨_, hb, hA2⟩ := hq
    · exact absurd hc hn
    refine ⟨0, hb, by rw [hA2, gI_sIs], fun hk => ?_, C, by rw [hA2]; exact JT_0 h⟩
    exfalso
    revert hk
    rw [if_neg hn]; omega
theorem js_shot {X : Int → Int} {C : Int → cT} {s f x y : Int} (h : JT X C A) (rs : r32 s) (rf : r32 f) (rx : r32 x) (ry : r32 y) : mj_Cal G n_L_shot [mR (some 100), mI s, mI f, mI x, mI y, mR (some 140)] A (fun r A1 => ∃ kk, r = some (mI kk) ∧ (0 ≤ kk ∧ kk ≤ 3) ∧ (gS A1 50 = some (.inl 99) ∧ gI A1 50 = X ∧ gS A1 200 = some (.inl 7)) ∧ mj_Cal G n_M_shot [mR (some 200), mI s, mI f, mI x, mI y] A1 (fun b A2 => ∃ v, b = some (mI v) ∧ gI A2 200 0 = kk ∧ (kk = 0 → gI A2 140 0 = nrm v) ∧ JE X A2) mj_no) mj_no := by
  refine (lx_shot h rs rf rx ry).mono (fun r A1 hp => ?_) (fun _ _ h => h)
  have hj := h.j
  have hnd := hj.m.g.nd
  have hns := hj.m.g.ns
  have hnp := hj.m.p.np
  rcases hp with ⟨hc, rfl, W, hw, hA1⟩ | ⟨hn, rfl, hA1⟩
  · have eG : ∀ c, (c = 50 ∨ (200 ≤ c ∧ c ≤ 245)) → gI A1 c = gI A c := fun c c0 => funext fun i => by rw [hA1, gI_sI, if_neg (by omega), hw]
    have e : ∀ c, 200 ≤ c → c ≤ 245 → gI A1 c = gI A c := fun c c0 c1 => eG c (Or.inr ⟨c0, c1⟩)
    have hSG : ∀ c, (c = 50 ∨ (200 ≤ c ∧ c ≤ 245)) → gS A1 c = gS A c := fun c c0 => by rw [hA1, hw]; rfl
    have hSm : ∀ c, 200 ≤ c → c ≤ 245 → gS A1 c = gS A c := fun c c0 c1 => hSG c (Or.inr ⟨c0, c1⟩)
    have hPm : ∀ c i, 200 ≤ c → c ≤ 245 → gP A1 c i = gP A c i := fun c i c0 c1 => by rw [hA1, hw]; rfl
    have hm1 : MI C A1 := MI_ag (A := A) hSm hPm (fun c i c0 c1 => congrFun (e c c0 c1) i) hj.m
    refine ⟨0, rfl, by omega, ⟨(hSG 50 (Or.inl rfl)).trans h.s, (eG 50 (Or.inl rfl)).trans h.x, hm1.M.o⟩, (cm_shot (A := A1) hm1.M hm1.g rs rf rx ry).mono (fun b9 A2 hq => ?_) (fun _ _ h => h)⟩
    try simp only [e 200 (by omega) (by omega), e 204 (by omega) (by omega), e 205 (by omega) (by omega), e 206 (by omega) (by omega), e 207 (by omega) (by omega), e 208 (by omega) (by omega), e 209 (by omega) (by omega), e 210 (by omega) (by omega), e 211 (by omega) (by omega), e 212 (by omega) (by omega), e 213 (by omega) (by omega), e 214 (by omega) (by omega), e 215 (by omega) (by omega), e 216 (by omega) (by omega), e 222 (by omega) (by omega), e 224 (by omega) (by omega), e 225 (by omega) (by omega), e 226 (by omega) (by omega), e 227 (by omega) (by omega), e 228 (by omega) (by omega), e 229 (by omega) (by omega), e 230 (by omega) (by omega), e 231 (by omega) (by omega), e 233 (by omega) (by omega), e 234 (by omega) (by omega), e 235 (by omega) (by omega), e 236 (by omega) (by omega), e 237 (by omega) (by omega), e 238 (by omega) (by omega), e 239 (by omega) (by omega), e 241 (by omega) (by omega), e 244 (by omega) (by omega)] at hq
    obtain ⟨_, hb, hA2⟩ | ⟨hn, _⟩ := hq
    rotate_left
    · exact absurd hc hn
    have h1 : JT X C A1 := by rw [hA1]; exact (by rw [hw]; exact JT_o h)
    have h2 : JT X C A2 := by rw [hA2]; exact JT_0 h1
    exact ⟨_, hb, by rw [hA2, gI_sIs], fun _ => by rw [hA2, gI_sI, if_neg (by omega), hA1, gI_sIs], C, h2⟩
  · rw [hA1]
    refine ⟨_, rfl, by (repeat' split) <;> omega, ⟨h.s, h.x, hj.m.M.o⟩, (cm_shot (A := A) hj.m.M hj.m.g rs rf rx ry).mono (fun b9 A2 hq => ?_) (fun _ _ h => h)⟩
    obtain ⟨hc, _⟩ | ⟨_, hb, hA2⟩ := hq
    · exact absurd hc hn
    refine ⟨0, hb, by rw [hA2, gI_sIs], fun hk => ?_, C, by rw [hA2]; exact JT_0 h⟩
    exfalso
    revert hk
    rw [if_neg hn]; omega
theorem js_stale {X : Int → Int} {C : Int → cT} {s : Int} (h : JT X C A) (rs : r32 s) : mj_Cal G n_L_stale [mR (some 100), mI s, mR (some 140)] A (fun r A1 => ∃ kk, r = some (mI kk) ∧ (0 ≤ kk ∧ kk ≤ 3) ∧ (gS A1 50 = some (.inl 99) ∧ gI A1 50 = X ∧ gS A1 200 = some (.inl 7)) ∧ mj_Cal G n_M_stale [mR (some 200), mI s] A1 (fun b A2 => ∃ v, b = some (mI v) ∧ gI A2 200 0 = kk ∧ (kk = 0 → gI A2 140 0 = nrm v) ∧ JE X A2) mj_no) mj_no := by
  refine (lx_stale h rs).mono (fun r A1 hp => ?_) (fun _ _ h => h)
  have hj := h.j
  have hnd := hj.m.g.nd
  have hns := hj.m.g.ns
  have hnp := hj.m.p.np
  rcases hp with ⟨hc, rfl, W, hw, hA1⟩ | ⟨hn, rfl, hA1⟩
  · have eG : ∀ c, (c = 50 ∨ (200 ≤ c ∧ c ≤ 245)) → gI A1 c = gI A c := fun c c0 => funext fun i => by rw [hA1, gI_sI, if_neg (by omega)]; exact hw.l.I c i (by omega)
    have e : ∀ c, 200 ≤ c → c ≤ 245 → gI A1 c = gI A c := fun c c0 c1 => eG c (Or.inr ⟨c0, c1⟩)
    have hSG : ∀ c, (c = 50 ∨ (200 ≤ c ∧ c ≤ 245)) → gS A1 c = gS A c := fun c c0 => by rw [hA1]; exact hw.l.S c
    have hSm : ∀ c, 200 ≤ c → c ≤ 245 → gS A1 c = gS A c := fun c c0 c1 => hSG c (Or.inr ⟨c0, c1⟩)
    have hPm : ∀ c i, 200 ≤ c → c ≤ 245 → gP A1 c i = gP A c i := fun c i c0 c1 => by rw [hA1]; exact hw.l.P c i
    have hm1 : MI C A1 := MI_ag (A := A) hSm hPm (fun c i c0 c1 => congrFun (e c c0 c1) i) hj.m
    have ense := fun s f x y => mo_se_c (A := vi C A) (B := vi C A1) (s := s) (f := f) (x := x) (y := y) (fun c c0 c1 => by rw [vi_fn (by omega), vi_fn (by omega), e c (by omega) (by omega)]) rfl
    have ensb := fun s f => mo_sb_c (A := vi C A1) (B := vi C A) (s := s) (f := f) (mo_st_c (by rw [vi_fn (by omega), vi_fn (by omega), e 238 (by omega) (by omega)]) (fun p _ _ => by rw [vi_fn (by omega), vi_fn (by omega), e 239 (by omega) (by omega)]) (fun x y => ense s f x y))
    refine ⟨0, rfl, by omega, ⟨(hSG 50 (Or.inl rfl)).trans h.s, (eG 50 (Or.inl rfl)).trans h.x, hm1.M.o⟩, (cm_stale (A := A1) hm1 rs).mono (fun b9 A2 hq => ?_) (fun _ _ h => h)⟩
    try simp only [e 200 (by omega) (by omega), e 204 (by omega) (by omega), e 205 (by omega) (by omega), e 206 (by omega) (by omega), e 207 (by omega) (by omega), e 208 (by omega) (by omega), e 209 (by omega) (by omega), e 210 (by omega) (by omega), e 211 (by omega) (by omega), e 212 (by omega) (by omega), e 213 (by omega) (by omega), e 214 (by omega) (by omega), e 215 (by omega) (by omega), e 216 (by omega) (by omega), e 222 (by omega) (by omega), e 224 (by omega) (by omega), e 225 (by omega) (by omega), e 226 (by omega) (by omega), e 227 (by omega) (by omega), e 228 (by omega) (by omega), e 229 (by omega) (by omega), e 230 (by omega) (by omega), e 231 (by omega) (by omega), e 233 (by omega) (by omega), e 234 (by omega) (by omega), e 235 (by omega) (by omega), e 236 (by omega) (by omega), e 237 (by omega) (by omega), e 238 (by omega) (by omega), e 239 (by omega) (by omega), e 241 (by omega) (by omega), e 244 (by omega) (by omega), ense, ensb] at hq
    obtain ⟨_, hb, hA2⟩ | ⟨hn, _⟩ := hq
    rotate_left
    · exact absurd hc hn
    have h1 : JT X C A1 := by rw [hA1]; exact JT_o (JT_cq h hw)
    have h2 := JT_LZ (JT_0 (v := 0) h1) hA2
    have o1 : gI A2 140 0 = gI A1 140 0 := hA2.y.I 140 0 (by omega) (by omega)
    have o2 : gI A2 200 0 = 0 := hA2.y.I 200 0 (by omega) (by omega)
    exact ⟨_, hb, o2, fun _ => o1.trans (by rw [hA1, gI_sIs]), C, h2⟩
  · rw [hA1]
    refine ⟨_, rfl, by (repeat' split) <;> omega, ⟨h.s, h.x, hj.m.M.o⟩, (cm_stale (A := A) hj.m rs).mono (fun b9 A2 hq => ?_) (fun _ _ h => h)⟩
    obtain ⟨hc, _⟩ | ⟨_, hb, hA2⟩ := hq
    · exact absurd hc hn
    refine ⟨0, hb, by rw [hA2, gI_sIs], fun hk => ?_, C, by rw [hA2]; exact JT_0 h⟩
    exfalso
    revert hk
    rw [if_neg hn]; omega
theorem js_hangs {X : Int → Int} {C : Int → cT} {s f d : Int} (h : JT X C A) (rs : r32 s) (rf : r32 f) (rd : r32 d) : mj_Cal G n_L_hangs [mR (some 100), mI s, mI f, mI d, mR (some 140)] A (fun r A1 => ∃ kk, r = some (mI kk) ∧ (0 ≤ kk ∧ kk ≤ 3) ∧ (gS A1 50 = some (.inl 99) ∧ gI A1 50 = X ∧ gS A1 200 = some (.inl 7)) ∧ mj_Cal G n_M_hangs [mR (some 200), mI s, mI f, mI d] A1 (fun b A2 => ∃ v, b = some (mI v) ∧ gI A2 200 0 = kk ∧ (kk = 0 → gI A2 140 0 = nrm v ∧ (v = 0 ∨ v = 1)) ∧ JE X A2) mj_no) mj_no := by
  refine (lx_hangs h rs rf rd).mono (fun r A1 hp => ?_) (fun _ _ h => h)
  have hj := h.j
  have hnd := hj.m.g.nd
  have hns := hj.m.g.ns
  have hnp := hj.m.p.np
  rcases hp with ⟨hc, rfl, W, hw, hA1⟩ | ⟨hn, rfl, hA1⟩
  · have eG : ∀ c, (c = 50 ∨ (200 ≤ c ∧ c ≤ 245)) → gI A1 c = gI A c := fun c c0 => funext fun i => by rw [hA1, gI_sI, if_neg (by omega), hw]
    have e : ∀ c, 200 ≤ c → c ≤ 245 → gI A1 c = gI A c := fun c c0 c1 => eG c (Or.inr ⟨c0, c1⟩)
    have hSG : ∀ c, (c = 50 ∨ (200 ≤ c ∧ c ≤ 245)) → gS A1 c = gS A c := fun c c0 => by rw [hA1, hw]; rfl
    have hSm : ∀ c, 200 ≤ c → c ≤ 245 → gS A1 c = gS A c := fun c c0 c1 => hSG c (Or.inr ⟨c0, c1⟩)
    have hPm : ∀ c i, 200 ≤ c → c ≤ 245 → gP A1 c i = gP A c i := fun c i c0 c1 => by rw [hA1, hw]; rfl
    have hm1 : MI C A1 := MI_ag (A := A) hSm hPm (fun c i c0 c1 => congrFun (e c c0 c1) i) hj.m
    have h22 := fun c (c0 : 222 ≤ c) (c1 : c ≤ 237) => e c (by omega) (by omega)
    have enhn := fun s f d => mo_hn_c (A := A) (B := A1) (s := s) (f := f) (d := d) h22 (e 204 (by omega) (by omega)) (e 205 (by omega) (by omega))
    refine ⟨0, rfl, by omega, ⟨(hSG 50 (Or.inl rfl)).trans h.s, (eG 50 (Or.inl rfl)).trans h.x, hm1.M.o⟩, (cm_hangs (A := A1) hm1.M hm1.g (mi_hp hm1) rs rf rd).mono (fun b9 A2 hq => ?_) (fun _ _ h => h)⟩
    try simp only [e 200 (by omega) (by omega), e 204 (by omega) (by omega), e 205 (by omega) (by omega), e 206 (by omega) (by omega), e 207 (by omega) (by omega), e 208 (by omega) (by omega), e 209 (by omega) (by omega), e 210 (by omega) (by omega), e 211 (by omega) (by omega), e 212 (by omega) (by omega), e 213 (by omega) (by omega), e 214 (by omega) (by omega), e 215 (by omega) (by omega), e 216 (by omega) (by omega), e 222 (by omega) (by omega), e 224 (by omega) (by omega), e 225 (by omega) (by omega), e 226 (by omega) (by omega), e 227 (by omega) (by omega), e 228 (by omega) (by omega), e 229 (by omega) (by omega), e 230 (by omega) (by omega), e 231 (by omega) (by omega), e 233 (by omega) (by omega), e 234 (by omega) (by omega), e 235 (by omega) (by omega), e 236 (by omega) (by omega), e 237 (by omega) (by omega), e 238 (by omega) (by omega), e 239 (by omega) (by omega), e 241 (by omega) (by omega), e 244 (by omega) (by omega), enhn] at hq
    obtain ⟨_, hb, hA2⟩ | ⟨hn, _⟩ := hq
    rotate_left
    · exact absurd hc hn
    have h1 : JT X C A1 := by rw [hA1]; exact (by rw [hw]; exact JT_o h)
    have h2 : JT X C A2 := by rw [hA2]; exact JT_0 h1
    exact ⟨_, hb, by rw [hA2, gI_sIs], fun _ => ⟨by rw [hA2, gI_sI, if_neg (by omega), hA1, gI_sIs], by split; exact Or.inr rfl; exact Or.inl rfl⟩, C, h2⟩
  · rw [hA1]
    refine ⟨_, rfl, by (repeat' split) <;> omega, ⟨h.s, h.x, hj.m.M.o⟩, (cm_hangs (A := A) hj.m.M hj.m.g (mi_hp hj.m) rs rf rd).mono (fun b9 A2 hq => ?_) (fun _ _ h => h)⟩
    obtain ⟨hc, _⟩ | ⟨_, hb, hA2⟩ := hq
    · exact absurd hc hn
    refine ⟨0, hb, by rw [hA2, gI_sIs], fun hk => ?_, C, by rw [hA2]; exact JT_0 h⟩
    exfalso
    revert hk
    rw [if_neg hn]; omega
theorem js_faults {X : Int → Int} {C : Int → cT} {s f : Int} (h : JT X C A) (rs : r32 s) (rf : r32 f) : mj_Cal G n_L_faults [mR (some 100), mI s, mI f, mR (some 140)] A (fun r A1 => ∃ kk, r = some (mI kk) ∧ (0 ≤ kk ∧ kk ≤ 3) ∧ (gS A1 50 = some (.inl 99) ∧ gI A1 50 = X ∧ gS A1 200 = some (.inl 7)) ∧ mj_Cal G n_M_faults [mR (some 200), mI s, mI f] A1 (fun b A2 => ∃ v, b = some (mI v) ∧ gI A2 200 0 = kk ∧ (kk = 0 → gI A2 140 0 = nrm v) ∧ JE X A2) mj_no) mj_no := by
  refine (lx_faults h rs rf).mono (fun r A1 hp => ?_) (fun _ _ h => h)
  have hj := h.j
  have hnd := hj.m.g.nd
  have hns := hj.m.g.ns
  have hnp := hj.m.p.np
  rcases hp with ⟨hc, rfl, W, hw, hA1⟩ | ⟨hn, rfl, hA1⟩
  · have eG : ∀ c, (c = 50 ∨ (200 ≤ c ∧ c ≤ 245)) → gI A1 c = gI A c := fun c c0 => funext fun i => by rw [hA1, gI_sI, if_neg (by omega)]; exact hw.l.I c i (by omega)
    have e : ∀ c, 200 ≤ c → c ≤ 245 → gI A1 c = gI A c := fun c c0 c1 => eG c (Or.inr ⟨c0, c1⟩)
    have hSG : ∀ c, (c = 50 ∨ (200 ≤ c ∧ c ≤ 245)) → gS A1 c = gS A c := fun c c0 => by rw [hA1]; exact hw.l.S c
    have hSm : ∀ c, 200 ≤ c → c ≤ 245 → gS A1 c = gS A c := fun c c0 c1 => hSG c (Or.inr ⟨c0, c1⟩)
    have hPm : ∀ c i, 200 ≤ c → c ≤ 245 → gP A1 c i = gP A c i := fun c i c0 c1 => by rw [hA1]; exact hw.l.P c i
    have hm1 : MI C A1 := MI_ag (A := A) hSm hPm (fun c i c0 c1 => congrFun (e c c0 c1) i) hj.m
    have h22 := fun c (c0 : 222 ≤ c) (c1 : c ≤ 237) => e c (by omega) (by omega)
    have enfa := fun s f => mo_fa_cg (A := A) (B := A1) (C := C) (s := s) (f := f) h22
    refine ⟨0, rfl, by omega, ⟨(hSG 50 (Or.inl rfl)).trans h.s, (eG 50 (Or.inl rfl)).trans h.x, hm1.M.o⟩, (cm_faults (A := A1) hm1 rs rf).mono (fun b9 A2 hq => ?_) (fun _ _ h => h)⟩
    try simp only [e 200 (by omega) (by omega), e 204 (by omega) (by omega), e 205 (by omega) (by omega), e 206 (by omega) (by omega), e 207 (by omega) (by omega), e 208 (by omega) (by omega), e 209 (by omega) (by omega), e 210 (by omega) (by omega), e 211 (by omega) (by omega), e 212 (by omega) (by omega), e 213 (by omega) (by omega), e 214 (by omega) (by omega), e 215 (by omega) (by omega), e 216 (by omega) (by omega), e 222 (by omega) (by omega), e 224 (by omega) (by omega), e 225 (by omega) (by omega), e 226 (by omega) (by omega), e 227 (by omega) (by omega), e 228 (by omega) (by omega), e 229 (by omega) (by omega), e 230 (by omega) (by omega), e 231 (by omega) (by omega), e 233 (by omega) (by omega), e 234 (by omega) (by omega), e 235 (by omega) (by omega), e 236 (by omega) (by omega), e 237 (by omega) (by omega), e 238 (by omega) (by omega), e 239 (by omega) (by omega), e 241 (by omega) (by omega), e 244 (by omega) (by omega), enfa] at hq
    obtain ⟨_, hb, hA2⟩ | ⟨hn, _⟩ := hq
    rotate_left
    · exact absurd hc hn
    have h1 : JT X C A1 := by rw [hA1]; exact JT_o (JT_cq h hw)
    have h2 := JT_LZ (JT_0 (v := 0) h1) hA2
    have o1 : gI A2 140 0 = gI A1 140 0 := hA2.y.I 140 0 (by omega) (by omega)
    have o2 : gI A2 200 0 = 0 := hA2.y.I 200 0 (by omega) (by omega)
    exact ⟨_, hb, o2, fun _ => o1.trans (by rw [hA1, gI_sIs]), C, h2⟩
  · rw [hA1]
    refine ⟨_, rfl, by (repeat' split) <;> omega, ⟨h.s, h.x, hj.m.M.o⟩, (cm_faults (A := A) hj.m rs rf).mono (fun b9 A2 hq => ?_) (fun _ _ h => h)⟩
    obtain ⟨hc, _⟩ | ⟨_, hb, hA2⟩ := hq
    · exact absurd hc hn
    refine ⟨0, hb, by rw [hA2, gI_sIs], fun hk => ?_, C, by rw [hA2]; exact JT_0 h⟩
    exfalso
    revert hk
    rw [if_neg hn]; omega
theorem js_hours {X : Int → Int} {C : Int → cT} {q : Int} (h : JT X C A) (rq : r32 q) : mj_Cal G n_L_hours [mR (some 100), mI q, mR (some 140)] A (fun r A1 => ∃ kk, r = some (mI kk) ∧ (0 ≤ kk ∧ kk ≤ 3) ∧ (gS A1 50 = some (.inl 99) ∧ gI A1 50 = X ∧ gS A1 200 = some (.inl 7)) ∧ mj_Cal G n_M_hours [mR (some 200), mI q] A1 (fun b A2 => ∃ v, b = some (mI v) ∧ gI A2 200 0 = kk ∧ (kk = 0 → gI A2 140 0 = nrm v) ∧ JE X A2) mj_no) mj_no := by
  refine (lx_hours h rq).mono (fun r A1 hp => ?_) (fun _ _ h => h)
  have hj := h.j
  have hnd := hj.m.g.nd
  have hns := hj.m.g.ns
  have hnp := hj.m.p.np
  rcases hp with ⟨hc, rfl, W, hw, hA1⟩ | ⟨hn, rfl, hA1⟩
  · have eG : ∀ c, (c = 50 ∨ (200 ≤ c ∧ c ≤ 245)) → gI A1 c = gI A c := fun c c0 => funext fun i => by obtain ⟨g, hw⟩ := hw; rw [hA1, gI_sI, if_neg (by omega), hw, gI_sF, if_neg (by omega)]
    have e : ∀ c, 200 ≤ c → c ≤ 245 → gI A1 c = gI A c := fun c c0 c1 => eG c (Or.inr ⟨c0, c1⟩)
    have hSG : ∀ c, (c = 50 ∨ (200 ≤ c ∧ c ≤ 245)) → gS A1 c = gS A c := fun c c0 => by rw [hA1]; obtain ⟨g, hw⟩ := hw; rw [hw]; rfl
    have hSm : ∀ c, 200 ≤ c → c ≤ 245 → gS A1 c = gS A c := fun c c0 c1 => hSG c (Or.inr ⟨c0, c1⟩)
    have hPm : ∀ c i, 200 ≤ c → c ≤ 245 → gP A1 c i = gP A c i := fun c i c0 c1 => by rw [hA1]; obtain ⟨g, hw⟩ := hw; rw [hw]; rfl
    have hm1 : MI C A1 := MI_ag (A := A) hSm hPm (fun c i c0 c1 => congrFun (e c c0 c1) i) hj.m
    have enw := (funext fun d => by show (if gI A1 204 d = -1 then gI A1 209 d else 0) = _; rw [e 204 (by omega) (by omega), e 209 (by omega) (by omega)] : mo_w A1 = mo_w A)
    refine ⟨0, rfl, by omega, ⟨(hSG 50 (Or.inl rfl)).trans h.s, (eG 50 (Or.inl rfl)).trans h.x, hm1.M.o⟩, (cm_hours (A := A1) hm1.M hm1.g.nd hm1.nh hm1.hs hm1.z.st.n rq).mono (fun b9 A2 hq => ?_) (fun _ _ h => h)⟩
    try simp only [e 200 (by omega) (by omega), e 204 (by omega) (by omega), e 205 (by omega) (by omega), e 206 (by omega) (by omega), e 207 (by omega) (by omega), e 208 (by omega) (by omega), e 209 (by omega) (by omega), e 210 (by omega) (by omega), e 211 (by omega) (by omega), e 212 (by omega) (by omega), e 213 (by omega) (by omega), e 214 (by omega) (by omega), e 215 (by omega) (by omega), e 216 (by omega) (by omega), e 222 (by omega) (by omega), e 224 (by omega) (by omega), e 225 (by omega) (by omega), e 226 (by omega) (by omega), e 227 (by omega) (by omega), e 228 (by omega) (by omega), e 229 (by omega) (by omega), e 230 (by omega) (by omega), e 231 (by omega) (by omega), e 233 (by omega) (by omega), e 234 (by omega) (by omega), e 235 (by omega) (by omega), e 236 (by omega) (by omega), e 237 (by omega) (by omega), e 238 (by omega) (by omega), e 239 (by omega) (by omega), e 241 (by omega) (by omega), e 244 (by omega) (by omega), enw] at hq
    obtain ⟨_, hb, hA2⟩ | ⟨hn, _⟩ := hq
    rotate_left
    · exact absurd hc hn
    have h1 : JT X C A1 := by rw [hA1]; exact (by obtain ⟨g, hw⟩ := hw; rw [hw]; exact JT_o (JT_bz h))
    obtain ⟨g, hA2⟩ := hA2
    have h2 : JT X C A2 := jt_hours h1 (fun c => by rw [hA2]; rfl) (fun c i => by rw [hA2]; rfl) (fun c i hc => by rw [hA2, gI_sF, if_neg (by omega), gI_sI, if_neg (by omega)])
    exact ⟨_, hb, by rw [hA2]; rfl, fun _ => by rw [hA2, gI_sF, if_neg (by omega), gI_sI, if_neg (by omega), hA1, gI_sIs], C, h2⟩
  · rw [hA1]
    refine ⟨_, rfl, by (repeat' split) <;> omega, ⟨h.s, h.x, hj.m.M.o⟩, (cm_hours (A := A) hj.m.M hj.m.g.nd hj.m.nh hj.m.hs hj.m.z.st.n rq).mono (fun b9 A2 hq => ?_) (fun _ _ h => h)⟩
    obtain ⟨hc, _⟩ | ⟨_, hb, hA2⟩ := hq
    · exact absurd hc hn
    refine ⟨0, hb, by rw [hA2, gI_sIs], fun hk => ?_, C, by rw [hA2]; exact JT_0 h⟩
    exfalso
    revert hk
    rw [if_neg hn]; omega
theorem js_film {X : Int → Int} {C : Int → cT} {f : Int} (h : JT X C A) (rf : r32 f) : mj_Cal G n_L_film [mR (some 100), mI f, mR (some 140)] A (fun r A1 => ∃ kk, r = some (mI kk) ∧ (0 ≤ kk ∧ kk ≤ 3) ∧ (gS A1 50 = some (.inl 99) ∧ gI A1 50 = X ∧ gS A1 200 = some (.inl 7)) ∧ mj_Cal G n_M_film [mR (some 200), mI f] A1 (fun b A2 => ∃ v, b = some (mI v) ∧ gI A2 200 0 = kk ∧ (kk = 0 → gI A2 140 0 = nrm v) ∧ JE X A2) mj_no) mj_no := by
  refine (lx_film h rf).mono (fun r A1 hp => ?_) (fun _ _ h => h)
  have hj := h.j
  have hnd := hj.m.g.nd
  have hns := hj.m.g.ns
  have hnp := hj.m.p.np
  rcases hp with ⟨hc, rfl, W, hw, hA1⟩ | ⟨hn, rfl, hA1⟩
  · have eG : ∀ c, (c = 50 ∨ (200 ≤ c ∧ c ≤ 245)) → gI A1 c = gI A c := fun c c0 => funext fun i => by rw [hA1, gI_sI, if_neg (by omega), hw]
    have e : ∀ c, 200 ≤ c → c ≤ 245 → gI A1 c = gI A c := fun c c0 c1 => eG c (Or.inr ⟨c0, c1⟩)
    have hSG : ∀ c, (c = 50 ∨ (200 ≤ c ∧ c ≤ 245)) → gS A1 c = gS A c := fun c c0 => by rw [hA1, hw]; rfl
    have hSm : ∀ c, 200 ≤ c → c ≤ 245 → gS A1 c = gS A c := fun c c0 c1 => hSG c (Or.inr ⟨c0, c1⟩)
    have hPm : ∀ c i, 200 ≤ c → c ≤ 245 → gP A1 c i = gP A c i := fun c i c0 c1 => by rw [hA1, hw]; rfl
    have hm1 : MI C A1 := MI_ag (A := A) hSm hPm (fun c i c0 c1 => congrFun (e c c0 c1) i) hj.m
    have enfl := (by unfold mo_fl; rw [e 200 (by omega) (by omega), e 224 (by omega) (by omega), e 244 (by omega) (by omega)] : mo_fl A1 = mo_fl A)
    refine ⟨0, rfl, by omega, ⟨(hSG 50 (Or.inl rfl)).trans h.s, (eG 50 (Or.inl rfl)).trans h.x, hm1.M.o⟩, (cm_film (A := A1) hm1.M hm1.g hm1.nf hm1.rl rf).mono (fun b9 A2 hq => ?_) (fun _ _ h => h)⟩
    try simp only [e 200 (by omega) (by omega), e 204 (by omega) (by omega), e 205 (by omega) (by omega), e 206 (by omega) (by omega), e 207 (by omega) (by omega), e 208 (by omega) (by omega), e 209 (by omega) (by omega), e 210 (by omega) (by omega), e 211 (by omega) (by omega), e 212 (by omega) (by omega), e 213 (by omega) (by omega), e 214 (by omega) (by omega), e 215 (by omega) (by omega), e 216 (by omega) (by omega), e 222 (by omega) (by omega), e 224 (by omega) (by omega), e 225 (by omega) (by omega), e 226 (by omega) (by omega), e 227 (by omega) (by omega), e 228 (by omega) (by omega), e 229 (by omega) (by omega), e 230 (by omega) (by omega), e 231 (by omega) (by omega), e 233 (by omega) (by omega), e 234 (by omega) (by omega), e 235 (by omega) (by omega), e 236 (by omega) (by omega), e 237 (by omega) (by omega), e 238 (by omega) (by omega), e 239 (by omega) (by omega), e 241 (by omega) (by omega), e 244 (by omega) (by omega), enfl] at hq
    obtain ⟨_, hb, hA2⟩ | ⟨hn, _⟩ := hq
    rotate_left
    · exact absurd hc hn
    have h1 : JT X C A1 := by rw [hA1]; exact (by rw [hw]; exact JT_o h)
    have h2 : JT X C A2 := by rw [hA2]; exact JT_0 h1
    exact ⟨_, hb, by rw [hA2, gI_sIs], fun _ => by rw [hA2, gI_sI, if_neg (by omega), hA1, gI_sIs], C, h2⟩
  · rw [hA1]
    refine ⟨_, rfl, by (repeat' split) <;> omega, ⟨h.s, h.x, hj.m.M.o⟩, (cm_film (A := A) hj.m.M hj.m.g hj.m.nf hj.m.rl rf).mono (fun b9 A2 hq => ?_) (fun _ _ h => h)⟩
    obtain ⟨hc, _⟩ | ⟨_, hb, hA2⟩ := hq
    · exact absurd hc hn
    refine ⟨0, hb, by rw [hA2, gI_sIs], fun hk => ?_, C, by rw [hA2]; exact JT_0 h⟩
    exfalso
    revert hk
    rw [if_neg hn]; omega
end STPF
