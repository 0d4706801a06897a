/-! THE LAW, 4: steps that change -/
section STPG
variable {G : mj_G} {A : mj_M}
theorem js_pen {X : Int → Int} {C : Int → cT} {x y : Int} (h : JT X C A) (rx : r32 x) (ry : r32 y) : mj_Cal G n_L_pen [mR (some 100), mI x, mI y] A (fun r A1 => ∃ kk, r = some (mI kk) ∧ (0 ≤ kk ∧ kk ≤ 3) ∧ (gS A1 50 = some (.inl 99) ∧ gI A1 50 = X ∧ gS A1 200 = some (.inl 7)) ∧ mj_Cal G n_M_pen [mR (some 200), mI x, mI y] A1 (fun b A2 => b = none ∧ gI A2 200 0 = kk ∧ JE X A2) mj_no) mj_no := by
  refine (lx_pen h rx ry).mono (fun r A1 hp => ?_) (fun _ _ h => h)
  have hj := h.j
  have hnd := hj.m.g.nd
  have hns := hj.m.g.ns
  have hnp := hj.m.p.np
  rcases hp with ⟨hc, rfl, W, hw, hA1⟩ | ⟨hn, rfl, hA1⟩
  · have eG : ∀ c, (c = 50 ∨ (200 ≤ c ∧ c ≤ 245)) → gI A1 c = gI A c := (fun c c0 => funext fun i => by rw [hA1, hw]; simp only [gI_sI]; ((try simp only [true_and, and_true, if_true, and_self]); (repeat (first | rw [if_neg (by omega)] | rw [if_pos (by omega)]))))
    have e : ∀ c, 200 ≤ c → c ≤ 245 → gI A1 c = gI A c := fun c c0 c1 => eG c (Or.inr ⟨c0, c1⟩)
    have hSG : ∀ c, (c = 50 ∨ (200 ≤ c ∧ c ≤ 245)) → gS A1 c = gS A c := fun c c0 => by rw [hA1, hw]; rfl
    have hSm : ∀ c, 200 ≤ c → c ≤ 245 → gS A1 c = gS A c := fun c c0 c1 => hSG c (Or.inr ⟨c0, c1⟩)
    have hPm : ∀ c i, 200 ≤ c → c ≤ 245 → gP A1 c i = gP A c i := fun c i c0 c1 => by rw [hA1, hw]; rfl
    have hm1 : MI C A1 := MI_ag (A := A) hSm hPm (fun c i c0 c1 => congrFun (e c c0 c1) i) hj.m
    refine ⟨0, rfl, by omega, ⟨(hSG 50 (Or.inl rfl)).trans h.s, (eG 50 (Or.inl rfl)).trans h.x, hm1.M.o⟩, (cm_pen (A := A1) hm1.M rx ry).mono (fun b9 A2 hq => ?_) (fun _ _ h => h)⟩
    try simp only [e 200 (by omega) (by omega), e 204 (by omega) (by omega), e 205 (by omega) (by omega), e 206 (by omega) (by omega), e 207 (by omega) (by omega), e 208 (by omega) (by omega), e 209 (by omega) (by omega), e 210 (by omega) (by omega), e 211 (by omega) (by omega), e 212 (by omega) (by omega), e 213 (by omega) (by omega), e 214 (by omega) (by omega), e 215 (by omega) (by omega), e 216 (by omega) (by omega), e 222 (by omega) (by omega), e 224 (by omega) (by omega), e 225 (by omega) (by omega), e 226 (by omega) (by omega), e 227 (by omega) (by omega), e 228 (by omega) (by omega), e 229 (by omega) (by omega), e 230 (by omega) (by omega), e 231 (by omega) (by omega), e 233 (by omega) (by omega), e 234 (by omega) (by omega), e 235 (by omega) (by omega), e 236 (by omega) (by omega), e 237 (by omega) (by omega), e 238 (by omega) (by omega), e 239 (by omega) (by omega), e 241 (by omega) (by omega), e 244 (by omega) (by omega)] at hq
    obtain ⟨hb, ⟨_, hA2⟩ | ⟨hn, _⟩⟩ := hq
    rotate_left
    · exact absurd hc hn
    have h2 : JT X C A2 := jt_pen (px := x) (py := y) h hc (fun c => by rw [hA2, hA1, hw]; rfl) (fun c i => by rw [hA2, hA1, hw]; rfl) (fun c i hc => by rw [hA2, hA1, hw]; simp only [gI_sI]; ((try simp only [true_and, and_true, if_true, and_self]); (repeat (first | rw [if_neg (by omega)] | rw [if_pos (by omega)])))) (by rw [hA2, hA1, hw]; simp only [gI_sI]; ((try simp only [true_and, and_true, if_true, and_self]); (repeat (first | rw [if_neg (by omega)] | rw [if_pos (by omega)])))) (by rw [hA2, hA1, hw]; simp only [gI_sI]; ((try simp only [true_and, and_true, if_true, and_self]); (repeat (first | rw [if_neg (by omega)] | rw [if_pos (by omega)])))) (by rw [hA2]; simp only [gI_sI]; ((try simp only [true_and, and_true, if_true, and_self]); (repeat (first | rw [if_neg (by omega)] | rw [if_pos (by omega)])))) (by rw [hA2]; simp only [gI_sI]; ((try simp only [true_and, and_true, if_true, and_self]); (repeat (first | rw [if_neg (by omega)] | rw [if_pos (by omega)]))))
    exact ⟨hb, by rw [hA2]; simp only [gI_sI]; ((try simp only [true_and, and_true, if_true, and_self]); (repeat (first | rw [if_neg (by omega)] | rw [if_pos (by omega)]))), C, h2⟩
  · rw [hA1]
    refine ⟨_, rfl, by (repeat' split) <;> omega, ⟨h.s, h.x, hj.m.M.o⟩, (cm_pen (A := A) hj.m.M rx ry).mono (fun b9 A2 hq => ?_) (fun _ _ h => h)⟩
    obtain ⟨hb, ⟨hc, _⟩ | ⟨_, hA2⟩⟩ := hq
    · exact absurd hc hn
    refine ⟨hb, by rw [hA2, gI_sIs]; exact (if_neg hn).symm, C, by rw [hA2]; exact JT_0 h⟩
theorem js_approve {X : Int → Int} {C : Int → cT} {d z : Int} (h : JT X C A) (rd : r32 d) (hz : z = 0 ∨ z = 1) : mj_Cal G n_L_approve [mR (some 100), mI d, mI z, mR (some 140)] A (fun r A1 => ∃ kk, r = some (mI kk) ∧ (0 ≤ kk ∧ kk ≤ 3) ∧ (gS A1 50 = some (.inl 99) ∧ gI A1 50 = X ∧ gS A1 200 = some (.inl 7)) ∧ mj_Cal G n_M_approve [mR (some 200), mI d, mI z] A1 (fun b A2 => ∃ v, b = some (mI v) ∧ gI A2 200 0 = kk ∧ (kk = 0 → gI A2 140 0 = nrm v) ∧ JE X A2) mj_no) mj_no := by
  refine (lx_approve h rd hz).mono (fun r A1 hp => ?_) (fun _ _ h => h)
  have hj := h.j
  have hnd := hj.m.g.nd
  have hns := hj.m.g.ns
  have hnp := hj.m.p.np
  rcases hp with ⟨hc, rfl, W, hw, hA1⟩ | ⟨hn, rfl, hA1⟩
  · have eG : ∀ c, (c = 50 ∨ (200 ≤ c ∧ c ≤ 245)) → gI A1 c = gI A c := (fun c c0 => funext fun i => by rw [hA1, hw]; simp only [gI_sI]; ((try simp only [true_and, and_true, if_true, and_self]); (repeat (first | rw [if_neg (by omega)] | rw [if_pos (by omega)]))))
    have e : ∀ c, 200 ≤ c → c ≤ 245 → gI A1 c = gI A c := fun c c0 c1 => eG c (Or.inr ⟨c0, c1⟩)
    have hSG : ∀ c, (c = 50 ∨ (200 ≤ c ∧ c ≤ 245)) → gS A1 c = gS A c := fun c c0 => by rw [hA1, hw]; rfl
    have hSm : ∀ c, 200 ≤ c → c ≤ 245 → gS A1 c = gS A c := fun c c0 c1 => hSG c (Or.inr ⟨c0, c1⟩)
    have hPm : ∀ c i, 200 ≤ c → c ≤ 245 → gP A1 c i = gP A c i := fun c i c0 c1 => by rw [hA1, hw]; rfl
    have hm1 : MI C A1 := MI_ag (A := A) hSm hPm (fun c i c0 c1 => congrFun (e c c0 c1) i) hj.m
    have h22 := fun c (c0 : 222 ≤ c) (c1 : c ≤ 237) => e c (by omega) (by omega)
    have enan := fun d => mo_an_c (A := A) (B := A1) (d := d) h22 (e 204 (by omega) (by omega)) (e 205 (by omega) (by omega)) (by rw [e 200 (by omega) (by omega)])
    refine ⟨0, rfl, by omega, ⟨(hSG 50 (Or.inl rfl)).trans h.s, (eG 50 (Or.inl rfl)).trans h.x, hm1.M.o⟩, (cm_approve (A := A1) hm1.M hm1.g (mi_hp hm1) rd hz).mono (fun b9 A2 hq => ?_) (fun _ _ h => h)⟩
    try simp only [e 200 (by omega) (by omega), e 204 (by omega) (by omega), e 205 (by omega) (by omega), e 206 (by omega) (by omega), e 207 (by omega) (by omega), e 208 (by omega) (by omega), e 209 (by omega) (by omega), e 210 (by omega) (by omega), e 211 (by omega) (by omega), e 212 (by omega) (by omega), e 213 (by omega) (by omega), e 214 (by omega) (by omega), e 215 (by omega) (by omega), e 216 (by omega) (by omega), e 222 (by omega) (by omega), e 224 (by omega) (by omega), e 225 (by omega) (by omega), e 226 (by omega) (by omega), e 227 (by omega) (by omega), e 228 (by omega) (by omega), e 229 (by omega) (by omega), e 230 (by omega) (by omega), e 231 (by omega) (by omega), e 233 (by omega) (by omega), e 234 (by omega) (by omega), e 235 (by omega) (by omega), e 236 (by omega) (by omega), e 237 (by omega) (by omega), e 238 (by omega) (by omega), e 239 (by omega) (by omega), e 241 (by omega) (by omega), e 244 (by omega) (by omega), enan] at hq
    obtain ⟨_, hb, hA2⟩ | ⟨hn, _⟩ := hq
    rotate_left
    · exact absurd hc hn
    have h2 : JT X C A2 := jt_approve h hc.1 hz (fun c => by rw [hA2, hA1, hw]; rfl) (fun c i => by rw [hA2, hA1, hw]; rfl) (fun c i hc => by rw [hA2, hA1, hw]; simp only [gI_sI]; ((try simp only [true_and, and_true, if_true, and_self]); (repeat (first | rw [if_neg (by omega)] | rw [if_pos (by omega)])))) (by rw [hA2, hA1, hw]; simp only [gI_sI]; ((try simp only [true_and, and_true, if_true, and_self]); (repeat (first | rw [if_neg (by omega)] | rw [if_pos (by omega)])))) (by rw [hA2, hA1, hw]; simp only [gI_sI]; ((try simp only [true_and, and_true, if_true, and_self]); (repeat (first | rw [if_neg (by omega)] | rw [if_pos (by omega)]))))
    exact ⟨_, hb, by rw [hA2]; simp only [gI_sI]; ((try simp only [true_and, and_true, if_true, and_self]); (repeat (first | rw [if_neg (by omega)] | rw [if_pos (by omega)]))), fun _ => by rw [hA2, hA1]; simp only [gI_sI]; ((try simp only [true_and, and_true, if_true, and_self]); (repeat (first | rw [if_neg (by omega)] | rw [if_pos (by omega)]))), C, h2⟩
  · rw [hA1]
    refine ⟨_, rfl, by (repeat' split) <;> omega, ⟨h.s, h.x, hj.m.M.o⟩, (cm_approve (A := A) hj.m.M hj.m.g (mi_hp hj.m) rd hz).mono (fun b9 A2 hq => ?_) (fun _ _ h => h)⟩
    obtain ⟨hc, _⟩ | ⟨_, hb, hA2⟩ := hq
    · exact absurd hc hn
    refine ⟨0, hb, by rw [hA2, gI_sIs], fun hk => ?_, C, by rw [hA2]; exact JT_0 h⟩
    exfalso
    revert hk
    by_cases h1 : (0 ≤ d ∧ d < gI A 200 3)
    · rw [if_pos h1, if_neg (fun h2 => hn ⟨h1, h2⟩)]; omega
    · rw [if_neg h1]; omega
theorem js_colour {X : Int → Int} {C : Int → cT} {p its c : Int} (h : JT X C A) (rp : r32 p) (rits : r32 its) (rc : r32 c) : mj_Cal G n_L_colour [mR (some 100), mI p, mI its, mI c, mR (some 140)] A (fun r A1 => ∃ kk, r = some (mI kk) ∧ (0 ≤ kk ∧ kk ≤ 3) ∧ (gS A1 50 = some (.inl 99) ∧ gI A1 50 = X ∧ gS A1 200 = some (.inl 7)) ∧ mj_Cal G n_M_colour [mR (some 200), mI p, mI its, mI c] A1 (fun b A2 => ∃ v, b = some (mI v) ∧ gI A2 200 0 = kk ∧ (kk = 0 → gI A2 140 0 = nrm v) ∧ JE X A2) mj_no) mj_no := by
  refine (lx_colour h rp rits rc).mono (fun r A1 hp => ?_) (fun _ _ h => h)
  have hj := h.j
  have hnd := hj.m.g.nd
  have hns := hj.m.g.ns
  have hnp := hj.m.p.np
  rcases hp with ⟨hc, rfl, W, hw, hA1⟩ | ⟨hn, rfl, hA1⟩
  · have eG : ∀ c, (c = 50 ∨ (200 ≤ c ∧ c ≤ 245)) → gI A1 c = gI A c := (fun c c0 => funext fun i => by rw [hA1, hw]; simp only [gI_sI]; ((try simp only [true_and, and_true, if_true, and_self]); (repeat (first | rw [if_neg (by omega)] | rw [if_pos (by omega)]))))
    have e : ∀ c, 200 ≤ c → c ≤ 245 → gI A1 c = gI A c := fun c c0 c1 => eG c (Or.inr ⟨c0, c1⟩)
    have hSG : ∀ c, (c = 50 ∨ (200 ≤ c ∧ c ≤ 245)) → gS A1 c = gS A c := fun c c0 => by rw [hA1, hw]; rfl
    have hSm : ∀ c, 200 ≤ c → c ≤ 245 → gS A1 c = gS A c := fun c c0 c1 => hSG c (Or.inr ⟨c0, c1⟩)
    have hPm : ∀ c i, 200 ≤ c → c ≤ 245 → gP A1 c i = gP A c i := fun c i c0 c1 => by rw [hA1, hw]; rfl
    have hm1 : MI C A1 := MI_ag (A := A) hSm hPm (fun c i c0 c1 => congrFun (e c c0 c1) i) hj.m
    refine ⟨0, rfl, by omega, ⟨(hSG 50 (Or.inl rfl)).trans h.s, (eG 50 (Or.inl rfl)).trans h.x, hm1.M.o⟩, (cm_colour (A := A1) hm1.M rp rits rc).mono (fun b9 A2 hq => ?_) (fun _ _ h => h)⟩
    try simp only [e 200 (by omega) (by omega), e 204 (by omega) (by omega), e 205 (by omega) (by omega), e 206 (by omega) (by omega), e 207 (by omega) (by omega), e 208 (by omega) (by omega), e 209 (by omega) (by omega), e 210 (by omega) (by omega), e 211 (by omega) (by omega), e 212 (by omega) (by omega), e 213 (by omega) (by omega), e 214 (by omega) (by omega), e 215 (by omega) (by omega), e 216 (by omega) (by omega), e 222 (by omega) (by omega), e 224 (by omega) (by omega), e 225 (by omega) (by omega), e 226 (by omega) (by omega), e 227 (by omega) (by omega), e 228 (by omega) (by omega), e 229 (by omega) (by omega), e 230 (by omega) (by omega), e 231 (by omega) (by omega), e 233 (by omega) (by omega), e 234 (by omega) (by omega), e 235 (by omega) (by omega), e 236 (by omega) (by omega), e 237 (by omega) (by omega), e 238 (by omega) (by omega), e 239 (by omega) (by omega), e 241 (by omega) (by omega), e 244 (by omega) (by omega)] at hq
    obtain ⟨_, hb, hA2⟩ | ⟨hn, _⟩ := hq
    rotate_left
    · exact absurd hc hn
    have h2 : JT X C A2 := jt_colour h (k := 8 * p + its) hc.2 (fun c => by rw [hA2, hA1, hw]; rfl) (fun c i => by rw [hA2, hA1, hw]; rfl) (fun c i hc => by rw [hA2, hA1, hw]; simp only [gI_sI]; ((try simp only [true_and, and_true, if_true, and_self]); (repeat (first | rw [if_neg (by omega)] | rw [if_pos (by omega)])))) (by rw [hA2, hA1, hw]; simp only [gI_sI]; ((try simp only [true_and, and_true, if_true, and_self]); (repeat (first | rw [if_neg (by omega)] | rw [if_pos (by omega)])))) (by rw [hA2, hA1, hw]; simp only [gI_sI]; ((try simp only [true_and, and_true, if_true, and_self]); (repeat (first | rw [if_neg (by omega)] | rw [if_pos (by omega)]))))
    exact ⟨_, hb, by rw [hA2]; simp only [gI_sI]; ((try simp only [true_and, and_true, if_true, and_self]); (repeat (first | rw [if_neg (by omega)] | rw [if_pos (by omega)]))), fun _ => by rw [hA2, hA1]; simp only [gI_sI]; ((try simp only [true_and, and_true, if_true, and_self]); (repeat (first | rw [if_neg (by omega)] | rw [if_pos (by omega)]))), C, h2⟩
  · rw [hA1]
    refine ⟨_, rfl, by (repeat' split) <;> omega, ⟨h.s, h.x, hj.m.M.o⟩, (cm_colour (A := A) hj.m.M rp rits rc).mono (fun b9 A2 hq => ?_) (fun _ _ h => h)⟩
    obtain ⟨hc, _⟩ | ⟨_, hb, hA2⟩ := hq
    · exact absurd hc hn
    refine ⟨0, hb, by rw [hA2, gI_sIs], fun hk => ?_, C, by rw [hA2]; exact JT_0 h⟩
    exfalso
    revert hk
    by_cases h1 : (0 ≤ p ∧ p ≤ 3 ∧ 0 ≤ its ∧ its ≤ 7)
    · rw [if_pos h1, if_neg (fun h2 => hn ⟨h1, h2⟩)]; omega
    · rw [if_neg h1]; omega
theorem js_expose {X : Int → Int} {C : Int → cT} {s l f w : Int} (h : JT X C A) (rs : r32 s) (rl : r32 l) (rf : r32 f) (rw : r32 w) : mj_Cal G n_L_expose [mR (some 100), mI s, mI l, mI f, mI w, mR (some 140)] A (fun r A1 => ∃ kk, r = some (mI kk) ∧ (0 ≤ kk ∧ kk ≤ 3) ∧ (gS A1 50 = some (.inl 99) ∧ gI A1 50 = X ∧ gS A1 200 = some (.inl 7)) ∧ mj_Cal G n_M_expose [mR (some 200), mI s, mI l, mI f, mI w] A1 (fun b A2 => ∃ v, b = some (mI v) ∧ gI A2 200 0 = kk ∧ (kk = 0 → gI A2 140 0 = nrm v) ∧ JE X A2) mj_no) mj_no := by
  refine (lx_expose h rs rl rf rw).mono (fun r A1 hp => ?_) (fun _ _ h => h)
  have hj := h.j
  have hnd := hj.m.g.nd
  have hns := hj.m.g.ns
  have hnp := hj.m.p.np
  rcases hp with ⟨hc, rfl, W, hw, hA1⟩ | ⟨hn, rfl, hA1⟩
  · have eG : ∀ c, (c = 50 ∨ (200 ≤ c ∧ c ≤ 245)) → gI A1 c = gI A c := (fun c c0 => funext fun i => by rw [hA1, hw]; simp only [gI_sI]; ((try simp only [true_and, and_true, if_true, and_self]); (repeat (first | rw [if_neg (by omega)] | rw [if_pos (by omega)]))))
    have e : ∀ c, 200 ≤ c → c ≤ 245 → gI A1 c = gI A c := fun c c0 c1 => eG c (Or.inr ⟨c0, c1⟩)
    have hSG : ∀ c, (c = 50 ∨ (200 ≤ c ∧ c ≤ 245)) → gS A1 c = gS A c := fun c c0 => by rw [hA1, hw]; rfl
    have hSm : ∀ c, 200 ≤ c → c ≤ 245 → gS A1 c = gS A c := fun c c0 c1 => hSG c (Or.inr ⟨c0, c1⟩)
    have hPm : ∀ c i, 200 ≤ c → c ≤ 245 → gP A1 c i = gP A c i := fun c i c0 c1 => by rw [hA1, hw]; rfl
    have hm1 : MI C A1 := MI_ag (A := A) hSm hPm (fun c i c0 c1 => congrFun (e c c0 c1) i) hj.m
    refine ⟨0, rfl, by omega, ⟨(hSG 50 (Or.inl rfl)).trans h.s, (eG 50 (Or.inl rfl)).trans h.x, hm1.M.o⟩, (cm_expose (A := A1) hm1.M hm1.g rs rl rf rw).mono (fun b9 A2 hq => ?_) (fun _ _ h => h)⟩
    try simp only [e 200 (by omega) (by omega), e 204 (by omega) (by omega), e 205 (by omega) (by omega), e 206 (by omega) (by omega), e 207 (by omega) (by omega), e 208 (by omega) (by omega), e 209 (by omega) (by omega), e 210 (by omega) (by omega), e 211 (by omega) (by omega), e 212 (by omega) (by omega), e 213 (by omega) (by omega), e 214 (by omega) (by omega), e 215 (by omega) (by omega), e 216 (by omega) (by omega), e 222 (by omega) (by omega), e 224 (by omega) (by omega), e 225 (by omega) (by omega), e 226 (by omega) (by omega), e 227 (by omega) (by omega), e 228 (by omega) (by omega), e 229 (by omega) (by omega), e 230 (by omega) (by omega), e 231 (by omega) (by omega), e 233 (by omega) (by omega), e 234 (by omega) (by omega), e 235 (by omega) (by omega), e 236 (by omega) (by omega), e 237 (by omega) (by omega), e 238 (by omega) (by omega), e 239 (by omega) (by omega), e 241 (by omega) (by omega), e 244 (by omega) (by omega)] at hq
    obtain ⟨_, hb, hA2⟩ | ⟨hn, _⟩ := hq
    rotate_left
    · exact absurd hc hn
    have h2 : JT X C A2 := jt_expose h ⟨hc.1.1.1, hc.1.1.2.1⟩ hc.1.1.2.2 ⟨hc.1.2.1.2.2.1, hc.1.2.1.2.2.2⟩ hc.1.2.2 hc.2 (fun c => by rw [hA2, hA1, hw]; rfl) (fun c i => by rw [hA2, hA1, hw]; rfl) (fun c i hc => by rw [hA2, hA1, hw]; simp only [gI_sI]; ((try simp only [true_and, and_true, if_true, and_self]); (repeat (first | rw [if_neg (by omega)] | rw [if_pos (by omega)])))) (by rw [hA2, hA1, hw]; simp only [gI_sI]; ((try simp only [true_and, and_true, if_true, and_self]); (repeat (first | rw [if_neg (by omega)] | rw [if_pos (by omega)])))) (by rw [hA2, hA1, hw]; simp only [gI_sI]; ((try simp only [true_and, and_true, if_true, and_self]); (repeat (first | rw [if_neg (by omega)] | rw [if_pos (by omega)]))))
    exact ⟨_, hb, by rw [hA2]; simp only [gI_sI]; ((try simp only [true_and, and_true, if_true, and_self]); (repeat (first | rw [if_neg (by omega)] | rw [if_pos (by omega)]))), fun _ => by rw [hA2, hA1]; simp only [gI_sI]; ((try simp only [true_and, and_true, if_true, and_self]); (repeat (first | rw [if_neg (by omega)] | rw [if_pos (by omega)]))), C, h2⟩
  · rw [hA1]
    refine ⟨_, rfl, by (repeat' split) <;> omega, ⟨h.s, h.x, hj.m.M.o⟩, (cm_expose (A := A) hj.m.M hj.m.g rs rl rf rw).mono (fun b9 A2 hq => ?_) (fun _ _ h => h)⟩
    obtain ⟨hc, _⟩ | ⟨_, hb, hA2⟩ := hq
    · exact absurd hc hn
    refine ⟨0, hb, by rw [hA2, gI_sIs], fun hk => ?_, C, by rw [hA2]; exact JT_0 h⟩
    exfalso
    revert hk
    by_cases h1 : ((0 ≤ s ∧ s < gI A 200 23 ∧ 0 ≤ l ∧ l ≤ 3) ∧ (0 ≤ s ∧ s < gI A 200 23 ∧ 0 ≤ f ∧ f < gI A 224 s) ∧ (0 ≤ w ∧ w ≤ 15 → w < gI A 200 3))
    · rw [if_pos h1, if_neg (fun h2 => hn ⟨h1, h2⟩)]; omega
    · rw [if_neg h1]; omega
theorem js_voice {X : Int → Int} {C : Int → cT} {s f w : Int} (h : JT X C A) (rs : r32 s) (rf : r32 f) (rw : r32 w) : mj_Cal G n_L_voice [mR (some 100), mI s, mI f, mI w, mR (some 140)] A (fun r A1 => ∃ kk, r = some (mI kk) ∧ (0 ≤ kk ∧ kk ≤ 3) ∧ (gS A1 50 = some (.inl 99) ∧ gI A1 50 = X ∧ gS A1 200 = some (.inl 7)) ∧ mj_Cal G n_M_voice [mR (some 200), mI s, mI f, mI w] A1 (fun b A2 => ∃ v, b = some (mI v) ∧ gI A2 200 0 = kk ∧ (kk = 0 → gI A2 140 0 = nrm v) ∧ JE X A2) mj_no) mj_no := by
  refine (lx_voice h rs rf rw).mono (fun r A1 hp => ?_) (fun _ _ h => h)
  have hj := h.j
  have hnd := hj.m.g.nd
  have hns := hj.m.g.ns
  have hnp := hj.m.p.np
  rcases hp with ⟨hc, rfl, W, hw, hA1⟩ | ⟨hn, rfl, hA1⟩
  · have eG : ∀ c, (c = 50 ∨ (200 ≤ c ∧ c ≤ 245)) → gI A1 c = gI A c := (fun c c0 => funext fun i => by rw [hA1, hw]; simp only [gI_sI]; ((try simp only [true_and, and_true, if_true, and_self]); (repeat (first | rw [if_neg (by omega)] | rw [if_pos (by omega)]))))
    have e : ∀ c, 200 ≤ c → c ≤ 245 → gI A1 c = gI A c := fun c c0 c1 => eG c (Or.inr ⟨c0, c1⟩)
    have hSG : ∀ c, (c = 50 ∨ (200 ≤ c ∧ c ≤ 245)) → gS A1 c = gS A c := fun c c0 => by rw [hA1, hw]; rfl
    have hSm : ∀ c, 200 ≤ c → c ≤ 245 → gS A1 c = gS A c := fun c c0 c1 => hSG c (Or.inr ⟨c0, c1⟩)
    have hPm : ∀ c i, 200 ≤ c → c ≤ 245 → gP A1 c i = gP A c i := fun c i c0 c1 => by rw [hA1, hw]; rfl
    have hm1 : MI C A1 := MI_ag (A := A) hSm hPm (fun c i c0 c1 => congrFun (e c c0 c1) i) hj.m
    refine ⟨0, rfl, by omega, ⟨(hSG 50 (Or.inl rfl)).trans h.s, (eG 50 (Or.inl rfl)).trans h.x, hm1.M.o⟩, (cm_voice (A := A1) hm1.M hm1.g rs rf rw).mono (fun b9 A2 hq => ?_) (fun _ _ h => h)⟩
    try simp only [e 200 (by omega) (by omega), e 204 (by omega) (by omega), e 205 (by omega) (by omega), e 206 (by omega) (by omega), e 207 (by omega) (by omega), e 208 (by omega) (by omega), e 209 (by omega) (by omega), e 210 (by omega) (by omega), e 211 (by omega) (by omega), e 212 (by omega) (by omega), e 213 (by omega) (by omega), e 214 (by omega) (by omega), e 215 (by omega) (by omega), e 216 (by omega) (by omega), e 222 (by omega) (by omega), e 224 (by omega) (by omega), e 225 (by omega) (by omega), e 226 (by omega) (by omega), e 227 (by omega) (by omega), e 228 (by omega) (by omega), e 229 (by omega) (by omega), e 230 (by omega) (by omega), e 231 (by omega) (by omega), e 233 (by omega) (by omega), e 234 (by omega) (by omega), e 235 (by omega) (by omega), e 236 (by omega) (by omega), e 237 (by omega) (by omega), e 238 (by omega) (by omega), e 239 (by omega) (by omega), e 241 (by omega) (by omega), e 244 (by omega) (by omega)] at hq
    obtain ⟨_, hb, hA2⟩ | ⟨hn, _⟩ := hq
    rotate_left
    · exact absurd hc hn
    have h2 : JT X C A2 := jt_voice h ⟨hc.1.1, hc.1.2.1⟩ hc.1.2.2 hc.2 (fun c => by rw [hA2, hA1, hw]; rfl) (fun c i => by rw [hA2, hA1, hw]; rfl) (fun c i hc => by rw [hA2, hA1, hw]; simp only [gI_sI]; ((try simp only [true_and, and_true, if_true, and_self]); (repeat (first | rw [if_neg (by omega)] | rw [if_pos (by omega)])))) (by rw [hA2, hA1, hw]; simp only [gI_sI]; ((try simp only [true_and, and_true, if_true, and_self]); (repeat (first | rw [if_neg (by omega)] | rw [if_pos (by omega)])))) (by rw [hA2, hA1, hw]; simp only [gI_sI]; ((try simp only [true_and, and_true, if_true, and_self]); (repeat (first | rw [if_neg (by omega)] | rw [if_pos (by omega)]))))
    exact ⟨_, hb, by rw [hA2]; simp only [gI_sI]; ((try simp only [true_and, and_true, if_true, and_self]); (repeat (first | rw [if_neg (by omega)] | rw [if_pos (by omega)]))), fun _ => by rw [hA2, hA1]; simp only [gI_sI]; ((try simp only [true_and, and_true, if_true, and_self]); (repeat (first | rw [if_neg (by omega)] | rw [if_pos (by omega)]))), C, h2⟩
  · rw [hA1]
    refine ⟨_, rfl, by (repeat' split) <;> omega, ⟨h.s, h.x, hj.m.M.o⟩, (cm_voice (A := A) hj.m.M hj.m.g rs rf rw).mono (fun b9 A2 hq => ?_) (fun _ _ h => h)⟩
    obtain ⟨hc, _⟩ | ⟨_, hb, hA2⟩ := hq
    · exact absurd hc hn
    refine ⟨0, hb, by rw [hA2, gI_sIs], fun hk => ?_, C, by rw [hA2]; exact JT_0 h⟩
    exfalso
    revert hk
    rw [if_neg hn]; omega
theorem js_mouth {X : Int → Int} {C : Int → cT} {w d : Int} (h : JT X C A) (rw : r32 w) (rd : r32 d) : mj_Cal G n_L_mouth [mR (some 100), mI w, mI d, mR (some 140)] A (fun r A1 => ∃ kk, r = some (mI kk) ∧ (0 ≤ kk ∧ kk ≤ 3) ∧ (gS A1 50 = some (.inl 99) ∧ gI A1 50 = X ∧ gS A1 200 = some (.inl 7)) ∧ mj_Cal G n_M_mouth [mR (some 200), mI w, mI d] A1 (fun b A2 => ∃ v, b = some (mI v) ∧ gI A2 200 0 = kk ∧ (kk = 0 → gI A2 140 0 = nrm v) ∧ JE X A2) mj_no) mj_no := by
  refine (lx_mouth h rw rd).mono (fun r A1 hp => ?_) (fun _ _ h => h)
  have hj := h.j
  have hnd := hj.m.g.nd
  have hns := hj.m.g.ns
  have hnp := hj.m.p.np
  rcases hp with ⟨hc, rfl, W, hw, hA1⟩ | ⟨hn, rfl, hA1⟩
  · have eG : ∀ c, (c = 50 ∨ (200 ≤ c ∧ c ≤ 245)) → gI A1 c = gI A c := (fun c c0 => funext fun i => by rw [hA1, hw]; simp only [gI_sI]; ((try simp only [true_and, and_true, if_true, and_self]); (repeat (first | rw [if_neg (by omega)] | rw [if_pos (by omega)]))))
    have e : ∀ c, 200 ≤ c → c ≤ 245 → gI A1 c = gI A c := fun c c0 c1 => eG c (Or.inr ⟨c0, c1⟩)
    have hSG : ∀ c, (c = 50 ∨ (200 ≤ c ∧ c ≤ 245)) → gS A1 c = gS A c := fun c c0 => by rw [hA1, hw]; rfl
    have hSm : ∀ c, 200 ≤ c → c ≤ 245 → gS A1 c = gS A c := fun c c0 c1 => hSG c (Or.inr ⟨c0, c1⟩)
    have hPm : ∀ c i, 200 ≤ c → c ≤ 245 → gP A1 c i = gP A c i := fun c i c0 c1 => by rw [hA1, hw]; rfl
    have hm1 : MI C A1 := MI_ag (A := A) hSm hPm (fun c i c0 c1 => congrFun (e c c0 c1) i) hj.m
    refine ⟨0, rfl, by omega, ⟨(hSG 50 (Or.inl rfl)).trans h.s, (eG 50 (Or.inl rfl)).trans h.x, hm1.M.o⟩, (cm_mouth (A := A1) hm1.M hm1.g rw rd).mono (fun b9 A2 hq => ?_) (fun _ _ h => h)⟩
    try simp only [e 200 (by omega) (by omega), e 204 (by omega) (by omega), e 205 (by omega) (by omega), e 206 (by omega) (by omega), e 207 (by omega) (by omega), e 208 (by omega) (by omega), e 209 (by omega) (by omega), e 210 (by omega) (by omega), e 211 (by omega) (by omega), e 212 (by omega) (by omega), e 213 (by omega) (by omega), e 214 (by omega) (by omega), e 215 (by omega) (by omega), e 216 (by omega) (by omega), e 222 (by omega) (by omega), e 224 (by omega) (by omega), e 225 (by omega) (by omega), e 226 (by omega) (by omega), e 227 (by omega) (by omega), e 228 (by omega) (by omega), e 229 (by omega) (by omega), e 230 (by omega) (by omega), e 231 (by omega) (by omega), e 233 (by omega) (by omega), e 234 (by omega) (by omega), e 235 (by omega) (by omega), e 236 (by omega) (by omega), e 237 (by omega) (by omega), e 238 (by omega) (by omega), e 239 (by omega) (by omega), e 241 (by omega) (by omega), e 244 (by omega) (by omega)] at hq
    obtain ⟨_, hb, hA2⟩ | ⟨hn, _⟩ := hq
    rotate_left
    · exact absurd hc hn
    have h2 : JT X C A2 := jt_mouth h hc.1 hc.2 (fun c => by rw [hA2, hA1, hw]; rfl) (fun c i => by rw [hA2, hA1, hw]; rfl) (fun c i hc => by rw [hA2, hA1, hw]; simp only [gI_sI]; ((try simp only [true_and, and_true, if_true, and_self]); (repeat (first | rw [if_neg (by omega)] | rw [if_pos (by omega)])))) (by rw [hA2, hA1, hw]; simp only [gI_sI]; ((try simp only [true_and, and_true, if_true, and_self]); (repeat (first | rw [if_neg (by omega)] | rw [if_pos (by omega)])))) (by rw [hA2, hA1, hw]; simp only [gI_sI]; ((try simp only [true_and, and_true, if_true, and_self]); (repeat (first | rw [if_neg (by omega)] | rw [if_pos (by omega)]))))
    exact ⟨_, hb, by rw [hA2]; simp only [gI_sI]; ((try simp only [true_and, and_true, if_true, and_self]); (repeat (first | rw [if_neg (by omega)] | rw [if_pos (by omega)]))), fun _ => by rw [hA2, hA1]; simp only [gI_sI]; ((try simp only [true_and, and_true, if_true, and_self]); (repeat (first | rw [if_neg (by omega)] | rw [if_pos (by omega)]))), C, h2⟩
  · rw [hA1]
    refine ⟨_, rfl, by (repeat' split) <;> omega, ⟨h.s, h.x, hj.m.M.o⟩, (cm_mouth (A := A) hj.m.M hj.m.g rw rd).mono (fun b9 A2 hq => ?_) (fun _ _ h => h)⟩
    obtain ⟨hc, _⟩ | ⟨_, hb, hA2⟩ := hq
    · exact absurd hc hn
    refine ⟨0, hb, by rw [hA2, gI_sIs], fun hk => ?_, C, by rw [hA2]; exact JT_0 h⟩
    exfalso
    revert hk
    rw [if_neg hn]; omega
theorem js_speaks {X : Int → Int} {C : Int → cT} {s l : Int} (h : JT X C A) (rs : r32 s) (rl : r32 l) : mj_Cal G n_L_speaks [mR (some 100), mI s, mI l, mR (some 140)] A (fun r A1 => ∃ kk, r = some (mI kk) ∧ (0 ≤ kk ∧ kk ≤ 3) ∧ (gS A1 50 = some (.inl 99) ∧ gI A1 50 = X ∧ gS A1 200 = some (.inl 7)) ∧ mj_Cal G n_M_speaks [mR (some 200), mI s, mI l] A1 (fun b A2 => ∃ v, b = some (mI v) ∧ gI A2 200 0 = kk ∧ (kk = 0 → gI A2 140 0 = nrm v ∧ (v = 0 ∨ v = 1)) ∧ JE X A2) mj_no) mj_no := by
  refine (lx_speaks h rs rl).mono (fun r A1 hp => ?_) (fun _ _ h => h)
  have hj := h.j
  have hnd := hj.m.g.nd
  have hns := hj.m.g.ns
  have hnp := hj.m.p.np
  rcases hp with ⟨hc, rfl, W, hw, hA1⟩ | ⟨hn, rfl, hA1⟩
  · have eG : ∀ c, (c = 50 ∨ (200 ≤ c ∧ c ≤ 245)) → gI A1 c = gI A c := (fun c c0 => funext fun i => by rw [hA1, hw]; simp only [gI_sI]; ((try simp only [true_and, and_true, if_true, and_self]); (repeat (first | rw [if_neg (by omega)] | rw [if_pos (by omega)]))))
    have e : ∀ c, 200 ≤ c → c ≤ 245 → gI A1 c = gI A c := fun c c0 c1 => eG c (Or.inr ⟨c0, c1⟩)
    have hSG : ∀ c, (c = 50 ∨ (200 ≤ c ∧ c ≤ 245)) → gS A1 c = gS A c := fun c c0 => by rw [hA1, hw]; rfl
    have hSm : ∀ c, 200 ≤ c → c ≤ 245 → gS A1 c = gS A c := fun c c0 c1 => hSG c (Or.inr ⟨c0, c1⟩)
    have hPm : ∀ c i, 200 ≤ c → c ≤ 245 → gP A1 c i = gP A c i := fun c i c0 c1 => by rw [hA1, hw]; rfl
    have hm1 : MI C A1 := MI_ag (A := A) hSm hPm (fun c i c0 c1 => congrFun (e c c0 c1) i) hj.m
    refine ⟨0, rfl, by omega, ⟨(hSG 50 (Or.inl rfl)).trans h.s, (eG 50 (Or.inl rfl)).trans h.x, hm1.M.o⟩, (cm_speaks (A := A1) hm1.M hm1.g rs rl hm1.sp).mono (fun b9 A2 hq => ?_) (fun _ _ h => h)⟩
    try simp only [e 200 (by omega) (by omega), e 204 (by omega) (by omega), e 205 (by omega) (by omega), e 206 (by omega) (by omega), e 207 (by omega) (by omega), e 208 (by omega) (by omega), e 209 (by omega) (by omega), e 210 (by omega) (by omega), e 211 (by omega) (by omega), e 212 (by omega) (by omega), e 213 (by omega) (by omega), e 214 (by omega) (by omega), e 215 (by omega) (by omega), e 216 (by omega) (by omega), e 222 (by omega) (by omega), e 224 (by omega) (by omega), e 225 (by omega) (by omega), e 226 (by omega) (by omega), e 227 (by omega) (by omega), e 228 (by omega) (by omega), e 229 (by omega) (by omega), e 230 (by omega) (by omega), e 231 (by omega) (by omega), e 233 (by omega) (by omega), e 234 (by omega) (by omega), e 235 (by omega) (by omega), e 236 (by omega) (by omega), e 237 (by omega) (by omega), e 238 (by omega) (by omega), e 239 (by omega) (by omega), e 241 (by omega) (by omega), e 244 (by omega) (by omega)] at hq
    obtain ⟨_, hb, hA2⟩ | ⟨hn, _⟩ := hq
    rotate_left
    · exact absurd hc hn
    have hv0 := hj.m.sp (4 * s + l)
    have hv01 : 1 - gI A 228 (4 * s + l) = 0 ∨ 1 - gI A 228 (4 * s + l) = 1 := by omega
    have h2 : JT X C A2 := jt_speaks h ⟨hc.1, hc.2.1⟩ hc.2.2 hv01 (fun c => by rw [hA2, hA1, hw]; rfl) (fun c i => by rw [hA2, hA1, hw]; rfl) (fun c i hc => by rw [hA2, hA1, hw]; simp only [gI_sI]; ((try simp only [true_and, and_true, if_true, and_self]); (repeat (first | rw [if_neg (by omega)] | rw [if_pos (by omega)])))) (by rw [hA2, hA1, hw]; simp only [gI_sI]; ((try simp only [true_and, and_true, if_true, and_self]); (repeat (first | rw [if_neg (by omega)] | rw [if_pos (by omega)])))) (by rw [hA2, hA1, hw]; simp only [gI_sI]; ((try simp only [true_and, and_true, if_true, and_self]); (repeat (first | rw [if_neg (by omega)] | rw [if_pos (by omega)]))))
    exact ⟨_, hb, by rw [hA2]; simp only [gI_sI]; ((try simp only [true_and, and_true, if_true, and_self]); (repeat (first | rw [if_neg (by omega)] | rw [if_pos (by omega)]))), fun _ => ⟨by rw [hA2, hA1]; simp only [gI_sI]; ((try simp only [true_and, and_true, if_true, and_self]); (repeat (first | rw [if_neg (by omega)] | rw [if_pos (by omega)]))), hv01⟩, C, h2⟩
  · rw [hA1]
    refine ⟨_, rfl, by (repeat' split) <;> omega, ⟨h.s, h.x, hj.m.M.o⟩, (cm_speaks (A := A) hj.m.M hj.m.g rs rl hj.m.sp).mono (fun b9 A2 hq => ?_) (fun _ _ h => h)⟩
    obtain ⟨hc, _⟩ | ⟨_, hb, hA2⟩ := hq
    · exact absurd hc hn
    refine ⟨0, hb, by rw [hA2, gI_sIs], fun hk => ?_, C, by rw [hA2]; exact JT_0 h⟩
    exfalso
    revert hk
    rw [if_neg hn]; omega
theorem js_hand {X : Int → Int} {C : Int → cT} {w : Int} (h : JT X C A) (rw : r32 w) : mj_Cal G n_L_hand [mR (some 100), mI w, mR (some 140)] A (fun r A1 => ∃ kk, r = some (mI kk) ∧ (0 ≤ kk ∧ kk ≤ 3) ∧ (gS A1 50 = some (.inl 99) ∧ gI A1 50 = X ∧ gS A1 200 = some (.inl 7)) ∧ mj_Cal G n_M_hand [mR (some 200), mI w] A1 (fun b A2 => ∃ v, b = some (mI v) ∧ gI A2 200 0 = kk ∧ (kk = 0 → gI A2 140 0 = nrm v) ∧ JE X A2) mj_no) mj_no := by
  refine (lx_hand h rw).mono (fun r A1 hp => ?_) (fun _ _ h => h)
  have hj := h.j
  have hnd := hj.m.g.nd
  have hns := hj.m.g.ns
  have hnp := hj.m.p.np
  rcases hp with ⟨hc, rfl, W, hw, hA1⟩ | ⟨hn, rfl, hA1⟩
  · have eG : ∀ c, (c = 50 ∨ (200 ≤ c ∧ c ≤ 245)) → gI A1 c = gI A c := (fun c c0 => funext fun i => by rw [hA1, hw]; simp only [gI_sI]; ((try simp only [true_and, and_true, if_true, and_self]); (repeat (first | rw [if_neg (by omega)] | rw [if_pos (by omega)]))))
    have e : ∀ c, 200 ≤ c → c ≤ 245 → gI A1 c = gI A c := fun c c0 c1 => eG c (Or.inr ⟨c0, c1⟩)
    have hSG : ∀ c, (c = 50 ∨ (200 ≤ c ∧ c ≤ 245)) → gS A1 c = gS A c := fun c c0 => by rw [hA1, hw]; rfl
    have hSm : ∀ c, 200 ≤ c → c ≤ 245 → gS A1 c = gS A c := fun c c0 c1 => hSG c (Or.inr ⟨c0, c1⟩)
    have hPm : ∀ c i, 200 ≤ c → c ≤ 245 → gP A1 c i = gP A c i := fun c i c0 c1 => by rw [hA1, hw]; rfl
    have hm1 : MI C A1 := MI_ag (A := A) hSm hPm (fun c i c0 c1 => congrFun (e c c0 c1) i) hj.m
    refine ⟨0, rfl, by omega, ⟨(hSG 50 (Or.inl rfl)).trans h.s, (eG 50 (Or.inl rfl)).trans h.x, hm1.M.o⟩, (cm_hand (A := A1) hm1.M hm1.nh rw).mono (fun b9 A2 hq => ?_) (fun _ _ h => h)⟩
    try simp only [e 200 (by omega) (by omega), e 204 (by omega) (by omega), e 205 (by omega) (by omega), e 206 (by omega) (by omega), e 207 (by omega) (by omega), e 208 (by omega) (by omega), e 209 (by omega) (by omega), e 210 (by omega) (by omega), e 211 (by omega) (by omega), e 212 (by omega) (by omega), e 213 (by omega) (by omega), e 214 (by omega) (by omega), e 215 (by omega) (by omega), e 216 (by omega) (by omega), e 222 (by omega) (by omega), e 224 (by omega) (by omega), e 225 (by omega) (by omega), e 226 (by omega) (by omega), e 227 (by omega) (by omega), e 228 (by omega) (by omega), e 229 (by omega) (by omega), e 230 (by omega) (by omega), e 231 (by omega) (by omega), e 233 (by omega) (by omega), e 234 (by omega) (by omega), e 235 (by omega) (by omega), e 236 (by omega) (by omega), e 237 (by omega) (by omega), e 238 (by omega) (by omega), e 239 (by omega) (by omega), e 241 (by omega) (by omega), e 244 (by omega) (by omega)] at hq
    obtain ⟨_, hb, hA2⟩ | ⟨hn, _⟩ := hq
    rotate_left
    · exact absurd hc hn
    have h2 : JT X C A2 := jt_hand h hc.1 hc.2 (fun c => by rw [hA2, hA1, hw]; rfl) (fun c i => by rw [hA2, hA1, hw]; rfl) (fun c i hc => by rw [hA2, hA1, hw]; simp only [gI_sI]; ((try simp only [true_and, and_true, if_true, and_self]); (repeat (first | rw [if_neg (by omega)] | rw [if_pos (by omega)])))) (by rw [hA2, hA1, hw]; simp only [gI_sI]; ((try simp only [true_and, and_true, if_true, and_self]); (repeat (first | rw [if_neg (by omega)] | rw [if_pos (by omega)])))) (by rw [hA2, hA1, hw]; simp only [gI_sI]; ((try simp only [true_and, and_true, if_true, and_self]); (repeat (first | rw [if_neg (by omega)] | rw [if_pos (by omega)])))) (by rw [hA2, hA1, hw]; simp only [gI_sI]; ((try simp only [true_and, and_true, if_true, and_self]); (repeat (first | rw [if_neg (by omega)] | rw [if_pos (by omega)])))) (by rw [hA2, hA1, hw]; simp only [gI_sI]; ((try simp only [true_and, and_true, if_true, and_self]); (repeat (first | rw [if_neg (by omega)] | rw [if_pos (by omega)]))))
    exact ⟨_, hb, by rw [hA2]; simp only [gI_sI]; ((try simp only [true_and, and_true, if_true, and_self]); (repeat (first | rw [if_neg (by omega)] | rw [if_pos (by omega)]))), fun _ => by rw [hA2, hA1]; simp only [gI_sI]; ((try simp only [true_and, and_true, if_true, and_self]); (repeat (first | rw [if_neg (by omega)] | rw [if_pos (by omega)]))), C, h2⟩
  · rw [hA1]
    refine ⟨_, rfl, by (repeat' split) <;> omega, ⟨h.s, h.x, hj.m.M.o⟩, (cm_hand (A := A) hj.m.M hj.m.nh rw).mono (fun b9 A2 hq => ?_) (fun _ _ h => h)⟩
    obtain ⟨hc, _⟩ | ⟨_, hb, hA2⟩ := hq
    · exact absurd hc hn
    refine ⟨0, hb, by rw [hA2, gI_sIs], fun hk => ?_, C, by rw [hA2]; exact JT_0 h⟩
    exfalso
    revert hk
    by_cases h1 : (1 ≤ w ∧ w ≤ 9)
    · rw [if_pos h1, if_neg (fun h2 => hn ⟨h1, h2⟩)]; omega
    · rw [if_neg h1]; omega
theorem js_splice {X : Int → Int} {C : Int → cT} {s : Int} (h : JT X C A) (rs : r32 s) : mj_Cal G n_L_splice [mR (some 100), mI s, mR (some 140)] A (fun r A1 => ∃ kk, r = some (mI kk) ∧ (0 ≤ kk ∧ kk ≤ 3) ∧ (gS A1 50 = some (.inl 99) ∧ gI A1 50 = X ∧ gS A1 200 = some (.inl 7)) ∧ mj_Cal G n_M_splice [mR (some 200), mI s] A1 (fun b A2 => ∃ v, b = some (mI v) ∧ gI A2 200 0 = kk ∧ (kk = 0 → gI A2 140 0 = nrm v) ∧ JE X A2) mj_no) mj_no := by
  refine (lx_splice h rs).mono (fun r A1 hp => ?_) (fun _ _ h => h)
  have hj := h.j
  have hnd := hj.m.g.nd
  have hns := hj.m.g.ns
  have hnp := hj.m.p.np
  rcases hp with ⟨hc, rfl, W, hw, hA1⟩ | ⟨hn, rfl, hA1⟩
  · have eG : ∀ c, (c = 50 ∨ (200 ≤ c ∧ c ≤ 245)) → gI A1 c = gI A c := (fun c c0 => funext fun i => by rw [hA1, hw]; simp only [gI_sI]; ((try simp only [true_and, and_true, if_true, and_self]); (repeat (first | rw [if_neg (by omega)] | rw [if_pos (by omega)]))))
    have e : ∀ c, 200 ≤ c → c ≤ 245 → gI A1 c = gI A c := fun c c0 c1 => eG c (Or.inr ⟨c0, c1⟩)
    have hSG : ∀ c, (c = 50 ∨ (200 ≤ c ∧ c ≤ 245)) → gS A1 c = gS A c := fun c c0 => by rw [hA1, hw]; rfl
    have hSm : ∀ c, 200 ≤ c → c ≤ 245 → gS A1 c = gS A c := fun c c0 c1 => hSG c (Or.inr ⟨c0, c1⟩)
    have hPm : ∀ c i, 200 ≤ c → c ≤ 245 → gP A1 c i = gP A c i := fun c i c0 c1 => by rw [hA1, hw]; rfl
    have hm1 : MI C A1 := MI_ag (A := A) hSm hPm (fun c i c0 c1 => congrFun (e c c0 c1) i) hj.m
    have enfl := (by unfold mo_fl; rw [e 200 (by omega) (by omega), e 224 (by omega) (by omega), e 244 (by omega) (by omega)] : mo_fl A1 = mo_fl A)
    refine ⟨0, rfl, by omega, ⟨(hSG 50 (Or.inl rfl)).trans h.s, (eG 50 (Or.inl rfl)).trans h.x, hm1.M.o⟩, (cm_splice (A := A1) hm1.M hm1.g hm1.nf hm1.rl rs).mono (fun b9 A2 hq => ?_) (fun _ _ h => h)⟩
    try simp only [e 200 (by omega) (by omega), e 204 (by omega) (by omega), e 205 (by omega) (by omega), e 206 (by omega) (by omega), e 207 (by omega) (by omega), e 208 (by omega) (by omega), e 209 (by omega) (by omega), e 210 (by omega) (by omega), e 211 (by omega) (by omega), e 212 (by omega) (by omega), e 213 (by omega) (by omega), e 214 (by omega) (by omega), e 215 (by omega) (by omega), e 216 (by omega) (by omega), e 222 (by omega) (by omega), e 224 (by omega) (by omega), e 225 (by omega) (by omega), e 226 (by omega) (by omega), e 227 (by omega) (by omega), e 228 (by omega) (by omega), e 229 (by omega) (by omega), e 230 (by omega) (by omega), e 231 (by omega) (by omega), e 233 (by omega) (by omega), e 234 (by omega) (by omega), e 235 (by omega) (by omega), e 236 (by omega) (by omega), e 237 (by omega) (by omega), e 238 (by omega) (by omega), e 239 (by omega) (by omega), e 241 (by omega) (by omega), e 244 (by omega) (by omega), enfl] at hq
    obtain ⟨_, hb, hA2⟩ | ⟨hn, _⟩ := hq
    rotate_left
    · exact absurd hc hn
    have h2 : JT X C A2 := jt_splice h hc.1 hc.2 (fun c => by rw [hA2, hA1, hw]; rfl) (fun c i => by rw [hA2, hA1, hw]; rfl) (fun c i hc => by rw [hA2, hA1, hw]; simp only [gI_sI]; ((try simp only [true_and, and_true, if_true, and_self]); (repeat (first | rw [if_neg (by omega)] | rw [if_pos (by omega)])))) (by rw [hA2, hA1, hw]; simp only [gI_sI]; ((try simp only [true_and, and_true, if_true, and_self]); (repeat (first | rw [if_neg (by omega)] | rw [if_pos (by omega)])))) (by rw [hA2, hA1, hw]; simp only [gI_sI]; ((try simp only [true_and, and_true, if_true, and_self]); (repeat (first | rw [if_neg (by omega)] | rw [if_pos (by omega)])))) (by rw [hA2, hA1, hw]; simp only [gI_sI]; ((try simp only [true_and, and_true, if_true, and_self]); (repeat (first | rw [if_neg (by omega)] | rw [if_pos (by omega)])))) (by rw [hA2, hA1, hw]; simp only [gI_sI]; ((try simp only [true_and, and_true, if_true, and_self]); (repeat (first | rw [if_neg (by omega)] | rw [if_pos (by omega)]))))
    exact ⟨_, hb, by rw [hA2]; simp only [gI_sI]; ((try simp only [true_and, and_true, if_true, and_self]); (repeat (first | rw [if_neg (by omega)] | rw [if_pos (by omega)]))), fun _ => by rw [hA2, hA1]; simp only [gI_sI]; ((try simp only [true_and, and_true, if_true, and_self]); (repeat (first | rw [if_neg (by omega)] | rw [if_pos (by omega)]))), C, h2⟩
  · rw [hA1]
    refine ⟨_, rfl, by (repeat' split) <;> omega, ⟨h.s, h.x, hj.m.M.o⟩, (cm_splice (A := A) hj.m.M hj.m.g hj.m.nf hj.m.rl rs).mono (fun b9 A2 hq => ?_) (fun _ _ h => h)⟩
    obtain ⟨hc, _⟩ | ⟨_, hb, hA2⟩ := hq
    · exact absurd hc hn
    refine ⟨0, hb, by rw [hA2, gI_sIs], fun hk => ?_, C, by rw [hA2]; exact JT_0 h⟩
    exfalso
    revert hk
    by_cases h1 : (0 ≤ s ∧ s < gI A 200 23)
    · rw [if_pos h1, if_neg (fun h2 => hn ⟨h1, h2⟩)]; omega
    · rw [if_neg h1]; omega
end STPG
