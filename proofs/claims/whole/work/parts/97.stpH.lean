/-! THE LAW, 5: steps that draw, make, move, shoot -/
section STPH
variable {G : mj_G} {A : mj_M}
theorem mo_cr {C : Int → cT} (hm : MI C A) {d : Int} (hd : 0 ≤ d ∧ d < gI A 200 3) (h4 : gI A 204 d = -1) : cr (mo_c A d) := cr_e (hm.C.k d hd.1 hd.2 h4) (hm.cr d hd.1 hd.2)
theorem mo_pgx {C : Int → cT} (hm : MI C A) {d its : Int} : 0 ≤ d → d < gI A 200 3 → 0 ≤ its → its ≤ 7 → gI A 204 d = -1 → (∀ j, 8 * d ≤ j → j < 8 * d + gI A 209 d → gI A 210 j ≠ its) → gI A 209 d < 8 := fun d0 d1 i0 i1 h4 hf =>
  c_pg (mo_cr hm ⟨d0, d1⟩ h4) ⟨i0, i1⟩ (mj_fx_n (nm := fun i => gI A 210 (8 * d + i)) (lo := 0) _ (fun j j0 j1 => hf _ (by omega) (by
    have hn := (mo_cr hm ⟨d0, d1⟩ h4).n
    have j2 : j < 0 + (((gI A 209 d).toNat : Nat) : Int) := j1
    replace hn : 0 ≤ gI A 209 d ∧ gI A 209 d ≤ 8 := hn
    omega)))
/-- the other drawings' rows are as they were -/
theorem mo_oth {B : mj_M} {d k : Int} (hst : mo_st2 A) (hpt : mo_pt A) (hd : 0 ≤ d ∧ d < 16) (hk : 0 ≤ k ∧ k < 16) (hdk : d ≠ k) (hI : ∀ c i, 209 ≤ c → c ≤ 216 → ¬ ((c = 209 ∨ c = 213 ∨ c = 216) ∧ i = k) → ¬ ((c = 210 ∨ c = 211) ∧ 8 * k ≤ i ∧ i < 8 * k + 8) → ¬ (c = 212 ∧ 32 * k ≤ i ∧ i < 32 * k + 32) → ¬ ((c = 214 ∨ c = 215) ∧ 6 * k ≤ i ∧ i < 6 * k + 6) → gI B c i = gI A c i) : ce (mo_c A d) (mo_c B d) :=
  ce_8 (hst.n d hd.1 hd.2).2 (hpt.n d hd.1 hd.2).2 (hI _ _ (by omega) (by omega) (by omega) (by omega) (by omega) (by omega)) (fun i i0 i1 => ⟨hI _ _ (by omega) (by omega) (by omega) (by omega) (by omega) (by omega), hI _ _ (by omega) (by omega) (by omega) (by omega) (by omega) (by omega)⟩) (fun i i0 i1 => hI _ _ (by omega) (by omega) (by omega) (by omega) (by omega) (by omega)) (hI _ _ (by omega) (by omega) (by omega) (by omega) (by omega) (by omega)) (fun i i0 i1 => ⟨hI _ _ (by omega) (by omega) (by omega) (by omega) (by omega) (by omega), hI _ _ (by omega) (by omega) (by omega) (by omega) (by omega) (by omega)⟩) (hI _ _ (by omega) (by omega) (by omega) (by omega) (by omega) (by omega))
theorem js_stroke {X : Int → Int} {C : Int → cT} {d its x y c : Int} (h : JT X C A) (rd : r32 d) (rits : r32 its) (rx : r32 x) (ry : r32 y) (rc : r32 c) : mj_Cal G n_L_stroke [mR (some 100), mI d, mI its, mI x, mI y, mI c, mR (some 140)] A (fun r A1 => ∃ kk, r = some (mI kk) ∧ (0 ≤ kk ∧ kk ≤ 3) ∧ (gS A1 50 = some (.inl 99) ∧ gI A1 50 = X ∧ gS A1 200 = some (.inl 7)) ∧ mj_Cal G n_M_stroke [mR (some 200), mI d, mI its, mI x, mI y, mI c] A1 (fun b A2 => ∃ v, b = some (mI v) ∧ gI A2 200 0 = kk ∧ (kk = 0 → gI A2 140 0 = nrm v) ∧ JE X A2) mj_no) mj_no := by
  refine (lx_stroke h rd rits rx ry rc).mono (fun r A1 hp => ?_) (fun _ _ h => h)
  have hj := h.j
  have hnd := hj.m.g.nd
  have hns := hj.m.g.ns
  have hnp := hj.m.p.np
  rcases hp with ⟨hc, rfl, W, hw, hA1⟩ | ⟨hn, rfl, hA1⟩
  · obtain ⟨B, i0, hck, hk, hpu, hb1, hb2⟩ := hw
    have eG : ∀ c, (c = 50 ∨ (200 ≤ c ∧ c ≤ 245)) → gI A1 c = gI A c := fun c c0 => funext fun i => by rw [hA1, gI_sI, if_neg (by omega)]; exact hk.I c i (by omega) (by omega)
    have e : ∀ c, 200 ≤ c → c ≤ 245 → gI A1 c = gI A c := fun c c0 c1 => eG c (Or.inr ⟨c0, c1⟩)
    have hSG : ∀ c, (c = 50 ∨ (200 ≤ c ∧ c ≤ 245)) → gS A1 c = gS A c := fun c c0 => by rw [hA1]; exact hk.S c
    have hSm : ∀ c, 200 ≤ c → c ≤ 245 → gS A1 c = gS A c := fun c c0 c1 => hSG c (Or.inr ⟨c0, c1⟩)
    have hPm : ∀ c i, 200 ≤ c → c ≤ 245 → gP A1 c i = gP A c i := fun c i c0 c1 => by rw [hA1]; exact hk.P c i (by omega)
    have hm1 : MI C A1 := MI_ag (A := A) hSm hPm (fun c i c0 c1 => congrFun (e c c0 c1) i) hj.m
    refine ⟨0, rfl, by omega, ⟨(hSG 50 (Or.inl rfl)).trans h.s, (eG 50 (Or.inl rfl)).trans h.x, hm1.M.o⟩, (cm_stroke (A := A1) hm1.M hm1.g.nd rd rits rx ry rc hm1.z.st.n (mo_pgx hm1)).mono (fun b9 A2 hq => ?_) (fun _ _ h => h)⟩
    try simp only [mo_s1, mo_op, e 200 (by omega) (by omega), e 204 (by omega) (by omega), e 205 (by omega) (by omega), e 206 (by omega) (by omega), e 207 (by omega) (by omega), e 208 (by omega) (by omega), e 209 (by omega) (by omega), e 210 (by omega) (by omega), e 211 (by omega) (by omega), e 212 (by omega) (by omega), e 213 (by omega) (by omega), e 214 (by omega) (by omega), e 215 (by omega) (by omega), e 216 (by omega) (by omega), e 222 (by omega) (by omega), e 224 (by omega) (by omega), e 225 (by omega) (by omega), e 226 (by omega) (by omega), e 227 (by omega) (by omega), e 228 (by omega) (by omega), e 229 (by omega) (by omega), e 230 (by omega) (by omega), e 231 (by omega) (by omega), e 233 (by omega) (by omega), e 234 (by omega) (by omega), e 235 (by omega) (by omega), e 236 (by omega) (by omega), e 237 (by omega) (by omega), e 238 (by omega) (by omega), e 239 (by omega) (by omega), e 241 (by omega) (by omega), e 244 (by omega) (by omega)] at hq
    obtain ⟨_, hq⟩ | ⟨hn, _⟩ := hq
    rotate_left
    · exact absurd hc hn
    have hIW : ∀ c i, ¬ (c = 140 ∧ i = 0) → gI A1 c i = gI W c i := fun c i hc => by rw [hA1, gI_sI, if_neg hc]
    have hdd : 0 ≤ d ∧ d < gI A 200 3 := hc.1.1
    have hcr1 := hk.c d hdd.1 hdd.2
    have hmA : mo_c A1 d = mo_c A d := mo_c_ag (A := A) (fun c i hc => congrFun (e c (by omega) (by omega)) i) d
    have h0 : ce (ch_c A d) (mo_c A1 d) := by rw [hmA]; exact ce_tr (ce_sy (hj.h.e d hdd.1 hdd.2)) (hj.m.C.k d hdd.1 hdd.2 hc.2.2.2.2.1)
    have hstA := hm1.z.st
    have hptA := hm1.z.pt
    have hnA := hstA.n d hdd.1 (by omega)
    have hpA := hptA.n d hdd.1 (by omega)
    have e3A : gI A1 200 3 = gI A 200 3 := by rw [e 200 (by omega) (by omega)]
    have e13A : gI A1 213 d = gI A 213 d := by rw [e 213 (by omega) (by omega)]
    have e4A : gI A1 204 d = -1 := by rw [e 204 (by omega) (by omega)]; exact hc.2.2.2.2.1
    have key : ∀ K n, ((8 * d ≤ K ∧ K < 8 * d + gI A1 209 d ∧ gI A1 210 K = its ∧ (∀ j, 8 * d ≤ j → j < K → gI A1 210 j ≠ its) ∧ n = gI A1 209 d) ∨ ((∀ j, 8 * d ≤ j → j < 8 * d + gI A1 209 d → gI A1 210 j ≠ its) ∧ K = 8 * d + gI A1 209 d ∧ n = gI A1 209 d + 1)) → n ≤ 8 → A2 = st_m (sI (sI A1 200 0 0) 209 d n) K its x y c → gI A2 200 0 = 0 ∧ gI A2 140 0 = nrm n ∧ JE X A2 := by
      intro K n hK hn8 hA2
      have hKr : 8 * d ≤ K ∧ K < 8 * d + 8 := by omega
      have hI2 : ∀ q i, ¬ (q = 200 ∧ (i = 0 ∨ i = 1 ∨ i = 2 ∨ i = 17)) → ¬ (q = 209 ∧ i = d) → ¬ ((q = 210 ∨ q = 211) ∧ i = K) → ¬ (q = 212 ∧ 4 * K ≤ i ∧ i ≤ 4 * K + 3) → gI A2 q i = gI A1 q i := fun q i q1 q2 q3 q4 => by
        rw [hA2]; unfold st_m; simp only [gI_sI]; ((try simp only [true_and, and_true, if_true, and_self]); (repeat (first | rw [if_neg (by omega)] | rw [if_pos (by omega)])))
      have t209 : gI A2 209 d = n := by rw [hA2]; unfold st_m; simp only [gI_sI]; ((try simp only [true_and, and_true, if_true, and_self]); (repeat (first | rw [if_neg (by omega)] | rw [if_pos (by omega)])))
      have t210 : ∀ q, gI A2 210 q = if q = K then its else gI A1 210 q := fun q => by
        by_cases eq : q = K
        · rw [if_pos eq, eq, hA2]; unfold st_m; simp only [gI_sI]; ((try simp only [true_and, and_true, if_true, and_self]); (repeat (first | rw [if_neg (by omega)] | rw [if_pos (by omega)])))
        · rw [if_neg eq]; exact hI2 _ _ (by omega) (by omega) (by omega) (by omega)
      have t211 : ∀ q, gI A2 211 q = if q = K then c else gI A1 211 q := fun q => by
        by_cases eq : q = K
        · rw [if_pos eq, eq, hA2]; unfold st_m; simp only [gI_sI]; ((try simp only [true_and, and_true, if_true, and_self]); (repeat (first | rw [if_neg (by omega)] | rw [if_pos (by omega)])))
        · rw [if_neg eq]; exact hI2 _ _ (by omega) (by omega) (by omega) (by omega)
      have g1 : gI (sI (sI A1 200 0 0) 209 d n) 200 1 = gI A 200 1 := by rw [gI_sI, if_neg (by omega), gI_sI, if_neg (by omega), e 200 (by omega) (by omega)]
      have g2 : gI (sI (sI A1 200 0 0) 209 d n) 200 2 = gI A 200 2 := by rw [gI_sI, if_neg (by omega), gI_sI, if_neg (by omega), e 200 (by omega) (by omega)]
      have t212 : ∀ q, gI A2 212 q = if q = 4 * K then gI A 200 1 else if q = 4 * K + 1 then gI A 200 2 else if q = 4 * K + 2 then x else if q = 4 * K + 3 then y else gI A1 212 q := fun q => by
        by_cases q0 : q = 4 * K
        · rw [if_pos q0, q0, hA2]; unfold st_m; rw [g1, g2]; simp only [gI_sI]; ((try simp only [true_and, and_true, if_true, and_self]); (repeat (first | rw [if_neg (by omega)] | rw [if_pos (by omega)])))
        · rw [if_neg q0]
          by_cases q1 : q = 4 * K + 1
          · rw [if_pos q1, q1, hA2]; unfold st_m; rw [g1, g2]; simp only [gI_sI]; ((try simp only [true_and, and_true, if_true, and_self]); (repeat (first | rw [if_neg (by omega)] | rw [if_pos (by omega)])))
          · rw [if_neg q1]
            by_cases q2 : q = 4 * K + 2
            · rw [if_pos q2, q2, hA2]; unfold st_m; simp only [gI_sI]; ((try simp only [true_and, and_true, if_true, and_self]); (repeat (first | rw [if_neg (by omega)] | rw [if_pos (by omega)])))
            · rw [if_neg q2]
              by_cases q3 : q = 4 * K + 3
              · rw [if_pos q3, q3, hA2]; unfold st_m; simp only [gI_sI]; ((try simp only [true_and, and_true, if_true, and_self]); (repeat (first | rw [if_neg (by omega)] | rw [if_pos (by omega)])))
              · rw [if_neg q3]; exact hI2 _ _ (by omega) (by omega) (by omega) (by omega)
      have t17 : gI A2 200 17 = 1 := by rw [hA2]; unfold st_m; simp only [gI_sI]; ((try simp only [true_and, and_true, if_true, and_self]); (repeat (first | rw [if_neg (by omega)] | rw [if_pos (by omega)])))
      have t1 : gI A2 200 1 = x := by rw [hA2]; unfold st_m; simp only [gI_sI]; ((try simp only [true_and, and_true, if_true, and_self]); (repeat (first | rw [if_neg (by omega)] | rw [if_pos (by omega)])))
      have t2 : gI A2 200 2 = y := by rw [hA2]; unfold st_m; simp only [gI_sI]; ((try simp only [true_and, and_true, if_true, and_self]); (repeat (first | rw [if_neg (by omega)] | rw [if_pos (by omega)])))
      have t0 : gI A2 200 0 = 0 := by rw [hA2]; unfold st_m; simp only [gI_sI]; ((try simp only [true_and, and_true, if_true, and_self]); (repeat (first | rw [if_neg (by omega)] | rw [if_pos (by omega)])))
      have hpu2 : pu (mo_c A1 d) (mo_c A2 d) its (gI A 200 1) (gI A 200 2) x y c (K - 8 * d) := mo_pu (by rw [t209]; exact hK) ⟨hnA.1, hdd.1⟩ t210 t211 t212 (fun q i q0 q1 => hI2 _ _ (by omega) (by omega) (by omega) (by omega))
      have hce : ce (ch_c W d) (mo_c A2 d) := ce_tr (ce_sy hk.k) (pu_u h0 hpu hpu2)
      have hxy : (0 ≤ x ∧ x < 16) ∧ (0 ≤ y ∧ y < 12) := ⟨⟨hc.1.2.1.1, hc.1.2.1.2.1⟩, ⟨hc.1.2.1.2.2.1, hc.1.2.1.2.2.2⟩⟩
      have hcc := hc.1.2.2
      have hpx := hj.m.px
      have h2 : JT X (ch_c W) A2 := jt_draw (k := d) h hdd hk (fun q => by rw [hA2]; show gS A1 q = gS W q; rw [hA1]; rfl) (fun q i => by rw [hA2]; show gP A1 q i = gP W q i; rw [hA1]; rfl) (fun q i hq => (hI2 q i (by omega) (by omega) (by omega) (by omega)).trans (hIW q i (by omega))) t17 (by rw [t1, t2]; exact hxy) (by rw [hk.p.1, hk.p.2, hb1, hb2, t1, t2]; exact ⟨rfl, rfl⟩) hce (fun q q0 q1 q2 => by
          rw [← mo_c_ag (A := A) (B := A1) (fun c i hc => congrFun (e c (by omega) (by omega)) i) q]
          exact mo_oth hstA hptA ⟨q0, q1⟩ ⟨hdd.1, by omega⟩ q2 (fun c' i c0 c1 n1 n2 n3 n4 => hI2 _ _ (by omega) (by omega) (by omega) (by omega))) ⟨fun q q0 q1 => ?_, fun q => ?_, fun q => ?_, fun q => ?_, fun q => ?_, fun q => ?_⟩ (mo_pt_ag (A := A1) (fun q i hq => hI2 _ _ (by omega) (by omega) (by omega) (by omega)) hptA)
      · refine ⟨t0, ?_, _, h2⟩
        rw [hI2 140 0 (by omega) (by omega) (by omega) (by omega), hA1, gI_sIs]
        have e9 := hce.n
        rw [show c_n (ch_c W d) = n from e9.trans t209]
      · by_cases eq : q = d
        · rw [eq, t209]; omega
        · rw [hI2 209 q (by omega) (by omega) (by omega) (by omega)]; exact hstA.n q q0 q1
      · rw [t212]
        by_cases q0 : 4 * q = 4 * K
        · rw [if_pos q0]; exact hpx.1
        · rw [if_neg q0, if_neg (by omega), if_neg (by omega), if_neg (by omega)]; exact hstA.x q
      · rw [t212]
        by_cases q0 : q = K
        · rw [if_neg (by omega), if_pos (by omega)]; exact hpx.2
        · rw [if_neg (by omega), if_neg (by omega), if_neg (by omega), if_neg (by omega)]; exact hstA.y q
      · rw [t212]
        by_cases q0 : q = K
        · rw [if_neg (by omega), if_neg (by omega), if_pos (by omega)]; exact hxy.1
        · rw [if_neg (by omega), if_neg (by omega), if_neg (by omega), if_neg (by omega)]; exact hstA.u q
      · rw [t212]
        by_cases q0 : q = K
        · rw [if_neg (by omega), if_neg (by omega), if_neg (by omega), if_pos (by omega)]; exact hxy.2
        · rw [if_neg (by omega), if_neg (by omega), if_neg (by omega), if_neg (by omega)]; exact hstA.v q
      · rw [t211]
        by_cases q0 : q = K
        · rw [if_pos q0]; exact hcc
        · rw [if_neg q0]; exact hstA.c q
    have e209 : gI A1 209 = gI A 209 := e 209 (by omega) (by omega)
    have e210 : gI A1 210 = gI A 210 := e 210 (by omega) (by omega)
    rcases hq with ⟨K, k1, k2, k3, k4, hb, hA2⟩ | ⟨k1, hb, hA2⟩
    · have h9 := key K (gI A1 209 d) (Or.inl ⟨k1, by rw [e209]; exact k2, by rw [e210]; exact k3, fun j j0 j1 => by rw [e210]; exact k4 j j0 j1, rfl⟩) hnA.2 (by rw [hA2, sI_id (A := sI A1 200 0 0) (c := 209) (i := d) (v := gI A1 209 d) (by rw [gI_sI, if_neg (by omega)])])
      refine ⟨_, hb, h9.1, fun _ => ?_, h9.2.2⟩
      rw [h9.2.1, e209]
    · have hpg := mo_pgx hm1 (d := d) (its := its) hdd.1 (by omega) hc.2.1.1 hc.2.1.2 e4A (fun j j0 j1 => by rw [e210]; rw [e209] at j1; exact k1 j j0 j1)
      have h9 := key (8 * d + gI A1 209 d) (gI A1 209 d + 1) (Or.inr ⟨fun j j0 j1 => by rw [e210]; rw [e209] at j1; exact k1 j j0 j1, rfl, rfl⟩) (by omega) (by rw [hA2, e209])
      refine ⟨_, hb, h9.1, fun _ => ?_, h9.2.2⟩
      rw [h9.2.1, e209]
  · rw [hA1]
    refine ⟨_, rfl, by (repeat' split) <;> omega, ⟨h.s, h.x, hj.m.M.o⟩, (cm_stroke (A := A) hj.m.M hj.m.g.nd rd rits rx ry rc hj.m.z.st.n (mo_pgx hj.m)).mono (fun b9 A2 hq => ?_) (fun _ _ h => h)⟩
    obtain ⟨hc, _⟩ | ⟨_, hb, hA2⟩ := hq
    · exact absurd hc hn
    refine ⟨0, hb, by rw [hA2, gI_sIs], fun hk => ?_, C, by rw [hA2]; exact JT_0 h⟩
    exfalso
    revert hk
    by_cases h1 : (mo_s1 A d x y c)
    · rw [if_pos h1]
      by_cases h2 : (0 ≤ its ∧ its ≤ 7)
      · rw [if_pos h2, if_neg (fun h3 => hn ⟨h1, h2, h3⟩)]; omega
      · rw [if_neg h2]; omega
    · rw [if_neg h1]; omega
theorem js_erase {X : Int → Int} {C : Int → cT} {d its : Int} (h : JT X C A) (rd : r32 d) (rits : r32 its) : mj_Cal G n_L_erase [mR (some 100), mI d, mI its, mR (some 140)] A (fun r A1 => ∃ kk, r = some (mI kk) ∧ (0 ≤ kk ∧ kk ≤ 3) ∧ (gS A1 50 = some (.inl 99) ∧ gI A1 50 = X ∧ gS A1 200 = some (.inl 7)) ∧ mj_Cal G n_M_erase [mR (some 200), mI d, mI its] A1 (fun b A2 => ∃ v, b = some (mI v) ∧ gI A2 200 0 = kk ∧ (kk = 0 → gI A2 140 0 = nrm v ∧ (v = 0 ∨ v = 1)) ∧ JE X A2) mj_no) mj_no := by
  refine (lx_erase h rd rits).mono (fun r A1 hp => ?_) (fun _ _ h => h)
  have hj := h.j
  have hnd := hj.m.g.nd
  rcases hp with ⟨hc, rfl, W, hw, hA1⟩ | ⟨hn, rfl, hA1⟩
  · have hkW : ∃ B, kf C A d B W := by
      rcases hw with ⟨_, B, i, _, hk, _⟩ | ⟨_, hk⟩
      · exact ⟨B, hk⟩
      · exact ⟨A, hk⟩
    obtain ⟨B0, hk⟩ := hkW
    have eG : ∀ c, (c = 50 ∨ (200 ≤ c ∧ c ≤ 245)) → gI A1 c = gI A c := fun c c0 => funext fun i => by rw [hA1, gI_sI, if_neg (by omega)]; exact hk.I c i (by omega) (by omega)
    have e : ∀ c, 200 ≤ c → c ≤ 245 → gI A1 c = gI A c := fun c c0 c1 => eG c (Or.inr ⟨c0, c1⟩)
    have hm1 : MI C A1 := MI_ag (A := A) (fun c c0 c1 => by rw [hA1]; exact hk.S c) (fun c i c0 c1 => by rw [hA1]; exact hk.P c i (by omega)) (fun c i c0 c1 => congrFun (e c c0 c1) i) hj.m
    refine ⟨0, rfl, by omega, ⟨by rw [hA1]; exact (hk.S 50).trans h.s, (eG 50 (Or.inl rfl)).trans h.x, hm1.M.o⟩, (cm_erase (A := A1) hm1.M hm1.g.nd rd rits hm1.z.st.n).mono (fun b A2 hq => ?_) (fun _ _ h => h)⟩
    simp only [e 200 (by omega) (by omega), e 204 (by omega) (by omega), e 208 (by omega) (by omega)] at hq
    obtain ⟨_, hq⟩ | ⟨hn, _⟩ := hq
    rotate_left
    · exact absurd hc hn
    have hIW : ∀ c i, ¬ (c = 140 ∧ i = 0) → gI A1 c i = gI W c i := fun c i hc => by rw [hA1, gI_sI, if_neg hc]
    have hdd : 0 ≤ d ∧ d < gI A 200 3 := hc.1
    have hcr1 := hk.c d hdd.1 hdd.2
    have hmA : mo_c A1 d = mo_c A d := mo_c_ag (A := A) (fun c i hc => congrFun (e c (by omega) (by omega)) i) d
    have h0 : ce (ch_c A d) (mo_c A1 d) := by rw [hmA]; exact ce_tr (ce_sy (hj.h.e d hdd.1 hdd.2)) (hj.m.C.k d hdd.1 hdd.2 hc.2.2.2.2.1)
    have hstA := hm1.z.st
    have hptA := hm1.z.pt
    have hnA := hstA.n d hdd.1 (by omega)
    have hpA := hptA.n d hdd.1 (by omega)
    have e3A : gI A1 200 3 = gI A 200 3 := by rw [e 200 (by omega) (by omega)]
    have e13A : gI A1 213 d = gI A 213 d := by rw [e 213 (by omega) (by omega)]
    have e4A : gI A1 204 d = -1 := by rw [e 204 (by omega) (by omega)]; exact hc.2.2.2.2.1
    have hfx : c_f (mo_c A1 d) its = c_f (ch_c A d) its := (c_f_e h0 its).symm
    rcases hq with ⟨K, k1, k2, k3, k4, hb, hA2⟩ | ⟨k1, hb, hA2⟩
    · have hfk : c_f (mo_c A1 d) its = K - 8 * d := mj_fx_s (nm := fun i => gI A1 210 (8 * d + i)) (lo := 0) (by omega) (by omega) (by show gI A1 210 (8 * d + (K - 8 * d)) = its; rw [show 8 * d + (K - 8 * d) = K by omega]; exact k3) (fun j j0 j1 => k4 _ (by omega) (by omega)) _ (by show K - 8 * d < 0 + ((gI A1 209 d).toNat : Int); omega)
      rcases hw with ⟨hf1, B, i0, hck, hk, hde, hb1, hb2⟩ | ⟨hf1, hk⟩
      rotate_left
      · exfalso
        omega
      have hI2 : ∀ q i, ¬ (q = 200 ∧ (i = 0 ∨ i = 17)) → ¬ (q = 209 ∧ i = d) → ¬ ((q = 210 ∨ q = 211) ∧ K ≤ i ∧ i < 8 * d + gI A1 209 d - 1) → ¬ (q = 212 ∧ 4 * K ≤ i ∧ i < 4 * (8 * d + gI A1 209 d - 1)) → gI A2 q i = gI A1 q i := fun q i q1 q2 q3 q4 => by
        rw [hA2, gI_sI, if_neg (by omega)]; unfold er_w; simp only [gI_sF, gI_sI]
        by_cases c2 : q = 212
        · rw [if_pos c2, c2, if_neg (by omega)]; ((try simp only [true_and, and_true, if_true, and_self]); (repeat (first | rw [if_neg (by omega)] | rw [if_pos (by omega)])))
        · rw [if_neg c2]
          by_cases c1 : q = 211
          · rw [if_pos c1, c1, if_neg (by omega)]; ((try simp only [true_and, and_true, if_true, and_self]); (repeat (first | rw [if_neg (by omega)] | rw [if_pos (by omega)])))
          · rw [if_neg c1]
            by_cases c0 : q = 210
            · rw [if_pos c0, c0, if_neg (by omega)]; ((try simp only [true_and, and_true, if_true, and_self]); (repeat (first | rw [if_neg (by omega)] | rw [if_pos (by omega)])))
            · rw [if_neg c0]; ((try simp only [true_and, and_true, if_true, and_self]); (repeat (first | rw [if_neg (by omega)] | rw [if_pos (by omega)])))
      have t209 : gI A2 209 d = gI A1 209 d - 1 := by rw [hA2]; unfold er_w; simp only [gI_sF, gI_sI]; ((try simp only [true_and, and_true, if_true, and_self]); (repeat (first | rw [if_neg (by omega)] | rw [if_pos (by omega)])))
      have t210 : ∀ q, gI A2 210 q = if K ≤ q ∧ q < 8 * d + gI A1 209 d - 1 then gI A1 210 (q + 1) else gI A1 210 q := fun q => by rw [hA2]; rfl
      have t211 : ∀ q, gI A2 211 q = if K ≤ q ∧ q < 8 * d + gI A1 209 d - 1 then gI A1 211 (q + 1) else gI A1 211 q := fun q => by rw [hA2]; rfl
      have t212 : ∀ q, gI A2 212 q = if 4 * K ≤ q ∧ q < 4 * (8 * d + gI A1 209 d - 1) then gI A1 212 (q + 4) else gI A1 212 q := fun q => by rw [hA2]; rfl
      have t17 : gI A2 200 17 = 1 := by rw [hA2, gI_sIs]
      have t0 : gI A2 200 0 = 0 := by rw [hA2]; unfold er_w; simp only [gI_sF, gI_sI]; ((try simp only [true_and, and_true, if_true, and_self]); (repeat (first | rw [if_neg (by omega)] | rw [if_pos (by omega)])))
      have t1 : gI A2 200 1 = gI A 200 1 := by rw [hI2 200 1 (by omega) (by omega) (by omega) (by omega), e 200 (by omega) (by omega)]
      have t2 : gI A2 200 2 = gI A 200 2 := by rw [hI2 200 2 (by omega) (by omega) (by omega) (by omega), e 200 (by omega) (by omega)]
      have hde2 : de (mo_c A1 d) (mo_c A2 d) its (K - 8 * d) := mo_de hdd.1 k1 k2 k3 k4 t209 t210 t211 t212 (fun q i q0 q1 => hI2 _ _ (by omega) (by omega) (by omega) (by omega))
      have hce : ce (ch_c W d) (mo_c A2 d) := ce_tr (ce_sy hk.k) (de_u h0 hde hde2)
      have hpn := hj.h.pn
      have h2 : JT X (ch_c W) A2 := jt_draw (k := d) h hdd hk (fun q => by rw [hA2]; show gS A1 q = gS W q; rw [hA1]; rfl) (fun q i => by rw [hA2]; show gP A1 q i = gP W q i; rw [hA1]; rfl) (fun q i hq => (hI2 q i (by omega) (by omega) (by omega) (by omega)).trans (hIW q i (by omega))) t17 (by rw [t1, t2]; exact hj.m.px) (by rw [hk.p.1, hk.p.2, hb1, hb2, t1, t2]; exact hpn) hce (fun q q0 q1 q2 => by
          rw [← mo_c_ag (A := A) (B := A1) (fun c i hc => congrFun (e c (by omega) (by omega)) i) q]
          exact mo_oth hstA hptA ⟨q0, q1⟩ ⟨hdd.1, by omega⟩ q2 (fun c' i c0 c1 n1 n2 n3 n4 => hI2 _ _ (by omega) (by omega) (by omega) (by omega))) ⟨fun q q0 q1 => ?_, fun q => ?_, fun q => ?_, fun q => ?_, fun q => ?_, fun q => ?_⟩ (mo_pt_ag (A := A1) (fun q i hq => hI2 _ _ (by omega) (by omega) (by omega) (by omega)) hptA)
      · refine ⟨1, hb, t0, fun _ => ⟨?_, Or.inr rfl⟩, _, h2⟩
        rw [hI2 140 0 (by omega) (by omega) (by omega) (by omega), hA1, gI_sIs, if_pos hf1]
      · by_cases eq : q = d
        · rw [eq, t209]; omega
        · rw [hI2 209 q (by omega) (by omega) (by omega) (by omega)]; exact hstA.n q q0 q1
      · rw [t212, show 4 * q + 4 = 4 * (q + 1) by omega]
        split
        · exact hstA.x (q + 1)
        · exact hstA.x q
      · rw [t212, show 4 * q + 1 + 4 = 4 * (q + 1) + 1 by omega]
        split
        · exact hstA.y (q + 1)
        · exact hstA.y q
      · rw [t212, show 4 * q + 2 + 4 = 4 * (q + 1) + 2 by omega]
        split
        · exact hstA.u (q + 1)
        · exact hstA.u q
      · rw [t212, show 4 * q + 3 + 4 = 4 * (q + 1) + 3 by omega]
        split
        · exact hstA.v (q + 1)
        · exact hstA.v q
      · rw [t211]
        split
        · exact hstA.c (q + 1)
        · exact hstA.c q
    · have hfk : c_f (mo_c A1 d) its = -1 := mj_fx_n (nm := fun i => gI A1 210 (8 * d + i)) (lo := 0) _ (fun j j0 j1 => k1 _ (by omega) (by
        have j2 : j < 0 + (((gI A1 209 d).toNat : Nat) : Int) := j1
        omega))
      rcases hw with ⟨hf1, _⟩ | ⟨hf1, hk⟩
      · exfalso
        exact hf1 (hfx.symm.trans hfk)
      have h1 : JT X C A1 := by rw [hA1]; exact JT_o (jt_same h hk hdd)
      exact ⟨0, hb, by rw [hA2, gI_sIs], fun _ => ⟨by rw [hA2, gI_sI, if_neg (by omega), hA1, gI_sIs, if_neg (fun z => z hf1)], Or.inl rfl⟩, C, by rw [hA2]; exact JT_0 h1⟩
  · rw [hA1]
    refine ⟨_, rfl, by (repeat' split) <;> omega, ⟨h.s, h.x, hj.m.M.o⟩, (cm_erase (A := A) hj.m.M hj.m.g.nd rd rits hj.m.z.st.n).mono (fun b A2 hq => ?_) (fun _ _ h => h)⟩
    obtain ⟨hc, _⟩ | ⟨_, hb, hA2⟩ := hq
    · exact absurd hc hn
    refine ⟨0, hb, by rw [hA2, gI_sIs], fun hk => ?_, C, by rw [hA2]; exact JT_0 h⟩
    exfalso
    revert hk
    by_cases h1 : (0 ≤ d ∧ d < gI A 200 3)
    · rw [if_pos h1]
      by_cases h2 : (0 ≤ its ∧ its ≤ 7)
      · rw [if_pos h2, if_neg (fun h3 => hn ⟨h1, h2, h3⟩)]; omega
      · rw [if_neg h2]; omega
    · rw [if_neg h1]; omega
theorem js_paint {X : Int → Int} {C : Int → cT} {d c : Int} (h : JT X C A) (rd : r32 d) (rc : r32 c) : mj_Cal G n_L_paint [mR (some 100), mI d, mI c, mR (some 140)] A (fun r A1 => ∃ kk, r = some (mI kk) ∧ (0 ≤ kk ∧ kk ≤ 3) ∧ (gS A1 50 = some (.inl 99) ∧ gI A1 50 = X ∧ gS A1 200 = some (.inl 7)) ∧ mj_Cal G n_M_paint [mR (some 200), mI d, mI c] A1 (fun b A2 => ∃ v, b = some (mI v) ∧ gI A2 200 0 = kk ∧ (kk = 0 → gI A2 140 0 = nrm v) ∧ JE X A2) mj_no) mj_no := by
  refine (lx_paint h rd rc).mono (fun r A1 hp => ?_) (fun _ _ h => h)
  have hj := h.j
  have hnd := hj.m.g.nd
  have hns := hj.m.g.ns
  have hnp := hj.m.p.np
  rcases hp with ⟨hc, rfl, W, hw, hA1⟩ | ⟨hn, rfl, hA1⟩
  · obtain ⟨B, hck, hk, hrl, hb1, hb2⟩ := hw
    have eG : ∀ c, (c = 50 ∨ (200 ≤ c ∧ c ≤ 245)) → gI A1 c = gI A c := fun c c0 => funext fun i => by rw [hA1, gI_sI, if_neg (by omega)]; exact hk.I c i (by omega) (by omega)
    have e : ∀ c, 200 ≤ c → c ≤ 245 → gI A1 c = gI A c := fun c c0 c1 => eG c (Or.inr ⟨c0, c1⟩)
    have hSG : ∀ c, (c = 50 ∨ (200 ≤ c ∧ c ≤ 245)) → gS A1 c = gS A c := fun c c0 => by rw [hA1]; exact hk.S c
    have hSm : ∀ c, 200 ≤ c → c ≤ 245 → gS A1 c = gS A c := fun c c0 c1 => hSG c (Or.inr ⟨c0, c1⟩)
    have hPm : ∀ c i, 200 ≤ c → c ≤ 245 → gP A1 c i = gP A c i := fun c i c0 c1 => by rw [hA1]; exact hk.P c i (by omega)
    have hm1 : MI C A1 := MI_ag (A := A) hSm hPm (fun c i c0 c1 => congrFun (e c c0 c1) i) hj.m
    refine ⟨0, rfl, by omega, ⟨(hSG 50 (Or.inl rfl)).trans h.s, (eG 50 (Or.inl rfl)).trans h.x, hm1.M.o⟩, (cm_paint (A := A1) hm1.M hm1.g.nd rd rc hm1.z.pt.n hm1.px.1 hm1.px.2).mono (fun b9 A2 hq => ?_) (fun _ _ h => h)⟩
    try simp only [e 200 (by omega) (by omega), e 204 (by omega) (by omega), e 205 (by omega) (by omega), e 206 (by omega) (by omega), e 207 (by omega) (by omega), e 208 (by omega) (by omega), e 209 (by omega) (by omega), e 210 (by omega) (by omega), e 211 (by omega) (by omega), e 212 (by omega) (by omega), e 213 (by omega) (by omega), e 214 (by omega) (by omega), e 215 (by omega) (by omega), e 216 (by omega) (by omega), e 222 (by omega) (by omega), e 224 (by omega) (by omega), e 225 (by omega) (by omega), e 226 (by omega) (by omega), e 227 (by omega) (by omega), e 228 (by omega) (by omega), e 229 (by omega) (by omega), e 230 (by omega) (by omega), e 231 (by omega) (by omega), e 233 (by omega) (by omega), e 234 (by omega) (by omega), e 235 (by omega) (by omega), e 236 (by omega) (by omega), e 237 (by omega) (by omega), e 238 (by omega) (by omega), e 239 (by omega) (by omega), e 241 (by omega) (by omega), e 244 (by omega) (by omega)] at hq
    obtain ⟨_, hb, hA2⟩ | ⟨hn, _⟩ := hq
    rotate_left
    · exact absurd hc hn
    have hIW : ∀ c i, ¬ (c = 140 ∧ i = 0) → gI A1 c i = gI W c i := fun c i hc => by rw [hA1, gI_sI, if_neg hc]
    have hdd : 0 ≤ d ∧ d < gI A 200 3 := ⟨hc.1.1, hc.1.2.1⟩
    have hcr1 := hk.c d hdd.1 hdd.2
    have hmA : mo_c A1 d = mo_c A d := mo_c_ag (A := A) (fun c i hc => congrFun (e c (by omega) (by omega)) i) d
    have h0 : ce (ch_c A d) (mo_c A1 d) := by rw [hmA]; exact ce_tr (ce_sy (hj.h.e d hdd.1 hdd.2)) (hj.m.C.k d hdd.1 hdd.2 hc.2.2.2.1)
    have hstA := hm1.z.st
    have hptA := hm1.z.pt
    have hnA := hstA.n d hdd.1 (by omega)
    have hpA := hptA.n d hdd.1 (by omega)
    have e3A : gI A1 200 3 = gI A 200 3 := by rw [e 200 (by omega) (by omega)]
    have e13A : gI A1 213 d = gI A 213 d := by rw [e 213 (by omega) (by omega)]
    have e4A : gI A1 204 d = -1 := by rw [e 204 (by omega) (by omega)]; exact hc.2.2.2.1
    have hI2 : ∀ q i, ¬ (q = 200 ∧ (i = 0 ∨ i = 17)) → ¬ (q = 213 ∧ i = d) → ¬ ((q = 214 ∨ q = 215) ∧ i = 6 * d + gI A1 213 d) → gI A2 q i = gI A1 q i := fun q i q1 q2 q3 => by
      rw [hA2]; unfold pa_m; simp only [gI_sI]; ((try simp only [true_and, and_true, if_true, and_self]); (repeat (first | rw [if_neg (by omega)] | rw [if_pos (by omega)])))
    have t17 : gI A2 200 17 = 1 := by rw [hA2]; unfold pa_m; simp only [gI_sI]; ((try simp only [true_and, and_true, if_true, and_self]); (repeat (first | rw [if_neg (by omega)] | rw [if_pos (by omega)])))
    have t0 : gI A2 200 0 = 0 := by rw [hA2]; unfold pa_m; simp only [gI_sI]; ((try simp only [true_and, and_true, if_true, and_self]); (repeat (first | rw [if_neg (by omega)] | rw [if_pos (by omega)])))
    have t213 : gI A2 213 d = gI A1 213 d + 1 := by rw [hA2]; unfold pa_m; simp only [gI_sI]; ((try simp only [true_and, and_true, if_true, and_self]); (repeat (first | rw [if_neg (by omega)] | rw [if_pos (by omega)])))
    have t214 : gI A2 214 (6 * d + gI A1 213 d) = 16 * gI A1 200 2 + gI A1 200 1 := by rw [hA2]; unfold pa_m; simp only [gI_sI]; ((try simp only [true_and, and_true, if_true, and_self]); (repeat (first | rw [if_neg (by omega)] | rw [if_pos (by omega)])))
    have t215 : gI A2 215 (6 * d + gI A1 213 d) = c := by rw [hA2]; unfold pa_m; simp only [gI_sI]; ((try simp only [true_and, and_true, if_true, and_self]); (repeat (first | rw [if_neg (by omega)] | rw [if_pos (by omega)])))
    have t1 : gI A2 200 1 = gI A 200 1 := by rw [hI2 200 1 (by omega) (by omega) (by omega), e 200 (by omega) (by omega)]
    have t2 : gI A2 200 2 = gI A 200 2 := by rw [hI2 200 2 (by omega) (by omega) (by omega), e 200 (by omega) (by omega)]
    have hrel : pn1 (mo_c A1 d) (mo_c A2 d) (16 * gI A 200 2 + gI A 200 1) c := mo_pn hdd.1 hpA.1 t213 (fun q => by
      by_cases eq : q = 6 * d + gI A1 213 d
      · rw [if_pos eq, eq, t214, e 200 (by omega) (by omega)]
      · rw [if_neg eq]; exact hI2 _ _ (by omega) (by omega) (by omega)) (fun q => by
      by_cases eq : q = 6 * d + gI A1 213 d
      · rw [if_pos eq, eq, t215]
      · rw [if_neg eq]; exact hI2 _ _ (by omega) (by omega) (by omega)) (hI2 _ _ (by omega) (by omega) (by omega)) (fun q i q0 q1 => hI2 _ _ (by omega) (by omega) (by omega))
    have hce : ce (ch_c W d) (mo_c A2 d) := ce_tr (ce_sy hk.k) (pn_u h0 hrl hrel)
    have hpn := hj.h.pn
    have h2 : JT X (ch_c W) A2 := jt_draw (k := d) h hdd hk (fun q => by rw [hA2]; show gS A1 q = gS W q; rw [hA1]; rfl) (fun q i => by rw [hA2]; show gP A1 q i = gP W q i; rw [hA1]; rfl) (fun q i hq => (hI2 q i (by omega) (by omega) (by omega)).trans (hIW q i (by omega))) t17 (by rw [t1, t2]; exact hj.m.px) (by rw [hk.p.1, hk.p.2, hb1, hb2, t1, t2]; exact hpn) hce (fun q q0 q1 q2 => by
        rw [← mo_c_ag (A := A) (B := A1) (fun c i hc => congrFun (e c (by omega) (by omega)) i) q]
        exact mo_oth hstA hptA ⟨q0, q1⟩ ⟨hdd.1, by omega⟩ q2 (fun c' i c0 c1 n1 n2 n3 n4 => hI2 _ _ (by omega) (by omega) (by omega))) (mo_st2_ag (A := A1) (fun q i hq => hI2 _ _ (by omega) (by omega) (by omega)) hstA) ⟨fun q q0 q1 => by
        have e13 : gI A1 213 d = gI A 213 d := by rw [e 213 (by omega) (by omega)]
        by_cases eq : q = d
        · rw [eq, t213]; omega
        · rw [hI2 213 q (by omega) (by omega) (by omega)]; exact hptA.n q q0 q1, fun q => by
        by_cases eq : q = 6 * d + gI A1 213 d
        · rw [eq, t214]
          have := hm1.px
          omega
        · rw [hI2 214 q (by omega) (by omega) (by omega)]; exact hptA.s q, fun q => by
        by_cases eq : q = 6 * d + gI A1 213 d
        · rw [eq, t215]; exact ⟨hc.1.2.2.1, hc.1.2.2.2⟩
        · rw [hI2 215 q (by omega) (by omega) (by omega)]; exact hptA.f q, fun q => by rw [hI2 216 q (by omega) (by omega) (by omega)]; exact hptA.c q⟩
    refine ⟨_, hb, t0, fun _ => ?_, _, h2⟩
    rw [hI2 140 0 (by omega) (by omega) (by omega), hA1, gI_sIs]
  · rw [hA1]
    refine ⟨_, rfl, by (repeat' split) <;> omega, ⟨h.s, h.x, hj.m.M.o⟩, (cm_paint (A := A) hj.m.M hj.m.g.nd rd rc hj.m.z.pt.n hj.m.px.1 hj.m.px.2).mono (fun b9 A2 hq => ?_) (fun _ _ h => h)⟩
    obtain ⟨hc, _⟩ | ⟨_, hb, hA2⟩ := hq
    · exact absurd hc hn
    refine ⟨0, hb, by rw [hA2, gI_sIs], fun hk => ?_, C, by rw [hA2]; exact JT_0 h⟩
    exfalso
    revert hk
    by_cases h1 : (0 ≤ d ∧ d < gI A 200 3 ∧ 0 ≤ c ∧ c ≤ 7)
    · rw [if_pos h1, if_neg (fun h2 => hn ⟨h1, h2⟩)]; omega
    · rw [if_neg h1]; omega
theorem js_gaps {X : Int → Int} {C : Int → cT} {d : Int} (h : JT X C A) (rd : r32 d) : mj_Cal G n_L_gaps [mR (some 100), mI d, mR (some 140)] A (fun r A1 => ∃ kk, r = some (mI kk) ∧ (0 ≤ kk ∧ kk ≤ 3) ∧ (gS A1 50 = some (.inl 99) ∧ gI A1 50 = X ∧ gS A1 200 = some (.inl 7)) ∧ mj_Cal G n_M_gaps [mR (some 200), mI d] A1 (fun b A2 => ∃ v, b = some (mI v) ∧ gI A2 200 0 = kk ∧ (kk = 0 → gI A2 140 0 = nrm v ∧ (v = 0 ∨ v = 1)) ∧ JE X A2) mj_no) mj_no := by
  refine (lx_gaps h rd).mono (fun r A1 hp => ?_) (fun _ _ h => h)
  have hj := h.j
  have hnd := hj.m.g.nd
  have hns := hj.m.g.ns
  have hnp := hj.m.p.np
  rcases hp with ⟨hc, rfl, W, hw, hA1⟩ | ⟨hn, rfl, hA1⟩
  · obtain ⟨B, hck, hk, hrl, hb1, hb2⟩ := hw
    have eG : ∀ c, (c = 50 ∨ (200 ≤ c ∧ c ≤ 245)) → gI A1 c = gI A c := fun c c0 => funext fun i => by rw [hA1, gI_sI, if_neg (by omega)]; exact hk.I c i (by omega) (by omega)
    have e : ∀ c, 200 ≤ c → c ≤ 245 → gI A1 c = gI A c := fun c c0 c1 => eG c (Or.inr ⟨c0, c1⟩)
    have hSG : ∀ c, (c = 50 ∨ (200 ≤ c ∧ c ≤ 245)) → gS A1 c = gS A c := fun c c0 => by rw [hA1]; exact hk.S c
    have hSm : ∀ c, 200 ≤ c → c ≤ 245 → gS A1 c = gS A c := fun c c0 c1 => hSG c (Or.inr ⟨c0, c1⟩)
    have hPm : ∀ c i, 200 ≤ c → c ≤ 245 → gP A1 c i = gP A c i := fun c i c0 c1 => by rw [hA1]; exact hk.P c i (by omega)
    have hm1 : MI C A1 := MI_ag (A := A) hSm hPm (fun c i c0 c1 => congrFun (e c c0 c1) i) hj.m
    refine ⟨0, rfl, by omega, ⟨(hSG 50 (Or.inl rfl)).trans h.s, (eG 50 (Or.inl rfl)).trans h.x, hm1.M.o⟩, (cm_gaps (A := A1) hm1.M hm1.g.nd rd (by have := hm1.z.pt.c d; omega)).mono (fun b9 A2 hq => ?_) (fun _ _ h => h)⟩
    try simp only [mo_op, e 200 (by omega) (by omega), e 204 (by omega) (by omega), e 205 (by omega) (by omega), e 206 (by omega) (by omega), e 207 (by omega) (by omega), e 208 (by omega) (by omega), e 209 (by omega) (by omega), e 210 (by omega) (by omega), e 211 (by omega) (by omega), e 212 (by omega) (by omega), e 213 (by omega) (by omega), e 214 (by omega) (by omega), e 215 (by omega) (by omega), e 216 (by omega) (by omega), e 222 (by omega) (by omega), e 224 (by omega) (by omega), e 225 (by omega) (by omega), e 226 (by omega) (by omega), e 227 (by omega) (by omega), e 228 (by omega) (by omega), e 229 (by omega) (by omega), e 230 (by omega) (by omega), e 231 (by omega) (by omega), e 233 (by omega) (by omega), e 234 (by omega) (by omega), e 235 (by omega) (by omega), e 236 (by omega) (by omega), e 237 (by omega) (by omega), e 238 (by omega) (by omega), e 239 (by omega) (by omega), e 241 (by omega) (by omega), e 244 (by omega) (by omega)] at hq
    obtain ⟨_, hb, hA2⟩ | ⟨hn, _⟩ := hq
    rotate_left
    · exact absurd hc (fun hc => hn hc.2)
    have hIW : ∀ c i, ¬ (c = 140 ∧ i = 0) → gI A1 c i = gI W c i := fun c i hc => by rw [hA1, gI_sI, if_neg hc]
    have hdd : 0 ≤ d ∧ d < gI A 200 3 := hc.1
    have hcr1 := hk.c d hdd.1 hdd.2
    have hmA : mo_c A1 d = mo_c A d := mo_c_ag (A := A) (fun c i hc => congrFun (e c (by omega) (by omega)) i) d
    have h0 : ce (ch_c A d) (mo_c A1 d) := by rw [hmA]; exact ce_tr (ce_sy (hj.h.e d hdd.1 hdd.2)) (hj.m.C.k d hdd.1 hdd.2 hc.2.2.2.1)
    have hstA := hm1.z.st
    have hptA := hm1.z.pt
    have hnA := hstA.n d hdd.1 (by omega)
    have hpA := hptA.n d hdd.1 (by omega)
    have e3A : gI A1 200 3 = gI A 200 3 := by rw [e 200 (by omega) (by omega)]
    have e13A : gI A1 213 d = gI A 213 d := by rw [e 213 (by omega) (by omega)]
    have e4A : gI A1 204 d = -1 := by rw [e 204 (by omega) (by omega)]; exact hc.2.2.2.1
    have hI2 : ∀ q i, ¬ (q = 200 ∧ (i = 0 ∨ i = 17)) → ¬ (q = 216 ∧ i = d) → gI A2 q i = gI A1 q i := fun q i q1 q2 => by
      rw [hA2]; simp only [gI_sI]; ((try simp only [true_and, and_true, if_true, and_self]); (repeat (first | rw [if_neg (by omega)] | rw [if_pos (by omega)])))
    have t17 : gI A2 200 17 = 1 := by rw [hA2]; simp only [gI_sI]; ((try simp only [true_and, and_true, if_true, and_self]); (repeat (first | rw [if_neg (by omega)] | rw [if_pos (by omega)])))
    have t0 : gI A2 200 0 = 0 := by rw [hA2]; simp only [gI_sI]; ((try simp only [true_and, and_true, if_true, and_self]); (repeat (first | rw [if_neg (by omega)] | rw [if_pos (by omega)])))
    have t216 : gI A2 216 d = 1 - gI A 216 d := by rw [hA2]; simp only [gI_sI]; ((try simp only [true_and, and_true, if_true, and_self]); (repeat (first | rw [if_neg (by omega)] | rw [if_pos (by omega)])))
    have t1 : gI A2 200 1 = gI A 200 1 := by rw [hI2 200 1 (by omega) (by omega), e 200 (by omega) (by omega)]
    have t2 : gI A2 200 2 = gI A 200 2 := by rw [hI2 200 2 (by omega) (by omega), e 200 (by omega) (by omega)]
    have hrel : gp1 (mo_c A1 d) (mo_c A2 d) := mo_gp (by rw [t216, e 216 (by omega) (by omega)]) (fun q i q0 q1 => hI2 _ _ (by omega) (by omega))
    have hce : ce (ch_c W d) (mo_c A2 d) := ce_tr (ce_sy hk.k) (gp_u h0 hrl hrel)
    have hpn := hj.h.pn
    have h2 : JT X (ch_c W) A2 := jt_draw (k := d) h hdd hk (fun q => by rw [hA2]; show gS A1 q = gS W q; rw [hA1]; rfl) (fun q i => by rw [hA2]; show gP A1 q i = gP W q i; rw [hA1]; rfl) (fun q i hq => (hI2 q i (by omega) (by omega)).trans (hIW q i (by omega))) t17 (by rw [t1, t2]; exact hj.m.px) (by rw [hk.p.1, hk.p.2, hb1, hb2, t1, t2]; exact hpn) hce (fun q q0 q1 q2 => by
        rw [← mo_c_ag (A := A) (B := A1) (fun c i hc => congrFun (e c (by omega) (by omega)) i) q]
        exact mo_oth hstA hptA ⟨q0, q1⟩ ⟨hdd.1, by omega⟩ q2 (fun c' i c0 c1 n1 n2 n3 n4 => hI2 _ _ (by omega) (by omega))) (mo_st2_ag (A := A1) (fun q i hq => hI2 _ _ (by omega) (by omega)) hstA) ⟨fun q q0 q1 => by rw [hI2 213 q (by omega) (by omega)]; exact hptA.n q q0 q1, fun q => by rw [hI2 214 q (by omega) (by omega)]; exact hptA.s q, fun q => by rw [hI2 215 q (by omega) (by omega)]; exact hptA.f q, fun q => by
        have h01 := hj.m.z.pt.c d
        by_cases eq : q = d
        · rw [eq, t216]; omega
        · rw [hI2 216 q (by omega) (by omega)]; exact hptA.c q⟩
    refine ⟨_, hb, t0, fun _ => ⟨?_, by have := hj.m.z.pt.c d; omega⟩, _, h2⟩
    rw [hI2 140 0 (by omega) (by omega), hA1, gI_sIs]
  · rw [hA1]
    refine ⟨_, rfl, by (repeat' split) <;> omega, ⟨h.s, h.x, hj.m.M.o⟩, (cm_gaps (A := A) hj.m.M hj.m.g.nd rd (by have := hj.m.z.pt.c d; omega)).mono (fun b9 A2 hq => ?_) (fun _ _ h => h)⟩
    obtain ⟨hc, _⟩ | ⟨_, hb, hA2⟩ := hq
    · exact absurd ⟨⟨hc.1, hc.2.1⟩, hc⟩ hn
    refine ⟨0, hb, by rw [hA2, gI_sIs], fun hk => ?_, C, by rw [hA2]; exact JT_0 h⟩
    exfalso
    revert hk
    by_cases h1 : (0 ≤ d ∧ d < gI A 200 3)
    · rw [if_pos h1, if_neg (fun h2 => hn ⟨h1, h2⟩)]; omega
    · rw [if_neg h1]; omega
end STPH
