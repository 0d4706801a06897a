/-! STEPS, 1: what is always so; asking keeps it -/
section STPA
variable {G : mj_G} {A : mj_M}
/-- what holds between two steps of the law: X is the script -/
def JT (X : Int → Int) (C : Int → cT) (A : mj_M) : Prop := (JJ C A) ∧ (ST A) ∧ (gS A 50 = some (.inl 99)) ∧ (gI A 50 = X)
theorem JT.j {X : Int → Int} {C : Int → cT} {A : mj_M} (h : JT X C A) : JJ C A := h.1
theorem JT.t {X : Int → Int} {C : Int → cT} {A : mj_M} (h : JT X C A) : ST A := h.2.1
theorem JT.s {X : Int → Int} {C : Int → cT} {A : mj_M} (h : JT X C A) : gS A 50 = some (.inl 99) := h.2.2.1
theorem JT.x {X : Int → Int} {C : Int → cT} {A : mj_M} (h : JT X C A) : gI A 50 = X := h.2.2.2
def JE (X : Int → Int) (A : mj_M) : Prop := ∃ C, JT X C A
theorem mo_rg_ag {B : mj_M} (hI : ∀ c i, ((c = 200 ∧ (i = 3 ∨ i = 23)) ∨ (224 ≤ c ∧ c ≤ 227) ∨ c = 231) → gI B c i = gI A c i) (h : mo_rg A) : mo_rg B := by
  have e : ∀ c, ((224 ≤ c ∧ c ≤ 227) ∨ c = 231) → gI B c = gI A c := fun c hc => funext fun i => hI c i (by omega)
  unfold mo_rg at h ⊢
  rw [hI 200 3 (by omega), hI 200 23 (by omega), e 224 (by omega), e 225 (by omega), e 226 (by omega), e 227 (by omega), e 231 (by omega)]
  exact h
theorem mo_pg_ag {B : mj_M} (hI : ∀ c i, ((c = 200 ∧ i = 32) ∨ (233 ≤ c ∧ c ≤ 237)) → gI B c i = gI A c i) (h : mo_pg A) : mo_pg B := by
  have e : ∀ c, (233 ≤ c ∧ c ≤ 237) → gI B c = gI A c := fun c hc => funext fun i => hI c i (by omega)
  unfold mo_pg at h ⊢
  rw [hI 200 32 (by omega), e 233 (by omega), e 234 (by omega), e 235 (by omega), e 236 (by omega), e 237 (by omega)]
  exact h
theorem mo_hg_ag {B : mj_M} (hI : ∀ c i, ((c = 200 ∧ (i = 32 ∨ i = 23)) ∨ c = 229 ∨ c = 230) → gI B c i = gI A c i) (h : mo_hg A) : mo_hg B := by
  have e : ∀ c, (c = 229 ∨ c = 230) → gI B c = gI A c := fun c hc => funext fun i => hI c i (by omega)
  unfold mo_hg at h ⊢
  rw [hI 200 23 (by omega), hI 200 32 (by omega), e 229 (by omega), e 230 (by omega)]
  exact h
theorem mo_st2_ag {B : mj_M} (hI : ∀ c i, (c = 209 ∨ c = 211 ∨ c = 212) → gI B c i = gI A c i) (h : mo_st2 A) : mo_st2 B := by
  have e : ∀ c, (c = 209 ∨ c = 211 ∨ c = 212) → gI B c = gI A c := fun c hc => funext fun i => hI c i (by omega)
  unfold mo_st2 at h ⊢
  rw [e 209 (by omega), e 211 (by omega), e 212 (by omega)]
  exact h
theorem mo_pt_ag {B : mj_M} (hI : ∀ c i, (213 ≤ c ∧ c ≤ 216) → gI B c i = gI A c i) (h : mo_pt A) : mo_pt B := by
  have e : ∀ c, (213 ≤ c ∧ c ≤ 216) → gI B c = gI A c := fun c hc => funext fun i => hI c i (by omega)
  unfold mo_pt at h ⊢
  rw [e 213 (by omega), e 214 (by omega), e 215 (by omega), e 216 (by omega)]
  exact h
theorem mz_ag {B : mj_M} (hI : ∀ c i, ((c = 200 ∧ i = 17) ∨ c = 209 ∨ (211 ≤ c ∧ c ≤ 216) ∨ c = 218 ∨ c = 221) → gI B c i = gI A c i) (h : mz A) : mz B :=
  ⟨mo_st2_ag (fun c i hc => hI c i (by omega)) h.st, mo_pt_ag (fun c i hc => hI c i (by omega)) h.pt, fun q hq => (hI 221 q (by omega)).trans (h.z q hq), fun k => by rw [hI 218 k (by omega)]; exact h.pi k, by rw [hI 200 17 (by omega)]; exact h.o⟩
theorem mo_c_ag {B : mj_M} (hI : ∀ c i, (209 ≤ c ∧ c ≤ 216) → gI B c i = gI A c i) (d : Int) : mo_c B d = mo_c A d := by
  show (gI B 209 d, (fun i => gI B 210 (8 * d + i)), (fun i => gI B 211 (8 * d + i)), (fun q => gI B 212 (32 * d + q)), gI B 213 d, (fun i => gI B 214 (6 * d + i)), (fun i => gI B 215 (6 * d + i)), gI B 216 d) = mo_c A d
  have e : ∀ c, (209 ≤ c ∧ c ≤ 216) → gI B c = gI A c := fun c hc => funext fun i => hI c i (by omega)
  rw [e 209 (by omega), e 210 (by omega), e 211 (by omega), e 212 (by omega), e 213 (by omega), e 214 (by omega), e 215 (by omega), e 216 (by omega)]
theorem mo_bt_ag {B : mj_M} {d : Int} (hI : ∀ c, 204 ≤ c → c ≤ 207 → gI B c d = gI A c d) (h : mo_bt A d) : mo_bt B d := by
  obtain ⟨h1, h2, h3, h4⟩ := h
  unfold mo_bt
  rw [hI 204 (by omega) (by omega), hI 205 (by omega) (by omega), hI 206 (by omega) (by omega), hI 207 (by omega) (by omega)]
  exact ⟨h1, h2, h3, h4⟩
theorem dC_ag {C : Int → cT} {B : mj_M} (hI : ∀ c i, ((c = 200 ∧ (i = 3 ∨ i = 17)) ∨ (204 ≤ c ∧ c ≤ 207) ∨ (209 ≤ c ∧ c ≤ 216) ∨ c = 218 ∨ c = 219) → gI B c i = gI A c i) (h : dC C A) : dC C B := by
  have hc := mo_c_ag (A := A) (B := B) (fun c i hc => hI c i (by omega))
  have e3 := hI 200 3 (by omega)
  refine ⟨fun d d0 d1 d2 => ?_, fun d d0 d1 d2 => ?_, fun ho d d0 d1 => ?_⟩
  · rw [hc]
    rw [e3] at d1
    rw [hI 204 d (by omega)] at d2
    exact h.k d d0 d1 d2
  · rw [e3] at d1
    rw [hI 204 d (by omega)] at d2
    rw [hI 204 d (by omega), hI 205 d (by omega), hI 206 d (by omega), hI 207 d (by omega)]
    have h9 := h.b d d0 d1 d2
    exact ⟨mo_bt_ag (fun c c0 c1 => hI c d (by omega)) h9.1, h9.2⟩
  · rw [hI 200 17 (by omega)] at ho
    rw [e3] at d1
    rw [hc]
    have h9 := h.l ho d d0 d1
    refine ⟨h9.1, fun p p0 p1 => ?_⟩
    rw [hI 218 _ (by omega), hI 219 _ (by omega)]
    exact h9.2 p p0 p1
theorem JJ_o {C : Int → cT} {v : Int} (hj : JJ C A) : JJ C (sI A 140 0 v) := by
  have hI : ∀ c i, c ≠ 140 → gI (sI A 140 0 v) c i = gI A c i := fun c i hc => by rw [gI_sI, if_neg (fun h => hc h.1)]
  exact ⟨MI_ag (A := A) (fun _ _ _ => rfl) (fun _ _ _ _ => rfl) (fun c i h0 h1 => hI c i (by omega)) hj.m, CX_ag (A := A) (fun _ _ _ => rfl) (fun _ _ _ => rfl) (fun c i hc => hI c i (by omega)) hj.x, HJ_ag (A := A) hj (fun _ _ _ => rfl) (fun _ _ _ _ => rfl) (fun c i hc => hI c i (by omega)), SK_ag (A := A) hj.m.g.ns (fun _ _ _ => rfl) (fun _ _ _ => rfl) (fun c i hc => hI c i (by omega)) hj.s, PK_ag (A := A) hj.m.p.np (fun _ _ _ => rfl) (fun _ _ _ => rfl) (fun c i hc => hI c i (by omega)) hj.p, XK_ag (A := A) (fun _ _ => rfl) (fun c i hc => hI c i (by omega)) hj.y, FW_ag (A := A) (fun c i hc => hI c i (by omega)) hj.w⟩
theorem JT_o {X : Int → Int} {C : Int → cT} {v : Int} (h : JT X C A) : JT X C (sI A 140 0 v) := by
  have hI : ∀ c i, c ≠ 140 → gI (sI A 140 0 v) c i = gI A c i := fun c i hc => by rw [gI_sI, if_neg (fun h => hc h.1)]
  exact ⟨JJ_o h.j, ST_ag (A := A) h.j.m.g.ns (fun c i hc => hI c i (by omega)) h.t, h.s, (funext fun i => hI 50 i (by omega)).trans h.x⟩
/-- the row of the hands may hold anything -/
theorem JJ_bz {C : Int → cT} {g : Int → Int} (hj : JJ C A) : JJ C (sF A 118 g) := by
  have hI : ∀ c i, c ≠ 118 → gI (sF A 118 g) c i = gI A c i := fun c i hc => by rw [gI_sF, if_neg hc]
  exact ⟨MI_ag (A := A) (fun _ _ _ => rfl) (fun _ _ _ _ => rfl) (fun c i h0 h1 => hI c i (by omega)) hj.m, CX_ag (A := A) (fun _ _ _ => rfl) (fun _ _ _ => rfl) (fun c i hc => hI c i (by omega)) hj.x, HJ_ag (A := A) hj (fun _ _ _ => rfl) (fun _ _ _ _ => rfl) (fun c i hc => hI c i (by omega)), SK_ag (A := A) hj.m.g.ns (fun _ _ _ => rfl) (fun _ _ _ => rfl) (fun c i hc => hI c i (by omega)) hj.s, PK_ag (A := A) hj.m.p.np (fun _ _ _ => rfl) (fun _ _ _ => rfl) (fun c i hc => hI c i (by omega)) hj.p, XK_ag (A := A) (fun _ _ => rfl) (fun c i hc => hI c i (by omega)) hj.y, FW_ag (A := A) (fun c i hc => hI c i (by omega)) hj.w⟩
theorem JT_bz {X : Int → Int} {C : Int → cT} {g : Int → Int} (h : JT X C A) : JT X C (sF A 118 g) := by
  have hI : ∀ c i, c ≠ 118 → gI (sF A 118 g) c i = gI A c i := fun c i hc => by rw [gI_sF, if_neg hc]
  exact ⟨JJ_bz h.j, ST_ag (A := A) h.j.m.g.ns (fun c i hc => hI c i (by omega)) h.t, h.s, (funext fun i => hI 50 i (by omega)).trans h.x⟩
theorem JJ_0 {C : Int → cT} {v : Int} (hj : JJ C A) : JJ C (sI A 200 0 v) := by
  have hI : ∀ c i, ¬ (c = 200 ∧ i = 0) → gI (sI A 200 0 v) c i = gI A c i := fun c i hc => by rw [gI_sI, if_neg hc]
  exact ⟨MI_0 hj.m, CX_ag (A := A) (fun _ _ _ => rfl) (fun _ _ _ => rfl) (fun c i hc => hI c i (by omega)) hj.x, HJ_ag (A := A) hj (fun _ _ _ => rfl) (fun _ _ _ _ => rfl) (fun c i hc => hI c i (by omega)), SK_ag (A := A) hj.m.g.ns (fun _ _ _ => rfl) (fun _ _ _ => rfl) (fun c i hc => hI c i (by omega)) hj.s, PK_ag (A := A) hj.m.p.np (fun _ _ _ => rfl) (fun _ _ _ => rfl) (fun c i hc => hI c i (by omega)) hj.p, XK_ag (A := A) (fun _ _ => rfl) (fun c i hc => hI c i (by omega)) hj.y, FW_ag (A := A) (fun c i hc => hI c i (by omega)) hj.w⟩
theorem JT_0 {X : Int → Int} {C : Int → cT} {v : Int} (h : JT X C A) : JT X C (sI A 200 0 v) := by
  have hI : ∀ c i, ¬ (c = 200 ∧ i = 0) → gI (sI A 200 0 v) c i = gI A c i := fun c i hc => by rw [gI_sI, if_neg hc]
  exact ⟨JJ_0 h.j, ST_ag (A := A) h.j.m.g.ns (fun c i hc => hI c i (by omega)) h.t, h.s, (funext fun i => hI 50 i (by omega)).trans h.x⟩
theorem JT_cq {X : Int → Int} {C : Int → cT} {W : mj_M} (h : JT X C A) (k : cq C A W) : JT X C W :=
  ⟨k.j, ST_ag (A := A) h.j.m.g.ns (fun c i hc => k.l.I c i (by omega)) h.t, (k.l.S 50).trans h.s, (funext fun i => k.l.I 50 i (by omega)).trans h.x⟩
/-- the pictures were laid: all is kept -/
theorem JJ_LZ {C : Int → cT} {B : mj_M} (hj : JJ C A) (k : LZ C A B) : JJ C B := by
  have hnd := hj.m.g.nd
  have hns := hj.m.g.ns
  have hI : ∀ c i, ¬ (209 ≤ c ∧ c ≤ 221) → ¬ (c = 200 ∧ (i = 17 ∨ i = 45)) → gI B c i = gI A c i := k.y.I
  have hS := k.y.S
  have hP := k.y.P
  have e3 : gI B 200 3 = gI A 200 3 := hI 200 3 (by omega) (by omega)
  refine ⟨⟨ly_MS k.y hj.m.M, ly_rg k.y hj.m.g, ly_pg k.y hj.m.p, ly_hg k.y hj.m.h, k.z, ⟨fun d d0 d1 d2 => ?_, fun d d0 d1 d2 => ?_, fun _ => by rw [e3]; exact k.l⟩, fun q => by rw [hI 222 q (by omega) (by omega)]; exact hj.m.co q, fun q => by rw [hI 208 q (by omega) (by omega)]; exact hj.m.gd q, fun q => by rw [hI 228 q (by omega) (by omega)]; exact hj.m.sp q, by rw [hI 200 1 (by omega) (by omega), hI 200 2 (by omega) (by omega)]; exact hj.m.px, by rw [hI 200 40 (by omega) (by omega)]; exact hj.m.nh, fun q q0 q1 => ?_, by rw [hI 200 43 (by omega) (by omega)]; exact hj.m.nf, fun q q0 q1 => ?_, by rw [e3]; exact hj.m.cr⟩, CX_ag (A := A) (fun c _ _ => hS c) (fun c i _ => hP c i) (fun c i hc => hI c i (by omega) (by omega)) hj.x, HJ_ag (A := A) hj (fun c _ _ => hS c) (fun c i _ _ => hP c i) (fun c i hc => hI c i (by omega) (by omega)), SK_ag (A := A) hj.m.g.ns (fun c _ _ => hS c) (fun c i _ => hP c i) (fun c i hc => hI c i (by omega) (by omega)) hj.s, PK_ag (A := A) hj.m.p.np (fun c _ _ => hS c) (fun c i _ => hP c i) (fun c i hc => hI c i (by omega) (by omega)) hj.p, XK_ag (A := A) (fun c _ => hS c) (fun c i hc => hI c i (by omega) (by omega)) hj.y, fun q q0 q1 => ?_⟩
  · rw [e3] at d1
    exact (k.l d d0 d1).1
  · rw [e3] at d1
    rw [hI 204 d (by omega) (by omega)] at d2
    rw [hI 204 d (by omega) (by omega), hI 205 d (by omega) (by omega), hI 206 d (by omega) (by omega), hI 207 d (by omega) (by omega)]
    have h9 := hj.m.C.b d d0 d1 d2
    exact ⟨mo_bt_ag (fun c c0 c1 => hI c d (by omega) (by omega)) h9.1, h9.2⟩
  · rw [hI 200 40 (by omega) (by omega)] at q1
    rw [hI 241 q (by omega) (by omega)]
    exact hj.m.hs q q0 q1
  · rw [hI 200 43 (by omega) (by omega)] at q1
    rw [hI 244 q (by omega) (by omega), hI 200 23 (by omega) (by omega)]
    exact hj.m.rl q q0 q1
  · rw [e3] at q0
    have h9 := hj.w q q0 q1
    have hu := k.u q q0 q1
    have u1 := hu.n
    have u2 := hu.p
    have u3 := hu.c
    refine ⟨u1.symm.trans h9.1, u2.symm.trans h9.2.1, u3.symm.trans h9.2.2.1, ?_⟩
    rw [hI 208 q (by omega) (by omega)]
    exact h9.2.2.2
theorem JT_LZ {X : Int → Int} {C : Int → cT} {B : mj_M} (h : JT X C A) (k : LZ C A B) : JT X C B :=
  ⟨JJ_LZ h.j k, ST_ag (A := A) h.j.m.g.ns (fun c i hc => k.y.I c i (by omega) (by omega)) h.t, (k.y.S 50).trans h.s, (funext fun i => k.y.I 50 i (by omega) (by omega)).trans h.x⟩
end STPA
