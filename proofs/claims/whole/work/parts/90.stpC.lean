/-! STEPS, 3: a key is drawn anew -/
section STPC
variable {G : mj_G} {A : mj_M}
theorem jt_draw {X : Int → Int} {C : Int → cT} {B W A2 : mj_M} {k : Int} (h : JT X C A) (hk : 0 ≤ k ∧ k < gI A 200 3) (hkf : kf C A k B W) (hS : ∀ c, gS A2 c = gS W c) (hP : ∀ c i, gP A2 c i = gP W c i) (hI : ∀ c i, ¬ ((209 ≤ c ∧ c ≤ 216) ∨ (c = 200 ∧ (i = 0 ∨ i = 1 ∨ i = 2 ∨ i = 17)) ∨ (c = 140 ∧ i = 0)) → gI A2 c i = gI W c i) (h17 : gI A2 200 17 = 1) (hpx : (0 ≤ gI A2 200 1 ∧ gI A2 200 1 < 16) ∧ (0 ≤ gI A2 200 2 ∧ gI A2 200 2 < 12)) (hpn : gI W 100 2 = gI A2 200 1 ∧ gI W 100 3 = gI A2 200 2) (hcek : ce (ch_c W k) (mo_c A2 k)) (hceo : ∀ d, 0 ≤ d → d < 16 → d ≠ k → ce (mo_c A d) (mo_c A2 d)) (hst2 : mo_st2 A2) (hpt : mo_pt A2) : JT X (ch_c W) A2 := by
  have hj := h.j
  have hnd := hj.m.g.nd
  have hns := hj.m.g.ns
  have hnp := hj.m.p.np
  have hIA : ∀ c i, ¬ (209 ≤ c ∧ c ≤ 216) → ¬ (c = 200 ∧ (i = 0 ∨ i = 1 ∨ i = 2 ∨ i = 17)) → ¬ (c = 140 ∧ i = 0) → ¬ (c = 100 ∧ (i = 2 ∨ i = 3)) → ¬ (1000 ≤ c ∧ c < 2600 ∧ (c % 100 = 0 ∧ (i = 6 ∨ i = 9 ∨ i = 10 ∨ i = 13) ∨ 2 ≤ c % 100 ∧ c % 100 ≤ 11)) → gI A2 c i = gI A c i := fun c i h1 h2 h3 h4 h5 => (hI c i (by omega)).trans (hkf.I c i h4 h5)
  have hSA : ∀ c, gS A2 c = gS A c := fun c => (hS c).trans (hkf.S c)
  have hPA : ∀ c i, c ≠ 1000 + 100 * k + 1 → gP A2 c i = gP A c i := fun c i hc => (hP c i).trans (hkf.P c i hc)
  have eI : ∀ c i, ((217 ≤ c) ∨ (201 ≤ c ∧ c ≤ 208) ∨ (c = 200 ∧ 3 ≤ i ∧ i ≠ 17)) → c < 1000 → gI A2 c i = gI A c i := fun c i h1 h2 => hIA c i (by omega) (by omega) (by omega) (by omega) (by omega)
  have e3 : gI A2 200 3 = gI A 200 3 := eI _ _ (by omega) (by omega)
  have e3W : gI W 200 3 = gI A 200 3 := hkf.I _ _ (by omega) (by omega)
  have hWn := hkf.x.n
  rw [e3W] at hWn
  have hDW : DS W (gI A 200 3) := by
    have h1 := hkf.x.D
    rw [hWn] at h1
    exact h1
  have hceW : ∀ d, 0 ≤ d → d < gI A 200 3 → ce (ch_c W d) (ch_c A2 d) := fun d d0 d1 => ch_cg hDW ⟨d0, d1⟩ (hkf.c d d0 d1) (fun i => hP _ _) (fun c i hc => hI c i (by omega))
  refine ⟨⟨⟨MS_ag (A := A) (fun c _ _ => hSA c) (fun c i _ _ => hPA c i (by omega)) hj.m.M, mo_rg_ag (A := A) (fun c i hc => eI c i (by omega) (by omega)) hj.m.g, mo_pg_ag (A := A) (fun c i hc => eI c i (by omega) (by omega)) hj.m.p, mo_hg_ag (A := A) (fun c i hc => eI c i (by omega) (by omega)) hj.m.h, ⟨hst2, hpt, fun q hq => (eI 221 q (by omega) (by omega)).trans (hj.m.z.z q hq), fun q => by rw [eI 218 q (by omega) (by omega)]; exact hj.m.z.pi q, Or.inr h17⟩, ⟨fun d d0 d1 d2 => ?_, fun d d0 d1 d2 => ?_, fun ho => by rw [h17] at ho; omega⟩, fun q => by rw [eI 222 q (by omega) (by omega)]; exact hj.m.co q, fun q => by rw [eI 208 q (by omega) (by omega)]; exact hj.m.gd q, fun q => by rw [eI 228 q (by omega) (by omega)]; exact hj.m.sp q, hpx, by rw [eI 200 40 (by omega) (by omega)]; exact hj.m.nh, fun q q0 q1 => by rw [eI 200 40 (by omega) (by omega)] at q1; rw [eI 241 q (by omega) (by omega)]; exact hj.m.hs q q0 q1, by rw [eI 200 43 (by omega) (by omega)]; exact hj.m.nf, fun q q0 q1 => by rw [eI 200 43 (by omega) (by omega)] at q1; rw [eI 244 q (by omega) (by omega), eI 200 23 (by omega) (by omega)]; exact hj.m.rl q q0 q1, by rw [e3]; exact hkf.c⟩, CX_ag (A := W) (fun c _ _ => hS c) (fun c i _ => hP c i) (fun c i hc => hI c i (by omega)) hkf.x, ⟨?_, ?_, fun p hp => ?_, ?_, ?_, ?_⟩, SK_ag (A := A) hns (fun c _ _ => hSA c) (fun c i hc => hPA c i (by omega)) (fun c i hc => hIA c i (by omega) (by omega) (by omega) (by omega) (by omega)) hj.s, PK_ag (A := A) hnp (fun c _ _ => hSA c) (fun c i hc => hPA c i (by omega)) (fun c i hc => hIA c i (by omega) (by omega) (by omega) (by omega) (by omega)) hj.p, XK_ag (A := A) (fun c _ => hSA c) (fun c i hc => hIA c i (by omega) (by omega) (by omega) (by omega) (by omega)) hj.y, fun q q0 q1 => ?_⟩, ST_ag (A := A) hns (fun c i hc => hIA c i (by omega) (by omega) (by omega) (by omega) (by omega)) h.t, (hSA 50).trans h.s, (funext fun i => hIA 50 i (by omega) (by omega) (by omega) (by omega) (by omega)).trans h.x⟩
  · rw [e3] at d1
    rw [eI 204 d (by omega) (by omega)] at d2
    by_cases e : d = k
    · rw [e]; exact hcek
    · exact ce_tr (ce_sy (hkf.o d d0 d1 d2 e)) (ce_tr (hj.m.C.k d d0 d1 d2) (hceo d d0 (by omega) e))
  · rw [e3] at d1
    rw [eI 204 d (by omega) (by omega)] at d2
    rw [eI 204 d (by omega) (by omega), eI 205 d (by omega) (by omega), eI 206 d (by omega) (by omega), eI 207 d (by omega) (by omega)]
    exact ⟨mo_bt_ag (A := A) (fun c c0 c1 => eI c d (by omega) (by omega)) (hj.m.C.b d d0 d1 d2).1, hkf.b d d0 d1 d2⟩
  · rw [e3]
    exact hceW
  · rw [e3]
    intro d d0 d1
    rw [hI _ 13 (by omega)]
    rcases hkf.v d d0 d1 with h9 | ⟨h9, h8⟩
    · exact Or.inl h9
    · exact Or.inr ⟨h9, pv_e (hceW d d0 d1) (fun c i h0 h1 => hI _ _ (by omega)) h8⟩
  · rw [hIA 124 p (by omega) (by omega) (by omega) (by omega) (by omega)]
    exact hj.h.z p hp
  · rw [e3]
    intro d d0 d1
    rw [hIA _ 11 (by omega) (by omega) (by omega) (by omega) (by omega), eI 208 d (by omega) (by omega)]
    exact hj.h.ap d d0 d1
  · rw [e3]
    exact fun d d0 d1 j j0 j1 => (hSA _).trans (hj.h.f d d0 d1 j j0 j1)
  · rw [hI 100 2 (by omega), hI 100 3 (by omega)]
    exact hpn
  · rw [e3] at q0
    have h9 := hj.w q q0 q1
    have hu := hceo q (by omega) q1 (by omega)
    have u1 := hu.n
    have u2 := hu.p
    have u3 := hu.c
    refine ⟨u1.symm.trans h9.1, u2.symm.trans h9.2.1, u3.symm.trans h9.2.2.1, ?_⟩
    rw [eI 208 q (by omega) (by omega)]
    exact h9.2.2.2
/-- all followed, but nothing had changed -/
theorem kf_same {C : Int → cT} {W : mj_M} {k : Int} (hj : JJ C A) (hkf : kf C A k A W) (hk : 0 ≤ k ∧ k < gI A 200 3) : ∀ n : Nat, ∀ d, 0 ≤ d → d < gI A 200 3 → d < n → ce (C d) (ch_c W d)
  | 0, d, d0, d1, d2 => by omega
  | n + 1, d, d0, d1, d2 => by
    by_cases e : gI A 204 d = -1
    · by_cases ek : d = k
      · rw [ek]; exact ce_tr (hj.h.e k hk.1 hk.2) hkf.k
      · exact hkf.o d d0 d1 e ek
    · have h9 := hj.m.C.b d d0 d1 e
      have ha := h9.1.a
      have hb := h9.1.b
      exact cb_u h9.2 (hkf.b d d0 d1 e) (kf_same hj hkf hk n _ ha.1 (by omega) (by omega)) (kf_same hj hkf hk n _ hb.1 (by omega) (by omega))
theorem jt_same {X : Int → Int} {C : Int → cT} {W : mj_M} {k : Int} (h : JT X C A) (hkf : kf C A k A W) (hk : 0 ≤ k ∧ k < gI A 200 3) : JT X C W := by
  have hj := h.j
  have hnd := hj.m.g.nd
  have hns := hj.m.g.ns
  have hnp := hj.m.p.np
  have hI : ∀ c i, ¬ (1000 ≤ c ∧ c < 2600 ∧ (c % 100 = 0 ∧ (i = 6 ∨ i = 9 ∨ i = 10 ∨ i = 13) ∨ 2 ≤ c % 100 ∧ c % 100 ≤ 11)) → gI W c i = gI A c i := fun c i hc => by
    by_cases e : c = 100 ∧ (i = 2 ∨ i = 3)
    · rcases e with ⟨e1, e2 | e2⟩
      · rw [e1, e2]; exact hkf.p.1
      · rw [e1, e2]; exact hkf.p.2
    · exact hkf.I c i e hc
  have e3 : gI W 200 3 = gI A 200 3 := hI _ _ (by omega)
  refine ⟨⟨MI_ag (A := A) (fun c _ _ => hkf.S c) (fun c i _ _ => hkf.P c i (by omega)) (fun c i _ _ => hI c i (by omega)) hj.m, hkf.x, ⟨?_, ?_, fun p hp => (hI 124 p (by omega)).trans (hj.h.z p hp), ?_, ?_, ?_⟩, SK_ag (A := A) hns (fun c _ _ => hkf.S c) (fun c i hc => hkf.P c i (by omega)) (fun c i hc => hI c i (by omega)) hj.s, PK_ag (A := A) hnp (fun c _ _ => hkf.S c) (fun c i hc => hkf.P c i (by omega)) (fun c i hc => hI c i (by omega)) hj.p, XK_ag (A := A) (fun c _ => hkf.S c) (fun c i hc => hI c i (by omega)) hj.y, FW_ag (A := A) (fun c i hc => hI c i (by omega)) hj.w⟩, ST_ag (A := A) hns (fun c i hc => hI c i (by omega)) h.t, (hkf.S 50).trans h.s, (funext fun i => hI 50 i (by omega)).trans h.x⟩
  · rw [e3]
    exact fun d d0 d1 => kf_same hj hkf hk 16 d d0 d1 (by omega)
  · rw [e3]
    exact hkf.v
  · rw [e3]
    intro d d0 d1
    rw [hI _ 11 (by omega), hI 208 d (by omega)]
    exact hj.h.ap d d0 d1
  · rw [e3]
    exact fun d d0 d1 j j0 j1 => (hkf.S _).trans (hj.h.f d d0 d1 j j0 j1)
  · rw [hI 100 2 (by omega), hI 100 3 (by omega), hI 200 1 (by omega), hI 200 2 (by omega)]
    exact hj.h.pn
/-- the reference's rows of one drawing -/
theorem mo_pu {B : mj_M} {d K its a b x y v : Int} (hn : (8 * d ≤ K ∧ K < 8 * d + gI A 209 d ∧ gI A 210 K = its ∧ (∀ j, 8 * d ≤ j → j < K → gI A 210 j ≠ its) ∧ gI B 209 d = gI A 209 d) ∨ ((∀ j, 8 * d ≤ j → j < 8 * d + gI A 209 d → gI A 210 j ≠ its) ∧ K = 8 * d + gI A 209 d ∧ gI B 209 d = gI A 209 d + 1)) (h0 : 0 ≤ gI A 209 d ∧ 0 ≤ d)
    (h10 : ∀ q, gI B 210 q = if q = K then its else gI A 210 q) (h11 : ∀ q, gI B 211 q = if q = K then v else gI A 211 q) (h12 : ∀ q, gI B 212 q = if q = 4 * K then a else if q = 4 * K + 1 then b else if q = 4 * K + 2 then x else if q = 4 * K + 3 then y else gI A 212 q) (h : ∀ c i, 213 ≤ c → c ≤ 216 → gI B c i = gI A c i) : pu (mo_c A d) (mo_c B d) its a b x y v (K - 8 * d) := by
  refine ⟨?_, fun j j0 j1 => ?_, fun j j0 j1 => ?_, fun j q j0 j1 q0 q1 => ?_, h _ _ (by omega) (by omega), fun j j0 j1 => h _ _ (by omega) (by omega), fun j j0 j1 => h _ _ (by omega) (by omega), h _ _ (by omega) (by omega)⟩
  · rcases hn with ⟨k1, k2, k3, k4, k5⟩ | ⟨k1, k2, k3⟩
    · refine Or.inl ⟨?_, by omega, k5⟩
      exact mj_fx_s (nm := fun i => gI A 210 (8 * d + i)) (lo := 0) (by omega) (by omega) (by show gI A 210 (8 * d + (K - 8 * d)) = its; rw [show 8 * d + (K - 8 * d) = K by omega]; exact k3) (fun j j0 j1 => k4 _ (by omega) (by omega)) _ (by show K - 8 * d < 0 + ((gI A 209 d).toNat : Int); omega)
    · refine Or.inr ⟨?_, by show K - 8 * d = gI A 209 d; omega, k3⟩
      exact mj_fx_n (nm := fun i => gI A 210 (8 * d + i)) (lo := 0) _ (fun j j0 j1 => k1 _ (by omega) (by
        have j2 : j < 0 + (((gI A 209 d).toNat : Nat) : Int) := j1
        omega))
  · show gI B 210 (8 * d + j) = if j = K - 8 * d then its else gI A 210 (8 * d + j)
    rw [h10]
    by_cases e : j = K - 8 * d
    · rw [if_pos e, if_pos (by omega)]
    · rw [if_neg e, if_neg (by omega)]
  · show gI B 211 (8 * d + j) = if j = K - 8 * d then v else gI A 211 (8 * d + j)
    rw [h11]
    by_cases e : j = K - 8 * d
    · rw [if_pos e, if_pos (by omega)]
    · rw [if_neg e, if_neg (by omega)]
  · show gI B 212 (32 * d + (4 * j + q)) = if j = K - 8 * d then (if q = 0 then a else if q = 1 then b else if q = 2 then x else y) else gI A 212 (32 * d + (4 * j + q))
    rw [h12]
    by_cases e : j = K - 8 * d
    · rw [if_pos e]
      have eq : q = 0 ∨ q = 1 ∨ q = 2 ∨ q = 3 := by omega
      rcases eq with eq | eq | eq | eq
      · rw [if_pos (by omega), if_pos eq]
      · rw [if_neg (by omega), if_pos (by omega), if_neg (by omega), if_pos eq]
      · rw [if_neg (by omega), if_neg (by omega), if_pos (by omega), if_neg (by omega), if_neg (by omega), if_pos eq]
      · rw [if_neg (by omega), if_neg (by omega), if_neg (by omega), if_pos (by omega), if_neg (by omega), if_neg (by omega), if_neg (by omega)]
    · rw [if_neg e, if_neg (by omega), if_neg (by omega), if_neg (by omega), if_neg (by omega)]
theorem mo_de {B : mj_M} {d K its : Int} (h0 : 0 ≤ d) (k1 : 8 * d ≤ K) (k2 : K < 8 * d + gI A 209 d) (k3 : gI A 210 K = its) (k4 : ∀ j, 8 * d ≤ j → j < K → gI A 210 j ≠ its) (k5 : gI B 209 d = gI A 209 d - 1)
    (h10 : ∀ q, gI B 210 q = if K ≤ q ∧ q < 8 * d + gI A 209 d - 1 then gI A 210 (q + 1) else gI A 210 q) (h11 : ∀ q, gI B 211 q = if K ≤ q ∧ q < 8 * d + gI A 209 d - 1 then gI A 211 (q + 1) else gI A 211 q) (h12 : ∀ q, gI B 212 q = if 4 * K ≤ q ∧ q < 4 * (8 * d + gI A 209 d - 1) then gI A 212 (q + 4) else gI A 212 q) (h : ∀ c i, 213 ≤ c → c ≤ 216 → gI B c i = gI A c i) : de (mo_c A d) (mo_c B d) its (K - 8 * d) := by
  refine ⟨⟨?_, by omega⟩, k5, fun j j0 j1 => ?_, fun j j0 j1 => ?_, fun j q j0 j1 q0 q1 => ?_, h _ _ (by omega) (by omega), fun j j0 j1 => h _ _ (by omega) (by omega), fun j j0 j1 => h _ _ (by omega) (by omega), h _ _ (by omega) (by omega)⟩
  · exact mj_fx_s (nm := fun i => gI A 210 (8 * d + i)) (lo := 0) (by omega) (by omega) (by show gI A 210 (8 * d + (K - 8 * d)) = its; rw [show 8 * d + (K - 8 * d) = K by omega]; exact k3) (fun j j0 j1 => k4 _ (by omega) (by omega)) _ (by show K - 8 * d < 0 + ((gI A 209 d).toNat : Int); omega)
  · replace j1 : j < gI B 209 d := j1
    show gI B 210 (8 * d + j) = gI A 210 (8 * d + dj (K - 8 * d) j)
    rw [h10]
    unfold dj
    by_cases e : j < K - 8 * d
    · rw [if_pos e, if_neg (by omega)]
    · rw [if_neg e, if_pos (by omega), show 8 * d + j + 1 = 8 * d + (j + 1) by omega]
  · replace j1 : j < gI B 209 d := j1
    show gI B 211 (8 * d + j) = gI A 211 (8 * d + dj (K - 8 * d) j)
    rw [h11]
    unfold dj
    by_cases e : j < K - 8 * d
    · rw [if_pos e, if_neg (by omega)]
    · rw [if_neg e, if_pos (by omega), show 8 * d + j + 1 = 8 * d + (j + 1) by omega]
  · replace j1 : j < gI B 209 d := j1
    show gI B 212 (32 * d + (4 * j + q)) = gI A 212 (32 * d + (4 * dj (K - 8 * d) j + q))
    rw [h12]
    unfold dj
    by_cases e : j < K - 8 * d
    · rw [if_pos e, if_neg (by omega)]
    · rw [if_neg e, if_pos (by omega), show 32 * d + (4 * j + q) + 4 = 32 * d + (4 * (j + 1) + q) by omega]
theorem mo_pn {B : mj_M} {d p v : Int} (h0 : 0 ≤ d) (hn : 0 ≤ gI A 213 d) (h13 : gI B 213 d = gI A 213 d + 1) (h14 : ∀ q, gI B 214 q = if q = 6 * d + gI A 213 d then p else gI A 214 q) (h15 : ∀ q, gI B 215 q = if q = 6 * d + gI A 213 d then v else gI A 215 q) (h16 : gI B 216 d = gI A 216 d) (h : ∀ c i, 209 ≤ c → c ≤ 212 → gI B c i = gI A c i) : pn1 (mo_c A d) (mo_c B d) p v := by
  refine ⟨h _ _ (by omega) (by omega), fun j j0 j1 => h _ _ (by omega) (by omega), fun j j0 j1 => h _ _ (by omega) (by omega), fun j j0 j1 => h _ _ (by omega) (by omega), h13, fun j j0 j1 => ?_, fun j j0 j1 => ?_, h16⟩
  · show gI B 214 (6 * d + j) = if j = gI A 213 d then p else gI A 214 (6 * d + j)
    rw [h14]
    by_cases e : j = gI A 213 d
    · rw [if_pos e, if_pos (by omega)]
    · rw [if_neg e, if_neg (by omega)]
  · show gI B 215 (6 * d + j) = if j = gI A 213 d then v else gI A 215 (6 * d + j)
    rw [h15]
    by_cases e : j = gI A 213 d
    · rw [if_pos e, if_pos (by omega)]
    · rw [if_neg e, if_neg (by omega)]
theorem mo_gp {B : mj_M} {d : Int} (h16 : gI B 216 d = 1 - gI A 216 d) (h : ∀ c i, 209 ≤ c → c ≤ 215 → gI B c i = gI A c i) : gp1 (mo_c A d) (mo_c B d) :=
  ⟨h _ _ (by omega) (by omega), fun j j0 j1 => h _ _ (by omega) (by omega), fun j j0 j1 => h _ _ (by omega) (by omega), fun j j0 j1 => h _ _ (by omega) (by omega), h _ _ (by omega) (by omega), fun j j0 j1 => h _ _ (by omega) (by omega), fun j j0 j1 => h _ _ (by omega) (by omega), h16⟩
end STPC
