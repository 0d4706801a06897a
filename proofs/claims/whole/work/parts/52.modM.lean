/-! THE REFERENCE, 22: what its drawings hold -/
theorem mj_fx_sh {nm : Int → Int} {x lo : Int} (h0 : 0 ≤ lo) : ∀ n : Nat, (mj_fx nm x lo n = -1 ∧ mj_fx (fun i => nm (lo + i)) x 0 n = -1) ∨ (mj_fx nm x lo n = lo + mj_fx (fun i => nm (lo + i)) x 0 n ∧ 0 ≤ mj_fx (fun i => nm (lo + i)) x 0 n)
  | 0 => Or.inl ⟨rfl, rfl⟩
  | n + 1 => by
    have h := mj_fx_sh (nm := nm) (x := x) h0 n
    rw [mj_fx, mj_fx]
    rcases h with ⟨h1, h2⟩ | ⟨h1, h2⟩
    · rw [if_neg (show ¬ (mj_fx nm x lo n ≠ -1) from fun k => k h1), if_neg (show ¬ (mj_fx (fun i => nm (lo + i)) x 0 n ≠ -1) from fun k => k h2)]
      show ((if nm (lo + n) = x then lo + n else -1) = -1 ∧ (if nm (lo + (0 + n)) = x then 0 + (n : Int) else -1) = -1) ∨ ((if nm (lo + n) = x then lo + n else -1) = lo + (if nm (lo + (0 + n)) = x then 0 + (n : Int) else -1) ∧ 0 ≤ (if nm (lo + (0 + n)) = x then 0 + (n : Int) else -1))
      rw [show lo + (0 + (n : Int)) = lo + n by omega]
      split
      · exact Or.inr ⟨by omega, by omega⟩
      · exact Or.inl ⟨rfl, rfl⟩
    · rw [if_pos (by omega), if_pos (by omega)]
      exact Or.inr ⟨h1, h2⟩
section MODM
variable {G : mj_G} {A : mj_M}
abbrev mo_c (A : mj_M) (d : Int) : cT := (gI A 209 d, fun i => gI A 210 (8 * d + i), fun i => gI A 211 (8 * d + i), fun q => gI A 212 (32 * d + q), gI A 213 d, fun i => gI A 214 (6 * d + i), fun i => gI A 215 (6 * d + i), gI A 216 d)
theorem co_f_c {a t : Int} (ha : 0 ≤ a) : (co_f A a t = -1 ∧ c_f (mo_c A a) t = -1) ∨ (co_f A a t = 8 * a + c_f (mo_c A a) t ∧ 0 ≤ c_f (mo_c A a) t) := mj_fx_sh (nm := gI A 210) (x := t) (lo := 8 * a) (by omega) (gI A 209 a).toNat
theorem co_n_c {a b : Int} (ha : 0 ≤ a) (hb : 0 ≤ b) : ∀ t : Nat, co_n A a b t = c_k (mo_c A a) (mo_c A b) t
  | 0 => rfl
  | t + 1 => by
    have h1 := co_f_c (A := A) (t := t) ha
    have h2 := co_f_c (A := A) (t := t) hb
    rw [co_n, c_k, co_n_c ha hb t]
    by_cases h : c_f (mo_c A a) t ≠ -1 ∧ c_f (mo_c A b) t ≠ -1
    · rw [if_pos h, if_pos (by omega)]
    · rw [if_neg h, if_neg (by omega)]
/-- what the laying may change -/
def ly (A : mj_M) (A' : mj_M) : Prop := (∀ c, gS A' c = gS A c) ∧ (∀ c i, gP A' c i = gP A c i) ∧ (∀ c i, ¬ (209 ≤ c ∧ c ≤ 221) → ¬ (c = 200 ∧ (i = 17 ∨ i = 45)) → gI A' c i = gI A c i)
theorem ly.S {A : mj_M} {A' : mj_M} (h : ly A A') : ∀ c, gS A' c = gS A c := h.1
theorem ly.P {A : mj_M} {A' : mj_M} (h : ly A A') : ∀ c i, gP A' c i = gP A c i := h.2.1
theorem ly.I {A : mj_M} {A' : mj_M} (h : ly A A') : ∀ c i, ¬ (209 ≤ c ∧ c ≤ 221) → ¬ (c = 200 ∧ (i = 17 ∨ i = 45)) → gI A' c i = gI A c i := h.2.2
theorem ly_rf : ly A A := ⟨fun _ => rfl, fun _ _ => rfl, fun _ _ _ _ => rfl⟩
theorem ly_tr {A' A'' : mj_M} (h : ly A A') (k : ly A' A'') : ly A A'' := ⟨fun c => (k.S c).trans (h.S c), fun c i => (k.P c i).trans (h.P c i), fun c i h1 h2 => (k.I c i h1 h2).trans (h.I c i h1 h2)⟩
theorem ly_MS {A' : mj_M} (h : ly A A') (hM : MS A) : MS A' := ⟨(h.S 200).trans hM.1, fun q hq => ⟨(h.P _ _).trans (hM.2 q hq).1, (h.S _).trans (hM.2 q hq).2⟩⟩
theorem ce_8 {A' : mj_M} {d : Int} (hn : gI A 209 d ≤ 8) (hp : gI A 213 d ≤ 6) (h9 : gI A' 209 d = gI A 209 d) (h10 : ∀ i, 8 * d ≤ i → i < 8 * d + 8 → gI A' 210 i = gI A 210 i ∧ gI A' 211 i = gI A 211 i) (h12 : ∀ i, 32 * d ≤ i → i < 32 * d + 32 → gI A' 212 i = gI A 212 i) (h13 : gI A' 213 d = gI A 213 d) (h14 : ∀ i, 6 * d ≤ i → i < 6 * d + 6 → gI A' 214 i = gI A 214 i ∧ gI A' 215 i = gI A 215 i) (h16 : gI A' 216 d = gI A 216 d) : ce (mo_c A d) (mo_c A' d) := by
  refine ce_mk h9.symm (fun i h0 h1 => ?_) (fun i h0 h1 => ?_) (fun i h0 h1 => ?_) h13.symm (fun i h0 h1 => ?_) (fun i h0 h1 => ?_) h16.symm
  · replace h1 : i < gI A 209 d := h1
    exact (h10 _ (by omega) (by omega)).1.symm
  · replace h1 : i < gI A 209 d := h1
    exact (h10 _ (by omega) (by omega)).2.symm
  · replace h1 : i < 4 * gI A 209 d := h1
    exact (h12 _ (by omega) (by omega)).symm
  · replace h1 : i < gI A 213 d := h1
    exact (h14 _ (by omega) (by omega)).1.symm
  · replace h1 : i < gI A 213 d := h1
    exact (h14 _ (by omega) (by omega)).2.symm
section CE
variable {d : Int} {f9 f10 f11 f12 : Int → Int}
theorem co_e9 {i : Int} : gI (co_e A d f9 f10 f11 f12) 209 i = f9 i := rfl
theorem co_e10 {i : Int} : gI (co_e A d f9 f10 f11 f12) 210 i = f10 i := rfl
theorem co_e11 {i : Int} : gI (co_e A d f9 f10 f11 f12) 211 i = f11 i := rfl
theorem co_e12 {i : Int} : gI (co_e A d f9 f10 f11 f12) 212 i = f12 i := rfl
theorem co_e13 {i : Int} : gI (co_e A d f9 f10 f11 f12) 213 i = if i = d then gI A 213 (gI A 204 d) else gI A 213 i := by
  show (if 213 = 213 ∧ i = d then _ else _) = _
  simp only [true_and]
  rfl
theorem co_e16 {i : Int} : gI (co_e A d f9 f10 f11 f12) 216 i = if i = d then gI A 216 (gI A 204 d) else gI A 216 i := by
  show (if 216 = 216 ∧ i = d then _ else _) = _
  simp only [true_and]
  rfl
theorem co_e14 {i : Int} : gI (co_e A d f9 f10 f11 f12) 214 i = if 6 * d ≤ i ∧ i < 6 * d + gI A 213 (gI A 204 d) then gI A 214 (6 * gI A 204 d + (i - 6 * d)) else gI A 214 i := rfl
theorem co_e15 {i : Int} : gI (co_e A d f9 f10 f11 f12) 215 i = if 6 * d ≤ i ∧ i < 6 * d + gI A 213 (gI A 204 d) then gI A 215 (6 * gI A 204 d + (i - 6 * d)) else gI A 215 i := rfl
theorem co_ly : ly A (co_e A d f9 f10 f11 f12) := by
  refine ⟨fun _ => rfl, fun _ _ => rfl, fun c i h1 h2 => ?_⟩
  unfold co_e cp_m co_w
  simp only [gI_sI, gI_sF]
  grind
theorem co_cb (hst : mo_st2 A) (hpt : mo_pt A) (hd : 0 ≤ d ∧ d < 16) (hb : mo_bt A d) (hs : co_s A d (gI A 204 d) (gI A 205 d) 8 f9 f10 f11 f12) : cb (gI A 206 d) (gI A 207 d) (mo_c A (gI A 204 d)) (mo_c A (gI A 205 d)) (mo_c (co_e A d f9 f10 f11 f12) d) := by
  have ha := hb.a
  have hbb := hb.b
  have hw := hb.w
  refine cb_mk ?_ (fun s s1 s2 => ?_) ?_ (fun i h0 h1 => ?_) (fun i h0 h1 => ?_) ?_
  · show f9 d = _
    rw [hs.2.1, co_n_c ha.1 hbb.1]
  · have q1 := co_f_c (A := A) (t := s) ha.1
    have q2 := co_f_c (A := A) (t := s) hbb.1
    have h := hs.2.2.2.2 s s1 (by omega)
    rw [co_n_c ha.1 hbb.1] at h
    have e1 : co_f A (gI A 204 d) s = 8 * gI A 204 d + c_f (mo_c A (gI A 204 d)) s := by omega
    have e2 : co_f A (gI A 205 d) s = 8 * gI A 205 d + c_f (mo_c A (gI A 205 d)) s := by omega
    rw [e1, e2] at h
    refine ⟨h.1, h.2.1, fun j j0 j1 => ?_⟩
    have h3 := h.2.2 j j0 j1
    rw [co_x_pw hw.1] at h3
    show f12 (32 * d + (4 * c_k (mo_c A (gI A 204 d)) (mo_c A (gI A 205 d)) s + j)) = mj_pw (gI A 212 (32 * gI A 204 d + (4 * c_f (mo_c A (gI A 204 d)) s + j))) (gI A 212 (32 * gI A 205 d + (4 * c_f (mo_c A (gI A 205 d)) s + j))) _ _
    rw [show 32 * d + (4 * c_k (mo_c A (gI A 204 d)) (mo_c A (gI A 205 d)) s + j) = 4 * (8 * d + c_k (mo_c A (gI A 204 d)) (mo_c A (gI A 205 d)) s) + j by omega, h3]
    congr 2 <;> omega
  · show gI (co_e A d f9 f10 f11 f12) 213 d = _
    rw [co_e13, if_pos rfl]
  · show gI (co_e A d f9 f10 f11 f12) 214 (6 * d + i) = gI A 214 (6 * gI A 204 d + i)
    replace h1 : i < gI A 213 (gI A 204 d) := h1
    rw [co_e14, if_pos (by omega)]
    congr 1
    omega
  · show gI (co_e A d f9 f10 f11 f12) 215 (6 * d + i) = gI A 215 (6 * gI A 204 d + i)
    replace h1 : i < gI A 213 (gI A 204 d) := h1
    rw [co_e15, if_pos (by omega)]
    congr 1
    omega
  · show gI (co_e A d f9 f10 f11 f12) 216 d = _
    rw [co_e16, if_pos rfl]
theorem co_oth (hst : mo_st2 A) (hpt : mo_pt A) (hd : 0 ≤ d ∧ d < 16) (hb : mo_bt A d) (hs : co_s A d (gI A 204 d) (gI A 205 d) 8 f9 f10 f11 f12) {k : Int} (hk : 0 ≤ k ∧ k < 16) (n : k ≠ d) : ce (mo_c A k) (mo_c (co_e A d f9 f10 f11 f12) k) := by
  have ha := hb.a
  have hp := hpt.n _ ha.1 (by omega)
  refine ce_8 (hst.n k hk.1 hk.2).2 (hpt.n k hk.1 hk.2).2 (hs.1 k n) (fun i h0 h1 => hs.2.2.1 i (by omega)) (fun i h0 h1 => hs.2.2.2.1 i (by omega)) ?_ (fun i h0 h1 => ⟨?_, ?_⟩) ?_
  · rw [co_e13, if_neg n]
  · rw [co_e14, if_neg (by omega)]
  · rw [co_e15, if_neg (by omega)]
  · rw [co_e16, if_neg n]
theorem co_st (hst : mo_st2 A) (hs : co_s A d (gI A 204 d) (gI A 205 d) 8 f9 f10 f11 f12) (hr : co_r f11 f12) : mo_st2 (co_e A d f9 f10 f11 f12) := by
  have hk := co_n_r (A := A) (a := gI A 204 d) (b := gI A 205 d) 8
  refine ⟨fun k k0 k1 => ?_, fun k => (hr.2 k).1, fun k => (hr.2 k).2.1, fun k => (hr.2 k).2.2.1, fun k => (hr.2 k).2.2.2, hr.1⟩
  rw [co_e9]
  by_cases e : k = d
  · rw [e, hs.2.1]; omega
  · rw [hs.1 k e]; exact hst.n k k0 k1
theorem co_ptt (hpt : mo_pt A) (hd : 0 ≤ d ∧ d < 16) (hb : mo_bt A d) : mo_pt (co_e A d f9 f10 f11 f12) := by
  have ha := hb.a
  refine ⟨fun k k0 k1 => ?_, fun k => ?_, fun k => ?_, fun k => ?_⟩
  · rw [co_e13]
    split
    · exact hpt.n _ ha.1 (by omega)
    · exact hpt.n k k0 k1
  · rw [co_e14]
    split
    · exact hpt.s _
    · exact hpt.s k
  · rw [co_e15]
    split
    · exact hpt.f _
    · exact hpt.f k
  · rw [co_e16]
    split
    · exact hpt.c _
    · exact hpt.c k
end CE
theorem cm_comes2 {d : Int} (hM : MS A) (hst : mo_st2 A) (hpt : mo_pt A) (hd : 0 ≤ d ∧ d < 16) (hb : mo_bt A d) : mj_Cal G n_M_comes [mR (some 200), mI d] A (fun r A' => r = none ∧ ly A A' ∧ mo_st2 A' ∧ mo_pt A' ∧ cb (gI A 206 d) (gI A 207 d) (mo_c A (gI A 204 d)) (mo_c A (gI A 205 d)) (mo_c A' d) ∧ (∀ k, 0 ≤ k → k < 16 → k ≠ d → ce (mo_c A k) (mo_c A' k)) ∧ ∀ c i, ¬ (209 ≤ c ∧ c ≤ 216) → gI A' c i = gI A c i) mj_no := by
  refine (cm_comes hM hst hpt hd hb).mono (fun r A' h => ?_) (fun _ _ h => h)
  obtain ⟨e, f9, f10, f11, f12, rfl, hs, hr⟩ := h
  refine ⟨e, co_ly, co_st hst hs hr, co_ptt hpt hd hb, co_cb hst hpt hd hb hs, fun k k0 k1 n => co_oth hst hpt hd hb hs ⟨k0, k1⟩ n, fun c i hc => ?_⟩
  unfold co_e cp_m co_w
  simp only [gI_sI, gI_sF]
  grind
end MODM
