/-! THE REFERENCE, 21: an in-between -/
section MODL
variable {G : mj_G} {A : mj_M}
/-- k paints are copied -/
def cp_m (W : mj_M) (d a k : Int) : mj_M := sF (sF (sI (sI W 213 d (gI W 213 a)) 216 d (gI W 216 a)) 214 (fun q => if 6 * d ≤ q ∧ q < 6 * d + k then gI W 214 (6 * a + (q - 6 * d)) else gI W 214 q)) 215 (fun q => if 6 * d ≤ q ∧ q < 6 * d + k then gI W 215 (6 * a + (q - 6 * d)) else gI W 215 q)
theorem cp_m0 {W : mj_M} {d a : Int} : sI (sI W 213 d (gI W 213 a)) 216 d (gI W 216 a) = cp_m W d a 0 := by
  unfold cp_m
  refine mj_ext3 (fun _ => rfl) (fun c_ x_ => ?_) (fun _ _ => rfl)
  simp only [gI_sI, gI_sF]
  grind
theorem cp_m1 {W : mj_M} {d a k : Int} (hk : 0 ≤ k) : sI (sI (cp_m W d a k) 214 (6 * d + k) (gI W 214 (6 * a + k))) 215 (6 * d + k) (gI W 215 (6 * a + k)) = cp_m W d a (k + 1) := by
  unfold cp_m
  refine mj_ext3 (fun _ => rfl) (fun c_ x_ => ?_) (fun _ _ => rfl)
  simp only [gI_sI, gI_sF]
  by_cases h : x_ = 6 * d + k
  · rw [show 6 * a + (x_ - 6 * d) = 6 * a + k by omega]
    grind
  · grind
theorem co_cp {W : mj_M} {d a : Int} {P : Option mj_V → mj_M → Prop} (hM : MS W) (hRW : mj_R W) (hd : 0 ≤ d ∧ d < 16) (ha : 0 ≤ a ∧ a < d) (hn : 0 ≤ gI W 213 a ∧ gI W 213 a ≤ 6) (hP : P none (cp_m W d a (gI W 213 a))) {l4 l5 l6 l7 l8 : Option mj_V} :
    ∀ i : Int, (0 ≤ i ∧ i ≤ gI W 213 a) → mj_X G n_M_comes (mj_Qm G n_M_comes P mj_no) (cp_m W d a i) 0 0 215 [some (mR (some 200)), some (mI d), some (mI a), some (mI i), l4, l5, l6, l7, l8] [] := by
  refine mj_loop _ (fun i => (6 - i).toNat) _ ?_
  intro i hi ih
  have e13 : gI (cp_m W d a i) 213 a = gI W 213 a := by
    unfold cp_m
    simp only [gI_sI, gI_sF]
    grind
  have e14 : gI (cp_m W d a i) 214 (6 * a + i) = gI W 214 (6 * a + i) ∨ 6 ≤ i := by
    unfold cp_m
    simp only [gI_sI, gI_sF]
    grind
  have e15 : gI (sI (cp_m W d a i) 214 (6 * d + i) (gI W 214 (6 * a + i))) 215 (6 * a + i) = gI W 215 (6 * a + i) ∨ 6 ≤ i := by
    unfold cp_m
    simp only [gI_sI, gI_sF]
    grind
  refine mx_R fun hR => ?_
  refine mx_iload_n 3 d_M_comes_215 rfl rfl ?_
  refine mx_aload_n 0 d_M_comes_216 rfl rfl ?_
  refine mx_getPs 13 d_M_comes_217 f_M_38 rfl rfl (hM.o) (hM.p13) ?_
  refine mx_iload_n 2 d_M_comes_220 rfl rfl ?_
  refine mx_iald d_M_comes_221 (hM.s13) (by omega) (by omega) ?_
  rw [e13]
  refine mx_icmp_ge 275 d_M_comes_222 rfl (by first | assumption | exact hR _ _ | exact r32_mk (by omega) (by omega)) (by first | assumption | exact hR _ _ | exact r32_mk (by omega) (by omega)) (fun c_222 => ?_) (fun c_222 => ?_)
  · refine mx_vret d_M_comes_275 rfl ?_
    rw [show i = gI W 213 a by omega]; exact hP
  · refine mx_aload_n 0 d_M_comes_225 rfl rfl ?_
    refine mx_getPs 14 d_M_comes_226 f_M_41 rfl rfl (hM.o) (hM.p14) ?_
    refine mx_bipush d_M_comes_229 (by decide) ?_
    refine mx_iload_n 1 d_M_comes_231 rfl rfl ?_
    refine mx_imul d_M_comes_232 ?_
    refine mx_iload_n 3 d_M_comes_233 rfl rfl ?_
    refine mx_iadd d_M_comes_234 ?_
    refine mx_aload_n 0 d_M_comes_235 rfl rfl ?_
    refine mx_getPs 14 d_M_comes_236 f_M_41 rfl rfl (hM.o) (hM.p14) ?_
    refine mx_bipush d_M_comes_239 (by decide) ?_
    refine mx_iload_n 2 d_M_comes_241 rfl rfl ?_
    refine mx_imul d_M_comes_242 ?_
    refine mx_iload_n 3 d_M_comes_243 rfl rfl ?_
    refine mx_iadd d_M_comes_244 ?_
    refine mx_iald d_M_comes_245 (hM.s14) (by omega) (by omega) ?_
    rw [e14.resolve_right (by omega)]
    refine mx_iast d_M_comes_246 (hM.s14) (by omega) (by omega) (hRW _ _) ?_
    refine mx_R fun hR_1 => ?_
    refine mx_aload_n 0 d_M_comes_247 rfl rfl ?_
    refine mx_getPs 15 d_M_comes_248 f_M_44 rfl rfl (hM.o) (hM.p15) ?_
    refine mx_bipush d_M_comes_251 (by decide) ?_
    refine mx_iload_n 1 d_M_comes_253 rfl rfl ?_
    refine mx_imul d_M_comes_254 ?_
    refine mx_iload_n 3 d_M_comes_255 rfl rfl ?_
    refine mx_iadd d_M_comes_256 ?_
    refine mx_aload_n 0 d_M_comes_257 rfl rfl ?_
    refine mx_getPs 15 d_M_comes_258 f_M_44 rfl rfl (hM.o) (hM.p15) ?_
    refine mx_bipush d_M_comes_261 (by decide) ?_
    refine mx_iload_n 2 d_M_comes_263 rfl rfl ?_
    refine mx_imul d_M_comes_264 ?_
    refine mx_iload_n 3 d_M_comes_265 rfl rfl ?_
    refine mx_iadd d_M_comes_266 ?_
    refine mx_iald d_M_comes_267 (hM.s15) (by omega) (by omega) ?_
    rw [e15.resolve_right (by omega)]
    refine mx_iast d_M_comes_268 (hM.s15) (by omega) (by omega) (hRW _ _) ?_
    refine mx_R fun hR_2 => ?_
    rw [cp_m1 hi.1]
    refine mx_iinc 3 d_M_comes_269 rfl (Nat.le_of_ble_eq_true rfl) ?_
    refine mx_goto 215 d_M_comes_272 rfl ?_
    exact ih (i + 1) ⟨by omega, by omega⟩ (by omega)
theorem co_189 {W : mj_M} {d a : Int} {P : Option mj_V → mj_M → Prop} (hM : MS W) (hd : 0 ≤ d ∧ d < 16) (ha : 0 ≤ a ∧ a < d) (hn : 0 ≤ gI W 213 a ∧ gI W 213 a ≤ 6) (hz : gI W 216 a = 0 ∨ gI W 216 a = 1) (hP : P none (cp_m W d a (gI W 213 a))) {l3 l4 l5 l6 l7 l8 : Option mj_V} :
    mj_X G n_M_comes (mj_Qm G n_M_comes P mj_no) W 0 0 189 [some (mR (some 200)), some (mI d), some (mI a), l3, l4, l5, l6, l7, l8] [] := by
  refine mx_R fun hR => ?_
  refine mx_aload_n 0 d_M_comes_189 rfl rfl ?_
  refine mx_getPs 13 d_M_comes_190 f_M_38 rfl rfl (hM.o) (hM.p13) ?_
  refine mx_iload_n 1 d_M_comes_193 rfl rfl ?_
  refine mx_aload_n 0 d_M_comes_194 rfl rfl ?_
  refine mx_getPs 13 d_M_comes_195 f_M_38 rfl rfl (hM.o) (hM.p13) ?_
  refine mx_iload_n 2 d_M_comes_198 rfl rfl ?_
  refine mx_iald d_M_comes_199 (hM.s13) (by omega) (by omega) ?_
  refine mx_iast d_M_comes_200 (hM.s13) (by omega) (by omega) (by first | assumption | exact hR _ _ | exact r32_mk (by omega) (by omega)) ?_
  refine mx_R fun hR_1 => ?_
  refine mx_aload_n 0 d_M_comes_201 rfl rfl ?_
  refine mx_getPs 16 d_M_comes_202 f_M_47 rfl rfl (hM.o) (hM.p16) ?_
  refine mx_iload_n 1 d_M_comes_205 rfl rfl ?_
  refine mx_aload_n 0 d_M_comes_206 rfl rfl ?_
  refine mx_getPs 16 d_M_comes_207 f_M_47 rfl rfl (hM.o) (hM.p16) ?_
  refine mx_iload_n 2 d_M_comes_210 rfl rfl ?_
  refine mx_zald d_M_comes_211 (hM.s16) (by omega) (by omega) ?_
  rw [show gI (sI W 213 d (gI W 213 a)) 216 a = gI W 216 a from rfl]
  refine mx_zast d_M_comes_212 (hM.s16) (by omega) (by omega) (hz) ?_
  refine mx_R fun hR_2 => ?_
  rw [cp_m0]
  refine mx_iconst d_M_comes_213 ?_
  refine mx_istore_n 3 d_M_comes_214 rfl (Nat.le_of_ble_eq_true rfl) ?_
  exact co_cp hM hR hd ha hn hP 0 ⟨by omega, hn.1⟩
/-- what must be so of a drawing that comes of two others -/
def mo_bt (A : mj_M) (d : Int) : Prop := (0 ≤ gI A 204 d ∧ gI A 204 d < d) ∧ (0 ≤ gI A 205 d ∧ gI A 205 d < d) ∧ (0 ≤ gI A 206 d ∧ gI A 206 d ≤ gI A 207 d) ∧ (1 ≤ gI A 207 d ∧ gI A 207 d ≤ 24)
theorem mo_bt.a {A : mj_M} {d : Int} (h : mo_bt A d) : 0 ≤ gI A 204 d ∧ gI A 204 d < d := h.1
theorem mo_bt.b {A : mj_M} {d : Int} (h : mo_bt A d) : 0 ≤ gI A 205 d ∧ gI A 205 d < d := h.2.1
theorem mo_bt.p {A : mj_M} {d : Int} (h : mo_bt A d) : 0 ≤ gI A 206 d ∧ gI A 206 d ≤ gI A 207 d := h.2.2.1
theorem mo_bt.w {A : mj_M} {d : Int} (h : mo_bt A d) : 1 ≤ gI A 207 d ∧ gI A 207 d ≤ 24 := h.2.2.2
/-- ranges of paints -/
def mo_pt (A : mj_M) : Prop := (∀ d, 0 ≤ d → d < 16 → 0 ≤ gI A 213 d ∧ gI A 213 d ≤ 6) ∧ (∀ k, 0 ≤ gI A 214 k ∧ gI A 214 k < 192) ∧ (∀ k, 0 ≤ gI A 215 k ∧ gI A 215 k ≤ 7) ∧ (∀ k, gI A 216 k = 0 ∨ gI A 216 k = 1)
theorem mo_pt.n {A : mj_M} (h : mo_pt A) : ∀ d, 0 ≤ d → d < 16 → 0 ≤ gI A 213 d ∧ gI A 213 d ≤ 6 := h.1
theorem mo_pt.s {A : mj_M} (h : mo_pt A) : ∀ k, 0 ≤ gI A 214 k ∧ gI A 214 k < 192 := h.2.1
theorem mo_pt.f {A : mj_M} (h : mo_pt A) : ∀ k, 0 ≤ gI A 215 k ∧ gI A 215 k ≤ 7 := h.2.2.1
theorem mo_pt.c {A : mj_M} (h : mo_pt A) : ∀ k, gI A 216 k = 0 ∨ gI A 216 k = 1 := h.2.2.2
def co_e (A : mj_M) (d : Int) (f9 f10 f11 f12 : Int → Int) : mj_M := cp_m (co_w A f9 f10 f11 f12) d (gI A 204 d) (gI A 213 (gI A 204 d))
theorem co_s_0 {d a b : Int} : co_s A d a b 0 (fun q => if q = d then 0 else gI A 209 q) (gI A 210) (gI A 211) (gI A 212) :=
  ⟨fun q hq => if_neg hq, if_pos rfl, fun q hq => ⟨rfl, rfl⟩, fun q hq => rfl, fun s hs => by omega⟩
theorem co_r_0 (hst : mo_st2 A) : co_r (gI A 211) (gI A 212) := ⟨hst.c, fun k => ⟨hst.x k, hst.y k, hst.u k, hst.v k⟩⟩
theorem cm_comes {d : Int} (hM : MS A) (hst : mo_st2 A) (hpt : mo_pt A) (hd : 0 ≤ d ∧ d < 16) (hb : mo_bt A d) : mj_Cal G n_M_comes [mR (some 200), mI d] A (fun r A' => r = none ∧ ∃ f9 f10 f11 f12, A' = co_e A d f9 f10 f11 f12 ∧ co_s A d (gI A 204 d) (gI A 205 d) 8 f9 f10 f11 f12 ∧ co_r f11 f12) mj_no := by
  refine mj_bodyK 0 0 [some (mR (some 200)), some (mI d), none, none, none, none, none, none, none] rfl rfl rfl (by decide +kernel) (Nat.le_of_ble_eq_true rfl) (by simp) rfl ?_
  have ha := hb.a
  have hbb := hb.b
  refine mx_R fun hR => ?_
  refine mx_aload_n 0 d_M_comes_0 rfl rfl ?_
  refine mx_getPs 4 d_M_comes_1 f_M_7 rfl rfl (hM.o) (hM.p4) ?_
  refine mx_iload_n 1 d_M_comes_4 rfl rfl ?_
  refine mx_iald d_M_comes_5 (hM.s4) (by omega) (by omega) ?_
  refine mx_istore_n 2 d_M_comes_6 rfl (Nat.le_of_ble_eq_true rfl) ?_
  refine mx_aload_n 0 d_M_comes_7 rfl rfl ?_
  refine mx_getPs 9 d_M_comes_8 f_M_26 rfl rfl (hM.o) (hM.p9) ?_
  refine mx_iload_n 1 d_M_comes_11 rfl rfl ?_
  refine mx_iconst d_M_comes_12 ?_
  refine mx_iast d_M_comes_13 (hM.s9) (by omega) (by omega) (by first | assumption | exact hR _ _ | exact r32_mk (by omega) (by omega)) ?_
  refine mx_R fun hR_1 => ?_
  refine mx_iconst d_M_comes_14 ?_
  refine mx_istore_n 3 d_M_comes_15 rfl (Nat.le_of_ble_eq_true rfl) ?_
  have h9 := co_l (G := G) (P := fun r A' => r = none ∧ ∃ f9 f10 f11 f12, A' = co_e A d f9 f10 f11 f12 ∧ co_s A d (gI A 204 d) (gI A 205 d) 8 f9 f10 f11 f12 ∧ co_r f11 f12) hM hst hd hb.a hb.b rfl hb.p hb.w (fun f9 f10 f11 f12 l3 l4 l5 l6 l7 l8 hs hr => co_189 (W := co_w A f9 f10 f11 f12) hM hd hb.a (hpt.n _ ha.1 (by omega)) (hpt.c _) ⟨rfl, f9, f10, f11, f12, rfl, hs, hr⟩) (0, (fun q => if q = d then 0 else gI A 209 q), gI A 210, gI A 211, gI A 212, none, none, none, none, none) ⟨by show 0 ≤ 8; omega, co_s_0, co_r_0 hst⟩
  refine mj_Xeq ?_ h9
  show sI A 209 d 0 = co_w A _ _ _ _
  unfold co_w
  exact mj_ext3 (fun _ => rfl) (fun c_ x_ => by simp only [gI_sI, gI_sF]; grind) (fun _ _ => rfl)
end MODL
