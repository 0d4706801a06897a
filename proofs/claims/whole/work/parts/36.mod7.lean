/-! THE REFERENCE, 7: places of pegs -/
/-- the latest told place up to a frame, among n -/
def mo_ah (t : Int → Int) (p f : Int) : Nat → Int
  | 0 => -1
  | k + 1 => if t (6 * p + k) ≤ f ∧ (mo_ah t p f k = -1 ∨ t (6 * p + k) > t (mo_ah t p f k)) then 6 * p + k else mo_ah t p f k
def mo_be (t : Int → Int) (p f : Int) : Nat → Int
  | 0 => -1
  | k + 1 => if t (6 * p + k) ≥ f ∧ (mo_be t p f k = -1 ∨ t (6 * p + k) < t (mo_be t p f k)) then 6 * p + k else mo_be t p f k
theorem mo_ah_r {t : Int → Int} {p f : Int} (hp : 0 ≤ p) : ∀ k : Nat, mo_ah t p f k = -1 ∨ (6 * p ≤ mo_ah t p f k ∧ mo_ah t p f k < 6 * p + k)
  | 0 => Or.inl rfl
  | k + 1 => by
    have h := mo_ah_r (t := t) (f := f) hp k
    rw [mo_ah]
    split
    · right; omega
    · omega
theorem mo_be_r {t : Int → Int} {p f : Int} (hp : 0 ≤ p) : ∀ k : Nat, mo_be t p f k = -1 ∨ (6 * p ≤ mo_be t p f k ∧ mo_be t p f k < 6 * p + k)
  | 0 => Or.inl rfl
  | k + 1 => by
    have h := mo_be_r (t := t) (f := f) hp k
    rw [mo_be]
    split
    · right; omega
    · omega
/-- a place between two that were told -/
def mo_ov (t x : Int → Int) (f a b : Int) : Int :=
  if a = -1 ∧ b = -1 then 0 else
    if t (if b = -1 then a else b) - t (if a = -1 then b else a) = 0 then x (if a = -1 then b else a)
    else x (if a = -1 then b else a) + ((f - t (if a = -1 then b else a)) * (x (if b = -1 then a else b) - x (if a = -1 then b else a))).tdiv (t (if b = -1 then a else b) - t (if a = -1 then b else a))
def mo_ow (n : Int) (t x : Int → Int) (p f : Int) : Int := mo_ov t x f (mo_ah t p f n.toNat) (mo_be t p f n.toNat)
/-- the rows of pegs are in their ranges -/
def mo_pg (A : mj_M) : Prop := (0 ≤ gI A 200 32 ∧ gI A 200 32 ≤ 6) ∧ (∀ p, 0 ≤ p → p < gI A 200 32 → -1 ≤ gI A 233 p ∧ gI A 233 p < p) ∧ (∀ p, 0 ≤ p → p < gI A 200 32 → 0 ≤ gI A 234 p ∧ gI A 234 p ≤ 6) ∧ (∀ k, 0 ≤ gI A 235 k ∧ gI A 235 k ≤ 23) ∧ (∀ k, -20 ≤ gI A 236 k ∧ gI A 236 k ≤ 20) ∧ (∀ k, -20 ≤ gI A 237 k ∧ gI A 237 k ≤ 20)
theorem mo_pg.np {A : mj_M} (h : mo_pg A) : 0 ≤ gI A 200 32 ∧ gI A 200 32 ≤ 6 := h.1
theorem mo_pg.ca {A : mj_M} (h : mo_pg A) : ∀ p, 0 ≤ p → p < gI A 200 32 → -1 ≤ gI A 233 p ∧ gI A 233 p < p := h.2.1
theorem mo_pg.tn {A : mj_M} (h : mo_pg A) : ∀ p, 0 ≤ p → p < gI A 200 32 → 0 ≤ gI A 234 p ∧ gI A 234 p ≤ 6 := h.2.2.1
theorem mo_pg.ta {A : mj_M} (h : mo_pg A) : ∀ k, 0 ≤ gI A 235 k ∧ gI A 235 k ≤ 23 := h.2.2.2.1
theorem mo_pg.tx {A : mj_M} (h : mo_pg A) : ∀ k, -20 ≤ gI A 236 k ∧ gI A 236 k ≤ 20 := h.2.2.2.2.1
theorem mo_pg.ty {A : mj_M} (h : mo_pg A) : ∀ k, -20 ≤ gI A 237 k ∧ gI A 237 k ≤ 20 := h.2.2.2.2.2
theorem mo_mul {a b m n : Int} (h1 : -m ≤ a ∧ a ≤ m) (h2 : -n ≤ b ∧ b ≤ n) : -(m * n) ≤ a * b ∧ a * b ≤ m * n := by
  have e1 := Int.mul_nonneg (show 0 ≤ m - a by omega) (show 0 ≤ n - b by omega)
  have e2 := Int.mul_nonneg (show 0 ≤ m + a by omega) (show 0 ≤ n + b by omega)
  have e3 := Int.mul_nonneg (show 0 ≤ m - a by omega) (show 0 ≤ n + b by omega)
  have e4 := Int.mul_nonneg (show 0 ≤ m + a by omega) (show 0 ≤ n - b by omega)
  simp only [Int.sub_mul, Int.add_mul, Int.mul_sub, Int.mul_add] at e1 e2 e3 e4
  omega
theorem mo_tdiv {a b m : Int} (h : -m ≤ a ∧ a ≤ m) : -m ≤ a.tdiv b ∧ a.tdiv b ≤ m := by
  have h1 : (a.tdiv b).natAbs ≤ a.natAbs := by rw [Int.natAbs_tdiv]; exact Nat.div_le_self _ _
  omega
theorem mo_mulr {a b : Int} (h1 : -50 ≤ a ∧ a ≤ 50) (h2 : -50 ≤ b ∧ b ≤ 50) : -2500 ≤ a * b ∧ a * b ≤ 2500 := by
  have := mo_mul h1 h2
  omega
theorem mo_ov_b {t x : Int → Int} {f a b : Int} (hf : 0 ≤ f ∧ f < 24) (ht : ∀ k, 0 ≤ t k ∧ t k ≤ 23) (hx : ∀ k, -20 ≤ x k ∧ x k ≤ 20) : -2520 ≤ mo_ov t x f a b ∧ mo_ov t x f a b ≤ 2520 := by
  unfold mo_ov
  generalize (if a = -1 then b else a) = o1
  generalize (if b = -1 then a else b) = o2
  have h1 := ht o1
  have h2 := ht o2
  have h3 := hx o1
  have h4 := hx o2
  have h5 := mo_tdiv (b := t o2 - t o1) (mo_mulr (a := f - t o1) (b := x o2 - x o1) (by omega) (by omega))
  split
  · omega
  · split <;> omega
/-- the sum along the carriers -/
def mo_pl (ca ow : Int → Int) : Nat → Int → Int
  | 0, _ => 0
  | n + 1, p => if p = -1 then 0 else ow p + mo_pl ca ow n (ca p)
theorem mo_pl_b {ca ow : Int → Int} (h : ∀ p, -2520 ≤ ow p ∧ ow p ≤ 2520) : ∀ (n : Nat) (p : Int), -(2520 * (n : Int)) ≤ mo_pl ca ow n p ∧ mo_pl ca ow n p ≤ 2520 * (n : Int)
  | 0, _ => by rw [mo_pl]; omega
  | n + 1, p => by
    have h1 := mo_pl_b (ca := ca) h n (ca p)
    have h2 := h p
    rw [mo_pl]
    split <;> omega
abbrev mo_xr (z : Int) : Int := if z = 0 then 237 else 236
/-- the place of a peg at a frame -/
def mo_po (A : mj_M) (p f z : Int) : Int := if p = -1 then 0 else mo_pl (gI A 233) (fun q => mo_ow (gI A 234 q) (gI A 235) (gI A (mo_xr z)) q f) 6 p
theorem mo_po_b {A : mj_M} (hg : mo_pg A) {p f z : Int} (hf : 0 ≤ f ∧ f < 24) : -15120 ≤ mo_po A p f z ∧ mo_po A p f z ≤ 15120 := by
  unfold mo_po
  have h := mo_pl_b (ca := gI A 233) (ow := fun q => mo_ow (gI A 234 q) (gI A 235) (gI A (mo_xr z)) q f) (fun q => by
    show _ ≤ mo_ov _ _ _ _ _ ∧ mo_ov _ _ _ _ _ ≤ _
    refine mo_ov_b hf hg.ta ?_
    intro k
    unfold mo_xr
    split
    · exact hg.ty k
    · exact hg.tx k) 6 p
  split <;> omega
/-- how far a level is moved -/
def mo_mv (A : mj_M) (s l f z : Int) : Int := mo_po A (gI A 229 (5 * s + l)) f z - (mo_po A (gI A 229 (5 * s + 4)) f z).tdiv (gI A 230 (5 * s + l))
/-- the rows of what hangs are in their ranges -/
def mo_hg (A : mj_M) : Prop := (∀ k, 0 ≤ k → k < 5 * gI A 200 23 → -1 ≤ gI A 229 k ∧ gI A 229 k < gI A 200 32) ∧ (∀ s l, 0 ≤ s → s < gI A 200 23 → 0 ≤ l → l ≤ 3 → 1 ≤ gI A 230 (5 * s + l) ∧ gI A 230 (5 * s + l) ≤ 4)
theorem mo_hg.hu {A : mj_M} (h : mo_hg A) : ∀ k, 0 ≤ k → k < 5 * gI A 200 23 → -1 ≤ gI A 229 k ∧ gI A 229 k < gI A 200 32 := h.1
theorem mo_hg.de {A : mj_M} (h : mo_hg A) : ∀ s l, 0 ≤ s → s < gI A 200 23 → 0 ≤ l → l ≤ 3 → 1 ≤ gI A 230 (5 * s + l) ∧ gI A 230 (5 * s + l) ≤ 4 := h.2
section MOD7
variable {G : mj_G} {A : mj_M}
theorem cm_own_u {p f z o1 o2 : Int} (hM : MS A) (hg : mo_pg A) (hf : 0 ≤ f ∧ f < 24) (hz : z = 0 ∨ z = 1) (h1 : 0 ≤ o1 ∧ o1 < 36) (h2 : 0 ≤ o2 ∧ o2 < 36) {l4 l5 : Option mj_V} {P : Option mj_V → mj_M → Prop}
    (hP : P (some (mI (if gI A 235 o2 - gI A 235 o1 = 0 then gI A (mo_xr z) o1 else gI A (mo_xr z) o1 + ((f - gI A 235 o1) * (gI A (mo_xr z) o2 - gI A (mo_xr z) o1)).tdiv (gI A 235 o2 - gI A 235 o1)))) A) :
    mj_X G n_M_ownOf (mj_Qm G n_M_ownOf P mj_no) A 0 0 164 [some (mR (some 200)), some (mI p), some (mI f), some (mI z), l4, l5, some (mI o1), some (mI o2), none, none, none] [] := by
  have t1 := hg.ta o1
  have t2 := hg.ta o2
  have hx : ∀ k, -20 ≤ gI A (mo_xr z) k ∧ gI A (mo_xr z) k ≤ 20 := by
    intro k
    unfold mo_xr
    split
    · exact hg.ty k
    · exact hg.tx k
  have x1 := hx o1
  have x2 := hx o2
  have hm := mo_mulr (a := f - gI A 235 o1) (b := gI A (mo_xr z) o2 - gI A (mo_xr z) o1) (by omega) (by omega)
  have hr : r32 ((f - gI A 235 o1) * (gI A (mo_xr z) o2 - gI A (mo_xr z) o1)) := r32_mk (by omega) (by omega)
  refine mx_R fun hR => ?_
  refine mj_cutI ( gI A (mo_xr z) o1) 185 ?_ (fun hJ_164 => ?_)
  · refine mx_istore 8 d_M_ownOf_185 (Nat.le_of_ble_eq_true rfl) ?_
    refine mj_cutI ( gI A (mo_xr z) o2) 208 ?_ (fun hJ_187 => ?_)
    · refine mx_iload 8 d_M_ownOf_208 rfl ?_
      refine mx_isub d_M_ownOf_210 ?_
      refine mx_istore 9 d_M_ownOf_211 (Nat.le_of_ble_eq_true rfl) ?_
      refine mx_aload_n 0 d_M_ownOf_213 rfl rfl ?_
      refine mx_getPs 35 d_M_ownOf_214 f_M_95 rfl rfl (hM.o) (hM.p35) ?_
      refine mx_iload 7 d_M_ownOf_217 rfl ?_
      refine mx_iald d_M_ownOf_219 (hM.s35) (by omega) (by omega) ?_
      refine mx_aload_n 0 d_M_ownOf_220 rfl rfl ?_
      refine mx_getPs 35 d_M_ownOf_221 f_M_95 rfl rfl (hM.o) (hM.p35) ?_
      refine mx_iload 6 d_M_ownOf_224 rfl ?_
      refine mx_iald d_M_ownOf_226 (hM.s35) (by omega) (by omega) ?_
      refine mx_isub d_M_ownOf_227 ?_
      refine mx_istore 10 d_M_ownOf_228 (Nat.le_of_ble_eq_true rfl) ?_
      refine mx_iload 10 d_M_ownOf_230 rfl ?_
      refine mx_if_ne 240 d_M_ownOf_232 rfl (by first | assumption | exact hR _ _ | exact r32_mk (by omega) (by omega)) (fun c_232 => ?_) (fun c_232 => ?_)
      · refine mx_iload 8 d_M_ownOf_240 rfl ?_
        refine mx_iload_n 2 d_M_ownOf_242 rfl rfl ?_
        refine mx_aload_n 0 d_M_ownOf_243 rfl rfl ?_
        refine mx_getPs 35 d_M_ownOf_244 f_M_95 rfl rfl (hM.o) (hM.p35) ?_
        refine mx_iload 6 d_M_ownOf_247 rfl ?_
        refine mx_iald d_M_ownOf_249 (hM.s35) (by omega) (by omega) ?_
        refine mx_isub d_M_ownOf_250 ?_
        refine mx_iload 9 d_M_ownOf_251 rfl ?_
        refine mx_imul d_M_ownOf_253 ?_
        refine mx_iload 10 d_M_ownOf_254 rfl ?_
        refine mx_idiv d_M_ownOf_256 (by first | assumption | exact hR _ _ | exact r32_mk (by omega) (by omega)) (by first | assumption | exact hR _ _ | exact r32_mk (by omega) (by omega)) (by assumption) ?_
        refine mx_iadd d_M_ownOf_257 ?_
        refine mx_iret d_M_ownOf_258 rfl ?_
        first | (rw [if_pos (by assumption)] at hP; exact hP) | (rw [if_neg (by assumption)] at hP; exact hP)
      · refine mx_iload 8 d_M_ownOf_235 rfl ?_
        refine mx_goto 258 d_M_ownOf_237 rfl ?_
        refine mx_iret d_M_ownOf_258 rfl ?_
        first | (rw [if_pos (by assumption)] at hP; exact hP) | (rw [if_neg (by assumption)] at hP; exact hP)
    · refine mx_iload_n 3 d_M_ownOf_187 rfl rfl ?_
      refine mx_if_eq 201 d_M_ownOf_188 rfl (by first | assumption | exact hR _ _ | exact r32_mk (by omega) (by omega)) (fun c_188 => ?_) (fun c_188 => ?_)
      · refine mx_aload_n 0 d_M_ownOf_201 rfl rfl ?_
        refine mx_getPs 37 d_M_ownOf_202 f_M_101 rfl rfl (hM.o) (hM.p37) ?_
        refine mx_iload 7 d_M_ownOf_205 rfl ?_
        refine mx_iald d_M_ownOf_207 (hM.s37) (by omega) (by omega) ?_
        exact mj_ji hJ_187 (by first | rw [show mo_xr z = 236 from if_neg (by omega)] | rw [show mo_xr z = 237 from if_pos (by omega)])
      · refine mx_aload_n 0 d_M_ownOf_191 rfl rfl ?_
        refine mx_getPs 36 d_M_ownOf_192 f_M_98 rfl rfl (hM.o) (hM.p36) ?_
        refine mx_iload 7 d_M_ownOf_195 rfl ?_
        refine mx_iald d_M_ownOf_197 (hM.s36) (by omega) (by omega) ?_
        refine mx_goto 208 d_M_ownOf_198 rfl ?_
        exact mj_ji hJ_187 (by first | rw [show mo_xr z = 236 from if_neg (by omega)] | rw [show mo_xr z = 237 from if_pos (by omega)])
  · refine mx_iload_n 3 d_M_ownOf_164 rfl rfl ?_
    refine mx_if_eq 178 d_M_ownOf_165 rfl (by first | assumption | exact hR _ _ | exact r32_mk (by omega) (by omega)) (fun c_165 => ?_) (fun c_165 => ?_)
    · refine mx_aload_n 0 d_M_ownOf_178 rfl rfl ?_
      refine mx_getPs 37 d_M_ownOf_179 f_M_101 rfl rfl (hM.o) (hM.p37) ?_
      refine mx_iload 6 d_M_ownOf_182 rfl ?_
      refine mx_iald d_M_ownOf_184 (hM.s37) (by omega) (by omega) ?_
      exact mj_ji hJ_164 (by first | rw [show mo_xr z = 236 from if_neg (by omega)] | rw [show mo_xr z = 237 from if_pos (by omega)])
    · refine mx_aload_n 0 d_M_ownOf_168 rfl rfl ?_
      refine mx_getPs 36 d_M_ownOf_169 f_M_98 rfl rfl (hM.o) (hM.p36) ?_
      refine mx_iload 6 d_M_ownOf_172 rfl ?_
      refine mx_iald d_M_ownOf_174 (hM.s36) (by omega) (by omega) ?_
      refine mx_goto 185 d_M_ownOf_175 rfl ?_
      exact mj_ji hJ_164 (by first | rw [show mo_xr z = 236 from if_neg (by omega)] | rw [show mo_xr z = 237 from if_pos (by omega)])
theorem cm_own_t {p f z a b : Int} (hM : MS A) (hg : mo_pg A) (hf : 0 ≤ f ∧ f < 24) (hz : z = 0 ∨ z = 1) (ha : a = -1 ∨ (0 ≤ a ∧ a < 36)) (hb : b = -1 ∨ (0 ≤ b ∧ b < 36)) {l6 : Option mj_V} {P : Option mj_V → mj_M → Prop}
    (hP : P (some (mI (mo_ov (gI A 235) (gI A (mo_xr z)) f a b))) A) :
    mj_X G n_M_ownOf (mj_Qm G n_M_ownOf P mj_no) A 0 0 120 [some (mR (some 200)), some (mI p), some (mI f), some (mI z), some (mI a), some (mI b), l6, none, none, none, none] [] := by
  unfold mo_ov at hP
  refine mx_R fun hR => ?_
  refine mx_iload 4 d_M_ownOf_120 rfl ?_
  refine mx_iconst d_M_ownOf_122 ?_
  refine mx_icmp_ne 134 d_M_ownOf_123 rfl (by first | assumption | exact hR _ _ | exact r32_mk (by omega) (by omega)) (by first | assumption | exact hR _ _ | exact r32_mk (by omega) (by omega)) (fun c_123 => ?_) (fun c_123 => ?_)
  · refine mj_cutI ( (if a = -1 then b else a)) 147 ?_ (fun hJ_134 => ?_)
    · refine mx_istore 6 d_M_ownOf_147 (Nat.le_of_ble_eq_true rfl) ?_
      refine mj_cutI ( (if b = -1 then a else b)) 162 ?_ (fun hJ_149 => ?_)
      · refine mx_istore 7 d_M_ownOf_162 (Nat.le_of_ble_eq_true rfl) ?_
        rw [if_neg (by omega)] at hP
        exact cm_own_u hM hg hf hz (by split <;> omega) (by split <;> omega) hP
      · refine mx_iload 5 d_M_ownOf_149 rfl ?_
        refine mx_iconst d_M_ownOf_151 ?_
        refine mx_icmp_ne 160 d_M_ownOf_152 rfl (by first | assumption | exact hR _ _ | exact r32_mk (by omega) (by omega)) (by first | assumption | exact hR _ _ | exact r32_mk (by omega) (by omega)) (fun c_152 => ?_) (fun c_152 => ?_)
        · refine mx_iload 5 d_M_ownOf_160 rfl ?_
          exact mj_ji hJ_149 (by omega)
        · refine mx_iload 4 d_M_ownOf_155 rfl ?_
          refine mx_goto 162 d_M_ownOf_157 rfl ?_
          exact mj_ji hJ_149 (by omega)
    · refine mx_iload 4 d_M_ownOf_134 rfl ?_
      refine mx_iconst d_M_ownOf_136 ?_
      refine mx_icmp_ne 145 d_M_ownOf_137 rfl (by first | assumption | exact hR _ _ | exact r32_mk (by omega) (by omega)) (by first | assumption | exact hR _ _ | exact r32_mk (by omega) (by omega)) (fun c_137 => ?_) (fun c_137 => ?_)
      · refine mx_iload 4 d_M_ownOf_145 rfl ?_
        exact mj_ji hJ_134 (by omega)
      · refine mx_iload 5 d_M_ownOf_140 rfl ?_
        refine mx_goto 147 d_M_ownOf_142 rfl ?_
        exact mj_ji hJ_134 (by omega)
  · refine mx_iload 5 d_M_ownOf_126 rfl ?_
    refine mx_iconst d_M_ownOf_128 ?_
    refine mx_icmp_ne 134 d_M_ownOf_129 rfl (by first | assumption | exact hR _ _ | exact r32_mk (by omega) (by omega)) (by first | assumption | exact hR _ _ | exact r32_mk (by omega) (by omega)) (fun c_129 => ?_) (fun c_129 => ?_)
    · refine mj_cutI ( (if a = -1 then b else a)) 147 ?_ (fun hJ_134 => ?_)
      · refine mx_istore 6 d_M_ownOf_147 (Nat.le_of_ble_eq_true rfl) ?_
        refine mj_cutI ( (if b = -1 then a else b)) 162 ?_ (fun hJ_149 => ?_)
        · refine mx_istore 7 d_M_ownOf_162 (Nat.le_of_ble_eq_true rfl) ?_
          rw [if_neg (by omega)] at hP
          exact cm_own_u hM hg hf hz (by split <;> omega) (by split <;> omega) hP
        · refine mx_iload 5 d_M_ownOf_149 rfl ?_
          refine mx_iconst d_M_ownOf_151 ?_
          refine mx_icmp_ne 160 d_M_ownOf_152 rfl (by first | assumption | exact hR _ _ | exact r32_mk (by omega) (by omega)) (by first | assumption | exact hR _ _ | exact r32_mk (by omega) (by omega)) (fun c_152 => ?_) (fun c_152 => ?_)
          · refine mx_iload 5 d_M_ownOf_160 rfl ?_
            exact mj_ji hJ_149 (by omega)
          · refine mx_iload 4 d_M_ownOf_155 rfl ?_
            refine mx_goto 162 d_M_ownOf_157 rfl ?_
            exact mj_ji hJ_149 (by omega)
      · refine mx_iload 4 d_M_ownOf_134 rfl ?_
        refine mx_iconst d_M_ownOf_136 ?_
        refine mx_icmp_ne 145 d_M_ownOf_137 rfl (by first | assumption | exact hR _ _ | exact r32_mk (by omega) (by omega)) (by first | assumption | exact hR _ _ | exact r32_mk (by omega) (by omega)) (fun c_137 => ?_) (fun c_137 => ?_)
        · refine mx_iload 4 d_M_ownOf_145 rfl ?_
          exact mj_ji hJ_134 (by omega)
        · refine mx_iload 5 d_M_ownOf_140 rfl ?_
          refine mx_goto 147 d_M_ownOf_142 rfl ?_
          exact mj_ji hJ_134 (by omega)
    · refine mx_iconst d_M_ownOf_132 ?_
      refine mx_iret d_M_ownOf_133 rfl ?_
      rw [if_pos ⟨by assumption, by assumption⟩] at hP
      exact hP
theorem cm_ownOf {p f z : Int} (hM : MS A) (hg : mo_pg A) (hp : 0 ≤ p ∧ p < gI A 200 32) (hf : 0 ≤ f ∧ f < 24) (hz : z = 0 ∨ z = 1) : mj_Cal G n_M_ownOf [mR (some 200), mI p, mI f, mI z] A (fun r A' => r = some (mI (mo_ow (gI A 234 p) (gI A 235) (gI A (mo_xr z)) p f)) ∧ A' = A) mj_no := by
  refine mj_bodyK 0 0 [some (mR (some 200)), some (mI p), some (mI f), some (mI z), none, none, none, none, none, none, none] rfl rfl rfl (by decide +kernel) (Nat.le_of_ble_eq_true rfl) (by simp) rfl ?_
  have hn := hg.np
  have htn := hg.tn p hp.1 hp.2
  have hl : ∀ q : Nat, ((q : Int) ≤ gI A 234 p) → mj_X G n_M_ownOf (mj_Qm G n_M_ownOf (fun r A' => r = some (mI (mo_ow (gI A 234 p) (gI A 235) (gI A (mo_xr z)) p f)) ∧ A' = A) mj_no) A 0 0 12 [some (mR (some 200)), some (mI p), some (mI f), some (mI z), some (mI (mo_ah (gI A 235) p f q)), some (mI (mo_be (gI A 235) p f q)), some (mI (6 * p + q)), none, none, none, none] [] := by
    refine mj_loop _ (fun q => 7 - q) _ ?_
    intro q hq ih
    have ha := mo_ah_r (t := gI A 235) (f := f) hp.1 q
    have hb := mo_be_r (t := gI A 235) (f := f) hp.1 q
    refine mx_R fun hR => ?_
    refine mx_iload 6 d_M_ownOf_12 rfl ?_
    refine mx_bipush d_M_ownOf_14 (by decide) ?_
    refine mx_iload_n 1 d_M_ownOf_16 rfl rfl ?_
    refine mx_imul d_M_ownOf_17 ?_
    refine mx_aload_n 0 d_M_ownOf_18 rfl rfl ?_
    refine mx_getPs 34 d_M_ownOf_19 f_M_92 rfl rfl (hM.o) (hM.p34) ?_
    refine mx_iload_n 1 d_M_ownOf_22 rfl rfl ?_
    refine mx_iald d_M_ownOf_23 (hM.s34) (by omega) (by omega) ?_
    refine mx_iadd d_M_ownOf_24 ?_
    refine mx_icmp_ge 120 d_M_ownOf_25 rfl (by first | assumption | exact hR _ _ | exact r32_mk (by omega) (by omega)) (by first | assumption | exact hR _ _ | exact r32_mk (by omega) (by omega)) (fun c_25 => ?_) (fun c_25 => ?_)
    · have e : q = (gI A 234 p).toNat := by omega
      refine cm_own_t hM hg hf hz (by omega) (by omega) ⟨?_, rfl⟩
      unfold mo_ow
      rw [← e]
    · refine mj_cutI ( mo_ah (gI A 235) p f (q + 1)) 69 ?_ (fun hJ_28 => ?_)
      · refine mx_istore 4 d_M_ownOf_69 (Nat.le_of_ble_eq_true rfl) ?_
        refine mj_cutI ( mo_be (gI A 235) p f (q + 1)) 112 ?_ (fun hJ_71 => ?_)
        · refine mx_istore 5 d_M_ownOf_112 (Nat.le_of_ble_eq_true rfl) ?_
          refine mx_iinc 6 d_M_ownOf_114 rfl (Nat.le_of_ble_eq_true rfl) ?_
          refine mx_goto 12 d_M_ownOf_117 rfl ?_
          have h9 := ih (q + 1) (by omega) (by omega)
          rw [show ((q + 1 : Nat) : Int) = (q : Int) + 1 by omega, show 6 * p + ((q : Int) + 1) = 6 * p + q + 1 by omega] at h9
          exact h9
        · refine mx_aload_n 0 d_M_ownOf_71 rfl rfl ?_
          refine mx_getPs 35 d_M_ownOf_72 f_M_95 rfl rfl (hM.o) (hM.p35) ?_
          refine mx_iload 6 d_M_ownOf_75 rfl ?_
          refine mx_iald d_M_ownOf_77 (hM.s35) (by omega) (by omega) ?_
          refine mx_iload_n 2 d_M_ownOf_78 rfl rfl ?_
          refine mx_icmp_lt 110 d_M_ownOf_79 rfl (by first | assumption | exact hR _ _ | exact r32_mk (by omega) (by omega)) (by first | assumption | exact hR _ _ | exact r32_mk (by omega) (by omega)) (fun c_79 => ?_) (fun c_79 => ?_)
          · refine mx_iload 5 d_M_ownOf_110 rfl ?_
            exact mj_ji hJ_71 (by (rw [mo_be]; first | rw [if_pos (by omega)] | rw [if_neg (by omega)]))
          · refine mx_iload 5 d_M_ownOf_82 rfl ?_
            refine mx_iconst d_M_ownOf_84 ?_
            refine mx_icmp_eq 105 d_M_ownOf_85 rfl (by first | assumption | exact hR _ _ | exact r32_mk (by omega) (by omega)) (by first | assumption | exact hR _ _ | exact r32_mk (by omega) (by omega)) (fun c_85 => ?_) (fun c_85 => ?_)
            · refine mx_iload 6 d_M_ownOf_105 rfl ?_
              refine mx_goto 112 d_M_ownOf_107 rfl ?_
              exact mj_ji hJ_71 (by (rw [mo_be]; first | rw [if_pos (by omega)] | rw [if_neg (by omega)]))
            · refine mx_aload_n 0 d_M_ownOf_88 rfl rfl ?_
              refine mx_getPs 35 d_M_ownOf_89 f_M_95 rfl rfl (hM.o) (hM.p35) ?_
              refine mx_iload 6 d_M_ownOf_92 rfl ?_
              refine mx_iald d_M_ownOf_94 (hM.s35) (by omega) (by omega) ?_
              refine mx_aload_n 0 d_M_ownOf_95 rfl rfl ?_
              refine mx_getPs 35 d_M_ownOf_96 f_M_95 rfl rfl (hM.o) (hM.p35) ?_
              refine mx_iload 5 d_M_ownOf_99 rfl ?_
              refine mx_iald d_M_ownOf_101 (hM.s35) (by omega) (by omega) ?_
              refine mx_icmp_ge 110 d_M_ownOf_102 rfl (by first | assumption | exact hR _ _ | exact r32_mk (by omega) (by omega)) (by first | assumption | exact hR _ _ | exact r32_mk (by omega) (by omega)) (fun c_102 => ?_) (fun c_102 => ?_)
              · refine mx_iload 5 d_M_ownOf_110 rfl ?_
                exact mj_ji hJ_71 (by (rw [mo_be]; first | rw [if_pos (by omega)] | rw [if_neg (by omega)]))
              · refine mx_iload 6 d_M_ownOf_105 rfl ?_
                refine mx_goto 112 d_M_ownOf_107 rfl ?_
                exact mj_ji hJ_71 (by (rw [mo_be]; first | rw [if_pos (by omega)] | rw [if_neg (by omega)]))
      · refine mx_aload_n 0 d_M_ownOf_28 rfl rfl ?_
        refine mx_getPs 35 d_M_ownOf_29 f_M_95 rfl rfl (hM.o) (hM.p35) ?_
        refine mx_iload 6 d_M_ownOf_32 rfl ?_
        refine mx_iald d_M_ownOf_34 (hM.s35) (by omega) (by omega) ?_
        refine mx_iload_n 2 d_M_ownOf_35 rfl rfl ?_
        refine mx_icmp_gt 67 d_M_ownOf_36 rfl (by first | assumption | exact hR _ _ | exact r32_mk (by omega) (by omega)) (by first | assumption | exact hR _ _ | exact r32_mk (by omega) (by omega)) (fun c_36 => ?_) (fun c_36 => ?_)
        · refine mx_iload 4 d_M_ownOf_67 rfl ?_
          exact mj_ji hJ_28 (by (rw [mo_ah]; first | rw [if_pos (by omega)] | rw [if_neg (by omega)]))
        · refine mx_iload 4 d_M_ownOf_39 rfl ?_
          refine mx_iconst d_M_ownOf_41 ?_
          refine mx_icmp_eq 62 d_M_ownOf_42 rfl (by first | assumption | exact hR _ _ | exact r32_mk (by omega) (by omega)) (by first | assumption | exact hR _ _ | exact r32_mk (by omega) (by omega)) (fun c_42 => ?_) (fun c_42 => ?_)
          · refine mx_iload 6 d_M_ownOf_62 rfl ?_
            refine mx_goto 69 d_M_ownOf_64 rfl ?_
            exact mj_ji hJ_28 (by (rw [mo_ah]; first | rw [if_pos (by omega)] | rw [if_neg (by omega)]))
          · refine mx_aload_n 0 d_M_ownOf_45 rfl rfl ?_
            refine mx_getPs 35 d_M_ownOf_46 f_M_95 rfl rfl (hM.o) (hM.p35) ?_
            refine mx_iload 6 d_M_ownOf_49 rfl ?_
            refine mx_iald d_M_ownOf_51 (hM.s35) (by omega) (by omega) ?_
            refine mx_aload_n 0 d_M_ownOf_52 rfl rfl ?_
            refine mx_getPs 35 d_M_ownOf_53 f_M_95 rfl rfl (hM.o) (hM.p35) ?_
            refine mx_iload 4 d_M_ownOf_56 rfl ?_
            refine mx_iald d_M_ownOf_58 (hM.s35) (by omega) (by omega) ?_
            refine mx_icmp_le 67 d_M_ownOf_59 rfl (by first | assumption | exact hR _ _ | exact r32_mk (by omega) (by omega)) (by first | assumption | exact hR _ _ | exact r32_mk (by omega) (by omega)) (fun c_59 => ?_) (fun c_59 => ?_)
            · refine mx_iload 4 d_M_ownOf_67 rfl ?_
              exact mj_ji hJ_28 (by (rw [mo_ah]; first | rw [if_pos (by omega)] | rw [if_neg (by omega)]))
            · refine mx_iload 6 d_M_ownOf_62 rfl ?_
              refine mx_goto 69 d_M_ownOf_64 rfl ?_
              exact mj_ji hJ_28 (by (rw [mo_ah]; first | rw [if_pos (by omega)] | rw [if_neg (by omega)]))
  refine mx_R fun hR => ?_
  refine mx_iconst d_M_ownOf_0 ?_
  refine mx_istore 4 d_M_ownOf_1 (Nat.le_of_ble_eq_true rfl) ?_
  refine mx_iconst d_M_ownOf_3 ?_
  refine mx_istore 5 d_M_ownOf_4 (Nat.le_of_ble_eq_true rfl) ?_
  refine mx_bipush d_M_ownOf_6 (by decide) ?_
  refine mx_iload_n 1 d_M_ownOf_8 rfl rfl ?_
  refine mx_imul d_M_ownOf_9 ?_
  refine mx_istore 6 d_M_ownOf_10 (Nat.le_of_ble_eq_true rfl) ?_
  have h9 := hl 0 (by omega)
  rw [show 6 * p + ((0 : Nat) : Int) = 6 * p by omega] at h9
  exact h9
theorem cm_placeOf {p f z : Int} (hM : MS A) (hg : mo_pg A) (hp : 0 ≤ p ∧ p < gI A 200 32) (hf : 0 ≤ f ∧ f < 24) (hz : z = 0 ∨ z = 1) : mj_Cal G n_M_placeOf [mR (some 200), mI p, mI f, mI z] A (fun r A' => r = some (mI (mo_po A p f z)) ∧ A' = A) mj_no := by
  refine mj_bodyK 0 0 [some (mR (some 200)), some (mI p), some (mI f), some (mI z), none, none] rfl rfl rfl (by decide +kernel) (Nat.le_of_ble_eq_true rfl) (by simp) rfl ?_
  have hn := hg.np
  have hv : mo_po A p f z = mo_pl (gI A 233) (fun q => mo_ow (gI A 234 q) (gI A 235) (gI A (mo_xr z)) q f) 6 p := by
    unfold mo_po
    rw [if_neg (by omega)]
  have hl : ∀ q : Nat × Int × Int, (-1 ≤ q.2.1 ∧ q.2.1 < gI A 200 32 ∧ q.2.1 < (q.1 : Int) ∧ q.2.2 + mo_pl (gI A 233) (fun q => mo_ow (gI A 234 q) (gI A 235) (gI A (mo_xr z)) q f) q.1 q.2.1 = mo_po A p f z) → mj_X G n_M_placeOf (mj_Qm G n_M_placeOf (fun r A' => r = some (mI (mo_po A p f z)) ∧ A' = A) mj_no) A 0 0 6 [some (mR (some 200)), some (mI p), some (mI f), some (mI z), some (mI q.2.2), some (mI q.2.1)] [] := by
    refine mj_loop _ (fun q => q.1) _ ?_
    intro ⟨n, k, v⟩ ⟨h1, h2, h3, h4⟩ ih
    replace h1 : -1 ≤ k := h1
    replace h2 : k < gI A 200 32 := h2
    replace h3 : k < (n : Int) := h3
    replace h4 : v + mo_pl (gI A 233) (fun q => mo_ow (gI A 234 q) (gI A 235) (gI A (mo_xr z)) q f) n k = mo_po A p f z := h4
    show mj_X G n_M_placeOf _ A 0 0 6 [some (mR (some 200)), some (mI p), some (mI f), some (mI z), some (mI v), some (mI k)] []
    refine mx_R fun hR => ?_
    refine mx_iload 5 d_M_placeOf_6 rfl ?_
    refine mx_iconst d_M_placeOf_8 ?_
    refine mx_icmp_eq 37 d_M_placeOf_9 rfl (by first | assumption | exact hR _ _ | exact r32_mk (by omega) (by omega)) (by first | assumption | exact hR _ _ | exact r32_mk (by omega) (by omega)) (fun c_9 => ?_) (fun c_9 => ?_)
    · refine mx_iload 4 d_M_placeOf_37 rfl ?_
      refine mx_iret d_M_placeOf_39 rfl ?_
      refine ⟨?_, rfl⟩
      rw [← h4]
      cases n with
      | zero => show some (mI v) = some (mI (v + 0)); rw [Int.add_zero]
      | succ n => rw [mo_pl, if_pos (by assumption), Int.add_zero]
    · refine mx_iload 4 d_M_placeOf_12 rfl ?_
      refine mx_aload_n 0 d_M_placeOf_14 rfl rfl ?_
      refine mx_iload 5 d_M_placeOf_15 rfl ?_
      refine mx_iload_n 2 d_M_placeOf_17 rfl rfl ?_
      refine mx_iload_n 3 d_M_placeOf_18 rfl rfl ?_
      refine mx_callV (kc := 0) (ks := 0) (N := n_M_ownOf) (as := [_, _, _]) (ci := 7) d_M_placeOf_19 s_M_211 ⟨Nat.le_of_ble_eq_true rfl, Nat.le_of_ble_eq_true rfl⟩ rfl (mj_wt_8 (Nat.le_of_ble_eq_true rfl)) (hM.o) ⟨_, rfl, rfl⟩ (cm_ownOf hM hg ⟨by omega, h2⟩ hf hz) (fun r_19 A_19 h_19 => ?_) (fun E_19 A_x h_19 => ?_)
      rotate_left
      · exact h_19.elim
      obtain ⟨rfl, hA_19⟩ := h_19
      obtain rfl := hA_19.symm
      clear hA_19
      refine mx_R fun hR_1 => ?_
      refine mx_iadd d_M_placeOf_22 ?_
      refine mx_istore 4 d_M_placeOf_23 (Nat.le_of_ble_eq_true rfl) ?_
      refine mx_aload_n 0 d_M_placeOf_25 rfl rfl ?_
      refine mx_getPs 33 d_M_placeOf_26 f_M_89 rfl rfl (hM.o) (hM.p33) ?_
      have hca := hg.ca k (by omega) h2
      refine mx_iload 5 d_M_placeOf_29 rfl ?_
      refine mx_iald d_M_placeOf_31 (hM.s33) (by omega) (by omega) ?_
      refine mx_istore 5 d_M_placeOf_32 (Nat.le_of_ble_eq_true rfl) ?_
      refine mx_goto 6 d_M_placeOf_34 rfl ?_
      obtain ⟨m, rfl⟩ : ∃ m, n = m + 1 := ⟨n - 1, by omega⟩
      refine ih (m, gI A 233 k, v + mo_ow (gI A 234 k) (gI A 235) (gI A (mo_xr z)) k f) ⟨hca.1, by show gI A 233 k < _; omega, by show gI A 233 k < (m : Int); omega, ?_⟩ (by show m < m + 1; omega)
      show v + mo_ow (gI A 234 k) (gI A 235) (gI A (mo_xr z)) k f + mo_pl _ _ m (gI A 233 k) = _
      rw [mo_pl, if_neg (by assumption)] at h4
      rw [Int.add_assoc]
      exact h4
  refine mx_R fun hR => ?_
  refine mx_iconst d_M_placeOf_0 ?_
  refine mx_istore 4 d_M_placeOf_1 (Nat.le_of_ble_eq_true rfl) ?_
  refine mx_iload_n 1 d_M_placeOf_3 rfl rfl ?_
  refine mx_istore 5 d_M_placeOf_4 (Nat.le_of_ble_eq_true rfl) ?_
  exact hl (6, p, 0) ⟨by show -1 ≤ p; omega, hp.2, by show p < ((6 : Nat) : Int); omega, by show 0 + mo_pl _ _ 6 p = _; rw [hv, Int.zero_add]⟩
theorem cm_movedBy {s l f z : Int} (hM : MS A) (hg : mo_pg A) (hh : mo_hg A) (hn : 0 ≤ gI A 200 23 ∧ gI A 200 23 ≤ 6) (hs : 0 ≤ s ∧ s < gI A 200 23) (hl : 0 ≤ l ∧ l ≤ 3) (hf : 0 ≤ f ∧ f < 24) (hz : z = 0 ∨ z = 1) : mj_Cal G n_M_movedBy [mR (some 200), mI s, mI l, mI f, mI z] A (fun r A' => r = some (mI (mo_mv A s l f z)) ∧ A' = A) mj_no := by
  refine mj_bodyK 0 0 [some (mR (some 200)), some (mI s), some (mI l), some (mI f), some (mI z), none, none] rfl rfl rfl (by decide +kernel) (Nat.le_of_ble_eq_true rfl) (by simp) rfl ?_
  have hu1 := hh.hu (5 * s + l) (by omega) (by omega)
  have hu2 := hh.hu (5 * s + 4) (by omega) (by omega)
  have hd := hh.de s l hs.1 hs.2 hl.1 hl.2
  have b1 := mo_po_b hg (p := gI A 229 (5 * s + l)) (z := z) hf
  have b2 := mo_po_b hg (p := gI A 229 (5 * s + 4)) (z := z) hf
  refine mx_R fun hR => ?_
  refine mj_cutI ( mo_po A (gI A 229 (5 * s + l)) f z) 35 ?_ (fun hJ_0 => ?_)
  · refine mx_istore 5 d_M_movedBy_35 (Nat.le_of_ble_eq_true rfl) ?_
    refine mj_cutI ( mo_po A (gI A 229 (5 * s + 4)) f z) 72 ?_ (fun hJ_37 => ?_)
    · refine mx_istore 6 d_M_movedBy_72 (Nat.le_of_ble_eq_true rfl) ?_
      refine mx_iload 5 d_M_movedBy_74 rfl ?_
      refine mx_iload 6 d_M_movedBy_76 rfl ?_
      refine mx_aload_n 0 d_M_movedBy_78 rfl rfl ?_
      refine mx_getPs 30 d_M_movedBy_79 f_M_83 rfl rfl (hM.o) (hM.p30) ?_
      refine mx_iconst d_M_movedBy_82 ?_
      refine mx_iload_n 1 d_M_movedBy_83 rfl rfl ?_
      refine mx_imul d_M_movedBy_84 ?_
      refine mx_iload_n 2 d_M_movedBy_85 rfl rfl ?_
      refine mx_iadd d_M_movedBy_86 ?_
      refine mx_iald d_M_movedBy_87 (hM.s30) (by omega) (by omega) ?_
      refine mx_idiv d_M_movedBy_88 (by first | assumption | exact hR _ _ | exact r32_mk (by omega) (by omega)) (by first | assumption | exact hR _ _ | exact r32_mk (by omega) (by omega)) (by omega) ?_
      refine mx_isub d_M_movedBy_89 ?_
      refine mx_iret d_M_movedBy_90 rfl ?_
      exact ⟨rfl, rfl⟩
    · refine mx_aload_n 0 d_M_movedBy_37 rfl rfl ?_
      refine mx_getPs 29 d_M_movedBy_38 f_M_80 rfl rfl (hM.o) (hM.p29) ?_
      refine mx_iconst d_M_movedBy_41 ?_
      refine mx_iload_n 1 d_M_movedBy_42 rfl rfl ?_
      refine mx_imul d_M_movedBy_43 ?_
      refine mx_iconst d_M_movedBy_44 ?_
      refine mx_iadd d_M_movedBy_45 ?_
      refine mx_iald d_M_movedBy_46 (hM.s29) (by omega) (by omega) ?_
      refine mx_iconst d_M_movedBy_47 ?_
      refine mx_icmp_ne 55 d_M_movedBy_48 rfl (by first | assumption | exact hR _ _ | exact r32_mk (by omega) (by omega)) (by first | assumption | exact hR _ _ | exact r32_mk (by omega) (by omega)) (fun c_48 => ?_) (fun c_48 => ?_)
      · refine mx_aload_n 0 d_M_movedBy_55 rfl rfl ?_
        refine mx_aload_n 0 d_M_movedBy_56 rfl rfl ?_
        refine mx_getPs 29 d_M_movedBy_57 f_M_80 rfl rfl (hM.o) (hM.p29) ?_
        refine mx_iconst d_M_movedBy_60 ?_
        refine mx_iload_n 1 d_M_movedBy_61 rfl rfl ?_
        refine mx_imul d_M_movedBy_62 ?_
        refine mx_iconst d_M_movedBy_63 ?_
        refine mx_iadd d_M_movedBy_64 ?_
        refine mx_iald d_M_movedBy_65 (hM.s29) (by omega) (by omega) ?_
        refine mx_iload_n 3 d_M_movedBy_66 rfl rfl ?_
        refine mx_iload 4 d_M_movedBy_67 rfl ?_
        refine mx_callV (kc := 0) (ks := 0) (N := n_M_placeOf) (as := [_, _, _]) (ci := 7) d_M_movedBy_69 s_M_215 ⟨Nat.le_of_ble_eq_true rfl, Nat.le_of_ble_eq_true rfl⟩ rfl (mj_wt_8 (Nat.le_of_ble_eq_true rfl)) (hM.o) ⟨_, rfl, rfl⟩ (cm_placeOf hM hg ⟨by omega, by omega⟩ hf hz) (fun r_69 A_69 h_69 => ?_) (fun E_69 A_x h_69 => ?_)
        rotate_left
        · exact h_69.elim
        obtain ⟨rfl, hA_69⟩ := h_69
        obtain rfl := hA_69.symm
        clear hA_69
        refine mx_R fun hR_1 => ?_
        exact mj_ji hJ_37 (by first | rfl | (unfold mo_po; rw [if_pos (by assumption)]))
      · refine mx_iconst d_M_movedBy_51 ?_
        refine mx_goto 72 d_M_movedBy_52 rfl ?_
        exact mj_ji hJ_37 (by first | rfl | (unfold mo_po; rw [if_pos (by assumption)]))
  · refine mx_aload_n 0 d_M_movedBy_0 rfl rfl ?_
    refine mx_getPs 29 d_M_movedBy_1 f_M_80 rfl rfl (hM.o) (hM.p29) ?_
    refine mx_iconst d_M_movedBy_4 ?_
    refine mx_iload_n 1 d_M_movedBy_5 rfl rfl ?_
    refine mx_imul d_M_movedBy_6 ?_
    refine mx_iload_n 2 d_M_movedBy_7 rfl rfl ?_
    refine mx_iadd d_M_movedBy_8 ?_
    refine mx_iald d_M_movedBy_9 (hM.s29) (by omega) (by omega) ?_
    refine mx_iconst d_M_movedBy_10 ?_
    refine mx_icmp_ne 18 d_M_movedBy_11 rfl (by first | assumption | exact hR _ _ | exact r32_mk (by omega) (by omega)) (by first | assumption | exact hR _ _ | exact r32_mk (by omega) (by omega)) (fun c_11 => ?_) (fun c_11 => ?_)
    · refine mx_aload_n 0 d_M_movedBy_18 rfl rfl ?_
      refine mx_aload_n 0 d_M_movedBy_19 rfl rfl ?_
      refine mx_getPs 29 d_M_movedBy_20 f_M_80 rfl rfl (hM.o) (hM.p29) ?_
      refine mx_iconst d_M_movedBy_23 ?_
      refine mx_iload_n 1 d_M_movedBy_24 rfl rfl ?_
      refine mx_imul d_M_movedBy_25 ?_
      refine mx_iload_n 2 d_M_movedBy_26 rfl rfl ?_
      refine mx_iadd d_M_movedBy_27 ?_
      refine mx_iald d_M_movedBy_28 (hM.s29) (by omega) (by omega) ?_
      refine mx_iload_n 3 d_M_movedBy_29 rfl rfl ?_
      refine mx_iload 4 d_M_movedBy_30 rfl ?_
      refine mx_callV (kc := 0) (ks := 0) (N := n_M_placeOf) (as := [_, _, _]) (ci := 7) d_M_movedBy_32 s_M_215 ⟨Nat.le_of_ble_eq_true rfl, Nat.le_of_ble_eq_true rfl⟩ rfl (mj_wt_8 (Nat.le_of_ble_eq_true rfl)) (hM.o) ⟨_, rfl, rfl⟩ (cm_placeOf hM hg ⟨by omega, by omega⟩ hf hz) (fun r_32 A_32 h_32 => ?_) (fun E_32 A_x h_32 => ?_)
      rotate_left
      · exact h_32.elim
      obtain ⟨rfl, hA_32⟩ := h_32
      obtain rfl := hA_32.symm
      clear hA_32
      refine mx_R fun hR_2 => ?_
      exact mj_ji hJ_0 (by first | rfl | (unfold mo_po; rw [if_pos (by assumption)]))
    · refine mx_iconst d_M_movedBy_14 ?_
      refine mx_goto 35 d_M_movedBy_15 rfl ?_
      exact mj_ji hJ_0 (by first | rfl | (unfold mo_po; rw [if_pos (by assumption)]))
theorem cm_hang {s l p e : Int} (hM : MS A) (hg : mo_pg A) (hn : 0 ≤ gI A 200 23 ∧ gI A 200 23 ≤ 6) (hs : r32 s) (hl : r32 l) (hp : r32 p) (he : r32 e) : mj_Cal G n_M_hang [mR (some 200), mI s, mI l, mI p, mI e] A (fun r A' => r = none ∧ (((((0 ≤ s ∧ s < gI A 200 23) ∧ (0 ≤ l ∧ l ≤ 4) ∧ (p = -1 ∨ (0 ≤ p ∧ p < gI A 200 32))) ∧ (l = 4 ∨ (1 ≤ e ∧ e ≤ 4))) ∧ A' = sI (sI (sI A 200 0 0) 229 (5 * s + l) p) 230 (5 * s + l) e) ∨ (¬ (((0 ≤ s ∧ s < gI A 200 23) ∧ (0 ≤ l ∧ l ≤ 4) ∧ (p = -1 ∨ (0 ≤ p ∧ p < gI A 200 32))) ∧ (l = 4 ∨ (1 ≤ e ∧ e ≤ 4))) ∧ A' = sI A 200 0 (if ((0 ≤ s ∧ s < gI A 200 23) ∧ (0 ≤ l ∧ l ≤ 4) ∧ (p = -1 ∨ (0 ≤ p ∧ p < gI A 200 32))) then (if (l = 4 ∨ (1 ≤ e ∧ e ≤ 4)) then 0 else 2) else 1)))) mj_no := by
  refine mj_bodyK 0 0 [some (mR (some 200)), some (mI s), some (mI l), some (mI p), some (mI e), none] rfl rfl rfl (by decide +kernel) (Nat.le_of_ble_eq_true rfl) (by simp) rfl ?_
  have hnp := hg.np
  refine mx_R fun hR => ?_
  refine mj_cutB (((0 ≤ s ∧ s < gI A 200 23) ∧ (0 ≤ l ∧ l ≤ 4) ∧ (p = -1 ∨ (0 ≤ p ∧ p < gI A 200 32)))) 41 ?_ (fun hJ_0 => ?_)
  · refine mx_istore 5 d_M_hang_41 (Nat.le_of_ble_eq_true rfl) ?_
    refine mx_aload_n 0 d_M_hang_43 rfl rfl ?_
    refine mx_iload 5 d_M_hang_44 rfl ?_
    refine mj_cutB ((l = 4 ∨ (1 ≤ e ∧ e ≤ 4))) 66 ?_ (fun hJ_46 => ?_)
    · refine mx_callV (kc := 0) (ks := 0) (N := n_M_asked2) (as := [_, _]) (ci := 7) d_M_hang_66 s_M_166 ⟨Nat.le_of_ble_eq_true rfl, Nat.le_of_ble_eq_true rfl⟩ rfl (mj_wt_8 (Nat.le_of_ble_eq_true rfl)) (hM.o) ⟨_, rfl, rfl⟩ (cm_asked2 _ _ hM) (fun r_66 A_66 h_66 => ?_) (fun E_66 A_x h_66 => ?_)
      rotate_left
      · exact h_66.elim
      obtain ⟨rfl, hA_66⟩ := h_66
      obtain rfl := hA_66.symm
      clear hA_66
      refine mx_R fun hR_1 => ?_
      refine mx_if_eq 95 d_M_hang_69 rfl (by first | assumption | exact hR_1 _ _ | exact hR _ _ | exact r32_mk (by omega) (by omega)) (fun c_69 => ?_) (fun c_69 => ?_)
      · refine mx_vret d_M_hang_95 rfl ?_
        exact ⟨rfl, Or.inr ⟨by omega, rfl⟩⟩
      · have hP : ((0 ≤ s ∧ s < gI A 200 23) ∧ (0 ≤ l ∧ l ≤ 4) ∧ (p = -1 ∨ (0 ≤ p ∧ p < gI A 200 32))) ∧ (l = 4 ∨ (1 ≤ e ∧ e ≤ 4)) := by omega
        rw [if_pos hP.1, if_pos hP.2]
        refine mx_R fun hR => ?_
        refine mx_aload_n 0 d_M_hang_72 rfl rfl ?_
        refine mx_getPs 29 d_M_hang_73 f_M_80 rfl rfl (hM.o) (hM.p29) ?_
        refine mx_iconst d_M_hang_76 ?_
        refine mx_iload_n 1 d_M_hang_77 rfl rfl ?_
        refine mx_imul d_M_hang_78 ?_
        refine mx_iload_n 2 d_M_hang_79 rfl rfl ?_
        refine mx_iadd d_M_hang_80 ?_
        refine mx_iload_n 3 d_M_hang_81 rfl rfl ?_
        refine mx_iast d_M_hang_82 (hM.s29) (by omega) (by omega) (by first | assumption | exact hR _ _ | exact r32_mk (by omega) (by omega)) ?_
        refine mx_R fun hR_1 => ?_
        refine mx_aload_n 0 d_M_hang_83 rfl rfl ?_
        refine mx_getPs 30 d_M_hang_84 f_M_83 rfl rfl (hM.o) (hM.p30) ?_
        refine mx_iconst d_M_hang_87 ?_
        refine mx_iload_n 1 d_M_hang_88 rfl rfl ?_
        refine mx_imul d_M_hang_89 ?_
        refine mx_iload_n 2 d_M_hang_90 rfl rfl ?_
        refine mx_iadd d_M_hang_91 ?_
        refine mx_iload 4 d_M_hang_92 rfl ?_
        refine mx_iast d_M_hang_94 (hM.s30) (by omega) (by omega) (by first | assumption | exact hR_1 _ _ | exact hR _ _ | exact r32_mk (by omega) (by omega)) ?_
        refine mx_R fun hR_2 => ?_
        refine mx_vret d_M_hang_95 rfl ?_
        exact ⟨rfl, Or.inl ⟨hP, rfl⟩⟩
    · refine mx_iload_n 2 d_M_hang_46 rfl rfl ?_
      refine mx_iconst d_M_hang_47 ?_
      refine mx_icmp_eq 61 d_M_hang_48 rfl (by first | assumption | exact hR _ _ | exact r32_mk (by omega) (by omega)) (by first | assumption | exact hR _ _ | exact r32_mk (by omega) (by omega)) (fun c_48 => ?_) (fun c_48 => ?_)
      · refine mx_iconst d_M_hang_61 ?_
        refine mx_goto 66 d_M_hang_62 rfl ?_
        first | exact mj_j1 hJ_46 (by omega) | exact mj_j0 hJ_46 (by omega)
      · refine mx_iload 4 d_M_hang_51 rfl ?_
        refine mx_iconst d_M_hang_53 ?_
        refine mx_iconst d_M_hang_54 ?_
        refine mx_callS (kc := 0) (ks := 0) (N := n_M_in) (as := [_, _, _]) d_M_hang_55 s_M_126 ⟨Nat.le_of_ble_eq_true rfl, Nat.le_of_ble_eq_true rfl⟩ rfl (mj_wt_8 (Nat.le_of_ble_eq_true rfl)) (cm_in he (r32_mk (by omega) (by omega)) (r32_mk (by omega) (by omega))) (fun r_55 A_55 h_55 => ?_) (fun E_55 A_x h_55 => ?_)
        rotate_left
        · exact h_55.elim
        obtain ⟨rfl, hA_55⟩ := h_55
        obtain rfl := hA_55.symm
        clear hA_55
        refine mx_R fun hR_2 => ?_
        refine mx_if_eq 65 d_M_hang_58 rfl (by first | assumption | exact hR_2 _ _ | exact hR _ _ | exact r32_mk (by omega) (by omega)) (fun c_58 => ?_) (fun c_58 => ?_)
        · refine mx_iconst d_M_hang_65 ?_
          first | exact mj_j1 hJ_46 (by omega) | exact mj_j0 hJ_46 (by omega)
        · refine mx_iconst d_M_hang_61 ?_
          refine mx_goto 66 d_M_hang_62 rfl ?_
          first | exact mj_j1 hJ_46 (by omega) | exact mj_j0 hJ_46 (by omega)
  · refine mx_aload_n 0 d_M_hang_0 rfl rfl ?_
    refine mx_iload_n 1 d_M_hang_1 rfl rfl ?_
    refine mx_callV (kc := 0) (ks := 0) (N := n_M_isScene) (as := [_]) (ci := 7) d_M_hang_2 s_M_196 ⟨Nat.le_of_ble_eq_true rfl, Nat.le_of_ble_eq_true rfl⟩ rfl (mj_wt_8 (Nat.le_of_ble_eq_true rfl)) (hM.o) ⟨_, rfl, rfl⟩ (cm_isScene hM hs hn) (fun r_2 A_2 h_2 => ?_) (fun E_2 A_x h_2 => ?_)
    rotate_left
    · exact h_2.elim
    obtain ⟨rfl, hA_2⟩ := h_2
    obtain rfl := hA_2.symm
    clear hA_2
    refine mx_R fun hR_3 => ?_
    refine mx_if_eq 40 d_M_hang_5 rfl (by first | assumption | exact hR_3 _ _ | exact hR _ _ | exact r32_mk (by omega) (by omega)) (fun c_5 => ?_) (fun c_5 => ?_)
    · refine mx_iconst d_M_hang_40 ?_
      first | exact mj_j1 hJ_0 (by omega) | exact mj_j0 hJ_0 (by omega)
    · refine mx_iload_n 2 d_M_hang_8 rfl rfl ?_
      refine mx_iconst d_M_hang_9 ?_
      refine mx_iconst d_M_hang_10 ?_
      refine mx_callS (kc := 0) (ks := 0) (N := n_M_in) (as := [_, _, _]) d_M_hang_11 s_M_126 ⟨Nat.le_of_ble_eq_true rfl, Nat.le_of_ble_eq_true rfl⟩ rfl (mj_wt_8 (Nat.le_of_ble_eq_true rfl)) (cm_in hl (r32_mk (by omega) (by omega)) (r32_mk (by omega) (by omega))) (fun r_11 A_11 h_11 => ?_) (fun E_11 A_x h_11 => ?_)
      rotate_left
      · exact h_11.elim
      obtain ⟨rfl, hA_11⟩ := h_11
      obtain rfl := hA_11.symm
      clear hA_11
      refine mx_R fun hR_4 => ?_
      refine mx_if_eq 40 d_M_hang_14 rfl (by first | assumption | exact hR_4 _ _ | exact hR_3 _ _ | exact hR _ _ | exact r32_mk (by omega) (by omega)) (fun c_14 => ?_) (fun c_14 => ?_)
      · refine mx_iconst d_M_hang_40 ?_
        first | exact mj_j1 hJ_0 (by omega) | exact mj_j0 hJ_0 (by omega)
      · refine mx_iload_n 3 d_M_hang_17 rfl rfl ?_
        refine mx_iconst d_M_hang_18 ?_
        refine mx_icmp_eq 36 d_M_hang_19 rfl (by first | assumption | exact hR_4 _ _ | exact hR_3 _ _ | exact hR _ _ | exact r32_mk (by omega) (by omega)) (by first | assumption | exact hR_4 _ _ | exact hR_3 _ _ | exact hR _ _ | exact r32_mk (by omega) (by omega)) (fun c_19 => ?_) (fun c_19 => ?_)
        · refine mx_iconst d_M_hang_36 ?_
          refine mx_goto 41 d_M_hang_37 rfl ?_
          first | exact mj_j1 hJ_0 (by omega) | exact mj_j0 hJ_0 (by omega)
        · refine mx_iload_n 3 d_M_hang_22 rfl rfl ?_
          refine mx_iconst d_M_hang_23 ?_
          refine mx_aload_n 0 d_M_hang_24 rfl rfl ?_
          refine mx_getI 32 d_M_hang_25 f_M_208 rfl rfl (hM.o) ?_
          refine mx_iconst d_M_hang_28 ?_
          refine mx_isub d_M_hang_29 ?_
          refine mx_callS (kc := 0) (ks := 0) (N := n_M_in) (as := [_, _, _]) d_M_hang_30 s_M_126 ⟨Nat.le_of_ble_eq_true rfl, Nat.le_of_ble_eq_true rfl⟩ rfl (mj_wt_8 (Nat.le_of_ble_eq_true rfl)) (cm_in hp (r32_mk (by omega) (by omega)) (r32_mk (by omega) (by omega))) (fun r_30 A_30 h_30 => ?_) (fun E_30 A_x h_30 => ?_)
          rotate_left
          · exact h_30.elim
          obtain ⟨rfl, hA_30⟩ := h_30
          obtain rfl := hA_30.symm
          clear hA_30
          refine mx_R fun hR_5 => ?_
          refine mx_if_eq 40 d_M_hang_33 rfl (by first | assumption | exact hR_5 _ _ | exact hR_4 _ _ | exact hR_3 _ _ | exact hR _ _ | exact r32_mk (by omega) (by omega)) (fun c_33 => ?_) (fun c_33 => ?_)
          · refine mx_iconst d_M_hang_40 ?_
            first | exact mj_j1 hJ_0 (by omega) | exact mj_j0 hJ_0 (by omega)
          · refine mx_iconst d_M_hang_36 ?_
            refine mx_goto 41 d_M_hang_37 rfl ?_
            first | exact mj_j1 hJ_0 (by omega) | exact mj_j0 hJ_0 (by omega)
end MOD7
