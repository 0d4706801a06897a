/-! THE REFERENCE, 12: lines -/
section MODC
variable {G : mj_G} {A : mj_M}
theorem cm_size {v : Int} (hv : r32 v) : mj_Cal G n_M_size [mI v] A (fun r A' => r = some (mI (pc_ab v)) ∧ A' = A) mj_no := by
  refine mj_bodyK 0 0 [some (mI v)] rfl rfl rfl (by decide +kernel) (Nat.le_of_ble_eq_true rfl) (by simp) rfl ?_
  unfold pc_ab
  refine mx_R fun hR => ?_
  refine mx_iload_n 0 d_M_size_0 rfl rfl ?_
  refine mx_if_ge 9 d_M_size_1 rfl (by first | assumption | exact hR _ _ | exact r32_mk (by omega) (by omega)) (fun c_1 => ?_) (fun c_1 => ?_)
  · refine mx_iload_n 0 d_M_size_9 rfl rfl ?_
    refine mx_iret d_M_size_10 rfl ?_
    first | exact ⟨by rw [if_neg (by omega)], rfl⟩ | exact ⟨by rw [if_pos (by omega)], rfl⟩
  · refine mx_iload_n 0 d_M_size_4 rfl rfl ?_
    refine mx_ineg d_M_size_5 ?_
    refine mx_goto 10 d_M_size_6 rfl ?_
    refine mx_iret d_M_size_10 rfl ?_
    first | exact ⟨by rw [if_neg (by omega)], rfl⟩ | exact ⟨by rw [if_pos (by omega)], rfl⟩
theorem cm_isLine {d x y : Int} (hM : MS A) (hd : 0 ≤ d ∧ d < 16) (hx : r32 x) (hy : r32 y) : mj_Cal G n_M_isLine [mR (some 200), mI d, mI x, mI y] A (fun r A' => r = some (mI (if mo_ip x y ∧ gI A 219 (192 * d + 16 * y + x) = 1 then 1 else 0)) ∧ A' = A) mj_no := by
  refine mj_bodyK 0 0 [some (mR (some 200)), some (mI d), some (mI x), some (mI y)] rfl rfl rfl (by decide +kernel) (Nat.le_of_ble_eq_true rfl) (by simp) rfl ?_
  refine mx_R fun hR => ?_
  refine mx_iload_n 2 d_M_isLine_0 rfl rfl ?_
  refine mx_iload_n 3 d_M_isLine_1 rfl rfl ?_
  refine mx_callS (kc := 0) (ks := 0) (N := n_M_isPoint) (as := [_, _]) d_M_isLine_2 s_M_149 ⟨Nat.le_of_ble_eq_true rfl, Nat.le_of_ble_eq_true rfl⟩ rfl (mj_wt_8 (Nat.le_of_ble_eq_true rfl)) (cm_isPoint hx hy) (fun r_2 A_2 h_2 => ?_) (fun E_2 A_x h_2 => ?_)
  rotate_left
  · exact h_2.elim
  obtain ⟨rfl, hA_2⟩ := h_2
  obtain rfl := hA_2.symm
  clear hA_2
  refine mx_R fun hR_1 => ?_
  refine mx_if_eq 33 d_M_isLine_5 rfl (by first | assumption | exact hR_1 _ _ | exact hR _ _ | exact r32_mk (by omega) (by omega)) (fun c_5 => ?_) (fun c_5 => ?_)
  · refine mx_iconst d_M_isLine_33 ?_
    refine mx_zret d_M_isLine_34 rfl (by first | exact Or.inl rfl | exact Or.inr rfl | omega) ?_
    first | exact ⟨by rw [if_pos ⟨by omega, by assumption⟩], rfl⟩ | exact ⟨by rw [if_neg (fun h => by have h1 := h.1; have h2 := h.2; omega)], rfl⟩
  · refine mx_aload_n 0 d_M_isLine_8 rfl rfl ?_
    refine mx_getPs 19 d_M_isLine_9 f_M_53 rfl rfl (hM.o) (hM.p19) ?_
    refine mx_sipush d_M_isLine_12 (by decide) ?_
    refine mx_iload_n 1 d_M_isLine_15 rfl rfl ?_
    refine mx_imul d_M_isLine_16 ?_
    refine mx_bipush d_M_isLine_17 (by decide) ?_
    refine mx_iload_n 3 d_M_isLine_19 rfl rfl ?_
    refine mx_imul d_M_isLine_20 ?_
    refine mx_iadd d_M_isLine_21 ?_
    refine mx_iload_n 2 d_M_isLine_22 rfl rfl ?_
    refine mx_iadd d_M_isLine_23 ?_
    refine mx_iald d_M_isLine_24 (hM.s19) (by omega) (by omega) ?_
    refine mx_iconst d_M_isLine_25 ?_
    refine mx_icmp_ne 33 d_M_isLine_26 rfl (by first | assumption | exact hR_1 _ _ | exact hR _ _ | exact r32_mk (by omega) (by omega)) (by first | assumption | exact hR_1 _ _ | exact hR _ _ | exact r32_mk (by omega) (by omega)) (fun c_26 => ?_) (fun c_26 => ?_)
    · refine mx_iconst d_M_isLine_33 ?_
      refine mx_zret d_M_isLine_34 rfl (by first | exact Or.inl rfl | exact Or.inr rfl | omega) ?_
      first | exact ⟨by rw [if_pos ⟨by omega, by assumption⟩], rfl⟩ | exact ⟨by rw [if_neg (fun h => by have h1 := h.1; have h2 := h.2; omega)], rfl⟩
    · refine mx_iconst d_M_isLine_29 ?_
      refine mx_goto 34 d_M_isLine_30 rfl ?_
      refine mx_zret d_M_isLine_34 rfl (by first | exact Or.inl rfl | exact Or.inr rfl | omega) ?_
      first | exact ⟨by rw [if_pos ⟨by omega, by assumption⟩], rfl⟩ | exact ⟨by rw [if_neg (fun h => by have h1 := h.1; have h2 := h.2; omega)], rfl⟩
/-- the memory of a picture under way -/
def dr_m (B : mj_M) (g h : Int → Int) : mj_M := sF (sF B 218 g) 219 h
theorem dr_m1 {B : mj_M} {g h : Int → Int} {p v w : Int} : sI (sI (dr_m B g h) 218 p v) 219 p w = dr_m B (fun q => if q = p then v else g q) (fun q => if q = p then w else h q) := by
  unfold dr_m
  exact mj_ext3 (fun _ => rfl) (fun c_ x_ => by simp only [gI_sI, gI_sF]; grind) (fun _ _ => rfl)
/-- one line of which j points are drawn -/
def dr_g (g : Int → Int) (a b c e d v : Int) (j : Nat) (q : Int) : Int := if mj_any (fun i => decide (192 * d + pc_p a b c e i = q)) j = true then v else g q
theorem dr_g1 {g : Int → Int} {a b c e d v : Int} {j : Nat} : (fun q => if q = 192 * d + pc_p a b c e j then v else dr_g g a b c e d v j q) = dr_g g a b c e d v (j + 1) := by
  funext q
  unfold dr_g
  rw [mj_any]
  by_cases h : q = 192 * d + pc_p a b c e j
  · rw [if_pos h, if_pos (by rw [Bool.or_eq_true]; exact Or.inr (decide_eq_true h.symm))]
  · rw [if_neg h, show decide (192 * d + pc_p a b c e j = q) = false from decide_eq_false fun h1 => h h1.symm, Bool.or_false]
theorem dr_j {B : mj_M} {g h : Int → Int} {d K a b c e v m : Int} {P : Option mj_V → mj_M → Prop} (hM : MS B) (hd : 0 ≤ d ∧ d < 16) (hK : 0 ≤ K ∧ K < 128) (ha : gI B 212 (4 * K) = a) (hb : gI B 212 (4 * K + 1) = b) (hv : gI B 211 K = v) (h1 : 0 ≤ a ∧ a < 16) (h2 : 0 ≤ b ∧ b < 12) (h3 : 0 ≤ c ∧ c < 16) (h4 : 0 ≤ e ∧ e < 12) (hm : pc_m a b c e = m) (hvr : r32 v)
    (hP : ∀ o6 o7 o8, mj_X G n_M_draws (mj_Qm G n_M_draws P mj_no) (dr_m B (dr_g g a b c e d v (m.toNat + 1)) (dr_g h a b c e d 1 (m.toNat + 1))) 0 0 44 [some (mR (some 200)), some (mI d), some (mI (K + 1)), some (mI (c - a)), some (mI (e - b)), some (mI m), o6, o7, o8] []) :
    ∀ q : Nat × Option mj_V × Option mj_V, ((q.1 : Int) ≤ m + 1) → mj_X G n_M_draws (mj_Qm G n_M_draws P mj_no) (dr_m B (dr_g g a b c e d v q.1) (dr_g h a b c e d 1 q.1)) 0 0 131 [some (mR (some 200)), some (mI d), some (mI K), some (mI (c - a)), some (mI (e - b)), some (mI m), some (mI q.1), q.2.1, q.2.2] [] := by
  have hm0 := pc_m_r (a := a) (b := b) (c := c) (d := e)
  rw [hm] at hm0
  have hm1 : m ≤ 15 := by
    rw [← hm]; unfold pc_m pc_ab; omega
  refine mj_loop _ (fun q => (m + 2 - q.1).toNat) _ ?_
  intro ⟨j, o7, o8⟩ hj ih
  replace hj : (j : Int) ≤ m + 1 := hj
  have hx := mo_mulr (a := j) (b := c - a) (by omega) (by omega)
  have hy := mo_mulr (a := j) (b := e - b) (by omega) (by omega)
  have rx : r32 (j * (c - a)) := r32_mk (by omega) (by omega)
  have ry : r32 (j * (e - b)) := r32_mk (by omega) (by omega)
  have ea : gI (dr_m B (dr_g g a b c e d v j) (dr_g h a b c e d 1 j)) 212 (4 * K) = a := ha
  have eb : gI (dr_m B (dr_g g a b c e d v j) (dr_g h a b c e d 1 j)) 212 (4 * K + 1) = b := hb
  have ev : gI (dr_m B (dr_g g a b c e d v j) (dr_g h a b c e d 1 j)) 211 K = v := hv
  show mj_X G n_M_draws (mj_Qm G n_M_draws P mj_no) (dr_m B (dr_g g a b c e d v j) (dr_g h a b c e d 1 j)) 0 0 131 [some (mR (some 200)), some (mI d), some (mI K), some (mI (c - a)), some (mI (e - b)), some (mI m), some (mI j), o7, o8] []
  refine mx_R fun hR => ?_
  refine mx_iload 6 d_M_draws_131 rfl ?_
  refine mx_iload 5 d_M_draws_133 rfl ?_
  refine mx_icmp_gt 246 d_M_draws_135 rfl (by first | assumption | exact hR _ _ | exact r32_mk (by omega) (by omega)) (by first | assumption | exact hR _ _ | exact r32_mk (by omega) (by omega)) (fun c_135 => ?_) (fun c_135 => ?_)
  · refine mx_iinc 2 d_M_draws_246 rfl (Nat.le_of_ble_eq_true rfl) ?_
    refine mx_goto 44 d_M_draws_249 rfl ?_
    rw [show j = m.toNat + 1 by omega]
    exact hP _ _ _
  · refine mx_aload_n 0 d_M_draws_138 rfl rfl ?_
    refine mx_getPs 12 d_M_draws_139 f_M_35 rfl rfl (hM.o) (hM.p12) ?_
    refine mx_iconst d_M_draws_142 ?_
    refine mx_iload_n 2 d_M_draws_143 rfl rfl ?_
    refine mx_imul d_M_draws_144 ?_
    refine mx_iald d_M_draws_145 (hM.s12) (by omega) (by omega) ?_
    refine mj_cutI ( (if m = 0 then 0 else ((j : Int) * (c - a)).tdiv m)) 162 ?_ (fun hJ_146 => ?_)
    · rw [ea]
      refine mx_iadd d_M_draws_162 ?_
      rw [show a + (if m = 0 then 0 else ((j : Int) * (c - a)).tdiv m) = mj_pw a c j m by unfold mj_pw; split <;> omega]
      refine mx_istore 7 d_M_draws_163 (Nat.le_of_ble_eq_true rfl) ?_
      refine mx_aload_n 0 d_M_draws_165 rfl rfl ?_
      refine mx_getPs 12 d_M_draws_166 f_M_35 rfl rfl (hM.o) (hM.p12) ?_
      refine mx_iconst d_M_draws_169 ?_
      refine mx_iload_n 2 d_M_draws_170 rfl rfl ?_
      refine mx_imul d_M_draws_171 ?_
      refine mx_iconst d_M_draws_172 ?_
      refine mx_iadd d_M_draws_173 ?_
      refine mx_iald d_M_draws_174 (hM.s12) (by omega) (by omega) ?_
      refine mj_cutI ( (if m = 0 then 0 else ((j : Int) * (e - b)).tdiv m)) 192 ?_ (fun hJ_175 => ?_)
      · rw [eb]
        refine mx_iadd d_M_draws_192 ?_
        rw [show b + (if m = 0 then 0 else ((j : Int) * (e - b)).tdiv m) = mj_pw b e j m by unfold mj_pw; split <;> omega]
        refine mx_istore 8 d_M_draws_193 (Nat.le_of_ble_eq_true rfl) ?_
        have hp := pc_p_r h1 h2 h3 h4 (j := j) ⟨by omega, by omega⟩
        have hpe : 192 * d + 16 * mj_pw b e j m + mj_pw a c j m = 192 * d + pc_p a b c e j := by unfold pc_p; rw [hm]; omega
        refine mx_aload_n 0 d_M_draws_195 rfl rfl ?_
        refine mx_getPs 18 d_M_draws_196 f_M_50 rfl rfl (hM.o) (hM.p18) ?_
        refine mx_sipush d_M_draws_199 (by decide) ?_
        refine mx_iload_n 1 d_M_draws_202 rfl rfl ?_
        refine mx_imul d_M_draws_203 ?_
        refine mx_bipush d_M_draws_204 (by decide) ?_
        refine mx_iload 8 d_M_draws_206 rfl ?_
        refine mx_imul d_M_draws_208 ?_
        refine mx_iadd d_M_draws_209 ?_
        refine mx_iload 7 d_M_draws_210 rfl ?_
        refine mx_iadd d_M_draws_212 ?_
        rw [hpe]
        refine mx_aload_n 0 d_M_draws_213 rfl rfl ?_
        refine mx_getPs 11 d_M_draws_214 f_M_32 rfl rfl (hM.o) (hM.p11) ?_
        refine mx_iload_n 2 d_M_draws_217 rfl rfl ?_
        refine mx_iald d_M_draws_218 (hM.s11) (by omega) (by omega) ?_
        rw [ev]
        refine mx_iast d_M_draws_219 (hM.s18) (by omega) (by omega) (by first | assumption | exact hR _ _ | exact r32_mk (by omega) (by omega)) ?_
        refine mx_R fun hR_1 => ?_
        refine mx_aload_n 0 d_M_draws_220 rfl rfl ?_
        refine mx_getPs 19 d_M_draws_221 f_M_53 rfl rfl (hM.o) (hM.p19) ?_
        refine mx_sipush d_M_draws_224 (by decide) ?_
        refine mx_iload_n 1 d_M_draws_227 rfl rfl ?_
        refine mx_imul d_M_draws_228 ?_
        refine mx_bipush d_M_draws_229 (by decide) ?_
        refine mx_iload 8 d_M_draws_231 rfl ?_
        refine mx_imul d_M_draws_233 ?_
        refine mx_iadd d_M_draws_234 ?_
        refine mx_iload 7 d_M_draws_235 rfl ?_
        refine mx_iadd d_M_draws_237 ?_
        rw [hpe]
        refine mx_iconst d_M_draws_238 ?_
        refine mx_iast d_M_draws_239 (hM.s19) (by omega) (by omega) (by first | assumption | exact hR_1 _ _ | exact hR _ _ | exact r32_mk (by omega) (by omega)) ?_
        refine mx_R fun hR_2 => ?_
        rw [dr_m1, dr_g1, dr_g1]
        refine mx_iinc 6 d_M_draws_240 rfl (Nat.le_of_ble_eq_true rfl) ?_
        refine mx_goto 131 d_M_draws_243 rfl ?_
        have h9 := ih (j + 1, some (mI (mj_pw a c j m)), some (mI (mj_pw b e j m))) (by show ((j + 1 : Nat) : Int) ≤ m + 1; omega) (by show (m + 2 - ((j + 1 : Nat) : Int)).toNat < (m + 2 - (j : Int)).toNat; omega)
        exact h9
      · refine mx_iload 5 d_M_draws_175 rfl ?_
        refine mx_if_ne 184 d_M_draws_177 rfl (by first | assumption | exact hR _ _ | exact r32_mk (by omega) (by omega)) (fun c_177 => ?_) (fun c_177 => ?_)
        · refine mx_iload 6 d_M_draws_184 rfl ?_
          refine mx_iload 4 d_M_draws_186 rfl ?_
          refine mx_imul d_M_draws_188 ?_
          refine mx_iload 5 d_M_draws_189 rfl ?_
          refine mx_idiv d_M_draws_191 (by first | assumption | exact hR _ _ | exact r32_mk (by omega) (by omega)) (by first | assumption | exact hR _ _ | exact r32_mk (by omega) (by omega)) (by assumption) ?_
          exact mj_ji hJ_175 (by first | rw [if_pos (by assumption)] | rw [if_neg (by assumption)])
        · refine mx_iconst d_M_draws_180 ?_
          refine mx_goto 192 d_M_draws_181 rfl ?_
          exact mj_ji hJ_175 (by first | rw [if_pos (by assumption)] | rw [if_neg (by assumption)])
    · refine mx_iload 5 d_M_draws_146 rfl ?_
      refine mx_if_ne 155 d_M_draws_148 rfl (by first | assumption | exact hR _ _ | exact r32_mk (by omega) (by omega)) (fun c_148 => ?_) (fun c_148 => ?_)
      · refine mx_iload 6 d_M_draws_155 rfl ?_
        refine mx_iload_n 3 d_M_draws_157 rfl rfl ?_
        refine mx_imul d_M_draws_158 ?_
        refine mx_iload 5 d_M_draws_159 rfl ?_
        refine mx_idiv d_M_draws_161 (by first | assumption | exact hR _ _ | exact r32_mk (by omega) (by omega)) (by first | assumption | exact hR _ _ | exact r32_mk (by omega) (by omega)) (by assumption) ?_
        exact mj_ji hJ_146 (by first | rw [if_pos (by assumption)] | rw [if_neg (by assumption)])
      · refine mx_iconst d_M_draws_151 ?_
        refine mx_goto 162 d_M_draws_152 rfl ?_
        exact mj_ji hJ_146 (by first | rw [if_pos (by assumption)] | rw [if_neg (by assumption)])
end MODC
