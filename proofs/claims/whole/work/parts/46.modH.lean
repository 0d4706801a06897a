/-! THE REFERENCE, 17: in-betweens -/
section MODH
variable {G : mj_G} {A : mj_M}
/-- an end of an in-between's stroke -/
def co_x (B : mj_M) (d one other j : Int) : Int := gI B 212 (4 * one + j) + (gI B 206 d * (gI B 212 (4 * other + j) - gI B 212 (4 * one + j))).tdiv (gI B 207 d)
def co_m (B : mj_M) (d K one other j : Int) : mj_M := sF B 212 (fun q => if 4 * K ≤ q ∧ q < 4 * K + j then co_x B d one other (q - 4 * K) else gI B 212 q)
theorem co_m0 {B : mj_M} {d K one other : Int} : co_m B d K one other 0 = B := by
  unfold co_m
  exact mj_ext3 (fun _ => rfl) (fun c_ x_ => by simp only [gI_sI, gI_sF]; grind) (fun _ _ => rfl)
theorem co_m1 {B : mj_M} {d K one other j : Int} (hj : 0 ≤ j) : sI (co_m B d K one other j) 212 (4 * K + j) (co_x B d one other j) = co_m B d K one other (j + 1) := by
  unfold co_m
  refine mj_ext3 (fun _ => rfl) (fun c_ x_ => ?_) (fun _ _ => rfl)
  simp only [gI_sI, gI_sF]
  by_cases h : c_ = 212
  · by_cases e : x_ = 4 * K + j
    · rw [if_pos ⟨h, e⟩, if_pos h, if_pos (by omega), e]
      congr 1
      omega
    · rw [if_neg (fun hh => e hh.2), if_pos h, if_pos h]
      by_cases e2 : 4 * K ≤ x_ ∧ x_ < 4 * K + j
      · rw [if_pos e2, if_pos (by omega)]
      · rw [if_neg e2, if_neg (by omega)]
  · rw [if_neg (fun hh => h hh.1), if_neg h, if_neg h]
theorem co_mo {B : mj_M} {d K one other j i : Int} (h : i < 4 * K ∨ 4 * K + 4 ≤ i) (hj : j ≤ 4) : gI (co_m B d K one other j) 212 i = gI B 212 i := by
  unfold co_m
  rw [gI_sF, if_pos rfl, if_neg (by omega)]
theorem co_j {B : mj_M} {d a its one other K : Int} {P : Option mj_V → mj_M → Prop} (hM : MS B) (hE : ∀ k, 0 ≤ gI B 212 k ∧ gI B 212 k < 16) (hd : 0 ≤ d ∧ d < 16) (h1 : 0 ≤ one ∧ one < 128) (h2 : 0 ≤ other ∧ other < 128) (h3 : 0 ≤ K ∧ K < 128) (n1 : one ≠ K) (n2 : other ≠ K) (hp : 0 ≤ gI B 206 d ∧ gI B 206 d ≤ 24) (hw : 1 ≤ gI B 207 d ∧ gI B 207 d ≤ 24)
    (hP : ∀ l7 l8, mj_X G n_M_comes (mj_Qm G n_M_comes P mj_no) (co_m B d K one other 4) 0 0 173 [some (mR (some 200)), some (mI d), some (mI a), some (mI its), some (mI one), some (mI other), some (mI K), l7, l8] []) :
    ∀ q : Int × Option mj_V, (0 ≤ q.1 ∧ q.1 ≤ 4) → mj_X G n_M_comes (mj_Qm G n_M_comes P mj_no) (co_m B d K one other q.1) 0 0 93 [some (mR (some 200)), some (mI d), some (mI a), some (mI its), some (mI one), some (mI other), some (mI K), some (mI q.1), q.2] [] := by
  refine mj_loop _ (fun q => (4 - q.1).toNat) _ ?_
  intro ⟨j, l8⟩ hj ih
  replace hj : 0 ≤ j ∧ j ≤ 4 := hj
  show mj_X G n_M_comes (mj_Qm G n_M_comes P mj_no) (co_m B d K one other j) 0 0 93 [some (mR (some 200)), some (mI d), some (mI a), some (mI its), some (mI one), some (mI other), some (mI K), some (mI j), l8] []
  have x1 := hE (4 * one + j)
  have x2 := hE (4 * other + j)
  have hm := mo_mulr (a := gI B 206 d) (b := gI B 212 (4 * other + j) - gI B 212 (4 * one + j)) (by omega) (by omega)
  have e6 : gI (co_m B d K one other j) 206 d = gI B 206 d := rfl
  have e7 : gI (co_m B d K one other j) 207 d = gI B 207 d := rfl
  have rm : r32 (gI B 206 d * (gI B 212 (4 * other + j) - gI B 212 (4 * one + j))) := r32_mk (by omega) (by omega)
  have ht := mo_tdiv (b := gI B 207 d) hm
  refine mx_R fun hR => ?_
  refine mx_iload 7 d_M_comes_93 rfl ?_
  refine mx_iconst d_M_comes_95 ?_
  refine mx_icmp_ge 173 d_M_comes_96 rfl (by first | assumption | exact hR _ _ | exact r32_mk (by omega) (by omega)) (by first | assumption | exact hR _ _ | exact r32_mk (by omega) (by omega)) (fun c_96 => ?_) (fun c_96 => ?_)
  · rw [show j = 4 by omega]
    exact hP _ _
  · have y1 : gI (co_m B d K one other j) 212 (4 * one + j) = gI B 212 (4 * one + j) := co_mo (by omega) (by omega)
    have y2 : gI (co_m B d K one other j) 212 (4 * other + j) = gI B 212 (4 * other + j) := co_mo (by omega) (by omega)
    refine mx_aload_n 0 d_M_comes_99 rfl rfl ?_
    refine mx_getPs 12 d_M_comes_100 f_M_35 rfl rfl (hM.o) (hM.p12) ?_
    refine mx_iconst d_M_comes_103 ?_
    refine mx_iload 5 d_M_comes_104 rfl ?_
    refine mx_imul d_M_comes_106 ?_
    refine mx_iload 7 d_M_comes_107 rfl ?_
    refine mx_iadd d_M_comes_109 ?_
    refine mx_iald d_M_comes_110 (hM.s12) (by omega) (by omega) ?_
    rw [y2]
    refine mx_aload_n 0 d_M_comes_111 rfl rfl ?_
    refine mx_getPs 12 d_M_comes_112 f_M_35 rfl rfl (hM.o) (hM.p12) ?_
    refine mx_iconst d_M_comes_115 ?_
    refine mx_iload 4 d_M_comes_116 rfl ?_
    refine mx_imul d_M_comes_118 ?_
    refine mx_iload 7 d_M_comes_119 rfl ?_
    refine mx_iadd d_M_comes_121 ?_
    refine mx_iald d_M_comes_122 (hM.s12) (by omega) (by omega) ?_
    rw [y1]
    refine mx_isub d_M_comes_123 ?_
    refine mx_istore 8 d_M_comes_124 (Nat.le_of_ble_eq_true rfl) ?_
    refine mx_aload_n 0 d_M_comes_126 rfl rfl ?_
    refine mx_getPs 12 d_M_comes_127 f_M_35 rfl rfl (hM.o) (hM.p12) ?_
    refine mx_iconst d_M_comes_130 ?_
    refine mx_iload 6 d_M_comes_131 rfl ?_
    refine mx_imul d_M_comes_133 ?_
    refine mx_iload 7 d_M_comes_134 rfl ?_
    refine mx_iadd d_M_comes_136 ?_
    refine mx_aload_n 0 d_M_comes_137 rfl rfl ?_
    refine mx_getPs 12 d_M_comes_138 f_M_35 rfl rfl (hM.o) (hM.p12) ?_
    refine mx_iconst d_M_comes_141 ?_
    refine mx_iload 4 d_M_comes_142 rfl ?_
    refine mx_imul d_M_comes_144 ?_
    refine mx_iload 7 d_M_comes_145 rfl ?_
    refine mx_iadd d_M_comes_147 ?_
    refine mx_iald d_M_comes_148 (hM.s12) (by omega) (by omega) ?_
    rw [y1]
    refine mx_aload_n 0 d_M_comes_149 rfl rfl ?_
    refine mx_getPs 6 d_M_comes_150 f_M_16 rfl rfl (hM.o) (hM.p6) ?_
    refine mx_iload_n 1 d_M_comes_153 rfl rfl ?_
    refine mx_iald d_M_comes_154 (hM.s6) (by omega) (by omega) ?_
    rw [e6]
    refine mx_iload 8 d_M_comes_155 rfl ?_
    refine mx_imul d_M_comes_157 ?_
    refine mx_aload_n 0 d_M_comes_158 rfl rfl ?_
    refine mx_getPs 7 d_M_comes_159 f_M_19 rfl rfl (hM.o) (hM.p7) ?_
    refine mx_iload_n 1 d_M_comes_162 rfl rfl ?_
    refine mx_iald d_M_comes_163 (hM.s7) (by omega) (by omega) ?_
    rw [e7]
    refine mx_idiv d_M_comes_164 (by first | assumption | exact hR _ _ | exact r32_mk (by omega) (by omega)) (by first | assumption | exact hR _ _ | exact r32_mk (by omega) (by omega)) (by omega) ?_
    refine mx_iadd d_M_comes_165 ?_
    refine mx_iast d_M_comes_166 (hM.s12) (by omega) (by omega) (by first | assumption | exact hR _ _ | exact r32_mk (by omega) (by omega)) ?_
    refine mx_R fun hR_1 => ?_
    rw [show gI B 212 (4 * one + j) + (gI B 206 d * (gI B 212 (4 * other + j) - gI B 212 (4 * one + j))).tdiv (gI B 207 d) = co_x B d one other j from rfl, co_m1 hj.1]
    refine mx_iinc 7 d_M_comes_167 rfl (Nat.le_of_ble_eq_true rfl) ?_
    refine mx_goto 93 d_M_comes_170 rfl ?_
    exact ih (j + 1, _) (by show 0 ≤ j + 1 ∧ j + 1 ≤ 4; omega) (by show (4 - (j + 1)).toNat < (4 - j).toNat; omega)
end MODH
