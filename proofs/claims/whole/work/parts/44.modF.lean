/-! THE REFERENCE, 15: paints of a drawing -/
section MODF
variable {G : mj_G} {A : mj_M}
theorem fi_mm {B : mj_M} {g c w g' c' w' : Int → Int} {n n' : Int} : fi_m (fi_m B g c w n) g' c' w' n' = fi_m B g' c' w' n' := by
  unfold fi_m
  exact mj_ext3 (fun _ => rfl) (fun c_ x_ => by simp only [gI_sI, gI_sF]; grind) (fun _ _ => rfl)
theorem fi_dr {B : mj_M} {g h : Int → Int} : dr_m B g h = fi_m (sF B 219 h) g (gI B 221) (gI B 220) (gI B 200 45) := by
  unfold dr_m fi_m
  exact mj_ext3 (fun _ => rfl) (fun c_ x_ => by simp only [gI_sI, gI_sF]; grind) (fun _ _ => rfl)
abbrev mo_S (B : mj_M) (d : Int) : Int → Int := fun i => gI B 214 (6 * d + i)
abbrev mo_F (B : mj_M) (d : Int) : Int → Int := fun i => gI B 215 (6 * d + i)
/-- k paints are laid -/
def dr_p (B : mj_M) (d : Int) (op : Int → Prop) (ln : Int → Int) (k : Nat) (g c : Int → Int) : Prop := (∀ q, ¬ (192 * d ≤ q ∧ q < 192 * d + 192) → g q = gI B 218 q) ∧ (∀ p, 0 ≤ p → p < 192 → pc_pt op ln (mo_S B d) (mo_F B d) k p (g (192 * d + p))) ∧ (∀ q, ¬ (0 ≤ q ∧ q < 192) → c q = 0)
theorem dr_paints {B : mj_M} {d : Int} {op : Int → Prop} {ln h : Int → Int} {P : Option mj_V → mj_M → Prop} (hM : MS B) (hd : 0 ≤ d ∧ d < 16) (hn : 0 ≤ gI B 213 d ∧ gI B 213 d ≤ 6) (hs : ∀ k, 0 ≤ gI B 214 k ∧ gI B 214 k < 192) (hf : ∀ k, 0 ≤ gI B 215 k ∧ gI B 215 k ≤ 7) (ho : ∀ q, op q ↔ (0 ≤ q ∧ q < 192) ∧ h (192 * d + q) = 0)
    (hP : ∀ g c w n, dr_p B d op ln (gI B 213 d).toNat g c → P none (fi_m (sF B 219 h) g c w n)) {l3 l4 l5 l6 l7 l8 : Option mj_V} :
    ∀ q : Nat × (Int → Int) × (Int → Int) × (Int → Int) × Int, ((q.1 : Int) ≤ gI B 213 d ∧ dr_p B d op ln q.1 q.2.1 q.2.2.1) → mj_X G n_M_draws (mj_Qm G n_M_draws P mj_no) (fi_m (sF B 219 h) q.2.1 q.2.2.1 q.2.2.2.1 q.2.2.2.2) 0 0 399 [some (mR (some 200)), some (mI d), some (mI (6 * d + q.1)), l3, l4, l5, l6, l7, l8] [] := by
  refine mj_loop _ (fun q => 7 - q.1) _ ?_
  intro ⟨k, g, c, w, n⟩ ⟨hk, hi⟩ ih
  replace hk : (k : Int) ≤ gI B 213 d := hk
  replace hi : dr_p B d op ln k g c := hi
  have e13 : gI (fi_m (sF B 219 h) g c w n) 213 d = gI B 213 d := rfl
  have hs1 := hs (6 * d + k)
  have e14 : gI (fi_m (sF B 219 h) g c w n) 214 (6 * d + k) = gI B 214 (6 * d + k) := rfl
  have e15 : gI (fi_m (sF B 219 h) g c w n) 215 (6 * d + k) = gI B 215 (6 * d + k) := rfl
  have hf1 := hf (6 * d + k)
  have hop : fi_op (fi_m (sF B 219 h) g c w n) d = op := funext fun q => propext (ho q).symm
  show mj_X G n_M_draws (mj_Qm G n_M_draws P mj_no) (fi_m (sF B 219 h) g c w n) 0 0 399 [some (mR (some 200)), some (mI d), some (mI (6 * d + k)), l3, l4, l5, l6, l7, l8] []
  refine mx_R fun hR => ?_
  refine mx_iload_n 2 d_M_draws_399 rfl rfl ?_
  refine mx_bipush d_M_draws_400 (by decide) ?_
  refine mx_iload_n 1 d_M_draws_402 rfl rfl ?_
  refine mx_imul d_M_draws_403 ?_
  refine mx_aload_n 0 d_M_draws_404 rfl rfl ?_
  refine mx_getPs 13 d_M_draws_405 f_M_38 rfl rfl (hM.o) (hM.p13) ?_
  refine mx_iload_n 1 d_M_draws_408 rfl rfl ?_
  refine mx_iald d_M_draws_409 (hM.s13) (by omega) (by omega) ?_
  refine mx_iadd d_M_draws_410 ?_
  refine mx_icmp_ge 437 d_M_draws_411 rfl (by first | assumption | exact hR _ _ | exact r32_mk (by omega) (by omega)) (by first | assumption | exact hR _ _ | exact r32_mk (by omega) (by omega)) (fun c_411 => ?_) (fun c_411 => ?_)
  · refine mx_vret d_M_draws_437 rfl ?_
    rw [show k = (gI B 213 d).toNat by omega] at hi
    exact hP g c w n hi
  · refine mx_aload_n 0 d_M_draws_414 rfl rfl ?_
    refine mx_iload_n 1 d_M_draws_415 rfl rfl ?_
    refine mx_aload_n 0 d_M_draws_416 rfl rfl ?_
    refine mx_getPs 14 d_M_draws_417 f_M_41 rfl rfl (hM.o) (hM.p14) ?_
    refine mx_iload_n 2 d_M_draws_420 rfl rfl ?_
    refine mx_iald d_M_draws_421 (hM.s14) (by omega) (by omega) ?_
    rw [e14]
    refine mx_aload_n 0 d_M_draws_422 rfl rfl ?_
    refine mx_getPs 15 d_M_draws_423 f_M_44 rfl rfl (hM.o) (hM.p15) ?_
    refine mx_iload_n 2 d_M_draws_426 rfl rfl ?_
    refine mx_iald d_M_draws_427 (hM.s15) (by omega) (by omega) ?_
    rw [e15]
    refine mx_callV (kc := 0) (ks := 0) (N := n_M_fills) (as := [_, _, _]) (ci := 7) d_M_draws_428 s_M_176 ⟨Nat.le_of_ble_eq_true rfl, Nat.le_of_ble_eq_true rfl⟩ rfl (mj_wt_8 (Nat.le_of_ble_eq_true rfl)) (hM.o) ⟨_, rfl, rfl⟩ (cm_fills (A := fi_m (sF B 219 h) g c w n) hM hd hs1 (r32_mk (by omega) (by omega)) hi.2.2) (fun r_428 A_428 h_428 => ?_) (fun E_428 A_x h_428 => ?_)
    rotate_left
    · exact h_428.elim
    obtain ⟨rfl, g1, c1, w1, n1, hA_428, hin⟩ := h_428
    obtain rfl := hA_428.symm
    clear hA_428
    refine mx_R fun hR_1 => ?_
    refine mx_iinc 2 d_M_draws_431 rfl (Nat.le_of_ble_eq_true rfl) ?_
    refine mx_goto 399 d_M_draws_434 rfl ?_
    rw [fi_mm]
    have hin' := hin
    obtain ⟨q1, q2, q3, q4, q5, q6⟩ := hin'
    have h9 := ih (k + 1, g1, c1, w1, n1) ⟨by show ((k + 1 : Nat) : Int) ≤ _; omega, ⟨fun q hq => (q3 q hq).trans (hi.1 q hq), fun p p0 p1 => ?_, q6⟩⟩ (by show 7 - (k + 1) < 7 - k; omega)
    · rw [show 6 * d + (k : Int) + 1 = 6 * d + ((k + 1 : Nat) : Int) by omega]
      exact h9
    · have h10 := fi_end hin ⟨p0, p1⟩
      rw [hop] at h10
      show pc_pt op ln (mo_S B d) (mo_F B d) (k + 1) p (g1 (192 * d + p))
      rw [pc_pt]
      by_cases hr : bf_re op (mo_S B d k) p
      · exact Or.inl ⟨hr, h10.1 hr⟩
      · refine Or.inr ⟨hr, ?_⟩
        rw [h10.2 hr]
        exact hi.2.1 p p0 p1
end MODF
