/-! THE REFERENCE, 20: the walk over the names of an in-between -/
section MODK
variable {G : mj_G} {A : mj_M}
theorem co_x_pw {B : mj_M} {d k1 k2 j : Int} (hw : 1 ≤ gI B 207 d) : co_x B d k1 k2 j = mj_pw (gI B 212 (4 * k1 + j)) (gI B 212 (4 * k2 + j)) (gI B 206 d) (gI B 207 d) := by
  unfold co_x mj_pw
  rw [if_neg (by omega)]
/-- the ends are in the field -/
def co_r (f11 f12 : Int → Int) : Prop := (∀ k, 0 ≤ f11 k ∧ f11 k ≤ 7) ∧ ∀ k, (0 ≤ f12 (4 * k) ∧ f12 (4 * k) < 16) ∧ (0 ≤ f12 (4 * k + 1) ∧ f12 (4 * k + 1) < 12) ∧ (0 ≤ f12 (4 * k + 2) ∧ f12 (4 * k + 2) < 16) ∧ (0 ≤ f12 (4 * k + 3) ∧ f12 (4 * k + 3) < 12)
theorem co_r16 {f11 f12 : Int → Int} (h : co_r f11 f12) (q : Int) : 0 ≤ f12 q ∧ f12 q < 16 := by
  have h1 := h.2 (q / 4)
  have e : q = 4 * (q / 4) ∨ q = 4 * (q / 4) + 1 ∨ q = 4 * (q / 4) + 2 ∨ q = 4 * (q / 4) + 3 := by omega
  rcases e with e | e | e | e
  · rw [e]; exact h1.1
  · rw [e]; have := h1.2.1; omega
  · rw [e]; exact h1.2.2.1
  · rw [e]; have := h1.2.2.2; omega
theorem co_r1 {d K k1 k2 v : Int} {f11 f12 : Int → Int} (hst : mo_st2 A) (hw : 1 ≤ gI A 207 d) (hp : 0 ≤ gI A 206 d ∧ gI A 206 d ≤ gI A 207 d) (h : co_r f11 f12) (hv : 0 ≤ v ∧ v ≤ 7) : co_r (fun q => if q = K then v else f11 q) (fun q => if 4 * K ≤ q ∧ q < 4 * K + 4 then co_x A d k1 k2 (q - 4 * K) else f12 q) := by
  refine ⟨fun k => ?_, fun k => ?_⟩
  · show 0 ≤ (if k = K then v else f11 k) ∧ (if k = K then v else f11 k) ≤ 7
    have := h.1 k
    split <;> omega
  · by_cases e : k = K
    · rw [e]
      have x0 := pc_pw_r (lo := 0) (hi := 15) hp (a := gI A 212 (4 * k1)) (b := gI A 212 (4 * k2)) (by have := hst.x k1; omega) (by have := hst.x k2; omega)
      have x1 := pc_pw_r (lo := 0) (hi := 11) hp (a := gI A 212 (4 * k1 + 1)) (b := gI A 212 (4 * k2 + 1)) (by have := hst.y k1; omega) (by have := hst.y k2; omega)
      have x2 := pc_pw_r (lo := 0) (hi := 15) hp (a := gI A 212 (4 * k1 + 2)) (b := gI A 212 (4 * k2 + 2)) (by have := hst.u k1; omega) (by have := hst.u k2; omega)
      have x3 := pc_pw_r (lo := 0) (hi := 11) hp (a := gI A 212 (4 * k1 + 3)) (b := gI A 212 (4 * k2 + 3)) (by have := hst.v k1; omega) (by have := hst.v k2; omega)
      have e0 : ∀ j, 0 ≤ j → j < 4 → (fun q => if 4 * K ≤ q ∧ q < 4 * K + 4 then co_x A d k1 k2 (q - 4 * K) else f12 q) (4 * K + j) = mj_pw (gI A 212 (4 * k1 + j)) (gI A 212 (4 * k2 + j)) (gI A 206 d) (gI A 207 d) := fun j j0 j1 => by
        show (if 4 * K ≤ 4 * K + j ∧ 4 * K + j < 4 * K + 4 then co_x A d k1 k2 (4 * K + j - 4 * K) else f12 (4 * K + j)) = _
        rw [if_pos (by omega), show 4 * K + j - 4 * K = j by omega, co_x_pw hw]
      have y0 := e0 0 (by omega) (by omega)
      have y1 := e0 1 (by omega) (by omega)
      have y2 := e0 2 (by omega) (by omega)
      have y3 := e0 3 (by omega) (by omega)
      rw [Int.add_zero, Int.add_zero, Int.add_zero] at y0
      rw [y0, y1, y2, y3]
      omega
    · have h1 := h.2 k
      show (0 ≤ (if _ then _ else f12 (4 * k)) ∧ (if _ then _ else f12 (4 * k)) < 16) ∧ (0 ≤ (if _ then _ else f12 (4 * k + 1)) ∧ (if _ then _ else f12 (4 * k + 1)) < 12) ∧ (0 ≤ (if _ then _ else f12 (4 * k + 2)) ∧ (if _ then _ else f12 (4 * k + 2)) < 16) ∧ (0 ≤ (if _ then _ else f12 (4 * k + 3)) ∧ (if _ then _ else f12 (4 * k + 3)) < 12)
      rw [if_neg (by omega), if_neg (by omega), if_neg (by omega), if_neg (by omega)]
      exact h1
end MODK
