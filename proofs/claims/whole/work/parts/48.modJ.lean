/-! THE REFERENCE, 19: the strokes of an in-between -/
section MODJ
variable {G : mj_G} {A : mj_M}
abbrev co_f (A : mj_M) (a t : Int) : Int := mj_fx (gI A 210) t (8 * a) (gI A 209 a).toNat
/-- how many names below t both have -/
def co_n (A : mj_M) (a b : Int) : Nat → Int
  | 0 => 0
  | t + 1 => if co_f A a t ≠ -1 ∧ co_f A b t ≠ -1 then co_n A a b t + 1 else co_n A a b t
theorem co_n_r {A : mj_M} {a b : Int} : ∀ t : Nat, 0 ≤ co_n A a b t ∧ co_n A a b t ≤ t
  | 0 => by rw [co_n]; omega
  | t + 1 => by
    have h := co_n_r (A := A) (a := a) (b := b) t
    rw [co_n]
    split <;> omega
def co_w (A : mj_M) (f9 f10 f11 f12 : Int → Int) : mj_M := sF (sF (sF (sF A 209 f9) 210 f10) 211 f11) 212 f12
/-- the strokes of the names below t are laid -/
def co_s (A : mj_M) (d a b : Int) (t : Nat) (f9 f10 f11 f12 : Int → Int) : Prop := (∀ q, q ≠ d → f9 q = gI A 209 q) ∧ f9 d = co_n A a b t ∧ (∀ q, ¬ (8 * d ≤ q ∧ q < 8 * d + 8) → f10 q = gI A 210 q ∧ f11 q = gI A 211 q) ∧ (∀ q, ¬ (32 * d ≤ q ∧ q < 32 * d + 32) → f12 q = gI A 212 q) ∧ ∀ s : Nat, s < t → co_f A a s ≠ -1 ∧ co_f A b s ≠ -1 → f10 (8 * d + co_n A a b s) = s ∧ f11 (8 * d + co_n A a b s) = gI A 211 (co_f A a s) ∧ ∀ j, 0 ≤ j → j < 4 → f12 (4 * (8 * d + co_n A a b s) + j) = co_x A d (co_f A a s) (co_f A b s) j
theorem co_n_lt {A : mj_M} {a b : Int} {s : Nat} (h : co_f A a s ≠ -1 ∧ co_f A b s ≠ -1) : ∀ t : Nat, s < t → co_n A a b s < co_n A a b t
  | 0, hs => by omega
  | t + 1, hs => by
    rw [co_n]
    by_cases e : s = t
    · rw [e] at h
      rw [if_pos h, e]
      omega
    · have h1 := co_n_lt h t (by omega)
      split <;> omega
/-- one more name that both have -/
theorem co_s1 {d a b : Int} {t : Nat} {f9 f10 f11 f12 : Int → Int} (h : co_s A d a b t f9 f10 f11 f12) (hb : co_f A a t ≠ -1 ∧ co_f A b t ≠ -1) (h8 : t < 8) :
    co_s A d a b (t + 1) (fun q => if q = d then co_n A a b t + 1 else f9 q) (fun q => if q = 8 * d + co_n A a b t then (t : Int) else f10 q) (fun q => if q = 8 * d + co_n A a b t then gI A 211 (co_f A a t) else f11 q) (fun q => if 4 * (8 * d + co_n A a b t) ≤ q ∧ q < 4 * (8 * d + co_n A a b t) + 4 then co_x A d (co_f A a t) (co_f A b t) (q - 4 * (8 * d + co_n A a b t)) else f12 q) := by
  obtain ⟨h1, h2, h3, h4, h5⟩ := h
  have hr := co_n_r (A := A) (a := a) (b := b) t
  refine ⟨fun q hq => ?_, ?_, fun q hq => ⟨?_, ?_⟩, fun q hq => ?_, fun s hs hbs => ?_⟩
  · show (if q = d then _ else f9 q) = _
    rw [if_neg hq]; exact h1 q hq
  · show (if d = d then _ else f9 d) = _
    rw [if_pos rfl, co_n, if_pos hb]
  · show (if q = 8 * d + co_n A a b t then _ else f10 q) = _
    rw [if_neg (by omega)]; exact (h3 q hq).1
  · show (if q = 8 * d + co_n A a b t then _ else f11 q) = _
    rw [if_neg (by omega)]; exact (h3 q hq).2
  · show (if 4 * (8 * d + co_n A a b t) ≤ q ∧ q < 4 * (8 * d + co_n A a b t) + 4 then _ else f12 q) = _
    rw [if_neg (by omega)]; exact h4 q hq
  · by_cases e : s = t
    · rw [e]
      refine ⟨if_pos rfl, if_pos rfl, fun j j0 j1 => ?_⟩
      show (if 4 * (8 * d + co_n A a b t) ≤ 4 * (8 * d + co_n A a b t) + j ∧ 4 * (8 * d + co_n A a b t) + j < 4 * (8 * d + co_n A a b t) + 4 then co_x A d (co_f A a t) (co_f A b t) (4 * (8 * d + co_n A a b t) + j - 4 * (8 * d + co_n A a b t)) else _) = _
      rw [if_pos (by omega)]
      congr 1
      omega
    · have hlt := co_n_lt hbs t (by omega)
      have h6 := h5 s (by omega) hbs
      refine ⟨?_, ?_, fun j j0 j1 => ?_⟩
      · show (if _ = 8 * d + co_n A a b t then _ else f10 _) = _
        rw [if_neg (by omega)]; exact h6.1
      · show (if _ = 8 * d + co_n A a b t then _ else f11 _) = _
        rw [if_neg (by omega)]; exact h6.2.1
      · show (if 4 * (8 * d + co_n A a b t) ≤ 4 * (8 * d + co_n A a b s) + j ∧ 4 * (8 * d + co_n A a b s) + j < 4 * (8 * d + co_n A a b t) + 4 then _ else f12 _) = _
        rw [if_neg (by omega)]; exact h6.2.2 j j0 j1
theorem co_s0 {d a b : Int} {t : Nat} {f9 f10 f11 f12 : Int → Int} (h : co_s A d a b t f9 f10 f11 f12) (hb : ¬ (co_f A a t ≠ -1 ∧ co_f A b t ≠ -1)) : co_s A d a b (t + 1) f9 f10 f11 f12 := by
  obtain ⟨h1, h2, h3, h4, h5⟩ := h
  refine ⟨h1, by rw [h2, co_n, if_neg hb], h3, h4, fun s hs hbs => ?_⟩
  by_cases e : s = t
  · rw [e] at hbs; exact absurd hbs hb
  · exact h5 s (by omega) hbs
end MODJ
