/-! PURE: lines, walls, pictures -/
section PURE2
/-- one of n -/
def mj_any (f : Int → Bool) : Nat → Bool
  | 0 => false
  | n + 1 => mj_any f n || f n
theorem mj_any_iff {f : Int → Bool} : ∀ n : Nat, mj_any f n = true ↔ ∃ i : Int, 0 ≤ i ∧ i < n ∧ f i = true
  | 0 => ⟨fun h => (by cases h), fun ⟨i, h0, h1, _⟩ => (by omega)⟩
  | n + 1 => by
    rw [mj_any, Bool.or_eq_true, mj_any_iff n]
    constructor
    · rintro (⟨i, h0, h1, h2⟩ | h)
      · exact ⟨i, h0, by omega, h2⟩
      · exact ⟨n, by omega, by omega, h⟩
    · rintro ⟨i, h0, h1, h2⟩
      by_cases e : i = n
      · rw [e] at h2; exact Or.inr h2
      · exact Or.inl ⟨i, h0, by omega, h2⟩
def pc_ab (v : Int) : Int := if v < 0 then -v else v
/-- the steps of a stroke -/
def pc_m (a b c d : Int) : Int := if pc_ab (c - a) > pc_ab (d - b) then pc_ab (c - a) else pc_ab (d - b)
/-- its point at step j -/
def pc_p (a b c d j : Int) : Int := 16 * mj_pw b d j (pc_m a b c d) + mj_pw a c j (pc_m a b c d)
def pc_cov (a b c d p : Int) : Bool := mj_any (fun j => decide (pc_p a b c d j = p)) ((pc_m a b c d).toNat + 1)
/-- E: the ends of the strokes, four for each; I: their inks -/
def pc_cs (E : Int → Int) (k p : Int) : Bool := pc_cov (E (4 * k)) (E (4 * k + 1)) (E (4 * k + 2)) (E (4 * k + 3)) p
/-- the line at a point: the last that covers it -/
def pc_ln (E I : Int → Int) : Nat → Int → Int
  | 0, _ => -1
  | n + 1, p => if pc_cs E n p = true then I n else pc_ln E I n p
def pc_cv (E : Int → Int) : Nat → Int → Bool
  | 0, _ => false
  | n + 1, p => pc_cv E n p || pc_cs E n p
def pc_il (L : Int → Bool) (x y : Int) : Bool := decide (0 ≤ x ∧ x < 16 ∧ 0 ≤ y ∧ y < 12) && L (16 * y + x)
def pc_gp (L : Int → Bool) (p : Int) : Bool := (pc_il L (p % 16 - 1) (p / 16) && pc_il L (p % 16 + 1) (p / 16)) || (pc_il L (p % 16) (p / 16 - 1) && pc_il L (p % 16) (p / 16 + 1))
/-- 1 a line, 2 a wall, 0 open -/
def pc_mk (L : Int → Bool) (cl p : Int) : Int := if L p = true then 1 else if cl ≠ 0 ∧ pc_gp L p = true then 2 else 0
def pc_op (L : Int → Bool) (cl q : Int) : Prop := (0 ≤ q ∧ q < 192) ∧ pc_mk L cl q = 0
/-- what a point has in the end: the last paint that comes to it, else the line -/
def pc_pt (op : Int → Prop) (ln S F : Int → Int) : Nat → Int → Int → Prop
  | 0, p, v => v = ln p
  | n + 1, p, v => (bf_re op (S n) p ∧ v = F n) ∨ (¬ bf_re op (S n) p ∧ pc_pt op ln S F n p v)
theorem pc_pt_u {op : Int → Prop} {ln S F : Int → Int} : ∀ (n : Nat) {p v w : Int}, pc_pt op ln S F n p v → pc_pt op ln S F n p w → v = w
  | 0, _, _, _, h1, h2 => h1.trans h2.symm
  | n + 1, _, _, _, h1, h2 => by
    rcases h1 with ⟨a1, a2⟩ | ⟨a1, a2⟩
    · rcases h2 with ⟨b1, b2⟩ | ⟨b1, b2⟩
      · rw [a2, b2]
      · exact absurd a1 b1
    · rcases h2 with ⟨b1, b2⟩ | ⟨b1, b2⟩
      · exact absurd b1 a1
      · exact pc_pt_u n a2 b2
/-- a part of a way lies between its ends -/
theorem pc_pw_r {a b n d lo hi : Int} (hn : 0 ≤ n ∧ n ≤ d) (ha : lo ≤ a ∧ a ≤ hi) (hb : lo ≤ b ∧ b ≤ hi) : lo ≤ mj_pw a b n d ∧ mj_pw a b n d ≤ hi := by
  unfold mj_pw
  split
  · exact ha
  · have hd : 0 < d := by omega
    by_cases h : a ≤ b
    · have h0 : 0 ≤ n * (b - a) := Int.mul_nonneg hn.1 (by omega)
      rw [Int.tdiv_eq_ediv_of_nonneg h0]
      have h1 : 0 ≤ n * (b - a) / d := Int.ediv_nonneg h0 (by omega)
      have h2 : n * (b - a) / d ≤ b - a := by
        refine Int.ediv_le_of_le_mul hd ?_
        rw [Int.mul_comm (b - a) d]
        exact Int.mul_le_mul_of_nonneg_right hn.2 (by omega)
      omega
    · have h0 : 0 ≤ n * (a - b) := Int.mul_nonneg hn.1 (by omega)
      have e : n * (b - a) = -(n * (a - b)) := by rw [← Int.mul_neg]; congr 1; omega
      rw [e, Int.neg_tdiv, Int.tdiv_eq_ediv_of_nonneg h0]
      have h1 : 0 ≤ n * (a - b) / d := Int.ediv_nonneg h0 (by omega)
      have h2 : n * (a - b) / d ≤ a - b := by
        refine Int.ediv_le_of_le_mul hd ?_
        rw [Int.mul_comm (a - b) d]
        exact Int.mul_le_mul_of_nonneg_right hn.2 (by omega)
      omega
theorem pc_m_r {a b c d : Int} : 0 ≤ pc_m a b c d ∧ -(pc_m a b c d) ≤ c - a ∧ c - a ≤ pc_m a b c d ∧ -(pc_m a b c d) ≤ d - b ∧ d - b ≤ pc_m a b c d := by
  unfold pc_m pc_ab
  omega
theorem pc_p_r {a b c d j : Int} (h1 : 0 ≤ a ∧ a < 16) (h2 : 0 ≤ b ∧ b < 12) (h3 : 0 ≤ c ∧ c < 16) (h4 : 0 ≤ d ∧ d < 12) (hj : 0 ≤ j ∧ j ≤ pc_m a b c d) : 0 ≤ pc_p a b c d j ∧ pc_p a b c d j < 192 := by
  have e1 := pc_pw_r (lo := 0) (hi := 15) hj (show 0 ≤ a ∧ a ≤ 15 by omega) (show 0 ≤ c ∧ c ≤ 15 by omega)
  have e2 := pc_pw_r (lo := 0) (hi := 11) hj (show 0 ≤ b ∧ b ≤ 11 by omega) (show 0 ≤ d ∧ d ≤ 11 by omega)
  unfold pc_p
  omega
end PURE2
