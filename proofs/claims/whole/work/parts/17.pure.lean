/-! PURE: fields that can be come to -/
section PURE
/-- neighbours -/
def bf_nb (p q : Int) : Prop := (q = p - 1 ∧ 0 < p % 16) ∨ (q = p + 1 ∧ p % 16 < 15) ∨ (q = p - 16 ∧ 16 ≤ p) ∨ (q = p + 16 ∧ p < 176)
theorem bf_nb_s {p q : Int} (hp : 0 ≤ p ∧ p < 192) (hq : 0 ≤ q ∧ q < 192) (h : bf_nb p q) : bf_nb q p := by
  unfold bf_nb at *
  omega
/-- what can be come to from a -/
def bf_re (op : Int → Prop) (a q : Int) : Prop := ∀ S : Int → Prop, (op a → S a) → (∀ p r, S p → bf_nb p r → op r → S r) → S q
theorem bf_base {op : Int → Prop} {a : Int} (h : op a) : bf_re op a a := fun _ h1 _ => h1 h
theorem bf_step {op : Int → Prop} {a p r : Int} (h : bf_re op a p) (h1 : bf_nb p r) (h2 : op r) : bf_re op a r := fun S s1 s2 => s2 p r (h S s1 s2) h1 h2
theorem bf_op {op : Int → Prop} {a q : Int} (h : bf_re op a q) : op a ∧ op q := ⟨(h (fun _ => op a) (fun x => x) (fun _ _ x _ _ => x)), h op (fun x => x) (fun _ _ _ _ x => x)⟩
theorem bf_trans {op : Int → Prop} {a p q : Int} (h : bf_re op a p) (h1 : bf_re op p q) : bf_re op a q :=
  h1 (fun x => bf_re op a x) (fun _ => h) (fun _ _ x y z => bf_step x y z)
theorem bf_symm {op : Int → Prop} (hr : ∀ q, op q → 0 ≤ q ∧ q < 192) {a q : Int} (h : bf_re op a q) : bf_re op q a := by
  have h1 : op q ∧ bf_re op q a := h (fun x => op x ∧ bf_re op x a) (fun x => ⟨x, bf_base x⟩) (fun p r ⟨x1, x2⟩ y z => ⟨z, bf_trans (bf_step (bf_base z) (bf_nb_s (hr _ x1) (hr _ z) y) x1) x2⟩)
  exact h1.2
/-- the sum of n -/
def mj_sum (f : Int → Int) : Nat → Int
  | 0 => 0
  | n + 1 => mj_sum f n + f n
theorem mj_sum_b {f : Int → Int} {b : Int} : ∀ n : Nat, (∀ i : Int, 0 ≤ i → i < n → 0 ≤ f i ∧ f i ≤ b) → 0 ≤ mj_sum f n ∧ mj_sum f n ≤ b * n
  | 0, _ => by rw [mj_sum]; omega
  | n + 1, h => by
    have h1 := mj_sum_b n (fun i h0 h1 => h i h0 (by omega))
    have h2 := h n (by omega) (by omega)
    rw [mj_sum]
    have h3 : b * ((n + 1 : Nat) : Int) = b * n + b := by rw [show ((n + 1 : Nat) : Int) = (n : Int) + 1 by omega, Int.mul_add, Int.mul_one]
    omega
theorem mj_sum_congr {f g : Int → Int} : ∀ n : Nat, (∀ i : Int, 0 ≤ i → i < n → f i = g i) → mj_sum f n = mj_sum g n
  | 0, _ => rfl
  | n + 1, h => by
    rw [mj_sum, mj_sum, mj_sum_congr n (fun i h0 h1 => h i h0 (by omega)), h n (by omega) (by omega)]
/-- one of the summands grows by v -/
theorem mj_sum_set {f : Int → Int} {p v : Int} : ∀ n : Nat, 0 ≤ p → p < n → mj_sum (fun q => if q = p then v else f q) n = mj_sum f n + v - f p
  | 0, h0, h1 => by omega
  | n + 1, h0, h1 => by
    rw [mj_sum, mj_sum]
    by_cases e : p = n
    · have h2 : mj_sum (fun q => if q = p then v else f q) n = mj_sum f n := mj_sum_congr n (fun i h0 h1 => if_neg (by omega))
      rw [h2, if_pos e.symm, e]
      omega
    · rw [mj_sum_set n h0 (by omega), if_neg (by omega)]
      omega
/-- a filling under way: c come to, w the way, n come to so far, k of them looked at -/
def bf_ok (op : Int → Prop) (a : Int) (c w : Int → Int) (n k : Int) : Prop :=
  n = mj_sum c 192 ∧ (∀ q, c q = 0 ∨ c q = 1) ∧ (∀ q, c q = 1 → bf_re op a q) ∧ (∀ i, 0 ≤ i → i < n → c (w i) = 1) ∧ (∀ q, c q = 1 → ∃ i, 0 ≤ i ∧ i < n ∧ w i = q) ∧ (∀ i, 0 ≤ i → i < k → ∀ q, bf_nb (w i) q → op q → c q = 1) ∧ (op a → c a = 1)
theorem bf_n {op : Int → Prop} {a : Int} {c w : Int → Int} {n k : Int} (h : bf_ok op a c w n k) : 0 ≤ n ∧ n ≤ 192 := by
  have h1 := mj_sum_b (f := c) (b := 1) 192 (fun i _ _ => by have := h.2.1 i; omega)
  rw [h.1]
  omega
theorem bf_n1 {op : Int → Prop} {a p : Int} {c w : Int → Int} {n k : Int} (h : bf_ok op a c w n k) (hp : 0 ≤ p ∧ p < 192) (hc : c p = 0) : n < 192 := by
  have h1 := mj_sum_b (f := fun q => if q = p then 1 else c q) (b := 1) 192 (fun i _ _ => by
    have := h.2.1 i
    show 0 ≤ (if i = p then 1 else c i) ∧ (if i = p then 1 else c i) ≤ 1
    split <;> omega)
  rw [mj_sum_set 192 hp.1 (by omega), hc] at h1
  rw [h.1]
  omega
/-- one more point -/
theorem bf_add {op : Int → Prop} {a p : Int} {c w : Int → Int} {n k : Int} (h : bf_ok op a c w n k) (hk : k ≤ n) (hp : 0 ≤ p ∧ p < 192) (hc : c p = 0) (hr : bf_re op a p) : bf_ok op a (fun q => if q = p then 1 else c q) (fun i => if i = n then p else w i) (n + 1) k := by
  obtain ⟨h1, h2, h3, h4, h5, h6, h7⟩ := h
  have hn : 0 ≤ n := by
    have h8 := mj_sum_b (f := c) (b := 1) 192 (fun i _ _ => by have := h2 i; omega)
    omega
  refine ⟨?_, fun q => ?_, fun q hq => ?_, fun i i0 i1 => ?_, fun q hq => ?_, fun i i0 i1 q hn1 hq => ?_, fun ho => ?_⟩
  · rw [mj_sum_set 192 hp.1 (by omega), hc]; omega
  · show (if q = p then 1 else c q) = 0 ∨ (if q = p then 1 else c q) = 1
    split
    · exact Or.inr rfl
    · exact h2 q
  · by_cases e : q = p
    · rw [e]; exact hr
    · exact h3 q (by rw [← hq]; exact (if_neg e).symm)
  · show (if (if i = n then p else w i) = p then 1 else c (if i = n then p else w i)) = 1
    by_cases e : i = n
    · rw [if_pos e, if_pos rfl]
    · rw [if_neg e]
      split
      · rfl
      · exact h4 i i0 (by omega)
  · by_cases e : q = p
    · exact ⟨n, hn, by omega, by show (if n = n then p else w n) = q; rw [if_pos rfl, e]⟩
    · have hq' : c q = 1 := by rw [← hq]; exact (if_neg e).symm
      obtain ⟨i, i0, i1, i2⟩ := h5 q hq'
      exact ⟨i, i0, by omega, by show (if i = n then p else w i) = q; rw [if_neg (by omega), i2]⟩
  · have hn2 : bf_nb (w i) q := by
      have : (if i = n then p else w i) = w i := if_neg (by omega)
      rw [← this]; exact hn1
    show (if q = p then 1 else c q) = 1
    split
    · rfl
    · exact h6 i i0 i1 q hn2 hq
  · show (if a = p then 1 else c a) = 1
    split
    · rfl
    · exact h7 ho
/-- what has been come to in the end -/
theorem bf_end {op : Int → Prop} {a : Int} {c w : Int → Int} {n : Int} (h : bf_ok op a c w n n) (q : Int) : c q = 1 ↔ bf_re op a q := by
  obtain ⟨h1, h2, h3, h4, h5, h6, h7⟩ := h
  refine ⟨h3 q, fun hr => hr (fun x => c x = 1) h7 fun p r hp hn ho => ?_⟩
  obtain ⟨i, i0, i1, i2⟩ := h5 p hp
  exact h6 i i0 i1 r (by rw [i2]; exact hn) ho
end PURE
