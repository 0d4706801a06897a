/-! PURE: a stroke is laid, is taken away; a paint; gaps -/
section PURE4
theorem mj_sum_add {a b : Int → Int} : ∀ n : Nat, mj_sum (fun v => a v + b v) n = mj_sum a n + mj_sum b n
  | 0 => rfl
  | n + 1 => by
    rw [mj_sum, mj_sum, mj_sum, mj_sum_add n]
    omega
theorem pg_0 {f : Int → Int} {v : Int} : ∀ n : Nat, (∀ i : Int, 0 ≤ i → i < n → f i ≠ v) → mj_sum (fun i => if v = f i then 1 else 0) n = 0
  | 0, _ => rfl
  | n + 1, h => by
    rw [mj_sum, pg_0 n (fun i h0 h1 => h i h0 (by omega)), if_neg (fun e => h n (by omega) (by omega) e.symm)]
    rfl
theorem pg_1 {f : Int → Int} {v : Int} : ∀ n : Nat, (∀ i j : Int, 0 ≤ i → i < n → 0 ≤ j → j < n → f i = f j → i = j) → 0 ≤ mj_sum (fun i => if v = f i then 1 else 0) n ∧ mj_sum (fun i => if v = f i then 1 else 0) n ≤ 1
  | 0, _ => by rw [mj_sum]; omega
  | n + 1, h => by
    have h1 := pg_1 (f := f) (v := v) n (fun i j i0 i1 j0 j1 e => h i j i0 (by omega) j0 (by omega) e)
    rw [mj_sum]
    by_cases e : v = f n
    · rw [if_pos e, pg_0 n (fun i i0 i1 e2 => by
        have := h i n i0 (by omega) (by omega) (by omega) (by rw [e2, e])
        omega)]
      omega
    · rw [if_neg e]
      omega
theorem pg_2 {f : Int → Int} : ∀ n : Nat, (∀ i : Int, 0 ≤ i → i < n → 0 ≤ f i ∧ f i ≤ 7) → mj_sum (fun v => mj_sum (fun i => if v = f i then 1 else 0) n) 8 = n
  | 0, _ => by
    show mj_sum (fun _ => 0) 8 = 0
    exact mj_sum_z 8
  | n + 1, h => by
    have h1 := pg_2 (f := f) n (fun i i0 i1 => h i i0 (by omega))
    have h2 := h n (by omega) (by omega)
    have h3 := mj_sum_add (a := fun v => mj_sum (fun i => if v = f i then 1 else 0) n) (b := fun v => if v = f n then 1 else 0) 8
    have h4 := mj_sum_set (f := fun _ => 0) (p := f n) (v := 1) 8 h2.1 (by omega)
    rw [mj_sum_z] at h4
    show mj_sum (fun v => mj_sum (fun i => if v = f i then 1 else 0) n + (if v = f n then 1 else 0)) 8 = _
    rw [h3, h1]
    show (n : Int) + mj_sum (fun q => if q = f n then 1 else (fun _ => 0) q) 8 = _
    rw [h4]
    omega
/-- eight names fill eight strokes -/
theorem pg_n {f : Int → Int} {x : Int} {n : Nat} (hr : ∀ i : Int, 0 ≤ i → i < n → 0 ≤ f i ∧ f i ≤ 7) (hi : ∀ i j : Int, 0 ≤ i → i < n → 0 ≤ j → j < n → f i = f j → i = j) (hx : 0 ≤ x ∧ x ≤ 7) (hn : ∀ i : Int, 0 ≤ i → i < n → f i ≠ x) : n < 8 := by
  have h1 := pg_2 n hr
  have h2 := mj_sum_set (f := fun v => mj_sum (fun i => if v = f i then 1 else 0) n) (p := x) (v := 1) 8 hx.1 (by omega)
  have h3 := mj_sum_b (f := fun q => if q = x then 1 else mj_sum (fun i => if q = f i then 1 else 0) n) (b := 1) 8 (fun i _ _ => by
    have := pg_1 (v := i) n hi
    show 0 ≤ (if i = x then 1 else mj_sum (fun j => if i = f j then 1 else 0) n) ∧ (if i = x then 1 else mj_sum (fun j => if i = f j then 1 else 0) n) ≤ 1
    split <;> omega)
  rw [h2, h1, pg_0 n hn] at h3
  omega
theorem c_pg {c : cT} (h : cr c) {x : Int} (hx : 0 ≤ x ∧ x ≤ 7) (hf : c_f c x = -1) : c_n c < 8 := by
  have hn := h.n
  have h1 : (c_n c).toNat < 8 := pg_n (f := c_N c) (x := x) (fun i i0 i1 => h.N i i0 (by omega)) (fun i j i0 i1 j0 j1 e => h.D i j i0 (by omega) j0 (by omega) e) hx (fun i i0 i1 e => by
    have h2 : ∃ k : Nat, (k : Int) < c_n c ∧ c_N c k = x ∧ ∀ j : Int, 0 ≤ j → j < k → c_N c j ≠ x := by
      refine ⟨i.toNat, by omega, by rw [show ((i.toNat : Nat) : Int) = i by omega]; exact e, fun j j0 j1 e2 => ?_⟩
      have := h.D i j i0 (by omega) j0 (by omega) (by rw [e, e2])
      omega
    obtain ⟨k, k1, k2, k3⟩ := h2
    have h4 : c_f c x = k := mj_fx_s (nm := c_N c) (by omega) (by omega) k2 (fun j j0 j1 => k3 j j0 j1) _ (by omega)
    omega)
  omega
/-- a stroke is laid at the place i -/
def pu (c : cT) (c' : cT) (its : Int) (a : Int) (b : Int) (x : Int) (y : Int) (v : Int) (i : Int) : Prop := ((c_f c its = i ∧ i ≠ -1 ∧ c_n c' = c_n c) ∨ (c_f c its = -1 ∧ i = c_n c ∧ c_n c' = c_n c + 1)) ∧ (∀ j, 0 ≤ j → j < c_n c' → c_N c' j = if j = i then its else c_N c j) ∧ (∀ j, 0 ≤ j → j < c_n c' → c_I c' j = if j = i then v else c_I c j) ∧ (∀ j q, 0 ≤ j → j < c_n c' → 0 ≤ q → q < 4 → c_E c' (4 * j + q) = if j = i then (if q = 0 then a else if q = 1 then b else if q = 2 then x else y) else c_E c (4 * j + q)) ∧ (c_p c' = c_p c) ∧ (∀ j, 0 ≤ j → j < c_p c → c_S c' j = c_S c j) ∧ (∀ j, 0 ≤ j → j < c_p c → c_F c' j = c_F c j) ∧ (c_c c' = c_c c)
theorem pu.f {c : cT} {c' : cT} {its : Int} {a : Int} {b : Int} {x : Int} {y : Int} {v : Int} {i : Int} (h : pu c c' its a b x y v i) : (c_f c its = i ∧ i ≠ -1 ∧ c_n c' = c_n c) ∨ (c_f c its = -1 ∧ i = c_n c ∧ c_n c' = c_n c + 1) := h.1
theorem pu.N {c : cT} {c' : cT} {its : Int} {a : Int} {b : Int} {x : Int} {y : Int} {v : Int} {i : Int} (h : pu c c' its a b x y v i) : ∀ j, 0 ≤ j → j < c_n c' → c_N c' j = if j = i then its else c_N c j := h.2.1
theorem pu.I {c : cT} {c' : cT} {its : Int} {a : Int} {b : Int} {x : Int} {y : Int} {v : Int} {i : Int} (h : pu c c' its a b x y v i) : ∀ j, 0 ≤ j → j < c_n c' → c_I c' j = if j = i then v else c_I c j := h.2.2.1
theorem pu.E {c : cT} {c' : cT} {its : Int} {a : Int} {b : Int} {x : Int} {y : Int} {v : Int} {i : Int} (h : pu c c' its a b x y v i) : ∀ j q, 0 ≤ j → j < c_n c' → 0 ≤ q → q < 4 → c_E c' (4 * j + q) = if j = i then (if q = 0 then a else if q = 1 then b else if q = 2 then x else y) else c_E c (4 * j + q) := h.2.2.2.1
theorem pu.p {c : cT} {c' : cT} {its : Int} {a : Int} {b : Int} {x : Int} {y : Int} {v : Int} {i : Int} (h : pu c c' its a b x y v i) : c_p c' = c_p c := h.2.2.2.2.1
theorem pu.S {c : cT} {c' : cT} {its : Int} {a : Int} {b : Int} {x : Int} {y : Int} {v : Int} {i : Int} (h : pu c c' its a b x y v i) : ∀ j, 0 ≤ j → j < c_p c → c_S c' j = c_S c j := h.2.2.2.2.2.1
theorem pu.F {c : cT} {c' : cT} {its : Int} {a : Int} {b : Int} {x : Int} {y : Int} {v : Int} {i : Int} (h : pu c c' its a b x y v i) : ∀ j, 0 ≤ j → j < c_p c → c_F c' j = c_F c j := h.2.2.2.2.2.2.1
theorem pu.c {c : cT} {c' : cT} {its : Int} {a : Int} {b : Int} {x : Int} {y : Int} {v : Int} {i : Int} (h : pu c c' its a b x y v i) : c_c c' = c_c c := h.2.2.2.2.2.2.2
theorem pu_u {c1 c1' c2 c2' : cT} {its a b x y v i1 i2 : Int} (h : ce c1 c2) (h1 : pu c1 c1' its a b x y v i1) (h2 : pu c2 c2' its a b x y v i2) : ce c1' c2' := by
  have ef := c_f_e h its
  have en := h.n
  have ep := h.p
  have f1 := h1.f
  have f2 := h2.f
  have p1 := h1.p
  have p2 := h2.p
  have ei : i1 = i2 := by omega
  have r1 := c_f_r (c := c1) its
  subst ei
  refine ce_mk (by omega) (fun j j0 j1 => ?_) (fun j j0 j1 => ?_) (fun q q0 q1 => ?_) (by omega) (fun j j0 j1 => ?_) (fun j j0 j1 => ?_) (by rw [h1.c, h2.c, h.c])
  · rw [h1.N j j0 j1, h2.N j j0 (by omega)]
    by_cases e : j = i1
    · rw [if_pos e, if_pos e]
    · rw [if_neg e, if_neg e, h.N j j0 (by omega)]
  · rw [h1.I j j0 j1, h2.I j j0 (by omega)]
    by_cases e : j = i1
    · rw [if_pos e, if_pos e]
    · rw [if_neg e, if_neg e, h.I j j0 (by omega)]
  · have k1 := h1.E (q / 4) (q % 4) (by omega) (by omega) (by omega) (by omega)
    have k2 := h2.E (q / 4) (q % 4) (by omega) (by omega) (by omega) (by omega)
    rw [show 4 * (q / 4) + q % 4 = q by omega] at k1 k2
    rw [k1, k2]
    by_cases e : q / 4 = i1
    · rw [if_pos e, if_pos e]
    · rw [if_neg e, if_neg e, h.E q q0 (by omega)]
  · rw [h1.S j j0 (by omega), h2.S j j0 (by omega), h.S j j0 (by omega)]
  · rw [h1.F j j0 (by omega), h2.F j j0 (by omega), h.F j j0 (by omega)]
theorem pu_r {c c' : cT} {its a b x y v i : Int} (h : cr c) (k : pu c c' its a b x y v i) (hi : 0 ≤ its ∧ its ≤ 7) (ha : 0 ≤ a ∧ a < 16) (hb : 0 ≤ b ∧ b < 12) (hx : 0 ≤ x ∧ x < 16) (hy : 0 ≤ y ∧ y < 12) (hv : 0 ≤ v ∧ v ≤ 7) : cr c' := by
  have hn := h.n
  have hp := h.p
  have f := k.f
  have kp := k.p
  have r := c_f_r (c := c) its
  have pg := c_pg h hi
  have hno : ∀ j, 0 ≤ j → j < c_n c → j ≠ i → c_N c j ≠ its := fun j j0 j1 j2 e => by
    rcases f with f | f
    · have := h.D j i j0 j1 (by omega) (by omega) (by rw [e, ← f.1]; omega)
      omega
    · have h4 : ∃ q : Nat, (q : Int) < c_n c ∧ c_N c q = its ∧ ∀ z : Int, 0 ≤ z → z < q → c_N c z ≠ its := by
        refine ⟨j.toNat, by omega, by rw [show ((j.toNat : Nat) : Int) = j by omega]; exact e, fun z z0 z1 e2 => ?_⟩
        have := h.D j z j0 j1 z0 (by omega) (by rw [e, e2])
        omega
      obtain ⟨q, q1, q2, q3⟩ := h4
      have h5 : c_f c its = q := mj_fx_s (nm := c_N c) (by omega) (by omega) q2 (fun z z0 z1 => q3 z z0 z1) _ (by omega)
      omega
  refine ⟨by omega, fun j j0 j1 => ?_, fun j l j0 j1 l0 l1 e => ?_, fun j j0 j1 => ?_, fun j j0 j1 => ?_, by omega, fun j j0 j1 => ?_, fun j j0 j1 => ?_, by rw [k.c]; exact h.c⟩
  · rw [k.N j j0 j1]
    by_cases e : j = i
    · rw [if_pos e]; exact hi
    · rw [if_neg e]; exact h.N j j0 (by omega)
  · rw [k.N j j0 j1, k.N l l0 l1] at e
    by_cases e1 : j = i
    · by_cases e2 : l = i
      · omega
      · rw [if_pos e1, if_neg e2] at e
        exact absurd e.symm (hno l l0 (by omega) e2)
    · by_cases e2 : l = i
      · rw [if_neg e1, if_pos e2] at e
        exact absurd e (hno j j0 (by omega) e1)
      · rw [if_neg e1, if_neg e2] at e
        exact h.D j l j0 (by omega) l0 (by omega) e
  · rw [k.I j j0 j1]
    by_cases e : j = i
    · rw [if_pos e]; exact hv
    · rw [if_neg e]; exact h.I j j0 (by omega)
  · have e0 := k.E j 0 j0 j1 (by omega) (by omega)
    rw [Int.add_zero] at e0
    rw [e0, k.E j 1 j0 j1 (by omega) (by omega), k.E j 2 j0 j1 (by omega) (by omega), k.E j 3 j0 j1 (by omega) (by omega)]
    by_cases e : j = i
    · rw [if_pos e, if_pos e, if_pos e, if_pos e]
      simp
      omega
    · rw [if_neg e, if_neg e, if_neg e, if_neg e]
      exact h.E j j0 (by omega)
  · rw [k.S j j0 (by omega)]; exact h.S j j0 (by omega)
  · rw [k.F j j0 (by omega)]; exact h.F j j0 (by omega)
abbrev dj (i j : Int) : Int := if j < i then j else j + 1
/-- the stroke at the place i is taken away -/
def de (c : cT) (c' : cT) (its : Int) (i : Int) : Prop := (c_f c its = i ∧ i ≠ -1) ∧ (c_n c' = c_n c - 1) ∧ (∀ j, 0 ≤ j → j < c_n c' → c_N c' j = c_N c (dj i j)) ∧ (∀ j, 0 ≤ j → j < c_n c' → c_I c' j = c_I c (dj i j)) ∧ (∀ j q, 0 ≤ j → j < c_n c' → 0 ≤ q → q < 4 → c_E c' (4 * j + q) = c_E c (4 * dj i j + q)) ∧ (c_p c' = c_p c) ∧ (∀ j, 0 ≤ j → j < c_p c → c_S c' j = c_S c j) ∧ (∀ j, 0 ≤ j → j < c_p c → c_F c' j = c_F c j) ∧ (c_c c' = c_c c)
theorem de.f {c : cT} {c' : cT} {its : Int} {i : Int} (h : de c c' its i) : c_f c its = i ∧ i ≠ -1 := h.1
theorem de.n {c : cT} {c' : cT} {its : Int} {i : Int} (h : de c c' its i) : c_n c' = c_n c - 1 := h.2.1
theorem de.N {c : cT} {c' : cT} {its : Int} {i : Int} (h : de c c' its i) : ∀ j, 0 ≤ j → j < c_n c' → c_N c' j = c_N c (dj i j) := h.2.2.1
theorem de.I {c : cT} {c' : cT} {its : Int} {i : Int} (h : de c c' its i) : ∀ j, 0 ≤ j → j < c_n c' → c_I c' j = c_I c (dj i j) := h.2.2.2.1
theorem de.E {c : cT} {c' : cT} {its : Int} {i : Int} (h : de c c' its i) : ∀ j q, 0 ≤ j → j < c_n c' → 0 ≤ q → q < 4 → c_E c' (4 * j + q) = c_E c (4 * dj i j + q) := h.2.2.2.2.1
theorem de.p {c : cT} {c' : cT} {its : Int} {i : Int} (h : de c c' its i) : c_p c' = c_p c := h.2.2.2.2.2.1
theorem de.S {c : cT} {c' : cT} {its : Int} {i : Int} (h : de c c' its i) : ∀ j, 0 ≤ j → j < c_p c → c_S c' j = c_S c j := h.2.2.2.2.2.2.1
theorem de.F {c : cT} {c' : cT} {its : Int} {i : Int} (h : de c c' its i) : ∀ j, 0 ≤ j → j < c_p c → c_F c' j = c_F c j := h.2.2.2.2.2.2.2.1
theorem de.c {c : cT} {c' : cT} {its : Int} {i : Int} (h : de c c' its i) : c_c c' = c_c c := h.2.2.2.2.2.2.2.2
theorem de_u {c1 c1' c2 c2' : cT} {its i1 i2 : Int} (h : ce c1 c2) (h1 : de c1 c1' its i1) (h2 : de c2 c2' its i2) : ce c1' c2' := by
  have ef := c_f_e h its
  have en := h.n
  have ep := h.p
  have f1 := h1.f
  have f2 := h2.f
  have n1 := h1.n
  have n2 := h2.n
  have p1 := h1.p
  have p2 := h2.p
  have ei : i1 = i2 := by omega
  subst ei
  have hdj : ∀ j, dj i1 j = j ∨ dj i1 j = j + 1 := fun j => by unfold dj; omega
  refine ce_mk (by omega) (fun j j0 j1 => ?_) (fun j j0 j1 => ?_) (fun q q0 q1 => ?_) (by omega) (fun j j0 j1 => ?_) (fun j j0 j1 => ?_) (by rw [h1.c, h2.c, h.c])
  · rw [h1.N j j0 j1, h2.N j j0 (by omega), h.N _ (by have := hdj j; omega) (by have := hdj j; omega)]
  · rw [h1.I j j0 j1, h2.I j j0 (by omega), h.I _ (by have := hdj j; omega) (by have := hdj j; omega)]
  · have k1 := h1.E (q / 4) (q % 4) (by omega) (by omega) (by omega) (by omega)
    have k2 := h2.E (q / 4) (q % 4) (by omega) (by omega) (by omega) (by omega)
    rw [show 4 * (q / 4) + q % 4 = q by omega] at k1 k2
    rw [k1, k2, h.E _ (by have := hdj (q / 4); omega) (by have := hdj (q / 4); omega)]
  · rw [h1.S j j0 (by omega), h2.S j j0 (by omega), h.S j j0 (by omega)]
  · rw [h1.F j j0 (by omega), h2.F j j0 (by omega), h.F j j0 (by omega)]
theorem de_r {c c' : cT} {its i : Int} (h : cr c) (k : de c c' its i) : cr c' := by
  have hn := h.n
  have hp := h.p
  have f := k.f
  have kn := k.n
  have kp := k.p
  have r := c_f_r (c := c) its
  have hdj : ∀ j, dj i j = j ∨ dj i j = j + 1 := fun j => by unfold dj; omega
  refine ⟨by omega, fun j j0 j1 => ?_, fun j l j0 j1 l0 l1 e => ?_, fun j j0 j1 => ?_, fun j j0 j1 => ?_, by omega, fun j j0 j1 => ?_, fun j j0 j1 => ?_, by rw [k.c]; exact h.c⟩
  · rw [k.N j j0 j1]; exact h.N _ (by have := hdj j; omega) (by have := hdj j; omega)
  · rw [k.N j j0 j1, k.N l l0 l1] at e
    have h9 := h.D _ _ (by have := hdj j; omega) (by have := hdj j; omega) (by have := hdj l; omega) (by have := hdj l; omega) e
    unfold dj at h9
    omega
  · rw [k.I j j0 j1]; exact h.I _ (by have := hdj j; omega) (by have := hdj j; omega)
  · have e0 := k.E j 0 j0 j1 (by omega) (by omega)
    rw [Int.add_zero, Int.add_zero] at e0
    rw [e0, k.E j 1 j0 j1 (by omega) (by omega), k.E j 2 j0 j1 (by omega) (by omega), k.E j 3 j0 j1 (by omega) (by omega)]
    exact h.E _ (by have := hdj j; omega) (by have := hdj j; omega)
  · rw [k.S j j0 (by omega)]; exact h.S j j0 (by omega)
  · rw [k.F j j0 (by omega)]; exact h.F j j0 (by omega)
/-- a paint more -/
def pn1 (c : cT) (c' : cT) (p : Int) (v : Int) : Prop := (c_n c' = c_n c) ∧ (∀ j, 0 ≤ j → j < c_n c → c_N c' j = c_N c j) ∧ (∀ j, 0 ≤ j → j < c_n c → c_I c' j = c_I c j) ∧ (∀ q, 0 ≤ q → q < 4 * c_n c → c_E c' q = c_E c q) ∧ (c_p c' = c_p c + 1) ∧ (∀ j, 0 ≤ j → j < c_p c' → c_S c' j = if j = c_p c then p else c_S c j) ∧ (∀ j, 0 ≤ j → j < c_p c' → c_F c' j = if j = c_p c then v else c_F c j) ∧ (c_c c' = c_c c)
theorem pn1.n {c : cT} {c' : cT} {p : Int} {v : Int} (h : pn1 c c' p v) : c_n c' = c_n c := h.1
theorem pn1.N {c : cT} {c' : cT} {p : Int} {v : Int} (h : pn1 c c' p v) : ∀ j, 0 ≤ j → j < c_n c → c_N c' j = c_N c j := h.2.1
theorem pn1.I {c : cT} {c' : cT} {p : Int} {v : Int} (h : pn1 c c' p v) : ∀ j, 0 ≤ j → j < c_n c → c_I c' j = c_I c j := h.2.2.1
theorem pn1.E {c : cT} {c' : cT} {p : Int} {v : Int} (h : pn1 c c' p v) : ∀ q, 0 ≤ q → q < 4 * c_n c → c_E c' q = c_E c q := h.2.2.2.1
theorem pn1.p {c : cT} {c' : cT} {p : Int} {v : Int} (h : pn1 c c' p v) : c_p c' = c_p c + 1 := h.2.2.2.2.1
theorem pn1.S {c : cT} {c' : cT} {p : Int} {v : Int} (h : pn1 c c' p v) : ∀ j, 0 ≤ j → j < c_p c' → c_S c' j = if j = c_p c then p else c_S c j := h.2.2.2.2.2.1
theorem pn1.F {c : cT} {c' : cT} {p : Int} {v : Int} (h : pn1 c c' p v) : ∀ j, 0 ≤ j → j < c_p c' → c_F c' j = if j = c_p c then v else c_F c j := h.2.2.2.2.2.2.1
theorem pn1.c {c : cT} {c' : cT} {p : Int} {v : Int} (h : pn1 c c' p v) : c_c c' = c_c c := h.2.2.2.2.2.2.2
theorem pn_u {c1 c1' c2 c2' : cT} {p v : Int} (h : ce c1 c2) (h1 : pn1 c1 c1' p v) (h2 : pn1 c2 c2' p v) : ce c1' c2' := by
  have en := h.n
  have ep := h.p
  have n1 := h1.n
  have n2 := h2.n
  have p1 := h1.p
  have p2 := h2.p
  refine ce_mk (by omega) (fun j j0 j1 => ?_) (fun j j0 j1 => ?_) (fun q q0 q1 => ?_) (by omega) (fun j j0 j1 => ?_) (fun j j0 j1 => ?_) (by rw [h1.c, h2.c, h.c])
  · rw [h1.N j j0 (by omega), h2.N j j0 (by omega), h.N j j0 (by omega)]
  · rw [h1.I j j0 (by omega), h2.I j j0 (by omega), h.I j j0 (by omega)]
  · rw [h1.E q q0 (by omega), h2.E q q0 (by omega), h.E q q0 (by omega)]
  · rw [h1.S j j0 j1, h2.S j j0 (by omega)]
    by_cases e : j = c_p c1
    · rw [if_pos e, if_pos (by omega)]
    · rw [if_neg e, if_neg (by omega), h.S j j0 (by omega)]
  · rw [h1.F j j0 j1, h2.F j j0 (by omega)]
    by_cases e : j = c_p c1
    · rw [if_pos e, if_pos (by omega)]
    · rw [if_neg e, if_neg (by omega), h.F j j0 (by omega)]
theorem pn_r {c c' : cT} {p v : Int} (h : cr c) (k : pn1 c c' p v) (h6 : c_p c < 6) (hp : 0 ≤ p ∧ p < 192) (hv : 0 ≤ v ∧ v ≤ 7) : cr c' := by
  have hn := h.n
  have hpp := h.p
  have kn := k.n
  have kp := k.p
  refine ⟨by omega, fun j j0 j1 => ?_, fun j l j0 j1 l0 l1 e => ?_, fun j j0 j1 => ?_, fun j j0 j1 => ?_, by omega, fun j j0 j1 => ?_, fun j j0 j1 => ?_, by rw [k.c]; exact h.c⟩
  · rw [k.N j j0 (by omega)]; exact h.N _ (by omega) (by omega)
  · rw [k.N j j0 (by omega), k.N l l0 (by omega)] at e
    exact h.D _ _ (by omega) (by omega) (by omega) (by omega) e
  · rw [k.I j j0 (by omega)]; exact h.I _ (by omega) (by omega)
  · rw [k.E _ (by omega) (by omega), k.E _ (by omega) (by omega), k.E _ (by omega) (by omega), k.E _ (by omega) (by omega)]
    exact h.E _ (by omega) (by omega)
  · rw [k.S j j0 j1]
    by_cases e : j = c_p c
    · rw [if_pos e]; exact hp
    · rw [if_neg e]; exact h.S j j0 (by omega)
  · rw [k.F j j0 j1]
    by_cases e : j = c_p c
    · rw [if_pos e]; exact hv
    · rw [if_neg e]; exact h.F j j0 (by omega)
/-- gaps change -/
def gp1 (c : cT) (c' : cT) : Prop := (c_n c' = c_n c) ∧ (∀ j, 0 ≤ j → j < c_n c → c_N c' j = c_N c j) ∧ (∀ j, 0 ≤ j → j < c_n c → c_I c' j = c_I c j) ∧ (∀ q, 0 ≤ q → q < 4 * c_n c → c_E c' q = c_E c q) ∧ (c_p c' = c_p c) ∧ (∀ j, 0 ≤ j → j < c_p c → c_S c' j = c_S c j) ∧ (∀ j, 0 ≤ j → j < c_p c → c_F c' j = c_F c j) ∧ (c_c c' = 1 - c_c c)
theorem gp1.n {c : cT} {c' : cT} (h : gp1 c c') : c_n c' = c_n c := h.1
theorem gp1.N {c : cT} {c' : cT} (h : gp1 c c') : ∀ j, 0 ≤ j → j < c_n c → c_N c' j = c_N c j := h.2.1
theorem gp1.I {c : cT} {c' : cT} (h : gp1 c c') : ∀ j, 0 ≤ j → j < c_n c → c_I c' j = c_I c j := h.2.2.1
theorem gp1.E {c : cT} {c' : cT} (h : gp1 c c') : ∀ q, 0 ≤ q → q < 4 * c_n c → c_E c' q = c_E c q := h.2.2.2.1
theorem gp1.p {c : cT} {c' : cT} (h : gp1 c c') : c_p c' = c_p c := h.2.2.2.2.1
theorem gp1.S {c : cT} {c' : cT} (h : gp1 c c') : ∀ j, 0 ≤ j → j < c_p c → c_S c' j = c_S c j := h.2.2.2.2.2.1
theorem gp1.F {c : cT} {c' : cT} (h : gp1 c c') : ∀ j, 0 ≤ j → j < c_p c → c_F c' j = c_F c j := h.2.2.2.2.2.2.1
theorem gp1.c {c : cT} {c' : cT} (h : gp1 c c') : c_c c' = 1 - c_c c := h.2.2.2.2.2.2.2
theorem gp_u {c1 c1' c2 c2' : cT} (h : ce c1 c2) (h1 : gp1 c1 c1') (h2 : gp1 c2 c2') : ce c1' c2' := by
  have en := h.n
  have ep := h.p
  have n1 := h1.n
  have n2 := h2.n
  have p1 := h1.p
  have p2 := h2.p
  refine ce_mk (by omega) (fun j j0 j1 => ?_) (fun j j0 j1 => ?_) (fun q q0 q1 => ?_) (by omega) (fun j j0 j1 => ?_) (fun j j0 j1 => ?_) (by rw [h1.c, h2.c, h.c])
  · rw [h1.N j j0 (by omega), h2.N j j0 (by omega), h.N j j0 (by omega)]
  · rw [h1.I j j0 (by omega), h2.I j j0 (by omega), h.I j j0 (by omega)]
  · rw [h1.E q q0 (by omega), h2.E q q0 (by omega), h.E q q0 (by omega)]
  · rw [h1.S j j0 (by omega), h2.S j j0 (by omega), h.S j j0 (by omega)]
  · rw [h1.F j j0 (by omega), h2.F j j0 (by omega), h.F j j0 (by omega)]
theorem gp_r {c c' : cT} (h : cr c) (k : gp1 c c') : cr c' := by
  have hn := h.n
  have hpp := h.p
  have hc := h.c
  have kn := k.n
  have kp := k.p
  have kc := k.c
  refine ⟨by omega, fun j j0 j1 => ?_, fun j l j0 j1 l0 l1 e => ?_, fun j j0 j1 => ?_, fun j j0 j1 => ?_, by omega, fun j j0 j1 => ?_, fun j j0 j1 => ?_, by omega⟩
  · rw [k.N j j0 (by omega)]; exact h.N _ (by omega) (by omega)
  · rw [k.N j j0 (by omega), k.N l l0 (by omega)] at e
    exact h.D _ _ (by omega) (by omega) (by omega) (by omega) e
  · rw [k.I j j0 (by omega)]; exact h.I _ (by omega) (by omega)
  · rw [k.E _ (by omega) (by omega), k.E _ (by omega) (by omega), k.E _ (by omega) (by omega), k.E _ (by omega) (by omega)]
    exact h.E _ (by omega) (by omega)
  · rw [k.S j j0 (by omega)]; exact h.S j j0 (by omega)
  · rw [k.F j j0 (by omega)]; exact h.F j j0 (by omega)
end PURE4
