/-! PURE: what a drawing holds: strokes (how many, names, inks, four ends each), paints (how many, places, colours), gaps closed -/
section PURE3
abbrev cT : Type := Int × (Int → Int) × (Int → Int) × (Int → Int) × Int × (Int → Int) × (Int → Int) × Int
abbrev c_n (c : cT) : Int := c.1
abbrev c_N (c : cT) : Int → Int := c.2.1
abbrev c_I (c : cT) : Int → Int := c.2.2.1
abbrev c_E (c : cT) : Int → Int := c.2.2.2.1
abbrev c_p (c : cT) : Int := c.2.2.2.2.1
abbrev c_S (c : cT) : Int → Int := c.2.2.2.2.2.1
abbrev c_F (c : cT) : Int → Int := c.2.2.2.2.2.2.1
abbrev c_c (c : cT) : Int := c.2.2.2.2.2.2.2
/-- both hold the same -/
def ce (c c' : cT) : Prop := (c_n c = c_n c') ∧ (∀ i, 0 ≤ i → i < c_n c → c_N c i = c_N c' i) ∧ (∀ i, 0 ≤ i → i < c_n c → c_I c i = c_I c' i) ∧ (∀ q, 0 ≤ q → q < 4 * c_n c → c_E c q = c_E c' q) ∧ (c_p c = c_p c') ∧ (∀ i, 0 ≤ i → i < c_p c → c_S c i = c_S c' i) ∧ (∀ i, 0 ≤ i → i < c_p c → c_F c i = c_F c' i) ∧ (c_c c = c_c c')
theorem ce.n {c c' : cT} (h : ce c c') : c_n c = c_n c' := h.1
theorem ce.N {c c' : cT} (h : ce c c') : ∀ i, 0 ≤ i → i < c_n c → c_N c i = c_N c' i := h.2.1
theorem ce.I {c c' : cT} (h : ce c c') : ∀ i, 0 ≤ i → i < c_n c → c_I c i = c_I c' i := h.2.2.1
theorem ce.E {c c' : cT} (h : ce c c') : ∀ q, 0 ≤ q → q < 4 * c_n c → c_E c q = c_E c' q := h.2.2.2.1
theorem ce.p {c c' : cT} (h : ce c c') : c_p c = c_p c' := h.2.2.2.2.1
theorem ce.S {c c' : cT} (h : ce c c') : ∀ i, 0 ≤ i → i < c_p c → c_S c i = c_S c' i := h.2.2.2.2.2.1
theorem ce.F {c c' : cT} (h : ce c c') : ∀ i, 0 ≤ i → i < c_p c → c_F c i = c_F c' i := h.2.2.2.2.2.2.1
theorem ce.c {c c' : cT} (h : ce c c') : c_c c = c_c c' := h.2.2.2.2.2.2.2
theorem ce_mk {c c' : cT} (n : c_n c = c_n c') (N : ∀ i, 0 ≤ i → i < c_n c → c_N c i = c_N c' i) (I : ∀ i, 0 ≤ i → i < c_n c → c_I c i = c_I c' i) (E : ∀ q, 0 ≤ q → q < 4 * c_n c → c_E c q = c_E c' q) (p : c_p c = c_p c') (S : ∀ i, 0 ≤ i → i < c_p c → c_S c i = c_S c' i) (F : ∀ i, 0 ≤ i → i < c_p c → c_F c i = c_F c' i) (h : c_c c = c_c c') : ce c c' := ⟨n, N, I, E, p, S, F, h⟩
theorem ce_rf {c : cT} : ce c c := ce_mk rfl (fun _ _ _ => rfl) (fun _ _ _ => rfl) (fun _ _ _ => rfl) rfl (fun _ _ _ => rfl) (fun _ _ _ => rfl) rfl
theorem ce_sy {c c' : cT} (h : ce c c') : ce c' c := by
  have hn := h.n
  have hp := h.p
  exact ce_mk hn.symm (fun i h0 h1 => (h.N i h0 (by omega)).symm) (fun i h0 h1 => (h.I i h0 (by omega)).symm) (fun i h0 h1 => (h.E i h0 (by omega)).symm) hp.symm (fun i h0 h1 => (h.S i h0 (by omega)).symm) (fun i h0 h1 => (h.F i h0 (by omega)).symm) h.c.symm
theorem ce_tr {c c' c'' : cT} (h : ce c c') (k : ce c' c'') : ce c c'' := by
  have hn := h.n
  have hp := h.p
  exact ce_mk (hn.trans k.n) (fun i h0 h1 => (h.N i h0 h1).trans (k.N i h0 (by omega))) (fun i h0 h1 => (h.I i h0 h1).trans (k.I i h0 (by omega))) (fun i h0 h1 => (h.E i h0 h1).trans (k.E i h0 (by omega))) (hp.trans k.p) (fun i h0 h1 => (h.S i h0 h1).trans (k.S i h0 (by omega))) (fun i h0 h1 => (h.F i h0 h1).trans (k.F i h0 (by omega))) (h.c.trans k.c)
/-- where a name stands, or -1 -/
abbrev c_f (c : cT) (t : Int) : Int := mj_fx (c_N c) t 0 (c_n c).toNat
theorem c_f_e {c c' : cT} (h : ce c c') (t : Int) : c_f c t = c_f c' t := by
  show mj_fx (c_N c) t 0 (c_n c).toNat = mj_fx (c_N c') t 0 (c_n c').toNat
  rw [← h.n]
  exact mj_fx_c _ fun j j0 j1 => h.N j j0 (by omega)
theorem c_f_r {c : cT} (t : Int) : c_f c t = -1 ∨ (0 ≤ c_f c t ∧ c_f c t < c_n c ∧ c_N c (c_f c t) = t) := by
  have h : c_f c t = -1 ∨ (0 ≤ c_f c t ∧ c_f c t < 0 + (c_n c).toNat ∧ c_N c (c_f c t) = t) := mj_fx_r (nm := c_N c) (x := t) (lo := 0) (by omega) (c_n c).toNat
  rcases h with h | h
  · exact Or.inl h
  · exact Or.inr ⟨h.1, by omega, h.2.2⟩
/-- how many names below t both have -/
def c_k (a b : cT) : Nat → Int
  | 0 => 0
  | t + 1 => if c_f a t ≠ -1 ∧ c_f b t ≠ -1 then c_k a b t + 1 else c_k a b t
theorem c_k_e {a b a' b' : cT} (ha : ce a a') (hb : ce b b') : ∀ t : Nat, c_k a b t = c_k a' b' t
  | 0 => rfl
  | t + 1 => by rw [c_k, c_k, c_f_e ha, c_f_e hb, c_k_e ha hb t]
theorem c_k_r {a b : cT} : ∀ t : Nat, 0 ≤ c_k a b t ∧ c_k a b t ≤ t
  | 0 => by rw [c_k]; omega
  | t + 1 => by
    have h := c_k_r (a := a) (b := b) t
    rw [c_k]
    split <;> omega
theorem c_k_m {a b : cT} : ∀ {t u : Nat}, t ≤ u → c_k a b t ≤ c_k a b u
  | t, 0, h => by rw [show t = 0 by omega]; omega
  | t, u + 1, h => by
    by_cases e : t = u + 1
    · rw [e]; omega
    · have h1 := c_k_m (a := a) (b := b) (show t ≤ u by omega)
      have h2 : c_k a b u ≤ c_k a b (u + 1) := by
        rw [show c_k a b (u + 1) = if c_f a u ≠ -1 ∧ c_f b u ≠ -1 then c_k a b u + 1 else c_k a b u from rfl]
        split <;> omega
      omega
theorem c_k_lt {a b : cT} {s t : Nat} (h : c_f a s ≠ -1 ∧ c_f b s ≠ -1) (hs : s < t) : c_k a b s < c_k a b t := by
  have h1 := c_k_m (a := a) (b := b) (show s + 1 ≤ t by omega)
  have h2 : c_k a b (s + 1) = c_k a b s + 1 := by rw [c_k, if_pos h]
  omega
/-- each place below the count is a name's -/
theorem c_k_s {a b : cT} : ∀ (t : Nat) (i : Int), 0 ≤ i → i < c_k a b t → ∃ s : Nat, s < t ∧ (c_f a s ≠ -1 ∧ c_f b s ≠ -1) ∧ c_k a b s = i
  | 0, i, h0, h1 => by rw [c_k] at h1; omega
  | t + 1, i, h0, h1 => by
    rw [c_k] at h1
    by_cases h : c_f a t ≠ -1 ∧ c_f b t ≠ -1
    · rw [if_pos h] at h1
      by_cases e : i = c_k a b t
      · exact ⟨t, by omega, h, e.symm⟩
      · obtain ⟨s, s1, s2, s3⟩ := c_k_s (a := a) (b := b) t i h0 (by omega)
        exact ⟨s, by omega, s2, s3⟩
    · rw [if_neg h] at h1
      obtain ⟨s, s1, s2, s3⟩ := c_k_s (a := a) (b := b) t i h0 h1
      exact ⟨s, by omega, s2, s3⟩
/-- c comes out of a and b, n of d; names below t are laid -/
def cb_t (n d : Int) (a b c : cT) (t : Nat) : Prop := ∀ s : Nat, s < t → c_f a s ≠ -1 ∧ c_f b s ≠ -1 → c_N c (c_k a b s) = s ∧ c_I c (c_k a b s) = c_I a (c_f a s) ∧ ∀ j, 0 ≤ j → j < 4 → c_E c (4 * c_k a b s + j) = mj_pw (c_E a (4 * c_f a s + j)) (c_E b (4 * c_f b s + j)) n d
def cb (n : Int) (d : Int) (a b c : cT) : Prop := (c_n c = c_k a b 8) ∧ (cb_t n d a b c 8) ∧ (c_p c = c_p a) ∧ (∀ i, 0 ≤ i → i < c_p a → c_S c i = c_S a i) ∧ (∀ i, 0 ≤ i → i < c_p a → c_F c i = c_F a i) ∧ (c_c c = c_c a)
theorem cb.n {n : Int} {d : Int} {a b c : cT} (h : cb n d a b c) : c_n c = c_k a b 8 := h.1
theorem cb.t {n : Int} {d : Int} {a b c : cT} (h : cb n d a b c) : cb_t n d a b c 8 := h.2.1
theorem cb.p {n : Int} {d : Int} {a b c : cT} (h : cb n d a b c) : c_p c = c_p a := h.2.2.1
theorem cb.S {n : Int} {d : Int} {a b c : cT} (h : cb n d a b c) : ∀ i, 0 ≤ i → i < c_p a → c_S c i = c_S a i := h.2.2.2.1
theorem cb.F {n : Int} {d : Int} {a b c : cT} (h : cb n d a b c) : ∀ i, 0 ≤ i → i < c_p a → c_F c i = c_F a i := h.2.2.2.2.1
theorem cb.c {n : Int} {d : Int} {a b c : cT} (h : cb n d a b c) : c_c c = c_c a := h.2.2.2.2.2
theorem cb_mk {n d : Int} {a b c : cT} (h1 : c_n c = c_k a b 8) (h2 : cb_t n d a b c 8) (h3 : c_p c = c_p a) (h4 : ∀ i, 0 ≤ i → i < c_p a → c_S c i = c_S a i) (h5 : ∀ i, 0 ≤ i → i < c_p a → c_F c i = c_F a i) (h6 : c_c c = c_c a) : cb n d a b c := ⟨h1, h2, h3, h4, h5, h6⟩
/-- what comes out of the same is the same -/
theorem cb_u {n d : Int} {a b c a' b' c' : cT} (h : cb n d a b c) (h' : cb n d a' b' c') (ha : ce a a') (hb : ce b b') : ce c c' := by
  have ek := c_k_e ha hb
  have hn := h.n
  have hp := h.p
  have hp' := h'.p
  have hap := ha.p
  have key : ∀ i, 0 ≤ i → i < c_n c → c_N c i = c_N c' i ∧ c_I c i = c_I c' i ∧ ∀ j, 0 ≤ j → j < 4 → c_E c (4 * i + j) = c_E c' (4 * i + j) := by
    intro i h0 h1
    obtain ⟨s, s1, s2, s3⟩ := c_k_s (a := a) (b := b) 8 i h0 (by omega)
    have q := h.t s s1 s2
    have q' := h'.t s s1 (by rw [← c_f_e ha, ← c_f_e hb]; exact s2)
    rw [← ek s, ← c_f_e ha, ← c_f_e hb, s3] at q'
    rw [s3] at q
    have ra := c_f_r (c := a) s
    have rb := c_f_r (c := b) s
    refine ⟨q.1.trans q'.1.symm, ?_, fun j j0 j1 => ?_⟩
    · rw [q.2.1, q'.2.1]
      exact ha.I _ (by omega) (by omega)
    · rw [q.2.2 j j0 j1, q'.2.2 j j0 j1, ha.E _ (by omega) (by omega), hb.E _ (by omega) (by omega)]
  refine ce_mk (by rw [h.n, h'.n, ek]) (fun i h0 h1 => (key i h0 h1).1) (fun i h0 h1 => (key i h0 h1).2.1) (fun q h0 h1 => ?_) (by omega) (fun i h0 h1 => ?_) (fun i h0 h1 => ?_) (by rw [h.c, h'.c, ha.c])
  · have := (key (q / 4) (by omega) (by omega)).2.2 (q % 4) (by omega) (by omega)
    rwa [show 4 * (q / 4) + q % 4 = q by omega] at this
  · rw [h.S i h0 (by omega), h'.S i h0 (by omega)]
    exact ha.S i h0 (by omega)
  · rw [h.F i h0 (by omega), h'.F i h0 (by omega)]
    exact ha.F i h0 (by omega)
theorem cb_e {n d : Int} {a b c a' b' c' : cT} (h : cb n d a b c) (ha : ce a a') (hb : ce b b') (hc : ce c c') : cb n d a' b' c' := by
  have ek := c_k_e ha hb
  have hn := h.n
  have hp := h.p
  have hcp := hc.p
  have hap := ha.p
  refine cb_mk (by rw [← hc.n, h.n, ek]) (fun s s1 s2 => ?_) (by omega) (fun i h0 h1 => ?_) (fun i h0 h1 => ?_) (by rw [← hc.c, h.c, ha.c])
  · rw [← c_f_e ha, ← c_f_e hb] at s2
    have q := h.t s s1 s2
    have ra := c_f_r (c := a) s
    have rb := c_f_r (c := b) s
    have rk := c_k_lt s2 s1
    have r0 := c_k_r (a := a) (b := b) s
    rw [← ek s, ← c_f_e ha, ← c_f_e hb]
    refine ⟨?_, ?_, fun j j0 j1 => ?_⟩
    · rw [← hc.N _ r0.1 (by omega)]; exact q.1
    · rw [← hc.I _ r0.1 (by omega), q.2.1, ha.I _ (by omega) (by omega)]
    · rw [← hc.E _ (by omega) (by omega), q.2.2 j j0 j1, ha.E _ (by omega) (by omega), hb.E _ (by omega) (by omega)]
  · rw [← hc.S i h0 (by omega), h.S i h0 (by omega), ha.S i h0 (by omega)]
  · rw [← hc.F i h0 (by omega), h.F i h0 (by omega), ha.F i h0 (by omega)]
/-- pictures -/
noncomputable def pc_pf (op : Int → Prop) (ln S F : Int → Int) : Nat → Int → Int
  | 0, p => ln p
  | n + 1, p => @ite _ (bf_re op (S n) p) (Classical.propDecidable _) (F n) (pc_pf op ln S F n p)
theorem pc_pf_t {op : Int → Prop} {ln S F : Int → Int} : ∀ (n : Nat) (p : Int), pc_pt op ln S F n p (pc_pf op ln S F n p)
  | 0, _ => rfl
  | n + 1, p => by
    rw [pc_pf]
    by_cases h : bf_re op (S n) p
    · rw [if_pos h]; exact Or.inl ⟨h, rfl⟩
    · rw [if_neg h]; exact Or.inr ⟨h, pc_pf_t n p⟩
theorem pc_pf_u {op : Int → Prop} {ln S F : Int → Int} {n : Nat} {p v : Int} (h : pc_pt op ln S F n p v) : v = pc_pf op ln S F n p := pc_pt_u n h (pc_pf_t n p)
theorem pc_pf_c {op : Int → Prop} {ln ln' S F S' F' : Int → Int} {p : Int} (hl : ln p = ln' p) : ∀ n : Nat, (∀ i : Int, 0 ≤ i → i < n → S i = S' i ∧ F i = F' i) → pc_pf op ln S F n p = pc_pf op ln' S' F' n p
  | 0, _ => hl
  | n + 1, h => by
    rw [pc_pf, pc_pf, pc_pf_c hl n (fun i h0 h1 => h i h0 (by omega)), (h n (by omega) (by omega)).1, (h n (by omega) (by omega)).2]
theorem pc_cs_c {E E' : Int → Int} {k p : Int} (h : ∀ q, 4 * k ≤ q → q < 4 * k + 4 → E q = E' q) : pc_cs E k p = pc_cs E' k p := by
  unfold pc_cs
  rw [h (4 * k) (by omega) (by omega), h (4 * k + 1) (by omega) (by omega), h (4 * k + 2) (by omega) (by omega), h (4 * k + 3) (by omega) (by omega)]
theorem pc_cv_c {E E' : Int → Int} {p : Int} : ∀ n : Nat, (∀ q : Int, 0 ≤ q → q < 4 * n → E q = E' q) → pc_cv E n p = pc_cv E' n p
  | 0, _ => rfl
  | n + 1, h => by rw [pc_cv, pc_cv, pc_cv_c n (fun i h0 h1 => h i h0 (by omega)), pc_cs_c (fun q h0 h1 => h q (by omega) (by omega))]
theorem pc_ln_c {E E' I I' : Int → Int} {p : Int} : ∀ n : Nat, (∀ q : Int, 0 ≤ q → q < 4 * n → E q = E' q) → (∀ i : Int, 0 ≤ i → i < n → I i = I' i) → pc_ln E I n p = pc_ln E' I' n p
  | 0, _, _ => rfl
  | n + 1, h, h2 => by rw [pc_ln, pc_ln, pc_ln_c n (fun i h0 h1 => h i h0 (by omega)) (fun i h0 h1 => h2 i h0 (by omega)), pc_cs_c (fun q h0 h1 => h q (by omega) (by omega)), h2 n (by omega) (by omega)]
abbrev c_L (c : cT) : Int → Bool := pc_cv (c_E c) (c_n c).toNat
abbrev c_l (c : cT) : Int → Int := pc_ln (c_E c) (c_I c) (c_n c).toNat
abbrev c_mk (c : cT) (p : Int) : Int := pc_mk (c_L c) (c_c c) p
abbrev c_op (c : cT) : Int → Prop := pc_op (c_L c) (c_c c)
noncomputable abbrev c_pf (c : cT) (p : Int) : Int := pc_pf (c_op c) (c_l c) (c_S c) (c_F c) (c_p c).toNat p
theorem c_L_e {c c' : cT} (h : ce c c') : c_L c = c_L c' := funext fun p => by
  show pc_cv (c_E c) (c_n c).toNat p = pc_cv (c_E c') (c_n c').toNat p
  rw [← h.n]
  exact pc_cv_c _ fun q h0 h1 => h.E q h0 (by omega)
theorem c_l_e {c c' : cT} (h : ce c c') (p : Int) : c_l c p = c_l c' p := by
  show pc_ln (c_E c) (c_I c) (c_n c).toNat p = pc_ln (c_E c') (c_I c') (c_n c').toNat p
  rw [← h.n]
  exact pc_ln_c _ (fun q h0 h1 => h.E q h0 (by omega)) (fun q h0 h1 => h.I q h0 (by omega))
theorem c_mk_e {c c' : cT} (h : ce c c') (p : Int) : c_mk c p = c_mk c' p := by
  show pc_mk (c_L c) (c_c c) p = pc_mk (c_L c') (c_c c') p
  rw [c_L_e h, h.c]
theorem c_op_e {c c' : cT} (h : ce c c') : c_op c = c_op c' := by
  show pc_op (c_L c) (c_c c) = pc_op (c_L c') (c_c c')
  rw [c_L_e h, h.c]
theorem c_pf_e {c c' : cT} (h : ce c c') (p : Int) : c_pf c p = c_pf c' p := by
  show pc_pf (c_op c) (c_l c) (c_S c) (c_F c) (c_p c).toNat p = pc_pf (c_op c') (c_l c') (c_S c') (c_F c') (c_p c').toNat p
  rw [c_op_e h, ← h.p]
  exact pc_pf_c (c_l_e h p) _ fun i h0 h1 => ⟨h.S i h0 (by omega), h.F i h0 (by omega)⟩
/-- ranges -/
def cr (c : cT) : Prop := (0 ≤ c_n c ∧ c_n c ≤ 8) ∧ (∀ i, 0 ≤ i → i < c_n c → 0 ≤ c_N c i ∧ c_N c i ≤ 7) ∧ (∀ i j, 0 ≤ i → i < c_n c → 0 ≤ j → j < c_n c → c_N c i = c_N c j → i = j) ∧ (∀ i, 0 ≤ i → i < c_n c → 0 ≤ c_I c i ∧ c_I c i ≤ 7) ∧ (∀ i, 0 ≤ i → i < c_n c → (0 ≤ c_E c (4 * i) ∧ c_E c (4 * i) < 16) ∧ (0 ≤ c_E c (4 * i + 1) ∧ c_E c (4 * i + 1) < 12) ∧ (0 ≤ c_E c (4 * i + 2) ∧ c_E c (4 * i + 2) < 16) ∧ (0 ≤ c_E c (4 * i + 3) ∧ c_E c (4 * i + 3) < 12)) ∧ (0 ≤ c_p c ∧ c_p c ≤ 6) ∧ (∀ i, 0 ≤ i → i < c_p c → 0 ≤ c_S c i ∧ c_S c i < 192) ∧ (∀ i, 0 ≤ i → i < c_p c → 0 ≤ c_F c i ∧ c_F c i ≤ 7) ∧ (c_c c = 0 ∨ c_c c = 1)
theorem cr.n {c : cT} (h : cr c) : 0 ≤ c_n c ∧ c_n c ≤ 8 := h.1
theorem cr.N {c : cT} (h : cr c) : ∀ i, 0 ≤ i → i < c_n c → 0 ≤ c_N c i ∧ c_N c i ≤ 7 := h.2.1
theorem cr.D {c : cT} (h : cr c) : ∀ i j, 0 ≤ i → i < c_n c → 0 ≤ j → j < c_n c → c_N c i = c_N c j → i = j := h.2.2.1
theorem cr.I {c : cT} (h : cr c) : ∀ i, 0 ≤ i → i < c_n c → 0 ≤ c_I c i ∧ c_I c i ≤ 7 := h.2.2.2.1
theorem cr.E {c : cT} (h : cr c) : ∀ i, 0 ≤ i → i < c_n c → (0 ≤ c_E c (4 * i) ∧ c_E c (4 * i) < 16) ∧ (0 ≤ c_E c (4 * i + 1) ∧ c_E c (4 * i + 1) < 12) ∧ (0 ≤ c_E c (4 * i + 2) ∧ c_E c (4 * i + 2) < 16) ∧ (0 ≤ c_E c (4 * i + 3) ∧ c_E c (4 * i + 3) < 12) := h.2.2.2.2.1
theorem cr.p {c : cT} (h : cr c) : 0 ≤ c_p c ∧ c_p c ≤ 6 := h.2.2.2.2.2.1
theorem cr.S {c : cT} (h : cr c) : ∀ i, 0 ≤ i → i < c_p c → 0 ≤ c_S c i ∧ c_S c i < 192 := h.2.2.2.2.2.2.1
theorem cr.F {c : cT} (h : cr c) : ∀ i, 0 ≤ i → i < c_p c → 0 ≤ c_F c i ∧ c_F c i ≤ 7 := h.2.2.2.2.2.2.2.1
theorem cr.c {c : cT} (h : cr c) : c_c c = 0 ∨ c_c c = 1 := h.2.2.2.2.2.2.2.2
theorem pc_ln_r {E I : Int → Int} {p : Int} : ∀ n : Nat, (∀ i : Int, 0 ≤ i → i < n → 0 ≤ I i ∧ I i ≤ 7) → -1 ≤ pc_ln E I n p ∧ pc_ln E I n p ≤ 7
  | 0, _ => by rw [pc_ln]; omega
  | n + 1, h => by
    have h1 := pc_ln_r (E := E) (I := I) (p := p) n (fun i h0 h1 => h i h0 (by omega))
    have h2 := h n (by omega) (by omega)
    rw [pc_ln]
    split <;> omega
theorem pc_pf_r {op : Int → Prop} {ln S F : Int → Int} {p : Int} (hl : -1 ≤ ln p ∧ ln p ≤ 7) : ∀ n : Nat, (∀ i : Int, 0 ≤ i → i < n → 0 ≤ F i ∧ F i ≤ 7) → -1 ≤ pc_pf op ln S F n p ∧ pc_pf op ln S F n p ≤ 7
  | 0, _ => hl
  | n + 1, h => by
    have h1 := pc_pf_r (op := op) (S := S) (F := F) hl n (fun i h0 h1 => h i h0 (by omega))
    have h2 := h n (by omega) (by omega)
    rw [pc_pf]
    by_cases hb : bf_re op (S n) p
    · rw [if_pos hb]; omega
    · rw [if_neg hb]; exact h1
theorem c_pf_r {c : cT} (h : cr c) (p : Int) : -1 ≤ c_pf c p ∧ c_pf c p ≤ 7 :=
  pc_pf_r (pc_ln_r _ fun i h0 h1 => h.I i h0 (by omega)) _ fun i h0 h1 => h.F i h0 (by omega)
theorem cr_e {c c' : cT} (h : ce c c') (k : cr c) : cr c' := by
  have hn := h.n
  have hp := h.p
  have k1 := k.n
  have k2 := k.p
  refine ⟨by omega, fun i h0 h1 => ?_, fun i j i0 i1 j0 j1 e => ?_, fun i h0 h1 => ?_, fun i h0 h1 => ?_, by omega, fun i h0 h1 => ?_, fun i h0 h1 => ?_, by rw [← h.c]; exact k.c⟩
  · rw [← h.N i h0 (by omega)]; exact k.N i h0 (by omega)
  · rw [← h.N i i0 (by omega), ← h.N j j0 (by omega)] at e
    exact k.D i j i0 (by omega) j0 (by omega) e
  · rw [← h.I i h0 (by omega)]; exact k.I i h0 (by omega)
  · rw [← h.E _ (by omega) (by omega), ← h.E _ (by omega) (by omega), ← h.E _ (by omega) (by omega), ← h.E _ (by omega) (by omega)]
    exact k.E i h0 (by omega)
  · rw [← h.S i h0 (by omega)]; exact k.S i h0 (by omega)
  · rw [← h.F i h0 (by omega)]; exact k.F i h0 (by omega)
theorem cb_r {n d : Int} {a b c : cT} (h : cb n d a b c) (ha : cr a) (hb : cr b) (hn : 0 ≤ n ∧ n ≤ d) (hd : 1 ≤ d) : cr c := by
  have hk := c_k_r (a := a) (b := b) 8
  have h1 := h.n
  have h2 := h.p
  have a2 := ha.p
  have key : ∀ i, 0 ≤ i → i < c_n c → ∃ s : Nat, s < 8 ∧ (c_f a s ≠ -1 ∧ c_f b s ≠ -1) ∧ c_k a b s = i := fun i h0 h1 => c_k_s (a := a) (b := b) 8 i h0 (by omega)
  refine ⟨by omega, fun i h0 h1 => ?_, fun i j i0 i1 j0 j1 e => ?_, fun i h0 h1 => ?_, fun i h0 h1 => ?_, by omega, fun i h0 h1 => ?_, fun i h0 h1 => ?_, by rw [h.c]; exact ha.c⟩
  · obtain ⟨s, s1, s2, s3⟩ := key i h0 h1
    have q := (h.t s s1 s2).1
    rw [s3] at q
    omega
  · obtain ⟨s, s1, s2, s3⟩ := key i i0 i1
    obtain ⟨s', s1', s2', s3'⟩ := key j j0 j1
    have q := (h.t s s1 s2).1
    have q' := (h.t s' s1' s2').1
    rw [s3] at q
    rw [s3'] at q'
    have : s = s' := by omega
    rw [← s3, ← s3', this]
  · obtain ⟨s, s1, s2, s3⟩ := key i h0 h1
    have q := (h.t s s1 s2).2.1
    have ra := c_f_r (c := a) s
    rw [s3] at q
    rw [q]
    exact ha.I _ (by omega) (by omega)
  · obtain ⟨s, s1, s2, s3⟩ := key i h0 h1
    have q := (h.t s s1 s2).2.2
    have ra := c_f_r (c := a) s
    have rb := c_f_r (c := b) s
    rw [s3] at q
    have ea := ha.E (c_f a s) (by omega) (by omega)
    have eb := hb.E (c_f b s) (by omega) (by omega)
    have q0 := q 0 (by omega) (by omega)
    rw [Int.add_zero, Int.add_zero, Int.add_zero] at q0
    rw [q0, q 1 (by omega) (by omega), q 2 (by omega) (by omega), q 3 (by omega) (by omega)]
    have x0 := pc_pw_r (lo := 0) (hi := 15) hn (a := c_E a (4 * c_f a s)) (b := c_E b (4 * c_f b s)) (by omega) (by omega)
    have x1 := pc_pw_r (lo := 0) (hi := 11) hn (a := c_E a (4 * c_f a s + 1)) (b := c_E b (4 * c_f b s + 1)) (by omega) (by omega)
    have x2 := pc_pw_r (lo := 0) (hi := 15) hn (a := c_E a (4 * c_f a s + 2)) (b := c_E b (4 * c_f b s + 2)) (by omega) (by omega)
    have x3 := pc_pw_r (lo := 0) (hi := 11) hn (a := c_E a (4 * c_f a s + 3)) (b := c_E b (4 * c_f b s + 3)) (by omega) (by omega)
    omega
  · rw [h.S i h0 (by omega)]; exact ha.S i h0 (by omega)
  · rw [h.F i h0 (by omega)]; exact ha.F i h0 (by omega)
end PURE3
