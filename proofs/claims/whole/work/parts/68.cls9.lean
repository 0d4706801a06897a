/-! THE HOUSE, 9: an in-between follows -/
section CLS9
variable {G : mj_G} {A : mj_M}
theorem ct_strokeNew {m d x : Int} (hD : DS A m) (hd : 0 ≤ d ∧ d < m) (hn : 0 ≤ gI A (1000 + 100 * d) 6 ∧ gI A (1000 + 100 * d) 6 ≤ 8) (hnew : c_f (ch_c A d) x = -1) (hpg : gI A (1000 + 100 * d) 6 < 8) (hx : r32 x) : mj_Cal G n_D_strokeToDraw [mR (some (1000 + 100 * d)), mI x] A (fun r A' => r = some (mR (some (sk A d (gI A (1000 + 100 * d) 6)))) ∧ A' = sI (sI A (sk A d (gI A (1000 + 100 * d) 6)) 0 x) (1000 + 100 * d) 6 (gI A (1000 + 100 * d) 6 + 1)) mj_no := by
  refine (ct_strokeToDraw hD hd hn (fun _ => hpg) hx).mono (fun r A' h => ?_) (fun _ _ h => h)
  rcases h with ⟨h1, _⟩ | ⟨_, h2, h3⟩
  · exact absurd hnew h1
  · exact ⟨h2, h3⟩
/-- what following may change of drawing d -/
def fo (A : mj_M) (W : mj_M) (d : Int) : Prop := (∀ c, gS W c = gS A c) ∧ (∀ c i, gP W c i = gP A c i) ∧ (∀ c i, ¬ ((c = (1000 + 100 * d) ∧ (i = 6 ∨ i = 9 ∨ i = 10 ∨ i = 13)) ∨ ((1000 + 100 * d) + 2 ≤ c ∧ c ≤ (1000 + 100 * d) + 11)) → gI W c i = gI A c i)
theorem fo.S {A : mj_M} {W : mj_M} {d : Int} (h : fo A W d) : ∀ c, gS W c = gS A c := h.1
theorem fo.P {A : mj_M} {W : mj_M} {d : Int} (h : fo A W d) : ∀ c i, gP W c i = gP A c i := h.2.1
theorem fo.I {A : mj_M} {W : mj_M} {d : Int} (h : fo A W d) : ∀ c i, ¬ ((c = (1000 + 100 * d) ∧ (i = 6 ∨ i = 9 ∨ i = 10 ∨ i = 13)) ∨ ((1000 + 100 * d) + 2 ≤ c ∧ c ≤ (1000 + 100 * d) + 11)) → gI W c i = gI A c i := h.2.2
theorem fo_rf {d : Int} : fo A A d := ⟨fun _ => rfl, fun _ _ => rfl, fun _ _ _ => rfl⟩
theorem fo_DS {W : mj_M} {d m : Int} (h : fo A W d) (hD : DS A m) : DS W m := by
  have e1 : W.1 = A.1 := funext h.S
  have e2 : W.2.2 = A.2.2 := funext fun c => funext fun i => h.P c i
  have e3 : gS W = gS A := e1
  have e4 : gP W = gP A := e2
  unfold DS DS1 CS at hD ⊢
  rw [e3, e4]
  exact hD
theorem fo_ce {W : mj_M} {d a m : Int} (h : fo A W d) (hD : DS A m) (ha : 0 ≤ a ∧ a < m) (hcr : cr (ch_c A a)) (hn : a ≠ d) : ce (ch_c A a) (ch_c W a) := ch_ce hD ha hcr h.P (fun c i h0 h1 _ => h.I c i (by omega))
theorem fo_s0 {W : mj_M} {m d a b : Int} {t : Nat} (hD : DS A m) (hd : 0 ≤ d ∧ d < m) (ha : 0 ≤ a ∧ a < d) (hb : 0 ≤ b ∧ b < d) (hca : cr (ch_c A a)) (hcb : cr (ch_c A b)) (hf : fo A W d) (hk : (gI W (1000 + 100 * d) 6) = c_k (ch_c A a) (ch_c A b) t) (ht : t < 8) (hfo : c_f (ch_c A a) t ≠ -1 ∧ c_f (ch_c A b) t ≠ -1) :
    (∀ c i, c ≠ (sk A d (gI W (1000 + 100 * d) 6)) → ¬ (c = (1000 + 100 * d) ∧ i = 6) → gI (sb_m (sI (sI W (sk A d (gI W (1000 + 100 * d) 6)) 0 t) (1000 + 100 * d) 6 ((gI W (1000 + 100 * d) 6) + 1)) (sk A d (gI W (1000 + 100 * d) 6)) (sk A a (c_f (ch_c A a) t)) (sk A b (c_f (ch_c A b) t)) (gI A (1000 + 100 * d) 2) (gI A (1000 + 100 * d) 3)) c i = gI W c i) ∧ gI (sb_m (sI (sI W (sk A d (gI W (1000 + 100 * d) 6)) 0 t) (1000 + 100 * d) 6 ((gI W (1000 + 100 * d) 6) + 1)) (sk A d (gI W (1000 + 100 * d) 6)) (sk A a (c_f (ch_c A a) t)) (sk A b (c_f (ch_c A b) t)) (gI A (1000 + 100 * d) 2) (gI A (1000 + 100 * d) 3)) (1000 + 100 * d) 6 = (gI W (1000 + 100 * d) 6) + 1 ∧ gI (sb_m (sI (sI W (sk A d (gI W (1000 + 100 * d) 6)) 0 t) (1000 + 100 * d) 6 ((gI W (1000 + 100 * d) 6) + 1)) (sk A d (gI W (1000 + 100 * d) 6)) (sk A a (c_f (ch_c A a) t)) (sk A b (c_f (ch_c A b) t)) (gI A (1000 + 100 * d) 2) (gI A (1000 + 100 * d) 3)) (sk A d (gI W (1000 + 100 * d) 6)) 0 = t ∧ gI (sb_m (sI (sI W (sk A d (gI W (1000 + 100 * d) 6)) 0 t) (1000 + 100 * d) 6 ((gI W (1000 + 100 * d) 6) + 1)) (sk A d (gI W (1000 + 100 * d) 6)) (sk A a (c_f (ch_c A a) t)) (sk A b (c_f (ch_c A b) t)) (gI A (1000 + 100 * d) 2) (gI A (1000 + 100 * d) 3)) (sk A d (gI W (1000 + 100 * d) 6)) 5 = gI A (sk A a (c_f (ch_c A a) t)) 5 ∧ ∀ j, 1 ≤ j → j ≤ 4 → gI (sb_m (sI (sI W (sk A d (gI W (1000 + 100 * d) 6)) 0 t) (1000 + 100 * d) 6 ((gI W (1000 + 100 * d) 6) + 1)) (sk A d (gI W (1000 + 100 * d) 6)) (sk A a (c_f (ch_c A a) t)) (sk A b (c_f (ch_c A b) t)) (gI A (1000 + 100 * d) 2) (gI A (1000 + 100 * d) 3)) (sk A d (gI W (1000 + 100 * d) 6)) j = mj_pw (gI A (sk A a (c_f (ch_c A a) t)) j) (gI A (sk A b (c_f (ch_c A b) t)) j) (gI A (1000 + 100 * d) 2) (gI A (1000 + 100 * d) 3) := by
  have hkr := c_k_r (a := (ch_c A a)) (b := (ch_c A b)) t
  have hs := hD.ek d hd.1 hd.2 (gI W (1000 + 100 * d) 6) (by omega) (by omega)
  have ra := c_f_r (c := (ch_c A a)) t
  have rb := c_f_r (c := (ch_c A b)) t
  have na := hca.n
  have nb := hcb.n
  have hsa := hD.ek a ha.1 (by omega) (c_f (ch_c A a) t) (by omega) (by omega)
  have hsb := hD.ek b hb.1 (by omega) (c_f (ch_c A b) t) (by omega) (by omega)
  have ea : ∀ j, gI (sI (sI W (sk A d (gI W (1000 + 100 * d) 6)) 0 t) (1000 + 100 * d) 6 ((gI W (1000 + 100 * d) 6) + 1)) (sk A a (c_f (ch_c A a) t)) j = gI A (sk A a (c_f (ch_c A a) t)) j := fun j => by
    rw [gI_sI, if_neg (by omega), gI_sI, if_neg (by omega), hf.I _ _ (by omega)]
  have eb : ∀ j, gI (sI (sI W (sk A d (gI W (1000 + 100 * d) 6)) 0 t) (1000 + 100 * d) 6 ((gI W (1000 + 100 * d) 6) + 1)) (sk A b (c_f (ch_c A b) t)) j = gI A (sk A b (c_f (ch_c A b) t)) j := fun j => by
    rw [gI_sI, if_neg (by omega), gI_sI, if_neg (by omega), hf.I _ _ (by omega)]
  unfold sb_m
  rw [ea, ea, ea, ea, ea, eb, eb, eb, eb]
  refine ⟨fun c i h1 h2 => ?_, ?_, ?_, ?_, fun j j0 j1 => ?_⟩
  · rw [gI_sI, if_neg (by omega), gI_sI, if_neg (by omega), gI_sI, if_neg (by omega), gI_sI, if_neg (by omega), gI_sI, if_neg (by omega), gI_sI, if_neg h2, gI_sI, if_neg (by omega)]
  · rw [gI_sI, if_neg (by omega), gI_sI, if_neg (by omega), gI_sI, if_neg (by omega), gI_sI, if_neg (by omega), gI_sI, if_neg (by omega), gI_sI, if_pos ⟨rfl, rfl⟩]
  · rw [gI_sI, if_neg (by omega), gI_sI, if_neg (by omega), gI_sI, if_neg (by omega), gI_sI, if_neg (by omega), gI_sI, if_neg (by omega), gI_sI, if_neg (by omega), gI_sI, if_pos ⟨rfl, rfl⟩]
  · rw [gI_sI, if_pos ⟨rfl, rfl⟩]
  · have e : j = 1 ∨ j = 2 ∨ j = 3 ∨ j = 4 := by omega
    rcases e with e | e | e | e
    · rw [e, gI_sI, if_neg (by omega), gI_sI, if_neg (by omega), gI_sI, if_neg (by omega), gI_sI, if_neg (by omega), gI_sI, if_pos ⟨rfl, rfl⟩]
    · rw [e, gI_sI, if_neg (by omega), gI_sI, if_neg (by omega), gI_sI, if_neg (by omega), gI_sI, if_pos ⟨rfl, rfl⟩]
    · rw [e, gI_sI, if_neg (by omega), gI_sI, if_neg (by omega), gI_sI, if_pos ⟨rfl, rfl⟩]
    · rw [e, gI_sI, if_neg (by omega), gI_sI, if_pos ⟨rfl, rfl⟩]
theorem ch_E1 {d i j : Int} (hj : 0 ≤ j ∧ j < 4) : c_E (ch_c A d) (4 * i + j) = gI A (sk A d i) (j + 1) := by
  show gI A (sk A d ((4 * i + j) / 4)) ((4 * i + j) % 4 + 1) = _
  rw [show (4 * i + j) / 4 = i by omega, show (4 * i + j) % 4 = j by omega]
theorem fo_s1 {W : mj_M} {m d a b : Int} {t : Nat} (hD : DS A m) (hd : 0 ≤ d ∧ d < m) (ha : 0 ≤ a ∧ a < d) (hb : 0 ≤ b ∧ b < d) (hca : cr (ch_c A a)) (hcb : cr (ch_c A b)) (hf : fo A W d) (hk : (gI W (1000 + 100 * d) 6) = c_k (ch_c A a) (ch_c A b) t) (ht : t < 8) (hfo : c_f (ch_c A a) t ≠ -1 ∧ c_f (ch_c A b) t ≠ -1) (hcbt : cb_t (gI A (1000 + 100 * d) 2) (gI A (1000 + 100 * d) 3) (ch_c A a) (ch_c A b) (ch_c W d) t) :
    fo A (sb_m (sI (sI W (sk A d (gI W (1000 + 100 * d) 6)) 0 t) (1000 + 100 * d) 6 ((gI W (1000 + 100 * d) 6) + 1)) (sk A d (gI W (1000 + 100 * d) 6)) (sk A a (c_f (ch_c A a) t)) (sk A b (c_f (ch_c A b) t)) (gI A (1000 + 100 * d) 2) (gI A (1000 + 100 * d) 3)) d ∧ gI (sb_m (sI (sI W (sk A d (gI W (1000 + 100 * d) 6)) 0 t) (1000 + 100 * d) 6 ((gI W (1000 + 100 * d) 6) + 1)) (sk A d (gI W (1000 + 100 * d) 6)) (sk A a (c_f (ch_c A a) t)) (sk A b (c_f (ch_c A b) t)) (gI A (1000 + 100 * d) 2) (gI A (1000 + 100 * d) 3)) (1000 + 100 * d) 6 = c_k (ch_c A a) (ch_c A b) (t + 1) ∧ cb_t (gI A (1000 + 100 * d) 2) (gI A (1000 + 100 * d) 3) (ch_c A a) (ch_c A b) (ch_c (sb_m (sI (sI W (sk A d (gI W (1000 + 100 * d) 6)) 0 t) (1000 + 100 * d) 6 ((gI W (1000 + 100 * d) 6) + 1)) (sk A d (gI W (1000 + 100 * d) 6)) (sk A a (c_f (ch_c A a) t)) (sk A b (c_f (ch_c A b) t)) (gI A (1000 + 100 * d) 2) (gI A (1000 + 100 * d) 3)) d) (t + 1) := by
  have hkr := c_k_r (a := (ch_c A a)) (b := (ch_c A b)) t
  have hs := hD.ek d hd.1 hd.2 (gI W (1000 + 100 * d) 6) (by omega) (by omega)
  obtain ⟨h1, h2, h3, h4, h5⟩ := fo_s0 hD hd ha hb hca hcb hf hk ht hfo
  have ek : ∀ i, sk (sb_m (sI (sI W (sk A d (gI W (1000 + 100 * d) 6)) 0 t) (1000 + 100 * d) 6 ((gI W (1000 + 100 * d) 6) + 1)) (sk A d (gI W (1000 + 100 * d) 6)) (sk A a (c_f (ch_c A a) t)) (sk A b (c_f (ch_c A b) t)) (gI A (1000 + 100 * d) 2) (gI A (1000 + 100 * d) 3)) d i = sk A d i := fun i => sk_e (A := A) (A' := (sb_m (sI (sI W (sk A d (gI W (1000 + 100 * d) 6)) 0 t) (1000 + 100 * d) 6 ((gI W (1000 + 100 * d) 6) + 1)) (sk A d (gI W (1000 + 100 * d) 6)) (sk A a (c_f (ch_c A a) t)) (sk A b (c_f (ch_c A b) t)) (gI A (1000 + 100 * d) 2) (gI A (1000 + 100 * d) 3))) (fun c i => hf.P c i) i
  have ekw : ∀ i, sk W d i = sk A d i := fun i => sk_e hf.P i
  refine ⟨⟨hf.S, hf.P, fun c i hc => ?_⟩, ?_, fun s hs1 hs2 => ?_⟩
  · rw [h1 c i (by omega) (by omega)]
    exact hf.I c i hc
  · rw [h2, hk, c_k, if_pos hfo]
  · by_cases e : s = t
    · rw [e, ← hk]
      refine ⟨?_, ?_, fun j j0 j1 => ?_⟩
      · show gI (sb_m (sI (sI W (sk A d (gI W (1000 + 100 * d) 6)) 0 t) (1000 + 100 * d) 6 ((gI W (1000 + 100 * d) 6) + 1)) (sk A d (gI W (1000 + 100 * d) 6)) (sk A a (c_f (ch_c A a) t)) (sk A b (c_f (ch_c A b) t)) (gI A (1000 + 100 * d) 2) (gI A (1000 + 100 * d) 3)) (sk (sb_m (sI (sI W (sk A d (gI W (1000 + 100 * d) 6)) 0 t) (1000 + 100 * d) 6 ((gI W (1000 + 100 * d) 6) + 1)) (sk A d (gI W (1000 + 100 * d) 6)) (sk A a (c_f (ch_c A a) t)) (sk A b (c_f (ch_c A b) t)) (gI A (1000 + 100 * d) 2) (gI A (1000 + 100 * d) 3)) d (gI W (1000 + 100 * d) 6)) 0 = _
        rw [ek]; exact h3
      · show gI (sb_m (sI (sI W (sk A d (gI W (1000 + 100 * d) 6)) 0 t) (1000 + 100 * d) 6 ((gI W (1000 + 100 * d) 6) + 1)) (sk A d (gI W (1000 + 100 * d) 6)) (sk A a (c_f (ch_c A a) t)) (sk A b (c_f (ch_c A b) t)) (gI A (1000 + 100 * d) 2) (gI A (1000 + 100 * d) 3)) (sk (sb_m (sI (sI W (sk A d (gI W (1000 + 100 * d) 6)) 0 t) (1000 + 100 * d) 6 ((gI W (1000 + 100 * d) 6) + 1)) (sk A d (gI W (1000 + 100 * d) 6)) (sk A a (c_f (ch_c A a) t)) (sk A b (c_f (ch_c A b) t)) (gI A (1000 + 100 * d) 2) (gI A (1000 + 100 * d) 3)) d (gI W (1000 + 100 * d) 6)) 5 = _
        rw [ek]; exact h4
      · rw [ch_E1 ⟨j0, j1⟩, ek, ch_E1 ⟨j0, j1⟩, ch_E1 ⟨j0, j1⟩]
        exact h5 (j + 1) (by omega) (by omega)
    · have hlt := c_k_lt hs2 (show s < t by omega)
      have hr := c_k_r (a := (ch_c A a)) (b := (ch_c A b)) s
      have q := hcbt s (by omega) hs2
      have hne : sk A d (c_k (ch_c A a) (ch_c A b) s) ≠ (sk A d (gI W (1000 + 100 * d) 6)) := fun e9 => by
        have := hD.ij d hd.1 hd.2 hr.1 (by omega) (by omega) (by omega) e9
        omega
      have hs9 := hD.ek d hd.1 hd.2 (c_k (ch_c A a) (ch_c A b) s) hr.1 (by omega)
      have hall : ∀ j, gI (sb_m (sI (sI W (sk A d (gI W (1000 + 100 * d) 6)) 0 t) (1000 + 100 * d) 6 ((gI W (1000 + 100 * d) 6) + 1)) (sk A d (gI W (1000 + 100 * d) 6)) (sk A a (c_f (ch_c A a) t)) (sk A b (c_f (ch_c A b) t)) (gI A (1000 + 100 * d) 2) (gI A (1000 + 100 * d) 3)) (sk A d (c_k (ch_c A a) (ch_c A b) s)) j = gI W (sk A d (c_k (ch_c A a) (ch_c A b) s)) j := fun j => h1 _ j hne (by omega)
      refine ⟨?_, ?_, fun j j0 j1 => ?_⟩
      · show gI (sb_m (sI (sI W (sk A d (gI W (1000 + 100 * d) 6)) 0 t) (1000 + 100 * d) 6 ((gI W (1000 + 100 * d) 6) + 1)) (sk A d (gI W (1000 + 100 * d) 6)) (sk A a (c_f (ch_c A a) t)) (sk A b (c_f (ch_c A b) t)) (gI A (1000 + 100 * d) 2) (gI A (1000 + 100 * d) 3)) (sk (sb_m (sI (sI W (sk A d (gI W (1000 + 100 * d) 6)) 0 t) (1000 + 100 * d) 6 ((gI W (1000 + 100 * d) 6) + 1)) (sk A d (gI W (1000 + 100 * d) 6)) (sk A a (c_f (ch_c A a) t)) (sk A b (c_f (ch_c A b) t)) (gI A (1000 + 100 * d) 2) (gI A (1000 + 100 * d) 3)) d _) 0 = _
        rw [ek, hall, ← ekw]
        exact q.1
      · show gI (sb_m (sI (sI W (sk A d (gI W (1000 + 100 * d) 6)) 0 t) (1000 + 100 * d) 6 ((gI W (1000 + 100 * d) 6) + 1)) (sk A d (gI W (1000 + 100 * d) 6)) (sk A a (c_f (ch_c A a) t)) (sk A b (c_f (ch_c A b) t)) (gI A (1000 + 100 * d) 2) (gI A (1000 + 100 * d) 3)) (sk (sb_m (sI (sI W (sk A d (gI W (1000 + 100 * d) 6)) 0 t) (1000 + 100 * d) 6 ((gI W (1000 + 100 * d) 6) + 1)) (sk A d (gI W (1000 + 100 * d) 6)) (sk A a (c_f (ch_c A a) t)) (sk A b (c_f (ch_c A b) t)) (gI A (1000 + 100 * d) 2) (gI A (1000 + 100 * d) 3)) d _) 5 = _
        rw [ek, hall, ← ekw]
        exact q.2.1
      · have q3 := q.2.2 j j0 j1
        rw [ch_E1 ⟨j0, j1⟩] at q3 ⊢
        rw [ek, hall, ← ekw]
        exact q3
theorem ct_fo_p {W : mj_M} {m d a b : Int} (hD : DS A m) (hd : 0 ≤ d ∧ d < m) (ha : 0 ≤ a ∧ a < d) (hb : 0 ≤ b ∧ b < d) (hca : cr (ch_c A a)) (hcb : cr (ch_c A b)) (hpa : gP A (1000 + 100 * d) 0 = some (1000 + 100 * a)) (hpb : gP A (1000 + 100 * d) 1 = some (1000 + 100 * b)) (hn : 0 ≤ (gI A (1000 + 100 * d) 2) ∧ (gI A (1000 + 100 * d) 2) ≤ (gI A (1000 + 100 * d) 3)) (hnd : 1 ≤ (gI A (1000 + 100 * d) 3) ∧ (gI A (1000 + 100 * d) 3) ≤ 24) (hf : fo A W d) (h13 : gI W (1000 + 100 * d) 13 = 0) (h6 : gI W (1000 + 100 * d) 6 = c_k (ch_c A a) (ch_c A b) 8) (hcbt : cb_t (gI A (1000 + 100 * d) 2) (gI A (1000 + 100 * d) 3) (ch_c A a) (ch_c A b) (ch_c W d) 8) {l1 l2 l3 : Option mj_V} :
    mj_X G n_D_follow (mj_Qm G n_D_follow (fun r A' => r = none ∧ fo A A' d ∧ gI A' (1000 + 100 * d) 13 = 0 ∧ cb (gI A (1000 + 100 * d) 2) (gI A (1000 + 100 * d) 3) (ch_c A a) (ch_c A b) (ch_c A' d)) mj_no) W 0 0 101 [some (mR (some (1000 + 100 * d))), l1, l2, l3] [] := by
  have hp := hca.p
  replace hp : 0 ≤ gI A (1000 + 100 * a) 9 ∧ gI A (1000 + 100 * a) 9 ≤ 6 := hp
  have hcc : gI A (1000 + 100 * a) 10 = 0 ∨ gI A (1000 + 100 * a) 10 = 1 := hca.c
  have hl : ∀ q : Int × mj_M, ((0 ≤ q.1 ∧ q.1 ≤ gI A (1000 + 100 * a) 9) ∧ fo A q.2 d ∧ (∀ c i, ¬ (c = (1000 + 100 * d) ∧ i = 9) → ¬ (c = (1000 + 100 * d) + 10 ∨ c = (1000 + 100 * d) + 11) → gI q.2 c i = gI W c i) ∧ gI q.2 (1000 + 100 * d) 9 = q.1 ∧ ∀ j, 0 ≤ j → j < q.1 → gI q.2 ((1000 + 100 * d) + 10) j = gI A (1000 + 100 * a + 10) j ∧ gI q.2 ((1000 + 100 * d) + 11) j = gI A (1000 + 100 * a + 11) j) → mj_X G n_D_follow (mj_Qm G n_D_follow (fun r A' => r = none ∧ fo A A' d ∧ gI A' (1000 + 100 * d) 13 = 0 ∧ cb (gI A (1000 + 100 * d) 2) (gI A (1000 + 100 * d) 3) (ch_c A a) (ch_c A b) (ch_c A' d)) mj_no) q.2 0 0 108 [some (mR (some (1000 + 100 * d))), some (mI q.1), l2, l3] [] := by
    refine mj_loop _ (fun q => (7 - q.1).toNat) _ ?_
    intro ⟨k, V⟩ ⟨hk, hv, h0, h9, hj⟩ ih
    replace hk : 0 ≤ k ∧ k ≤ gI A (1000 + 100 * a) 9 := hk
    replace hv : fo A V d := hv
    replace h0 : ∀ c i, ¬ (c = (1000 + 100 * d) ∧ i = 9) → ¬ (c = (1000 + 100 * d) + 10 ∨ c = (1000 + 100 * d) + 11) → gI V c i = gI W c i := h0
    replace h9 : gI V (1000 + 100 * d) 9 = k := h9
    replace hj : ∀ j, 0 ≤ j → j < k → gI V ((1000 + 100 * d) + 10) j = gI A (1000 + 100 * a + 10) j ∧ gI V ((1000 + 100 * d) + 11) j = gI A (1000 + 100 * a + 11) j := hj
    show mj_X G n_D_follow (mj_Qm G n_D_follow (fun r A' => r = none ∧ fo A A' d ∧ gI A' (1000 + 100 * d) 13 = 0 ∧ cb (gI A (1000 + 100 * d) 2) (gI A (1000 + 100 * d) 3) (ch_c A a) (ch_c A b) (ch_c A' d)) mj_no) V 0 0 108 [some (mR (some (1000 + 100 * d))), some (mI k), l2, l3] []
    have hDA := hD
    have hD := fo_DS hv hDA
    have hqa : gP V (1000 + 100 * d) 0 = some (1000 + 100 * a) := (hv.P _ _).trans hpa
    have ea : ∀ c i, 1000 + 100 * a ≤ c → c ≤ 1000 + 100 * a + 15 → gI V c i = gI A c i := fun c i h1 h2 => hv.I c i (by omega)
    refine mx_R fun hR => ?_
    refine mx_iload_n 1 d_D_follow_108 rfl rfl ?_
    refine mx_aload_n 0 d_D_follow_109 rfl rfl ?_
    refine mx_getPs 0 d_D_follow_110 f_D_9 rfl rfl (hD.o _ (by omega) (by omega)) (hqa) ?_
    refine mx_getI 9 d_D_follow_113 f_D_65 rfl rfl (hD.o _ (by omega) (by omega)) ?_
    rw [ea _ _ (by omega) (by omega)]
    refine mx_icmp_ge 147 d_D_follow_116 rfl (by first | assumption | exact hR _ _ | exact r32_mk (by omega) (by omega)) (by first | assumption | exact hR _ _ | exact r32_mk (by omega) (by omega)) (fun c_116 => ?_) (fun c_116 => ?_)
    · refine mx_aload_n 0 d_D_follow_147 rfl rfl ?_
      refine mx_aload_n 0 d_D_follow_148 rfl rfl ?_
      refine mx_getPs 0 d_D_follow_149 f_D_9 rfl rfl (hD.o _ (by omega) (by omega)) (hqa) ?_
      refine mx_getI 10 d_D_follow_152 f_D_84 rfl rfl (hD.o _ (by omega) (by omega)) ?_
      rw [ea _ _ (by omega) (by omega)]
      refine mx_putI 10 d_D_follow_155 f_D_84 rfl (hD.o _ (by omega) (by omega)) (Or.inl rfl) (Or.inr ⟨rfl, hca.c⟩) (by first | assumption | exact hR _ _ | exact r32_mk (by omega) (by omega)) ?_
      refine mx_R fun hR_1 => ?_
      refine mx_vret d_D_follow_158 rfl ?_
      have ek : k = gI A (1000 + 100 * a) 9 := by omega
      have e10 : ∀ c i, gI (sI V (1000 + 100 * d) 10 (gI A (1000 + 100 * a) 10)) c i = if c = (1000 + 100 * d) ∧ i = 10 then gI A (1000 + 100 * a) 10 else gI V c i := fun c i => rfl
      have hP : ∀ c i, gP (sI V (1000 + 100 * d) 10 (gI A (1000 + 100 * a) 10)) c i = gP A c i := hv.P
      refine ⟨rfl, ⟨hv.S, hv.P, fun c i hc => ?_⟩, ?_, cb_mk ?_ (fun s s1 s2 => ?_) ?_ (fun i i0 i1 => ?_) (fun i i0 i1 => ?_) ?_⟩
      · rw [e10, if_neg (by omega)]
        exact hv.I c i hc
      · rw [e10, if_neg (by omega), h0 _ _ (by omega) (by omega)]
        exact h13
      · show gI (sI V (1000 + 100 * d) 10 (gI A (1000 + 100 * a) 10)) (1000 + 100 * d) 6 = _
        rw [e10, if_neg (by omega), h0 _ _ (by omega) (by omega)]
        exact h6
      · have hr := c_k_lt s2 s1
        have hr0 := c_k_r (a := (ch_c A a)) (b := (ch_c A b)) s
        have hr8 := c_k_r (a := (ch_c A a)) (b := (ch_c A b)) 8
        have hs9 := hDA.ek d hd.1 hd.2 (c_k (ch_c A a) (ch_c A b) s) hr0.1 (by omega)
        have ekk : ∀ i, sk (sI V (1000 + 100 * d) 10 (gI A (1000 + 100 * a) 10)) d i = sk A d i := fun i => sk_e hP i
        have ekw : ∀ i, sk W d i = sk A d i := fun i => sk_e hf.P i
        have hall : ∀ j, gI (sI V (1000 + 100 * d) 10 (gI A (1000 + 100 * a) 10)) (sk A d (c_k (ch_c A a) (ch_c A b) s)) j = gI W (sk A d (c_k (ch_c A a) (ch_c A b) s)) j := fun j => by
          rw [e10, if_neg (by omega), h0 _ _ (by omega) (by omega)]
        have q := hcbt s s1 s2
        refine ⟨?_, ?_, fun j j0 j1 => ?_⟩
        · show gI (sI V (1000 + 100 * d) 10 (gI A (1000 + 100 * a) 10)) (sk (sI V (1000 + 100 * d) 10 (gI A (1000 + 100 * a) 10)) d _) 0 = _
          rw [ekk, hall, ← ekw]
          exact q.1
        · show gI (sI V (1000 + 100 * d) 10 (gI A (1000 + 100 * a) 10)) (sk (sI V (1000 + 100 * d) 10 (gI A (1000 + 100 * a) 10)) d _) 5 = _
          rw [ekk, hall, ← ekw]
          exact q.2.1
        · have q3 := q.2.2 j j0 j1
          rw [ch_E1 ⟨j0, j1⟩] at q3 ⊢
          rw [ekk, hall, ← ekw]
          exact q3
      · show gI (sI V (1000 + 100 * d) 10 (gI A (1000 + 100 * a) 10)) (1000 + 100 * d) 9 = gI A (1000 + 100 * a) 9
        rw [e10, if_neg (by omega), h9, ek]
      · show gI (sI V (1000 + 100 * d) 10 (gI A (1000 + 100 * a) 10)) ((1000 + 100 * d) + 10) i = gI A (1000 + 100 * a + 10) i
        rw [e10, if_neg (by omega)]
        exact (hj i i0 (by rw [ek]; exact i1)).1
      · show gI (sI V (1000 + 100 * d) 10 (gI A (1000 + 100 * a) 10)) ((1000 + 100 * d) + 11) i = gI A (1000 + 100 * a + 11) i
        rw [e10, if_neg (by omega)]
        exact (hj i i0 (by rw [ek]; exact i1)).2
      · show gI (sI V (1000 + 100 * d) 10 (gI A (1000 + 100 * a) 10)) (1000 + 100 * d) 10 = gI A (1000 + 100 * a) 10
        rw [e10, if_pos ⟨rfl, rfl⟩]
    · refine mx_aload_n 0 d_D_follow_119 rfl rfl ?_
      refine mx_aload_n 0 d_D_follow_120 rfl rfl ?_
      refine mx_getPs 0 d_D_follow_121 f_D_9 rfl rfl (hD.o _ (by omega) (by omega)) (hqa) ?_
      refine mx_getPs 7 d_D_follow_124 f_D_35 rfl rfl (hD.o _ (by omega) (by omega)) (hD.p7 _ (by omega) (by omega)) ?_
      refine mx_iload_n 1 d_D_follow_127 rfl rfl ?_
      refine mx_iald d_D_follow_128 (hD.s7 _ (by omega) (by omega)) (by omega) (by omega) ?_
      rw [ea _ _ (by omega) (by omega)]
      refine mx_aload_n 0 d_D_follow_129 rfl rfl ?_
      refine mx_getPs 0 d_D_follow_130 f_D_9 rfl rfl (hD.o _ (by omega) (by omega)) (hqa) ?_
      refine mx_getPs 8 d_D_follow_133 f_D_39 rfl rfl (hD.o _ (by omega) (by omega)) (hD.p8 _ (by omega) (by omega)) ?_
      refine mx_iload_n 1 d_D_follow_136 rfl rfl ?_
      refine mx_iald d_D_follow_137 (hD.s8 _ (by omega) (by omega)) (by omega) (by omega) ?_
      rw [ea _ _ (by omega) (by omega)]
      refine mx_callV (kc := 0) (ks := 0) (N := n_D_addPaint) (as := [_, _]) (ci := 0) d_D_follow_138 s_D_80 ⟨Nat.le_of_ble_eq_true rfl, Nat.le_of_ble_eq_true rfl⟩ rfl (mj_wt_8 (Nat.le_of_ble_eq_true rfl)) (hD.o _ (by omega) (by omega)) ⟨_, rfl, rfl⟩ (ct_addPaint hD hd (by rw [h9]; exact ⟨by omega, by omega⟩) (by rw [← ea _ _ (by omega) (by omega)]; exact hR _ _) (by rw [← ea _ _ (by omega) (by omega)]; exact hR _ _)) (fun r_138 A_138 h_138 => ?_) (fun E_138 A_x h_138 => ?_)
      rotate_left
      · exact h_138.elim
      obtain ⟨rfl, hA_138⟩ := h_138
      obtain rfl := hA_138.symm
      clear hA_138
      refine mx_R fun hR_2 => ?_
      rw [h9]
      refine mx_iinc 1 d_D_follow_141 rfl (Nat.le_of_ble_eq_true rfl) ?_
      refine mx_goto 108 d_D_follow_144 rfl ?_
      have e9 : ∀ c i, gI (sI (sI (sI V ((1000 + 100 * d) + 10) k (gI A (1000 + 100 * a + 10) k)) ((1000 + 100 * d) + 11) k (gI A (1000 + 100 * a + 11) k)) (1000 + 100 * d) 9 (k + 1)) c i = if c = (1000 + 100 * d) ∧ i = 9 then k + 1 else if c = (1000 + 100 * d) + 11 ∧ i = k then gI A (1000 + 100 * a + 11) k else if c = (1000 + 100 * d) + 10 ∧ i = k then gI A (1000 + 100 * a + 10) k else gI V c i := fun c i => rfl
      refine ih (k + 1, _) ⟨⟨by show 0 ≤ k + 1; omega, by show k + 1 ≤ _; omega⟩, ⟨hv.S, hv.P, fun c i hc => ?_⟩, fun c i h1 h2 => ?_, ?_, fun j j0 j1 => ?_⟩ (by show (7 - (k + 1)).toNat < (7 - k).toNat; omega)
      · show gI (sI (sI (sI V ((1000 + 100 * d) + 10) k (gI A (1000 + 100 * a + 10) k)) ((1000 + 100 * d) + 11) k (gI A (1000 + 100 * a + 11) k)) (1000 + 100 * d) 9 (k + 1)) c i = _
        rw [e9, if_neg (by omega), if_neg (by omega), if_neg (by omega)]
        exact hv.I c i hc
      · show gI (sI (sI (sI V ((1000 + 100 * d) + 10) k (gI A (1000 + 100 * a + 10) k)) ((1000 + 100 * d) + 11) k (gI A (1000 + 100 * a + 11) k)) (1000 + 100 * d) 9 (k + 1)) c i = _
        rw [e9, if_neg (by omega), if_neg (by omega), if_neg (by omega)]
        exact h0 c i h1 h2
      · show gI (sI (sI (sI V ((1000 + 100 * d) + 10) k (gI A (1000 + 100 * a + 10) k)) ((1000 + 100 * d) + 11) k (gI A (1000 + 100 * a + 11) k)) (1000 + 100 * d) 9 (k + 1)) (1000 + 100 * d) 9 = k + 1
        rw [e9, if_pos ⟨rfl, rfl⟩]
      · replace j1 : j < k + 1 := j1
        show gI (sI (sI (sI V ((1000 + 100 * d) + 10) k (gI A (1000 + 100 * a + 10) k)) ((1000 + 100 * d) + 11) k (gI A (1000 + 100 * a + 11) k)) (1000 + 100 * d) 9 (k + 1)) ((1000 + 100 * d) + 10) j = _ ∧ gI (sI (sI (sI V ((1000 + 100 * d) + 10) k (gI A (1000 + 100 * a + 10) k)) ((1000 + 100 * d) + 11) k (gI A (1000 + 100 * a + 11) k)) (1000 + 100 * d) 9 (k + 1)) ((1000 + 100 * d) + 11) j = _
        rw [e9, e9]
        by_cases e : j = k
        · rw [e, if_neg (by omega), if_neg (by omega), if_pos ⟨rfl, rfl⟩, if_neg (by omega), if_pos ⟨rfl, rfl⟩]
          exact ⟨rfl, rfl⟩
        · rw [if_neg (by omega), if_neg (by omega), if_neg (by omega), if_neg (by omega), if_neg (by omega), if_neg (by omega)]
          exact hj j j0 (by omega)
  have hDW := fo_DS hf hD
  have hDA := hD
  have hD := hDW
  refine mx_R fun hR => ?_
  refine mx_aload_n 0 d_D_follow_101 rfl rfl ?_
  refine mx_iconst d_D_follow_102 ?_
  refine mx_putI 9 d_D_follow_103 f_D_65 rfl (hD.o _ (by omega) (by omega)) (Or.inl rfl) (Or.inl rfl) (by first | assumption | exact hR _ _ | exact r32_mk (by omega) (by omega)) ?_
  refine mx_R fun hR_1 => ?_
  refine mx_iconst d_D_follow_106 ?_
  refine mx_istore_n 1 d_D_follow_107 rfl (Nat.le_of_ble_eq_true rfl) ?_
  refine hl (0, sI W (1000 + 100 * d) 9 0) ⟨⟨by show (0 : Int) ≤ 0; omega, hp.1⟩, ⟨hf.S, hf.P, fun c i hc => ?_⟩, fun c i h1 h2 => ?_, ?_, fun j j0 j1 => absurd j1 (by show ¬ j < 0; omega)⟩
  · rw [gI_sI, if_neg (by omega)]
    exact hf.I c i hc
  · show gI (sI W (1000 + 100 * d) 9 0) c i = _
    rw [gI_sI, if_neg h1]
  · show gI (sI W (1000 + 100 * d) 9 0) (1000 + 100 * d) 9 = 0
    rw [gI_sI, if_pos ⟨rfl, rfl⟩]
/-- the names -/
theorem ct_fo_n {m d a b : Int} (hD : DS A m) (hd : 0 ≤ d ∧ d < m) (ha : 0 ≤ a ∧ a < d) (hb : 0 ≤ b ∧ b < d) (hca : cr (ch_c A a)) (hcb : cr (ch_c A b)) (hpa : gP A (1000 + 100 * d) 0 = some (1000 + 100 * a)) (hpb : gP A (1000 + 100 * d) 1 = some (1000 + 100 * b)) (hn : 0 ≤ (gI A (1000 + 100 * d) 2) ∧ (gI A (1000 + 100 * d) 2) ≤ (gI A (1000 + 100 * d) 3)) (hnd : 1 ≤ (gI A (1000 + 100 * d) 3) ∧ (gI A (1000 + 100 * d) 3) ≤ 24) :
    ∀ q : Nat × mj_M × Option mj_V × Option mj_V, (q.1 ≤ 8 ∧ fo A q.2.1 d ∧ gI q.2.1 (1000 + 100 * d) 13 = 0 ∧ gI q.2.1 (1000 + 100 * d) 6 = c_k (ch_c A a) (ch_c A b) q.1 ∧ cb_t (gI A (1000 + 100 * d) 2) (gI A (1000 + 100 * d) 3) (ch_c A a) (ch_c A b) (ch_c q.2.1 d) q.1) → mj_X G n_D_follow (mj_Qm G n_D_follow (fun r A' => r = none ∧ fo A A' d ∧ gI A' (1000 + 100 * d) 13 = 0 ∧ cb (gI A (1000 + 100 * d) 2) (gI A (1000 + 100 * d) 3) (ch_c A a) (ch_c A b) (ch_c A' d)) mj_no) q.2.1 0 0 27 [some (mR (some (1000 + 100 * d))), some (mI (q.1 : Int)), q.2.2.1, q.2.2.2] [] := by
  refine mj_loop _ (fun q => 9 - q.1) _ ?_
  intro ⟨t, W, l2, l3⟩ ⟨ht, hf, h13, h6, hcbt⟩ ih
  replace ht : t ≤ 8 := ht
  replace hf : fo A W d := hf
  replace h13 : gI W (1000 + 100 * d) 13 = 0 := h13
  replace h6 : gI W (1000 + 100 * d) 6 = c_k (ch_c A a) (ch_c A b) t := h6
  replace hcbt : cb_t (gI A (1000 + 100 * d) 2) (gI A (1000 + 100 * d) 3) (ch_c A a) (ch_c A b) (ch_c W d) t := hcbt
  show mj_X G n_D_follow (mj_Qm G n_D_follow (fun r A' => r = none ∧ fo A A' d ∧ gI A' (1000 + 100 * d) 13 = 0 ∧ cb (gI A (1000 + 100 * d) 2) (gI A (1000 + 100 * d) 3) (ch_c A a) (ch_c A b) (ch_c A' d)) mj_no) W 0 0 27 [some (mR (some (1000 + 100 * d))), some (mI (t : Int)), l2, l3] []
  have hDA := hD
  have hD := fo_DS hf hDA
  have hqa : gP W (1000 + 100 * d) 0 = some (1000 + 100 * a) := (hf.P _ _).trans hpa
  have hqb : gP W (1000 + 100 * d) 1 = some (1000 + 100 * b) := (hf.P _ _).trans hpb
  have cea := fo_ce hf hDA ⟨ha.1, by omega⟩ hca (by omega)
  have ceb := fo_ce hf hDA ⟨hb.1, by omega⟩ hcb (by omega)
  have na := hca.n
  have nb := hcb.n
  have na2 : gI W (1000 + 100 * a) 6 = c_n (ch_c A a) := cea.n.symm
  have nb2 : gI W (1000 + 100 * b) 6 = c_n (ch_c A b) := ceb.n.symm
  have ra := c_f_r (c := (ch_c A a)) t
  have rb := c_f_r (c := (ch_c A b)) t
  have hkr := c_k_r (a := (ch_c A a)) (b := (ch_c A b)) t
  have ekw : ∀ d i, sk W d i = sk A d i := fun d i => sk_e hf.P i
  have hnew : c_f (ch_c W d) t = -1 := by
    rcases c_f_r (c := ch_c W d) t with h | h
    · exact h
    · exfalso
      have h61 : c_n (ch_c W d) = c_k (ch_c A a) (ch_c A b) t := h6
      obtain ⟨s, s1, s2, s3⟩ := c_k_s (a := (ch_c A a)) (b := (ch_c A b)) t (c_f (ch_c W d) t) h.1 (by omega)
      have q := (hcbt s s1 s2).1
      rw [s3, h.2.2] at q
      omega
  have hDA2 := fun d h0 h1 i i0 i1 => (hf.S _).trans (hDA.ks d h0 h1 i i0 i1)
  have hn2 : gI W (1000 + 100 * d) 2 = (gI A (1000 + 100 * d) 2) := hf.I _ _ (by omega)
  have hn3 : gI W (1000 + 100 * d) 3 = (gI A (1000 + 100 * d) 3) := hf.I _ _ (by omega)
  refine mx_R fun hR => ?_
  refine mx_iload_n 1 d_D_follow_27 rfl rfl ?_
  refine mx_bipush d_D_follow_28 (by decide) ?_
  refine mx_icmp_ge 101 d_D_follow_30 rfl (by first | assumption | exact hR _ _ | exact r32_mk (by omega) (by omega)) (by first | assumption | exact hR _ _ | exact r32_mk (by omega) (by omega)) (fun c_30 => ?_) (fun c_30 => ?_)
  · have e8 : t = 8 := by omega
    subst e8
    exact ct_fo_p hDA hd ha hb hca hcb hpa hpb hn hnd hf h13 h6 hcbt
  · refine mx_aload_n 0 d_D_follow_33 rfl rfl ?_
    refine mx_getPs 0 d_D_follow_34 f_D_9 rfl rfl (hD.o _ (by omega) (by omega)) (hqa) ?_
    refine mx_iload_n 1 d_D_follow_37 rfl rfl ?_
    refine mx_callV (kc := 0) (ks := 0) (N := n_D_placeOfStroke) (as := [_]) (ci := 0) d_D_follow_38 s_D_55 ⟨Nat.le_of_ble_eq_true rfl, Nat.le_of_ble_eq_true rfl⟩ rfl (mj_wt_8 (Nat.le_of_ble_eq_true rfl)) (hD.o _ (by omega) (by omega)) ⟨_, rfl, rfl⟩ (ct_place2 (d := a) hD ⟨ha.1, by omega⟩ (by omega) (r32_mk (by omega) (by omega))) (fun r_38 A_38 h_38 => ?_) (fun E_38 A_x h_38 => ?_)
    rotate_left
    · exact h_38.elim
    obtain ⟨rfl, hA_38⟩ := h_38
    obtain rfl := hA_38.symm
    clear hA_38
    refine mx_R fun hR_1 => ?_
    rw [← c_f_e cea]
    refine mx_istore_n 2 d_D_follow_41 rfl (Nat.le_of_ble_eq_true rfl) ?_
    refine mx_aload_n 0 d_D_follow_42 rfl rfl ?_
    refine mx_getPs 1 d_D_follow_43 f_D_15 rfl rfl (hD.o _ (by omega) (by omega)) (hqb) ?_
    refine mx_iload_n 1 d_D_follow_46 rfl rfl ?_
    refine mx_callV (kc := 0) (ks := 0) (N := n_D_placeOfStroke) (as := [_]) (ci := 0) d_D_follow_47 s_D_55 ⟨Nat.le_of_ble_eq_true rfl, Nat.le_of_ble_eq_true rfl⟩ rfl (mj_wt_8 (Nat.le_of_ble_eq_true rfl)) (hD.o _ (by omega) (by omega)) ⟨_, rfl, rfl⟩ (ct_place2 (d := b) hD ⟨hb.1, by omega⟩ (by omega) (r32_mk (by omega) (by omega))) (fun r_47 A_47 h_47 => ?_) (fun E_47 A_x h_47 => ?_)
    rotate_left
    · exact h_47.elim
    obtain ⟨rfl, hA_47⟩ := h_47
    obtain rfl := hA_47.symm
    clear hA_47
    refine mx_R fun hR_2 => ?_
    rw [← c_f_e ceb]
    refine mx_istore_n 3 d_D_follow_50 rfl (Nat.le_of_ble_eq_true rfl) ?_
    refine mx_iload_n 2 d_D_follow_51 rfl rfl ?_
    refine mx_iconst d_D_follow_52 ?_
    refine mx_icmp_eq 95 d_D_follow_53 rfl (by first | assumption | exact hR_2 _ _ | exact hR_1 _ _ | exact hR _ _ | exact r32_mk (by omega) (by omega)) (by first | assumption | exact hR_2 _ _ | exact hR_1 _ _ | exact hR _ _ | exact r32_mk (by omega) (by omega)) (fun c_53 => ?_) (fun c_53 => ?_)
    · refine mx_iinc 1 d_D_follow_95 rfl (Nat.le_of_ble_eq_true rfl) ?_
      refine mx_goto 27 d_D_follow_98 rfl ?_
      first
      | (have hno : ¬ (c_f (ch_c A a) t ≠ -1 ∧ c_f (ch_c A b) t ≠ -1) := by omega
         have hk1 : c_k (ch_c A a) (ch_c A b) (t + 1) = c_k (ch_c A a) (ch_c A b) t := by rw [c_k, if_neg hno]
         exact ih (t + 1, W, _, _) ⟨by show t + 1 ≤ 8; omega, hf, h13, by show gI W (1000 + 100 * d) 6 = c_k (ch_c A a) (ch_c A b) (t + 1); rw [hk1]; exact h6, fun s hs1 hs2 => by
           by_cases e : s = t
           · rw [e] at hs2; exact absurd hs2 hno
           · exact hcbt s (by replace hs1 : s < t + 1 := hs1; omega) hs2⟩ (by show 9 - (t + 1) < 9 - t; omega))
      | exact ih (t + 1, _, _, _) ⟨by show t + 1 ≤ 8; omega, hfin.1, hf13, hfin.2.1, hfin.2.2⟩ (by show 9 - (t + 1) < 9 - t; omega)
    · refine mx_iload_n 3 d_D_follow_56 rfl rfl ?_
      refine mx_iconst d_D_follow_57 ?_
      refine mx_icmp_eq 95 d_D_follow_58 rfl (by first | assumption | exact hR_2 _ _ | exact hR_1 _ _ | exact hR _ _ | exact r32_mk (by omega) (by omega)) (by first | assumption | exact hR_2 _ _ | exact hR_1 _ _ | exact hR _ _ | exact r32_mk (by omega) (by omega)) (fun c_58 => ?_) (fun c_58 => ?_)
      · refine mx_iinc 1 d_D_follow_95 rfl (Nat.le_of_ble_eq_true rfl) ?_
        refine mx_goto 27 d_D_follow_98 rfl ?_
        first
        | (have hno : ¬ (c_f (ch_c A a) t ≠ -1 ∧ c_f (ch_c A b) t ≠ -1) := by omega
           have hk1 : c_k (ch_c A a) (ch_c A b) (t + 1) = c_k (ch_c A a) (ch_c A b) t := by rw [c_k, if_neg hno]
           exact ih (t + 1, W, _, _) ⟨by show t + 1 ≤ 8; omega, hf, h13, by show gI W (1000 + 100 * d) 6 = c_k (ch_c A a) (ch_c A b) (t + 1); rw [hk1]; exact h6, fun s hs1 hs2 => by
             by_cases e : s = t
             · rw [e] at hs2; exact absurd hs2 hno
             · exact hcbt s (by replace hs1 : s < t + 1 := hs1; omega) hs2⟩ (by show 9 - (t + 1) < 9 - t; omega))
        | exact ih (t + 1, _, _, _) ⟨by show t + 1 ≤ 8; omega, hfin.1, hf13, hfin.2.1, hfin.2.2⟩ (by show 9 - (t + 1) < 9 - t; omega)
      · refine mx_aload_n 0 d_D_follow_61 rfl rfl ?_
        refine mx_iload_n 1 d_D_follow_62 rfl rfl ?_
        refine mx_callV (kc := 0) (ks := 0) (N := n_D_strokeToDraw) (as := [_]) (ci := 0) d_D_follow_63 s_D_72 ⟨Nat.le_of_ble_eq_true rfl, Nat.le_of_ble_eq_true rfl⟩ rfl (mj_wt_8 (Nat.le_of_ble_eq_true rfl)) (hD.o _ (by omega) (by omega)) ⟨_, rfl, rfl⟩ (ct_strokeNew hD hd (by omega) hnew (by omega) (r32_mk (by omega) (by omega))) (fun r_63 A_63 h_63 => ?_) (fun E_63 A_x h_63 => ?_)
        rotate_left
        · exact h_63.elim
        obtain ⟨rfl, hA_63⟩ := h_63
        obtain rfl := hA_63.symm
        clear hA_63
        refine mx_R fun hR_3 => ?_
        rw [ekw]
        have hkk := hDA.ek d hd.1 hd.2 (gI W (1000 + 100 * d) 6) (by omega) (by omega)
        have hka := hDA.ek a ha.1 (by omega) (c_f (ch_c A a) t) (by omega) (by omega)
        have hkb := hDA.ek b hb.1 (by omega) (c_f (ch_c A b) t) (by omega) (by omega)
        have h2' : gI (sI (sI W (sk A d (gI W (1000 + 100 * d) 6)) 0 t) (1000 + 100 * d) 6 ((gI W (1000 + 100 * d) 6) + 1)) (1000 + 100 * d) 2 = (gI A (1000 + 100 * d) 2) := by rw [gI_sI, if_neg (by omega), gI_sI, if_neg (by omega), hn2]
        have h3' : gI (sI (sI W (sk A d (gI W (1000 + 100 * d) 6)) 0 t) (1000 + 100 * d) 6 ((gI W (1000 + 100 * d) 6) + 1)) (1000 + 100 * d) 3 = (gI A (1000 + 100 * d) 3) := by rw [gI_sI, if_neg (by omega), gI_sI, if_neg (by omega), hn3]
        have hsr : ∀ k, k ≠ (sk A d (gI W (1000 + 100 * d) 6)) → k ≠ (1000 + 100 * d) → ¬ ((1000 + 100 * d) + 2 ≤ k ∧ k ≤ (1000 + 100 * d) + 11) → sr A k → sr (sI (sI W (sk A d (gI W (1000 + 100 * d) 6)) 0 t) (1000 + 100 * d) 6 ((gI W (1000 + 100 * d) 6) + 1)) k := fun k k1 k2 k3 kk => by
          have e : ∀ j, gI (sI (sI W (sk A d (gI W (1000 + 100 * d) 6)) 0 t) (1000 + 100 * d) 6 ((gI W (1000 + 100 * d) 6) + 1)) k j = gI A k j := fun j => by
            rw [gI_sI, if_neg (by omega), gI_sI, if_neg (by omega), hf.I _ _ (by omega)]
          unfold sr
          rw [e, e, e, e]
          exact kk
        refine mx_aload_n 0 d_D_follow_66 rfl rfl ?_
        refine mx_getPs 0 d_D_follow_67 f_D_9 rfl rfl (hD.o _ (by omega) (by omega)) (hqa) ?_
        refine mx_getPs 5 d_D_follow_70 f_D_30 rfl rfl (hD.o _ (by omega) (by omega)) (hD.p5 _ (by omega) (by omega)) ?_
        refine mx_iload_n 2 d_D_follow_73 rfl rfl ?_
        refine mx_aalds d_D_follow_74 (hD.s5 _ (by omega) (by omega)) (by decide) (by omega) (by omega) (hD.e5 a ha.1 (by omega) _ (by omega) (by omega)) ?_
        rw [ekw]
        refine mx_aload_n 0 d_D_follow_75 rfl rfl ?_
        refine mx_getPs 1 d_D_follow_76 f_D_15 rfl rfl (hD.o _ (by omega) (by omega)) (hqb) ?_
        refine mx_getPs 5 d_D_follow_79 f_D_30 rfl rfl (hD.o _ (by omega) (by omega)) (hD.p5 _ (by omega) (by omega)) ?_
        refine mx_iload_n 3 d_D_follow_82 rfl rfl ?_
        refine mx_aalds d_D_follow_83 (hD.s5 _ (by omega) (by omega)) (by decide) (by omega) (by omega) (hD.e5 b hb.1 (by omega) _ (by omega) (by omega)) ?_
        rw [ekw]
        refine mx_aload_n 0 d_D_follow_84 rfl rfl ?_
        refine mx_getI 2 d_D_follow_85 f_D_18 rfl rfl (hD.o _ (by omega) (by omega)) ?_
        rw [h2']
        refine mx_aload_n 0 d_D_follow_88 rfl rfl ?_
        refine mx_getI 3 d_D_follow_89 f_D_22 rfl rfl (hD.o _ (by omega) (by omega)) ?_
        rw [h3']
        refine mx_callV (kc := 0) (ks := 0) (N := n_K_setBetween) (as := [_, _, _, _]) (ci := 5) d_D_follow_92 s_D_76 ⟨Nat.le_of_ble_eq_true rfl, Nat.le_of_ble_eq_true rfl⟩ rfl (mj_wt_8 (Nat.le_of_ble_eq_true rfl)) (hDA2 d hd.1 hd.2 (gI W (1000 + 100 * d) 6) (by omega) (by omega)) ⟨_, rfl, rfl⟩ (ct_setBetween (A := sI (sI W (sk A d (gI W (1000 + 100 * d) 6)) 0 t) (1000 + 100 * d) 6 ((gI W (1000 + 100 * d) 6) + 1)) (hDA2 d hd.1 hd.2 (gI W (1000 + 100 * d) 6) (by omega) (by omega)) (hDA2 a ha.1 (by omega) (c_f (ch_c A a) t) (by omega) (by omega)) (hDA2 b hb.1 (by omega) (c_f (ch_c A b) t) (by omega) (by omega)) hn hnd (hsr _ (by omega) (by omega) (by omega) (ch_sr hca (by omega) (by show c_f (ch_c A a) t < c_n (ch_c A a); omega))) (hsr _ (by omega) (by omega) (by omega) (ch_sr hcb (by omega) (by show c_f (ch_c A b) t < c_n (ch_c A b); omega)))) (fun r_92 A_92 h_92 => ?_) (fun E_92 A_x h_92 => ?_)
        rotate_left
        · exact h_92.elim
        obtain ⟨rfl, hA_92⟩ := h_92
        obtain rfl := hA_92.symm
        clear hA_92
        refine mx_R fun hR_4 => ?_
        have hfo2 : c_f (ch_c A a) t ≠ -1 ∧ c_f (ch_c A b) t ≠ -1 := ⟨by omega, by omega⟩
        have hfin := fo_s1 hDA hd ha hb hca hcb hf h6 (by omega) hfo2 hcbt
        have hf13 : gI (sb_m (sI (sI W (sk A d (gI W (1000 + 100 * d) 6)) 0 t) (1000 + 100 * d) 6 ((gI W (1000 + 100 * d) 6) + 1)) (sk A d (gI W (1000 + 100 * d) 6)) (sk A a (c_f (ch_c A a) t)) (sk A b (c_f (ch_c A b) t)) (gI A (1000 + 100 * d) 2) (gI A (1000 + 100 * d) 3)) (1000 + 100 * d) 13 = 0 := by
          rw [(fo_s0 hDA hd ha hb hca hcb hf h6 (by omega) hfo2).1 (1000 + 100 * d) 13 (by omega) (by omega)]
          exact h13
        refine mx_iinc 1 d_D_follow_95 rfl (Nat.le_of_ble_eq_true rfl) ?_
        refine mx_goto 27 d_D_follow_98 rfl ?_
        first
        | (have hno : ¬ (c_f (ch_c A a) t ≠ -1 ∧ c_f (ch_c A b) t ≠ -1) := by omega
           have hk1 : c_k (ch_c A a) (ch_c A b) (t + 1) = c_k (ch_c A a) (ch_c A b) t := by rw [c_k, if_neg hno]
           exact ih (t + 1, W, _, _) ⟨by show t + 1 ≤ 8; omega, hf, h13, by show gI W (1000 + 100 * d) 6 = c_k (ch_c A a) (ch_c A b) (t + 1); rw [hk1]; exact h6, fun s hs1 hs2 => by
             by_cases e : s = t
             · rw [e] at hs2; exact absurd hs2 hno
             · exact hcbt s (by replace hs1 : s < t + 1 := hs1; omega) hs2⟩ (by show 9 - (t + 1) < 9 - t; omega))
        | exact ih (t + 1, _, _, _) ⟨by show t + 1 ≤ 8; omega, hfin.1, hf13, hfin.2.1, hfin.2.2⟩ (by show 9 - (t + 1) < 9 - t; omega)
theorem ct_follow {m d a b : Int} (hD : DS A m) (hd : 0 ≤ d ∧ d < m) (ha : 0 ≤ a ∧ a < d) (hb : 0 ≤ b ∧ b < d) (hca : cr (ch_c A a)) (hcb : cr (ch_c A b)) (hpa : gP A (1000 + 100 * d) 0 = some (1000 + 100 * a)) (hpb : gP A (1000 + 100 * d) 1 = some (1000 + 100 * b)) (hn : 0 ≤ (gI A (1000 + 100 * d) 2) ∧ (gI A (1000 + 100 * d) 2) ≤ (gI A (1000 + 100 * d) 3)) (hnd : 1 ≤ (gI A (1000 + 100 * d) 3) ∧ (gI A (1000 + 100 * d) 3) ≤ 24) : mj_Cal G n_D_follow [mR (some (1000 + 100 * d))] A (fun r A' => r = none ∧ fo A A' d ∧ gI A' (1000 + 100 * d) 13 = 0 ∧ cb (gI A (1000 + 100 * d) 2) (gI A (1000 + 100 * d) 3) (ch_c A a) (ch_c A b) (ch_c A' d)) mj_no := by
  refine mj_bodyK 0 0 [some (mR (some (1000 + 100 * d))), none, none, none] rfl rfl rfl (by decide +kernel) (Nat.le_of_ble_eq_true rfl) (by simp) rfl ?_
  refine mx_R fun hR => ?_
  refine mx_aload_n 0 d_D_follow_0 rfl rfl ?_
  refine mx_iconst d_D_follow_1 ?_
  refine mx_putI 13 d_D_follow_2 f_D_68 rfl (hD.o _ (by omega) (by omega)) (Or.inl rfl) (Or.inr ⟨rfl, by first | exact Or.inl rfl | exact Or.inr rfl | omega⟩) (by first | assumption | exact hR _ _ | exact r32_mk (by omega) (by omega)) ?_
  refine mx_R fun hR_1 => ?_
  refine mx_aload_n 0 d_D_follow_5 rfl rfl ?_
  refine mx_getPs 0 d_D_follow_6 f_D_9 rfl rfl (hD.o _ (by omega) (by omega)) (hpa) ?_
  refine mx_ifnull 19 d_D_follow_9 rfl (fun c_9 => ?_) (fun c_9 => ?_)
  · cases c_9
  · refine mx_aload_n 0 d_D_follow_12 rfl rfl ?_
    refine mx_getPs 1 d_D_follow_13 f_D_15 rfl rfl (hD.o _ (by omega) (by omega)) (hpb) ?_
    refine mx_ifnonnull 20 d_D_follow_16 rfl (fun c_16 => ?_) (fun c_16 => ?_)
    · refine mx_aload_n 0 d_D_follow_20 rfl rfl ?_
      refine mx_iconst d_D_follow_21 ?_
      refine mx_putI 6 d_D_follow_22 f_D_49 rfl (hD.o _ (by omega) (by omega)) (Or.inl rfl) (Or.inl rfl) (by first | assumption | exact hR_1 _ _ | exact hR _ _ | exact r32_mk (by omega) (by omega)) ?_
      refine mx_R fun hR_2 => ?_
      refine mx_iconst d_D_follow_25 ?_
      refine mx_istore_n 1 d_D_follow_26 rfl (Nat.le_of_ble_eq_true rfl) ?_
      have e0 : ∀ c i, gI (sI (sI A (1000 + 100 * d) 13 0) (1000 + 100 * d) 6 0) c i = if c = (1000 + 100 * d) ∧ i = 6 then 0 else if c = (1000 + 100 * d) ∧ i = 13 then 0 else gI A c i := fun c i => rfl
      refine ct_fo_n hD hd ha hb hca hcb hpa hpb hn hnd (0, _, none, none) ⟨by show 0 ≤ 8; omega, ⟨fun _ => rfl, fun _ _ => rfl, fun c i hc => ?_⟩, ?_, ?_, fun s s1 => by omega⟩
      · show gI (sI (sI A (1000 + 100 * d) 13 0) (1000 + 100 * d) 6 0) c i = _
        rw [e0, if_neg (by omega), if_neg (by omega)]
      · show gI (sI (sI A (1000 + 100 * d) 13 0) (1000 + 100 * d) 6 0) (1000 + 100 * d) 13 = 0
        rw [e0, if_neg (by omega), if_pos ⟨rfl, rfl⟩]
      · show gI (sI (sI A (1000 + 100 * d) 13 0) (1000 + 100 * d) 6 0) (1000 + 100 * d) 6 = 0
        rw [e0, if_pos ⟨rfl, rfl⟩]
    · cases c_16
end CLS9
