/-! THE LAW, 13: its start -/
section LAWG
variable {G : mj_G}
/-- the memory at the law's entry: the script -/
def in_0 (X : Int → Int) : mj_M := (fun c => if c = 50 then some (.inl 99) else none, fun c i => if c = 50 then X i else 0, fun _ _ => none)
def in_5 (X : Int → Int) : mj_M := sN (mi_m (sN (hi_m (sN (in_0 X) 100 (.inl 6))) 200 (.inl 7))) 140 (.inr (2, 1))
theorem in_z {X : Int → Int} {c i : Int} (h1 : c ≠ 231) (h2 : c ≠ 222) (h3 : c ≠ 108) (h4 : c ≠ 105) (h5 : c ≠ 50) : gI (in_5 X) c i = 0 := by
  unfold in_5 mi_m mi_0 hi_m hi_5 hi_4 hi_3 hi_2 hi_1 hi_0 pcr_m fl_i in_0
  simp only [gI_sF, gI_sP, gI_sN, h1, h2, h3, h4, if_false]
  show (if _ then _ else _) = _
  simp only [gI, h5, if_false, ite_self]
theorem in_n {X : Int → Int} {c : Int} (h : 300 ≤ c ∨ c = 130) : gS (in_5 X) c = none := by
  unfold in_5 mi_m mi_0 hi_m hi_5 hi_4 hi_3 hi_2 hi_1 hi_0 pcr_m fl_i in_0
  simp only [gS_sF, gS_sP, gS_sN]
  repeat rw [if_neg (by omega)]
  show (if c = 50 then _ else _) = _
  rw [if_neg (by omega)]
theorem in_JT {X : Int → Int} : JT X (fun _ => mo_c (in_5 X) 0) (in_5 X) := by
  have z2 : ∀ i, gI (in_5 X) 200 i = 0 := fun i => in_z (by omega) (by omega) (by omega) (by omega) (by omega)
  have z1 : ∀ i, gI (in_5 X) 100 i = 0 := fun i => in_z (by omega) (by omega) (by omega) (by omega) (by omega)
  have zc : ∀ c i, ((201 ≤ c ∧ c ≤ 221) ∨ (223 ≤ c ∧ c ≤ 230) ∨ (232 ≤ c ∧ c ≤ 245)) → gI (in_5 X) c i = 0 := fun c i hc => in_z (by omega) (by omega) (by omega) (by omega) (by omega)
  have e231 : ∀ i, gI (in_5 X) 231 i = mth0 i := fun _ => rfl
  have e108 : ∀ i, gI (in_5 X) 108 i = mth0 i := fun _ => rfl
  have e222 : ∀ i, gI (in_5 X) 222 i = pal0 i := fun _ => rfl
  have e105 : ∀ i, gI (in_5 X) 105 i = pal0 i := fun _ => rfl
  have hp : ∀ i, 0 ≤ pal0 i ∧ pal0 i ≤ 99 := fun i => by
    unfold pal0
    split <;> omega
  have hMS : MS (in_5 X) := by
    refine ⟨rfl, fun q hq => ?_⟩
    unfold mT_m at hq
    simp only [List.mem_cons, List.not_mem_nil, or_false] at hq
    repeat (first | (rcases hq with rfl | hq; exact ⟨rfl, rfl⟩) | (subst hq; exact ⟨rfl, rfl⟩))
  have hHS : HS (in_5 X) := by
    refine ⟨rfl, fun q hq => ?_, ⟨rfl, rfl, rfl, rfl, rfl, rfl, rfl, rfl⟩, rfl, rfl, rfl, rfl, rfl, rfl⟩
    unfold mT_h at hq
    simp only [List.mem_cons, List.not_mem_nil, or_false] at hq
    repeat (first | (rcases hq with rfl | hq; exact ⟨rfl, rfl⟩) | (subst hq; exact ⟨rfl, rfl⟩))
  refine ⟨⟨⟨hMS, ?_, ?_, ?_, ?_, ?_, fun k => by rw [e222]; exact hp k, fun k => Or.inl (zc 208 k (by omega)), fun k => Or.inl (zc 228 k (by omega)), by rw [z2, z2]; omega, by rw [z2]; omega, fun k k0 k1 => by rw [z2] at k1; omega, by rw [z2]; omega, fun k k0 k1 => by rw [z2] at k1; omega, fun d d0 d1 => by rw [z2] at d1; omega⟩, ?_, ?_, ?_, ?_, ?_, ?_⟩, ?_, rfl, rfl⟩
  · refine ⟨by rw [z2]; omega, by rw [z2]; omega, fun s s0 s1 => by rw [z2] at s1; omega, fun s s0 s1 => by rw [z2] at s1; omega, fun k => by rw [zc 226 k (by omega)]; omega, fun k k0 k1 => by rw [z2] at k1; omega, fun k => by rw [zc 227 k (by omega)]; omega, fun k k0 k1 => ?_⟩
    rw [e231, z2]
    unfold mth0
    rw [if_pos ⟨k0, k1⟩]
    omega
  · exact ⟨by rw [z2]; omega, fun p p0 p1 => by rw [z2] at p1; omega, fun p p0 p1 => by rw [z2] at p1; omega, fun k => by rw [zc 235 k (by omega)]; omega, fun k => by rw [zc 236 k (by omega)]; omega, fun k => by rw [zc 237 k (by omega)]; omega⟩
  · exact ⟨fun k k0 k1 => by rw [z2] at k1; omega, fun s l s0 s1 => by rw [z2] at s1; omega⟩
  · exact ⟨⟨fun d d0 d1 => by rw [zc 209 d (by omega)]; omega, fun k => by rw [zc 212 _ (by omega)]; omega, fun k => by rw [zc 212 _ (by omega)]; omega, fun k => by rw [zc 212 _ (by omega)]; omega, fun k => by rw [zc 212 _ (by omega)]; omega, fun k => by rw [zc 211 _ (by omega)]; omega⟩, ⟨fun d d0 d1 => by rw [zc 213 d (by omega)]; omega, fun k => by rw [zc 214 k (by omega)]; omega, fun k => by rw [zc 215 k (by omega)]; omega, fun k => Or.inl (zc 216 k (by omega))⟩, fun q _ => zc 221 q (by omega), fun k => by rw [zc 218 k (by omega)]; omega, Or.inl (z2 17)⟩
  · exact ⟨fun d d0 d1 => by rw [z2] at d1; omega, fun d d0 d1 => by rw [z2] at d1; omega, fun _ d d0 d1 => by rw [z2] at d1; omega⟩
  · exact ⟨hHS, fun d d0 d1 => by rw [z1] at d1; omega, by rw [z1]; omega, by rw [z1, z2], fun d d0 d1 => by rw [z1] at d1; omega, fun d d0 d1 => by rw [z1] at d1; omega, fun d d0 d1 => by rw [z1] at d1; omega, fun d d0 d1 => by rw [z1] at d1; omega, fun d d0 d1 => by rw [z1] at d1; omega, fun d d0 d1 => by rw [z1] at d1; omega⟩
  · exact ⟨fun d d0 d1 => by rw [z2] at d1; omega, fun d d0 d1 => by rw [z2] at d1; omega, fun p _ => in_z (by omega) (by omega) (by omega) (by omega) (by omega), fun d d0 d1 => by rw [z2] at d1; omega, fun d d0 d1 j j0 j1 => in_n (by rw [z2] at d0; omega), by rw [z1, z1, z2, z2]; exact ⟨rfl, rfl⟩⟩
  · refine ⟨by rw [z1, z2], fun s s0 s1 => by rw [z2] at s1; omega, fun s s0 s1 => by rw [z2] at s1; omega, fun s s0 s1 => by rw [z2] at s1; omega, fun s s0 s1 => by rw [z2] at s1; omega, fun s s0 s1 => by rw [z2] at s1; omega, fun s s0 s1 => by rw [z2] at s1; omega, fun s s0 s1 => by rw [z2] at s1; omega, fun s s0 s1 => by rw [z2] at s1; omega, fun s s0 s1 => by rw [z2] at s1; omega, fun s s0 s1 => by rw [z2] at s1; omega, fun s s0 s1 j j0 j1 => in_n (by rw [z2] at s0; omega), fun k _ => zc 238 k (by omega), fun k _ => zc 228 k (by omega), fun k => Or.inl (zc 238 k (by omega)), fun k k0 k1 => by rw [e108, e231], fun k k0 k1 => by rw [e105, e222]⟩
  · exact ⟨by rw [z1, z2], fun s s0 s1 => by rw [z2] at s1; omega, fun s s0 s1 => by rw [z2] at s1; omega, fun s s0 s1 => by rw [z2] at s1; omega, fun s s0 s1 => by rw [z2] at s1; omega, fun s s0 s1 => by rw [z2] at s1; omega, fun s s0 s1 => by rw [z2] at s1; omega, fun s s0 s1 => by rw [z2] at s1; omega, fun s s0 s1 => ⟨fun j j0 j1 => in_n (by rw [z2] at s0; omega), zc 234 s (by omega)⟩⟩
  · exact ⟨by rw [z1, z2], fun k k0 k1 => by rw [z2] at k1; omega, by rw [z1, z2], fun k k0 k1 => by rw [z2] at k1; omega, ⟨in_n (by omega), fun i => in_z (by omega) (by omega) (by omega) (by omega) (by omega)⟩, rfl⟩
  · exact fun k k0 k1 => ⟨zc 209 k (by omega), zc 213 k (by omega), zc 216 k (by omega), zc 208 k (by omega)⟩
  · exact fun s s0 s1 => by rw [z2] at s1; omega
/-- the law's walk from its entry -/
theorem lw_all {X : Int → Int} {Q : mj_Q} (hX : 0 ≤ X (-1) ∧ X (-1) ≤ 3072) (hend : ∀ A2 i o5 o6, JE X A2 → mj_X G n_L_law Q A2 0 0 2571 [some (mR (some 50)), some (mR (some 100)), some (mR (some 200)), some (mR (some 140)), some (mI i), o5, o6] []) : mj_X G n_L_law Q (in_0 X) 601024 7293034 0 [some (mR (some 50)), none, none, none, none, none, none] [] := by
  have h0 : ∀ c, c ≠ 50 → gS (in_0 X) c = none := fun c hc => if_neg hc
  refine mx_R fun hR => ?_
  refine mx_new (kc := 601023) (ks := 7293016) (n := 18) (100) d_L_law_0 w_L_8 (h0 100 (by omega)) ?_
  refine mx_dup d_L_law_3 (fun z h => by cases h) ?_
  refine mx_callI (kc := 601007) (ks := 7291772) (N := n_H_init) (as := []) d_L_law_4 s_L_124 ⟨Nat.le_of_ble_eq_true rfl, Nat.le_of_ble_eq_true rfl⟩ rfl (mj_wt_8 (Nat.le_of_ble_eq_true rfl)) (ct_H_init (A := sN (in_0 X) 100 (.inl 6)) rfl (fun c c0 c1 => by rw [gS_sN, if_neg (by omega)]; exact h0 c (by omega))) (fun r_4 A_4 h_4 => ?_)
  obtain ⟨rfl, hA_4⟩ := h_4
  obtain rfl := hA_4.symm
  clear hA_4
  refine mx_astore_n 1 d_L_law_7 rfl (Nat.le_of_ble_eq_true rfl) ?_
  refine mx_new (kc := 601006) (ks := 7291726) (n := 46) (200) d_L_law_8 w_L_125 (rfl) ?_
  refine mx_dup d_L_law_11 (fun z h => by cases h) ?_
  refine mx_callI (kc := 600970) (ks := 7255324) (N := n_M_init) (as := []) d_L_law_12 s_L_127 ⟨Nat.le_of_ble_eq_true rfl, Nat.le_of_ble_eq_true rfl⟩ rfl (mj_wt_8 (Nat.le_of_ble_eq_true rfl)) (ct_M_init (A := sN (hi_m (sN (in_0 X) 100 (.inl 6))) 200 (.inl 7)) rfl (fun c c0 c1 => by
rw [gS_sN, if_neg (by omega)]
unfold hi_m hi_5 hi_4 hi_3 hi_2 hi_1 hi_0 pcr_m fl_i
simp only [gS_sF, gS_sP, gS_sN]
repeat rw [if_neg (by omega)]
exact h0 c (by omega))) (fun r_12 A_12 h_12 => ?_)
  obtain ⟨rfl, hA_12⟩ := h_12
  obtain rfl := hA_12.symm
  clear hA_12
  refine mx_astore_n 2 d_L_law_15 rfl (Nat.le_of_ble_eq_true rfl) ?_
  refine mx_iconst d_L_law_16 ?_
  refine mx_newa (kc := 600969) (ks := 7255323) (n1 := 1) (140) d_L_law_17 (by decide) rfl mj_ac2 (rfl) (rfl) (by decide) ?_
  refine mx_astore_n 3 d_L_law_19 rfl (Nat.le_of_ble_eq_true rfl) ?_
  refine mx_iconst d_L_law_20 ?_
  refine mx_istore 4 d_L_law_21 (Nat.le_of_ble_eq_true rfl) ?_
  refine mx_less (kc' := 20 * 512) (ks' := 4767 * 512) (by decide) (by decide) ?_
  exact lw_loop hX hend 512 (in_5 X) 0 none none ⟨_, in_JT⟩ (by omega) (by omega)
end LAWG
