/-! THE HOUSE, 5: pictures -/
/-- the paints from m on have been laid -/
def dn (op : Int → Prop) (ln S F : Int → Int) (N m : Int) (h : Int → Int) : Prop := ∀ p, 0 ≤ p → p < 192 → (∃ k, m ≤ k ∧ k < N ∧ bf_re op (S k) p ∧ h p = F k ∧ ∀ j, k < j → j < N → ¬ bf_re op (S j) p) ∨ ((∀ k, m ≤ k → k < N → ¬ bf_re op (S k) p) ∧ h p = ln p)
theorem pc_pf_0 {op : Int → Prop} {ln S F : Int → Int} {p : Int} : ∀ n : Nat, (∀ k : Int, 0 ≤ k → k < n → ¬ bf_re op (S k) p) → pc_pf op ln S F n p = ln p
  | 0, _ => rfl
  | n + 1, h => by rw [pc_pf, if_neg (h n (by omega) (by omega)), pc_pf_0 n (fun k h0 h1 => h k h0 (by omega))]
theorem pc_pf_1 {op : Int → Prop} {ln S F : Int → Int} {p k : Int} (h0 : 0 ≤ k) (hk : bf_re op (S k) p) : ∀ n : Nat, k < n → (∀ j : Int, k < j → j < n → ¬ bf_re op (S j) p) → pc_pf op ln S F n p = F k
  | 0, h, _ => by omega
  | n + 1, h, hj => by
    rw [pc_pf]
    by_cases e : k = n
    · rw [← e, if_pos hk]
    · rw [if_neg (hj n (by omega) (by omega)), pc_pf_1 h0 hk n (by omega) (fun j j0 j1 => hj j j0 (by omega))]
theorem dn_pf {op : Int → Prop} {ln S F h : Int → Int} {N p : Int} (hN : 0 ≤ N) (hd : dn op ln S F N 0 h) (hp : 0 ≤ p ∧ p < 192) : h p = pc_pf op ln S F N.toNat p := by
  rcases hd p hp.1 hp.2 with ⟨k, k0, k1, k2, k3, k4⟩ | ⟨k0, k1⟩
  · rw [k3, pc_pf_1 k0 k2 _ (by omega) (fun j j0 j1 => k4 j j0 (by omega))]
  · rw [k1, pc_pf_0 _ (fun k h0 h1 => k0 k h0 (by omega))]
theorem dn_N {op : Int → Prop} {ln S F h : Int → Int} {N : Int} (he : ∀ p, 0 ≤ p → p < 192 → h p = ln p) : dn op ln S F N N h := fun p p0 p1 => Or.inr ⟨fun k k0 k1 => by omega, he p p0 p1⟩
/-- where the paint's place has something already nothing more is laid -/
theorem dn_no {op : Int → Prop} {ln S F h : Int → Int} {N i : Int} (hr : ∀ q, op q → 0 ≤ q ∧ q < 192) (ho : ∀ q, op q → ln q = -1) (hS : 0 ≤ S i ∧ S i < 192) (hd : dn op ln S F N (i + 1) h) (hne : h (S i) ≠ -1) : dn op ln S F N i h := by
  intro p p0 p1
  rcases hd p p0 p1 with ⟨k, k0, k1, k2, k3, k4⟩ | ⟨k0, k1⟩
  · exact Or.inl ⟨k, by omega, k1, k2, k3, k4⟩
  · refine Or.inr ⟨fun k h0 h1 hk => ?_, k1⟩
    by_cases e : k = i
    · rw [e] at hk
      have hop := (bf_op hk).1
      rcases hd (S i) hS.1 hS.2 with ⟨j, j0, j1, j2, j3, j4⟩ | ⟨j0, j1⟩
      · exact k0 j j0 j1 (bf_trans j2 hk)
      · exact hne (by rw [j1, ho _ hop])
    · exact k0 k (by omega) h1 hk
theorem dn_1 {op : Int → Prop} {ln S F h h' : Int → Int} {N i : Int} (hr : ∀ q, op q → 0 ≤ q ∧ q < 192) (hF : ∀ k, i ≤ k → k < N → 0 ≤ F k) (hi : i < N) (hS : 0 ≤ S i ∧ S i < 192) (hd : dn op ln S F N (i + 1) h) (heq : h (S i) = -1) (h1 : ∀ p, 0 ≤ p → p < 192 → bf_re op (S i) p → h' p = F i) (h2 : ∀ p, 0 ≤ p → p < 192 → ¬ bf_re op (S i) p → h' p = h p) : dn op ln S F N i h' := by
  intro p p0 p1
  by_cases hb : bf_re op (S i) p
  · refine Or.inl ⟨i, by omega, hi, hb, h1 p p0 p1 hb, fun j j0 j1 hj => ?_⟩
    have h3 := bf_trans hj (bf_symm hr hb)
    rcases hd (S i) hS.1 hS.2 with ⟨k, k0, k1, k2, k3, k4⟩ | ⟨k0, k1⟩
    · have := hF k (by omega) k1
      omega
    · exact k0 j (by omega) j1 h3
  · rw [h2 p p0 p1 hb]
    rcases hd p p0 p1 with ⟨k, k0, k1, k2, k3, k4⟩ | ⟨k0, k1⟩
    · exact Or.inl ⟨k, by omega, k1, k2, k3, k4⟩
    · refine Or.inr ⟨fun k h0 h1 hk => ?_, k1⟩
      by_cases e : k = i
      · rw [e] at hk; exact hb hk
      · exact k0 k (by omega) h1 hk
section CLS5
variable {G : mj_G} {A : mj_M}
theorem pa_m1 {A : mj_M} {h c u : Int → Int} {n q p v : Int} (hq : ¬ (q = 123 ∨ q = 124 ∨ q = 117)) : sI (fl_m (sF A q h) c u n) q p v = fl_m (sF A q (fun i => if i = p then v else h i)) c u n := by
  unfold fl_m
  refine mj_ext3 (fun _ => rfl) (fun c x => ?_) (fun _ _ => rfl)
  simp only [gI_sI, gI_sF]
  grind
/-- a field is filled -/
theorem ct_pa_in {t l w q m d i v : Int} {op : Int → Prop} {h c u : Int → Int} {n : Int} {P : Option mj_V → mj_M → Prop} (hF : FS A) (hC : CS A t l w q) (hpc : pcc l w q) (hD : DS A m) (hd : 0 ≤ d ∧ d < m) (hcr : cr (ch_c A d)) (hop : ho A l w = op) (hi : 0 ≤ i ∧ i < (gI A (1000 + 100 * d) 9)) (hv : gI A ((1000 + 100 * d) + 11) i = v) (hb : bf_ok op (gI A ((1000 + 100 * d) + 10) i) c u n n)
    (hP : ∀ h' l4, (∀ p, 0 ≤ p → p < 192 → c p = 1 → h' p = v) → (∀ p, 0 ≤ p → p < 192 → c p ≠ 1 → h' p = h p) → mj_X G n_C_paintAll (mj_Qm G n_C_paintAll P mj_no) (fl_m (sF A q h') c u n) 0 0 89 [some (mR (some t)), some (mR (some (1000 + 100 * d))), some (mR (some 117)), some (mI i), l4] []) :
    ∀ z : Int × (Int → Int), ((0 ≤ z.1 ∧ z.1 ≤ n) ∧ (∀ k, 0 ≤ k → k < z.1 → z.2 (u k) = v) ∧ ∀ p, 0 ≤ p → p < 192 → (∀ k, 0 ≤ k → k < z.1 → u k ≠ p) → z.2 p = h p) → mj_X G n_C_paintAll (mj_Qm G n_C_paintAll P mj_no) (fl_m (sF A q z.2) c u n) 0 0 56 [some (mR (some t)), some (mR (some (1000 + 100 * d))), some (mR (some 117)), some (mI i), some (mI z.1)] [] := by
  have hn := bf_n hb
  have hp9 := hcr.p
  replace hp9 : 0 ≤ (gI A (1000 + 100 * d) 9) ∧ (gI A (1000 + 100 * d) 9) ≤ 6 := hp9
  refine mj_loop _ (fun z => (193 - z.1).toNat) _ ?_
  intro ⟨k, g⟩ ⟨hk, h1, h2⟩ ih
  replace hk : 0 ≤ k ∧ k ≤ n := hk
  replace h1 : ∀ j, 0 ≤ j → j < k → g (u j) = v := h1
  replace h2 : ∀ p, 0 ≤ p → p < 192 → (∀ j, 0 ≤ j → j < k → u j ≠ p) → g p = h p := h2
  show mj_X G n_C_paintAll (mj_Qm G n_C_paintAll P mj_no) (fl_m (sF A q g) c u n) 0 0 56 [some (mR (some t)), some (mR (some (1000 + 100 * d))), some (mR (some 117)), some (mI i), some (mI k)] []
  have e1 : gI (fl_m (sF A q g) c u n) 117 2 = n := rfl
  have e2 : gI (fl_m (sF A q g) c u n) 123 k = u k := rfl
  have e3 : gI (fl_m (sF A q g) c u n) ((1000 + 100 * d) + 11) i = v := by rw [fl_mo (by omega), gI_sF, if_neg (by omega), hv]
  have hu : k < n → 0 ≤ u k ∧ u k < 192 := fun hkn => by
    have h5 := hb.2.2.1 (u k) (hb.2.2.2.1 k hk.1 hkn)
    have h6 : ho A l w (u k) := by rw [hop]; exact (bf_op h5).2
    exact h6.1
  refine mx_R fun hR => ?_
  refine mx_iload 4 d_C_paintAll_56 rfl ?_
  refine mx_aload_n 2 d_C_paintAll_58 rfl rfl ?_
  refine mx_getI 2 d_C_paintAll_59 f_C_102 rfl rfl (hF.o) ?_
  rw [e1]
  refine mx_icmp_ge 89 d_C_paintAll_62 rfl (by first | assumption | exact hR _ _ | exact r32_mk (by omega) (by omega)) (by first | assumption | exact hR _ _ | exact r32_mk (by omega) (by omega)) (fun c_62 => ?_) (fun c_62 => ?_)
  · refine hP g _ (fun p p0 p1 hc => ?_) (fun p p0 p1 hc => h2 p p0 p1 (fun j j0 j1 e => hc ?_))
    · obtain ⟨j, j0, j1, j2⟩ := hb.2.2.2.2.1 p hc
      rw [← j2]
      exact h1 j j0 (by omega)
    · rw [← e]
      exact hb.2.2.2.1 j j0 (by omega)
  · have hu := hu (by omega)
    refine mx_aload_n 0 d_C_paintAll_65 rfl rfl ?_
    refine mx_getPs 2 d_C_paintAll_66 f_C_18 rfl rfl (hC.o) (hC.p2) ?_
    refine mx_aload_n 2 d_C_paintAll_69 rfl rfl ?_
    refine mx_getPs 0 d_C_paintAll_70 f_C_105 rfl rfl (hF.o) (hF.p0) ?_
    refine mx_iload 4 d_C_paintAll_73 rfl ?_
    refine mx_iald d_C_paintAll_75 (hF.s0) (by omega) (by omega) ?_
    rw [e2]
    refine mx_aload_n 1 d_C_paintAll_76 rfl rfl ?_
    refine mx_getPs 8 d_C_paintAll_77 f_C_108 rfl rfl (hD.o _ (by omega) (by omega)) (hD.p8 _ (by omega) (by omega)) ?_
    refine mx_iload_n 3 d_C_paintAll_80 rfl rfl ?_
    refine mx_iald d_C_paintAll_81 (hD.s8 _ (by omega) (by omega)) (by omega) (by omega) ?_
    rw [e3]
    refine mx_iast d_C_paintAll_82 (hC.s2) (by omega) (by omega) (by rw [← e3]; exact hR _ _) ?_
    refine mx_R fun hR_1 => ?_
    rw [pa_m1 (by omega)]
    refine mx_iinc 4 d_C_paintAll_83 rfl (Nat.le_of_ble_eq_true rfl) ?_
    refine mx_goto 56 d_C_paintAll_86 rfl ?_
    refine ih (k + 1, _) ⟨⟨by show 0 ≤ k + 1; omega, by show k + 1 ≤ n; omega⟩, fun j j0 j1 => ?_, fun p p0 p1 hj => ?_⟩ (by show (193 - (k + 1)).toNat < (193 - k).toNat; omega)
    · show (if u j = u k then v else g (u j)) = v
      replace j1 : j < k + 1 := j1
      by_cases e : u j = u k
      · rw [if_pos e]
      · rw [if_neg e]
        by_cases e2 : j = k
        · rw [e2] at e; exact absurd rfl e
        · exact h1 j j0 (by omega)
    · show (if p = u k then v else g p) = h p
      have h5 := hj k hk.1 (by show k < k + 1; omega)
      rw [if_neg (fun e => h5 e.symm)]
      exact h2 p p0 p1 (fun j j0 j1 => hj j j0 (by show j < k + 1; omega))
theorem ct_paintAll {t l w q m d : Int} {op : Int → Prop} (hF : FS A) (hC : CS A t l w q) (hpc : pcc l w q) (hD : DS A m) (hd : 0 ≤ d ∧ d < m) (hcr : cr (ch_c A d)) (hop : ho A l w = op) (hz : ∀ p, ¬ (0 ≤ p ∧ p < 192) → gI A 124 p = 0) : mj_Cal G n_C_paintAll [mR (some t), mR (some (1000 + 100 * d)), mR (some 117)] A (fun r A' => r = none ∧ ∃ h c u n, A' = fl_m (sF A q h) c u n ∧ dn op (gI A l) (fun i => gI A ((1000 + 100 * d) + 10) i) (fun i => gI A ((1000 + 100 * d) + 11) i) (gI A (1000 + 100 * d) 9) 0 h ∧ (∀ p, ¬ (0 ≤ p ∧ p < 192) → c p = 0)) mj_no := by
  refine mj_bodyK 0 0 [some (mR (some t)), some (mR (some (1000 + 100 * d))), some (mR (some 117)), none, none] rfl rfl rfl (by decide +kernel) (Nat.le_of_ble_eq_true rfl) (by simp) rfl ?_
  have hp9 := hcr.p
  replace hp9 : 0 ≤ (gI A (1000 + 100 * d) 9) ∧ (gI A (1000 + 100 * d) 9) ≤ 6 := hp9
  have hl : ∀ z : Int × (Int → Int) × (Int → Int) × (Int → Int) × Int × Option mj_V, ((-1 ≤ z.1 ∧ z.1 < (gI A (1000 + 100 * d) 9)) ∧ dn op (gI A l) (fun i => gI A ((1000 + 100 * d) + 10) i) (fun i => gI A ((1000 + 100 * d) + 11) i) (gI A (1000 + 100 * d) 9) (z.1 + 1) z.2.1 ∧ ∀ p, ¬ (0 ≤ p ∧ p < 192) → z.2.2.1 p = 0) → mj_X G n_C_paintAll (mj_Qm G n_C_paintAll (fun r A' => r = none ∧ ∃ h c u n, A' = fl_m (sF A q h) c u n ∧ dn op (gI A l) (fun i => gI A ((1000 + 100 * d) + 10) i) (fun i => gI A ((1000 + 100 * d) + 11) i) (gI A (1000 + 100 * d) 9) 0 h ∧ (∀ p, ¬ (0 ≤ p ∧ p < 192) → c p = 0)) mj_no) (fl_m (sF A q z.2.1) z.2.2.1 z.2.2.2.1 z.2.2.2.2.1) 0 0 23 [some (mR (some t)), some (mR (some (1000 + 100 * d))), some (mR (some 117)), some (mI z.1), z.2.2.2.2.2] [] := by
    refine mj_loop _ (fun z => (z.1 + 1).toNat) _ ?_
    intro ⟨i, h, c, u, n, l4⟩ ⟨hi, hdn, hc⟩ ih
    replace hi : -1 ≤ i ∧ i < (gI A (1000 + 100 * d) 9) := hi
    replace hdn : dn op (gI A l) (fun i => gI A ((1000 + 100 * d) + 10) i) (fun i => gI A ((1000 + 100 * d) + 11) i) (gI A (1000 + 100 * d) 9) (i + 1) h := hdn
    replace hc : ∀ p, ¬ (0 ≤ p ∧ p < 192) → c p = 0 := hc
    show mj_X G n_C_paintAll (mj_Qm G n_C_paintAll (fun r A' => r = none ∧ ∃ h c u n, A' = fl_m (sF A q h) c u n ∧ dn op (gI A l) (fun i => gI A ((1000 + 100 * d) + 10) i) (fun i => gI A ((1000 + 100 * d) + 11) i) (gI A (1000 + 100 * d) 9) 0 h ∧ (∀ p, ¬ (0 ≤ p ∧ p < 192) → c p = 0)) mj_no) (fl_m (sF A q h) c u n) 0 0 23 [some (mR (some t)), some (mR (some (1000 + 100 * d))), some (mR (some 117)), some (mI i), l4] []
    have e10 : ∀ h c u n, gI (fl_m (sF A q h) c u n) ((1000 + 100 * d) + 10) i = gI A ((1000 + 100 * d) + 10) i := fun h c u n => by rw [fl_mo (by omega), gI_sF, if_neg (by omega)]
    have eq0 : ∀ p, gI (fl_m (sF A q h) c u n) q p = h p := fun p => by rw [fl_mo (by omega), gI_sF, if_pos rfl]
    have hor : ∀ p, op p → 0 ≤ p ∧ p < 192 := fun p hp => by rw [← hop] at hp; exact hp.1
    have hol : ∀ p, op p → gI A l p = -1 := fun p hp => by rw [← hop] at hp; exact hp.2.1
    refine mx_R fun hR => ?_
    refine mx_iload_n 3 d_C_paintAll_23 rfl rfl ?_
    refine mx_if_lt 95 d_C_paintAll_24 rfl (by first | assumption | exact hR _ _ | exact r32_mk (by omega) (by omega)) (fun c_24 => ?_) (fun c_24 => ?_)
    · refine mx_vret d_C_paintAll_95 rfl ?_
      refine ⟨rfl, h, c, u, n, rfl, ?_, hc⟩
      rw [show (0 : Int) = i + 1 by omega]
      exact hdn
    · have hS := hcr.S i (by omega) hi.2
      replace hS : 0 ≤ gI A ((1000 + 100 * d) + 10) i ∧ gI A ((1000 + 100 * d) + 10) i < 192 := hS
      refine mx_aload_n 0 d_C_paintAll_27 rfl rfl ?_
      refine mx_getPs 2 d_C_paintAll_28 f_C_18 rfl rfl (hC.o) (hC.p2) ?_
      refine mx_aload_n 1 d_C_paintAll_31 rfl rfl ?_
      refine mx_getPs 7 d_C_paintAll_32 f_C_93 rfl rfl (hD.o _ (by omega) (by omega)) (hD.p7 _ (by omega) (by omega)) ?_
      refine mx_iload_n 3 d_C_paintAll_35 rfl rfl ?_
      refine mx_iald d_C_paintAll_36 (hD.s7 _ (by omega) (by omega)) (by omega) (by omega) ?_
      rw [e10]
      refine mx_iald d_C_paintAll_37 (hC.s2) (by omega) (by omega) ?_
      rw [eq0]
      refine mx_iconst d_C_paintAll_38 ?_
      refine mx_icmp_ne 89 d_C_paintAll_39 rfl (by rw [← eq0]; exact hR _ _) ((r32_mk (by omega) (by omega))) (fun c_39 => ?_) (fun c_39 => ?_)
      · refine mx_iinc 3 d_C_paintAll_89 rfl (Nat.le_of_ble_eq_true rfl) ?_
        refine mx_goto 23 d_C_paintAll_92 rfl ?_
        exact ih (i - 1, h, c, u, n, l4) ⟨⟨by show -1 ≤ i - 1; omega, by show i - 1 < (gI A (1000 + 100 * d) 9); omega⟩, by show dn op (gI A l) (fun i => gI A ((1000 + 100 * d) + 10) i) (fun i => gI A ((1000 + 100 * d) + 11) i) (gI A (1000 + 100 * d) 9) (i - 1 + 1) h; rw [show i - 1 + 1 = i by omega]; exact dn_no hor hol hS hdn (by assumption), hc⟩ (by show (i - 1 + 1).toNat < (i + 1).toNat; omega)
      · refine mx_aload_n 2 d_C_paintAll_42 rfl rfl ?_
        refine mx_aload_n 0 d_C_paintAll_43 rfl rfl ?_
        refine mx_aload_n 1 d_C_paintAll_44 rfl rfl ?_
        refine mx_getPs 7 d_C_paintAll_45 f_C_93 rfl rfl (hD.o _ (by omega) (by omega)) (hD.p7 _ (by omega) (by omega)) ?_
        refine mx_iload_n 3 d_C_paintAll_48 rfl rfl ?_
        refine mx_iald d_C_paintAll_49 (hD.s7 _ (by omega) (by omega)) (by omega) (by omega) ?_
        rw [e10]
        refine mx_callV (kc := 0) (ks := 0) (N := n_F_spread) (as := [_, _]) (ci := 1) d_C_paintAll_50 s_C_96 ⟨Nat.le_of_ble_eq_true rfl, Nat.le_of_ble_eq_true rfl⟩ rfl (mj_wt_8 (Nat.le_of_ble_eq_true rfl)) (hF.o) ⟨_, rfl, rfl⟩ (ct_spread (A := (fl_m (sF A q h) c u n)) hF hC hpc hS hc) (fun r_50 A_50 h_50 => ?_) (fun E_50 A_x h_50 => ?_)
        rotate_left
        · exact h_50.elim
        obtain ⟨rfl, c1, u1, n1, hA_50, hb1, hz1⟩ := h_50
        obtain rfl := hA_50.symm
        clear hA_50
        refine mx_R fun hR_1 => ?_
        refine mx_iconst d_C_paintAll_53 ?_
        refine mx_istore 4 d_C_paintAll_54 (Nat.le_of_ble_eq_true rfl) ?_
        have eho : ho (fl_m (sF A q h) c u n) l w = op := by
          rw [← hop]
          funext p
          show ((0 ≤ p ∧ p < 192) ∧ gI (fl_m (sF A q h) c u n) l p = -1 ∧ gI (fl_m (sF A q h) c u n) w p = 0) = _
          rw [fl_mo (by omega), gI_sF, if_neg (by omega), fl_mo (by omega), gI_sF, if_neg (by omega)]
        rw [eho] at hb1
        have emm : fl_m (fl_m (sF A q h) c u n) c1 u1 n1 = fl_m (sF A q h) c1 u1 n1 := by
          unfold fl_m
          exact mj_ext3 (fun _ => rfl) (fun c_ x_ => by simp only [gI_sI, gI_sF]; grind) (fun _ _ => rfl)
        rw [emm]
        refine ct_pa_in (v := gI A ((1000 + 100 * d) + 11) i) (h := h) hF hC hpc hD hd hcr hop ⟨by omega, hi.2⟩ rfl hb1 (fun h' l4 hh1 hh2 => ?_) (0, h) ⟨⟨by show (0 : Int) ≤ 0; omega, by show 0 ≤ n1; exact (bf_n hb1).1⟩, fun k k0 k1 => absurd k1 (by show ¬ k < 0; omega), fun p p0 p1 _ => rfl⟩
        have hend := bf_end hb1
        refine mx_R fun hR => ?_
        refine mx_iinc 3 d_C_paintAll_89 rfl (Nat.le_of_ble_eq_true rfl) ?_
        refine mx_goto 23 d_C_paintAll_92 rfl ?_
        exact ih (i - 1, h', c1, u1, n1, l4) ⟨⟨by show -1 ≤ i - 1; omega, by show i - 1 < (gI A (1000 + 100 * d) 9); omega⟩, by show dn op (gI A l) (fun i => gI A ((1000 + 100 * d) + 10) i) (fun i => gI A ((1000 + 100 * d) + 11) i) (gI A (1000 + 100 * d) 9) (i - 1 + 1) h'; rw [show i - 1 + 1 = i by omega]; exact dn_1 hor (fun k k0 k1 => (hcr.F k (by omega) k1).1) hi.2 hS hdn (by assumption) (fun p p0 p1 hb => hh1 p p0 p1 ((hend p).mpr hb)) (fun p p0 p1 hb => hh2 p p0 p1 (fun hc => hb ((hend p).mp hc))), hz1⟩ (by show (i - 1 + 1).toNat < (i + 1).toNat; omega)
  have e9 : ∀ f, gI (sF A q f) (1000 + 100 * d) 9 = (gI A (1000 + 100 * d) 9) := fun f => by rw [gI_sF, if_neg (by omega)]
  refine mx_R fun hR => ?_
  refine mx_aload_n 0 d_C_paintAll_0 rfl rfl ?_
  refine mx_getPs 0 d_C_paintAll_1 f_C_9 rfl rfl (hC.o) (hC.p0) ?_
  refine mx_iconst d_C_paintAll_4 ?_
  refine mx_aload_n 0 d_C_paintAll_5 rfl rfl ?_
  refine mx_getPs 2 d_C_paintAll_6 f_C_18 rfl rfl (hC.o) (hC.p2) ?_
  refine mx_iconst d_C_paintAll_9 ?_
  refine mx_sipush d_C_paintAll_10 (by decide) ?_
  refine mx_copy d_C_paintAll_13 s_C_84 mj_cp2 mj_cp3 mj_cp4 (hC.s0) (hC.s2) (by omega) (by omega) (by omega) (by omega) (by omega) (Nat.le_of_ble_eq_true rfl) (mj_wt_18 (Nat.le_of_ble_eq_true rfl)) ?_
  refine mx_R fun hR_1 => ?_
  refine mx_aload_n 1 d_C_paintAll_16 rfl rfl ?_
  refine mx_getI 9 d_C_paintAll_17 f_C_90 rfl rfl (hD.o _ (by omega) (by omega)) ?_
  rw [e9]
  refine mx_iconst d_C_paintAll_20 ?_
  refine mx_isub d_C_paintAll_21 ?_
  refine mx_istore_n 3 d_C_paintAll_22 rfl (Nat.le_of_ble_eq_true rfl) ?_
  refine mj_Xeq (A' := fl_m (sF A q (fun i => if 0 ≤ i ∧ i < 0 + 192 then gI A l (0 + (i - 0)) else gI A q i)) (gI A 124) (gI A 123) (gI A 117 2)) ?_ (hl ((gI A (1000 + 100 * d) 9) - 1, _, gI A 124, gI A 123, gI A 117 2, none) ⟨⟨by show -1 ≤ (gI A (1000 + 100 * d) 9) - 1; omega, by show (gI A (1000 + 100 * d) 9) - 1 < (gI A (1000 + 100 * d) 9); omega⟩, ?_, hz⟩)
  · unfold fl_m
    refine mj_ext3 (fun _ => rfl) (fun c x => ?_) (fun _ _ => rfl)
    simp only [gI_sI, gI_sF]
    grind
  · show dn op (gI A l) (fun i => gI A ((1000 + 100 * d) + 10) i) (fun i => gI A ((1000 + 100 * d) + 11) i) (gI A (1000 + 100 * d) 9) ((gI A (1000 + 100 * d) 9) - 1 + 1) _
    rw [show (gI A (1000 + 100 * d) 9) - 1 + 1 = (gI A (1000 + 100 * d) 9) by omega]
    refine dn_N fun p p0 p1 => ?_
    show (if 0 ≤ p ∧ p < 0 + 192 then gI A l (0 + (p - 0)) else gI A q p) = gI A l p
    rw [if_pos (by omega), show 0 + (p - 0) = p by omega]
end CLS5
