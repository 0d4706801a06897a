/-! THE HOUSE, 4: a whole filling -/
section CLS4
variable {G : mj_G} {A : mj_M}
theorem ct_sp4 {B : mj_M} {c u : Int → Int} {n k a p t l w q : Int} {P : Option mj_V → mj_M → Prop} (hF : FS B) (hC : CS B t l w q) (hpc : pcc l w q) (hb : bf_ok (ho B l w) a c u n k) (hk : 0 ≤ k ∧ k < n) (hp : u k = p) (hpr : 0 ≤ p ∧ p < 192) (h1 : 0 < p % 16 → ho B l w (p - 1) → c (p - 1) = 1) (h2 : p % 16 < 15 → ho B l w (p + 1) → c (p + 1) = 1) (h3 : 16 ≤ p → ho B l w (p - 16) → c (p - 16) = 1) (hx : ∀ c' u' n', bf_ok (ho B l w) a c' u' n' (k + 1) → n ≤ n' → (∀ q, c q = 1 → c' q = 1) → (∀ i, 0 ≤ i → i < n → u' i = u i) → mj_X G n_F_spread (mj_Qm G n_F_spread P mj_no) (fl_m B c' u' n') 0 0 21 [some (mR (some 117)), some (mR (some t)), some (mI a), some (mI (k + 1)), some (mI p), some (mI (p % 16)), some (mI (p / 16))] []) : mj_X G n_F_spread (mj_Qm G n_F_spread P mj_no) (fl_m B c u n) 0 0 103 [some (mR (some 117)), some (mR (some t)), some (mI a), some (mI k), some (mI p), some (mI (p % 16)), some (mI (p / 16))] [] := by
  have hcp : c p = 1 := by rw [← hp]; exact hb.2.2.2.1 k hk.1 hk.2
  have hrp := hb.2.2.1 p hcp
  refine mx_R fun hR => ?_
  refine mx_iload 6 d_F_spread_103 rfl ?_
  refine mx_bipush d_F_spread_105 (by decide) ?_
  refine mx_icmp_ge 120 d_F_spread_107 rfl (by first | assumption | exact hR _ _ | exact r32_mk (by omega) (by omega)) (by first | assumption | exact hR _ _ | exact r32_mk (by omega) (by omega)) (fun c_107 => ?_) (fun c_107 => ?_)
  · skip
    have hend : ∀ q, bf_nb (u k) q → ho B l w q → c q = 1 := fun q hq ho => by
      rw [hp] at hq
      rcases hq with ⟨e, h⟩ | ⟨e, h⟩ | ⟨e, h⟩ | ⟨e, h⟩
      · rw [e]; rw [e] at ho; exact h1 h ho
      · rw [e]; rw [e] at ho; exact h2 h ho
      · rw [e]; rw [e] at ho; exact h3 h ho
      · omega
    refine mx_R fun hR => ?_
    refine mx_iinc 3 d_F_spread_120 rfl (Nat.le_of_ble_eq_true rfl) ?_
    refine mx_goto 21 d_F_spread_123 rfl ?_
    exact hx c u n (bf_kk hb hend) (by omega) (fun q hq => hq) (fun i i0 i1 => rfl)
  · refine mx_aload_n 0 d_F_spread_110 rfl rfl ?_
    refine mx_aload_n 1 d_F_spread_111 rfl rfl ?_
    refine mx_iload 4 d_F_spread_112 rfl ?_
    refine mx_bipush d_F_spread_114 (by decide) ?_
    refine mx_iadd d_F_spread_116 ?_
    refine mx_callV (kc := 0) (ks := 0) (N := n_F_reach) (as := [_, _]) (ci := 1) d_F_spread_117 s_F_28 ⟨Nat.le_of_ble_eq_true rfl, Nat.le_of_ble_eq_true rfl⟩ rfl (mj_wt_8 (Nat.le_of_ble_eq_true rfl)) (hF.o) ⟨_, rfl, rfl⟩ (ct_reach_f (B := B) hF hC hpc ⟨by omega, by omega⟩ hb (by omega) (fun h => bf_step hrp (by unfold bf_nb; omega) h)) (fun r_117 A_117 h_117 => ?_) (fun E_117 A_x h_117 => ?_)
    rotate_left
    · exact h_117.elim
    obtain ⟨rfl, c1, w1, n1, hA_117, hb1, hn1, hm1, hw1, hs1⟩ := h_117
    obtain rfl := hA_117.symm
    clear hA_117
    refine mx_R fun hR_1 => ?_
    refine mx_iinc 3 d_F_spread_120 rfl (Nat.le_of_ble_eq_true rfl) ?_
    refine mx_goto 21 d_F_spread_123 rfl ?_
    refine hx c1 w1 n1 (bf_kk hb1 fun q hq ho => ?_) hn1 hm1 hw1
    rw [hw1 k hk.1 hk.2, hp] at hq
    rcases hq with ⟨e, h⟩ | ⟨e, h⟩ | ⟨e, h⟩ | ⟨e, h⟩
    · rw [e]; rw [e] at ho; exact hm1 _ (h1 h ho)
    · rw [e]; rw [e] at ho; exact hm1 _ (h2 h ho)
    · rw [e]; rw [e] at ho; exact hm1 _ (h3 h ho)
    · rw [e]; rw [e] at ho; exact hs1 ho
theorem ct_sp3 {B : mj_M} {c u : Int → Int} {n k a p t l w q : Int} {P : Option mj_V → mj_M → Prop} (hF : FS B) (hC : CS B t l w q) (hpc : pcc l w q) (hb : bf_ok (ho B l w) a c u n k) (hk : 0 ≤ k ∧ k < n) (hp : u k = p) (hpr : 0 ≤ p ∧ p < 192) (h1 : 0 < p % 16 → ho B l w (p - 1) → c (p - 1) = 1) (h2 : p % 16 < 15 → ho B l w (p + 1) → c (p + 1) = 1) (hx : ∀ c' u' n', bf_ok (ho B l w) a c' u' n' (k + 1) → n ≤ n' → (∀ q, c q = 1 → c' q = 1) → (∀ i, 0 ≤ i → i < n → u' i = u i) → mj_X G n_F_spread (mj_Qm G n_F_spread P mj_no) (fl_m B c' u' n') 0 0 21 [some (mR (some 117)), some (mR (some t)), some (mI a), some (mI (k + 1)), some (mI p), some (mI (p % 16)), some (mI (p / 16))] []) : mj_X G n_F_spread (mj_Qm G n_F_spread P mj_no) (fl_m B c u n) 0 0 88 [some (mR (some 117)), some (mR (some t)), some (mI a), some (mI k), some (mI p), some (mI (p % 16)), some (mI (p / 16))] [] := by
  have hcp : c p = 1 := by rw [← hp]; exact hb.2.2.2.1 k hk.1 hk.2
  have hrp := hb.2.2.1 p hcp
  refine mx_R fun hR => ?_
  refine mx_iload 6 d_F_spread_88 rfl ?_
  refine mx_if_le 103 d_F_spread_90 rfl (by first | assumption | exact hR _ _ | exact r32_mk (by omega) (by omega)) (fun c_90 => ?_) (fun c_90 => ?_)
  · exact ct_sp4 hF hC hpc hb hk hp hpr h1 h2 (fun h => absurd h (by omega)) hx
  · refine mx_aload_n 0 d_F_spread_93 rfl rfl ?_
    refine mx_aload_n 1 d_F_spread_94 rfl rfl ?_
    refine mx_iload 4 d_F_spread_95 rfl ?_
    refine mx_bipush d_F_spread_97 (by decide) ?_
    refine mx_isub d_F_spread_99 ?_
    refine mx_callV (kc := 0) (ks := 0) (N := n_F_reach) (as := [_, _]) (ci := 1) d_F_spread_100 s_F_28 ⟨Nat.le_of_ble_eq_true rfl, Nat.le_of_ble_eq_true rfl⟩ rfl (mj_wt_8 (Nat.le_of_ble_eq_true rfl)) (hF.o) ⟨_, rfl, rfl⟩ (ct_reach_f (B := B) hF hC hpc ⟨by omega, by omega⟩ hb (by omega) (fun h => bf_step hrp (by unfold bf_nb; omega) h)) (fun r_100 A_100 h_100 => ?_) (fun E_100 A_x h_100 => ?_)
    rotate_left
    · exact h_100.elim
    obtain ⟨rfl, c1, w1, n1, hA_100, hb1, hn1, hm1, hw1, hs1⟩ := h_100
    obtain rfl := hA_100.symm
    clear hA_100
    refine mx_R fun hR_1 => ?_
    exact ct_sp4 hF hC hpc hb1 ⟨hk.1, by omega⟩ (by rw [hw1 k hk.1 hk.2, hp]) hpr (fun h k => hm1 _ (h1 h k)) (fun h k => hm1 _ (h2 h k)) (fun _ k => hs1 k) (fun c' w' n' b1 b2 b3 b4 => hx c' w' n' b1 (by omega) (fun q hq => b3 q (hm1 q hq)) (fun i i0 i1 => by rw [b4 i i0 (by omega), hw1 i i0 i1]))
theorem ct_sp2 {B : mj_M} {c u : Int → Int} {n k a p t l w q : Int} {P : Option mj_V → mj_M → Prop} (hF : FS B) (hC : CS B t l w q) (hpc : pcc l w q) (hb : bf_ok (ho B l w) a c u n k) (hk : 0 ≤ k ∧ k < n) (hp : u k = p) (hpr : 0 ≤ p ∧ p < 192) (h1 : 0 < p % 16 → ho B l w (p - 1) → c (p - 1) = 1) (hx : ∀ c' u' n', bf_ok (ho B l w) a c' u' n' (k + 1) → n ≤ n' → (∀ q, c q = 1 → c' q = 1) → (∀ i, 0 ≤ i → i < n → u' i = u i) → mj_X G n_F_spread (mj_Qm G n_F_spread P mj_no) (fl_m B c' u' n') 0 0 21 [some (mR (some 117)), some (mR (some t)), some (mI a), some (mI (k + 1)), some (mI p), some (mI (p % 16)), some (mI (p / 16))] []) : mj_X G n_F_spread (mj_Qm G n_F_spread P mj_no) (fl_m B c u n) 0 0 72 [some (mR (some 117)), some (mR (some t)), some (mI a), some (mI k), some (mI p), some (mI (p % 16)), some (mI (p / 16))] [] := by
  have hcp : c p = 1 := by rw [← hp]; exact hb.2.2.2.1 k hk.1 hk.2
  have hrp := hb.2.2.1 p hcp
  refine mx_R fun hR => ?_
  refine mx_iload 5 d_F_spread_72 rfl ?_
  refine mx_bipush d_F_spread_74 (by decide) ?_
  refine mx_icmp_ge 88 d_F_spread_76 rfl (by first | assumption | exact hR _ _ | exact r32_mk (by omega) (by omega)) (by first | assumption | exact hR _ _ | exact r32_mk (by omega) (by omega)) (fun c_76 => ?_) (fun c_76 => ?_)
  · exact ct_sp3 hF hC hpc hb hk hp hpr h1 (fun h => absurd h (by omega)) hx
  · refine mx_aload_n 0 d_F_spread_79 rfl rfl ?_
    refine mx_aload_n 1 d_F_spread_80 rfl rfl ?_
    refine mx_iload 4 d_F_spread_81 rfl ?_
    refine mx_iconst d_F_spread_83 ?_
    refine mx_iadd d_F_spread_84 ?_
    refine mx_callV (kc := 0) (ks := 0) (N := n_F_reach) (as := [_, _]) (ci := 1) d_F_spread_85 s_F_28 ⟨Nat.le_of_ble_eq_true rfl, Nat.le_of_ble_eq_true rfl⟩ rfl (mj_wt_8 (Nat.le_of_ble_eq_true rfl)) (hF.o) ⟨_, rfl, rfl⟩ (ct_reach_f (B := B) hF hC hpc ⟨by omega, by omega⟩ hb (by omega) (fun h => bf_step hrp (by unfold bf_nb; omega) h)) (fun r_85 A_85 h_85 => ?_) (fun E_85 A_x h_85 => ?_)
    rotate_left
    · exact h_85.elim
    obtain ⟨rfl, c1, w1, n1, hA_85, hb1, hn1, hm1, hw1, hs1⟩ := h_85
    obtain rfl := hA_85.symm
    clear hA_85
    refine mx_R fun hR_1 => ?_
    exact ct_sp3 hF hC hpc hb1 ⟨hk.1, by omega⟩ (by rw [hw1 k hk.1 hk.2, hp]) hpr (fun h k => hm1 _ (h1 h k)) (fun _ k => hs1 k) (fun c' w' n' b1 b2 b3 b4 => hx c' w' n' b1 (by omega) (fun q hq => b3 q (hm1 q hq)) (fun i i0 i1 => by rw [b4 i i0 (by omega), hw1 i i0 i1]))
theorem ct_sp1 {B : mj_M} {c u : Int → Int} {n k a p t l w q : Int} {P : Option mj_V → mj_M → Prop} (hF : FS B) (hC : CS B t l w q) (hpc : pcc l w q) (hb : bf_ok (ho B l w) a c u n k) (hk : 0 ≤ k ∧ k < n) (hp : u k = p) (hpr : 0 ≤ p ∧ p < 192) (hx : ∀ c' u' n', bf_ok (ho B l w) a c' u' n' (k + 1) → n ≤ n' → (∀ q, c q = 1 → c' q = 1) → (∀ i, 0 ≤ i → i < n → u' i = u i) → mj_X G n_F_spread (mj_Qm G n_F_spread P mj_no) (fl_m B c' u' n') 0 0 21 [some (mR (some 117)), some (mR (some t)), some (mI a), some (mI (k + 1)), some (mI p), some (mI (p % 16)), some (mI (p / 16))] []) : mj_X G n_F_spread (mj_Qm G n_F_spread P mj_no) (fl_m B c u n) 0 0 58 [some (mR (some 117)), some (mR (some t)), some (mI a), some (mI k), some (mI p), some (mI (p % 16)), some (mI (p / 16))] [] := by
  have hcp : c p = 1 := by rw [← hp]; exact hb.2.2.2.1 k hk.1 hk.2
  have hrp := hb.2.2.1 p hcp
  refine mx_R fun hR => ?_
  refine mx_iload 5 d_F_spread_58 rfl ?_
  refine mx_if_le 72 d_F_spread_60 rfl (by first | assumption | exact hR _ _ | exact r32_mk (by omega) (by omega)) (fun c_60 => ?_) (fun c_60 => ?_)
  · exact ct_sp2 hF hC hpc hb hk hp hpr (fun h => absurd h (by omega)) hx
  · refine mx_aload_n 0 d_F_spread_63 rfl rfl ?_
    refine mx_aload_n 1 d_F_spread_64 rfl rfl ?_
    refine mx_iload 4 d_F_spread_65 rfl ?_
    refine mx_iconst d_F_spread_67 ?_
    refine mx_isub d_F_spread_68 ?_
    refine mx_callV (kc := 0) (ks := 0) (N := n_F_reach) (as := [_, _]) (ci := 1) d_F_spread_69 s_F_28 ⟨Nat.le_of_ble_eq_true rfl, Nat.le_of_ble_eq_true rfl⟩ rfl (mj_wt_8 (Nat.le_of_ble_eq_true rfl)) (hF.o) ⟨_, rfl, rfl⟩ (ct_reach_f (B := B) hF hC hpc ⟨by omega, by omega⟩ hb (by omega) (fun h => bf_step hrp (by unfold bf_nb; omega) h)) (fun r_69 A_69 h_69 => ?_) (fun E_69 A_x h_69 => ?_)
    rotate_left
    · exact h_69.elim
    obtain ⟨rfl, c1, w1, n1, hA_69, hb1, hn1, hm1, hw1, hs1⟩ := h_69
    obtain rfl := hA_69.symm
    clear hA_69
    refine mx_R fun hR_1 => ?_
    exact ct_sp2 hF hC hpc hb1 ⟨hk.1, by omega⟩ (by rw [hw1 k hk.1 hk.2, hp]) hpr (fun _ k => hs1 k) (fun c' w' n' b1 b2 b3 b4 => hx c' w' n' b1 (by omega) (fun q hq => b3 q (hm1 q hq)) (fun i i0 i1 => by rw [b4 i i0 (by omega), hw1 i i0 i1]))
theorem fl_0 {hz : ∀ q, ¬ (0 ≤ q ∧ q < 192) → gI A 124 q = 0} : sI (sF A 124 (fun j => if 0 ≤ j ∧ j < 192 then 0 else gI A 124 j)) 117 2 0 = fl_m A (fun _ => 0) (gI A 123) 0 := by
  unfold fl_m
  refine mj_ext3 (fun _ => rfl) (fun c x => ?_) (fun _ _ => rfl)
  simp only [gI_sI, gI_sF]
  have := hz x
  grind
theorem ct_spread {t l w q a : Int} (hF : FS A) (hC : CS A t l w q) (hpc : pcc l w q) (ha : 0 ≤ a ∧ a < 192) (hz : ∀ q, ¬ (0 ≤ q ∧ q < 192) → gI A 124 q = 0) : mj_Cal G n_F_spread [mR (some 117), mR (some t), mI a] A (fun r A' => r = none ∧ ∃ c u n, A' = fl_m A c u n ∧ bf_ok (ho A l w) a c u n n ∧ ∀ q, ¬ (0 ≤ q ∧ q < 192) → c q = 0) mj_no := by
  refine mj_bodyK 0 0 [some (mR (some 117)), some (mR (some t)), some (mI a), none, none, none, none] rfl rfl rfl (by decide +kernel) (Nat.le_of_ble_eq_true rfl) (by simp) rfl ?_
  have hl : ∀ q : Int × (Int → Int) × (Int → Int) × Int × Option mj_V × Option mj_V × Option mj_V, (bf_ok (ho A l w) a q.2.1 q.2.2.1 q.2.2.2.1 q.1 ∧ (0 ≤ q.1 ∧ q.1 ≤ q.2.2.2.1)) → mj_X G n_F_spread (mj_Qm G n_F_spread (fun r A' => r = none ∧ ∃ c u n, A' = fl_m A c u n ∧ bf_ok (ho A l w) a c u n n ∧ ∀ q, ¬ (0 ≤ q ∧ q < 192) → c q = 0) mj_no) (fl_m A q.2.1 q.2.2.1 q.2.2.2.1) 0 0 21 [some (mR (some 117)), some (mR (some t)), some (mI a), some (mI q.1), q.2.2.2.2.1, q.2.2.2.2.2.1, q.2.2.2.2.2.2] [] := by
    refine mj_loop _ (fun q => (193 - q.1).toNat) _ ?_
    intro ⟨k, c, u, n, l4, l5, l6⟩ ⟨hb, hk⟩ ih
    replace hb : bf_ok (ho A l w) a c u n k := hb
    replace hk : 0 ≤ k ∧ k ≤ n := hk
    show mj_X G n_F_spread (mj_Qm G n_F_spread (fun r A' => r = none ∧ ∃ c u n, A' = fl_m A c u n ∧ bf_ok (ho A l w) a c u n n ∧ ∀ q, ¬ (0 ≤ q ∧ q < 192) → c q = 0) mj_no) (fl_m A c u n) 0 0 21 [some (mR (some 117)), some (mR (some t)), some (mI a), some (mI k), l4, l5, l6] []
    have hn := bf_n hb
    have e1 : gI (fl_m A c u n) 117 2 = n := rfl
    refine mx_R fun hR => ?_
    refine mx_iload_n 3 d_F_spread_21 rfl rfl ?_
    refine mx_aload_n 0 d_F_spread_22 rfl rfl ?_
    refine mx_getI 2 d_F_spread_23 f_F_24 rfl rfl (hF.o) ?_
    rw [e1]
    refine mx_icmp_ge 126 d_F_spread_26 rfl (by first | assumption | exact hR _ _ | exact r32_mk (by omega) (by omega)) (by first | assumption | exact hR _ _ | exact r32_mk (by omega) (by omega)) (fun c_26 => ?_) (fun c_26 => ?_)
    · refine mx_vret d_F_spread_126 rfl ?_
      have e : k = n := by omega
      rw [e] at hb
      refine ⟨rfl, c, u, n, rfl, hb, fun q hq => ?_⟩
      rcases hb.2.1 q with h5 | h5
      · exact h5
      · exact absurd (bf_op (hb.2.2.1 q h5)).2.1 hq
    · refine mx_iload_n 3 d_F_spread_29 rfl rfl ?_
      refine mx_sipush d_F_spread_30 (by decide) ?_
      refine mx_icmp_ge 126 d_F_spread_33 rfl (by first | assumption | exact hR _ _ | exact r32_mk (by omega) (by omega)) (by first | assumption | exact hR _ _ | exact r32_mk (by omega) (by omega)) (fun c_33 => ?_) (fun c_33 => ?_)
      · refine mx_vret d_F_spread_126 rfl ?_
        have e : k = n := by omega
        rw [e] at hb
        refine ⟨rfl, c, u, n, rfl, hb, fun q hq => ?_⟩
        rcases hb.2.1 q with h5 | h5
        · exact h5
        · exact absurd (bf_op (hb.2.2.1 q h5)).2.1 hq
      · obtain ⟨p, hp⟩ : ∃ p, u k = p := ⟨_, rfl⟩
        have hcp : c p = 1 := by rw [← hp]; exact hb.2.2.2.1 k hk.1 (by omega)
        have hpr := (bf_op (hb.2.2.1 p hcp)).2.1
        have e20 : gI (fl_m A c u n) 123 k = p := hp
        refine mx_aload_n 0 d_F_spread_36 rfl rfl ?_
        refine mx_getPs 0 d_F_spread_37 f_F_9 rfl rfl (hF.o) (hF.p0) ?_
        refine mx_iload_n 3 d_F_spread_40 rfl rfl ?_
        refine mx_iald d_F_spread_41 (hF.s0) (by omega) (by omega) ?_
        rw [e20]
        refine mx_istore 4 d_F_spread_42 (Nat.le_of_ble_eq_true rfl) ?_
        refine mx_iload 4 d_F_spread_44 rfl ?_
        refine mx_bipush d_F_spread_46 (by decide) ?_
        refine mx_irem d_F_spread_48 (by first | assumption | exact hR _ _ | exact r32_mk (by omega) (by omega)) (by first | assumption | exact hR _ _ | exact r32_mk (by omega) (by omega)) (by omega) ?_
        rw [Int.tmod_eq_emod_of_nonneg hpr.1]
        refine mx_istore 5 d_F_spread_49 (Nat.le_of_ble_eq_true rfl) ?_
        refine mx_iload 4 d_F_spread_51 rfl ?_
        refine mx_bipush d_F_spread_53 (by decide) ?_
        refine mx_idiv d_F_spread_55 (by first | assumption | exact hR _ _ | exact r32_mk (by omega) (by omega)) (by first | assumption | exact hR _ _ | exact r32_mk (by omega) (by omega)) (by omega) ?_
        rw [Int.tdiv_eq_ediv_of_nonneg hpr.1]
        refine mx_istore 6 d_F_spread_56 (Nat.le_of_ble_eq_true rfl) ?_
        refine ct_sp1 hF hC hpc hb ⟨hk.1, by omega⟩ hp hpr fun c' u' n' b1 b2 b3 b4 => ?_
        exact ih (k + 1, c', u', n', _, _, _) ⟨b1, by show 0 ≤ k + 1; omega, by show k + 1 ≤ n'; omega⟩ (by show (193 - (k + 1)).toNat < (193 - k).toNat; omega)
  refine mx_R fun hR => ?_
  refine mx_aload_n 0 d_F_spread_0 rfl rfl ?_
  refine mx_getPs 1 d_F_spread_1 f_F_15 rfl rfl (hF.o) (hF.p1) ?_
  refine mx_iconst d_F_spread_4 ?_
  refine mx_callS (kc := 0) (ks := 0) (N := n_J_fill) (as := [_, _]) d_F_spread_5 s_F_18 ⟨Nat.le_of_ble_eq_true rfl, Nat.le_of_ble_eq_true rfl⟩ rfl (mj_wt_8 (Nat.le_of_ble_eq_true rfl)) (ct_fill hF.s1 (by omega) (by omega) (r32_mk (by omega) (by omega))) (fun r_5 A_5 h_5 => ?_) (fun E_5 A_x h_5 => ?_)
  rotate_left
  · exact h_5.elim
  obtain ⟨rfl, hA_5⟩ := h_5
  obtain rfl := hA_5.symm
  clear hA_5
  refine mx_R fun hR_1 => ?_
  refine mx_aload_n 0 d_F_spread_8 rfl rfl ?_
  refine mx_iconst d_F_spread_9 ?_
  refine mx_putI 2 d_F_spread_10 f_F_24 rfl (hF.o) (Or.inl rfl) (Or.inl rfl) (by first | assumption | exact hR_1 _ _ | exact hR _ _ | exact r32_mk (by omega) (by omega)) ?_
  refine mx_R fun hR_2 => ?_
  rw [fl_0 (hz := hz)]
  refine mx_aload_n 0 d_F_spread_13 rfl rfl ?_
  refine mx_aload_n 1 d_F_spread_14 rfl rfl ?_
  refine mx_iload_n 2 d_F_spread_15 rfl rfl ?_
  refine mx_callV (kc := 0) (ks := 0) (N := n_F_reach) (as := [_, _]) (ci := 1) d_F_spread_16 s_F_28 ⟨Nat.le_of_ble_eq_true rfl, Nat.le_of_ble_eq_true rfl⟩ rfl (mj_wt_8 (Nat.le_of_ble_eq_true rfl)) (hF.o) ⟨_, rfl, rfl⟩ (ct_reach (A := fl_m A (fun _ => 0) (gI A 123) 0) hF hC ha (fun _ => ⟨by show (0 : Int) ≤ 0; omega, by show (0 : Int) < 192; omega⟩)) (fun r_16 A_16 h_16 => ?_) (fun E_16 A_x h_16 => ?_)
  rotate_left
  · exact h_16.elim
  obtain ⟨rfl, hrr⟩ := h_16
  refine mx_R fun hR_3 => ?_
  refine mx_iconst d_F_spread_19 ?_
  refine mx_istore_n 3 d_F_spread_20 rfl (Nat.le_of_ble_eq_true rfl) ?_
  have e3 : ∀ q, gI (fl_m A (fun _ => 0) (gI A 123) 0) l q = gI A l q := fun q => fl_mo (by omega)
  have e4 : ∀ q, gI (fl_m A (fun _ => 0) (gI A 123) 0) w q = gI A w q := fun q => fl_mo (by omega)
  rw [e3, e4] at hrr
  rcases hrr with ⟨hC9, rfl⟩ | ⟨hC9, rfl⟩
  · have e9 : sI (sI (sI (fl_m A (fun _ => 0) (gI A 123) 0) 124 a 1) 123 0 a) 117 2 (0 + 1) = fl_m A (fun q => if q = a then 1 else 0) (fun i => if i = 0 then a else gI A 123 i) (0 + 1) := fl_m1
    refine mj_Xeq e9 ?_
    exact hl (0, _, _, 1, none, none, none) ⟨bf_i1 ha ⟨ha, hC9.2⟩, by show (0 : Int) ≤ 0; omega, by show (0 : Int) ≤ 1; omega⟩
  · exact hl (0, _, _, 0, none, none, none) ⟨bf_i0 (fun h => hC9 ⟨rfl, h.2⟩), by show (0 : Int) ≤ 0; omega, by show (0 : Int) ≤ 0; omega⟩
end CLS4
