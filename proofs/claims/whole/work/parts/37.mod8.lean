/-! THE REFERENCE, 8: what is seen, the film, hands, small answers -/
abbrev mo_ip (x y : Int) : Prop := 0 ≤ x ∧ x < 16 ∧ 0 ≤ y ∧ y < 12
/-- what is seen at a point, from level n - 1 down -/
def mo_sl (A : mj_M) (s f x y : Int) : Nat → Int
  | 0 => 0
  | n + 1 => if mo_ha A s n f ≠ -1 ∧ mo_ip (x - mo_mv A s n f 1) (y - mo_mv A s n f 0) ∧ gI A 218 (192 * mo_ha A s n f + 16 * (y - mo_mv A s n f 0) + (x - mo_mv A s n f 1)) ≠ -1 then gI A 222 (8 * gI A 225 s + gI A 218 (192 * mo_ha A s n f + 16 * (y - mo_mv A s n f 0) + (x - mo_mv A s n f 1))) else mo_sl A s f x y n
def mo_se (A : mj_M) (s f x y : Int) : Int := mo_sl A s f x y 4
theorem mj_sh_k {v : Int → Int} (hv : ∀ k, (-2 ≤ v k ∧ v k ≤ 15) ∨ 100 ≤ v k) : ∀ (n : Nat) (a : Int), mj_sh v n a = -1 ∨ ∃ k, 0 ≤ k ∧ k ≤ a ∧ -1 ≤ v k ∧ v k ≤ 15 ∧ mj_sh v n a = v k
  | 0, _ => Or.inl rfl
  | n + 1, a => by
    rw [mj_sh]
    by_cases h : a < 0
    · rw [if_pos h]; exact Or.inl rfl
    · rw [if_neg h]
      by_cases h2 : -1 ≤ v a ∧ v a ≤ 15
      · rw [if_pos h2]; exact Or.inr ⟨a, by omega, by omega, h2.1, h2.2, rfl⟩
      · rw [if_neg h2]
        have h3 := hv a
        rcases mj_sh_k hv n (a - (if v a = -2 then 1 else v a - 99)) with e | ⟨k, k1, k2, k3, k4, k5⟩
        · exact Or.inl e
        · exact Or.inr ⟨k, k1, by split at k2 <;> omega, k3, k4, k5⟩
theorem mo_ha_r {A : mj_M} (hg : mo_rg A) {s l f : Int} (hs : 0 ≤ s ∧ s < gI A 200 23) (hl : 0 ≤ l ∧ l ≤ 3) (hf : 0 ≤ f ∧ f < gI A 224 s) : -1 ≤ mo_ha A s l f ∧ (mo_ha A s l f = -1 ∨ mo_ha A s l f < gI A 200 3) := by
  have hfr := hg.fr s hs.1 hs.2
  by_cases hz : gI A 228 (4 * s + l) = 0
  · rw [mo_ha0 hz]
    rcases mj_sh_k (v := fun k => gI A 226 (24 * (4 * s + l) + k)) (fun k => by
      have := hg.sh (24 * (4 * s + l) + k)
      show (-2 ≤ gI A 226 (24 * (4 * s + l) + k) ∧ gI A 226 (24 * (4 * s + l) + k) ≤ 15) ∨ 100 ≤ gI A 226 (24 * (4 * s + l) + k)
      omega) 24 f with e | ⟨k, h1, h2, h3, h4, h5⟩
    · rw [e]; exact ⟨by omega, Or.inl rfl⟩
    · rw [h5]
      exact ⟨h3, Or.inr (hg.shd _ (by omega) (by omega) h4)⟩
  · rw [mo_ha1 hz]
    generalize (if f + 1 < gI A 224 s then f + 1 else f) = f2
    split
    · exact ⟨by omega, Or.inl rfl⟩
    · rename_i hx
      rcases mj_bk_cases (v := fun k => gI A 227 (24 * s + k)) (x := -2) 24 f2 with e | ⟨k, h1, h2, h3, h4⟩
      · exact absurd e hx
      · have h5 := hg.vo (24 * s + k)
        have h6 : mj_bk (fun k => gI A 227 (24 * s + k)) (-2) 24 f2 = gI A 227 (24 * s + k) := h4
        have h7 : gI A 227 (24 * s + k) ≠ -2 := h3
        have h8 := hg.mo (mj_bk (fun k => gI A 227 (24 * s + k)) (-2) 24 f2) (by omega) (by omega)
        exact ⟨h8.1, Or.inr h8.2⟩
theorem mo_mv_b {A : mj_M} (hg : mo_pg A) {s l f z : Int} (hf : 0 ≤ f ∧ f < 24) : -30240 ≤ mo_mv A s l f z ∧ mo_mv A s l f z ≤ 30240 := by
  have h1 := mo_po_b hg (p := gI A 229 (5 * s + l)) (z := z) hf
  have h2 := mo_tdiv (b := gI A 230 (5 * s + l)) (mo_po_b hg (p := gI A 229 (5 * s + 4)) (z := z) hf)
  unfold mo_mv
  omega
/-- all of n -/
def mj_all (f : Int → Bool) : Nat → Bool
  | 0 => true
  | n + 1 => mj_all f n && f n
theorem mj_all_iff {f : Int → Bool} : ∀ n : Nat, mj_all f n = true ↔ ∀ i : Int, 0 ≤ i → i < n → f i = true
  | 0 => ⟨fun _ i h0 h1 => by omega, fun _ => rfl⟩
  | n + 1 => by
    rw [mj_all, Bool.and_eq_true, mj_all_iff n]
    constructor
    · intro ⟨h1, h2⟩ i h3 h4
      by_cases e : i = n
      · rw [e]; exact h2
      · exact h1 i h3 (by omega)
    · intro h
      exact ⟨fun i h0 h1 => h i h0 (by omega), h n (by omega) (by omega)⟩
section MOD8
variable {G : mj_G} {A : mj_M}
theorem cm_seenAt {s f x y : Int} (hM : MS A) (hg : mo_rg A) (hp : mo_pg A) (hh : mo_hg A) (hpi : ∀ k, -1 ≤ gI A 218 k ∧ gI A 218 k ≤ 7) (hs : 0 ≤ s ∧ s < gI A 200 23) (hf : 0 ≤ f ∧ f < gI A 224 s) (hx : mo_ip x y) : mj_Cal G n_M_seenAt [mR (some 200), mI s, mI f, mI x, mI y] A (fun r A' => r = some (mI (mo_se A s f x y)) ∧ A' = A) mj_no := by
  refine mj_bodyK 0 0 [some (mR (some 200)), some (mI s), some (mI f), some (mI x), some (mI y), none, none, none, none] rfl rfl rfl (by decide +kernel) (Nat.le_of_ble_eq_true rfl) (by simp) rfl ?_
  have hfr := hg.fr s hs.1 hs.2
  have hns := hg.ns
  have hnd := hg.nd
  have hpal := hg.pal s hs.1 hs.2
  have hl : ∀ q : Nat × Option mj_V × Option mj_V × Option mj_V, (q.1 ≤ 4 ∧ mo_se A s f x y = mo_sl A s f x y q.1) → mj_X G n_M_seenAt (mj_Qm G n_M_seenAt (fun r A' => r = some (mI (mo_se A s f x y)) ∧ A' = A) mj_no) A 0 0 3 [some (mR (some 200)), some (mI s), some (mI f), some (mI x), some (mI y), some (mI ((q.1 : Int) - 1)), q.2.1, q.2.2.1, q.2.2.2] [] := by
    refine mj_loop _ (fun q => q.1) _ ?_
    intro ⟨n, o1, o2, o3⟩ ⟨h1, h2⟩ ih
    replace h1 : n ≤ 4 := h1
    replace h2 : mo_se A s f x y = mo_sl A s f x y n := h2
    cases n with
    | zero =>
      show mj_X G n_M_seenAt _ A 0 0 3 [some (mR (some 200)), some (mI s), some (mI f), some (mI x), some (mI y), some (mI (-1)), o1, o2, o3] []
      refine mx_R fun hR => ?_
      refine mx_iload 5 d_M_seenAt_3 rfl ?_
      refine mx_if_lt 127 d_M_seenAt_5 rfl (by first | assumption | exact hR _ _ | exact r32_mk (by omega) (by omega)) (fun c_5 => ?_) (fun c_5 => ?_)
      · refine mx_iconst d_M_seenAt_127 ?_
        refine mx_iret d_M_seenAt_128 rfl ?_
        exact ⟨by rw [h2]; rfl, rfl⟩
      · exfalso; omega
    | succ n =>
      have e9 : (((n + 1 : Nat) : Int) - 1) = (n : Int) := by omega
      show mj_X G n_M_seenAt _ A 0 0 3 [some (mR (some 200)), some (mI s), some (mI f), some (mI x), some (mI y), some (mI (((n + 1 : Nat) : Int) - 1)), o1, o2, o3] []
      rw [e9]
      have hha := mo_ha_r hg (l := n) hs ⟨by omega, by omega⟩ hf
      have hm1 := mo_mv_b hp (s := s) (l := n) (f := f) (z := 1) ⟨hf.1, by omega⟩
      have hm0 := mo_mv_b hp (s := s) (l := n) (f := f) (z := 0) ⟨hf.1, by omega⟩
      have hpp := hpi (192 * mo_ha A s n f + 16 * (y - mo_mv A s n f 0) + (x - mo_mv A s n f 1))
      rw [mo_sl] at h2
      refine mx_R fun hR => ?_
      refine mx_iload 5 d_M_seenAt_3 rfl ?_
      refine mx_if_lt 127 d_M_seenAt_5 rfl (by first | assumption | exact hR _ _ | exact r32_mk (by omega) (by omega)) (fun c_5 => ?_) (fun c_5 => ?_)
      · exfalso; omega
      · refine mx_aload_n 0 d_M_seenAt_8 rfl rfl ?_
        refine mx_iload_n 1 d_M_seenAt_9 rfl rfl ?_
        refine mx_iload 5 d_M_seenAt_10 rfl ?_
        refine mx_iload_n 2 d_M_seenAt_12 rfl rfl ?_
        refine mx_callV (kc := 0) (ks := 0) (N := n_M_hasAt) (as := [_, _, _]) (ci := 7) d_M_seenAt_13 s_M_218 ⟨Nat.le_of_ble_eq_true rfl, Nat.le_of_ble_eq_true rfl⟩ rfl (mj_wt_8 (Nat.le_of_ble_eq_true rfl)) (hM.o) ⟨_, rfl, rfl⟩ (cm_hasAt hM hg hs ⟨by omega, by omega⟩ hf) (fun r_13 A_13 h_13 => ?_) (fun E_13 A_x h_13 => ?_)
        rotate_left
        · exact h_13.elim
        obtain ⟨rfl, hA_13⟩ := h_13
        obtain rfl := hA_13.symm
        clear hA_13
        refine mx_R fun hR_1 => ?_
        refine mx_istore 6 d_M_seenAt_16 (Nat.le_of_ble_eq_true rfl) ?_
        refine mx_iload_n 3 d_M_seenAt_18 rfl rfl ?_
        refine mx_aload_n 0 d_M_seenAt_19 rfl rfl ?_
        refine mx_iload_n 1 d_M_seenAt_20 rfl rfl ?_
        refine mx_iload 5 d_M_seenAt_21 rfl ?_
        refine mx_iload_n 2 d_M_seenAt_23 rfl rfl ?_
        refine mx_iconst d_M_seenAt_24 ?_
        refine mx_callV (kc := 0) (ks := 0) (N := n_M_movedBy) (as := [_, _, _, _]) (ci := 7) d_M_seenAt_25 s_M_222 ⟨Nat.le_of_ble_eq_true rfl, Nat.le_of_ble_eq_true rfl⟩ rfl (mj_wt_8 (Nat.le_of_ble_eq_true rfl)) (hM.o) ⟨_, rfl, rfl⟩ (cm_movedBy hM hp hh hns hs ⟨by omega, by omega⟩ ⟨hf.1, by omega⟩ (Or.inr rfl)) (fun r_25 A_25 h_25 => ?_) (fun E_25 A_x h_25 => ?_)
        rotate_left
        · exact h_25.elim
        obtain ⟨rfl, hA_25⟩ := h_25
        obtain rfl := hA_25.symm
        clear hA_25
        refine mx_R fun hR_2 => ?_
        refine mx_isub d_M_seenAt_28 ?_
        refine mx_istore 7 d_M_seenAt_29 (Nat.le_of_ble_eq_true rfl) ?_
        refine mx_iload 4 d_M_seenAt_31 rfl ?_
        refine mx_aload_n 0 d_M_seenAt_33 rfl rfl ?_
        refine mx_iload_n 1 d_M_seenAt_34 rfl rfl ?_
        refine mx_iload 5 d_M_seenAt_35 rfl ?_
        refine mx_iload_n 2 d_M_seenAt_37 rfl rfl ?_
        refine mx_iconst d_M_seenAt_38 ?_
        refine mx_callV (kc := 0) (ks := 0) (N := n_M_movedBy) (as := [_, _, _, _]) (ci := 7) d_M_seenAt_39 s_M_222 ⟨Nat.le_of_ble_eq_true rfl, Nat.le_of_ble_eq_true rfl⟩ rfl (mj_wt_8 (Nat.le_of_ble_eq_true rfl)) (hM.o) ⟨_, rfl, rfl⟩ (cm_movedBy hM hp hh hns hs ⟨by omega, by omega⟩ ⟨hf.1, by omega⟩ (Or.inl rfl)) (fun r_39 A_39 h_39 => ?_) (fun E_39 A_x h_39 => ?_)
        rotate_left
        · exact h_39.elim
        obtain ⟨rfl, hA_39⟩ := h_39
        obtain rfl := hA_39.symm
        clear hA_39
        refine mx_R fun hR_3 => ?_
        refine mx_isub d_M_seenAt_42 ?_
        refine mx_istore 8 d_M_seenAt_43 (Nat.le_of_ble_eq_true rfl) ?_
        refine mx_iload 6 d_M_seenAt_45 rfl ?_
        refine mx_iconst d_M_seenAt_47 ?_
        refine mx_icmp_eq 121 d_M_seenAt_48 rfl (by first | assumption | exact hR_3 _ _ | exact hR_2 _ _ | exact hR_1 _ _ | exact hR _ _ | exact r32_mk (by omega) (by omega)) (by first | assumption | exact hR_3 _ _ | exact hR_2 _ _ | exact hR_1 _ _ | exact hR _ _ | exact r32_mk (by omega) (by omega)) (fun c_48 => ?_) (fun c_48 => ?_)
        · refine mx_iinc 5 d_M_seenAt_121 rfl (Nat.le_of_ble_eq_true rfl) ?_
          refine mx_goto 3 d_M_seenAt_124 rfl ?_
          have h9 := ih (n, some (mI (mo_ha A s n f)), some (mI (x - mo_mv A s n f 1)), some (mI (y - mo_mv A s n f 0))) ⟨by show n ≤ 4; omega, by rw [h2, if_neg (by omega)]⟩ (by show n < n + 1; omega)
          exact h9
        · refine mx_iload 7 d_M_seenAt_51 rfl ?_
          refine mx_iload 8 d_M_seenAt_53 rfl ?_
          refine mx_callS (kc := 0) (ks := 0) (N := n_M_isPoint) (as := [_, _]) d_M_seenAt_55 s_M_149 ⟨Nat.le_of_ble_eq_true rfl, Nat.le_of_ble_eq_true rfl⟩ rfl (mj_wt_8 (Nat.le_of_ble_eq_true rfl)) (cm_isPoint (r32_mk (by omega) (by omega)) (r32_mk (by omega) (by omega))) (fun r_55 A_55 h_55 => ?_) (fun E_55 A_x h_55 => ?_)
          rotate_left
          · exact h_55.elim
          obtain ⟨rfl, hA_55⟩ := h_55
          obtain rfl := hA_55.symm
          clear hA_55
          refine mx_R fun hR_4 => ?_
          refine mx_if_eq 121 d_M_seenAt_58 rfl (by first | assumption | exact hR_4 _ _ | exact hR_3 _ _ | exact hR_2 _ _ | exact hR_1 _ _ | exact hR _ _ | exact r32_mk (by omega) (by omega)) (fun c_58 => ?_) (fun c_58 => ?_)
          · refine mx_iinc 5 d_M_seenAt_121 rfl (Nat.le_of_ble_eq_true rfl) ?_
            refine mx_goto 3 d_M_seenAt_124 rfl ?_
            have h9 := ih (n, some (mI (mo_ha A s n f)), some (mI (x - mo_mv A s n f 1)), some (mI (y - mo_mv A s n f 0))) ⟨by show n ≤ 4; omega, by rw [h2, if_neg (by omega)]⟩ (by show n < n + 1; omega)
            exact h9
          · refine mx_aload_n 0 d_M_seenAt_61 rfl rfl ?_
            refine mx_getPs 18 d_M_seenAt_62 f_M_50 rfl rfl (hM.o) (hM.p18) ?_
            refine mx_sipush d_M_seenAt_65 (by decide) ?_
            refine mx_iload 6 d_M_seenAt_68 rfl ?_
            refine mx_imul d_M_seenAt_70 ?_
            refine mx_bipush d_M_seenAt_71 (by decide) ?_
            refine mx_iload 8 d_M_seenAt_73 rfl ?_
            refine mx_imul d_M_seenAt_75 ?_
            refine mx_iadd d_M_seenAt_76 ?_
            refine mx_iload 7 d_M_seenAt_77 rfl ?_
            refine mx_iadd d_M_seenAt_79 ?_
            refine mx_iald d_M_seenAt_80 (hM.s18) (by omega) (by omega) ?_
            refine mx_iconst d_M_seenAt_81 ?_
            refine mx_icmp_eq 121 d_M_seenAt_82 rfl (by first | assumption | exact hR_4 _ _ | exact hR_3 _ _ | exact hR_2 _ _ | exact hR_1 _ _ | exact hR _ _ | exact r32_mk (by omega) (by omega)) (by first | assumption | exact hR_4 _ _ | exact hR_3 _ _ | exact hR_2 _ _ | exact hR_1 _ _ | exact hR _ _ | exact r32_mk (by omega) (by omega)) (fun c_82 => ?_) (fun c_82 => ?_)
            · refine mx_iinc 5 d_M_seenAt_121 rfl (Nat.le_of_ble_eq_true rfl) ?_
              refine mx_goto 3 d_M_seenAt_124 rfl ?_
              have h9 := ih (n, some (mI (mo_ha A s n f)), some (mI (x - mo_mv A s n f 1)), some (mI (y - mo_mv A s n f 0))) ⟨by show n ≤ 4; omega, by rw [h2, if_neg (by omega)]⟩ (by show n < n + 1; omega)
              exact h9
            · refine mx_aload_n 0 d_M_seenAt_85 rfl rfl ?_
              refine mx_getPs 22 d_M_seenAt_86 f_M_62 rfl rfl (hM.o) (hM.p22) ?_
              refine mx_bipush d_M_seenAt_89 (by decide) ?_
              refine mx_aload_n 0 d_M_seenAt_91 rfl rfl ?_
              refine mx_getPs 25 d_M_seenAt_92 f_M_68 rfl rfl (hM.o) (hM.p25) ?_
              refine mx_iload_n 1 d_M_seenAt_95 rfl rfl ?_
              refine mx_iald d_M_seenAt_96 (hM.s25) (by omega) (by omega) ?_
              refine mx_imul d_M_seenAt_97 ?_
              refine mx_aload_n 0 d_M_seenAt_98 rfl rfl ?_
              refine mx_getPs 18 d_M_seenAt_99 f_M_50 rfl rfl (hM.o) (hM.p18) ?_
              refine mx_sipush d_M_seenAt_102 (by decide) ?_
              refine mx_iload 6 d_M_seenAt_105 rfl ?_
              refine mx_imul d_M_seenAt_107 ?_
              refine mx_bipush d_M_seenAt_108 (by decide) ?_
              refine mx_iload 8 d_M_seenAt_110 rfl ?_
              refine mx_imul d_M_seenAt_112 ?_
              refine mx_iadd d_M_seenAt_113 ?_
              refine mx_iload 7 d_M_seenAt_114 rfl ?_
              refine mx_iadd d_M_seenAt_116 ?_
              refine mx_iald d_M_seenAt_117 (hM.s18) (by omega) (by omega) ?_
              refine mx_iadd d_M_seenAt_118 ?_
              refine mx_iald d_M_seenAt_119 (hM.s22) (by omega) (by omega) ?_
              refine mx_iret d_M_seenAt_120 rfl ?_
              exact ⟨by rw [h2, if_pos ⟨by assumption, by omega, by assumption⟩], rfl⟩
  refine mx_R fun hR => ?_
  refine mx_iconst d_M_seenAt_0 ?_
  refine mx_istore 5 d_M_seenAt_1 (Nat.le_of_ble_eq_true rfl) ?_
  exact hl (4, none, none, none) ⟨by show 4 ≤ 4; omega, rfl⟩
/-- whether a frame is stale -/
def mo_st (A : mj_M) (s f : Int) : Prop := gI A 238 (24 * s + f) = 0 ∨ ∃ p, 0 ≤ p ∧ p < 192 ∧ gI A 239 (192 * (24 * s + f) + p) ≠ mo_se A s f (p.tmod 16) (p.tdiv 16)
theorem mo_ip_p {p : Int} (h : 0 ≤ p ∧ p < 192) : mo_ip (p.tmod 16) (p.tdiv 16) := by
  rw [Int.tmod_eq_emod_of_nonneg h.1, Int.tdiv_eq_ediv_of_nonneg h.1]
  unfold mo_ip
  omega
theorem mo_sl_b {s f x y : Int} (hc : ∀ k, 0 ≤ gI A 222 k ∧ gI A 222 k ≤ 99) : ∀ n : Nat, 0 ≤ mo_sl A s f x y n ∧ mo_sl A s f x y n ≤ 99
  | 0 => by rw [mo_sl]; omega
  | n + 1 => by
    rw [mo_sl]
    split
    · exact hc _
    · exact mo_sl_b hc n
theorem cm_isStale {s f : Int} (hM : MS A) (hg : mo_rg A) (hp : mo_pg A) (hh : mo_hg A) (hpi : ∀ k, -1 ≤ gI A 218 k ∧ gI A 218 k ≤ 7) (hs : 0 ≤ s ∧ s < gI A 200 23) (hf : 0 ≤ f ∧ f < gI A 224 s) (hc : ∀ k, 0 ≤ gI A 222 k ∧ gI A 222 k ≤ 99) : mj_Cal G n_M_isStale [mR (some 200), mI s, mI f] A (fun r A' => ((r = some (mI 1) ∧ mo_st A s f) ∨ (r = some (mI 0) ∧ ¬ mo_st A s f)) ∧ A' = A) mj_no := by
  refine mj_bodyK 0 0 [some (mR (some 200)), some (mI s), some (mI f), none, none] rfl rfl rfl (by decide +kernel) (Nat.le_of_ble_eq_true rfl) (by simp) rfl ?_
  have hfr := hg.fr s hs.1 hs.2
  have hns := hg.ns
  have hl : ∀ q : Int × Int, (0 ≤ q.2 ∧ q.2 ≤ 192 ∧ ((q.1 = 1 ∧ mo_st A s f) ∨ (q.1 = 0 ∧ gI A 238 (24 * s + f) ≠ 0 ∧ ∀ p, 0 ≤ p → p < q.2 → gI A 239 (192 * (24 * s + f) + p) = mo_se A s f (p.tmod 16) (p.tdiv 16)))) → mj_X G n_M_isStale (mj_Qm G n_M_isStale (fun r A' => ((r = some (mI 1) ∧ mo_st A s f) ∨ (r = some (mI 0) ∧ ¬ mo_st A s f)) ∧ A' = A) mj_no) A 0 0 23 [some (mR (some 200)), some (mI s), some (mI f), some (mI q.1), some (mI q.2)] [] := by
    refine mj_loop _ (fun q => (192 - q.2).toNat) _ ?_
    intro ⟨i, p⟩ ⟨h1, h2, h3⟩ ih
    replace h1 : 0 ≤ p := h1
    replace h2 : p ≤ 192 := h2
    replace h3 : (i = 1 ∧ mo_st A s f) ∨ (i = 0 ∧ gI A 238 (24 * s + f) ≠ 0 ∧ ∀ k, 0 ≤ k → k < p → gI A 239 (192 * (24 * s + f) + k) = mo_se A s f (k.tmod 16) (k.tdiv 16)) := h3
    have hi : i = 0 ∨ i = 1 := by
      rcases h3 with h | h
      · exact Or.inr h.1
      · exact Or.inl h.1
    show mj_X G n_M_isStale _ A 0 0 23 [some (mR (some 200)), some (mI s), some (mI f), some (mI i), some (mI p)] []
    refine mx_R fun hR => ?_
    refine mx_iload 4 d_M_isStale_23 rfl ?_
    refine mx_sipush d_M_isStale_25 (by decide) ?_
    refine mx_icmp_ge 84 d_M_isStale_28 rfl (by first | assumption | exact hR _ _ | exact r32_mk (by omega) (by omega)) (by first | assumption | exact hR _ _ | exact r32_mk (by omega) (by omega)) (fun c_28 => ?_) (fun c_28 => ?_)
    · refine mx_iload_n 3 d_M_isStale_84 rfl rfl ?_
      refine mx_zret d_M_isStale_85 rfl (hi) ?_
      refine ⟨?_, rfl⟩
      rcases h3 with h | ⟨e1, e2, e3⟩
      · exact Or.inl ⟨by rw [h.1], h.2⟩
      · refine Or.inr ⟨by rw [e1], ?_⟩
        rintro (e4 | ⟨k, k1, k2, k3⟩)
        · exact e2 e4
        · exact k3 (e3 k k1 (by omega))
    · refine mx_iload_n 3 d_M_isStale_31 rfl rfl ?_
      refine mx_if_ne 84 d_M_isStale_32 rfl (by first | assumption | exact hR _ _ | exact r32_mk (by omega) (by omega)) (fun c_32 => ?_) (fun c_32 => ?_)
      · refine mx_iload_n 3 d_M_isStale_84 rfl rfl ?_
        refine mx_zret d_M_isStale_85 rfl (hi) ?_
        refine ⟨?_, rfl⟩
        rcases h3 with h | ⟨e1, e2, e3⟩
        · exact Or.inl ⟨by rw [h.1], h.2⟩
        · refine Or.inr ⟨by rw [e1], ?_⟩
          rintro (e4 | ⟨k, k1, k2, k3⟩)
          · exact e2 e4
          · exact k3 (e3 k k1 (by omega))
      · refine mx_aload_n 0 d_M_isStale_35 rfl rfl ?_
        refine mx_getPs 39 d_M_isStale_36 f_M_107 rfl rfl (hM.o) (hM.p39) ?_
        refine mx_sipush d_M_isStale_39 (by decide) ?_
        refine mx_bipush d_M_isStale_42 (by decide) ?_
        refine mx_iload_n 1 d_M_isStale_44 rfl rfl ?_
        refine mx_imul d_M_isStale_45 ?_
        refine mx_iload_n 2 d_M_isStale_46 rfl rfl ?_
        refine mx_iadd d_M_isStale_47 ?_
        refine mx_imul d_M_isStale_48 ?_
        refine mx_iload 4 d_M_isStale_49 rfl ?_
        refine mx_iadd d_M_isStale_51 ?_
        refine mx_iald d_M_isStale_52 (hM.s39) (by omega) (by omega) ?_
        refine mx_aload_n 0 d_M_isStale_53 rfl rfl ?_
        refine mx_iload_n 1 d_M_isStale_54 rfl rfl ?_
        refine mx_iload_n 2 d_M_isStale_55 rfl rfl ?_
        refine mx_iload 4 d_M_isStale_56 rfl ?_
        refine mx_bipush d_M_isStale_58 (by decide) ?_
        refine mx_irem d_M_isStale_60 (by first | assumption | exact hR _ _ | exact r32_mk (by omega) (by omega)) (by first | assumption | exact hR _ _ | exact r32_mk (by omega) (by omega)) (by omega) ?_
        refine mx_iload 4 d_M_isStale_61 rfl ?_
        refine mx_bipush d_M_isStale_63 (by decide) ?_
        refine mx_idiv d_M_isStale_65 (by first | assumption | exact hR _ _ | exact r32_mk (by omega) (by omega)) (by first | assumption | exact hR _ _ | exact r32_mk (by omega) (by omega)) (by omega) ?_
        refine mx_callV (kc := 0) (ks := 0) (N := n_M_seenAt) (as := [_, _, _, _]) (ci := 7) d_M_isStale_66 s_M_226 ⟨Nat.le_of_ble_eq_true rfl, Nat.le_of_ble_eq_true rfl⟩ rfl (mj_wt_8 (Nat.le_of_ble_eq_true rfl)) (hM.o) ⟨_, rfl, rfl⟩ (cm_seenAt hM hg hp hh hpi hs hf (mo_ip_p ⟨h1, by omega⟩)) (fun r_66 A_66 h_66 => ?_) (fun E_66 A_x h_66 => ?_)
        rotate_left
        · exact h_66.elim
        obtain ⟨rfl, hA_66⟩ := h_66
        obtain rfl := hA_66.symm
        clear hA_66
        refine mx_R fun hR_1 => ?_
        have hsb : 0 ≤ mo_se A s f (p.tmod 16) (p.tdiv 16) ∧ mo_se A s f (p.tmod 16) (p.tdiv 16) ≤ 99 := mo_sl_b hc 4
        refine mx_icmp_eq 76 d_M_isStale_69 rfl (by first | assumption | exact hR_1 _ _ | exact hR _ _ | exact r32_mk (by omega) (by omega)) (by first | assumption | exact hR_1 _ _ | exact hR _ _ | exact r32_mk (by omega) (by omega)) (fun c_69 => ?_) (fun c_69 => ?_)
        · have hi0 : i = 0 := by omega
          refine mx_iconst d_M_isStale_76 ?_
          refine mx_R fun hR => ?_
          refine mx_istore_n 3 d_M_isStale_77 rfl (Nat.le_of_ble_eq_true rfl) ?_
          refine mx_iinc 4 d_M_isStale_78 rfl (Nat.le_of_ble_eq_true rfl) ?_
          refine mx_goto 23 d_M_isStale_81 rfl ?_
          refine ih (0, p + 1) ⟨by show 0 ≤ p + 1; omega, by show p + 1 ≤ 192; omega, Or.inr ⟨rfl, ?_⟩⟩ (by show (192 - (p + 1)).toNat < (192 - p).toNat; omega)
          rcases h3 with h | ⟨e1, e2, e3⟩
          · exact absurd h.1 (by omega)
          · refine ⟨e2, fun k k1 k2 => ?_⟩
            replace k2 : k < p + 1 := k2
            by_cases e : k = p
            · rw [e]; exact c_69
            · exact e3 k k1 (by omega)
        · refine mx_iconst d_M_isStale_72 ?_
          refine mx_goto 77 d_M_isStale_73 rfl ?_
          refine mx_istore_n 3 d_M_isStale_77 rfl (Nat.le_of_ble_eq_true rfl) ?_
          refine mx_iinc 4 d_M_isStale_78 rfl (Nat.le_of_ble_eq_true rfl) ?_
          refine mx_goto 23 d_M_isStale_81 rfl ?_
          exact ih (1, p + 1) ⟨by show 0 ≤ p + 1; omega, by show p + 1 ≤ 192; omega, Or.inl ⟨rfl, Or.inr ⟨p, h1, by omega, c_69⟩⟩⟩ (by show (192 - (p + 1)).toNat < (192 - p).toNat; omega)
  refine mx_R fun hR => ?_
  refine mj_cutB (gI A 238 (24 * s + f) = 0) 19 ?_ (fun hJ_0 => ?_)
  · refine mx_istore_n 3 d_M_isStale_19 rfl (Nat.le_of_ble_eq_true rfl) ?_
    refine mx_iconst d_M_isStale_20 ?_
    refine mx_istore 4 d_M_isStale_21 (Nat.le_of_ble_eq_true rfl) ?_
    by_cases hz : gI A 238 (24 * s + f) = 0
    · rw [if_pos hz]
      exact hl (1, 0) ⟨by show (0 : Int) ≤ 0; omega, by show (0 : Int) ≤ 192; omega, Or.inl ⟨rfl, Or.inl hz⟩⟩
    · rw [if_neg hz]
      exact hl (0, 0) ⟨by show (0 : Int) ≤ 0; omega, by show (0 : Int) ≤ 192; omega, Or.inr ⟨rfl, hz, fun k k1 k2 => absurd k2 (by show ¬ k < 0; omega)⟩⟩
  · refine mx_aload_n 0 d_M_isStale_0 rfl rfl ?_
    refine mx_getPs 38 d_M_isStale_1 f_M_104 rfl rfl (hM.o) (hM.p38) ?_
    refine mx_bipush d_M_isStale_4 (by decide) ?_
    refine mx_iload_n 1 d_M_isStale_6 rfl rfl ?_
    refine mx_imul d_M_isStale_7 ?_
    refine mx_iload_n 2 d_M_isStale_8 rfl rfl ?_
    refine mx_iadd d_M_isStale_9 ?_
    refine mx_zald d_M_isStale_10 (hM.s38) (by omega) (by omega) ?_
    refine mx_if_ne 18 d_M_isStale_11 rfl (by first | assumption | exact hR _ _ | exact r32_mk (by omega) (by omega)) (fun c_11 => ?_) (fun c_11 => ?_)
    · refine mx_iconst d_M_isStale_18 ?_
      first | exact mj_j1 hJ_0 (by omega) | exact mj_j0 hJ_0 (by omega)
    · refine mx_iconst d_M_isStale_14 ?_
      refine mx_goto 19 d_M_isStale_15 rfl ?_
      first | exact mj_j1 hJ_0 (by omega) | exact mj_j0 hJ_0 (by omega)
theorem cm_hand {w : Int} (hM : MS A) (hn : 0 ≤ gI A 200 40 ∧ gI A 200 40 ≤ 4) (hw : r32 w) : mj_Cal G n_M_hand [mR (some 200), mI w] A (fun r A' => (((1 ≤ w ∧ w ≤ 9) ∧ gI A 200 40 < 4) ∧ r = some (mI (gI A 200 40)) ∧ A' = sI (sI (sI A 200 0 0) 241 (gI A 200 40) w) 200 40 (gI A 200 40 + 1)) ∨ (¬ ((1 ≤ w ∧ w ≤ 9) ∧ gI A 200 40 < 4) ∧ r = some (mI 0) ∧ A' = sI A 200 0 (if 1 ≤ w ∧ w ≤ 9 then (if gI A 200 40 < 4 then 0 else 2) else 1))) mj_no := by
  refine mj_bodyK 0 0 [some (mR (some 200)), some (mI w)] rfl rfl rfl (by decide +kernel) (Nat.le_of_ble_eq_true rfl) (by simp) rfl ?_
  refine mx_R fun hR => ?_
  refine mx_aload_n 0 d_M_hand_0 rfl rfl ?_
  refine mx_iload_n 1 d_M_hand_1 rfl rfl ?_
  refine mx_iconst d_M_hand_2 ?_
  refine mx_bipush d_M_hand_3 (by decide) ?_
  refine mx_callS (kc := 0) (ks := 0) (N := n_M_in) (as := [_, _, _]) d_M_hand_5 s_M_126 ⟨Nat.le_of_ble_eq_true rfl, Nat.le_of_ble_eq_true rfl⟩ rfl (mj_wt_8 (Nat.le_of_ble_eq_true rfl)) (cm_in hw (r32_mk (by omega) (by omega)) (r32_mk (by omega) (by omega))) (fun r_5 A_5 h_5 => ?_) (fun E_5 A_x h_5 => ?_)
  rotate_left
  · exact h_5.elim
  obtain ⟨rfl, hA_5⟩ := h_5
  obtain rfl := hA_5.symm
  clear hA_5
  refine mx_R fun hR_1 => ?_
  refine mj_cutB (gI A 200 40 < 4) 21 ?_ (fun hJ_8 => ?_)
  · refine mx_callV (kc := 0) (ks := 0) (N := n_M_asked2) (as := [_, _]) (ci := 7) d_M_hand_21 s_M_166 ⟨Nat.le_of_ble_eq_true rfl, Nat.le_of_ble_eq_true rfl⟩ rfl (mj_wt_8 (Nat.le_of_ble_eq_true rfl)) (hM.o) ⟨_, rfl, rfl⟩ (cm_asked2 _ _ hM) (fun r_21 A_21 h_21 => ?_) (fun E_21 A_x h_21 => ?_)
    rotate_left
    · exact h_21.elim
    obtain ⟨rfl, hA_21⟩ := h_21
    obtain rfl := hA_21.symm
    clear hA_21
    refine mx_R fun hR_2 => ?_
    refine mx_if_ne 29 d_M_hand_24 rfl (by first | assumption | exact hR_2 _ _ | exact hR_1 _ _ | exact hR _ _ | exact r32_mk (by omega) (by omega)) (fun c_24 => ?_) (fun c_24 => ?_)
    · have hP : ((1 ≤ w ∧ w ≤ 9) ∧ gI A 200 40 < 4) := by omega
      rw [if_pos hP.1, if_pos hP.2]
      refine mx_R fun hR => ?_
      refine mx_aload_n 0 d_M_hand_29 rfl rfl ?_
      refine mx_getPs 41 d_M_hand_30 f_M_110 rfl rfl (hM.o) (hM.p41) ?_
      refine mx_aload_n 0 d_M_hand_33 rfl rfl ?_
      refine mx_getI 40 d_M_hand_34 f_M_241 rfl rfl (hM.o) ?_
      refine mx_iload_n 1 d_M_hand_37 rfl rfl ?_
      refine mx_iast d_M_hand_38 (hM.s41) (by (try simp only [gI_sI, gI_sF, gI_sP, gI_sN, gP_sI, gP_sF, gP_sP, gP_sN, gS_sI, gS_sF, gS_sP, gS_sN, Int.reduceEq, false_and, and_false, true_and, and_true, eq_self, if_false, if_true, reduceIte, reduceCtorEq]); omega) (by (try simp only [gI_sI, gI_sF, gI_sP, gI_sN, gP_sI, gP_sF, gP_sP, gP_sN, gS_sI, gS_sF, gS_sP, gS_sN, Int.reduceEq, false_and, and_false, true_and, and_true, eq_self, if_false, if_true, reduceIte, reduceCtorEq]); omega) (by first | assumption | exact hR _ _ | exact r32_mk (by omega) (by omega)) ?_
      refine mx_R fun hR_1 => ?_
      refine mx_aload_n 0 d_M_hand_39 rfl rfl ?_
      refine mx_dup d_M_hand_40 (fun z h => by cases h) ?_
      refine mx_getI 40 d_M_hand_41 f_M_241 rfl rfl (hM.o) ?_
      (try simp only [gI_sI, gI_sF, gI_sP, gI_sN, gP_sI, gP_sF, gP_sP, gP_sN, gS_sI, gS_sF, gS_sP, gS_sN, Int.reduceEq, false_and, and_false, true_and, and_true, eq_self, if_false, if_true, reduceIte, reduceCtorEq])
      refine mx_iconst d_M_hand_44 ?_
      refine mx_iadd d_M_hand_45 ?_
      refine mx_putI 40 d_M_hand_46 f_M_241 rfl (hM.o) (Or.inl rfl) (Or.inl rfl) (by first | assumption | exact hR_1 _ _ | exact hR _ _ | exact r32_mk (by omega) (by omega)) ?_
      refine mx_R fun hR_2 => ?_
      refine mx_aload_n 0 d_M_hand_49 rfl rfl ?_
      refine mx_getI 40 d_M_hand_50 f_M_241 rfl rfl (hM.o) ?_
      (try simp only [gI_sI, gI_sF, gI_sP, gI_sN, gP_sI, gP_sF, gP_sP, gP_sN, gS_sI, gS_sF, gS_sP, gS_sN, Int.reduceEq, false_and, and_false, true_and, and_true, eq_self, if_false, if_true, reduceIte, reduceCtorEq])
      refine mx_iconst d_M_hand_53 ?_
      refine mx_isub d_M_hand_54 ?_
      refine mx_iret d_M_hand_55 rfl ?_
      exact Or.inl ⟨hP, by rw [show gI A 200 40 + 1 - 1 = gI A 200 40 by omega], rfl⟩
    · refine mx_iconst d_M_hand_27 ?_
      refine mx_iret d_M_hand_28 rfl ?_
      exact Or.inr ⟨by omega, rfl, rfl⟩
  · refine mx_aload_n 0 d_M_hand_8 rfl rfl ?_
    refine mx_getI 40 d_M_hand_9 f_M_241 rfl rfl (hM.o) ?_
    refine mx_iconst d_M_hand_12 ?_
    refine mx_icmp_ge 20 d_M_hand_13 rfl (by first | assumption | exact hR_1 _ _ | exact hR _ _ | exact r32_mk (by omega) (by omega)) (by first | assumption | exact hR_1 _ _ | exact hR _ _ | exact r32_mk (by omega) (by omega)) (fun c_13 => ?_) (fun c_13 => ?_)
    · refine mx_iconst d_M_hand_20 ?_
      first | exact mj_j1 hJ_8 (by omega) | exact mj_j0 hJ_8 (by omega)
    · refine mx_iconst d_M_hand_16 ?_
      refine mx_goto 21 d_M_hand_17 rfl ?_
      first | exact mj_j1 hJ_8 (by omega) | exact mj_j0 hJ_8 (by omega)
/-- the frames of the film -/
def mo_fl (A : mj_M) : Int := mj_sum (fun k => gI A 224 (gI A 244 k)) (gI A 200 43).toNat
theorem cm_filmed (hM : MS A) (hg : mo_rg A) (hn : 0 ≤ gI A 200 43 ∧ gI A 200 43 ≤ 10) (hr : ∀ k, 0 ≤ k → k < gI A 200 43 → 0 ≤ gI A 244 k ∧ gI A 244 k < gI A 200 23) : mj_Cal G n_M_filmed [mR (some 200)] A (fun r A' => r = some (mI (mo_fl A)) ∧ A' = A) mj_no := by
  refine mj_bodyK 0 0 [some (mR (some 200)), none, none] rfl rfl rfl (by decide +kernel) (Nat.le_of_ble_eq_true rfl) (by simp) rfl ?_
  have hns := hg.ns
  have hl : ∀ q : Nat, (q : Int) ≤ gI A 200 43 → mj_X G n_M_filmed (mj_Qm G n_M_filmed (fun r A' => r = some (mI (mo_fl A)) ∧ A' = A) mj_no) A 0 0 4 [some (mR (some 200)), some (mI (mj_sum (fun k => gI A 224 (gI A 244 k)) q)), some (mI q)] [] := by
    refine mj_loop _ (fun q => 11 - q) _ ?_
    intro q hq ih
    refine mx_R fun hR => ?_
    refine mx_iload_n 2 d_M_filmed_4 rfl rfl ?_
    refine mx_aload_n 0 d_M_filmed_5 rfl rfl ?_
    refine mx_getI 43 d_M_filmed_6 f_M_244 rfl rfl (hM.o) ?_
    refine mx_icmp_ge 32 d_M_filmed_9 rfl (by first | assumption | exact hR _ _ | exact r32_mk (by omega) (by omega)) (by first | assumption | exact hR _ _ | exact r32_mk (by omega) (by omega)) (fun c_9 => ?_) (fun c_9 => ?_)
    · refine mx_iload_n 1 d_M_filmed_32 rfl rfl ?_
      refine mx_iret d_M_filmed_33 rfl ?_
      refine ⟨?_, rfl⟩
      unfold mo_fl
      rw [show (gI A 200 43).toNat = q by omega]
    · refine mx_iload_n 1 d_M_filmed_12 rfl rfl ?_
      refine mx_aload_n 0 d_M_filmed_13 rfl rfl ?_
      refine mx_getPs 24 d_M_filmed_14 f_M_65 rfl rfl (hM.o) (hM.p24) ?_
      refine mx_aload_n 0 d_M_filmed_17 rfl rfl ?_
      refine mx_getPs 44 d_M_filmed_18 f_M_116 rfl rfl (hM.o) (hM.p44) ?_
      refine mx_iload_n 2 d_M_filmed_21 rfl rfl ?_
      refine mx_iald d_M_filmed_22 (hM.s44) (by omega) (by omega) ?_
      have hr1 := hr q (by omega) (by omega)
      refine mx_iald d_M_filmed_23 (hM.s24) (by omega) (by omega) ?_
      refine mx_iadd d_M_filmed_24 ?_
      refine mx_istore_n 1 d_M_filmed_25 rfl (Nat.le_of_ble_eq_true rfl) ?_
      refine mx_iinc 2 d_M_filmed_26 rfl (Nat.le_of_ble_eq_true rfl) ?_
      refine mx_goto 4 d_M_filmed_29 rfl ?_
      have h9 := ih (q + 1) (by omega) (by omega)
      rw [show ((q + 1 : Nat) : Int) = (q : Int) + 1 by omega] at h9
      exact h9
  refine mx_R fun hR => ?_
  refine mx_iconst d_M_filmed_0 ?_
  refine mx_istore_n 1 d_M_filmed_1 rfl (Nat.le_of_ble_eq_true rfl) ?_
  refine mx_iconst d_M_filmed_2 ?_
  refine mx_istore_n 2 d_M_filmed_3 rfl (Nat.le_of_ble_eq_true rfl) ?_
  exact hl 0 (by omega)
theorem mo_fl_b (hg : mo_rg A) (hn : 0 ≤ gI A 200 43 ∧ gI A 200 43 ≤ 10) (hr : ∀ k, 0 ≤ k → k < gI A 200 43 → 0 ≤ gI A 244 k ∧ gI A 244 k < gI A 200 23) : 0 ≤ mo_fl A ∧ mo_fl A ≤ 240 := by
  have h := mj_sum_b (f := fun k => gI A 224 (gI A 244 k)) (b := 24) (gI A 200 43).toNat (fun i h0 h1 => by
    have h2 := hr i h0 (by omega)
    have h3 := hg.fr _ h2.1 h2.2
    show 0 ≤ gI A 224 (gI A 244 i) ∧ gI A 224 (gI A 244 i) ≤ 24
    omega)
  unfold mo_fl
  omega
theorem cm_cut (hM : MS A) (hg : mo_rg A) (hn : 0 ≤ gI A 200 43 ∧ gI A 200 43 ≤ 10) (hr : ∀ k, 0 ≤ k → k < gI A 200 43 → 0 ≤ gI A 244 k ∧ gI A 244 k < gI A 200 23) : mj_Cal G n_M_cut [mR (some 200)] A (fun r A' => r = some (mI (mo_fl A)) ∧ A' = sI (sI A 200 0 0) 200 43 0) mj_no := by
  refine mj_bodyK 0 0 [some (mR (some 200)), none] rfl rfl rfl (by decide +kernel) (Nat.le_of_ble_eq_true rfl) (by simp) rfl ?_
  refine mx_R fun hR => ?_
  refine mx_aload_n 0 d_M_cut_0 rfl rfl ?_
  refine mx_iconst d_M_cut_1 ?_
  refine mx_putI 0 d_M_cut_2 f_M_119 rfl (hM.o) (Or.inl rfl) (Or.inl rfl) (by first | assumption | exact hR _ _ | exact r32_mk (by omega) (by omega)) ?_
  refine mx_R fun hR_1 => ?_
  refine mx_aload_n 0 d_M_cut_5 rfl rfl ?_
  refine mx_callV (kc := 0) (ks := 0) (N := n_M_filmed) (as := []) (ci := 7) d_M_cut_6 s_M_247 ⟨Nat.le_of_ble_eq_true rfl, Nat.le_of_ble_eq_true rfl⟩ rfl (mj_wt_8 (Nat.le_of_ble_eq_true rfl)) (hM.o) ⟨_, rfl, rfl⟩ (cm_filmed (A := sI A 200 0 0) hM hg hn hr) (fun r_6 A_6 h_6 => ?_) (fun E_6 A_x h_6 => ?_)
  rotate_left
  · exact h_6.elim
  obtain ⟨rfl, hA_6⟩ := h_6
  obtain rfl := hA_6.symm
  clear hA_6
  refine mx_R fun hR_2 => ?_
  refine mx_istore_n 1 d_M_cut_9 rfl (Nat.le_of_ble_eq_true rfl) ?_
  refine mx_aload_n 0 d_M_cut_10 rfl rfl ?_
  refine mx_iconst d_M_cut_11 ?_
  refine mx_putI 43 d_M_cut_12 f_M_244 rfl (hM.o) (Or.inl rfl) (Or.inl rfl) (by first | assumption | exact hR_2 _ _ | exact hR_1 _ _ | exact hR _ _ | exact r32_mk (by omega) (by omega)) ?_
  refine mx_R fun hR_3 => ?_
  refine mx_iload_n 1 d_M_cut_15 rfl rfl ?_
  refine mx_iret d_M_cut_16 rfl ?_
  exact ⟨rfl, rfl⟩
end MOD8
