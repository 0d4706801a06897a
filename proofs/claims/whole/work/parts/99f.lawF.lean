/-! THE LAW, 12: its loop -/
section LAWF
variable {G : mj_G} {A : mj_M}
theorem lw_switch {n : Nat} {X : Int → Int} {i : Int} {Q : mj_Q} {o5 o6 : Option mj_V} (hJ : JE X A) (hir : 0 ≤ i ∧ i + 6 ≤ X (-1)) (hX : X (-1) ≤ 3072) (htail : ∀ A2 o5 o6, JE X A2 → mj_X G n_L_law Q A2 (20 * n) (4767 * n) 2565 [some (mR (some 50)), some (mR (some 100)), some (mR (some 200)), some (mR (some 140)), some (mI i), o5, o6] []) : mj_X G n_L_law Q A (20 * (n + 1)) (4767 * (n + 1)) 40 [some (mR (some 50)), some (mR (some 100)), some (mR (some 200)), some (mR (some 140)), some (mI i), o5, o6] [mI (gI A 50 i % 64)] := by
  by_cases hb : gI A 50 i % 64 ≤ 32
  · obtain ⟨k, hk, hk2⟩ : ∃ k : Nat, k < 33 ∧ gI A 50 i % 64 = (k : Int) := ⟨(gI A 50 i % 64).toNat, by omega, by omega⟩
    exact match k, hk, hk2 with
    | 0, _, hk2 => (by
      rw [show gI A 50 i % 64 = 0 from hk2]
      exact mx_tableIn 188 d_L_law_40 (r32_mk (by decide) (by decide)) (by decide) (by decide) (off := 148) rfl rfl (lw_key hJ hir hX htail))
    | 1, _, hk2 => (by
      rw [show gI A 50 i % 64 = 1 from hk2]
      exact mx_tableIn 232 d_L_law_40 (r32_mk (by decide) (by decide)) (by decide) (by decide) (off := 192) rfl rfl (lw_between hJ hir hX htail))
    | 2, _, hk2 => (by
      rw [show gI A 50 i % 64 = 2 from hk2]
      exact mx_tableIn 324 d_L_law_40 (r32_mk (by decide) (by decide)) (by decide) (by decide) (off := 284) rfl rfl (lw_stroke hJ hir hX htail))
    | 3, _, hk2 => (by
      rw [show gI A 50 i % 64 = 3 from hk2]
      exact mx_tableIn 428 d_L_law_40 (r32_mk (by decide) (by decide)) (by decide) (by decide) (off := 388) rfl rfl (lw_pen hJ hir hX htail))
    | 4, _, hk2 => (by
      rw [show gI A 50 i % 64 = 4 from hk2]
      exact mx_tableIn 476 d_L_law_40 (r32_mk (by decide) (by decide)) (by decide) (by decide) (off := 436) rfl rfl (lw_erase hJ hir hX htail))
    | 5, _, hk2 => (by
      rw [show gI A 50 i % 64 = 5 from hk2]
      exact mx_tableIn 551 d_L_law_40 (r32_mk (by decide) (by decide)) (by decide) (by decide) (off := 511) rfl rfl (lw_paint hJ hir hX htail))
    | 6, _, hk2 => (by
      rw [show gI A 50 i % 64 = 6 from hk2]
      exact mx_tableIn 619 d_L_law_40 (r32_mk (by decide) (by decide)) (by decide) (by decide) (off := 579) rfl rfl (lw_gaps hJ hir hX htail))
    | 7, _, hk2 => (by
      rw [show gI A 50 i % 64 = 7 from hk2]
      exact mx_tableIn 682 d_L_law_40 (r32_mk (by decide) (by decide)) (by decide) (by decide) (off := 642) rfl rfl (lw_approve hJ hir hX htail))
    | 8, _, hk2 => (by
      rw [show gI A 50 i % 64 = 8 from hk2]
      exact mx_tableIn 766 d_L_law_40 (r32_mk (by decide) (by decide)) (by decide) (by decide) (off := 726) rfl rfl (lw_colour hJ hir hX htail))
    | 9, _, hk2 => (by
      rw [show gI A 50 i % 64 = 9 from hk2]
      exact mx_tableIn 846 d_L_law_40 (r32_mk (by decide) (by decide)) (by decide) (by decide) (off := 806) rfl rfl (lw_scene hJ hir hX htail))
    | 10, _, hk2 => (by
      rw [show gI A 50 i % 64 = 10 from hk2]
      exact mx_tableIn 914 d_L_law_40 (r32_mk (by decide) (by decide)) (by decide) (by decide) (off := 874) rfl rfl (lw_expose hJ hir hX htail))
    | 11, _, hk2 => (by
      rw [show gI A 50 i % 64 = 11 from hk2]
      exact mx_tableIn 1006 d_L_law_40 (r32_mk (by decide) (by decide)) (by decide) (by decide) (off := 966) rfl rfl (lw_voice hJ hir hX htail))
    | 12, _, hk2 => (by
      rw [show gI A 50 i % 64 = 12 from hk2]
      exact mx_tableIn 1086 d_L_law_40 (r32_mk (by decide) (by decide)) (by decide) (by decide) (off := 1046) rfl rfl (lw_mouth hJ hir hX htail))
    | 13, _, hk2 => (by
      rw [show gI A 50 i % 64 = 13 from hk2]
      exact mx_tableIn 1154 d_L_law_40 (r32_mk (by decide) (by decide)) (by decide) (by decide) (off := 1114) rfl rfl (lw_speaks hJ hir hX htail))
    | 14, _, hk2 => (by
      rw [show gI A 50 i % 64 = 14 from hk2]
      exact mx_tableIn 1229 d_L_law_40 (r32_mk (by decide) (by decide)) (by decide) (by decide) (off := 1189) rfl rfl (lw_peg hJ hir hX htail))
    | 15, _, hk2 => (by
      rw [show gI A 50 i % 64 = 15 from hk2]
      exact mx_tableIn 1285 d_L_law_40 (r32_mk (by decide) (by decide)) (by decide) (by decide) (off := 1245) rfl rfl (lw_move hJ hir hX htail))
    | 16, _, hk2 => (by
      rw [show gI A 50 i % 64 = 16 from hk2]
      exact mx_tableIn 1377 d_L_law_40 (r32_mk (by decide) (by decide)) (by decide) (by decide) (off := 1337) rfl rfl (lw_hang hJ hir hX htail))
    | 17, _, hk2 => (by
      rw [show gI A 50 i % 64 = 17 from hk2]
      exact mx_tableIn 1449 d_L_law_40 (r32_mk (by decide) (by decide)) (by decide) (by decide) (off := 1409) rfl rfl (lw_shoot hJ hir hX htail))
    | 18, _, hk2 => (by
      rw [show gI A 50 i % 64 = 18 from hk2]
      exact mx_tableIn 1505 d_L_law_40 (r32_mk (by decide) (by decide)) (by decide) (by decide) (off := 1465) rfl rfl (lw_hand hJ hir hX htail))
    | 19, _, hk2 => (by
      rw [show gI A 50 i % 64 = 19 from hk2]
      exact mx_tableIn 1561 d_L_law_40 (r32_mk (by decide) (by decide)) (by decide) (by decide) (off := 1521) rfl rfl (lw_splice hJ hir hX htail))
    | 20, _, hk2 => (by
      rw [show gI A 50 i % 64 = 20 from hk2]
      exact mx_tableIn 1617 d_L_law_40 (r32_mk (by decide) (by decide)) (by decide) (by decide) (off := 1577) rfl rfl (lw_cut hJ hir hX htail))
    | 21, _, hk2 => (by
      rw [show gI A 50 i % 64 = 21 from hk2]
      exact mx_tableIn 1630 d_L_law_40 (r32_mk (by decide) (by decide)) (by decide) (by decide) (off := 1590) rfl rfl (lw_of hJ hir hX htail))
    | 22, _, hk2 => (by
      rw [show gI A 50 i % 64 = 22 from hk2]
      exact mx_tableIn 1698 d_L_law_40 (r32_mk (by decide) (by decide)) (by decide) (by decide) (off := 1658) rfl rfl (lw_point hJ hir hX htail))
    | 23, _, hk2 => (by
      rw [show gI A 50 i % 64 = 23 from hk2]
      exact mx_tableIn 1778 d_L_law_40 (r32_mk (by decide) (by decide)) (by decide) (by decide) (off := 1738) rfl rfl (lw_has hJ hir hX htail))
    | 24, _, hk2 => (by
      rw [show gI A 50 i % 64 = 24 from hk2]
      exact mx_tableIn 1858 d_L_law_40 (r32_mk (by decide) (by decide)) (by decide) (by decide) (off := 1818) rfl rfl (lw_moved hJ hir hX htail))
    | 25, _, hk2 => (by
      rw [show gI A 50 i % 64 = 25 from hk2]
      exact mx_tableIn 1966 d_L_law_40 (r32_mk (by decide) (by decide)) (by decide) (by decide) (off := 1926) rfl rfl (lw_seen hJ hir hX htail))
    | 26, _, hk2 => (by
      rw [show gI A 50 i % 64 = 26 from hk2]
      exact mx_tableIn 2058 d_L_law_40 (r32_mk (by decide) (by decide)) (by decide) (by decide) (off := 2018) rfl rfl (lw_seenAnew hJ hir hX htail))
    | 27, _, hk2 => (by
      rw [show gI A 50 i % 64 = 27 from hk2]
      exact mx_tableIn 2150 d_L_law_40 (r32_mk (by decide) (by decide)) (by decide) (by decide) (off := 2110) rfl rfl (lw_shot hJ hir hX htail))
    | 28, _, hk2 => (by
      rw [show gI A 50 i % 64 = 28 from hk2]
      exact mx_tableIn 2242 d_L_law_40 (r32_mk (by decide) (by decide)) (by decide) (by decide) (off := 2202) rfl rfl (lw_stale hJ hir hX htail))
    | 29, _, hk2 => (by
      rw [show gI A 50 i % 64 = 29 from hk2]
      exact mx_tableIn 2298 d_L_law_40 (r32_mk (by decide) (by decide)) (by decide) (by decide) (off := 2258) rfl rfl (lw_hangs hJ hir hX htail))
    | 30, _, hk2 => (by
      rw [show gI A 50 i % 64 = 30 from hk2]
      exact mx_tableIn 2385 d_L_law_40 (r32_mk (by decide) (by decide)) (by decide) (by decide) (off := 2345) rfl rfl (lw_faults hJ hir hX htail))
    | 31, _, hk2 => (by
      rw [show gI A 50 i % 64 = 31 from hk2]
      exact mx_tableIn 2453 d_L_law_40 (r32_mk (by decide) (by decide)) (by decide) (by decide) (off := 2413) rfl rfl (lw_hours hJ hir hX htail))
    | 32, _, hk2 => (by
      rw [show gI A 50 i % 64 = 32 from hk2]
      exact mx_tableIn 2509 d_L_law_40 (r32_mk (by decide) (by decide)) (by decide) (by decide) (off := 2469) rfl rfl (lw_film hJ hir hX htail))
    | n + 33, h, _ => absurd h (by omega)
  · refine mx_tableOut 2565 d_L_law_40 (r32_mk (by omega) (by omega)) (Or.inr (by omega)) rfl ?_
    exact mx_less (kc' := 20 * n) (ks' := 4767 * n) (by omega) (by omega) (htail A _ _ hJ)
theorem lw_head {X : Int → Int} {Q : mj_Q} {i : Int} {kc ks : Nat} {o5 o6 : Option mj_V} (hJ : JE X A) (hi : 0 ≤ i ∧ i ≤ 3072) (hX : 0 ≤ X (-1) ∧ X (-1) ≤ 3072) (h1 : i + 6 ≤ X (-1) → mj_X G n_L_law Q A kc ks 40 [some (mR (some 50)), some (mR (some 100)), some (mR (some 200)), some (mR (some 140)), some (mI i), o5, o6] [mI (gI A 50 i % 64)]) (h2 : mj_X G n_L_law Q A kc ks 2571 [some (mR (some 50)), some (mR (some 100)), some (mR (some 200)), some (mR (some 140)), some (mI i), o5, o6] []) : mj_X G n_L_law Q A kc ks 23 [some (mR (some 50)), some (mR (some 100)), some (mR (some 200)), some (mR (some 140)), some (mI i), o5, o6] [] := by
  obtain ⟨C, h⟩ := id hJ
  have hlen : gI A 50 (-1) = X (-1) := by rw [h.x]
  have hs := h.s
  refine mx_R fun hR => ?_
  refine mx_iload 4 d_L_law_23 rfl ?_
  refine mx_aload_n 0 d_L_law_25 rfl rfl ?_
  refine mx_salen d_L_law_26 hs ?_
  rw [hlen]
  refine mx_bipush d_L_law_27 (by decide) ?_
  refine mx_isub d_L_law_29 ?_
  refine mx_icmp_gt 2571 d_L_law_30 rfl (by first | assumption | exact hR _ _ | exact r32_mk (by omega) (by omega)) (by first | assumption | exact hR _ _ | exact r32_mk (by omega) (by omega)) (fun c_30 => ?_) (fun c_30 => ?_)
  · exact h2
  · refine mx_aload_n 0 d_L_law_33 rfl rfl ?_
    refine mx_iload 4 d_L_law_34 rfl ?_
    refine mx_sald d_L_law_36 hs (by omega) (by rw [hlen]; omega) ?_
    refine mx_bipush d_L_law_37 (by decide) ?_
    refine mx_iand63 d_L_law_39 ?_
    exact h1 (by omega)
theorem lw_loop {X : Int → Int} {Q : mj_Q} (hX : 0 ≤ X (-1) ∧ X (-1) ≤ 3072) (hend : ∀ A2 i o5 o6, JE X A2 → mj_X G n_L_law Q A2 0 0 2571 [some (mR (some 50)), some (mR (some 100)), some (mR (some 200)), some (mR (some 140)), some (mI i), o5, o6] []) : ∀ (n : Nat) (A : mj_M) (i : Int) (o5 o6 : Option mj_V), JE X A → 0 ≤ i ∧ i ≤ 3072 → X (-1) - i < 6 * ((n : Int) + 1) → mj_X G n_L_law Q A (20 * n) (4767 * n) 23 [some (mR (some 50)), some (mR (some 100)), some (mR (some 200)), some (mR (some 140)), some (mI i), o5, o6] [] := by
  intro n
  induction n with
  | zero =>
    intro A i o5 o6 hJ hi hn
    exact lw_head hJ hi hX (fun h => absurd h (by omega)) (mx_less (by omega) (by omega) (hend A i o5 o6 hJ))
  | succ n ih =>
    intro A i o5 o6 hJ hi hn
    refine lw_head hJ hi hX (fun h => ?_) (mx_less (Nat.zero_le _) (Nat.zero_le _) (hend A i o5 o6 hJ))
    refine lw_switch hJ ⟨hi.1, h⟩ hX.2 (fun A2 o5 o6 hJ2 => ?_)
    refine mx_R fun hR => ?_
    refine mx_iinc 4 d_L_law_2565 rfl (Nat.le_of_ble_eq_true rfl) ?_
    refine mx_goto 23 d_L_law_2568 rfl ?_
    exact ih A2 (i + 6) o5 o6 hJ2 (by omega) (by omega)
end LAWF
