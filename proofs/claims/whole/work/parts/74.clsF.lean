/-! THE HOUSE, 14: frames, hands, film -/
theorem mo_hn_m {A : mj_M} {s f d : Int} : ∀ {n m : Nat}, n ≤ m → mo_hn A s f d n = true → mo_hn A s f d m = true
  | n, 0, h, k => by rw [show n = 0 by omega] at k; exact k
  | n, m + 1, h, k => by
    by_cases e : n = m + 1
    · rw [e] at k; exact k
    · rw [mo_hn, Bool.or_eq_true]
      exact Or.inl (mo_hn_m (show n ≤ m by omega) k)
theorem mo_fb_m {C : Int → cT} {A : mj_M} {s f : Int} : ∀ {n m : Nat}, n ≤ m → mo_fb C A s f n = true → mo_fb C A s f m = true
  | n, 0, h, k => by rw [show n = 0 by omega] at k; exact k
  | n, m + 1, h, k => by
    by_cases e : n = m + 1
    · rw [e] at k; exact k
    · rw [mo_fb, Bool.or_eq_true]
      exact Or.inl (mo_fb_m (show n ≤ m by omega) k)
theorem mo_fj_m {A : mj_M} {s f : Int} : ∀ {n m : Nat}, n ≤ m → mo_fj A s f n = true → mo_fj A s f m = true
  | n, 0, h, k => by rw [show n = 0 by omega] at k; exact k
  | n, m + 1, h, k => by
    by_cases e : n = m + 1
    · rw [e] at k; exact k
    · rw [mo_fj, Bool.or_eq_true]
      exact Or.inl (mo_fj_m (show n ≤ m by omega) k)
theorem mo_fj_0 {A : mj_M} {s f : Int} (h : ¬ (0 < f ∧ f + 1 < gI A 224 s)) : ∀ n : Nat, ¬ mo_fj A s f n = true
  | 0 => fun k => by cases k
  | n + 1 => fun k => by
    rw [mo_fj, Bool.or_eq_true, Bool.and_eq_true, decide_eq_true_iff] at k
    rcases k with k | k
    · exact mo_fj_0 h n k
    · exact h k.1
section CLSF
variable {G : mj_G} {A : mj_M}
theorem ct_frameHangsOn {s f d : Int} (hx : CX A) (hsk : SK A) (hg : mo_rg A) (hs : 0 ≤ s ∧ s < gI A 200 23) (hf : 0 ≤ f ∧ f < gI A 224 s) (hd : 0 ≤ d ∧ d < gI A 200 3) : mj_Cal G n_H_frameHangsOn [mR (some 100), mR (some (4000 + 100 * s)), mI f, mI d] A (fun r A' => r = some (mI (if mo_hn A s f d 4 = true then 1 else 0)) ∧ A' = A) mj_no := by
  refine mj_bodyK 0 0 [some (mR (some 100)), some (mR (some (4000 + 100 * s))), some (mI f), some (mI d), none, none] rfl rfl rfl (by decide +kernel) (Nat.le_of_ble_eq_true rfl) (by simp) rfl ?_
  have hH := hx.H
  have hnd := hg.nd
  have hxn := hx.n
  have hfr := hg.fr s hs.1 hs.2
  have hD := hx.D
  rw [hx.n] at hD
  have hl : ∀ q : Nat × Option mj_V, (q.1 ≤ 4 ∧ ¬ mo_hn A s f d q.1 = true) → mj_X G n_H_frameHangsOn (mj_Qm G n_H_frameHangsOn (fun r A' => r = some (mI (if mo_hn A s f d 4 = true then 1 else 0)) ∧ A' = A) mj_no) A 0 0 3 [some (mR (some 100)), some (mR (some (4000 + 100 * s))), some (mI f), some (mI d), some (mI (q.1 : Int)), q.2] [] := by
    refine mj_loop _ (fun q => 5 - q.1) _ ?_
    intro ⟨n, l5⟩ ⟨hn, hno⟩ ih
    replace hn : n ≤ 4 := hn
    replace hno : ¬ mo_hn A s f d n = true := hno
    have hha := mo_ha_r hg (l := n) (f := f) hs
    have hup : mo_hn A s f d (n + 1) = true → n < 4 → mo_hn A s f d 4 = true := fun h h4 => mo_hn_m (by omega) h
    have hup1 : mo_ha A s n f ≠ -1 → mo_on A (mo_ha A s n f) d = true → mo_hn A s f d (n + 1) = true := fun h1 h2 => by
      rw [mo_hn, Bool.or_eq_true, Bool.and_eq_true, decide_eq_true_iff]
      exact Or.inr ⟨h1, h2⟩
    have nx : ¬ (mo_ha A s n f ≠ -1 ∧ mo_on A (mo_ha A s n f) d = true) → n < 4 → ∀ l5, mj_X G n_H_frameHangsOn (mj_Qm G n_H_frameHangsOn (fun r A' => r = some (mI (if mo_hn A s f d 4 = true then 1 else 0)) ∧ A' = A) mj_no) A 0 0 3 [some (mR (some 100)), some (mR (some (4000 + 100 * s))), some (mI f), some (mI d), some (mI ((n : Int) + 1)), l5] [] := fun h h4 l5 => by
      have h9 := ih (n + 1, l5) ⟨by show n + 1 ≤ 4; omega, fun k => by
        rw [show mo_hn A s f d ((n + 1, l5) : Nat × Option mj_V).1 = mo_hn A s f d (n + 1) from rfl, mo_hn, Bool.or_eq_true, Bool.and_eq_true, decide_eq_true_iff] at k
        rcases k with k | k
        · exact hno k
        · exact h k⟩ (by show 5 - (n + 1) < 5 - n; omega)
      exact h9
    show mj_X G n_H_frameHangsOn _ A 0 0 3 [some (mR (some 100)), some (mR (some (4000 + 100 * s))), some (mI f), some (mI d), some (mI (n : Int)), l5] []
    refine mx_R fun hR => ?_
    refine mx_iload 4 d_H_frameHangsOn_3 rfl ?_
    refine mx_iconst d_H_frameHangsOn_5 ?_
    refine mx_icmp_ge 53 d_H_frameHangsOn_6 rfl (by first | assumption | exact hR _ _ | exact r32_mk (by omega) (by omega)) (by first | assumption | exact hR _ _ | exact r32_mk (by omega) (by omega)) (fun c_6 => ?_) (fun c_6 => ?_)
    · refine mx_iconst d_H_frameHangsOn_53 ?_
      refine mx_zret d_H_frameHangsOn_54 rfl (by first | exact Or.inl rfl | exact Or.inr rfl | omega) ?_
      exact ⟨by rw [if_neg (by rw [show 4 = n by omega]; exact hno)], rfl⟩
    · refine mx_aload_n 0 d_H_frameHangsOn_9 rfl rfl ?_
      refine mx_aload_n 1 d_H_frameHangsOn_10 rfl rfl ?_
      refine mx_iload 4 d_H_frameHangsOn_11 rfl ?_
      refine mx_iload_n 2 d_H_frameHangsOn_13 rfl rfl ?_
      refine mx_callV (kc := 0) (ks := 0) (N := n_H_drawingAt) (as := [_, _, _]) (ci := 6) d_H_frameHangsOn_14 s_H_286 ⟨Nat.le_of_ble_eq_true rfl, Nat.le_of_ble_eq_true rfl⟩ rfl (mj_wt_8 (Nat.le_of_ble_eq_true rfl)) (hH.o) ⟨_, rfl, rfl⟩ (ct_drawingAt hH hsk hg hs ⟨by omega, by omega⟩ hf) (fun r_14 A_14 h_14 => ?_) (fun E_14 A_x h_14 => ?_)
      rotate_left
      · exact h_14.elim
      obtain ⟨rfl, hA_14⟩ := h_14
      obtain rfl := hA_14.symm
      clear hA_14
      refine mx_R fun hR_1 => ?_
      have hha := hha ⟨by omega, by omega⟩ hf
      refine mx_istore 5 d_H_frameHangsOn_17 (Nat.le_of_ble_eq_true rfl) ?_
      refine mx_iload 5 d_H_frameHangsOn_19 rfl ?_
      refine mx_iconst d_H_frameHangsOn_21 ?_
      refine mx_icmp_eq 47 d_H_frameHangsOn_22 rfl (by first | assumption | exact hR_1 _ _ | exact hR _ _ | exact r32_mk (by omega) (by omega)) (by first | assumption | exact hR_1 _ _ | exact hR _ _ | exact r32_mk (by omega) (by omega)) (fun c_22 => ?_) (fun c_22 => ?_)
      · refine mx_iinc 4 d_H_frameHangsOn_47 rfl (Nat.le_of_ble_eq_true rfl) ?_
        refine mx_goto 3 d_H_frameHangsOn_50 rfl ?_
        first
        | exact nx (fun h => h.1 (by assumption)) (by omega) _
        | exact nx (fun h => hno2 h.2) (by omega) _
      · refine mx_iload 5 d_H_frameHangsOn_25 rfl ?_
        refine mx_iload_n 3 d_H_frameHangsOn_27 rfl rfl ?_
        refine mx_icmp_eq 45 d_H_frameHangsOn_28 rfl (by first | assumption | exact hR_1 _ _ | exact hR _ _ | exact r32_mk (by omega) (by omega)) (by first | assumption | exact hR_1 _ _ | exact hR _ _ | exact r32_mk (by omega) (by omega)) (fun c_28 => ?_) (fun c_28 => ?_)
        · refine mx_iconst d_H_frameHangsOn_45 ?_
          refine mx_zret d_H_frameHangsOn_46 rfl (by first | exact Or.inl rfl | exact Or.inr rfl | omega) ?_
          first
          | exact ⟨by rw [if_pos (hup (hup1 (by assumption) ((hb.mp (mj_if1 c_42)).2)) (by omega))], rfl⟩
          | (have hon : mo_on A (mo_ha A s n f) d = true := by
               rw [c_28]
               exact (hgs_1 hx.hp (by omega) (o := d) (k := d) hd.1 (by omega)).mpr (Or.inl rfl)
             exact ⟨by rw [if_pos (hup (hup1 (by assumption) hon) (by omega))], rfl⟩)
        · have hb := (hx.h (mo_ha A s n f) (by omega) (by omega)).2 d hd.1 (by omega)
          refine mx_aload_n 0 d_H_frameHangsOn_31 rfl rfl ?_
          refine mx_getPs 0 d_H_frameHangsOn_32 f_H_11 rfl rfl (hH.o) (hH.p0) ?_
          refine mx_iload 5 d_H_frameHangsOn_35 rfl ?_
          refine mx_aalds d_H_frameHangsOn_37 (hH.s0) (by decide) (by omega) (by omega) (hx.r _ (by omega) (by omega)) ?_
          refine mx_iload_n 3 d_H_frameHangsOn_38 rfl rfl ?_
          refine mx_callV (kc := 0) (ks := 0) (N := n_D_hangsOnNumber) (as := [_]) (ci := 0) d_H_frameHangsOn_39 s_H_368 ⟨Nat.le_of_ble_eq_true rfl, Nat.le_of_ble_eq_true rfl⟩ rfl (mj_wt_8 (Nat.le_of_ble_eq_true rfl)) (hD.o _ (by omega) (by omega)) ⟨_, rfl, rfl⟩ (ct_hangsOnNumber (hD.o _ (by omega) (by omega)) hd.1 (by omega)) (fun r_39 A_39 h_39 => ?_) (fun E_39 A_x h_39 => ?_)
          rotate_left
          · exact h_39.elim
          obtain ⟨rfl, hA_39⟩ := h_39
          obtain rfl := hA_39.symm
          clear hA_39
          refine mx_R fun hR_2 => ?_
          refine mx_if_eq 47 d_H_frameHangsOn_42 rfl (by first | assumption | exact hR_2 _ _ | exact hR_1 _ _ | exact hR _ _ | exact r32_mk (by omega) (by omega)) (fun c_42 => ?_) (fun c_42 => ?_)
          · have hno2 : ¬ mo_on A (mo_ha A s n f) d = true := fun h => mj_if0 c_42 (hb.mpr ⟨by assumption, h⟩)
            refine mx_R fun hR => ?_
            refine mx_iinc 4 d_H_frameHangsOn_47 rfl (Nat.le_of_ble_eq_true rfl) ?_
            refine mx_goto 3 d_H_frameHangsOn_50 rfl ?_
            exact nx (fun h => hno2 h.2) (by omega) _
          · refine mx_iconst d_H_frameHangsOn_45 ?_
            refine mx_zret d_H_frameHangsOn_46 rfl (by first | exact Or.inl rfl | exact Or.inr rfl | omega) ?_
            first
            | exact ⟨by rw [if_pos (hup (hup1 (by assumption) ((hb.mp (mj_if1 c_42)).2)) (by omega))], rfl⟩
            | (have hon : mo_on A (mo_ha A s n f) d = true := by
                 rw [c_28]
                 exact (hgs_1 hx.hp (by omega) (o := d) (k := d) hd.1 (by omega)).mpr (Or.inl rfl)
               exact ⟨by rw [if_pos (hup (hup1 (by assumption) hon) (by omega))], rfl⟩)
  refine mx_R fun hR => ?_
  refine mx_iconst d_H_frameHangsOn_0 ?_
  refine mx_istore 4 d_H_frameHangsOn_1 (Nat.le_of_ble_eq_true rfl) ?_
  exact hl (0, none) ⟨by show 0 ≤ 4; omega, fun h => by cases h⟩
theorem mo_an_b {A : mj_M} {d : Int} (hg : mo_rg A) : ∀ n : Nat, (n : Int) ≤ gI A 200 23 → 0 ≤ mj_sum (fun s => mj_sum (fun f => if mo_hn A s f d 4 = true then 1 else 0) (gI A 224 s).toNat) n ∧ mj_sum (fun s => mj_sum (fun f => if mo_hn A s f d 4 = true then 1 else 0) (gI A 224 s).toNat) n ≤ 24 * n := fun n hn => mj_sum_b n fun i i0 i1 => by
  have hfr := hg.fr i i0 (by omega)
  have h := mj_sum_b (f := fun f => if mo_hn A i f d 4 = true then (1 : Int) else 0) (b := 1) (gI A 224 i).toNat (fun j _ _ => by
    show 0 ≤ (if mo_hn A i j d 4 = true then (1 : Int) else 0) ∧ (if mo_hn A i j d 4 = true then (1 : Int) else 0) ≤ 1
    split <;> omega)
  show 0 ≤ mj_sum _ (gI A 224 i).toNat ∧ mj_sum _ (gI A 224 i).toNat ≤ 24
  omega
theorem ct_framesHangingOn {d : Int} (hx : CX A) (hsk : SK A) (hg : mo_rg A) (hd : 0 ≤ d ∧ d < gI A 200 3) : mj_Cal G n_H_framesHangingOn [mR (some 100), mI d] A (fun r A' => r = some (mI (mo_an A d)) ∧ A' = A) mj_no := by
  refine mj_bodyK 0 0 [some (mR (some 100)), some (mI d), none, none, none] rfl rfl rfl (by decide +kernel) (Nat.le_of_ble_eq_true rfl) (by simp) rfl ?_
  have hH := hx.H
  have hns := hg.ns
  have hS := hsk.S
  have hl : ∀ q : Nat × Option mj_V, (q.1 : Int) ≤ gI A 200 23 → mj_X G n_H_framesHangingOn (mj_Qm G n_H_framesHangingOn (fun r A' => r = some (mI (mo_an A d)) ∧ A' = A) mj_no) A 0 0 4 [some (mR (some 100)), some (mI d), some (mI (mj_sum (fun s => mj_sum (fun f => if mo_hn A s f d 4 = true then 1 else 0) (gI A 224 s).toNat) q.1)), some (mI (q.1 : Int)), q.2] [] := by
    refine mj_loop _ (fun q => 7 - q.1) _ ?_
    intro ⟨s, l4⟩ hsn ih
    replace hsn : (s : Int) ≤ gI A 200 23 := hsn
    have hfr := hg.fr s (by omega)
    have hfr0 := hsk.fr s (by omega)
    have hi : (s : Int) < gI A 200 23 → ∀ f : Nat, (f : Int) ≤ gI A 224 s → mj_X G n_H_framesHangingOn (mj_Qm G n_H_framesHangingOn (fun r A' => r = some (mI (mo_an A d)) ∧ A' = A) mj_no) A 0 0 15 [some (mR (some 100)), some (mI d), some (mI (mj_sum (fun s => mj_sum (fun f => if mo_hn A s f d 4 = true then 1 else 0) (gI A 224 s).toNat) s + mj_sum (fun f => if mo_hn A s f d 4 = true then (1 : Int) else 0) f)), some (mI (s : Int)), some (mI (f : Int))] [] := by
      intro hs1
      replace hfr := hfr hs1
      replace hfr0 := hfr0 hs1
      refine mj_loop _ (fun q => 25 - q) _ ?_
      intro f hf ih2
      have e9 : mj_sum (fun f => if mo_hn A s f d 4 = true then (1 : Int) else 0) (f + 1) = mj_sum (fun f => if mo_hn A s f d 4 = true then (1 : Int) else 0) f + (if mo_hn A s f d 4 = true then (1 : Int) else 0) := rfl
      refine mx_R fun hR => ?_
      refine mx_iload 4 d_H_framesHangingOn_15 rfl ?_
      refine mx_aload_n 0 d_H_framesHangingOn_17 rfl rfl ?_
      refine mx_getPs 5 d_H_framesHangingOn_18 f_H_21 rfl rfl (hH.o) (hH.p5) ?_
      refine mx_iload_n 3 d_H_framesHangingOn_21 rfl rfl ?_
      refine mx_aalds d_H_framesHangingOn_22 (hH.s5) (by decide) (by omega) (by omega) (hsk.r _ (by omega) hs1) ?_
      refine mx_getI 0 d_H_framesHangingOn_23 f_H_184 rfl rfl (hS.o _ (by omega) (by omega)) ?_
      rw [hfr0]
      refine mx_icmp_ge 54 d_H_framesHangingOn_26 rfl (by first | assumption | exact hR _ _ | exact r32_mk (by omega) (by omega)) (by first | assumption | exact hR _ _ | exact r32_mk (by omega) (by omega)) (fun c_26 => ?_) (fun c_26 => ?_)
      · refine mx_iinc 3 d_H_framesHangingOn_54 rfl (Nat.le_of_ble_eq_true rfl) ?_
        refine mx_goto 4 d_H_framesHangingOn_57 rfl ?_
        have h9 := ih (s + 1, some (mI (f : Int))) (by show ((s + 1 : Nat) : Int) ≤ _; omega) (by show 7 - (s + 1) < 7 - s; omega)
        replace h9 : mj_X G n_H_framesHangingOn (mj_Qm G n_H_framesHangingOn (fun r A' => r = some (mI (mo_an A d)) ∧ A' = A) mj_no) A 0 0 4 [some (mR (some 100)), some (mI d), some (mI (mj_sum (fun s => mj_sum (fun f => if mo_hn A s f d 4 = true then 1 else 0) (gI A 224 s).toNat) s + mj_sum (fun f => if mo_hn A s f d 4 = true then (1 : Int) else 0) (gI A 224 s).toNat)), some (mI ((s + 1 : Nat) : Int)), some (mI (f : Int))] [] := h9
        rw [show ((s + 1 : Nat) : Int) = (s : Int) + 1 by omega, show (gI A 224 s).toNat = f by omega] at h9
        exact h9
      · refine mx_aload_n 0 d_H_framesHangingOn_29 rfl rfl ?_
        refine mx_aload_n 0 d_H_framesHangingOn_30 rfl rfl ?_
        refine mx_getPs 5 d_H_framesHangingOn_31 f_H_21 rfl rfl (hH.o) (hH.p5) ?_
        refine mx_iload_n 3 d_H_framesHangingOn_34 rfl rfl ?_
        refine mx_aalds d_H_framesHangingOn_35 (hH.s5) (by decide) (by omega) (by omega) (hsk.r _ (by omega) hs1) ?_
        refine mx_iload 4 d_H_framesHangingOn_36 rfl ?_
        refine mx_iload_n 1 d_H_framesHangingOn_38 rfl rfl ?_
        refine mx_callV (kc := 0) (ks := 0) (N := n_H_frameHangsOn) (as := [_, _, _]) (ci := 6) d_H_framesHangingOn_39 s_H_304 ⟨Nat.le_of_ble_eq_true rfl, Nat.le_of_ble_eq_true rfl⟩ rfl (mj_wt_8 (Nat.le_of_ble_eq_true rfl)) (hH.o) ⟨_, rfl, rfl⟩ (ct_frameHangsOn hx hsk hg ⟨by omega, hs1⟩ ⟨by omega, by omega⟩ hd) (fun r_39 A_39 h_39 => ?_) (fun E_39 A_x h_39 => ?_)
        rotate_left
        · exact h_39.elim
        obtain ⟨rfl, hA_39⟩ := h_39
        obtain rfl := hA_39.symm
        clear hA_39
        refine mx_R fun hR_1 => ?_
        refine mx_if_eq 48 d_H_framesHangingOn_42 rfl (by first | assumption | exact hR_1 _ _ | exact hR _ _ | exact r32_mk (by omega) (by omega)) (fun c_42 => ?_) (fun c_42 => ?_)
        · refine mx_iinc 4 d_H_framesHangingOn_48 rfl (Nat.le_of_ble_eq_true rfl) ?_
          refine mx_goto 15 d_H_framesHangingOn_51 rfl ?_
          have h9 := ih2 (f + 1) (by omega) (by omega)
          rw [show ((f + 1 : Nat) : Int) = (f : Int) + 1 by omega, e9] at h9
          first
            | (rw [if_neg (mj_if0 c_42), Int.add_zero] at h9
               exact h9)
            | (rw [if_pos (mj_if1 c_42), ← Int.add_assoc] at h9
               exact h9)
        · refine mx_iinc 2 d_H_framesHangingOn_45 rfl (Nat.le_of_ble_eq_true rfl) ?_
          refine mx_iinc 4 d_H_framesHangingOn_48 rfl (Nat.le_of_ble_eq_true rfl) ?_
          refine mx_goto 15 d_H_framesHangingOn_51 rfl ?_
          have h9 := ih2 (f + 1) (by omega) (by omega)
          rw [show ((f + 1 : Nat) : Int) = (f : Int) + 1 by omega, e9] at h9
          first
            | (rw [if_neg (mj_if0 c_42), Int.add_zero] at h9
               exact h9)
            | (rw [if_pos (mj_if1 c_42), ← Int.add_assoc] at h9
               exact h9)
    show mj_X G n_H_framesHangingOn (mj_Qm G n_H_framesHangingOn (fun r A' => r = some (mI (mo_an A d)) ∧ A' = A) mj_no) A 0 0 4 [some (mR (some 100)), some (mI d), some (mI (mj_sum (fun s => mj_sum (fun f => if mo_hn A s f d 4 = true then 1 else 0) (gI A 224 s).toNat) s)), some (mI (s : Int)), l4] []
    refine mx_R fun hR => ?_
    refine mx_iload_n 3 d_H_framesHangingOn_4 rfl rfl ?_
    refine mx_aload_n 0 d_H_framesHangingOn_5 rfl rfl ?_
    refine mx_getI 6 d_H_framesHangingOn_6 f_H_166 rfl rfl (hH.o) ?_
    rw [hsk.n]
    refine mx_icmp_ge 60 d_H_framesHangingOn_9 rfl (by first | assumption | exact hR _ _ | exact r32_mk (by omega) (by omega)) (by first | assumption | exact hR _ _ | exact r32_mk (by omega) (by omega)) (fun c_9 => ?_) (fun c_9 => ?_)
    · refine mx_iload_n 2 d_H_framesHangingOn_60 rfl rfl ?_
      refine mx_iret d_H_framesHangingOn_61 rfl ?_
      refine ⟨?_, rfl⟩
      unfold mo_an
      rw [show (gI A 200 23).toNat = s by omega]
    · refine mx_iconst d_H_framesHangingOn_12 ?_
      refine mx_istore 4 d_H_framesHangingOn_13 (Nat.le_of_ble_eq_true rfl) ?_
      have h9 := hi (by omega) 0 (by omega)
      rw [show mj_sum (fun f => if mo_hn A s f d 4 = true then (1 : Int) else 0) 0 = 0 from rfl, Int.add_zero] at h9
      exact h9
  refine mx_R fun hR => ?_
  refine mx_iconst d_H_framesHangingOn_0 ?_
  refine mx_istore_n 2 d_H_framesHangingOn_1 rfl (Nat.le_of_ble_eq_true rfl) ?_
  refine mx_iconst d_H_framesHangingOn_2 ?_
  refine mx_istore_n 3 d_H_framesHangingOn_3 rfl (Nat.le_of_ble_eq_true rfl) ?_
  exact hl (0, none) (by show ((0 : Nat) : Int) ≤ _; omega)
theorem ct_hasEmpty {C : Int → cT} {s f : Int} (hj : JJ C A) (hs : 0 ≤ s ∧ s < gI A 200 23) (hf : 0 ≤ f ∧ f < gI A 224 s) : mj_Cal G n_H_hasEmptyDrawing [mR (some 100), mR (some (4000 + 100 * s)), mI f] A (fun r A' => r = some (mI (if mo_fb C A s f 4 = true then 1 else 0)) ∧ A' = A) mj_no := by
  refine mj_bodyK 0 0 [some (mR (some 100)), some (mR (some (4000 + 100 * s))), some (mI f), none, none] rfl rfl rfl (by decide +kernel) (Nat.le_of_ble_eq_true rfl) (by simp) rfl ?_
  have hH := hj.x.H
  have hnd := hj.m.g.nd
  have hxn := hj.x.n
  have hfr := hj.m.g.fr s hs.1 hs.2
  have hD := hj.D
  have hl : ∀ q : Nat × Option mj_V, (q.1 ≤ 4 ∧ ¬ mo_fb C A s f q.1 = true) → mj_X G n_H_hasEmptyDrawing (mj_Qm G n_H_hasEmptyDrawing (fun r A' => r = some (mI (if mo_fb C A s f 4 = true then 1 else 0)) ∧ A' = A) mj_no) A 0 0 2 [some (mR (some 100)), some (mR (some (4000 + 100 * s))), some (mI f), some (mI (q.1 : Int)), q.2] [] := by
    refine mj_loop _ (fun q => 5 - q.1) _ ?_
    intro ⟨n, l4⟩ ⟨hn, hno⟩ ih
    replace hn : n ≤ 4 := hn
    replace hno : ¬ mo_fb C A s f n = true := hno
    have hha := mo_ha_r hj.m.g (l := n) (f := f) hs
    have nx : ¬ (mo_ha A s n f ≠ -1 ∧ c_n (C (mo_ha A s n f)) = 0) → n < 4 → ∀ l4, mj_X G n_H_hasEmptyDrawing (mj_Qm G n_H_hasEmptyDrawing (fun r A' => r = some (mI (if mo_fb C A s f 4 = true then 1 else 0)) ∧ A' = A) mj_no) A 0 0 2 [some (mR (some 100)), some (mR (some (4000 + 100 * s))), some (mI f), some (mI ((n : Int) + 1)), l4] [] := fun h h4 l4 => by
      have h9 := ih (n + 1, l4) ⟨by show n + 1 ≤ 4; omega, fun k => by
        rw [show mo_fb C A s f ((n + 1, l4) : Nat × Option mj_V).1 = mo_fb C A s f (n + 1) from rfl, mo_fb, Bool.or_eq_true, Bool.and_eq_true, decide_eq_true_iff, decide_eq_true_iff] at k
        rcases k with k | k
        · exact hno k
        · exact h k⟩ (by show 5 - (n + 1) < 5 - n; omega)
      exact h9
    show mj_X G n_H_hasEmptyDrawing _ A 0 0 2 [some (mR (some 100)), some (mR (some (4000 + 100 * s))), some (mI f), some (mI (n : Int)), l4] []
    refine mx_R fun hR => ?_
    refine mx_iload_n 3 d_H_hasEmptyDrawing_2 rfl rfl ?_
    refine mx_iconst d_H_hasEmptyDrawing_3 ?_
    refine mx_icmp_ge 43 d_H_hasEmptyDrawing_4 rfl (by first | assumption | exact hR _ _ | exact r32_mk (by omega) (by omega)) (by first | assumption | exact hR _ _ | exact r32_mk (by omega) (by omega)) (fun c_4 => ?_) (fun c_4 => ?_)
    · refine mx_iconst d_H_hasEmptyDrawing_43 ?_
      refine mx_zret d_H_hasEmptyDrawing_44 rfl (by first | exact Or.inl rfl | exact Or.inr rfl | omega) ?_
      exact ⟨by rw [if_neg (by rw [show 4 = n by omega]; exact hno)], rfl⟩
    · refine mx_aload_n 0 d_H_hasEmptyDrawing_7 rfl rfl ?_
      refine mx_aload_n 1 d_H_hasEmptyDrawing_8 rfl rfl ?_
      refine mx_iload_n 3 d_H_hasEmptyDrawing_9 rfl rfl ?_
      refine mx_iload_n 2 d_H_hasEmptyDrawing_10 rfl rfl ?_
      refine mx_callV (kc := 0) (ks := 0) (N := n_H_drawingAt) (as := [_, _, _]) (ci := 6) d_H_hasEmptyDrawing_11 s_H_286 ⟨Nat.le_of_ble_eq_true rfl, Nat.le_of_ble_eq_true rfl⟩ rfl (mj_wt_8 (Nat.le_of_ble_eq_true rfl)) (hH.o) ⟨_, rfl, rfl⟩ (ct_drawingAt hH hj.s hj.m.g hs ⟨by omega, by omega⟩ hf) (fun r_11 A_11 h_11 => ?_) (fun E_11 A_x h_11 => ?_)
      rotate_left
      · exact h_11.elim
      obtain ⟨rfl, hA_11⟩ := h_11
      obtain rfl := hA_11.symm
      clear hA_11
      refine mx_R fun hR_1 => ?_
      have hha := hha ⟨by omega, by omega⟩ hf
      refine mx_istore 4 d_H_hasEmptyDrawing_14 (Nat.le_of_ble_eq_true rfl) ?_
      refine mx_iload 4 d_H_hasEmptyDrawing_16 rfl ?_
      refine mx_iconst d_H_hasEmptyDrawing_18 ?_
      refine mx_icmp_eq 37 d_H_hasEmptyDrawing_19 rfl (by first | assumption | exact hR_1 _ _ | exact hR _ _ | exact r32_mk (by omega) (by omega)) (by first | assumption | exact hR_1 _ _ | exact hR _ _ | exact r32_mk (by omega) (by omega)) (fun c_19 => ?_) (fun c_19 => ?_)
      · refine mx_iinc 3 d_H_hasEmptyDrawing_37 rfl (Nat.le_of_ble_eq_true rfl) ?_
        refine mx_goto 2 d_H_hasEmptyDrawing_40 rfl ?_
        first
        | exact nx (fun h => h.1 (by assumption)) (by omega) _
        | exact nx (fun h => (by assumption : ¬ c_n (C (mo_ha A s n f)) = 0) h.2) (by omega) _
      · refine mx_aload_n 0 d_H_hasEmptyDrawing_22 rfl rfl ?_
        refine mx_getPs 0 d_H_hasEmptyDrawing_23 f_H_11 rfl rfl (hH.o) (hH.p0) ?_
        refine mx_iload 4 d_H_hasEmptyDrawing_26 rfl ?_
        refine mx_aalds d_H_hasEmptyDrawing_28 (hH.s0) (by decide) (by omega) (by omega) (hj.x.r _ (by omega) (by omega)) ?_
        refine mx_getI 6 d_H_hasEmptyDrawing_29 f_H_124 rfl rfl (hD.o _ (by omega) (by omega)) ?_
        rw [show gI A (1000 + 100 * mo_ha A s n f) 6 = c_n (C (mo_ha A s n f)) from (hj.h.e _ (by omega) (by omega)).n.symm]
        refine mx_if_ne 37 d_H_hasEmptyDrawing_32 rfl (by have h9 := (hj.m.cr (mo_ha A s n f) (by omega) (by omega)).n; exact r32_mk (by omega) (by omega)) (fun c_32 => ?_) (fun c_32 => ?_)
        · refine mx_iinc 3 d_H_hasEmptyDrawing_37 rfl (Nat.le_of_ble_eq_true rfl) ?_
          refine mx_goto 2 d_H_hasEmptyDrawing_40 rfl ?_
          first
          | exact nx (fun h => h.1 (by assumption)) (by omega) _
          | exact nx (fun h => (by assumption : ¬ c_n (C (mo_ha A s n f)) = 0) h.2) (by omega) _
        · refine mx_iconst d_H_hasEmptyDrawing_35 ?_
          refine mx_zret d_H_hasEmptyDrawing_36 rfl (by first | exact Or.inl rfl | exact Or.inr rfl | omega) ?_
          refine ⟨congrArg (fun z => some (mI z)) (if_pos (mo_fb_m (show n + 1 ≤ 4 by omega) ?_)).symm, rfl⟩
          rw [mo_fb, Bool.or_eq_true, Bool.and_eq_true, decide_eq_true_iff, decide_eq_true_iff]
          exact Or.inr ⟨by assumption, by assumption⟩
  refine mx_R fun hR => ?_
  refine mx_iconst d_H_hasEmptyDrawing_0 ?_
  refine mx_istore_n 3 d_H_hasEmptyDrawing_1 rfl (Nat.le_of_ble_eq_true rfl) ?_
  exact hl (0, none) ⟨by show 0 ≤ 4; omega, fun h => by cases h⟩
theorem ct_hasFlash {C : Int → cT} {s f : Int} (hj : JJ C A) (hs : 0 ≤ s ∧ s < gI A 200 23) (hf : 0 ≤ f ∧ f < gI A 224 s) : mj_Cal G n_H_hasFlash [mR (some 100), mR (some (4000 + 100 * s)), mI f] A (fun r A' => r = some (mI (if mo_fj A s f 4 = true then 1 else 0)) ∧ A' = A) mj_no := by
  refine mj_bodyK 0 0 [some (mR (some 100)), some (mR (some (4000 + 100 * s))), some (mI f), none, none] rfl rfl rfl (by decide +kernel) (Nat.le_of_ble_eq_true rfl) (by simp) rfl ?_
  have hH := hj.x.H
  have hnd := hj.m.g.nd
  have hfr := hj.m.g.fr s hs.1 hs.2
  have hfr0 := hj.s.fr s hs.1 hs.2
  have hS := hj.s.S
  have hl : (0 < f ∧ f + 1 < gI A 224 s) → ∀ q : Nat × Option mj_V, (q.1 ≤ 4 ∧ ¬ mo_fj A s f q.1 = true) → mj_X G n_H_hasFlash (mj_Qm G n_H_hasFlash (fun r A' => r = some (mI (if mo_fj A s f 4 = true then 1 else 0)) ∧ A' = A) mj_no) A 0 0 18 [some (mR (some 100)), some (mR (some (4000 + 100 * s))), some (mI f), some (mI (q.1 : Int)), q.2] [] := by
    intro hff
    refine mj_loop _ (fun q => 5 - q.1) _ ?_
    intro ⟨n, l4⟩ ⟨hn, hno⟩ ih
    replace hn : n ≤ 4 := hn
    replace hno : ¬ mo_fj A s f n = true := hno
    have hha := mo_ha_r hj.m.g (l := n) (f := f) hs
    have hha1 := mo_ha_r hj.m.g (l := n) (f := f - 1) hs
    have hha2 := mo_ha_r hj.m.g (l := n) (f := f + 1) hs
    have nx : ¬ (mo_ha A s n (f - 1) ≠ -1 ∧ mo_ha A s n (f - 1) = mo_ha A s n (f + 1) ∧ mo_ha A s n f ≠ mo_ha A s n (f - 1)) → n < 4 → ∀ l4, mj_X G n_H_hasFlash (mj_Qm G n_H_hasFlash (fun r A' => r = some (mI (if mo_fj A s f 4 = true then 1 else 0)) ∧ A' = A) mj_no) A 0 0 18 [some (mR (some 100)), some (mR (some (4000 + 100 * s))), some (mI f), some (mI ((n : Int) + 1)), l4] [] := fun h h4 l4 => by
      have h9 := ih (n + 1, l4) ⟨by show n + 1 ≤ 4; omega, fun k => by
        rw [show mo_fj A s f ((n + 1, l4) : Nat × Option mj_V).1 = mo_fj A s f (n + 1) from rfl, mo_fj, Bool.or_eq_true, Bool.and_eq_true, decide_eq_true_iff, decide_eq_true_iff] at k
        rcases k with k | k
        · exact hno k
        · exact h k.2⟩ (by show 5 - (n + 1) < 5 - n; omega)
      exact h9
    show mj_X G n_H_hasFlash _ A 0 0 18 [some (mR (some 100)), some (mR (some (4000 + 100 * s))), some (mI f), some (mI (n : Int)), l4] []
    refine mx_R fun hR => ?_
    refine mx_iload_n 3 d_H_hasFlash_18 rfl rfl ?_
    refine mx_iconst d_H_hasFlash_19 ?_
    refine mx_icmp_ge 74 d_H_hasFlash_20 rfl (by first | assumption | exact hR _ _ | exact r32_mk (by omega) (by omega)) (by first | assumption | exact hR _ _ | exact r32_mk (by omega) (by omega)) (fun c_20 => ?_) (fun c_20 => ?_)
    · refine mx_iconst d_H_hasFlash_74 ?_
      refine mx_zret d_H_hasFlash_75 rfl (by first | exact Or.inl rfl | exact Or.inr rfl | omega) ?_
      exact ⟨by rw [if_neg (by rw [show 4 = n by omega]; exact hno)], rfl⟩
    · refine mx_aload_n 0 d_H_hasFlash_23 rfl rfl ?_
      refine mx_aload_n 1 d_H_hasFlash_24 rfl rfl ?_
      refine mx_iload_n 3 d_H_hasFlash_25 rfl rfl ?_
      refine mx_iload_n 2 d_H_hasFlash_26 rfl rfl ?_
      refine mx_iconst d_H_hasFlash_27 ?_
      refine mx_isub d_H_hasFlash_28 ?_
      refine mx_callV (kc := 0) (ks := 0) (N := n_H_drawingAt) (as := [_, _, _]) (ci := 6) d_H_hasFlash_29 s_H_286 ⟨Nat.le_of_ble_eq_true rfl, Nat.le_of_ble_eq_true rfl⟩ rfl (mj_wt_8 (Nat.le_of_ble_eq_true rfl)) (hH.o) ⟨_, rfl, rfl⟩ (ct_drawingAt hH hj.s hj.m.g hs ⟨by omega, by omega⟩ ⟨by omega, by omega⟩) (fun r_29 A_29 h_29 => ?_) (fun E_29 A_x h_29 => ?_)
      rotate_left
      · exact h_29.elim
      obtain ⟨rfl, hA_29⟩ := h_29
      obtain rfl := hA_29.symm
      clear hA_29
      refine mx_R fun hR_1 => ?_
      have hha := hha ⟨by omega, by omega⟩ hf
      have hha1 := hha1 ⟨by omega, by omega⟩ ⟨by omega, by omega⟩
      have hha2 := hha2 ⟨by omega, by omega⟩ ⟨by omega, by omega⟩
      refine mx_istore 4 d_H_hasFlash_32 (Nat.le_of_ble_eq_true rfl) ?_
      refine mx_iload 4 d_H_hasFlash_34 rfl ?_
      refine mx_iconst d_H_hasFlash_36 ?_
      refine mx_icmp_eq 68 d_H_hasFlash_37 rfl (by first | assumption | exact hR_1 _ _ | exact hR _ _ | exact r32_mk (by omega) (by omega)) (by first | assumption | exact hR_1 _ _ | exact hR _ _ | exact r32_mk (by omega) (by omega)) (fun c_37 => ?_) (fun c_37 => ?_)
      · refine mx_iinc 3 d_H_hasFlash_68 rfl (Nat.le_of_ble_eq_true rfl) ?_
        refine mx_goto 18 d_H_hasFlash_71 rfl ?_
        exact nx (by omega) (by omega) _
      · refine mx_iload 4 d_H_hasFlash_40 rfl ?_
        refine mx_aload_n 0 d_H_hasFlash_42 rfl rfl ?_
        refine mx_aload_n 1 d_H_hasFlash_43 rfl rfl ?_
        refine mx_iload_n 3 d_H_hasFlash_44 rfl rfl ?_
        refine mx_iload_n 2 d_H_hasFlash_45 rfl rfl ?_
        refine mx_iconst d_H_hasFlash_46 ?_
        refine mx_iadd d_H_hasFlash_47 ?_
        refine mx_callV (kc := 0) (ks := 0) (N := n_H_drawingAt) (as := [_, _, _]) (ci := 6) d_H_hasFlash_48 s_H_286 ⟨Nat.le_of_ble_eq_true rfl, Nat.le_of_ble_eq_true rfl⟩ rfl (mj_wt_8 (Nat.le_of_ble_eq_true rfl)) (hH.o) ⟨_, rfl, rfl⟩ (ct_drawingAt hH hj.s hj.m.g hs ⟨by omega, by omega⟩ ⟨by omega, by omega⟩) (fun r_48 A_48 h_48 => ?_) (fun E_48 A_x h_48 => ?_)
        rotate_left
        · exact h_48.elim
        obtain ⟨rfl, hA_48⟩ := h_48
        obtain rfl := hA_48.symm
        clear hA_48
        refine mx_R fun hR_2 => ?_
        refine mx_icmp_ne 68 d_H_hasFlash_51 rfl (by first | assumption | exact hR_2 _ _ | exact hR_1 _ _ | exact hR _ _ | exact r32_mk (by omega) (by omega)) (by first | assumption | exact hR_2 _ _ | exact hR_1 _ _ | exact hR _ _ | exact r32_mk (by omega) (by omega)) (fun c_51 => ?_) (fun c_51 => ?_)
        · refine mx_iinc 3 d_H_hasFlash_68 rfl (Nat.le_of_ble_eq_true rfl) ?_
          refine mx_goto 18 d_H_hasFlash_71 rfl ?_
          exact nx (by omega) (by omega) _
        · refine mx_iload 4 d_H_hasFlash_54 rfl ?_
          refine mx_aload_n 0 d_H_hasFlash_56 rfl rfl ?_
          refine mx_aload_n 1 d_H_hasFlash_57 rfl rfl ?_
          refine mx_iload_n 3 d_H_hasFlash_58 rfl rfl ?_
          refine mx_iload_n 2 d_H_hasFlash_59 rfl rfl ?_
          refine mx_callV (kc := 0) (ks := 0) (N := n_H_drawingAt) (as := [_, _, _]) (ci := 6) d_H_hasFlash_60 s_H_286 ⟨Nat.le_of_ble_eq_true rfl, Nat.le_of_ble_eq_true rfl⟩ rfl (mj_wt_8 (Nat.le_of_ble_eq_true rfl)) (hH.o) ⟨_, rfl, rfl⟩ (ct_drawingAt hH hj.s hj.m.g hs ⟨by omega, by omega⟩ hf) (fun r_60 A_60 h_60 => ?_) (fun E_60 A_x h_60 => ?_)
          rotate_left
          · exact h_60.elim
          obtain ⟨rfl, hA_60⟩ := h_60
          obtain rfl := hA_60.symm
          clear hA_60
          refine mx_R fun hR_3 => ?_
          refine mx_icmp_eq 68 d_H_hasFlash_63 rfl (by first | assumption | exact hR_3 _ _ | exact hR_2 _ _ | exact hR_1 _ _ | exact hR _ _ | exact r32_mk (by omega) (by omega)) (by first | assumption | exact hR_3 _ _ | exact hR_2 _ _ | exact hR_1 _ _ | exact hR _ _ | exact r32_mk (by omega) (by omega)) (fun c_63 => ?_) (fun c_63 => ?_)
          · refine mx_iinc 3 d_H_hasFlash_68 rfl (Nat.le_of_ble_eq_true rfl) ?_
            refine mx_goto 18 d_H_hasFlash_71 rfl ?_
            exact nx (by omega) (by omega) _
          · refine mx_iconst d_H_hasFlash_66 ?_
            refine mx_zret d_H_hasFlash_67 rfl (by first | exact Or.inl rfl | exact Or.inr rfl | omega) ?_
            refine ⟨congrArg (fun z => some (mI z)) (if_pos (mo_fj_m (show n + 1 ≤ 4 by omega) ?_)).symm, rfl⟩
            rw [mo_fj, Bool.or_eq_true, Bool.and_eq_true, decide_eq_true_iff, decide_eq_true_iff]
            exact Or.inr ⟨hff, by omega⟩
  refine mx_R fun hR => ?_
  refine mx_iload_n 2 d_H_hasFlash_0 rfl rfl ?_
  refine mx_if_eq 14 d_H_hasFlash_1 rfl (by first | assumption | exact hR _ _ | exact r32_mk (by omega) (by omega)) (fun c_1 => ?_) (fun c_1 => ?_)
  · refine mx_iconst d_H_hasFlash_14 ?_
    refine mx_zret d_H_hasFlash_15 rfl (by first | exact Or.inl rfl | exact Or.inr rfl | omega) ?_
    exact ⟨by rw [if_neg (mo_fj_0 (by omega) 4)], rfl⟩
  · refine mx_iload_n 2 d_H_hasFlash_4 rfl rfl ?_
    refine mx_aload_n 1 d_H_hasFlash_5 rfl rfl ?_
    refine mx_getI 0 d_H_hasFlash_6 f_H_184 rfl rfl (hS.o _ (by omega) (by omega)) ?_
    rw [hfr0]
    refine mx_iconst d_H_hasFlash_9 ?_
    refine mx_isub d_H_hasFlash_10 ?_
    refine mx_icmp_ne 16 d_H_hasFlash_11 rfl (by first | assumption | exact hR _ _ | exact r32_mk (by omega) (by omega)) (by first | assumption | exact hR _ _ | exact r32_mk (by omega) (by omega)) (fun c_11 => ?_) (fun c_11 => ?_)
    · refine mx_iconst d_H_hasFlash_16 ?_
      refine mx_istore_n 3 d_H_hasFlash_17 rfl (Nat.le_of_ble_eq_true rfl) ?_
      exact hl (by omega) (0, none) ⟨by show 0 ≤ 4; omega, fun h => by cases h⟩
    · refine mx_iconst d_H_hasFlash_14 ?_
      refine mx_zret d_H_hasFlash_15 rfl (by first | exact Or.inl rfl | exact Or.inr rfl | omega) ?_
      exact ⟨by rw [if_neg (mo_fj_0 (by omega) 4)], rfl⟩
theorem ct_isComposedEmpty (hH : HS A) : mj_Cal G n_H_isComposedEmpty [mR (some 100)] A (fun r A' => r = some (mI (if mj_all (fun p => decide (gI A 115 p = 0)) 192 = true then 1 else 0)) ∧ A' = A) mj_no := by
  refine mj_bodyK 0 0 [some (mR (some 100)), none] rfl rfl rfl (by decide +kernel) (Nat.le_of_ble_eq_true rfl) (by simp) rfl ?_
  have hl : ∀ i : Int, ((0 ≤ i ∧ i ≤ 192) ∧ ∀ p, 0 ≤ p → p < i → gI A 115 p = 0) → mj_X G n_H_isComposedEmpty (mj_Qm G n_H_isComposedEmpty (fun r A' => r = some (mI (if mj_all (fun p => decide (gI A 115 p = 0)) 192 = true then 1 else 0)) ∧ A' = A) mj_no) A 0 0 2 [some (mR (some 100)), some (mI i)] [] := by
    refine mj_loop _ (fun i => (193 - i).toNat) _ ?_
    intro i ⟨hi, hp⟩ ih
    refine mx_R fun hR => ?_
    refine mx_iload_n 1 d_H_isComposedEmpty_2 rfl rfl ?_
    refine mx_sipush d_H_isComposedEmpty_3 (by decide) ?_
    refine mx_icmp_ge 26 d_H_isComposedEmpty_6 rfl (by first | assumption | exact hR _ _ | exact r32_mk (by omega) (by omega)) (by first | assumption | exact hR _ _ | exact r32_mk (by omega) (by omega)) (fun c_6 => ?_) (fun c_6 => ?_)
    · refine mx_iconst d_H_isComposedEmpty_26 ?_
      refine mx_zret d_H_isComposedEmpty_27 rfl (by first | exact Or.inl rfl | exact Or.inr rfl | omega) ?_
      refine ⟨congrArg (fun z => some (mI z)) (if_pos ?_).symm, rfl⟩
      refine (mj_all_iff 192).mpr fun p p0 p1 => ?_
      rw [decide_eq_true_iff]
      exact hp p p0 (by omega)
    · refine mx_aload_n 0 d_H_isComposedEmpty_9 rfl rfl ?_
      refine mx_getPs 14 d_H_isComposedEmpty_10 f_H_49 rfl rfl (hH.o) (hH.p14) ?_
      refine mx_iload_n 1 d_H_isComposedEmpty_13 rfl rfl ?_
      refine mx_iald d_H_isComposedEmpty_14 (hH.s14) (by omega) (by omega) ?_
      refine mx_if_eq 20 d_H_isComposedEmpty_15 rfl (by first | assumption | exact hR _ _ | exact r32_mk (by omega) (by omega)) (fun c_15 => ?_) (fun c_15 => ?_)
      · refine mx_iinc 1 d_H_isComposedEmpty_20 rfl (Nat.le_of_ble_eq_true rfl) ?_
        refine mx_goto 2 d_H_isComposedEmpty_23 rfl ?_
        refine ih (i + 1) ⟨by omega, fun p p0 p1 => ?_⟩ (by omega)
        by_cases e : p = i
        · rw [e]; assumption
        · exact hp p p0 (by omega)
      · refine mx_iconst d_H_isComposedEmpty_18 ?_
        refine mx_zret d_H_isComposedEmpty_19 rfl (by first | exact Or.inl rfl | exact Or.inr rfl | omega) ?_
        refine ⟨congrArg (fun z => some (mI z)) (if_neg ?_).symm, rfl⟩
        intro h
        have h9 := (mj_all_iff 192).mp h i hi.1 (by omega)
        rw [decide_eq_true_iff] at h9
        omega
  refine mx_R fun hR => ?_
  refine mx_iconst d_H_isComposedEmpty_0 ?_
  refine mx_istore_n 1 d_H_isComposedEmpty_1 rfl (Nat.le_of_ble_eq_true rfl) ?_
  exact hl 0 ⟨by omega, fun p p0 p1 => by omega⟩
theorem ct_firstFree (hH : HS A) (hn : 1 ≤ gI A 100 11 ∧ gI A 100 11 ≤ 4) (hr : ∀ i, 0 ≤ i → i < gI A 100 11 → 0 ≤ gI A 118 i ∧ gI A 118 i ≤ 1000) : mj_Cal G n_H_firstFree [mR (some 100)] A (fun r A' => r = some (mI (hb (gI A 118) (gI A 100 11 - 1).toNat)) ∧ A' = A) mj_no := by
  refine mj_bodyK 0 0 [some (mR (some 100)), none, none] rfl rfl rfl (by decide +kernel) (Nat.le_of_ble_eq_true rfl) (by simp) rfl ?_
  have hl : ∀ q : Nat, (q : Int) + 1 ≤ gI A 100 11 → mj_X G n_H_firstFree (mj_Qm G n_H_firstFree (fun r A' => r = some (mI (hb (gI A 118) (gI A 100 11 - 1).toNat)) ∧ A' = A) mj_no) A 0 0 4 [some (mR (some 100)), some (mI (hb (gI A 118) q)), some (mI ((q : Int) + 1))] [] := by
    refine mj_loop _ (fun q => 5 - q) _ ?_
    intro q hq ih
    have hbr := hb_r (b := gI A 118) q
    have g1 := hr (hb (gI A 118) q) (by omega) (by omega)
    refine mx_R fun hR => ?_
    refine mx_iload_n 2 d_H_firstFree_4 rfl rfl ?_
    refine mx_aload_n 0 d_H_firstFree_5 rfl rfl ?_
    refine mx_getI 11 d_H_firstFree_6 f_H_254 rfl rfl (hH.o) ?_
    refine mx_icmp_ge 35 d_H_firstFree_9 rfl (by first | assumption | exact hR _ _ | exact r32_mk (by omega) (by omega)) (by first | assumption | exact hR _ _ | exact r32_mk (by omega) (by omega)) (fun c_9 => ?_) (fun c_9 => ?_)
    · refine mx_iload_n 1 d_H_firstFree_35 rfl rfl ?_
      refine mx_iret d_H_firstFree_36 rfl ?_
      refine ⟨?_, rfl⟩
      rw [show (gI A 100 11 - 1).toNat = q by omega]
    · have g2 := hr ((q : Int) + 1) (by omega) (by omega)
      refine mx_aload_n 0 d_H_firstFree_12 rfl rfl ?_
      refine mx_getPs 17 d_H_firstFree_13 f_H_43 rfl rfl (hH.o) (hH.p17) ?_
      refine mx_iload_n 2 d_H_firstFree_16 rfl rfl ?_
      refine mx_iald d_H_firstFree_17 (hH.s17) (by omega) (by omega) ?_
      refine mx_aload_n 0 d_H_firstFree_18 rfl rfl ?_
      refine mx_getPs 17 d_H_firstFree_19 f_H_43 rfl rfl (hH.o) (hH.p17) ?_
      refine mx_iload_n 1 d_H_firstFree_22 rfl rfl ?_
      refine mx_iald d_H_firstFree_23 (hH.s17) (by omega) (by omega) ?_
      refine mx_icmp_ge 29 d_H_firstFree_24 rfl (by first | assumption | exact hR _ _ | exact r32_mk (by omega) (by omega)) (by first | assumption | exact hR _ _ | exact r32_mk (by omega) (by omega)) (fun c_24 => ?_) (fun c_24 => ?_)
      · refine mx_iinc 2 d_H_firstFree_29 rfl (Nat.le_of_ble_eq_true rfl) ?_
        refine mx_goto 4 d_H_firstFree_32 rfl ?_
        have h9 := ih (q + 1) (by omega) (by omega)
        rw [show ((q + 1 : Nat) : Int) = (q : Int) + 1 by omega] at h9
        rw [show hb (gI A 118) (q + 1) = if gI A 118 ((q : Int) + 1) < gI A 118 (hb (gI A 118) q) then (q : Int) + 1 else hb (gI A 118) q from rfl] at h9
        first
          | (rw [if_neg (by omega)] at h9; exact h9)
          | (rw [if_pos (by omega)] at h9; exact h9)
      · refine mx_iload_n 2 d_H_firstFree_27 rfl rfl ?_
        refine mx_istore_n 1 d_H_firstFree_28 rfl (Nat.le_of_ble_eq_true rfl) ?_
        refine mx_iinc 2 d_H_firstFree_29 rfl (Nat.le_of_ble_eq_true rfl) ?_
        refine mx_goto 4 d_H_firstFree_32 rfl ?_
        have h9 := ih (q + 1) (by omega) (by omega)
        rw [show ((q + 1 : Nat) : Int) = (q : Int) + 1 by omega] at h9
        rw [show hb (gI A 118) (q + 1) = if gI A 118 ((q : Int) + 1) < gI A 118 (hb (gI A 118) q) then (q : Int) + 1 else hb (gI A 118) q from rfl] at h9
        first
          | (rw [if_neg (by omega)] at h9; exact h9)
          | (rw [if_pos (by omega)] at h9; exact h9)
  refine mx_R fun hR => ?_
  refine mx_iconst d_H_firstFree_0 ?_
  refine mx_istore_n 1 d_H_firstFree_1 rfl (Nat.le_of_ble_eq_true rfl) ?_
  refine mx_iconst d_H_firstFree_2 ?_
  refine mx_istore_n 2 d_H_firstFree_3 rfl (Nat.le_of_ble_eq_true rfl) ?_
  exact hl 0 (by omega)
theorem ct_filmLength {C : Int → cT} (hj : JJ C A) : mj_Cal G n_H_filmLength [mR (some 100)] A (fun r A' => r = some (mI (mo_fl A)) ∧ A' = A) mj_no := by
  refine mj_bodyK 0 0 [some (mR (some 100)), none, none] rfl rfl rfl (by decide +kernel) (Nat.le_of_ble_eq_true rfl) (by simp) rfl ?_
  have hH := hj.x.H
  have hS := hj.s.S
  have hns := hj.m.g.ns
  have hnf := hj.m.nf
  have hl : ∀ q : Nat, (q : Int) ≤ gI A 200 43 → mj_X G n_H_filmLength (mj_Qm G n_H_filmLength (fun r A' => r = some (mI (mo_fl A)) ∧ A' = A) mj_no) A 0 0 4 [some (mR (some 100)), some (mI (mj_sum (fun k => gI A 224 (gI A 244 k)) q)), some (mI (q : Int))] [] := by
    refine mj_loop _ (fun q => 11 - q) _ ?_
    intro q hq ih
    refine mx_R fun hR => ?_
    refine mx_iload_n 2 d_H_filmLength_4 rfl rfl ?_
    refine mx_aload_n 0 d_H_filmLength_5 rfl rfl ?_
    refine mx_getI 13 d_H_filmLength_6 f_H_259 rfl rfl (hH.o) ?_
    rw [hj.y.nf]
    refine mx_icmp_ge 35 d_H_filmLength_9 rfl (by first | assumption | exact hR _ _ | exact r32_mk (by omega) (by omega)) (by first | assumption | exact hR _ _ | exact r32_mk (by omega) (by omega)) (fun c_9 => ?_) (fun c_9 => ?_)
    · refine mx_iload_n 1 d_H_filmLength_35 rfl rfl ?_
      refine mx_iret d_H_filmLength_36 rfl ?_
      refine ⟨?_, rfl⟩
      unfold mo_fl
      rw [show (gI A 200 43).toNat = q by omega]
    · have hr1 := hj.m.rl q (by omega) (by omega)
      refine mx_iload_n 1 d_H_filmLength_12 rfl rfl ?_
      refine mx_aload_n 0 d_H_filmLength_13 rfl rfl ?_
      refine mx_getPs 5 d_H_filmLength_14 f_H_21 rfl rfl (hH.o) (hH.p5) ?_
      refine mx_aload_n 0 d_H_filmLength_17 rfl rfl ?_
      refine mx_getPs 12 d_H_filmLength_18 f_H_46 rfl rfl (hH.o) (hH.p12) ?_
      refine mx_iload_n 2 d_H_filmLength_21 rfl rfl ?_
      refine mx_iald d_H_filmLength_22 (hH.s12) (by omega) (by omega) ?_
      rw [hj.y.rl q (by omega) (by omega)]
      refine mx_aalds d_H_filmLength_23 (hH.s5) (by decide) (by omega) (by omega) (hj.s.r _ hr1.1 hr1.2) ?_
      refine mx_getI 0 d_H_filmLength_24 f_H_184 rfl rfl (hS.o _ hr1.1 hr1.2) ?_
      rw [hj.s.fr _ hr1.1 hr1.2]
      refine mx_iadd d_H_filmLength_27 ?_
      refine mx_istore_n 1 d_H_filmLength_28 rfl (Nat.le_of_ble_eq_true rfl) ?_
      refine mx_iinc 2 d_H_filmLength_29 rfl (Nat.le_of_ble_eq_true rfl) ?_
      refine mx_goto 4 d_H_filmLength_32 rfl ?_
      have h9 := ih (q + 1) (by omega) (by omega)
      rw [show ((q + 1 : Nat) : Int) = (q : Int) + 1 by omega] at h9
      exact h9
  refine mx_R fun hR => ?_
  refine mx_iconst d_H_filmLength_0 ?_
  refine mx_istore_n 1 d_H_filmLength_1 rfl (Nat.le_of_ble_eq_true rfl) ?_
  refine mx_iconst d_H_filmLength_2 ?_
  refine mx_istore_n 2 d_H_filmLength_3 rfl (Nat.le_of_ble_eq_true rfl) ?_
  exact hl 0 (by omega)
end CLSF
