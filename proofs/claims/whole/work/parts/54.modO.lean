/-! THE REFERENCE, 24: what hangs on what -/
theorem mj_01 {P : Prop} [Decidable P] : (if P then (1 : Int) else 0) = 0 ∨ (if P then (1 : Int) else 0) = 1 := by
  split
  · exact Or.inr rfl
  · exact Or.inl rfl
theorem mj_if1 {P : Prop} [Decidable P] (h : ¬ (if P then (1 : Int) else 0) = 0) : P := by
  by_cases k : P
  · exact k
  · rw [if_neg k] at h; exact absurd rfl h
theorem mj_if0 {P : Prop} [Decidable P] (h : (if P then (1 : Int) else 0) = 0) : ¬ P := by
  intro k
  rw [if_pos k] at h; exact absurd h (by omega)
/-- bit i of x -/
abbrev bt (x i : Int) : Prop := x / 2 ^ i.toNat % 2 = 1
theorem bt_tb {x i : Int} (hx : 0 ≤ x) : bt x i ↔ x.toNat.testBit i.toNat = true := by
  rw [Nat.testBit_eq_decide_div_mod_eq, decide_eq_true_iff]
  have e : x / 2 ^ i.toNat % 2 = ((x.toNat / 2 ^ i.toNat % 2 : Nat) : Int) := by
    rw [Int.natCast_emod, Int.natCast_ediv, Int.natCast_pow, Int.toNat_of_nonneg hx]
    rfl
  show x / 2 ^ i.toNat % 2 = 1 ↔ _
  rw [e]
  omega
theorem bt_or {x y i : Int} (hx : 0 ≤ x) (hy : 0 ≤ y) : bt ((x.toNat ||| y.toNat : Nat) : Int) i ↔ bt x i ∨ bt y i := by
  rw [bt_tb (by omega), bt_tb hx, bt_tb hy, Int.toNat_natCast, Nat.testBit_or, Bool.or_eq_true]
theorem bt_pow {i j : Int} (hi : 0 ≤ i) (hj : 0 ≤ j) : bt (2 ^ j.toNat) i ↔ i = j := by
  have h0 : (0 : Int) ≤ 2 ^ j.toNat := Int.le_of_lt (Int.pow_pos (by omega))
  have e : ((2 : Int) ^ j.toNat).toNat = 2 ^ j.toNat := by
    have : ((2 : Int) ^ j.toNat) = ((2 ^ j.toNat : Nat) : Int) := by rw [Int.natCast_pow]; rfl
    rw [this, Int.toNat_natCast]
  rw [bt_tb h0, e, Nat.testBit_two_pow, decide_eq_true_iff]
  omega
theorem bt_0 {i : Int} : ¬ bt 0 i := by
  show ¬ ((0 : Int) / 2 ^ i.toNat % 2 = 1)
  rw [Int.zero_ediv]
  omega
theorem p2_b : ∀ n : Nat, n < 16 → 1 ≤ (2 : Int) ^ n ∧ (2 : Int) ^ n ≤ 32768 := by decide
theorem p2_i {k : Int} (h : k < 16) : 1 ≤ (2 : Int) ^ k.toNat ∧ (2 : Int) ^ k.toNat ≤ 32768 := p2_b k.toNat (by omega)
theorem or_b {x y : Int} (hx : 0 ≤ x ∧ x < 65536) (hy : 0 ≤ y ∧ y < 65536) : 0 ≤ ((x.toNat ||| y.toNat : Nat) : Int) ∧ ((x.toNat ||| y.toNat : Nat) : Int) < 65536 := by
  have h := Nat.or_lt_two_pow (x := x.toNat) (y := y.toNat) (n := 16) (by omega) (by omega)
  omega
/-- k is o or hangs on it -/
def hgs (a b : Int → Int) (o : Int) : Nat → Int → Bool
  | 0, _ => false
  | n + 1, k => decide (k = o) || (decide (a k ≠ -1) && (hgs a b o n (a k) || hgs a b o n (b k)))
/-- parents are lower -/
abbrev hgp (a b : Int → Int) (n : Int) : Prop := ∀ k, 0 ≤ k → k < n → a k ≠ -1 → (0 ≤ a k ∧ a k < k) ∧ (0 ≤ b k ∧ b k < k)
theorem hgs_s {a b : Int → Int} {o N : Int} (hp : hgp a b N) : ∀ (n m : Nat) (k : Int), 0 ≤ k → k < N → k < n → k < m → hgs a b o n k = hgs a b o m k
  | 0, m, k, h0, h1, h2, h3 => by omega
  | n + 1, 0, k, h0, h1, h2, h3 => by omega
  | n + 1, m + 1, k, h0, h1, h2, h3 => by
    rw [hgs, hgs]
    by_cases e : a k = -1
    · simp [e]
    · have h := hp k h0 h1 e
      rw [hgs_s hp n m (a k) h.1.1 (by omega) (by omega) (by omega), hgs_s hp n m (b k) h.2.1 (by omega) (by omega) (by omega)]
theorem hgs_le {a b : Int → Int} {o N : Int} (hp : hgp a b N) : ∀ (n : Nat) (k : Int), 0 ≤ k → k < N → hgs a b o n k = true → o ≤ k
  | 0, k, h0, h1, h => by cases h
  | n + 1, k, h0, h1, h => by
    rw [hgs, Bool.or_eq_true, Bool.and_eq_true, Bool.or_eq_true, decide_eq_true_iff, decide_eq_true_iff] at h
    rcases h with h | ⟨h, h2 | h2⟩
    · omega
    · have h3 := hp k h0 h1 h
      have := hgs_le hp n (a k) h3.1.1 (by omega) h2
      omega
    · have h3 := hp k h0 h1 h
      have := hgs_le hp n (b k) h3.2.1 (by omega) h2
      omega
theorem hgs_1 {a b : Int → Int} {o N k : Int} (hp : hgp a b N) (hN : N ≤ 16) (h0 : 0 ≤ k) (h1 : k < N) : hgs a b o 17 k = true ↔ (k = o ∨ (a k ≠ -1 ∧ (hgs a b o 17 (a k) = true ∨ hgs a b o 17 (b k) = true))) := by
  rw [show hgs a b o 17 k = (decide (k = o) || (decide (a k ≠ -1) && (hgs a b o 16 (a k) || hgs a b o 16 (b k)))) from rfl, Bool.or_eq_true, Bool.and_eq_true, Bool.or_eq_true, decide_eq_true_iff, decide_eq_true_iff]
  by_cases e : a k = -1
  · simp [e]
  · have h := hp k h0 h1 e
    rw [hgs_s hp 16 17 (a k) h.1.1 (by omega) (by omega) (by omega), hgs_s hp 16 17 (b k) h.2.1 (by omega) (by omega) (by omega)]
section MODO
variable {G : mj_G} {A : mj_M}
abbrev mo_on (A : mj_M) (d o : Int) : Bool := hgs (gI A 204) (gI A 205) o 17 d
abbrev mo_hp (A : mj_M) : Prop := hgp (gI A 204) (gI A 205) (gI A 200 3)
theorem cm_isOn {d o : Int} (hM : MS A) (hn : 0 ≤ gI A 200 3 ∧ gI A 200 3 ≤ 16) (hp : mo_hp A) (hd : 0 ≤ d ∧ d < gI A 200 3) (ho : 0 ≤ o ∧ o < gI A 200 3) : mj_Cal G n_M_isOn [mR (some 200), mI d, mI o] A (fun r A' => r = some (mI (if mo_on A d o = true then 1 else 0)) ∧ A' = A) mj_no := by
  refine mj_bodyK 0 0 [some (mR (some 200)), some (mI d), some (mI o), none, none, none] rfl rfl rfl (by decide +kernel) (Nat.le_of_ble_eq_true rfl) (by simp) rfl ?_
  have hl : ∀ q : Int × Int × Option mj_V, ((o + 1 ≤ q.2.1 ∧ q.2.1 ≤ 16 ∧ (q.2.1 = o + 1 ∨ q.2.1 ≤ d + 1)) ∧ (0 ≤ q.1 ∧ q.1 < 65536) ∧ ∀ i, 0 ≤ i → i < gI A 200 3 → (bt q.1 i ↔ i < q.2.1 ∧ mo_on A i o = true)) → mj_X G n_M_isOn (mj_Qm G n_M_isOn (fun r A' => r = some (mI (if mo_on A d o = true then 1 else 0)) ∧ A' = A) mj_no) A 0 0 9 [some (mR (some 200)), some (mI d), some (mI o), some (mI q.1), some (mI q.2.1), q.2.2] [] := by
    refine mj_loop _ (fun q => (17 - q.2.1).toNat) _ ?_
    intro ⟨w, k, l5⟩ ⟨hk, hw, hb⟩ ih
    replace hk : o + 1 ≤ k ∧ k ≤ 16 ∧ (k = o + 1 ∨ k ≤ d + 1) := hk
    replace hw : 0 ≤ w ∧ w < 65536 := hw
    replace hb : ∀ i, 0 ≤ i → i < gI A 200 3 → (bt w i ↔ i < k ∧ mo_on A i o = true) := hb
    show mj_X G n_M_isOn _ A 0 0 9 [some (mR (some 200)), some (mI d), some (mI o), some (mI w), some (mI k), l5] []
    refine mx_R fun hR => ?_
    refine mx_iload 4 d_M_isOn_9 rfl ?_
    refine mx_iload_n 1 d_M_isOn_11 rfl rfl ?_
    refine mx_icmp_gt 85 d_M_isOn_12 rfl (by first | assumption | exact hR _ _ | exact r32_mk (by omega) (by omega)) (by first | assumption | exact hR _ _ | exact r32_mk (by omega) (by omega)) (fun c_12 => ?_) (fun c_12 => ?_)
    · refine mj_cutB (mo_on A d o = true) 99 ?_ (fun hJ_85 => ?_)
      · refine mx_zret d_M_isOn_99 rfl (mj_01) ?_
        exact ⟨rfl, rfl⟩
      · refine mx_iload_n 3 d_M_isOn_85 rfl rfl ?_
        refine mx_iload_n 1 d_M_isOn_86 rfl rfl ?_
        refine mx_ishr d_M_isOn_87 (r32_mk (by omega) (by omega)) hd.1 (by omega) ?_
        refine mx_iconst d_M_isOn_88 ?_
        refine mx_iand1 d_M_isOn_89  ?_
        refine mx_iconst d_M_isOn_90 ?_
        refine mx_icmp_ne 98 d_M_isOn_91 rfl (by first | assumption | exact hR _ _ | exact r32_mk (by omega) (by omega)) (by first | assumption | exact hR _ _ | exact r32_mk (by omega) (by omega)) (fun c_91 => ?_) (fun c_91 => ?_)
        · refine mx_iconst d_M_isOn_98 ?_
          first | exact mj_j1 hJ_85 (by (first | exact ((hb d hd.1 hd.2).mp c_91).2 | exact (fun hon => c_91 ((hb d hd.1 hd.2).mpr ⟨by have := hgs_le hp 17 d hd.1 hd.2 hon; omega, hon⟩)))) | exact mj_j0 hJ_85 (by (first | exact ((hb d hd.1 hd.2).mp c_91).2 | exact (fun hon => c_91 ((hb d hd.1 hd.2).mpr ⟨by have := hgs_le hp 17 d hd.1 hd.2 hon; omega, hon⟩))))
        · refine mx_iconst d_M_isOn_94 ?_
          refine mx_goto 99 d_M_isOn_95 rfl ?_
          first | exact mj_j1 hJ_85 (by (first | exact ((hb d hd.1 hd.2).mp c_91).2 | exact (fun hon => c_91 ((hb d hd.1 hd.2).mpr ⟨by have := hgs_le hp 17 d hd.1 hd.2 hon; omega, hon⟩)))) | exact mj_j0 hJ_85 (by (first | exact ((hb d hd.1 hd.2).mp c_91).2 | exact (fun hon => c_91 ((hb d hd.1 hd.2).mpr ⟨by have := hgs_le hp 17 d hd.1 hd.2 hon; omega, hon⟩))))
    · refine mj_cutB ((gI A 204 k ≠ -1 ∧ (bt w (gI A 204 k) ∨ bt w (gI A 205 k)))) 61 ?_ (fun hJ_15 => ?_)
      · refine mx_istore 5 d_M_isOn_61 (Nat.le_of_ble_eq_true rfl) ?_
        have hpw := p2_i (k := k) (by omega)
        refine mx_iload_n 3 d_M_isOn_63 rfl rfl ?_
        refine mj_cutI ( if (gI A 204 k ≠ -1 ∧ (bt w (gI A 204 k) ∨ bt w (gI A 205 k))) then 2 ^ k.toNat else 0) 77 ?_ (fun hJ_64 => ?_)
        · refine mx_ior d_M_isOn_77 (by omega) (by omega) ?_
          refine mx_istore_n 3 d_M_isOn_78 rfl (Nat.le_of_ble_eq_true rfl) ?_
          refine mx_iinc 4 d_M_isOn_79 rfl (Nat.le_of_ble_eq_true rfl) ?_
          refine mx_goto 9 d_M_isOn_82 rfl ?_
          have hor := or_b (x := w) (y := if (gI A 204 k ≠ -1 ∧ (bt w (gI A 204 k) ∨ bt w (gI A 205 k))) then 2 ^ k.toNat else 0) hw (by omega)
          refine ih (_, k + 1, _) ⟨by show o + 1 ≤ k + 1 ∧ k + 1 ≤ 16 ∧ _; exact ⟨by omega, by omega, Or.inr (by show k + 1 ≤ d + 1; omega)⟩, hor, fun i i0 i1 => ?_⟩ (by show (17 - (k + 1)).toNat < (17 - k).toNat; omega)
          show bt ((w.toNat ||| (if (gI A 204 k ≠ -1 ∧ (bt w (gI A 204 k) ∨ bt w (gI A 205 k))) then 2 ^ k.toNat else 0 : Int).toNat : Nat) : Int) i ↔ i < k + 1 ∧ mo_on A i o = true
          rw [bt_or hw.1 (by omega), hb i i0 i1]
          by_cases hP : (gI A 204 k ≠ -1 ∧ (bt w (gI A 204 k) ∨ bt w (gI A 205 k)))
          · rw [if_pos hP, bt_pow i0 (by omega)]
            have hpk := hp k (by omega) (by omega) hP.1
            have h1 := (hgs_1 hp hn.2 (o := o) (k := k) (by omega) (by omega)).mpr (Or.inr ⟨hP.1, by
              rcases hP.2 with h | h
              · exact Or.inl ((hb _ hpk.1.1 (by omega)).mp h).2
              · exact Or.inr ((hb _ hpk.2.1 (by omega)).mp h).2⟩)
            constructor
            · rintro (h | h)
              · exact ⟨by omega, h.2⟩
              · rw [h]; exact ⟨by omega, h1⟩
            · intro h
              by_cases e : i = k
              · exact Or.inr e
              · exact Or.inl ⟨by omega, h.2⟩
          · rw [if_neg hP]
            constructor
            · rintro (h | h)
              · exact ⟨by omega, h.2⟩
              · exact absurd h bt_0
            · intro h
              by_cases e : i = k
              · exfalso
                rw [e] at h
                rcases (hgs_1 hp hn.2 (o := o) (k := k) (by omega) (by omega)).mp h.2 with h2 | ⟨h2, h3⟩
                · omega
                · have hpk := hp k (by omega) (by omega) h2
                  refine hP ⟨h2, ?_⟩
                  rcases h3 with h3 | h3
                  · exact Or.inl ((hb _ hpk.1.1 (by omega)).mpr ⟨hpk.1.2, h3⟩)
                  · exact Or.inr ((hb _ hpk.2.1 (by omega)).mpr ⟨hpk.2.2, h3⟩)
              · exact Or.inl ⟨by omega, h.2⟩
        · refine mx_iload 5 d_M_isOn_64 rfl ?_
          refine mx_if_eq 76 d_M_isOn_66 rfl (by first | assumption | exact hR _ _ | exact r32_mk (by omega) (by omega)) (fun c_66 => ?_) (fun c_66 => ?_)
          · refine mx_iconst d_M_isOn_76 ?_
            exact mj_ji hJ_64 (by omega)
          · refine mx_iconst d_M_isOn_69 ?_
            refine mx_iload 4 d_M_isOn_70 rfl ?_
            refine mx_ishl1 d_M_isOn_72 (by omega) (by omega) ?_
            refine mx_goto 77 d_M_isOn_73 rfl ?_
            exact mj_ji hJ_64 (by omega)
      · refine mx_aload_n 0 d_M_isOn_15 rfl rfl ?_
        refine mx_getPs 4 d_M_isOn_16 f_M_7 rfl rfl (hM.o) (hM.p4) ?_
        refine mx_iload 4 d_M_isOn_19 rfl ?_
        refine mx_iald d_M_isOn_21 (hM.s4) (by omega) (by omega) ?_
        refine mx_iconst d_M_isOn_22 ?_
        refine mx_icmp_eq 60 d_M_isOn_23 rfl (by first | assumption | exact hR _ _ | exact r32_mk (by omega) (by omega)) (by first | assumption | exact hR _ _ | exact r32_mk (by omega) (by omega)) (fun c_23 => ?_) (fun c_23 => ?_)
        · refine mx_iconst d_M_isOn_60 ?_
          first | exact mj_j1 hJ_15 (by omega) | exact mj_j0 hJ_15 (by omega)
        · have hpk := hp k (by omega) (by omega) (by assumption)
          refine mx_iload_n 3 d_M_isOn_26 rfl rfl ?_
          refine mx_aload_n 0 d_M_isOn_27 rfl rfl ?_
          refine mx_getPs 4 d_M_isOn_28 f_M_7 rfl rfl (hM.o) (hM.p4) ?_
          refine mx_iload 4 d_M_isOn_31 rfl ?_
          refine mx_iald d_M_isOn_33 (hM.s4) (by omega) (by omega) ?_
          refine mx_ishr d_M_isOn_34 (r32_mk (by omega) (by omega)) hpk.1.1 (by omega) ?_
          refine mx_iconst d_M_isOn_35 ?_
          refine mx_iand1 d_M_isOn_36  ?_
          refine mx_iconst d_M_isOn_37 ?_
          refine mx_icmp_eq 56 d_M_isOn_38 rfl (by first | assumption | exact hR _ _ | exact r32_mk (by omega) (by omega)) (by first | assumption | exact hR _ _ | exact r32_mk (by omega) (by omega)) (fun c_38 => ?_) (fun c_38 => ?_)
          · refine mx_iconst d_M_isOn_56 ?_
            refine mx_goto 61 d_M_isOn_57 rfl ?_
            first | exact mj_j1 hJ_15 (by omega) | exact mj_j0 hJ_15 (by omega)
          · refine mx_iload_n 3 d_M_isOn_41 rfl rfl ?_
            refine mx_aload_n 0 d_M_isOn_42 rfl rfl ?_
            refine mx_getPs 5 d_M_isOn_43 f_M_13 rfl rfl (hM.o) (hM.p5) ?_
            refine mx_iload 4 d_M_isOn_46 rfl ?_
            refine mx_iald d_M_isOn_48 (hM.s5) (by omega) (by omega) ?_
            refine mx_ishr d_M_isOn_49 (r32_mk (by omega) (by omega)) hpk.2.1 (by omega) ?_
            refine mx_iconst d_M_isOn_50 ?_
            refine mx_iand1 d_M_isOn_51  ?_
            refine mx_iconst d_M_isOn_52 ?_
            refine mx_icmp_ne 60 d_M_isOn_53 rfl (by first | assumption | exact hR _ _ | exact r32_mk (by omega) (by omega)) (by first | assumption | exact hR _ _ | exact r32_mk (by omega) (by omega)) (fun c_53 => ?_) (fun c_53 => ?_)
            · refine mx_iconst d_M_isOn_60 ?_
              first | exact mj_j1 hJ_15 (by omega) | exact mj_j0 hJ_15 (by omega)
            · refine mx_iconst d_M_isOn_56 ?_
              refine mx_goto 61 d_M_isOn_57 rfl ?_
              first | exact mj_j1 hJ_15 (by omega) | exact mj_j0 hJ_15 (by omega)
  refine mx_R fun hR => ?_
  refine mx_iconst d_M_isOn_0 ?_
  refine mx_iload_n 2 d_M_isOn_1 rfl rfl ?_
  refine mx_ishl1 d_M_isOn_2 (by omega) (by omega) ?_
  refine mx_istore_n 3 d_M_isOn_3 rfl (Nat.le_of_ble_eq_true rfl) ?_
  refine mx_iload_n 2 d_M_isOn_4 rfl rfl ?_
  refine mx_iconst d_M_isOn_5 ?_
  refine mx_iadd d_M_isOn_6 ?_
  refine mx_istore 4 d_M_isOn_7 (Nat.le_of_ble_eq_true rfl) ?_
  have hpw := p2_i (k := o) (by omega)
  refine hl (_, o + 1, none) ⟨⟨by show o + 1 ≤ o + 1; omega, by show o + 1 ≤ 16; omega, Or.inl rfl⟩, ⟨by show (0 : Int) ≤ 2 ^ o.toNat; omega, by show (2 : Int) ^ o.toNat < 65536; omega⟩, fun i i0 i1 => ?_⟩
  show bt (2 ^ o.toNat) i ↔ i < o + 1 ∧ mo_on A i o = true
  rw [bt_pow i0 ho.1]
  constructor
  · intro h
    rw [h]
    exact ⟨by omega, (hgs_1 hp hn.2 ho.1 ho.2).mpr (Or.inl rfl)⟩
  · intro h
    have := hgs_le hp 17 i i0 i1 h.2
    omega
/-- whether a frame's levels below n hang on d -/
def mo_hn (A : mj_M) (s f d : Int) : Nat → Bool
  | 0 => false
  | n + 1 => mo_hn A s f d n || (decide (mo_ha A s n f ≠ -1) && mo_on A (mo_ha A s n f) d)
theorem cm_hangsOn {s f d : Int} (hM : MS A) (hg : mo_rg A) (hp : mo_hp A) (hs : 0 ≤ s ∧ s < gI A 200 23) (hf : 0 ≤ f ∧ f < gI A 224 s) (hd : 0 ≤ d ∧ d < gI A 200 3) : mj_Cal G n_M_hangsOn [mR (some 200), mI s, mI f, mI d] A (fun r A' => r = some (mI (if mo_hn A s f d 4 = true then 1 else 0)) ∧ A' = A) mj_no := by
  refine mj_bodyK 0 0 [some (mR (some 200)), some (mI s), some (mI f), some (mI d), none, none, none] rfl rfl rfl (by decide +kernel) (Nat.le_of_ble_eq_true rfl) (by simp) rfl ?_
  have hns := hg.ns
  have hnd := hg.nd
  have hfr := hg.fr s hs.1 hs.2
  have hl : ∀ q : Nat × Option mj_V, q.1 ≤ 4 → mj_X G n_M_hangsOn (mj_Qm G n_M_hangsOn (fun r A' => r = some (mI (if mo_hn A s f d 4 = true then 1 else 0)) ∧ A' = A) mj_no) A 0 0 6 [some (mR (some 200)), some (mI s), some (mI f), some (mI d), some (mI (if mo_hn A s f d q.1 = true then 1 else 0)), some (mI (q.1 : Int)), q.2] [] := by
    refine mj_loop _ (fun q => 4 - q.1) _ ?_
    intro ⟨n, l6⟩ hn ih
    replace hn : n ≤ 4 := hn
    show mj_X G n_M_hangsOn _ A 0 0 6 [some (mR (some 200)), some (mI s), some (mI f), some (mI d), some (mI (if mo_hn A s f d n = true then 1 else 0)), some (mI (n : Int)), l6] []
    refine mx_R fun hR => ?_
    refine mx_iload 5 d_M_hangsOn_6 rfl ?_
    refine mx_iconst d_M_hangsOn_8 ?_
    refine mx_icmp_ge 54 d_M_hangsOn_9 rfl (by first | assumption | exact hR _ _ | exact r32_mk (by omega) (by omega)) (by first | assumption | exact hR _ _ | exact r32_mk (by omega) (by omega)) (fun c_9 => ?_) (fun c_9 => ?_)
    · refine mx_iload 4 d_M_hangsOn_54 rfl ?_
      refine mx_zret d_M_hangsOn_56 rfl (by split; exact Or.inr rfl; exact Or.inl rfl) ?_
      refine ⟨?_, rfl⟩
      rw [show n = 4 by omega]
    · refine mx_aload_n 0 d_M_hangsOn_12 rfl rfl ?_
      refine mx_iload_n 1 d_M_hangsOn_13 rfl rfl ?_
      refine mx_iload 5 d_M_hangsOn_14 rfl ?_
      refine mx_iload_n 2 d_M_hangsOn_16 rfl rfl ?_
      refine mx_callV (kc := 0) (ks := 0) (N := n_M_hasAt) (as := [_, _, _]) (ci := 7) d_M_hangsOn_17 s_M_218 ⟨Nat.le_of_ble_eq_true rfl, Nat.le_of_ble_eq_true rfl⟩ rfl (mj_wt_8 (Nat.le_of_ble_eq_true rfl)) (hM.o) ⟨_, rfl, rfl⟩ (cm_hasAt hM hg hs ⟨by omega, by omega⟩ hf) (fun r_17 A_17 h_17 => ?_) (fun E_17 A_x h_17 => ?_)
      rotate_left
      · exact h_17.elim
      obtain ⟨rfl, hA_17⟩ := h_17
      obtain rfl := hA_17.symm
      clear hA_17
      refine mx_R fun hR_1 => ?_
      refine mx_istore 6 d_M_hangsOn_20 (Nat.le_of_ble_eq_true rfl) ?_
      have hha := mo_ha_r hg (l := n) hs ⟨by omega, by omega⟩ hf
      refine mx_iload 4 d_M_hangsOn_22 rfl ?_
      refine mj_cutB ((mo_ha A s n f ≠ -1 ∧ mo_on A (mo_ha A s n f) d = true)) 45 ?_ (fun hJ_24 => ?_)
      · refine mx_iorB d_M_hangsOn_45 (by split; exact Or.inr rfl; exact Or.inl rfl) (by split; exact Or.inr rfl; exact Or.inl rfl) ?_
        refine mx_istore 4 d_M_hangsOn_46 (Nat.le_of_ble_eq_true rfl) ?_
        refine mx_iinc 5 d_M_hangsOn_48 rfl (Nat.le_of_ble_eq_true rfl) ?_
        refine mx_goto 6 d_M_hangsOn_51 rfl ?_
        have h9 := ih (n + 1, some (mI (mo_ha A s n f))) (by show n + 1 ≤ 4; omega) (by show 4 - (n + 1) < 4 - n; omega)
        have e9 : (if (if mo_hn A s f d n = true then (1 : Int) else 0) = 1 ∨ (if (mo_ha A s n f ≠ -1 ∧ mo_on A (mo_ha A s n f) d = true) then (1 : Int) else 0) = 1 then (1 : Int) else 0) = if mo_hn A s f d (n + 1) = true then 1 else 0 := by
          rw [mo_hn]
          by_cases h1 : mo_hn A s f d n = true
          · simp [h1]
          · by_cases h2 : (mo_ha A s n f ≠ -1 ∧ mo_on A (mo_ha A s n f) d = true)
            · rw [if_neg h1, if_pos h2, if_pos (Or.inr rfl), if_pos]
              simp [h2.1, h2.2]
            · rw [if_neg h1, if_neg h2, if_neg (by omega), if_neg]
              simp only [Bool.or_eq_true, Bool.and_eq_true, decide_eq_true_iff]
              intro h3
              rcases h3 with h3 | h3
              · exact h1 h3
              · exact h2 h3
        rw [e9]
        exact h9
      · refine mx_iload 6 d_M_hangsOn_24 rfl ?_
        refine mx_iconst d_M_hangsOn_26 ?_
        refine mx_icmp_eq 44 d_M_hangsOn_27 rfl (by first | assumption | exact hR_1 _ _ | exact hR _ _ | exact r32_mk (by omega) (by omega)) (by first | assumption | exact hR_1 _ _ | exact hR _ _ | exact r32_mk (by omega) (by omega)) (fun c_27 => ?_) (fun c_27 => ?_)
        · refine mx_iconst d_M_hangsOn_44 ?_
          first | exact mj_j1 hJ_24 (by first | exact (fun h => h.1 (by assumption)) | exact ⟨by assumption, mj_if1 c_37⟩ | exact (fun h => mj_if0 c_37 h.2)) | exact mj_j0 hJ_24 (by first | exact (fun h => h.1 (by assumption)) | exact ⟨by assumption, mj_if1 c_37⟩ | exact (fun h => mj_if0 c_37 h.2))
        · refine mx_aload_n 0 d_M_hangsOn_30 rfl rfl ?_
          refine mx_iload 6 d_M_hangsOn_31 rfl ?_
          refine mx_iload_n 3 d_M_hangsOn_33 rfl rfl ?_
          refine mx_callV (kc := 0) (ks := 0) (N := n_M_isOn) (as := [_, _]) (ci := 7) d_M_hangsOn_34 s_M_235 ⟨Nat.le_of_ble_eq_true rfl, Nat.le_of_ble_eq_true rfl⟩ rfl (mj_wt_8 (Nat.le_of_ble_eq_true rfl)) (hM.o) ⟨_, rfl, rfl⟩ (cm_isOn hM hnd hp ⟨by omega, by omega⟩ hd) (fun r_34 A_34 h_34 => ?_) (fun E_34 A_x h_34 => ?_)
          rotate_left
          · exact h_34.elim
          obtain ⟨rfl, hA_34⟩ := h_34
          obtain rfl := hA_34.symm
          clear hA_34
          refine mx_R fun hR_2 => ?_
          refine mx_if_eq 44 d_M_hangsOn_37 rfl (by first | assumption | exact hR_2 _ _ | exact hR_1 _ _ | exact hR _ _ | exact r32_mk (by omega) (by omega)) (fun c_37 => ?_) (fun c_37 => ?_)
          · refine mx_iconst d_M_hangsOn_44 ?_
            first | exact mj_j1 hJ_24 (by first | exact (fun h => h.1 (by assumption)) | exact ⟨by assumption, mj_if1 c_37⟩ | exact (fun h => mj_if0 c_37 h.2)) | exact mj_j0 hJ_24 (by first | exact (fun h => h.1 (by assumption)) | exact ⟨by assumption, mj_if1 c_37⟩ | exact (fun h => mj_if0 c_37 h.2))
          · refine mx_iconst d_M_hangsOn_40 ?_
            refine mx_goto 45 d_M_hangsOn_41 rfl ?_
            first | exact mj_j1 hJ_24 (by first | exact (fun h => h.1 (by assumption)) | exact ⟨by assumption, mj_if1 c_37⟩ | exact (fun h => mj_if0 c_37 h.2)) | exact mj_j0 hJ_24 (by first | exact (fun h => h.1 (by assumption)) | exact ⟨by assumption, mj_if1 c_37⟩ | exact (fun h => mj_if0 c_37 h.2))
  refine mx_R fun hR => ?_
  refine mx_iconst d_M_hangsOn_0 ?_
  refine mx_istore 4 d_M_hangsOn_1 (Nat.le_of_ble_eq_true rfl) ?_
  refine mx_iconst d_M_hangsOn_3 ?_
  refine mx_istore 5 d_M_hangsOn_4 (Nat.le_of_ble_eq_true rfl) ?_
  exact hl (0, none) (by show 0 ≤ 4; omega)
theorem mo_ha_0 {s l f v : Int} : mo_ha (sI A 200 0 v) s l f = mo_ha A s l f := mo_ha_c fun c h0 h1 => mo_r0 (by omega)
theorem mo_hn_c {B : mj_M} {s f d : Int} (h : ∀ c, 222 ≤ c → c ≤ 237 → gI B c = gI A c) (h4 : gI B 204 = gI A 204) (h5 : gI B 205 = gI A 205) : ∀ n : Nat, mo_hn B s f d n = mo_hn A s f d n
  | 0 => rfl
  | n + 1 => by
    rw [mo_hn, mo_hn, mo_hn_c h h4 h5 n, mo_ha_c h]
    show (mo_hn A s f d n || (decide (mo_ha A s n f ≠ -1) && hgs (gI B 204) (gI B 205) d 17 (mo_ha A s n f))) = _
    rw [h4, h5]
theorem cm_hangs {s f d : Int} (hM : MS A) (hg : mo_rg A) (hp : mo_hp A) (hs : r32 s) (hf : r32 f) (hd : r32 d) : mj_Cal G n_M_hangs [mR (some 200), mI s, mI f, mI d] A (fun r A' => (((0 ≤ s ∧ s < gI A 200 23 ∧ 0 ≤ f ∧ f < gI A 224 s) ∧ (0 ≤ d ∧ d < gI A 200 3)) ∧ r = some (mI (if mo_hn A s f d 4 = true then 1 else 0)) ∧ A' = sI A 200 0 0) ∨ (¬ ((0 ≤ s ∧ s < gI A 200 23 ∧ 0 ≤ f ∧ f < gI A 224 s) ∧ (0 ≤ d ∧ d < gI A 200 3)) ∧ r = some (mI 0) ∧ A' = sI A 200 0 (if ((0 ≤ s ∧ s < gI A 200 23 ∧ 0 ≤ f ∧ f < gI A 224 s) ∧ (0 ≤ d ∧ d < gI A 200 3)) then 0 else 1))) mj_no := by
  refine mj_bodyK 0 0 [some (mR (some 200)), some (mI s), some (mI f), some (mI d)] rfl rfl rfl (by decide +kernel) (Nat.le_of_ble_eq_true rfl) (by simp) rfl ?_
  have hns := hg.ns
  have hnd := hg.nd
  have hfr := hg.fr
  refine mx_R fun hR => ?_
  refine mx_aload_n 0 d_M_hangs_0 rfl rfl ?_
  refine mj_cutB (((0 ≤ s ∧ s < gI A 200 23 ∧ 0 ≤ f ∧ f < gI A 224 s) ∧ (0 ≤ d ∧ d < gI A 200 3))) 23 ?_ (fun hJ_1 => ?_)
  · refine mx_callV (kc := 0) (ks := 0) (N := n_M_asked1) (as := [_]) (ci := 7) d_M_hangs_23 s_M_138 ⟨Nat.le_of_ble_eq_true rfl, Nat.le_of_ble_eq_true rfl⟩ rfl (mj_wt_8 (Nat.le_of_ble_eq_true rfl)) (hM.o) ⟨_, rfl, rfl⟩ (cm_asked1 _ hM) (fun r_23 A_23 h_23 => ?_) (fun E_23 A_x h_23 => ?_)
    rotate_left
    · exact h_23.elim
    obtain ⟨rfl, hA_23⟩ := h_23
    obtain rfl := hA_23.symm
    clear hA_23
    refine mx_R fun hR_1 => ?_
    refine mx_if_eq 43 d_M_hangs_26 rfl (by first | assumption | exact hR_1 _ _ | exact hR _ _ | exact r32_mk (by omega) (by omega)) (fun c_26 => ?_) (fun c_26 => ?_)
    · refine mx_iconst d_M_hangs_43 ?_
      refine mx_zret d_M_hangs_44 rfl (Or.inl rfl) ?_
      exact Or.inr ⟨by omega, rfl, rfl⟩
    · have hI : ((0 ≤ s ∧ s < gI A 200 23 ∧ 0 ≤ f ∧ f < gI A 224 s) ∧ (0 ≤ d ∧ d < gI A 200 3)) := by omega
      rw [if_pos hI]
      have e0 : mo_hn (sI A 200 0 0) s f d 4 = mo_hn A s f d 4 := mo_hn_c (fun c h0 h1 => mo_r0 (by omega)) rfl rfl 4
      refine mx_R fun hR => ?_
      refine mj_cutB (mo_hn A s f d 4 = true) 44 ?_ (fun hJ_29 => ?_)
      · refine mx_zret d_M_hangs_44 rfl (mj_01) ?_
        exact Or.inl ⟨hI, rfl, rfl⟩
      · refine mx_aload_n 0 d_M_hangs_29 rfl rfl ?_
        refine mx_iload_n 1 d_M_hangs_30 rfl rfl ?_
        refine mx_iload_n 2 d_M_hangs_31 rfl rfl ?_
        refine mx_iload_n 3 d_M_hangs_32 rfl rfl ?_
        refine mx_callV (kc := 0) (ks := 0) (N := n_M_hangsOn) (as := [_, _, _]) (ci := 7) d_M_hangs_33 s_M_238 ⟨Nat.le_of_ble_eq_true rfl, Nat.le_of_ble_eq_true rfl⟩ rfl (mj_wt_8 (Nat.le_of_ble_eq_true rfl)) (hM.o) ⟨_, rfl, rfl⟩ (cm_hangsOn (A := sI A 200 0 0) hM hg hp ⟨hI.1.1, hI.1.2.1⟩ hI.1.2.2 hI.2) (fun r_33 A_33 h_33 => ?_) (fun E_33 A_x h_33 => ?_)
        rotate_left
        · exact h_33.elim
        obtain ⟨rfl, hA_33⟩ := h_33
        obtain rfl := hA_33.symm
        clear hA_33
        refine mx_R fun hR_1 => ?_
        rw [e0]
        refine mx_if_eq 43 d_M_hangs_36 rfl (by first | assumption | exact hR_1 _ _ | exact hR _ _ | exact r32_mk (by omega) (by omega)) (fun c_36 => ?_) (fun c_36 => ?_)
        · refine mx_iconst d_M_hangs_43 ?_
          first | exact mj_j1 hJ_29 (by (first | exact mj_if1 c_36 | exact mj_if0 c_36)) | exact mj_j0 hJ_29 (by (first | exact mj_if1 c_36 | exact mj_if0 c_36))
        · refine mx_iconst d_M_hangs_39 ?_
          refine mx_goto 44 d_M_hangs_40 rfl ?_
          first | exact mj_j1 hJ_29 (by (first | exact mj_if1 c_36 | exact mj_if0 c_36)) | exact mj_j0 hJ_29 (by (first | exact mj_if1 c_36 | exact mj_if0 c_36))
  · refine mx_aload_n 0 d_M_hangs_1 rfl rfl ?_
    refine mx_iload_n 1 d_M_hangs_2 rfl rfl ?_
    refine mx_iload_n 2 d_M_hangs_3 rfl rfl ?_
    refine mx_callV (kc := 0) (ks := 0) (N := n_M_isFrame) (as := [_, _]) (ci := 7) d_M_hangs_4 s_M_202 ⟨Nat.le_of_ble_eq_true rfl, Nat.le_of_ble_eq_true rfl⟩ rfl (mj_wt_8 (Nat.le_of_ble_eq_true rfl)) (hM.o) ⟨_, rfl, rfl⟩ (cm_isFrame hM hs hf hns hfr) (fun r_4 A_4 h_4 => ?_) (fun E_4 A_x h_4 => ?_)
    rotate_left
    · exact h_4.elim
    obtain ⟨rfl, hA_4⟩ := h_4
    obtain rfl := hA_4.symm
    clear hA_4
    refine mx_R fun hR_2 => ?_
    refine mx_if_eq 22 d_M_hangs_7 rfl (by first | assumption | exact hR_2 _ _ | exact hR _ _ | exact r32_mk (by omega) (by omega)) (fun c_7 => ?_) (fun c_7 => ?_)
    · refine mx_iconst d_M_hangs_22 ?_
      first | exact mj_j1 hJ_1 (by omega) | exact mj_j0 hJ_1 (by omega)
    · refine mx_aload_n 0 d_M_hangs_10 rfl rfl ?_
      refine mx_iload_n 3 d_M_hangs_11 rfl rfl ?_
      refine mx_callV (kc := 0) (ks := 0) (N := n_M_isDrawing) (as := [_]) (ci := 7) d_M_hangs_12 s_M_130 ⟨Nat.le_of_ble_eq_true rfl, Nat.le_of_ble_eq_true rfl⟩ rfl (mj_wt_8 (Nat.le_of_ble_eq_true rfl)) (hM.o) ⟨_, rfl, rfl⟩ (cm_isDrawing hM hd hnd) (fun r_12 A_12 h_12 => ?_) (fun E_12 A_x h_12 => ?_)
      rotate_left
      · exact h_12.elim
      obtain ⟨rfl, hA_12⟩ := h_12
      obtain rfl := hA_12.symm
      clear hA_12
      refine mx_R fun hR_3 => ?_
      refine mx_if_eq 22 d_M_hangs_15 rfl (by first | assumption | exact hR_3 _ _ | exact hR_2 _ _ | exact hR _ _ | exact r32_mk (by omega) (by omega)) (fun c_15 => ?_) (fun c_15 => ?_)
      · refine mx_iconst d_M_hangs_22 ?_
        first | exact mj_j1 hJ_1 (by omega) | exact mj_j0 hJ_1 (by omega)
      · refine mx_iconst d_M_hangs_18 ?_
        refine mx_goto 23 d_M_hangs_19 rfl ?_
        first | exact mj_j1 hJ_1 (by omega) | exact mj_j0 hJ_1 (by omega)
end MODO
