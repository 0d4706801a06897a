/-! THE REFERENCE, 29: hours -/
/-- the first of the hands 0 to k that is free first -/
def hb (b : Int → Int) : Nat → Int
  | 0 => 0
  | k + 1 => if b ((k : Int) + 1) < b (hb b k) then (k : Int) + 1 else hb b k
theorem hb_r {b : Int → Int} : ∀ k : Nat, 0 ≤ hb b k ∧ hb b k ≤ k
  | 0 => by rw [hb]; omega
  | k + 1 => by
    have h := hb_r (b := b) k
    rw [hb]
    split <;> omega
theorem hb_c {b b' : Int → Int} : ∀ k : Nat, (∀ i : Int, 0 ≤ i → i ≤ k → b i = b' i) → hb b k = hb b' k
  | 0, _ => rfl
  | k + 1, h => by
    have h1 := hb_r (b := b') k
    rw [hb, hb, hb_c k (fun i h0 h1 => h i h0 (by omega)), h _ (by omega) (by omega), h (hb b' k) (by omega) (by omega)]
/-- how long each hand is busy behind t drawings: w strokes each, speeds s -/
def hr (w s : Int → Int) (h : Nat) : Nat → Int → Int
  | 0 => fun _ => 0
  | t + 1 => if 0 < w t then (fun i => if i = hb (hr w s h t) h then hr w s h t (hb (hr w s h t) h) + (w t + s (hb (hr w s h t) h) - 1).tdiv (s (hb (hr w s h t) h)) else hr w s h t i) else hr w s h t
theorem hr_q {w s : Int} (hw : 0 < w ∧ w ≤ 8) (hs : 1 ≤ s ∧ s ≤ 9) : 0 ≤ (w + s - 1).tdiv s ∧ (w + s - 1).tdiv s ≤ 8 := by
  rw [Int.tdiv_eq_ediv_of_nonneg (by omega)]
  have e : s = 1 ∨ s = 2 ∨ s = 3 ∨ s = 4 ∨ s = 5 ∨ s = 6 ∨ s = 7 ∨ s = 8 ∨ s = 9 := by omega
  rcases e with e | e | e | e | e | e | e | e | e <;> rw [e] <;> omega
theorem hr_r {w s : Int → Int} {h : Nat} (hs : ∀ i : Int, 0 ≤ i → i ≤ h → 1 ≤ s i ∧ s i ≤ 9) : ∀ t : Nat, (∀ i : Int, 0 ≤ i → i < t → w i ≤ 8) → ∀ i, 0 ≤ hr w s h t i ∧ hr w s h t i ≤ 8 * t
  | 0, _, i => by
    show 0 ≤ (0 : Int) ∧ (0 : Int) ≤ 8 * ((0 : Nat) : Int)
    omega
  | t + 1, hw, i => by
    have h1 := hr_r hs t (fun i h0 h1 => hw i h0 (by omega))
    have h2 := hb_r (b := hr w s h t) h
    rw [hr]
    by_cases e : 0 < w t
    · rw [if_pos e]
      have h3 := hr_q ⟨e, hw t (by omega) (by omega)⟩ (hs (hb (hr w s h t) h) h2.1 h2.2)
      have h4 := h1 (hb (hr w s h t) h)
      have h5 := h1 i
      show 0 ≤ (if i = _ then _ else _) ∧ (if i = _ then _ else _) ≤ _
      split <;> omega
    · rw [if_neg e]
      have h5 := h1 i
      omega
section MODT
variable {G : mj_G} {A : mj_M}
/-- the strokes that want a hand -/
abbrev mo_w (A : mj_M) (d : Int) : Int := if gI A 204 d = -1 then gI A 209 d else 0
theorem cm_hours_i {B : mj_M} {g : Int → Int} {h d : Int} {P : Option mj_V → mj_M → Prop} (hM : MS B) (hn : 1 ≤ gI B 200 40 ∧ gI B 200 40 ≤ 4) (hg : ∀ i, 0 ≤ i → i < gI B 200 40 → 0 ≤ g i ∧ g i ≤ 1000) (hP : ∀ l4, mj_X G n_M_hours (mj_Qm G n_M_hours P mj_no) (sF B 242 g) 0 0 115 [some (mR (some 200)), some (mI h), some (mI d), some (mI (hb g (gI B 200 40 - 1).toNat)), l4] []) :
    ∀ q : Nat, (q : Int) + 1 ≤ gI B 200 40 → mj_X G n_M_hours (mj_Qm G n_M_hours P mj_no) (sF B 242 g) 0 0 77 [some (mR (some 200)), some (mI h), some (mI d), some (mI (hb g q)), some (mI ((q : Int) + 1))] [] := by
  refine mj_loop _ (fun q => 5 - q) _ ?_
  intro q hq ih
  have hbr := hb_r (b := g) q
  have e40 : gI (sF B 242 g) 200 40 = gI B 200 40 := rfl
  have g1 := hg (hb g q) (by omega) (by omega)
  refine mx_R fun hR => ?_
  refine mx_iload 4 d_M_hours_77 rfl ?_
  refine mx_aload_n 0 d_M_hours_79 rfl rfl ?_
  refine mx_getI 40 d_M_hours_80 f_M_241 rfl rfl (hM.o) ?_
  refine mx_icmp_ge 115 d_M_hours_83 rfl (by first | assumption | exact hR _ _ | exact r32_mk (by omega) (by omega)) (by first | assumption | exact hR _ _ | exact r32_mk (by omega) (by omega)) (fun c_83 => ?_) (fun c_83 => ?_)
  · have e1 : (gI B 200 40 - 1).toNat = q := by omega
    rw [e1] at hP
    exact hP _
  · refine mj_cutI ( if g ((q : Int) + 1) < g (hb g q) then (q : Int) + 1 else hb g q) 108 ?_ (fun hJ_86 => ?_)
    · refine mx_istore_n 3 d_M_hours_108 rfl (Nat.le_of_ble_eq_true rfl) ?_
      refine mx_iinc 4 d_M_hours_109 rfl (Nat.le_of_ble_eq_true rfl) ?_
      refine mx_goto 77 d_M_hours_112 rfl ?_
      have h9 := ih (q + 1) (by omega) (by omega)
      rw [show ((q + 1 : Nat) : Int) = (q : Int) + 1 by omega] at h9
      exact h9
    · have g2 := hg ((q : Int) + 1) (by omega) (by omega)
      refine mx_aload_n 0 d_M_hours_86 rfl rfl ?_
      refine mx_getPs 42 d_M_hours_87 f_M_113 rfl rfl (hM.o) (hM.p42) ?_
      refine mx_iload 4 d_M_hours_90 rfl ?_
      refine mx_iald d_M_hours_92 (hM.s42) (by omega) (by omega) ?_
      rw [show gI (sF B 242 g) 242 ((q : Int) + 1) = g ((q : Int) + 1) from rfl]
      refine mx_aload_n 0 d_M_hours_93 rfl rfl ?_
      refine mx_getPs 42 d_M_hours_94 f_M_113 rfl rfl (hM.o) (hM.p42) ?_
      refine mx_iload_n 3 d_M_hours_97 rfl rfl ?_
      refine mx_iald d_M_hours_98 (hM.s42) (by omega) (by omega) ?_
      rw [show gI (sF B 242 g) 242 (hb g q) = g (hb g q) from rfl]
      refine mx_icmp_ge 107 d_M_hours_99 rfl (by first | assumption | exact hR _ _ | exact r32_mk (by omega) (by omega)) (by first | assumption | exact hR _ _ | exact r32_mk (by omega) (by omega)) (fun c_99 => ?_) (fun c_99 => ?_)
      · refine mx_iload_n 3 d_M_hours_107 rfl rfl ?_
        exact mj_ji hJ_86 (by omega)
      · refine mx_iload 4 d_M_hours_102 rfl ?_
        refine mx_goto 108 d_M_hours_104 rfl ?_
        exact mj_ji hJ_86 (by omega)
theorem cm_hours_d {h : Int} (hM : MS A) (hT : (0 ≤ h ∧ h < gI A 200 40)) (hnd : 0 ≤ gI A 200 3 ∧ gI A 200 3 ≤ 16) (hn : 0 ≤ gI A 200 40 ∧ gI A 200 40 ≤ 4) (hs : ∀ k, 0 ≤ k → k < gI A 200 40 → 1 ≤ gI A 241 k ∧ gI A 241 k ≤ 9) (hw : ∀ d, 0 ≤ d → d < 16 → 0 ≤ gI A 209 d ∧ gI A 209 d ≤ 8) :
    ∀ q : Nat × (Int → Int) × Option mj_V × Option mj_V, ((q.1 : Int) ≤ gI A 200 3 ∧ ∀ i, 0 ≤ i → i < gI A 200 40 → q.2.1 i = (hr (mo_w A) (gI A 241) (gI A 200 40 - 1).toNat) q.1 i) → mj_X G n_M_hours (mj_Qm G n_M_hours (fun r A' => ((0 ≤ h ∧ h < gI A 200 40) ∧ r = some (mI ((hr (mo_w A) (gI A 241) (gI A 200 40 - 1).toNat) (gI A 200 3).toNat h)) ∧ ∃ g, A' = sF (sI A 200 0 0) 242 g) ∨ (¬ (0 ≤ h ∧ h < gI A 200 40) ∧ r = some (mI 0) ∧ A' = sI A 200 0 (if (0 ≤ h ∧ h < gI A 200 40) then 0 else 1))) mj_no) (sF (sI A 200 0 0) 242 q.2.1) 0 0 45 [some (mR (some 200)), some (mI h), some (mI (q.1 : Int)), q.2.2.1, q.2.2.2] [] := by
  refine mj_loop _ (fun q => 17 - q.1) _ ?_
  intro ⟨t, g, l3, l4⟩ ⟨ht, hg⟩ ih
  replace ht : (t : Int) ≤ gI A 200 3 := ht
  replace hg : ∀ i, 0 ≤ i → i < gI A 200 40 → g i = (hr (mo_w A) (gI A 241) (gI A 200 40 - 1).toNat) t i := hg
  show mj_X G n_M_hours (mj_Qm G n_M_hours (fun r A' => ((0 ≤ h ∧ h < gI A 200 40) ∧ r = some (mI ((hr (mo_w A) (gI A 241) (gI A 200 40 - 1).toNat) (gI A 200 3).toNat h)) ∧ ∃ g, A' = sF (sI A 200 0 0) 242 g) ∨ (¬ (0 ≤ h ∧ h < gI A 200 40) ∧ r = some (mI 0) ∧ A' = sI A 200 0 (if (0 ≤ h ∧ h < gI A 200 40) then 0 else 1))) mj_no) (sF (sI A 200 0 0) 242 g) 0 0 45 [some (mR (some 200)), some (mI h), some (mI (t : Int)), l3, l4] []
  have e3 : gI (sF (sI A 200 0 0) 242 g) 200 3 = gI A 200 3 := rfl
  have e4 : gI (sF (sI A 200 0 0) 242 g) 204 t = gI A 204 t := rfl
  have e9 : gI (sF (sI A 200 0 0) 242 g) 209 t = gI A 209 t := rfl
  have hww : ∀ i : Int, 0 ≤ i → i < t → mo_w A i ≤ 8 := fun i i0 i1 => by
    have := hw i i0 (by omega)
    show (if gI A 204 i = -1 then gI A 209 i else 0) ≤ 8
    split <;> omega
  have hrr := hr_r (w := mo_w A) (s := gI A 241) (h := (gI A 200 40 - 1).toNat) (fun i i0 i1 => hs i i0 (by omega)) t hww
  have hgr : ∀ i, 0 ≤ i → i < gI A 200 40 → 0 ≤ g i ∧ g i ≤ 128 := fun i i0 i1 => by
    rw [hg i i0 i1]
    have := hrr i
    omega
  have ehb : hb g (gI A 200 40 - 1).toNat = hb ((hr (mo_w A) (gI A 241) (gI A 200 40 - 1).toNat) t) (gI A 200 40 - 1).toNat := hb_c _ fun i i0 i1 => hg i i0 (by omega)
  have hbr := hb_r (b := g) (gI A 200 40 - 1).toNat
  have hsb := hs (hb g (gI A 200 40 - 1).toNat) (by omega) (by omega)
  have e1 : ((t + 1 : Nat) : Int) = (t : Int) + 1 := by omega
  have hno : (mo_w A t ≤ 0) → ∀ l3 l4, t < 17 → (t : Int) < gI A 200 3 → mj_X G n_M_hours (mj_Qm G n_M_hours (fun r A' => ((0 ≤ h ∧ h < gI A 200 40) ∧ r = some (mI ((hr (mo_w A) (gI A 241) (gI A 200 40 - 1).toNat) (gI A 200 3).toNat h)) ∧ ∃ g, A' = sF (sI A 200 0 0) 242 g) ∨ (¬ (0 ≤ h ∧ h < gI A 200 40) ∧ r = some (mI 0) ∧ A' = sI A 200 0 (if (0 ≤ h ∧ h < gI A 200 40) then 0 else 1))) mj_no) (sF (sI A 200 0 0) 242 g) 0 0 45 [some (mR (some 200)), some (mI h), some (mI ((t : Int) + 1)), l3, l4] [] := fun hz l3 l4 ht2 ht3 => by
    have h9 := ih (t + 1, g, l3, l4) ⟨by show ((t + 1 : Nat) : Int) ≤ _; omega, fun i i0 i1 => by
      show g i = (hr (mo_w A) (gI A 241) (gI A 200 40 - 1).toNat) (t + 1) i
      rw [hr, if_neg (by omega)]
      exact hg i i0 i1⟩ (by show 17 - (t + 1) < 17 - t; omega)
    replace h9 : mj_X G n_M_hours (mj_Qm G n_M_hours (fun r A' => ((0 ≤ h ∧ h < gI A 200 40) ∧ r = some (mI ((hr (mo_w A) (gI A 241) (gI A 200 40 - 1).toNat) (gI A 200 3).toNat h)) ∧ ∃ g, A' = sF (sI A 200 0 0) 242 g) ∨ (¬ (0 ≤ h ∧ h < gI A 200 40) ∧ r = some (mI 0) ∧ A' = sI A 200 0 (if (0 ≤ h ∧ h < gI A 200 40) then 0 else 1))) mj_no) (sF (sI A 200 0 0) 242 g) 0 0 45 [some (mR (some 200)), some (mI h), some (mI ((t + 1 : Nat) : Int)), l3, l4] [] := h9
    rw [e1] at h9
    exact h9
  refine mx_R fun hR => ?_
  refine mx_iload_n 2 d_M_hours_45 rfl rfl ?_
  refine mx_aload_n 0 d_M_hours_46 rfl rfl ?_
  refine mx_getI 3 d_M_hours_47 f_M_123 rfl rfl (hM.o) ?_
  rw [e3]
  refine mx_icmp_ge 152 d_M_hours_50 rfl (by first | assumption | exact hR _ _ | exact r32_mk (by omega) (by omega)) (by first | assumption | exact hR _ _ | exact r32_mk (by omega) (by omega)) (fun c_50 => ?_) (fun c_50 => ?_)
  · refine mx_aload_n 0 d_M_hours_152 rfl rfl ?_
    refine mx_getPs 42 d_M_hours_153 f_M_113 rfl rfl (hM.o) (hM.p42) ?_
    refine mx_iload_n 1 d_M_hours_156 rfl rfl ?_
    refine mx_iald d_M_hours_157 (hM.s42) (by omega) (by omega) ?_
    refine mx_iret d_M_hours_158 rfl ?_
    refine Or.inl ⟨hT, ?_, g, rfl⟩
    rw [show (gI A 200 3).toNat = t by omega, ← hg h hT.1 hT.2]
    rfl
  · refine mx_aload_n 0 d_M_hours_53 rfl rfl ?_
    refine mx_getPs 4 d_M_hours_54 f_M_7 rfl rfl (hM.o) (hM.p4) ?_
    refine mx_iload_n 2 d_M_hours_57 rfl rfl ?_
    refine mx_iald d_M_hours_58 (hM.s4) (by omega) (by omega) ?_
    rw [e4]
    refine mx_iconst d_M_hours_59 ?_
    refine mx_icmp_ne 146 d_M_hours_60 rfl (by rw [← e4]; exact hR _ _) ((r32_mk (by omega) (by omega))) (fun c_60 => ?_) (fun c_60 => ?_)
    · refine mx_iinc 2 d_M_hours_146 rfl (Nat.le_of_ble_eq_true rfl) ?_
      refine mx_goto 45 d_M_hours_149 rfl ?_
      refine hno ?_ _ _ (by omega) (by omega)
      show (if gI A 204 t = -1 then gI A 209 t else 0) ≤ 0
      split <;> omega
    · have hwt0 := hw t (by omega) (by omega)
      refine mx_aload_n 0 d_M_hours_63 rfl rfl ?_
      refine mx_getPs 9 d_M_hours_64 f_M_26 rfl rfl (hM.o) (hM.p9) ?_
      refine mx_iload_n 2 d_M_hours_67 rfl rfl ?_
      refine mx_iald d_M_hours_68 (hM.s9) (by omega) (by omega) ?_
      rw [e9]
      refine mx_if_le 146 d_M_hours_69 rfl (by first | assumption | exact hR _ _ | exact r32_mk (by omega) (by omega)) (fun c_69 => ?_) (fun c_69 => ?_)
      · refine mx_iinc 2 d_M_hours_146 rfl (Nat.le_of_ble_eq_true rfl) ?_
        refine mx_goto 45 d_M_hours_149 rfl ?_
        refine hno ?_ _ _ (by omega) (by omega)
        show (if gI A 204 t = -1 then gI A 209 t else 0) ≤ 0
        split <;> omega
      · refine mx_iconst d_M_hours_72 ?_
        refine mx_istore_n 3 d_M_hours_73 rfl (Nat.le_of_ble_eq_true rfl) ?_
        refine mx_iconst d_M_hours_74 ?_
        refine mx_istore 4 d_M_hours_75 (Nat.le_of_ble_eq_true rfl) ?_
        refine cm_hours_i (B := sI A 200 0 0) (g := g) (h := h) (d := t) hM (by show 1 ≤ gI A 200 40 ∧ gI A 200 40 ≤ 4; omega) (fun i i0 i1 => by have := hgr i i0 i1; omega) (fun l4 => ?_) 0 (by show ((0 : Nat) : Int) + 1 ≤ gI A 200 40; omega)
        have ewt : mo_w A t = gI A 209 t := if_pos (by assumption)
        have hwt := hw t (by omega) (by omega)
        have hgb := hgr (hb g (gI A 200 40 - 1).toNat) (by omega) (by omega)
        have hqq := hr_q (w := gI A 209 t) (s := gI A 241 (hb g (gI A 200 40 - 1).toNat)) ⟨by omega, by omega⟩ hsb
        show mj_X G n_M_hours (mj_Qm G n_M_hours (fun r A' => ((0 ≤ h ∧ h < gI A 200 40) ∧ r = some (mI ((hr (mo_w A) (gI A 241) (gI A 200 40 - 1).toNat) (gI A 200 3).toNat h)) ∧ ∃ g, A' = sF (sI A 200 0 0) 242 g) ∨ (¬ (0 ≤ h ∧ h < gI A 200 40) ∧ r = some (mI 0) ∧ A' = sI A 200 0 (if (0 ≤ h ∧ h < gI A 200 40) then 0 else 1))) mj_no) (sF (sI A 200 0 0) 242 g) 0 0 115 [some (mR (some 200)), some (mI h), some (mI (t : Int)), some (mI (hb g (gI A 200 40 - 1).toNat)), l4] []
        refine mx_R fun hR => ?_
        refine mx_aload_n 0 d_M_hours_115 rfl rfl ?_
        refine mx_getPs 42 d_M_hours_116 f_M_113 rfl rfl (hM.o) (hM.p42) ?_
        refine mx_iload_n 3 d_M_hours_119 rfl rfl ?_
        refine mx_dup2 d_M_hours_120 (fun z h => by cases h) (fun z h => by cases h) ?_
        refine mx_iald d_M_hours_121 (hM.s42) (by omega) (by omega) ?_
        rw [show gI (sF (sI A 200 0 0) 242 g) 242 (hb g (gI A 200 40 - 1).toNat) = g (hb g (gI A 200 40 - 1).toNat) from rfl]
        refine mx_aload_n 0 d_M_hours_122 rfl rfl ?_
        refine mx_getPs 9 d_M_hours_123 f_M_26 rfl rfl (hM.o) (hM.p9) ?_
        refine mx_iload_n 2 d_M_hours_126 rfl rfl ?_
        refine mx_iald d_M_hours_127 (hM.s9) (by omega) (by omega) ?_
        rw [e9]
        refine mx_aload_n 0 d_M_hours_128 rfl rfl ?_
        refine mx_getPs 41 d_M_hours_129 f_M_110 rfl rfl (hM.o) (hM.p41) ?_
        refine mx_iload_n 3 d_M_hours_132 rfl rfl ?_
        refine mx_iald d_M_hours_133 (hM.s41) (by omega) (by omega) ?_
        rw [show gI (sF (sI A 200 0 0) 242 g) 241 (hb g (gI A 200 40 - 1).toNat) = gI A 241 (hb g (gI A 200 40 - 1).toNat) from rfl]
        refine mx_iadd d_M_hours_134 ?_
        refine mx_iconst d_M_hours_135 ?_
        refine mx_isub d_M_hours_136 ?_
        refine mx_aload_n 0 d_M_hours_137 rfl rfl ?_
        refine mx_getPs 41 d_M_hours_138 f_M_110 rfl rfl (hM.o) (hM.p41) ?_
        refine mx_iload_n 3 d_M_hours_141 rfl rfl ?_
        refine mx_iald d_M_hours_142 (hM.s41) (by omega) (by omega) ?_
        rw [show gI (sF (sI A 200 0 0) 242 g) 241 (hb g (gI A 200 40 - 1).toNat) = gI A 241 (hb g (gI A 200 40 - 1).toNat) from rfl]
        refine mx_idiv d_M_hours_143 (by first | assumption | exact hR _ _ | exact r32_mk (by omega) (by omega)) (by first | assumption | exact hR _ _ | exact r32_mk (by omega) (by omega)) (by omega) ?_
        refine mx_iadd d_M_hours_144 ?_
        refine mx_iast d_M_hours_145 (hM.s42) (by omega) (by omega) (by first | assumption | exact hR _ _ | exact r32_mk (by omega) (by omega)) ?_
        refine mx_R fun hR_1 => ?_
        rw [sI_sF]
        refine mx_iinc 2 d_M_hours_146 rfl (Nat.le_of_ble_eq_true rfl) ?_
        refine mx_goto 45 d_M_hours_149 rfl ?_
        have h9 := ih (t + 1, _, some (mI (hb g (gI A 200 40 - 1).toNat)), l4) ⟨by show ((t + 1 : Nat) : Int) ≤ _; omega, fun i i0 i1 => by
          show (if i = hb g (gI A 200 40 - 1).toNat then g (hb g (gI A 200 40 - 1).toNat) + (gI A 209 t + gI A 241 (hb g (gI A 200 40 - 1).toNat) - 1).tdiv (gI A 241 (hb g (gI A 200 40 - 1).toNat)) else g i) = (hr (mo_w A) (gI A 241) (gI A 200 40 - 1).toNat) (t + 1) i
          have h8 : 0 < mo_w A t := by rw [ewt]; omega
          rw [hr, if_pos h8]
          show _ = (if i = hb ((hr (mo_w A) (gI A 241) (gI A 200 40 - 1).toNat) t) (gI A 200 40 - 1).toNat then (hr (mo_w A) (gI A 241) (gI A 200 40 - 1).toNat) t (hb ((hr (mo_w A) (gI A 241) (gI A 200 40 - 1).toNat) t) (gI A 200 40 - 1).toNat) + (mo_w A t + gI A 241 (hb ((hr (mo_w A) (gI A 241) (gI A 200 40 - 1).toNat) t) (gI A 200 40 - 1).toNat) - 1).tdiv (gI A 241 (hb ((hr (mo_w A) (gI A 241) (gI A 200 40 - 1).toNat) t) (gI A 200 40 - 1).toNat)) else (hr (mo_w A) (gI A 241) (gI A 200 40 - 1).toNat) t i)
          rw [← ehb, ewt, ← hg (hb g (gI A 200 40 - 1).toNat) (by omega) (by omega), ← hg i i0 i1]⟩ (by show 17 - (t + 1) < 17 - t; omega)
        exact h9
theorem cm_hours {h : Int} (hM : MS A) (hnd : 0 ≤ gI A 200 3 ∧ gI A 200 3 ≤ 16) (hn : 0 ≤ gI A 200 40 ∧ gI A 200 40 ≤ 4) (hs : ∀ k, 0 ≤ k → k < gI A 200 40 → 1 ≤ gI A 241 k ∧ gI A 241 k ≤ 9) (hw : ∀ d, 0 ≤ d → d < 16 → 0 ≤ gI A 209 d ∧ gI A 209 d ≤ 8) (hh : r32 h) : mj_Cal G n_M_hours [mR (some 200), mI h] A (fun r A' => ((0 ≤ h ∧ h < gI A 200 40) ∧ r = some (mI ((hr (mo_w A) (gI A 241) (gI A 200 40 - 1).toNat) (gI A 200 3).toNat h)) ∧ ∃ g, A' = sF (sI A 200 0 0) 242 g) ∨ (¬ (0 ≤ h ∧ h < gI A 200 40) ∧ r = some (mI 0) ∧ A' = sI A 200 0 (if (0 ≤ h ∧ h < gI A 200 40) then 0 else 1))) mj_no := by
  refine mj_bodyK 0 0 [some (mR (some 200)), some (mI h), none, none, none] rfl rfl rfl (by decide +kernel) (Nat.le_of_ble_eq_true rfl) (by simp) rfl ?_
  refine mx_R fun hR => ?_
  refine mx_aload_n 0 d_M_hours_0 rfl rfl ?_
  refine mx_iload_n 1 d_M_hours_1 rfl rfl ?_
  refine mx_iconst d_M_hours_2 ?_
  refine mx_aload_n 0 d_M_hours_3 rfl rfl ?_
  refine mx_getI 40 d_M_hours_4 f_M_241 rfl rfl (hM.o) ?_
  refine mx_iconst d_M_hours_7 ?_
  refine mx_isub d_M_hours_8 ?_
  refine mx_callS (kc := 0) (ks := 0) (N := n_M_in) (as := [_, _, _]) d_M_hours_9 s_M_126 ⟨Nat.le_of_ble_eq_true rfl, Nat.le_of_ble_eq_true rfl⟩ rfl (mj_wt_8 (Nat.le_of_ble_eq_true rfl)) (cm_in hh (r32_mk (by omega) (by omega)) (r32_mk (by omega) (by omega))) (fun r_9 A_9 h_9 => ?_) (fun E_9 A_x h_9 => ?_)
  rotate_left
  · exact h_9.elim
  obtain ⟨rfl, hA_9⟩ := h_9
  obtain rfl := hA_9.symm
  clear hA_9
  refine mx_R fun hR_1 => ?_
  refine mx_callV (kc := 0) (ks := 0) (N := n_M_asked1) (as := [_]) (ci := 7) d_M_hours_12 s_M_138 ⟨Nat.le_of_ble_eq_true rfl, Nat.le_of_ble_eq_true rfl⟩ rfl (mj_wt_8 (Nat.le_of_ble_eq_true rfl)) (hM.o) ⟨_, rfl, rfl⟩ (cm_asked1 _ hM) (fun r_12 A_12 h_12 => ?_) (fun E_12 A_x h_12 => ?_)
  rotate_left
  · exact h_12.elim
  obtain ⟨rfl, hA_12⟩ := h_12
  obtain rfl := hA_12.symm
  clear hA_12
  refine mx_R fun hR_2 => ?_
  refine mx_if_ne 20 d_M_hours_15 rfl (by first | assumption | exact hR_2 _ _ | exact hR_1 _ _ | exact hR _ _ | exact r32_mk (by omega) (by omega)) (fun c_15 => ?_) (fun c_15 => ?_)
  · have hT : (0 ≤ h ∧ h < gI A 200 40) := by omega
    refine mj_Xeq (A' := sI A 200 0 0) (by rw [if_pos (by omega)]) ?_
    have hl : ∀ i : Int, (0 ≤ i ∧ i ≤ gI A 200 40) → mj_X G n_M_hours (mj_Qm G n_M_hours (fun r A' => ((0 ≤ h ∧ h < gI A 200 40) ∧ r = some (mI ((hr (mo_w A) (gI A 241) (gI A 200 40 - 1).toNat) (gI A 200 3).toNat h)) ∧ ∃ g, A' = sF (sI A 200 0 0) 242 g) ∨ (¬ (0 ≤ h ∧ h < gI A 200 40) ∧ r = some (mI 0) ∧ A' = sI A 200 0 (if (0 ≤ h ∧ h < gI A 200 40) then 0 else 1))) mj_no) (sF (sI A 200 0 0) 242 (fun j => if 0 ≤ j ∧ j < i then 0 else gI A 242 j)) 0 0 22 [some (mR (some 200)), some (mI h), some (mI i), none, none] [] := by
      refine mj_loop _ (fun i => (5 - i).toNat) _ ?_
      intro i hi ih
      have e40 : gI (sF (sI A 200 0 0) 242 (fun j => if 0 ≤ j ∧ j < i then 0 else gI A 242 j)) 200 40 = gI A 200 40 := rfl
      refine mx_R fun hR => ?_
      refine mx_iload_n 2 d_M_hours_22 rfl rfl ?_
      refine mx_aload_n 0 d_M_hours_23 rfl rfl ?_
      refine mx_getI 40 d_M_hours_24 f_M_241 rfl rfl (hM.o) ?_
      rw [e40]
      refine mx_icmp_ge 43 d_M_hours_27 rfl (by first | assumption | exact hR _ _ | exact r32_mk (by omega) (by omega)) (by first | assumption | exact hR _ _ | exact r32_mk (by omega) (by omega)) (fun c_27 => ?_) (fun c_27 => ?_)
      · refine mx_iconst d_M_hours_43 ?_
        refine mx_istore_n 2 d_M_hours_44 rfl (Nat.le_of_ble_eq_true rfl) ?_
        exact cm_hours_d hM hT hnd hn hs hw (0, (fun j => if 0 ≤ j ∧ j < i then 0 else gI A 242 j), none, none) ⟨by show ((0 : Nat) : Int) ≤ _; omega, fun j j0 j1 => if_pos ⟨j0, by omega⟩⟩
      · refine mx_aload_n 0 d_M_hours_30 rfl rfl ?_
        refine mx_getPs 42 d_M_hours_31 f_M_113 rfl rfl (hM.o) (hM.p42) ?_
        refine mx_iload_n 2 d_M_hours_34 rfl rfl ?_
        refine mx_iconst d_M_hours_35 ?_
        refine mx_iast d_M_hours_36 (hM.s42) (by omega) (by omega) (by first | assumption | exact hR _ _ | exact r32_mk (by omega) (by omega)) ?_
        refine mx_R fun hR_1 => ?_
        refine mx_iinc 2 d_M_hours_37 rfl (Nat.le_of_ble_eq_true rfl) ?_
        refine mx_goto 22 d_M_hours_40 rfl ?_
        refine mj_Xeq ?_ (ih (i + 1) ⟨by omega, by omega⟩ (by omega))
        rw [sI_sF]
        refine sF_congr fun j => ?_
        by_cases e : j = i
        · rw [if_pos e, if_pos (by omega)]
        · rw [if_neg e]
          by_cases e2 : 0 ≤ j ∧ j < i
          · rw [if_pos e2, if_pos (by omega)]
          · rw [if_neg e2, if_neg (by omega)]
    refine mx_R fun hR => ?_
    refine mx_iconst d_M_hours_20 ?_
    refine mx_istore_n 2 d_M_hours_21 rfl (Nat.le_of_ble_eq_true rfl) ?_
    refine mj_Xeq (sF_id fun j => ?_).symm (hl 0 ⟨by omega, by omega⟩)
    rw [if_neg (by omega)]
    rfl
  · refine mx_iconst d_M_hours_18 ?_
    refine mx_iret d_M_hours_19 rfl ?_
    exact Or.inr ⟨by omega, rfl, by rw [mj_ic (show (0 ≤ h ∧ h ≤ gI A 200 40 - 1) ↔ (0 ≤ h ∧ h < gI A 200 40) by omega)]⟩
end MODT
