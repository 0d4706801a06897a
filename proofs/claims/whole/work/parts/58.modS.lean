/-! THE REFERENCE, 28: faults, approve, hours -/
section MODS
variable {G : mj_G} {A : mj_M}
/-- a level below n has a drawing without strokes -/
def mo_fb (C : Int → cT) (A : mj_M) (s f : Int) : Nat → Bool
  | 0 => false
  | n + 1 => mo_fb C A s f n || (decide (mo_ha A s n f ≠ -1) && decide (c_n (C (mo_ha A s n f)) = 0))
/-- a level below n jumps -/
def mo_fj (A : mj_M) (s f : Int) : Nat → Bool
  | 0 => false
  | n + 1 => mo_fj A s f n || (decide (0 < f ∧ f + 1 < gI A 224 s) && decide (mo_ha A s n (f - 1) ≠ -1 ∧ mo_ha A s n (f - 1) = mo_ha A s n (f + 1) ∧ mo_ha A s n f ≠ mo_ha A s n (f - 1)))
/-- nothing is seen -/
def mo_fe (A : mj_M) (s f : Int) (n : Nat) : Bool := mj_all (fun p => decide (mo_se A s f (p.tmod 16) (p.tdiv 16) = 0)) n
noncomputable def mo_fa (C : Int → cT) (A : mj_M) (s f : Int) : Int := (if mo_fb C A s f 4 = true then 1 else 0) + (if mo_fj A s f 4 = true then 2 else 0) + (if mo_fe (vi C A) s f 192 = true then 4 else 0)
theorem cm_faults_e {C : Int → cT} {s f : Int} {W : mj_M} (h : MI C A) (hT : (0 ≤ s ∧ s < gI A 200 23 ∧ 0 ≤ f ∧ f < gI A 224 s)) (hL : LZ C (sI A 200 0 0) W) (hM : MS W) {l6 l7 : Option mj_V} :
    mj_X G n_M_faults (mj_Qm G n_M_faults (fun r A' => ((0 ≤ s ∧ s < gI A 200 23 ∧ 0 ≤ f ∧ f < gI A 224 s) ∧ r = some (mI (mo_fa C A s f)) ∧ LZ C (sI A 200 0 0) A') ∨ (¬ (0 ≤ s ∧ s < gI A 200 23 ∧ 0 ≤ f ∧ f < gI A 224 s) ∧ r = some (mI 0) ∧ A' = sI A 200 0 (if (0 ≤ s ∧ s < gI A 200 23 ∧ 0 ≤ f ∧ f < gI A 224 s) then 0 else 1))) mj_no) W 0 0 139 [some (mR (some 200)), some (mI s), some (mI f), some (mI (if mo_fb C A s f 4 = true then 1 else 0)), some (mI (if mo_fj A s f 4 = true then 1 else 0)), some (mI 4), l6, l7] [] := by
  have y1 := hL.y
  have h0 := MI_0 (v := 0) h
  have e24 : gI W 224 s = gI A 224 s := y1.I 224 s (by omega) (by omega)
  have e23 : gI W 200 23 = gI A 200 23 := ly_2 y1 23 (by omega)
  have hg := ly_rg y1 h0.g
  have hl : ∀ q : Nat, q ≤ 192 → mj_X G n_M_faults (mj_Qm G n_M_faults (fun r A' => ((0 ≤ s ∧ s < gI A 200 23 ∧ 0 ≤ f ∧ f < gI A 224 s) ∧ r = some (mI (mo_fa C A s f)) ∧ LZ C (sI A 200 0 0) A') ∨ (¬ (0 ≤ s ∧ s < gI A 200 23 ∧ 0 ≤ f ∧ f < gI A 224 s) ∧ r = some (mI 0) ∧ A' = sI A 200 0 (if (0 ≤ s ∧ s < gI A 200 23 ∧ 0 ≤ f ∧ f < gI A 224 s) then 0 else 1))) mj_no) W 0 0 145 [some (mR (some 200)), some (mI s), some (mI f), some (mI (if mo_fb C A s f 4 = true then 1 else 0)), some (mI (if mo_fj A s f 4 = true then 1 else 0)), some (mI (if mo_fe (vi C A) s f q = true then 1 else 0)), some (mI (q : Int)), l7] [] := by
    refine mj_loop _ (fun q => 193 - q) _ ?_
    intro q hq ih
    have hse : mo_se W s f ((q : Int).tmod 16) ((q : Int).tdiv 16) = mo_se (vi C A) s f ((q : Int).tmod 16) ((q : Int).tdiv 16) := by rw [vi_se hL h0.g ⟨hT.1, hT.2.1⟩ hT.2.2, vi_0]
    have hsb : 0 ≤ mo_se W s f ((q : Int).tmod 16) ((q : Int).tdiv 16) ∧ mo_se W s f ((q : Int).tmod 16) ((q : Int).tdiv 16) ≤ 99 := mo_sl_b (by rw [ly_fn y1 (c := 222) (by omega) (by omega)]; exact h0.co) 4
    rw [hse] at hsb
    refine mx_R fun hR => ?_
    refine mx_iload 6 d_M_faults_145 rfl ?_
    refine mx_sipush d_M_faults_147 (by decide) ?_
    refine mx_icmp_ge 188 d_M_faults_150 rfl (by first | assumption | exact hR _ _ | exact r32_mk (by omega) (by omega)) (by first | assumption | exact hR _ _ | exact r32_mk (by omega) (by omega)) (fun c_150 => ?_) (fun c_150 => ?_)
    · have e192 : q = 192 := by omega
      subst e192
      refine mx_R fun hR => ?_
      refine mj_cutI ( if mo_fb C A s f 4 = true then 1 else 0) 197 ?_ (fun hJ_188 => ?_)
      · refine mj_cutI ( if mo_fj A s f 4 = true then 2 else 0) 207 ?_ (fun hJ_197 => ?_)
        · refine mx_iadd d_M_faults_207 ?_
          refine mj_cutI ( if mo_fe (vi C A) s f 192 = true then 4 else 0) 218 ?_ (fun hJ_208 => ?_)
          · refine mx_iadd d_M_faults_218 ?_
            refine mx_iret d_M_faults_219 rfl ?_
            exact Or.inl ⟨hT, rfl, hL⟩
          · refine mx_iload 5 d_M_faults_208 rfl ?_
            refine mx_if_eq 217 d_M_faults_210 rfl (by split <;> exact r32_mk (by omega) (by omega)) (fun c_210 => ?_) (fun c_210 => ?_)
            · refine mx_iconst d_M_faults_217 ?_
              exact mj_ji hJ_208 (by (first | rw [if_pos (mj_if1 c_210)] | rw [if_neg (mj_if0 c_210)]))
            · refine mx_iconst d_M_faults_213 ?_
              refine mx_goto 218 d_M_faults_214 rfl ?_
              exact mj_ji hJ_208 (by (first | rw [if_pos (mj_if1 c_210)] | rw [if_neg (mj_if0 c_210)]))
        · refine mx_iload 4 d_M_faults_197 rfl ?_
          refine mx_if_eq 206 d_M_faults_199 rfl (by first | assumption | exact hR _ _ | exact r32_mk (by omega) (by omega)) (fun c_199 => ?_) (fun c_199 => ?_)
          · refine mx_iconst d_M_faults_206 ?_
            exact mj_ji hJ_197 (by (first | rw [if_pos (mj_if1 c_199)] | rw [if_neg (mj_if0 c_199)]))
          · refine mx_iconst d_M_faults_202 ?_
            refine mx_goto 207 d_M_faults_203 rfl ?_
            exact mj_ji hJ_197 (by (first | rw [if_pos (mj_if1 c_199)] | rw [if_neg (mj_if0 c_199)]))
      · refine mx_iload_n 3 d_M_faults_188 rfl rfl ?_
        refine mx_if_eq 196 d_M_faults_189 rfl (by first | assumption | exact hR _ _ | exact r32_mk (by omega) (by omega)) (fun c_189 => ?_) (fun c_189 => ?_)
        · refine mx_iconst d_M_faults_196 ?_
          exact mj_ji hJ_188 (by (first | rw [if_pos (mj_if1 c_189)] | rw [if_neg (mj_if0 c_189)]))
        · refine mx_iconst d_M_faults_192 ?_
          refine mx_goto 197 d_M_faults_193 rfl ?_
          exact mj_ji hJ_188 (by (first | rw [if_pos (mj_if1 c_189)] | rw [if_neg (mj_if0 c_189)]))
    · refine mx_iload 5 d_M_faults_153 rfl ?_
      refine mj_cutB (mo_se (vi C A) s f ((q : Int).tmod 16) ((q : Int).tdiv 16) = 0) 179 ?_ (fun hJ_155 => ?_)
      · refine mx_iandB d_M_faults_179 mj_01 mj_01 ?_
        rw [mj_andP]
        refine mx_istore 5 d_M_faults_180 (Nat.le_of_ble_eq_true rfl) ?_
        refine mx_iinc 6 d_M_faults_182 rfl (Nat.le_of_ble_eq_true rfl) ?_
        refine mx_goto 145 d_M_faults_185 rfl ?_
        have h9 := ih (q + 1) (by omega) (by omega)
        rw [show ((q + 1 : Nat) : Int) = (q : Int) + 1 by omega] at h9
        rw [mj_ic (show (mo_fe (vi C A) s f q = true ∧ mo_se (vi C A) s f ((q : Int).tmod 16) ((q : Int).tdiv 16) = 0) ↔ mo_fe (vi C A) s f (q + 1) = true by
          rw [show mo_fe (vi C A) s f (q + 1) = (mo_fe (vi C A) s f q && decide (mo_se (vi C A) s f ((q : Int).tmod 16) ((q : Int).tdiv 16) = 0)) from rfl, Bool.and_eq_true, decide_eq_true_iff])]
        exact h9
      · refine mx_aload_n 0 d_M_faults_155 rfl rfl ?_
        refine mx_iload_n 1 d_M_faults_156 rfl rfl ?_
        refine mx_iload_n 2 d_M_faults_157 rfl rfl ?_
        refine mx_iload 6 d_M_faults_158 rfl ?_
        refine mx_bipush d_M_faults_160 (by decide) ?_
        refine mx_irem d_M_faults_162 (by first | assumption | exact hR _ _ | exact r32_mk (by omega) (by omega)) (by first | assumption | exact hR _ _ | exact r32_mk (by omega) (by omega)) (by omega) ?_
        refine mx_iload 6 d_M_faults_163 rfl ?_
        refine mx_bipush d_M_faults_165 (by decide) ?_
        refine mx_idiv d_M_faults_167 (by first | assumption | exact hR _ _ | exact r32_mk (by omega) (by omega)) (by first | assumption | exact hR _ _ | exact r32_mk (by omega) (by omega)) (by omega) ?_
        refine mx_callV (kc := 0) (ks := 0) (N := n_M_seenAt) (as := [_, _, _, _]) (ci := 7) d_M_faults_168 s_M_226 ⟨Nat.le_of_ble_eq_true rfl, Nat.le_of_ble_eq_true rfl⟩ rfl (mj_wt_8 (Nat.le_of_ble_eq_true rfl)) (hM.o) ⟨_, rfl, rfl⟩ (cm_seenAt (A := W) hM hg (ly_pg y1 h0.p) (ly_hg y1 h0.h) hL.z.pi (by rw [e23]; exact ⟨hT.1, hT.2.1⟩) (by rw [e24]; exact hT.2.2) (mo_ip_p ⟨by omega, by omega⟩)) (fun r_168 A_168 h_168 => ?_) (fun E_168 A_x h_168 => ?_)
        rotate_left
        · exact h_168.elim
        obtain ⟨rfl, hA_168⟩ := h_168
        obtain rfl := hA_168.symm
        clear hA_168
        refine mx_R fun hR_1 => ?_
        rw [hse]
        refine mx_if_ne 178 d_M_faults_171 rfl (by first | assumption | exact hR_1 _ _ | exact hR _ _ | exact r32_mk (by omega) (by omega)) (fun c_171 => ?_) (fun c_171 => ?_)
        · refine mx_iconst d_M_faults_178 ?_
          first | exact mj_j1 hJ_155 (by omega) | exact mj_j0 hJ_155 (by omega)
        · refine mx_iconst d_M_faults_174 ?_
          refine mx_goto 179 d_M_faults_175 rfl ?_
          first | exact mj_j1 hJ_155 (by omega) | exact mj_j0 hJ_155 (by omega)
  refine mx_R fun hR => ?_
  refine mx_iconst d_M_faults_139 ?_
  refine mx_istore 5 d_M_faults_140 (Nat.le_of_ble_eq_true rfl) ?_
  refine mx_iconst d_M_faults_142 ?_
  refine mx_istore 6 d_M_faults_143 (Nat.le_of_ble_eq_true rfl) ?_
  exact hl 0 (by omega)
theorem cm_faults {C : Int → cT} {s f : Int} (h : MI C A) (hs : r32 s) (hf : r32 f) : mj_Cal G n_M_faults [mR (some 200), mI s, mI f] A (fun r A' => ((0 ≤ s ∧ s < gI A 200 23 ∧ 0 ≤ f ∧ f < gI A 224 s) ∧ r = some (mI (mo_fa C A s f)) ∧ LZ C (sI A 200 0 0) A') ∨ (¬ (0 ≤ s ∧ s < gI A 200 23 ∧ 0 ≤ f ∧ f < gI A 224 s) ∧ r = some (mI 0) ∧ A' = sI A 200 0 (if (0 ≤ s ∧ s < gI A 200 23 ∧ 0 ≤ f ∧ f < gI A 224 s) then 0 else 1))) mj_no := by
  refine mj_bodyK 0 0 [some (mR (some 200)), some (mI s), some (mI f), none, none, none, none, none] rfl rfl rfl (by decide +kernel) (Nat.le_of_ble_eq_true rfl) (by simp) rfl ?_
  have hM := h.M
  have hns := h.g.ns
  refine mx_R fun hR => ?_
  refine mx_aload_n 0 d_M_faults_0 rfl rfl ?_
  refine mx_aload_n 0 d_M_faults_1 rfl rfl ?_
  refine mx_iload_n 1 d_M_faults_2 rfl rfl ?_
  refine mx_iload_n 2 d_M_faults_3 rfl rfl ?_
  refine mx_callV (kc := 0) (ks := 0) (N := n_M_isFrame) (as := [_, _]) (ci := 7) d_M_faults_4 s_M_202 ⟨Nat.le_of_ble_eq_true rfl, Nat.le_of_ble_eq_true rfl⟩ rfl (mj_wt_8 (Nat.le_of_ble_eq_true rfl)) (hM.o) ⟨_, rfl, rfl⟩ (cm_isFrame hM hs hf hns h.g.fr) (fun r_4 A_4 h_4 => ?_) (fun E_4 A_x h_4 => ?_)
  rotate_left
  · exact h_4.elim
  obtain ⟨rfl, hA_4⟩ := h_4
  obtain rfl := hA_4.symm
  clear hA_4
  refine mx_R fun hR_1 => ?_
  refine mx_callV (kc := 0) (ks := 0) (N := n_M_asked1) (as := [_]) (ci := 7) d_M_faults_7 s_M_138 ⟨Nat.le_of_ble_eq_true rfl, Nat.le_of_ble_eq_true rfl⟩ rfl (mj_wt_8 (Nat.le_of_ble_eq_true rfl)) (hM.o) ⟨_, rfl, rfl⟩ (cm_asked1 _ hM) (fun r_7 A_7 h_7 => ?_) (fun E_7 A_x h_7 => ?_)
  rotate_left
  · exact h_7.elim
  obtain ⟨rfl, hA_7⟩ := h_7
  obtain rfl := hA_7.symm
  clear hA_7
  refine mx_R fun hR_2 => ?_
  refine mx_if_ne 15 d_M_faults_10 rfl (by first | assumption | exact hR_2 _ _ | exact hR_1 _ _ | exact hR _ _ | exact r32_mk (by omega) (by omega)) (fun c_10 => ?_) (fun c_10 => ?_)
  · have hT : (0 ≤ s ∧ s < gI A 200 23 ∧ 0 ≤ f ∧ f < gI A 224 s) := by omega
    refine mj_Xeq (A' := sI A 200 0 0) (by rw [if_pos hT]) ?_
    have h0 := MI_0 (v := 0) h
    refine mx_R fun hR => ?_
    refine mx_aload_n 0 d_M_faults_15 rfl rfl ?_
    refine mx_callV (kc := 0) (ks := 0) (N := n_M_lays) (as := []) (ci := 7) d_M_faults_16 s_M_229 ⟨Nat.le_of_ble_eq_true rfl, Nat.le_of_ble_eq_true rfl⟩ rfl (mj_wt_8 (Nat.le_of_ble_eq_true rfl)) (hM.o) ⟨_, rfl, rfl⟩ (cm_lays (C := C) h0.M h0.g.nd h0.z h0.C) (fun r_16 A_16 h_16 => ?_) (fun E_16 A_x h_16 => ?_)
    rotate_left
    · exact h_16.elim
    obtain ⟨rfl, y1, y2, y3, y4, y5⟩ := h_16
    refine mx_R fun hR_1 => ?_
    have hM := ly_MS y1 h0.M
    have hL : LZ C (sI A 200 0 0) A_16 := ⟨y1, y2, y3, y4, y5⟩
    have hfr := h.g.fr s hT.1 hT.2.1
    have e24 : gI A_16 224 s = gI A 224 s := y1.I 224 s (by omega) (by omega)
    have e23 : gI A_16 200 23 = gI A 200 23 := ly_2 y1 23 (by omega)
    have hg := ly_rg y1 h0.g
    have hnd := h.g.nd
    have eha : ∀ l f, mo_ha A_16 s l f = mo_ha A s l f := fun l f => by rw [mo_ha_c (ly_rv y1), mo_ha_0]
    have hl : ∀ q : Nat × Option mj_V × Option mj_V, q.1 ≤ 4 → mj_X G n_M_faults (mj_Qm G n_M_faults (fun r A' => ((0 ≤ s ∧ s < gI A 200 23 ∧ 0 ≤ f ∧ f < gI A 224 s) ∧ r = some (mI (mo_fa C A s f)) ∧ LZ C (sI A 200 0 0) A') ∨ (¬ (0 ≤ s ∧ s < gI A 200 23 ∧ 0 ≤ f ∧ f < gI A 224 s) ∧ r = some (mI 0) ∧ A' = sI A 200 0 (if (0 ≤ s ∧ s < gI A 200 23 ∧ 0 ≤ f ∧ f < gI A 224 s) then 0 else 1))) mj_no) A_16 0 0 27 [some (mR (some 200)), some (mI s), some (mI f), some (mI (if mo_fb C A s f q.1 = true then 1 else 0)), some (mI (if mo_fj A s f q.1 = true then 1 else 0)), some (mI (q.1 : Int)), q.2.1, q.2.2] [] := by
      refine mj_loop _ (fun q => 5 - q.1) _ ?_
      intro ⟨n, l6, l7⟩ hq ih
      replace hq : n ≤ 4 := hq
      show mj_X G n_M_faults (mj_Qm G n_M_faults (fun r A' => ((0 ≤ s ∧ s < gI A 200 23 ∧ 0 ≤ f ∧ f < gI A 224 s) ∧ r = some (mI (mo_fa C A s f)) ∧ LZ C (sI A 200 0 0) A') ∨ (¬ (0 ≤ s ∧ s < gI A 200 23 ∧ 0 ≤ f ∧ f < gI A 224 s) ∧ r = some (mI 0) ∧ A' = sI A 200 0 (if (0 ≤ s ∧ s < gI A 200 23 ∧ 0 ≤ f ∧ f < gI A 224 s) then 0 else 1))) mj_no) A_16 0 0 27 [some (mR (some 200)), some (mI s), some (mI f), some (mI (if mo_fb C A s f n = true then (1 : Int) else 0)), some (mI (if mo_fj A s f n = true then (1 : Int) else 0)), some (mI (n : Int)), l6, l7] []
      have hha := mo_ha_r h.g (l := n) (f := f) ⟨hT.1, hT.2.1⟩
      have hha1 := mo_ha_r h.g (l := n) (f := f - 1) ⟨hT.1, hT.2.1⟩
      have hha2 := mo_ha_r h.g (l := n) (f := f + 1) ⟨hT.1, hT.2.1⟩
      have e9 : mo_ha A s n f ≠ -1 → n < 4 → gI A_16 209 (mo_ha A s n f) = c_n (C (mo_ha A s n f)) := fun hx hn => by
        have hq := hha ⟨by omega, by omega⟩ hT.2.2
        exact (y4 _ (by omega) (by show mo_ha A s n f < gI A 200 3; omega)).1.n.symm
      refine mx_R fun hR => ?_
      refine mx_iload 5 d_M_faults_27 rfl ?_
      refine mx_iconst d_M_faults_29 ?_
      refine mx_icmp_ge 139 d_M_faults_30 rfl (by first | assumption | exact hR _ _ | exact r32_mk (by omega) (by omega)) (by first | assumption | exact hR _ _ | exact r32_mk (by omega) (by omega)) (fun c_30 => ?_) (fun c_30 => ?_)
      · have e4 : n = 4 := by omega
        subst e4
        exact cm_faults_e h hT hL hM
      · refine mx_aload_n 0 d_M_faults_33 rfl rfl ?_
        refine mx_iload_n 1 d_M_faults_34 rfl rfl ?_
        refine mx_iload 5 d_M_faults_35 rfl ?_
        refine mx_iload_n 2 d_M_faults_37 rfl rfl ?_
        refine mx_callV (kc := 0) (ks := 0) (N := n_M_hasAt) (as := [_, _, _]) (ci := 7) d_M_faults_38 s_M_218 ⟨Nat.le_of_ble_eq_true rfl, Nat.le_of_ble_eq_true rfl⟩ rfl (mj_wt_8 (Nat.le_of_ble_eq_true rfl)) (hM.o) ⟨_, rfl, rfl⟩ (cm_hasAt (A := A_16) hM hg (by rw [e23]; exact ⟨hT.1, hT.2.1⟩) ⟨by omega, by omega⟩ (by rw [e24]; exact hT.2.2)) (fun r_38 A_38 h_38 => ?_) (fun E_38 A_x h_38 => ?_)
        rotate_left
        · exact h_38.elim
        obtain ⟨rfl, hA_38⟩ := h_38
        obtain rfl := hA_38.symm
        clear hA_38
        refine mx_R fun hR_1 => ?_
        rw [eha]
        refine mx_istore 6 d_M_faults_41 (Nat.le_of_ble_eq_true rfl) ?_
        have hq := hha ⟨by omega, by omega⟩ hT.2.2
        refine mx_iload_n 3 d_M_faults_43 rfl rfl ?_
        refine mj_cutB ((mo_ha A s n f ≠ -1 ∧ c_n (C (mo_ha A s n f)) = 0)) 65 ?_ (fun hJ_44 => ?_)
        · refine mx_iorB d_M_faults_65 mj_01 mj_01 ?_
          rw [mj_orP]
          refine mx_istore_n 3 d_M_faults_66 rfl (Nat.le_of_ble_eq_true rfl) ?_
          refine mx_iload_n 2 d_M_faults_67 rfl rfl ?_
          refine mx_if_le 133 d_M_faults_68 rfl (by first | assumption | exact hR_1 _ _ | exact hR _ _ | exact r32_mk (by omega) (by omega)) (fun c_68 => ?_) (fun c_68 => ?_)
          · refine mx_iinc 5 d_M_faults_133 rfl (Nat.le_of_ble_eq_true rfl) ?_
            refine mx_goto 27 d_M_faults_136 rfl ?_
            have hb : (mo_fb C A s f n = true ∨ (mo_ha A s n f ≠ -1 ∧ c_n (C (mo_ha A s n f)) = 0)) ↔ mo_fb C A s f (n + 1) = true := by
              rw [mo_fb, Bool.or_eq_true, Bool.and_eq_true, decide_eq_true_iff, decide_eq_true_iff]
            rw [mj_ic hb]
            first
              | (have hc : ¬ (0 < f ∧ f + 1 < gI A 224 s) := by omega
                 have hj : mo_fj A s f n = true ↔ mo_fj A s f (n + 1) = true := by
                   rw [mo_fj, Bool.or_eq_true, Bool.and_eq_true, decide_eq_true_iff, decide_eq_true_iff]
                   exact ⟨Or.inl, fun k => k.resolve_right (fun z => hc z.1)⟩
                 rw [mj_ic hj]
                 exact ih (n + 1, _, _) (by show n + 1 ≤ 4; omega) (by show 5 - (n + 1) < 5 - n; omega))
              | (have hc : (0 < f ∧ f + 1 < gI A 224 s) := by omega
                 have hj : (mo_fj A s f n = true ∨ (mo_ha A s n (f - 1) ≠ -1 ∧ mo_ha A s n (f - 1) = mo_ha A s n (f + 1) ∧ mo_ha A s n f ≠ mo_ha A s n (f - 1))) ↔ mo_fj A s f (n + 1) = true := by
                   rw [mo_fj, Bool.or_eq_true, Bool.and_eq_true, decide_eq_true_iff, decide_eq_true_iff]
                   exact ⟨fun k => k.imp_right (fun z => ⟨hc, z⟩), fun k => k.imp_right (fun z => z.2)⟩
                 rw [mj_ic hj]
                 exact ih (n + 1, _, _) (by show n + 1 ≤ 4; omega) (by show 5 - (n + 1) < 5 - n; omega))
          · refine mx_iload_n 2 d_M_faults_71 rfl rfl ?_
            refine mx_iconst d_M_faults_72 ?_
            refine mx_iadd d_M_faults_73 ?_
            refine mx_aload_n 0 d_M_faults_74 rfl rfl ?_
            refine mx_getPs 24 d_M_faults_75 f_M_65 rfl rfl (hM.o) (hM.p24) ?_
            refine mx_iload_n 1 d_M_faults_78 rfl rfl ?_
            refine mx_iald d_M_faults_79 (hM.s24) (by omega) (by omega) ?_
            rw [e24]
            refine mx_icmp_ge 133 d_M_faults_80 rfl (by first | assumption | exact hR_1 _ _ | exact hR _ _ | exact r32_mk (by omega) (by omega)) (by first | assumption | exact hR_1 _ _ | exact hR _ _ | exact r32_mk (by omega) (by omega)) (fun c_80 => ?_) (fun c_80 => ?_)
            · refine mx_iinc 5 d_M_faults_133 rfl (Nat.le_of_ble_eq_true rfl) ?_
              refine mx_goto 27 d_M_faults_136 rfl ?_
              have hb : (mo_fb C A s f n = true ∨ (mo_ha A s n f ≠ -1 ∧ c_n (C (mo_ha A s n f)) = 0)) ↔ mo_fb C A s f (n + 1) = true := by
                rw [mo_fb, Bool.or_eq_true, Bool.and_eq_true, decide_eq_true_iff, decide_eq_true_iff]
              rw [mj_ic hb]
              first
                | (have hc : ¬ (0 < f ∧ f + 1 < gI A 224 s) := by omega
                   have hj : mo_fj A s f n = true ↔ mo_fj A s f (n + 1) = true := by
                     rw [mo_fj, Bool.or_eq_true, Bool.and_eq_true, decide_eq_true_iff, decide_eq_true_iff]
                     exact ⟨Or.inl, fun k => k.resolve_right (fun z => hc z.1)⟩
                   rw [mj_ic hj]
                   exact ih (n + 1, _, _) (by show n + 1 ≤ 4; omega) (by show 5 - (n + 1) < 5 - n; omega))
                | (have hc : (0 < f ∧ f + 1 < gI A 224 s) := by omega
                   have hj : (mo_fj A s f n = true ∨ (mo_ha A s n (f - 1) ≠ -1 ∧ mo_ha A s n (f - 1) = mo_ha A s n (f + 1) ∧ mo_ha A s n f ≠ mo_ha A s n (f - 1))) ↔ mo_fj A s f (n + 1) = true := by
                     rw [mo_fj, Bool.or_eq_true, Bool.and_eq_true, decide_eq_true_iff, decide_eq_true_iff]
                     exact ⟨fun k => k.imp_right (fun z => ⟨hc, z⟩), fun k => k.imp_right (fun z => z.2)⟩
                   rw [mj_ic hj]
                   exact ih (n + 1, _, _) (by show n + 1 ≤ 4; omega) (by show 5 - (n + 1) < 5 - n; omega))
            · refine mx_aload_n 0 d_M_faults_83 rfl rfl ?_
              refine mx_iload_n 1 d_M_faults_84 rfl rfl ?_
              refine mx_iload 5 d_M_faults_85 rfl ?_
              refine mx_iload_n 2 d_M_faults_87 rfl rfl ?_
              refine mx_iconst d_M_faults_88 ?_
              refine mx_isub d_M_faults_89 ?_
              refine mx_callV (kc := 0) (ks := 0) (N := n_M_hasAt) (as := [_, _, _]) (ci := 7) d_M_faults_90 s_M_218 ⟨Nat.le_of_ble_eq_true rfl, Nat.le_of_ble_eq_true rfl⟩ rfl (mj_wt_8 (Nat.le_of_ble_eq_true rfl)) (hM.o) ⟨_, rfl, rfl⟩ (cm_hasAt (A := A_16) hM hg (by rw [e23]; exact ⟨hT.1, hT.2.1⟩) ⟨by omega, by omega⟩ (by rw [e24]; exact ⟨by omega, by omega⟩)) (fun r_90 A_90 h_90 => ?_) (fun E_90 A_x h_90 => ?_)
              rotate_left
              · exact h_90.elim
              obtain ⟨rfl, hA_90⟩ := h_90
              obtain rfl := hA_90.symm
              clear hA_90
              refine mx_R fun hR_2 => ?_
              rw [eha]
              refine mx_istore 7 d_M_faults_93 (Nat.le_of_ble_eq_true rfl) ?_
              have hq1 := hha1 ⟨by omega, by omega⟩ ⟨by omega, by omega⟩
              have hq2 := hha2 ⟨by omega, by omega⟩ ⟨by omega, by omega⟩
              refine mx_iload 4 d_M_faults_95 rfl ?_
              refine mj_cutB ((mo_ha A s n (f - 1) ≠ -1 ∧ mo_ha A s n (f - 1) = mo_ha A s n (f + 1) ∧ mo_ha A s n f ≠ mo_ha A s n (f - 1))) 130 ?_ (fun hJ_97 => ?_)
              · refine mx_iorB d_M_faults_130 mj_01 mj_01 ?_
                rw [mj_orP]
                refine mx_istore 4 d_M_faults_131 (Nat.le_of_ble_eq_true rfl) ?_
                refine mx_iinc 5 d_M_faults_133 rfl (Nat.le_of_ble_eq_true rfl) ?_
                refine mx_goto 27 d_M_faults_136 rfl ?_
                have hb : (mo_fb C A s f n = true ∨ (mo_ha A s n f ≠ -1 ∧ c_n (C (mo_ha A s n f)) = 0)) ↔ mo_fb C A s f (n + 1) = true := by
                  rw [mo_fb, Bool.or_eq_true, Bool.and_eq_true, decide_eq_true_iff, decide_eq_true_iff]
                rw [mj_ic hb]
                first
                  | (have hc : ¬ (0 < f ∧ f + 1 < gI A 224 s) := by omega
                     have hj : mo_fj A s f n = true ↔ mo_fj A s f (n + 1) = true := by
                       rw [mo_fj, Bool.or_eq_true, Bool.and_eq_true, decide_eq_true_iff, decide_eq_true_iff]
                       exact ⟨Or.inl, fun k => k.resolve_right (fun z => hc z.1)⟩
                     rw [mj_ic hj]
                     exact ih (n + 1, _, _) (by show n + 1 ≤ 4; omega) (by show 5 - (n + 1) < 5 - n; omega))
                  | (have hc : (0 < f ∧ f + 1 < gI A 224 s) := by omega
                     have hj : (mo_fj A s f n = true ∨ (mo_ha A s n (f - 1) ≠ -1 ∧ mo_ha A s n (f - 1) = mo_ha A s n (f + 1) ∧ mo_ha A s n f ≠ mo_ha A s n (f - 1))) ↔ mo_fj A s f (n + 1) = true := by
                       rw [mo_fj, Bool.or_eq_true, Bool.and_eq_true, decide_eq_true_iff, decide_eq_true_iff]
                       exact ⟨fun k => k.imp_right (fun z => ⟨hc, z⟩), fun k => k.imp_right (fun z => z.2)⟩
                     rw [mj_ic hj]
                     exact ih (n + 1, _, _) (by show n + 1 ≤ 4; omega) (by show 5 - (n + 1) < 5 - n; omega))
              · refine mx_iload 7 d_M_faults_97 rfl ?_
                refine mx_iconst d_M_faults_99 ?_
                refine mx_icmp_eq 129 d_M_faults_100 rfl (by first | assumption | exact hR_2 _ _ | exact hR_1 _ _ | exact hR _ _ | exact r32_mk (by omega) (by omega)) (by first | assumption | exact hR_2 _ _ | exact hR_1 _ _ | exact hR _ _ | exact r32_mk (by omega) (by omega)) (fun c_100 => ?_) (fun c_100 => ?_)
                · refine mx_iconst d_M_faults_129 ?_
                  first | exact mj_j1 hJ_97 (by omega) | exact mj_j0 hJ_97 (by omega)
                · refine mx_iload 7 d_M_faults_103 rfl ?_
                  refine mx_aload_n 0 d_M_faults_105 rfl rfl ?_
                  refine mx_iload_n 1 d_M_faults_106 rfl rfl ?_
                  refine mx_iload 5 d_M_faults_107 rfl ?_
                  refine mx_iload_n 2 d_M_faults_109 rfl rfl ?_
                  refine mx_iconst d_M_faults_110 ?_
                  refine mx_iadd d_M_faults_111 ?_
                  refine mx_callV (kc := 0) (ks := 0) (N := n_M_hasAt) (as := [_, _, _]) (ci := 7) d_M_faults_112 s_M_218 ⟨Nat.le_of_ble_eq_true rfl, Nat.le_of_ble_eq_true rfl⟩ rfl (mj_wt_8 (Nat.le_of_ble_eq_true rfl)) (hM.o) ⟨_, rfl, rfl⟩ (cm_hasAt (A := A_16) hM hg (by rw [e23]; exact ⟨hT.1, hT.2.1⟩) ⟨by omega, by omega⟩ (by rw [e24]; exact ⟨by omega, by omega⟩)) (fun r_112 A_112 h_112 => ?_) (fun E_112 A_x h_112 => ?_)
                  rotate_left
                  · exact h_112.elim
                  obtain ⟨rfl, hA_112⟩ := h_112
                  obtain rfl := hA_112.symm
                  clear hA_112
                  refine mx_R fun hR_3 => ?_
                  rw [eha]
                  refine mx_icmp_ne 129 d_M_faults_115 rfl (by first | assumption | exact hR_3 _ _ | exact hR_2 _ _ | exact hR_1 _ _ | exact hR _ _ | exact r32_mk (by omega) (by omega)) (by first | assumption | exact hR_3 _ _ | exact hR_2 _ _ | exact hR_1 _ _ | exact hR _ _ | exact r32_mk (by omega) (by omega)) (fun c_115 => ?_) (fun c_115 => ?_)
                  · refine mx_iconst d_M_faults_129 ?_
                    first | exact mj_j1 hJ_97 (by omega) | exact mj_j0 hJ_97 (by omega)
                  · refine mx_iload 6 d_M_faults_118 rfl ?_
                    refine mx_iload 7 d_M_faults_120 rfl ?_
                    refine mx_icmp_eq 129 d_M_faults_122 rfl (by first | assumption | exact hR_3 _ _ | exact hR_2 _ _ | exact hR_1 _ _ | exact hR _ _ | exact r32_mk (by omega) (by omega)) (by first | assumption | exact hR_3 _ _ | exact hR_2 _ _ | exact hR_1 _ _ | exact hR _ _ | exact r32_mk (by omega) (by omega)) (fun c_122 => ?_) (fun c_122 => ?_)
                    · refine mx_iconst d_M_faults_129 ?_
                      first | exact mj_j1 hJ_97 (by omega) | exact mj_j0 hJ_97 (by omega)
                    · refine mx_iconst d_M_faults_125 ?_
                      refine mx_goto 130 d_M_faults_126 rfl ?_
                      first | exact mj_j1 hJ_97 (by omega) | exact mj_j0 hJ_97 (by omega)
        · refine mx_iload 6 d_M_faults_44 rfl ?_
          refine mx_iconst d_M_faults_46 ?_
          refine mx_icmp_eq 64 d_M_faults_47 rfl (by first | assumption | exact hR_1 _ _ | exact hR _ _ | exact r32_mk (by omega) (by omega)) (by first | assumption | exact hR_1 _ _ | exact hR _ _ | exact r32_mk (by omega) (by omega)) (fun c_47 => ?_) (fun c_47 => ?_)
          · refine mx_iconst d_M_faults_64 ?_
            first | exact mj_j1 hJ_44 (by omega) | exact mj_j0 hJ_44 (by omega)
          · refine mx_aload_n 0 d_M_faults_50 rfl rfl ?_
            refine mx_getPs 9 d_M_faults_51 f_M_26 rfl rfl (hM.o) (hM.p9) ?_
            refine mx_iload 6 d_M_faults_54 rfl ?_
            refine mx_iald d_M_faults_56 (hM.s9) (by omega) (by omega) ?_
            rw [e9 (by assumption) (by omega)]
            refine mx_if_ne 64 d_M_faults_57 rfl (by rw [← e9 (by assumption) (by omega)]; exact hR_1 _ _) (fun c_57 => ?_) (fun c_57 => ?_)
            · refine mx_iconst d_M_faults_64 ?_
              first | exact mj_j1 hJ_44 (by omega) | exact mj_j0 hJ_44 (by omega)
            · refine mx_iconst d_M_faults_60 ?_
              refine mx_goto 65 d_M_faults_61 rfl ?_
              first | exact mj_j1 hJ_44 (by omega) | exact mj_j0 hJ_44 (by omega)
    refine mx_iconst d_M_faults_19 ?_
    refine mx_istore_n 3 d_M_faults_20 rfl (Nat.le_of_ble_eq_true rfl) ?_
    refine mx_iconst d_M_faults_21 ?_
    refine mx_istore 4 d_M_faults_22 (Nat.le_of_ble_eq_true rfl) ?_
    refine mx_iconst d_M_faults_24 ?_
    refine mx_istore 5 d_M_faults_25 (Nat.le_of_ble_eq_true rfl) ?_
    exact hl (0, none, none) (by show 0 ≤ 4; omega)
  · refine mx_iconst d_M_faults_13 ?_
    refine mx_iret d_M_faults_14 rfl ?_
    exact Or.inr ⟨by omega, rfl, rfl⟩
/-- how many frames hang on d -/
def mo_an (A : mj_M) (d : Int) : Int := mj_sum (fun s => mj_sum (fun f => if mo_hn A s f d 4 = true then 1 else 0) (gI A 224 s).toNat) (gI A 200 23).toNat
theorem cm_approve_t {d z : Int} (hM : MS A) (hg : mo_rg A) (hp : mo_hp A) (hd : (0 ≤ d ∧ d < gI A 200 3)) {P : Option mj_V → mj_M → Prop} (hP : P (some (mI (mo_an A d))) (sI (sI A 200 0 0) 208 d z)) {l3 : Option mj_V} :
    ∀ q : Nat × Option mj_V, (q.1 : Int) ≤ gI A 200 23 → mj_X G n_M_approve (mj_Qm G n_M_approve P mj_no) (sI (sI A 200 0 0) 208 d z) 0 0 48 [some (mR (some 200)), some (mI d), some (mI z), l3, some (mI (mj_sum (fun s => mj_sum (fun f => if mo_hn A s f d 4 = true then 1 else 0) (gI A 224 s).toNat) q.1)), some (mI (q.1 : Int)), q.2] [] := by
  have hns := hg.ns
  refine mj_loop _ (fun q => 7 - q.1) _ ?_
  intro ⟨s, l6⟩ hs ih
  replace hs : (s : Int) ≤ gI A 200 23 := hs
  show mj_X G n_M_approve (mj_Qm G n_M_approve P mj_no) (sI (sI A 200 0 0) 208 d z) 0 0 48 [some (mR (some 200)), some (mI d), some (mI z), l3, some (mI (mj_sum (fun s => mj_sum (fun f => if mo_hn A s f d 4 = true then 1 else 0) (gI A 224 s).toNat) s)), some (mI (s : Int)), l6] []
  have hfr := hg.fr s (by omega)
  have hi : (s : Int) < gI A 200 23 → ∀ f : Nat, (f : Int) ≤ gI A 224 s → mj_X G n_M_approve (mj_Qm G n_M_approve P mj_no) (sI (sI A 200 0 0) 208 d z) 0 0 60 [some (mR (some 200)), some (mI d), some (mI z), l3, some (mI (mj_sum (fun s => mj_sum (fun f => if mo_hn A s f d 4 = true then 1 else 0) (gI A 224 s).toNat) s + mj_sum (fun f => if mo_hn A s f d 4 = true then 1 else 0) f)), some (mI (s : Int)), some (mI (f : Int))] [] := by
    intro hs1
    replace hfr := hfr hs1
    refine mj_loop _ (fun q => 25 - q) _ ?_
    intro f hf ih2
    have e4 : mo_hn (sI (sI A 200 0 0) 208 d z) s f d 4 = mo_hn A s f d 4 := mo_hn_c (fun c h0 h1 => funext fun i => by rw [gI_sI, if_neg (by omega), gI_sI, if_neg (by omega)]) rfl rfl 4
    have e24 : gI (sI (sI A 200 0 0) 208 d z) 224 s = gI A 224 s := rfl
    refine mx_R fun hR => ?_
    refine mx_iload 6 d_M_approve_60 rfl ?_
    refine mx_aload_n 0 d_M_approve_62 rfl rfl ?_
    refine mx_getPs 24 d_M_approve_63 f_M_65 rfl rfl (hM.o) (hM.p24) ?_
    refine mx_iload 5 d_M_approve_66 rfl ?_
    refine mx_iald d_M_approve_68 (hM.s24) (by omega) (by omega) ?_
    rw [e24]
    refine mx_icmp_ge 100 d_M_approve_69 rfl (by first | assumption | exact hR _ _ | exact r32_mk (by omega) (by omega)) (by first | assumption | exact hR _ _ | exact r32_mk (by omega) (by omega)) (fun c_69 => ?_) (fun c_69 => ?_)
    · refine mx_iinc 5 d_M_approve_100 rfl (Nat.le_of_ble_eq_true rfl) ?_
      refine mx_goto 48 d_M_approve_103 rfl ?_
      have h9 := ih (s + 1, some (mI (f : Int))) (by show ((s + 1 : Nat) : Int) ≤ _; omega) (by show 7 - (s + 1) < 7 - s; omega)
      replace h9 : mj_X G n_M_approve (mj_Qm G n_M_approve P mj_no) (sI (sI A 200 0 0) 208 d z) 0 0 48 [some (mR (some 200)), some (mI d), some (mI z), l3, some (mI (mj_sum (fun s => mj_sum (fun f => if mo_hn A s f d 4 = true then 1 else 0) (gI A 224 s).toNat) s + mj_sum (fun f => if mo_hn A s f d 4 = true then 1 else 0) (gI A 224 s).toNat)), some (mI ((s + 1 : Nat) : Int)), some (mI (f : Int))] [] := h9
      rw [show ((s + 1 : Nat) : Int) = (s : Int) + 1 by omega, show (gI A 224 s).toNat = f by omega] at h9
      exact h9
    · refine mx_iload 4 d_M_approve_72 rfl ?_
      refine mj_cutB (mo_hn A s f d 4 = true) 91 ?_ (fun hJ_74 => ?_)
      · refine mx_iadd d_M_approve_91 ?_
        refine mx_istore 4 d_M_approve_92 (Nat.le_of_ble_eq_true rfl) ?_
        refine mx_iinc 6 d_M_approve_94 rfl (Nat.le_of_ble_eq_true rfl) ?_
        refine mx_goto 60 d_M_approve_97 rfl ?_
        have h9 := ih2 (f + 1) (by omega) (by omega)
        rw [show ((f + 1 : Nat) : Int) = (f : Int) + 1 by omega] at h9
        rw [show mj_sum (fun f => if mo_hn A s f d 4 = true then (1 : Int) else 0) (f + 1) = mj_sum (fun f => if mo_hn A s f d 4 = true then (1 : Int) else 0) f + (if mo_hn A s f d 4 = true then (1 : Int) else 0) from rfl, ← Int.add_assoc] at h9
        exact h9
      · refine mx_aload_n 0 d_M_approve_74 rfl rfl ?_
        refine mx_iload 5 d_M_approve_75 rfl ?_
        refine mx_iload 6 d_M_approve_77 rfl ?_
        refine mx_iload_n 1 d_M_approve_79 rfl rfl ?_
        refine mx_callV (kc := 0) (ks := 0) (N := n_M_hangsOn) (as := [_, _, _]) (ci := 7) d_M_approve_80 s_M_238 ⟨Nat.le_of_ble_eq_true rfl, Nat.le_of_ble_eq_true rfl⟩ rfl (mj_wt_8 (Nat.le_of_ble_eq_true rfl)) (hM.o) ⟨_, rfl, rfl⟩ (cm_hangsOn (A := (sI (sI A 200 0 0) 208 d z)) hM hg hp ⟨by omega, hs1⟩ ⟨by omega, by omega⟩ hd) (fun r_80 A_80 h_80 => ?_) (fun E_80 A_x h_80 => ?_)
        rotate_left
        · exact h_80.elim
        obtain ⟨rfl, hA_80⟩ := h_80
        obtain rfl := hA_80.symm
        clear hA_80
        refine mx_R fun hR_1 => ?_
        rw [e4]
        refine mx_if_eq 90 d_M_approve_83 rfl (by first | assumption | exact hR_1 _ _ | exact hR _ _ | exact r32_mk (by omega) (by omega)) (fun c_83 => ?_) (fun c_83 => ?_)
        · refine mx_iconst d_M_approve_90 ?_
          first | exact mj_j1 hJ_74 (by (first | exact mj_if1 c_83 | exact mj_if0 c_83)) | exact mj_j0 hJ_74 (by (first | exact mj_if1 c_83 | exact mj_if0 c_83))
        · refine mx_iconst d_M_approve_86 ?_
          refine mx_goto 91 d_M_approve_87 rfl ?_
          first | exact mj_j1 hJ_74 (by (first | exact mj_if1 c_83 | exact mj_if0 c_83)) | exact mj_j0 hJ_74 (by (first | exact mj_if1 c_83 | exact mj_if0 c_83))
  have e23 : gI (sI (sI A 200 0 0) 208 d z) 200 23 = gI A 200 23 := rfl
  refine mx_R fun hR => ?_
  refine mx_iload 5 d_M_approve_48 rfl ?_
  refine mx_aload_n 0 d_M_approve_50 rfl rfl ?_
  refine mx_getI 23 d_M_approve_51 f_M_193 rfl rfl (hM.o) ?_
  rw [e23]
  refine mx_icmp_ge 106 d_M_approve_54 rfl (by first | assumption | exact hR _ _ | exact r32_mk (by omega) (by omega)) (by first | assumption | exact hR _ _ | exact r32_mk (by omega) (by omega)) (fun c_54 => ?_) (fun c_54 => ?_)
  · refine mx_iload 4 d_M_approve_106 rfl ?_
    refine mx_iret d_M_approve_108 rfl ?_
    unfold mo_an at hP
    rw [show (gI A 200 23).toNat = s by omega] at hP
    exact hP
  · refine mx_iconst d_M_approve_57 ?_
    refine mx_istore 6 d_M_approve_58 (Nat.le_of_ble_eq_true rfl) ?_
    have h9 := hi (by omega) 0 (by omega)
    rw [show mj_sum (fun f => if mo_hn A s f d 4 = true then (1 : Int) else 0) 0 = 0 from rfl, Int.add_zero] at h9
    exact h9
theorem cm_approve {d z : Int} (hM : MS A) (hg : mo_rg A) (hp : mo_hp A) (hd : r32 d) (hz : z = 0 ∨ z = 1) : mj_Cal G n_M_approve [mR (some 200), mI d, mI z] A (fun r A' => (((0 ≤ d ∧ d < gI A 200 3) ∧ ((0 ≤ d ∧ d < gI A 200 3) ∧ gI A 208 d ≠ z)) ∧ r = some (mI (mo_an A d)) ∧ A' = (sI (sI A 200 0 0) 208 d z)) ∨ (¬ ((0 ≤ d ∧ d < gI A 200 3) ∧ ((0 ≤ d ∧ d < gI A 200 3) ∧ gI A 208 d ≠ z)) ∧ r = some (mI 0) ∧ A' = sI A 200 0 (if (0 ≤ d ∧ d < gI A 200 3) then (if ((0 ≤ d ∧ d < gI A 200 3) ∧ gI A 208 d ≠ z) then 0 else 2) else 1))) mj_no := by
  refine mj_bodyK 0 0 [some (mR (some 200)), some (mI d), some (mI z), none, none, none, none] rfl rfl rfl (by decide +kernel) (Nat.le_of_ble_eq_true rfl) (by simp) rfl ?_
  have hnd := hg.nd
  refine mx_R fun hR => ?_
  refine mx_aload_n 0 d_M_approve_0 rfl rfl ?_
  refine mx_iload_n 1 d_M_approve_1 rfl rfl ?_
  refine mx_callV (kc := 0) (ks := 0) (N := n_M_isDrawing) (as := [_]) (ci := 7) d_M_approve_2 s_M_130 ⟨Nat.le_of_ble_eq_true rfl, Nat.le_of_ble_eq_true rfl⟩ rfl (mj_wt_8 (Nat.le_of_ble_eq_true rfl)) (hM.o) ⟨_, rfl, rfl⟩ (cm_isDrawing hM hd hnd) (fun r_2 A_2 h_2 => ?_) (fun E_2 A_x h_2 => ?_)
  rotate_left
  · exact h_2.elim
  obtain ⟨rfl, hA_2⟩ := h_2
  obtain rfl := hA_2.symm
  clear hA_2
  refine mx_R fun hR_1 => ?_
  refine mx_istore_n 3 d_M_approve_5 rfl (Nat.le_of_ble_eq_true rfl) ?_
  refine mx_aload_n 0 d_M_approve_6 rfl rfl ?_
  refine mx_iload_n 3 d_M_approve_7 rfl rfl ?_
  refine mj_cutB (((0 ≤ d ∧ d < gI A 200 3) ∧ gI A 208 d ≠ z)) 27 ?_ (fun hJ_8 => ?_)
  · refine mx_callV (kc := 0) (ks := 0) (N := n_M_asked2) (as := [_, _]) (ci := 7) d_M_approve_27 s_M_166 ⟨Nat.le_of_ble_eq_true rfl, Nat.le_of_ble_eq_true rfl⟩ rfl (mj_wt_8 (Nat.le_of_ble_eq_true rfl)) (hM.o) ⟨_, rfl, rfl⟩ (cm_asked2 _ _ hM) (fun r_27 A_27 h_27 => ?_) (fun E_27 A_x h_27 => ?_)
    rotate_left
    · exact h_27.elim
    obtain ⟨rfl, hA_27⟩ := h_27
    obtain rfl := hA_27.symm
    clear hA_27
    refine mx_R fun hR_2 => ?_
    refine mx_if_ne 35 d_M_approve_30 rfl (by first | assumption | exact hR_2 _ _ | exact hR_1 _ _ | exact hR _ _ | exact r32_mk (by omega) (by omega)) (fun c_30 => ?_) (fun c_30 => ?_)
    · have hT : (0 ≤ d ∧ d < gI A 200 3) ∧ ((0 ≤ d ∧ d < gI A 200 3) ∧ gI A 208 d ≠ z) := by omega
      refine mj_Xeq (A' := sI A 200 0 0) (by rw [if_pos hT.1, if_pos hT.2]) ?_
      refine mx_R fun hR => ?_
      refine mx_aload_n 0 d_M_approve_35 rfl rfl ?_
      refine mx_getPs 8 d_M_approve_36 f_M_22 rfl rfl (hM.o) (hM.p8) ?_
      refine mx_iload_n 1 d_M_approve_39 rfl rfl ?_
      refine mx_iload_n 2 d_M_approve_40 rfl rfl ?_
      refine mx_zast d_M_approve_41 (hM.s8) (by omega) (by omega) (hz) ?_
      refine mx_R fun hR_1 => ?_
      refine mx_iconst d_M_approve_42 ?_
      refine mx_istore 4 d_M_approve_43 (Nat.le_of_ble_eq_true rfl) ?_
      refine mx_iconst d_M_approve_45 ?_
      refine mx_istore 5 d_M_approve_46 (Nat.le_of_ble_eq_true rfl) ?_
      exact cm_approve_t hM hg hp hT.1 (Or.inl ⟨hT, rfl, rfl⟩) (0, none) (by show ((0 : Nat) : Int) ≤ _; have := hg.ns; omega)
    · refine mx_iconst d_M_approve_33 ?_
      refine mx_iret d_M_approve_34 rfl ?_
      exact Or.inr ⟨by omega, rfl, rfl⟩
  · refine mx_iload_n 3 d_M_approve_8 rfl rfl ?_
    refine mx_if_eq 26 d_M_approve_9 rfl (by first | assumption | exact hR_1 _ _ | exact hR _ _ | exact r32_mk (by omega) (by omega)) (fun c_9 => ?_) (fun c_9 => ?_)
    · refine mx_iconst d_M_approve_26 ?_
      first | exact mj_j1 hJ_8 (by omega) | exact mj_j0 hJ_8 (by omega)
    · refine mx_aload_n 0 d_M_approve_12 rfl rfl ?_
      refine mx_getPs 8 d_M_approve_13 f_M_22 rfl rfl (hM.o) (hM.p8) ?_
      refine mx_iload_n 1 d_M_approve_16 rfl rfl ?_
      refine mx_zald d_M_approve_17 (hM.s8) (by omega) (by omega) ?_
      refine mx_iload_n 2 d_M_approve_18 rfl rfl ?_
      refine mx_icmp_eq 26 d_M_approve_19 rfl (by first | assumption | exact hR_1 _ _ | exact hR _ _ | exact r32_mk (by omega) (by omega)) (by first | assumption | exact hR_1 _ _ | exact hR _ _ | exact r32_mk (by omega) (by omega)) (fun c_19 => ?_) (fun c_19 => ?_)
      · refine mx_iconst d_M_approve_26 ?_
        first | exact mj_j1 hJ_8 (by omega) | exact mj_j0 hJ_8 (by omega)
      · refine mx_iconst d_M_approve_22 ?_
        refine mx_goto 27 d_M_approve_23 rfl ?_
        first | exact mj_j1 hJ_8 (by omega) | exact mj_j0 hJ_8 (by omega)
end MODS
