/-! THE REFERENCE, 14: walls of a drawing -/
section MODE
variable {G : mj_G} {A : mj_M}
/-- walls of the points below i are set -/
def dr_w (B : mj_M) (d : Int) (L : Int → Bool) (i : Int) (h : Int → Int) : Prop := (∀ q, ¬ (192 * d ≤ q ∧ q < 192 * d + 192) → h q = gI B 219 q) ∧ ∀ p, 0 ≤ p → p < 192 → h (192 * d + p) = if L p = true then 1 else if p < i ∧ pc_gp L p = true then 2 else 0
theorem dr_il {B : mj_M} {d i x y : Int} {L : Int → Bool} {g h : Int → Int} (hw : dr_w B d L i h) : (if mo_ip x y ∧ gI (dr_m B g h) 219 (192 * d + 16 * y + x) = 1 then (1 : Int) else 0) = if pc_il L x y = true then 1 else 0 := by
  congr 1
  refine propext ⟨fun hh => ?_, fun hh => ?_⟩
  · have h1 := hh.1
    have h2 : h (192 * d + 16 * y + x) = 1 := hh.2
    have h3 := hw.2 (16 * y + x) (by omega) (by omega)
    rw [show 192 * d + (16 * y + x) = 192 * d + 16 * y + x by omega, h2] at h3
    unfold pc_il
    rw [Bool.and_eq_true]
    refine ⟨decide_eq_true h1, ?_⟩
    cases hl : L (16 * y + x) with
    | true => rfl
    | false => rw [hl] at h3; simp at h3; split at h3 <;> omega
  · unfold pc_il at hh
    rw [Bool.and_eq_true] at hh
    have h1 := of_decide_eq_true hh.1
    have h3 := hw.2 (16 * y + x) (by omega) (by omega)
    rw [if_pos hh.2, show 192 * d + (16 * y + x) = 192 * d + 16 * y + x by omega] at h3
    exact ⟨h1, h3⟩
theorem dr_m2 {B : mj_M} {g h : Int → Int} {p w : Int} : sI (dr_m B g h) 219 p w = dr_m B g (fun q => if q = p then w else h q) := by
  unfold dr_m
  exact mj_ext3 (fun _ => rfl) (fun c_ x_ => by simp only [gI_sI, gI_sF]; grind) (fun _ _ => rfl)
theorem dr_walls {B : mj_M} {d : Int} {L : Int → Bool} {g : Int → Int} {P : Option mj_V → mj_M → Prop} (hM : MS B) (hd : 0 ≤ d ∧ d < 16) (hcl : gI B 216 d ≠ 0)
    (hP : ∀ h o2 o3 o4 o5 o6 o7 o8, dr_w B d L 192 h → mj_X G n_M_draws (mj_Qm G n_M_draws P mj_no) (dr_m B g h) 0 0 394 [some (mR (some 200)), some (mI d), o2, o3, o4, o5, o6, o7, o8] []) :
    ∀ q : Int × (Int → Int) × Option mj_V × Option mj_V × Option mj_V × Option mj_V × Option mj_V × Option mj_V, (0 ≤ q.1 ∧ q.1 ≤ 192 ∧ dr_w B d L q.1 q.2.1) → mj_X G n_M_draws (mj_Qm G n_M_draws P mj_no) (dr_m B g q.2.1) 0 0 254 [some (mR (some 200)), some (mI d), some (mI q.1), q.2.2.1, q.2.2.2.1, q.2.2.2.2.1, q.2.2.2.2.2.1, q.2.2.2.2.2.2.1, q.2.2.2.2.2.2.2] [] := by
  refine mj_loop _ (fun q => (192 - q.1).toNat) _ ?_
  intro ⟨i, h, o3, o4, o5, o6, o7, o8⟩ ⟨h0, h1, hw⟩ ih
  replace h0 : 0 ≤ i := h0
  replace h1 : i ≤ 192 := h1
  replace hw : dr_w B d L i h := hw
  have ecl : gI (dr_m B g h) 216 d = gI B 216 d := rfl
  obtain ⟨f1, hf1⟩ : ∃ f, pc_il L (i % 16 - 1) (i / 16) = f := ⟨_, rfl⟩
  obtain ⟨f2, hf2⟩ : ∃ f, pc_il L (i % 16 + 1) (i / 16) = f := ⟨_, rfl⟩
  obtain ⟨f3, hf3⟩ : ∃ f, pc_il L (i % 16) (i / 16 - 1) = f := ⟨_, rfl⟩
  obtain ⟨f4, hf4⟩ : ∃ f, pc_il L (i % 16) (i / 16 + 1) = f := ⟨_, rfl⟩
  have hgp : pc_gp L i = (Bool.or (f1 && f2) (f3 && f4)) := by unfold pc_gp; rw [hf1, hf2, hf3, hf4]
  have w1 := dr_il (x := i % 16 - 1) (y := i / 16) (g := g) hw
  have w2 := dr_il (x := i % 16 + 1) (y := i / 16) (g := g) hw
  have w3 := dr_il (x := i % 16) (y := i / 16 - 1) (g := g) hw
  have w4 := dr_il (x := i % 16) (y := i / 16 + 1) (g := g) hw
  rw [hf1] at w1
  rw [hf2] at w2
  rw [hf3] at w3
  rw [hf4] at w4
  have eh : gI (dr_m B g h) 219 (192 * d + i) = h (192 * d + i) := rfl
  show mj_X G n_M_draws (mj_Qm G n_M_draws P mj_no) (dr_m B g h) 0 0 254 [some (mR (some 200)), some (mI d), some (mI i), o3, o4, o5, o6, o7, o8] []
  refine mx_R fun hR => ?_
  refine mx_iload_n 2 d_M_draws_254 rfl rfl ?_
  refine mx_sipush d_M_draws_255 (by decide) ?_
  refine mx_icmp_ge 394 d_M_draws_258 rfl (by first | assumption | exact hR _ _ | exact r32_mk (by omega) (by omega)) (by first | assumption | exact hR _ _ | exact r32_mk (by omega) (by omega)) (fun c_258 => ?_) (fun c_258 => ?_)
  · rw [show i = 192 by omega] at hw
    exact hP h _ _ _ _ _ _ _ hw
  · refine mx_aload_n 0 d_M_draws_261 rfl rfl ?_
    refine mx_getPs 16 d_M_draws_262 f_M_47 rfl rfl (hM.o) (hM.p16) ?_
    refine mx_iload_n 1 d_M_draws_265 rfl rfl ?_
    refine mx_zald d_M_draws_266 (hM.s16) (by omega) (by omega) ?_
    refine mx_if_eq 394 d_M_draws_267 rfl (by first | assumption | exact hR _ _ | exact r32_mk (by omega) (by omega)) (fun c_267 => ?_) (fun c_267 => ?_)
    · exact absurd (by assumption) hcl
    · refine mx_iload_n 2 d_M_draws_270 rfl rfl ?_
      refine mx_bipush d_M_draws_271 (by decide) ?_
      refine mx_irem d_M_draws_273 (by first | assumption | exact hR _ _ | exact r32_mk (by omega) (by omega)) (by first | assumption | exact hR _ _ | exact r32_mk (by omega) (by omega)) (by omega) ?_
      rw [Int.tmod_eq_emod_of_nonneg h0]
      refine mx_istore_n 3 d_M_draws_274 rfl (Nat.le_of_ble_eq_true rfl) ?_
      refine mx_iload_n 2 d_M_draws_275 rfl rfl ?_
      refine mx_bipush d_M_draws_276 (by decide) ?_
      refine mx_idiv d_M_draws_278 (by first | assumption | exact hR _ _ | exact r32_mk (by omega) (by omega)) (by first | assumption | exact hR _ _ | exact r32_mk (by omega) (by omega)) (by omega) ?_
      rw [Int.tdiv_eq_ediv_of_nonneg h0]
      refine mx_istore 4 d_M_draws_279 (Nat.le_of_ble_eq_true rfl) ?_
      refine mj_cutB ((Bool.or (f1 && f2) (f3 && f4)) = true) 338 ?_ (fun hJ_281 => ?_)
      · refine mx_istore 5 d_M_draws_338 (Nat.le_of_ble_eq_true rfl) ?_
        refine mx_aload_n 0 d_M_draws_340 rfl rfl ?_
        refine mx_getPs 19 d_M_draws_341 f_M_53 rfl rfl (hM.o) (hM.p19) ?_
        refine mx_sipush d_M_draws_344 (by decide) ?_
        refine mx_iload_n 1 d_M_draws_347 rfl rfl ?_
        refine mx_imul d_M_draws_348 ?_
        refine mx_iload_n 2 d_M_draws_349 rfl rfl ?_
        refine mx_iadd d_M_draws_350 ?_
        refine mj_cutI ( (if (Bool.or (f1 && f2) (f3 && f4)) = true ∧ h (192 * d + i) = 0 then 2 else h (192 * d + i))) 387 ?_ (fun hJ_351 => ?_)
        · have hh := hw.2 i h0 (by omega)
          have hv : r32 (if (Bool.or (f1 && f2) (f3 && f4)) = true ∧ h (192 * d + i) = 0 then 2 else h (192 * d + i)) := by
            have h9 : 0 ≤ h (192 * d + i) ∧ h (192 * d + i) ≤ 2 := by rw [hh]; split <;> (try split) <;> omega
            split
            · exact r32_mk (by omega) (by omega)
            · exact r32_mk (by omega) (by omega)
          refine mx_iast d_M_draws_387 (hM.s19) (by omega) (by omega) (by first | assumption | exact hR _ _ | exact r32_mk (by omega) (by omega)) ?_
          refine mx_R fun hR_1 => ?_
          refine mx_iinc 2 d_M_draws_388 rfl (Nat.le_of_ble_eq_true rfl) ?_
          refine mx_goto 254 d_M_draws_391 rfl ?_
          refine mj_Xeq (dr_m2) (ih (i + 1, fun q => if q = 192 * d + i then (if (Bool.or (f1 && f2) (f3 && f4)) = true ∧ h (192 * d + i) = 0 then 2 else h (192 * d + i)) else h q, _, _, _, _, _, _) ⟨by show 0 ≤ i + 1; omega, by show i + 1 ≤ 192; omega, ⟨fun q hq => ?_, fun p p0 p1 => ?_⟩⟩ (by show (192 - (i + 1)).toNat < (192 - i).toNat; omega))
          · show (if q = 192 * d + i then _ else h q) = _
            rw [if_neg (by omega)]; exact hw.1 q hq
          · show (if 192 * d + p = 192 * d + i then _ else h (192 * d + p)) = if L p = true then 1 else if p < i + 1 ∧ pc_gp L p = true then 2 else 0
            by_cases e : p = i
            · rw [e, if_pos rfl, hgp, hh]
              cases L i <;> cases (Bool.or (f1 && f2) (f3 && f4)) <;> simp
              omega
            · rw [if_neg (by omega), hw.2 p p0 p1]
              cases L p <;> cases pc_gp L p <;> (try simp) <;> (try omega)
        · refine mx_iload 5 d_M_draws_351 rfl ?_
          refine mx_if_eq 375 d_M_draws_353 rfl (by first | assumption | exact hR _ _ | exact r32_mk (by omega) (by omega)) (fun c_353 => ?_) (fun c_353 => ?_)
          · refine mx_aload_n 0 d_M_draws_375 rfl rfl ?_
            refine mx_getPs 19 d_M_draws_376 f_M_53 rfl rfl (hM.o) (hM.p19) ?_
            refine mx_sipush d_M_draws_379 (by decide) ?_
            refine mx_iload_n 1 d_M_draws_382 rfl rfl ?_
            refine mx_imul d_M_draws_383 ?_
            refine mx_iload_n 2 d_M_draws_384 rfl rfl ?_
            refine mx_iadd d_M_draws_385 ?_
            refine mx_iald d_M_draws_386 (hM.s19) (by omega) (by omega) ?_
            exact mj_ji hJ_351 (by (clear hJ_351 hf1 hf2 hf3 hf4 w1 w2 w3 w4 hgp ih hP; revert c_353; cases Bool.or (f1 && f2) (f3 && f4) <;> simp_all))
          · refine mx_aload_n 0 d_M_draws_356 rfl rfl ?_
            refine mx_getPs 19 d_M_draws_357 f_M_53 rfl rfl (hM.o) (hM.p19) ?_
            refine mx_sipush d_M_draws_360 (by decide) ?_
            refine mx_iload_n 1 d_M_draws_363 rfl rfl ?_
            refine mx_imul d_M_draws_364 ?_
            refine mx_iload_n 2 d_M_draws_365 rfl rfl ?_
            refine mx_iadd d_M_draws_366 ?_
            refine mx_iald d_M_draws_367 (hM.s19) (by omega) (by omega) ?_
            refine mx_if_ne 375 d_M_draws_368 rfl (by first | assumption | exact hR _ _ | exact r32_mk (by omega) (by omega)) (fun c_368 => ?_) (fun c_368 => ?_)
            · refine mx_aload_n 0 d_M_draws_375 rfl rfl ?_
              refine mx_getPs 19 d_M_draws_376 f_M_53 rfl rfl (hM.o) (hM.p19) ?_
              refine mx_sipush d_M_draws_379 (by decide) ?_
              refine mx_iload_n 1 d_M_draws_382 rfl rfl ?_
              refine mx_imul d_M_draws_383 ?_
              refine mx_iload_n 2 d_M_draws_384 rfl rfl ?_
              refine mx_iadd d_M_draws_385 ?_
              refine mx_iald d_M_draws_386 (hM.s19) (by omega) (by omega) ?_
              exact mj_ji hJ_351 (by (clear hJ_351 hf1 hf2 hf3 hf4 w1 w2 w3 w4 hgp ih hP; revert c_353; cases Bool.or (f1 && f2) (f3 && f4) <;> simp_all))
            · refine mx_iconst d_M_draws_371 ?_
              refine mx_goto 387 d_M_draws_372 rfl ?_
              exact mj_ji hJ_351 (by (clear hJ_351 hf1 hf2 hf3 hf4 w1 w2 w3 w4 hgp ih hP; revert c_353; cases Bool.or (f1 && f2) (f3 && f4) <;> simp_all))
      · refine mx_aload_n 0 d_M_draws_281 rfl rfl ?_
        refine mx_iload_n 1 d_M_draws_282 rfl rfl ?_
        refine mx_iload_n 3 d_M_draws_283 rfl rfl ?_
        refine mx_iconst d_M_draws_284 ?_
        refine mx_isub d_M_draws_285 ?_
        refine mx_iload 4 d_M_draws_286 rfl ?_
        refine mx_callV (kc := 0) (ks := 0) (N := n_M_isLine) (as := [_, _, _]) (ci := 7) d_M_draws_288 s_M_173 ⟨Nat.le_of_ble_eq_true rfl, Nat.le_of_ble_eq_true rfl⟩ rfl (mj_wt_8 (Nat.le_of_ble_eq_true rfl)) (hM.o) ⟨_, rfl, rfl⟩ (cm_isLine (A := dr_m B g h) hM hd (r32_mk (by omega) (by omega)) (r32_mk (by omega) (by omega))) (fun r_288 A_288 h_288 => ?_) (fun E_288 A_x h_288 => ?_)
        rotate_left
        · exact h_288.elim
        obtain ⟨rfl, hA_288⟩ := h_288
        obtain rfl := hA_288.symm
        clear hA_288
        refine mx_R fun hR_2 => ?_
        rw [w1]
        refine mx_if_eq 307 d_M_draws_291 rfl (by first | assumption | exact hR_2 _ _ | exact hR _ _ | exact r32_mk (by omega) (by omega)) (fun c_291 => ?_) (fun c_291 => ?_)
        · refine mx_aload_n 0 d_M_draws_307 rfl rfl ?_
          refine mx_iload_n 1 d_M_draws_308 rfl rfl ?_
          refine mx_iload_n 3 d_M_draws_309 rfl rfl ?_
          refine mx_iload 4 d_M_draws_310 rfl ?_
          refine mx_iconst d_M_draws_312 ?_
          refine mx_isub d_M_draws_313 ?_
          refine mx_callV (kc := 0) (ks := 0) (N := n_M_isLine) (as := [_, _, _]) (ci := 7) d_M_draws_314 s_M_173 ⟨Nat.le_of_ble_eq_true rfl, Nat.le_of_ble_eq_true rfl⟩ rfl (mj_wt_8 (Nat.le_of_ble_eq_true rfl)) (hM.o) ⟨_, rfl, rfl⟩ (cm_isLine (A := dr_m B g h) hM hd (r32_mk (by omega) (by omega)) (r32_mk (by omega) (by omega))) (fun r_314 A_314 h_314 => ?_) (fun E_314 A_x h_314 => ?_)
          rotate_left
          · exact h_314.elim
          obtain ⟨rfl, hA_314⟩ := h_314
          obtain rfl := hA_314.symm
          clear hA_314
          refine mx_R fun hR_3 => ?_
          rw [w3]
          refine mx_if_eq 337 d_M_draws_317 rfl (by first | assumption | exact hR_3 _ _ | exact hR_2 _ _ | exact hR _ _ | exact r32_mk (by omega) (by omega)) (fun c_317 => ?_) (fun c_317 => ?_)
          · refine mx_iconst d_M_draws_337 ?_
            first | exact mj_j1 hJ_281 (by (clear hf1 hf2 hf3 hf4 w1 w2 w3 w4 hgp hw ih hP; cases f1 <;> cases f2 <;> cases f3 <;> cases f4 <;> simp_all)) | exact mj_j0 hJ_281 (by (clear hf1 hf2 hf3 hf4 w1 w2 w3 w4 hgp hw ih hP; cases f1 <;> cases f2 <;> cases f3 <;> cases f4 <;> simp_all))
          · refine mx_aload_n 0 d_M_draws_320 rfl rfl ?_
            refine mx_iload_n 1 d_M_draws_321 rfl rfl ?_
            refine mx_iload_n 3 d_M_draws_322 rfl rfl ?_
            refine mx_iload 4 d_M_draws_323 rfl ?_
            refine mx_iconst d_M_draws_325 ?_
            refine mx_iadd d_M_draws_326 ?_
            refine mx_callV (kc := 0) (ks := 0) (N := n_M_isLine) (as := [_, _, _]) (ci := 7) d_M_draws_327 s_M_173 ⟨Nat.le_of_ble_eq_true rfl, Nat.le_of_ble_eq_true rfl⟩ rfl (mj_wt_8 (Nat.le_of_ble_eq_true rfl)) (hM.o) ⟨_, rfl, rfl⟩ (cm_isLine (A := dr_m B g h) hM hd (r32_mk (by omega) (by omega)) (r32_mk (by omega) (by omega))) (fun r_327 A_327 h_327 => ?_) (fun E_327 A_x h_327 => ?_)
            rotate_left
            · exact h_327.elim
            obtain ⟨rfl, hA_327⟩ := h_327
            obtain rfl := hA_327.symm
            clear hA_327
            refine mx_R fun hR_4 => ?_
            rw [w4]
            refine mx_if_eq 337 d_M_draws_330 rfl (by first | assumption | exact hR_4 _ _ | exact hR_3 _ _ | exact hR_2 _ _ | exact hR _ _ | exact r32_mk (by omega) (by omega)) (fun c_330 => ?_) (fun c_330 => ?_)
            · refine mx_iconst d_M_draws_337 ?_
              first | exact mj_j1 hJ_281 (by (clear hf1 hf2 hf3 hf4 w1 w2 w3 w4 hgp hw ih hP; cases f1 <;> cases f2 <;> cases f3 <;> cases f4 <;> simp_all)) | exact mj_j0 hJ_281 (by (clear hf1 hf2 hf3 hf4 w1 w2 w3 w4 hgp hw ih hP; cases f1 <;> cases f2 <;> cases f3 <;> cases f4 <;> simp_all))
            · refine mx_iconst d_M_draws_333 ?_
              refine mx_goto 338 d_M_draws_334 rfl ?_
              first | exact mj_j1 hJ_281 (by (clear hf1 hf2 hf3 hf4 w1 w2 w3 w4 hgp hw ih hP; cases f1 <;> cases f2 <;> cases f3 <;> cases f4 <;> simp_all)) | exact mj_j0 hJ_281 (by (clear hf1 hf2 hf3 hf4 w1 w2 w3 w4 hgp hw ih hP; cases f1 <;> cases f2 <;> cases f3 <;> cases f4 <;> simp_all))
        · refine mx_aload_n 0 d_M_draws_294 rfl rfl ?_
          refine mx_iload_n 1 d_M_draws_295 rfl rfl ?_
          refine mx_iload_n 3 d_M_draws_296 rfl rfl ?_
          refine mx_iconst d_M_draws_297 ?_
          refine mx_iadd d_M_draws_298 ?_
          refine mx_iload 4 d_M_draws_299 rfl ?_
          refine mx_callV (kc := 0) (ks := 0) (N := n_M_isLine) (as := [_, _, _]) (ci := 7) d_M_draws_301 s_M_173 ⟨Nat.le_of_ble_eq_true rfl, Nat.le_of_ble_eq_true rfl⟩ rfl (mj_wt_8 (Nat.le_of_ble_eq_true rfl)) (hM.o) ⟨_, rfl, rfl⟩ (cm_isLine (A := dr_m B g h) hM hd (r32_mk (by omega) (by omega)) (r32_mk (by omega) (by omega))) (fun r_301 A_301 h_301 => ?_) (fun E_301 A_x h_301 => ?_)
          rotate_left
          · exact h_301.elim
          obtain ⟨rfl, hA_301⟩ := h_301
          obtain rfl := hA_301.symm
          clear hA_301
          refine mx_R fun hR_5 => ?_
          rw [w2]
          refine mx_if_ne 333 d_M_draws_304 rfl (by first | assumption | exact hR_5 _ _ | exact hR_2 _ _ | exact hR _ _ | exact r32_mk (by omega) (by omega)) (fun c_304 => ?_) (fun c_304 => ?_)
          · refine mx_iconst d_M_draws_333 ?_
            refine mx_goto 338 d_M_draws_334 rfl ?_
            first | exact mj_j1 hJ_281 (by (clear hf1 hf2 hf3 hf4 w1 w2 w3 w4 hgp hw ih hP; cases f1 <;> cases f2 <;> cases f3 <;> cases f4 <;> simp_all)) | exact mj_j0 hJ_281 (by (clear hf1 hf2 hf3 hf4 w1 w2 w3 w4 hgp hw ih hP; cases f1 <;> cases f2 <;> cases f3 <;> cases f4 <;> simp_all))
          · refine mx_aload_n 0 d_M_draws_307 rfl rfl ?_
            refine mx_iload_n 1 d_M_draws_308 rfl rfl ?_
            refine mx_iload_n 3 d_M_draws_309 rfl rfl ?_
            refine mx_iload 4 d_M_draws_310 rfl ?_
            refine mx_iconst d_M_draws_312 ?_
            refine mx_isub d_M_draws_313 ?_
            refine mx_callV (kc := 0) (ks := 0) (N := n_M_isLine) (as := [_, _, _]) (ci := 7) d_M_draws_314 s_M_173 ⟨Nat.le_of_ble_eq_true rfl, Nat.le_of_ble_eq_true rfl⟩ rfl (mj_wt_8 (Nat.le_of_ble_eq_true rfl)) (hM.o) ⟨_, rfl, rfl⟩ (cm_isLine (A := dr_m B g h) hM hd (r32_mk (by omega) (by omega)) (r32_mk (by omega) (by omega))) (fun r_314 A_314 h_314 => ?_) (fun E_314 A_x h_314 => ?_)
            rotate_left
            · exact h_314.elim
            obtain ⟨rfl, hA_314⟩ := h_314
            obtain rfl := hA_314.symm
            clear hA_314
            refine mx_R fun hR_6 => ?_
            rw [w3]
            refine mx_if_eq 337 d_M_draws_317 rfl (by first | assumption | exact hR_6 _ _ | exact hR_5 _ _ | exact hR_2 _ _ | exact hR _ _ | exact r32_mk (by omega) (by omega)) (fun c_317 => ?_) (fun c_317 => ?_)
            · refine mx_iconst d_M_draws_337 ?_
              first | exact mj_j1 hJ_281 (by (clear hf1 hf2 hf3 hf4 w1 w2 w3 w4 hgp hw ih hP; cases f1 <;> cases f2 <;> cases f3 <;> cases f4 <;> simp_all)) | exact mj_j0 hJ_281 (by (clear hf1 hf2 hf3 hf4 w1 w2 w3 w4 hgp hw ih hP; cases f1 <;> cases f2 <;> cases f3 <;> cases f4 <;> simp_all))
            · refine mx_aload_n 0 d_M_draws_320 rfl rfl ?_
              refine mx_iload_n 1 d_M_draws_321 rfl rfl ?_
              refine mx_iload_n 3 d_M_draws_322 rfl rfl ?_
              refine mx_iload 4 d_M_draws_323 rfl ?_
              refine mx_iconst d_M_draws_325 ?_
              refine mx_iadd d_M_draws_326 ?_
              refine mx_callV (kc := 0) (ks := 0) (N := n_M_isLine) (as := [_, _, _]) (ci := 7) d_M_draws_327 s_M_173 ⟨Nat.le_of_ble_eq_true rfl, Nat.le_of_ble_eq_true rfl⟩ rfl (mj_wt_8 (Nat.le_of_ble_eq_true rfl)) (hM.o) ⟨_, rfl, rfl⟩ (cm_isLine (A := dr_m B g h) hM hd (r32_mk (by omega) (by omega)) (r32_mk (by omega) (by omega))) (fun r_327 A_327 h_327 => ?_) (fun E_327 A_x h_327 => ?_)
              rotate_left
              · exact h_327.elim
              obtain ⟨rfl, hA_327⟩ := h_327
              obtain rfl := hA_327.symm
              clear hA_327
              refine mx_R fun hR_7 => ?_
              rw [w4]
              refine mx_if_eq 337 d_M_draws_330 rfl (by first | assumption | exact hR_7 _ _ | exact hR_6 _ _ | exact hR_5 _ _ | exact hR_2 _ _ | exact hR _ _ | exact r32_mk (by omega) (by omega)) (fun c_330 => ?_) (fun c_330 => ?_)
              · refine mx_iconst d_M_draws_337 ?_
                first | exact mj_j1 hJ_281 (by (clear hf1 hf2 hf3 hf4 w1 w2 w3 w4 hgp hw ih hP; cases f1 <;> cases f2 <;> cases f3 <;> cases f4 <;> simp_all)) | exact mj_j0 hJ_281 (by (clear hf1 hf2 hf3 hf4 w1 w2 w3 w4 hgp hw ih hP; cases f1 <;> cases f2 <;> cases f3 <;> cases f4 <;> simp_all))
              · refine mx_iconst d_M_draws_333 ?_
                refine mx_goto 338 d_M_draws_334 rfl ?_
                first | exact mj_j1 hJ_281 (by (clear hf1 hf2 hf3 hf4 w1 w2 w3 w4 hgp hw ih hP; cases f1 <;> cases f2 <;> cases f3 <;> cases f4 <;> simp_all)) | exact mj_j0 hJ_281 (by (clear hf1 hf2 hf3 hf4 w1 w2 w3 w4 hgp hw ih hP; cases f1 <;> cases f2 <;> cases f3 <;> cases f4 <;> simp_all))
end MODE
