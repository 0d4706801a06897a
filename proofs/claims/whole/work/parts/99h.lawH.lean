/-! THE LAW, 14: its end; what every start knows -/
section LAWH
/-- the law's end: true, and nothing written but new cells -/
def lawQ (A : Nat → Prop) : mj_Q := fun _ _ s below t => ∃ o, t.status = .running ∧ Ended t below o ∧ o = .returned (some (.int 1)) ∧ ∃ locs : List Loc, (∀ q ∈ locs, A q.base) ∧ Framed s o t locs 601024 7293034
theorem lw_retG {A : Nat → Prop} {p : Program} {l : Launch} {e : Env} {s : State} {m : MethodId} {args : Array Value} {below : List Frame} {meth : Method} {c : Code} {locs : List Loc} {ρ : mj_P} (hx : p.tables.exec = Jvm.exec) (hb : c.code = code) (hr : meth.sig.returnType = ret) (hlocks : meth.locks = false) {pc : Nat} {H : Heap} {ls : Array Slot} (hA : ∀ q ∈ locs, A q.base) (hdg : decode code pc = .ok (.ireturn, 1)) : W p l e room_1 s m args below meth c H locs 601024 7293034 (lawQ A ρ args s below) (F0 m pc ls [.int 1]) := by
  intro T hT X
  obtain ⟨fs, hret, hrun, hended, hW, hframe⟩ := X.leave (v := some (.int 1)) (hlocks := hlocks) (fun h => by rw [hr] at h; cases h)
  have hmeth' : T.vm.method? m = some meth := X.method'
  refine ⟨T.setFrames fs, ?_, .returned (some (.int 1)), hrun, hended, rfl, locs, hA, ⟨_, rfl⟩, hW, hframe⟩
  jvm_step X.here [X.here.top, hx, hb, hdg, hmeth', hr, ret, narrow_b1]
  (try refine ⟨rfl, ?_⟩); (try refine ⟨rfl, ?_⟩)
  first | (intro acts; rw [hret _ acts rfl rfl rfl]) | rw [hret _ _ rfl rfl rfl]
  exact Steps.refl _
theorem lw_end {G : mj_G} {A : mj_M} {L : List (Option mj_V)} : mj_X G n_L_law (lawQ (fun q => G.2.1 ≤ q)) A 0 0 2571 L [] := by
  refine mx_iconst d_L_law_2571 ?_
  intro p e s m args below meth c H locs ls ρ0 ρ cells slots F S
  exact W.widen (k := 601024) (n := 7293034) S.2.1 S.2.2.1 (lw_retG F.1 F.2.1 F.2.2.2.2.1 F.2.2.2.2.2.1 S.2.2.2.2.1.2.2 d_L_law_2572)
theorem mj_ins : ∀ (ci : Nat) (r : vw_C), mj_cl[ci]? = some r → Cond.instantiable r.1 r.2.2 ∈ lw_tbl := by
  intro ci r h
  match ci, h with
  | 0, h => cases h; decide +kernel
  | 1, h => cases h; decide +kernel
  | 2, h => cases h; decide +kernel
  | 3, h => cases h; decide +kernel
  | 4, h => cases h; decide +kernel
  | 5, h => cases h; decide +kernel
  | 6, h => cases h; decide +kernel
  | 7, h => cases h; decide +kernel
  | n + 8, h => simp [mj_cl] at h
theorem mj_sref : ∀ q ∈ mj_str, Cond.stringRef q.1 q.2.1 q.2.2 ∈ lw_tbl := by decide +kernel
theorem mj_sexa : ∀ q ∈ mj_str, Cond.exactly (.string q.1 q.2.1) "java/lang/String" ∈ flatC (Jvm.Cond.and given_1 narrow_1) := by decide +kernel
theorem mj_ncm : ∀ q ∈ mj_nc, Cond.not (.castable q.1 q.2) ∈ flatC (Jvm.Cond.and given_1 narrow_1) := by decide +kernel
theorem mj_tbm {w : Cond} (h : w ∈ mj_TB) : w ∈ lw_tbl := (List.mem_filter.mp h).1
/-- the arrays' classes -/
theorem mj_arr {s : State} {args : Array Value} (hts : ∀ w ∈ lw_tbl, w.before args s = true) : ∀ t, t < 7 → ∃ cA, ArrOfT s cA (mj_ty t) ∧ va_RA s cA (mj_ty t) := by
  have prim : ∀ ty, Cond.arrayClass ty ∈ lw_tbl → ∃ cA, ArrOfT s cA ty ∧ s.vm.findClass ("[" ++ ty.toString) = some cA := fun ty hm => by
    obtain ⟨cA, k, comp, h1, h2, h3⟩ := Cond.arrayClass_spec (hts _ hm)
    exact ⟨cA, fun n z => ⟨fun k h => (by cases h), k, h2, comp, h3⟩, h1⟩
  have obj : ∀ n, Cond.arrayOver (.object n) ∈ lw_tbl → ∃ cA, ArrOfT s cA (.object n) ∧ va_RA s cA (.object n) := fun n hm => by
    obtain ⟨comp, cA, k, h1, h2, h3, h4, h5⟩ := Cond.arrayOver_spec (hts _ hm)
    exact ⟨cA, fun n z => ⟨fun k h => (by cases h), k, h3, comp, h4⟩, k, comp, h3, h4, h1, h5⟩
  intro t ht
  match t, ht with
  | 0, _ => exact prim .int (by decide +kernel)
  | 1, _ => exact prim .boolean (by decide +kernel)
  | 2, _ => exact prim .long (by decide +kernel)
  | 3, _ => exact obj "CelHouse$Drawing" (by decide +kernel)
  | 4, _ => exact obj "CelHouse$Peg" (by decide +kernel)
  | 5, _ => exact obj "CelHouse$Scene" (by decide +kernel)
  | 6, _ => exact obj "CelHouse$Stroke" (by decide +kernel)
  | n + 7, h => omega
/-- the small machine's start -/
theorem mj_begin {s : State} {args : Array Value} {l : Launch} (hflags : l.flags = flags0) (hts : ∀ w ∈ lw_tbl, w.before args s = true) (hgv : (Jvm.Cond.and given_1 narrow_1).before args s = true) {scr : Cell} (hscr : s.isArrayOf scr .int) : ∃ (D : va_G) (ar : Nat → ClassId), ar 7 = scr.cls ∧ mj_B (l, s.heap.size, D, ar) s := by
  have hs := flat_of_before _ hgv
  have h0 : ∀ ci : Nat, ∃ q : ClassId × (Nat → Nat), ∀ r : vw_C, mj_cl[ci]? = some r → u_Kn s r.1 r.2.1 r.2.2 q.1 q.2 := fun ci => by
    cases h : mj_cl[ci]? with
    | none => exact ⟨(scr.cls, fun _ => 0), fun r hr => by cases hr⟩
    | some r =>
      obtain ⟨cC, iS, hK⟩ := u_known (C := r.1) (T := r.2.1) (N := r.2.2) (n := r.2.2) hts (fun w hw => mj_tbm ((mj_cls h).1 w hw)) (hts _ (mj_ins ci r h))
      exact ⟨(cC, iS), fun r' hr' => by cases hr'; exact hK⟩
  have ha : ∀ t, ∃ cA, (t < 7 → ArrOfT s cA (mj_ty t) ∧ va_RA s cA (mj_ty t)) ∧ (t = 7 → cA = scr.cls) := fun t => by
    by_cases ht : t < 7
    · obtain ⟨cA, h1, h2⟩ := mj_arr hts t ht
      exact ⟨cA, fun _ => ⟨h1, h2⟩, fun h => by omega⟩
    · exact ⟨scr.cls, fun h => absurd h ht, fun _ => rfl⟩
  refine ⟨(fun ci => (Classical.choose (h0 ci)).1, fun ci => (Classical.choose (h0 ci)).2), fun t => Classical.choose (ha t), (Classical.choose_spec (ha 7)).2 rfl, ⟨fun ci r hr => Classical.choose_spec (h0 ci) r hr, fun k q h => by simp at h⟩, fun t ht => (Classical.choose_spec (ha t)).1 ht, ?_, ?_, fun q hq => ?_, fun w hw hx => ?_, fun q hq => va_Nc.of (hs _ (mj_ncm q hq)), ⟨fun t h3 h7 => ?_, ?_⟩, Nat.le_refl _, ?_⟩
  · exact vx_Zqof (hts _ (by decide +kernel)) (hts _ (by decide +kernel)) (hs _ (by decide +kernel)) (fun a h => Nat.not_le.mpr h)
  · exact vx_Zqof (hts _ (by decide +kernel)) (hts _ (by decide +kernel)) (hs _ (by decide +kernel)) (fun a h => Nat.not_le.mpr h)
  · obtain ⟨a, c, cell, k, h1, -⟩ := Cond.exactly_spec (hs _ (mj_sexa q hq))
    exact ⟨a, hts _ (mj_sref q hq), h1⟩
  · refine va_Nw.of ?_ (hts w hw)
    cases w <;> first | rfl | (simp [mj_xw] at hx)
  · rcases (show t = 3 ∨ t = 4 ∨ t = 5 ∨ t = 6 by omega) with rfl | rfl | rfl | rfl
    · exact va_AO.of (hts (.arrayOver (.object "CelHouse$Drawing")) (by decide +kernel))
    · exact va_AO.of (hts (.arrayOver (.object "CelHouse$Peg")) (by decide +kernel))
    · exact va_AO.of (hts (.arrayOver (.object "CelHouse$Scene")) (by decide +kernel))
    · exact va_AO.of (hts (.arrayOver (.object "CelHouse$Stroke")) (by decide +kernel))
  · intro n z
    show s.isArrayOf (arrV (Classical.choose (ha 7)) n z) .int
    rw [(Classical.choose_spec (ha 7)).2 rfl]
    exact ⟨fun k h => (by cases h), hscr.2⟩
  · show l.stackTraces = false
    unfold Launch.stackTraces
    rw [hflags]
    decide +kernel
end LAWH
