/-! THE SMALL MACHINE, 6: calls -/
section MJF
variable {G : mj_G} {M N : mj_I} {Q : mj_Q} {A : mj_M} {kc ks pc : Nat} {L : List (Option mj_V)} {st as : List mj_V} {Post : Option mj_V → mj_M → Prop} {PX : String → mj_M → Prop}
theorem mj_goodTB {w : Cond} (h : w ∈ mj_TB) : w ∈ mj_TB ∧ ((w.onTables && w.keeps) = true ∨ ∃ ty, w = .arrayClass ty) := ⟨h, good_of_word (List.mem_filter.mp h).2⟩
theorem mj_GoodIn {ws : List Cond} (h : ∀ w ∈ ws, w ∈ mj_TB) : GoodIn mj_TB ws := fun w hw => mj_goodTB (h w hw)
/-- behind a call that may throw -/
theorem mj_after {p : Program} {e : Env} {s : State} {m : MethodId} {args : Array Value} {below : List Frame} {meth : Method} {c : Code} {H : Heap} {locs : List Loc} {ls : Array Slot} {ρ0 ρ : mj_P} {cells slots mc ms : Nat} {st0 : List Value} {a : Array Value} (F : mj_Fr G M p s m args meth c) (S : mj_St G M ρ0 ρ A (kc + mc) (ks + ms) L st s H locs ls cells slots)
    (hr : vx_Run p G.1 e (mi_rm M) s m args below meth c H locs cells slots mc ms (F0 m pc ls st0) (st.map (mj_c ρ)) (mj_Qc G ρ Post a) (mj_Xc G ρ PX) (fun q => G.2.1 ≤ q))
    (kr : ∀ r A', Post r A' → mj_X G M Q A' kc ks (pc + 3) L (r.toList ++ st)) (kx : ∀ E A', PX E A' → mj_T G M Q A' kc ks pc L E) : W p G.1 e (mi_rm M) s m args below meth c H locs cells slots (Q ρ0 args s below) (F0 m pc ls st0) := by
  intro T hT X
  rcases hr T hT X with ⟨v, st₀, t, T', L9, h0, X', hL, e1, e2, ⟨ρ', r, A', hv, hq, hext, hH, hok, hF⟩, sts⟩ | ⟨q, st₀, t, T', L9, E, ce, h0, X', hL, e1, e2, ⟨ρ', A', hq, hext, hH, hF⟩, hce, hcv, hcl, sts⟩
  · cases hv
    obtain ⟨-, -, k3⟩ := vx_keep h0 e1 S.2.2.2.2.1 (fun q _ h => h) (fun q h => h) hL hF
    have hst := S.2.2.2.2.2.2
    have k9 := kr r A' hq p e s m args below meth c T'.heap (locs ++ L9) ls ρ0 ρ' (cells + mc) (slots + ms) F ⟨S.1.tr hext, by have := S.2.1; omega, by have := S.2.2.1; omega, by rw [e1]; exact hH, k3, S.2.2.2.2.2.1.ext hext, fun v hv => by
      rcases List.mem_append.mp hv with h | h
      · exact hok v (by simpa using h)
      · exact (hst v h).ext hext⟩
    rw [List.map_append, mj_map_ext hst hext] at k9
    obtain ⟨t2, a1, b1⟩ := k9 T' rfl X'
    refine ⟨t2, sts t2 ?_, b1⟩
    have e9 : (r.map (mj_c ρ')).toList = r.toList.map (mj_c ρ') := by cases r <;> rfl
    show Steps p.tables e below (T'.setTop { F0 m pc ls st0 with pc := pc + 3, stack := (r.map (mj_c ρ')).toList ++ st.map (mj_c ρ) }) t2
    rw [e9]; exact a1
  · obtain ⟨-, -, k3⟩ := vx_keep h0 e1 S.2.2.2.2.1 (fun q _ h => h) (fun q h => h) hL hF
    obtain ⟨t2, a1, b1⟩ := kx E A' hq p e s m args below meth c T'.heap (locs ++ L9) ls ρ0 ρ' (cells + mc) (slots + ms) q ce (st.map (mj_c ρ)) F ⟨S.1.tr hext, by have := S.2.1; omega, by have := S.2.2.1; omega, by rw [e1]; exact hH, k3, S.2.2.2.2.2.1.ext hext, fun v hv => (by cases hv)⟩ (by rw [e1]; exact hce) hcv hcl T' rfl X'
    exact ⟨t2, sts.trans a1, b1⟩
theorem mj_afterN {p : Program} {e : Env} {s : State} {m : MethodId} {args : Array Value} {below : List Frame} {meth : Method} {c : Code} {H : Heap} {locs : List Loc} {ls : Array Slot} {ρ0 ρ : mj_P} {cells slots mc ms : Nat} {st0 : List Value} {a : Array Value} (F : mj_Fr G M p s m args meth c) (S : mj_St G M ρ0 ρ A (kc + mc) (ks + ms) L st s H locs ls cells slots)
    (hr : va_Run p G.1 e (mi_rm M) s m args below meth c H locs cells slots mc ms (F0 m pc ls st0) (st.map (mj_c ρ)) (mj_Qc G ρ Post a) (fun q => G.2.1 ≤ q))
    (kr : ∀ r A', Post r A' → mj_X G M Q A' kc ks (pc + 3) L (r.toList ++ st)) : W p G.1 e (mi_rm M) s m args below meth c H locs cells slots (Q ρ0 args s below) (F0 m pc ls st0) :=
  mj_after (PX := fun _ _ => False) F S (fun T hT X => by
    obtain ⟨v, st₀, t, T', L9, h0, X', hL, e1, e2, hq, sts⟩ := hr T hT X
    exact Or.inl ⟨v, st₀, t, T', L9, h0, X', hL, e1, e2, hq, sts⟩) kr (fun E A' h => h.elim)
/-- a method that never throws -/
theorem mj_met (h : mj_Cal G N as A Post (fun _ _ => False)) (ρ0 : mj_P) : Met G.1 (mi_y N) (mj_cw N :: mj_TB) (mi_rm N) (mj_Pc G ρ0 as A) (mj_Qc G ρ0 Post) (mi_rm N).cells (mi_rm N).slots (fun q => G.2.1 ≤ q) := by
  intro p e h1 h2 h3 s m args below h4 h5 h6 h7
  obtain ⟨n, o, g1, g2, g3, g4⟩ := h ρ0 p e h1 h2 h3 s m args below h4 h5 h6 h7
  refine ⟨n, o, g1, g2, g3, ?_⟩
  rcases g4 with g4 | ⟨q, -, E, ce, L, ⟨ρ, A', hF, -⟩, -⟩
  · exact g4
  · exact hF.elim
def mj_yok (N : mj_I) (n : Nat) : Prop := (mi_y N).cls ≠ "java/lang/invoke/MethodHandle" ∧ (mi_y N).cls ≠ "java/lang/invoke/VarHandle" ∧ (parseMethodDescriptor (mi_desc N)).map (fun d => d.parameters.length) = some n
/-- a virtual call's words -/
def mj_SV (own : String) (idx : Nat) (N : mj_I) (n : Nat) : Prop := mi_hh N = [] ∧ Cond.methodLink own idx (mi_y N) ∈ mj_TB ∧ Cond.instanceMethod (mi_y N) ∈ mj_TB ∧ Cond.selects (mi_own N) (mi_y N) (mi_y N) ∈ mj_TB ∧ Cond.initialized (mi_own N) ∈ mj_TB ∧ mj_cw N ∈ mj_TB ∧ mj_yok N n
def mj_SS (own : String) (idx : Nat) (N : mj_I) (n : Nat) : Prop := mi_hh N = [] ∧ Cond.methodLink own idx (mi_y N) ∈ mj_TB ∧ Cond.static (mi_y N) ∈ mj_TB ∧ Cond.initialized (mi_own N) ∈ mj_TB ∧ mj_cw N ∈ mj_TB ∧ mj_yok N n
def mj_SH (own : String) (idx : Nat) (N : mj_I) (n : Nat) : Prop := mi_hh N ≠ [] ∧ Cond.methodLink own idx (mi_y N) ∈ mj_TB ∧ Cond.static (mi_y N) ∈ mj_TB ∧ Cond.initialized (mi_own N) ∈ mj_TB ∧ mj_cw N ∈ mj_TB ∧ mj_yok N n
def mj_SNs (own : String) (idx : Nat) (N : mj_I) (n : Nat) : Prop := mi_hh N = [] ∧ (∃ host, Cond.methodLinkNest own idx (mi_y N) host ∈ lw_tbl) ∧ Cond.static (mi_y N) ∈ mj_TB ∧ Cond.initialized (mi_own N) ∈ mj_TB ∧ mj_cw N ∈ mj_TB ∧ mj_yok N n
def mj_SI (own : String) (idx : Nat) (N : mj_I) (n : Nat) : Prop := mi_hh N = [] ∧ mi_ret N = none ∧ mi_name N = "<init>" ∧ Cond.methodLink own idx (mi_y N) ∈ mj_TB ∧ Cond.instanceMethod (mi_y N) ∈ mj_TB ∧ Cond.initialized (mi_own N) ∈ mj_TB ∧ mj_cw N ∈ mj_TB ∧ mj_yok N n
def mj_SNi (own : String) (idx : Nat) (N : mj_I) (n : Nat) : Prop := mi_hh N = [] ∧ mi_ret N = none ∧ mi_name N = "<init>" ∧ (∃ host, Cond.methodLinkNest own idx (mi_y N) host ∈ lw_tbl) ∧ Cond.instanceMethod (mi_y N) ∈ mj_TB ∧ Cond.initialized (mi_own N) ∈ mj_TB ∧ mj_cw N ∈ mj_TB ∧ mj_yok N n
/-- the callee's room fits the caller's -/
def mj_Rm (M N : mj_I) : Prop := (mi_rm N).frames + 1 ≤ (mi_rm M).frames ∧ 8 + (mi_ml N + 11) + (mi_rm N).locals ≤ (mi_rm M).locals
def mj_wt (st : List mj_V) : Nat := ((st.map (mj_c fun _ => none)).map fun v => v.category).sum
theorem mj_wt_eq (ρ : mj_P) (st : List mj_V) : ((st.map (mj_c ρ)).map fun v => v.category).sum = mj_wt st := by
  unfold mj_wt
  simp only [List.map_map]
  congr 1
  refine List.map_congr_left fun v _ => ?_
  rcases v with x | r | x
  · rfl
  · cases r <;> rfl
  · rfl
theorem mj_mrev {ρ : mj_P} {v : mj_V} : (as.reverse ++ v :: st).map (mj_c ρ) = (as.map (mj_c ρ)).reverse ++ mj_c ρ v :: st.map (mj_c ρ) := by simp
theorem mj_mrev0 {ρ : mj_P} : (as.reverse ++ st).map (mj_c ρ) = (as.map (mj_c ρ)).reverse ++ st.map (mj_c ρ) := by simp
theorem mj_cells {M : mj_I} {mc : Nat} {cells kc x : Nat} (h : cells + (kc + mc) ≤ x) : cells + mc ≤ x := by omega
/-- the callee's start -/
theorem mj_pre {p : Program} {s : State} {m : MethodId} {args : Array Value} {meth : Method} {c : Code} {H : Heap} {locs : List Loc} {ls : Array Slot} {ρ0 ρ : mj_P} {cells slots k9 n9 : Nat} {st9 : List mj_V} (F : mj_Fr G M p s m args meth c) (S : mj_St G M ρ0 ρ A k9 n9 L st9 s H locs ls cells slots) (has : ∀ v ∈ as, v ∈ st9) : ∀ U : State, U.heap = H → s.WarmedH U.vm → mj_Pc G ρ as A (as.map (mj_c ρ)).toArray U :=
  fun U hU hW => ⟨rfl, by rw [hU]; exact S.2.2.2.1, F.2.2.2.2.2.2.2.2.2.moved hW hU S.2.2.2.2.1, fun v hv => S.2.2.2.2.2.2 v (has v hv)⟩
theorem mx_callV {idx n ci : Nat} {c0 : Int} (hd : decode (mi_code M) pc = .ok (.invokevirtual idx, 3)) (hS : mj_SV (mi_own M) idx N n) (hR : mj_Rm M N) (hn : as.length = n) (hw : mj_wt st ≤ 8) (hs : gS A c0 = some (.inl ci)) (hci : ∃ r : vw_C, mj_cl[ci]? = some r ∧ r.1 = mi_own N)
    (hc : mj_Cal G N (mR (some c0) :: as) A Post PX) (kr : ∀ r A', Post r A' → mj_X G M Q A' kc ks (pc + 3) L (r.toList ++ st)) (kx : ∀ E A', PX E A' → mj_T G M Q A' kc ks pc L E) : mj_X G M Q A (kc + (mi_rm N).cells) (ks + (mi_rm N).slots) pc L (as.reverse ++ mR (some c0) :: st) := by
  intro p e s m args below meth c H locs ls ρ0 ρ cells slots F S
  obtain ⟨hh, w1, w2, w3, w4, w5, hy⟩ := hS
  have hts := F.2.2.2.2.2.2.2.2.1
  obtain ⟨r', hr2, hrn⟩ := hci
  obtain ⟨a, ha, hz, r, hr1, cell, q1, q2, q3, -⟩ := S.2.2.2.1.sh hs (mj_nx hr2)
  cases hr1.symm.trans hr2
  have hcl := (F.2.2.2.2.2.2.2.2.2.1.1 ci _ hr1).2.1
  have S0 := S.to1 (st' := st) fun h v hv => h v (List.mem_append_right _ (List.mem_cons_of_mem _ hv))
  have hmem : ∀ v ∈ (mR (some c0) :: as), v ∈ as.reverse ++ mR (some c0) :: st := fun v hv => by
    rcases List.mem_cons.mp hv with h | h
    · rw [h]; exact List.mem_append_right _ List.mem_cons_self
    · exact List.mem_append_left _ (List.mem_reverse.mpr h)
  have cw : CallW (mi_rm M) s args (mi_own M) (mi_own N) idx (mi_y N) (mi_code N) (mi_ml N) (mi_ret N) (mj_cw N :: mj_TB) (mi_rm N) (mi_rm N).cells (mi_rm N).slots n :=
    cwV (ws' := mj_TB) n hts (mj_GoodIn fun w hw => by
      rcases List.mem_append.mp hw with h | h
      · simp only [List.mem_cons, List.not_mem_nil, or_false] at h
        rcases h with rfl | rfl | rfl | rfl
        · exact w1
        · exact w2
        · exact w3
        · exact w4
      · rcases List.mem_cons.mp h with rfl | h
        · exact w5
        · exact h) (by rw [mj_cw, if_pos hh]) rfl rfl ⟨rfl, hy⟩ hR
  rw [mj_mrev]
  have e1 : mj_c ρ (mR (some c0)) = .ref a := mj_cR ha
  have hpre := mj_pre (as := mR (some c0) :: as) F S hmem
  rw [List.map_cons, e1] at hpre
  rw [e1]
  exact mj_after F S0 (vx_runV (As := as.map (mj_c ρ)) (rest := st.map (mj_c ρ)) ⟨F.1, F.2.1, F.2.2.1, F.2.2.2.1, hts⟩ (hc ρ) cw ⟨mj_blind, ⟨cell, q1, by rw [q3]; rfl, by rw [q2, ← hrn]; exact hcl⟩, hpre⟩ rfl (by rw [List.length_map]; exact hn) S.2.2.2.2.2.1.1.1 rfl (by show 2 * 0 + _ ≤ 8; rw [mj_wt_eq]; omega) hd ⟨mj_cells (M := M) S.2.1, mj_cells (M := M) S.2.2.1⟩) kr kx
theorem mj_cbS {s : State} {args : Array Value} {idx n : Nat} (hts : ∀ w ∈ mj_TB, w.before args s = true) (hR : mj_Rm M N) (hh : mi_hh N = []) (w1 : Cond.methodLink (mi_own M) idx (mi_y N) ∈ mj_TB) (w4 : Cond.initialized (mi_own N) ∈ mj_TB) (w5 : mj_cw N ∈ mj_TB) (hy : mj_yok N n) : CallB (mi_rm M) s args (mi_own M) idx (mi_y N) (mi_code N) (mi_ml N) (mi_ret N) (mj_cw N :: mj_TB) (mi_rm N) (mi_rm N).cells (mi_rm N).slots n :=
  callB_of (ws' := mj_TB) n hts (mj_GoodIn fun w h => by
    rcases List.mem_cons.mp h with rfl | h
    · exact w5
    · exact h) (by rw [mj_cw, if_pos hh]) rfl rfl (hts _ w4) (hts _ w1) hy hR
theorem mx_callS {idx n : Nat} (hd : decode (mi_code M) pc = .ok (.invokestatic idx, 3)) (hS : mj_SS (mi_own M) idx N n) (hR : mj_Rm M N) (hn : as.length = n) (hw : mj_wt st ≤ 8)
    (hc : mj_Cal G N as A Post PX) (kr : ∀ r A', Post r A' → mj_X G M Q A' kc ks (pc + 3) L (r.toList ++ st)) (kx : ∀ E A', PX E A' → mj_T G M Q A' kc ks pc L E) : mj_X G M Q A (kc + (mi_rm N).cells) (ks + (mi_rm N).slots) pc L (as.reverse ++ st) := by
  intro p e s m args below meth c H locs ls ρ0 ρ cells slots F S
  obtain ⟨hh, w1, w2, w4, w5, hy⟩ := hS
  have hts := F.2.2.2.2.2.2.2.2.1
  have S0 := S.to1 (st' := st) fun h v hv => h v (List.mem_append_right _ hv)
  have hpre := mj_pre (as := as) F S (fun v hv => List.mem_append_left _ (List.mem_reverse.mpr hv))
  rw [mj_mrev0]
  exact mj_after F S0 (vx_runS (As := as.map (mj_c ρ)) (rest := st.map (mj_c ρ)) ⟨F.1, F.2.1, F.2.2.1, F.2.2.2.1, hts⟩ (hc ρ) ⟨mj_cbS hts hR hh w1 w4 w5 hy, hts _ w2⟩ ⟨mj_blind, hpre⟩ rfl (by rw [List.length_map]; exact hn) S.2.2.2.2.2.1.1.1 rfl (by show 2 * 0 + _ ≤ 8; rw [mj_wt_eq]; omega) hd ⟨mj_cells (M := M) S.2.1, mj_cells (M := M) S.2.2.1⟩) kr kx
/-- a static method with handlers -/
theorem mx_callSH {idx n : Nat} (hd : decode (mi_code M) pc = .ok (.invokestatic idx, 3)) (hS : mj_SH (mi_own M) idx N n) (hR : mj_Rm M N) (hn : as.length = n) (hw : mj_wt st ≤ 8)
    (hc : mj_Cal G N as A Post PX) (kr : ∀ r A', Post r A' → mj_X G M Q A' kc ks (pc + 3) L (r.toList ++ st)) (kx : ∀ E A', PX E A' → mj_T G M Q A' kc ks pc L E) : mj_X G M Q A (kc + (mi_rm N).cells) (ks + (mi_rm N).slots) pc L (as.reverse ++ st) := by
  intro p e s m args below meth c H locs ls ρ0 ρ cells slots F S
  obtain ⟨hh, w1, w2, w4, w5, hy⟩ := hS
  have hts := F.2.2.2.2.2.2.2.2.1
  have S0 := S.to1 (st' := st) fun h v hv => h v (List.mem_append_right _ hv)
  have hpre := mj_pre (as := as) F S (fun v hv => List.mem_append_left _ (List.mem_reverse.mpr hv))
  have cw : vx_CSW (mi_rm M) s args (mi_own M) idx (mi_y N) (mi_code N) (mi_ml N) (mi_ret N) (mi_hh N) (mj_cw N :: mj_TB) (mi_rm N) (mi_rm N).cells (mi_rm N).slots n :=
    vx_cwSW (ws' := mj_TB) n hts (mj_GoodIn fun w hw => by
      rcases List.mem_append.mp hw with h | h
      · simp only [List.mem_cons, List.not_mem_nil, or_false] at h
        rcases h with rfl | rfl | rfl
        · exact w1
        · exact w2
        · exact w4
      · rcases List.mem_cons.mp h with rfl | h
        · exact w5
        · exact h) (by rw [mj_cw, if_neg hh]) rfl rfl hy hR
  rw [mj_mrev0]
  exact mj_after F S0 (vx_runSX (As := as.map (mj_c ρ)) (rest := st.map (mj_c ρ)) ⟨F.1, F.2.1, F.2.2.1, F.2.2.2.1, hts⟩ (hc ρ) cw ⟨mj_blind, hpre⟩ rfl (by rw [List.length_map]; exact hn) S.2.2.2.2.2.1.1.1 rfl (by show 2 * 0 + _ ≤ 8; rw [mj_wt_eq]; omega) hd ⟨mj_cells (M := M) S.2.1, mj_cells (M := M) S.2.2.1⟩) kr kx
theorem mj_nestB {s : State} {args : Array Value} {idx n : Nat} {host : String} {H : Heap} (hts : ∀ w ∈ mj_TB, w.before args s = true) (hB : mj_B G s) (hR : mj_Rm M N) (hh : mi_hh N = []) (w1 : Cond.methodLinkNest (mi_own M) idx (mi_y N) host ∈ lw_tbl) (w4 : Cond.initialized (mi_own N) ∈ mj_TB) (w5 : mj_cw N ∈ mj_TB) (hy : mj_yok N n) : va_CN (mi_rm M) s args (mi_own M) idx (mi_y N) host (mi_code N) (mi_ml N) (mi_ret N) (mj_cw N :: mj_TB) (mi_rm N) (mi_rm N).cells (mi_rm N).slots n :=
  va_cnB (ws' := mj_TB) n hts (mj_GoodIn fun w h => by
    rcases List.mem_cons.mp h with rfl | h
    · exact w5
    · exact h) (by rw [mj_cw, if_pos hh]) rfl rfl (hB.2.2.2.2.2.1 _ w1 rfl) (hts _ w4) hy hR
/-- a private static method of the nest's host -/
theorem mx_callSN {idx n : Nat} (hd : decode (mi_code M) pc = .ok (.invokestatic idx, 3)) (hS : mj_SNs (mi_own M) idx N n) (hR : mj_Rm M N) (hn : as.length = n) (hw : mj_wt st ≤ 8)
    (hc : mj_Cal G N as A Post (fun _ _ => False)) (kr : ∀ r A', Post r A' → mj_X G M Q A' kc ks (pc + 3) L (r.toList ++ st)) : mj_X G M Q A (kc + (mi_rm N).cells) (ks + (mi_rm N).slots) pc L (as.reverse ++ st) := by
  intro p e s m args below meth c H locs ls ρ0 ρ cells slots F S
  obtain ⟨hh, ⟨host, w1⟩, w2, w4, w5, hy⟩ := hS
  have hts := F.2.2.2.2.2.2.2.2.1
  have S0 := S.to1 (st' := st) fun h v hv => h v (List.mem_append_right _ hv)
  have hpre := mj_pre (as := as) F S (fun v hv => List.mem_append_left _ (List.mem_reverse.mpr hv))
  rw [mj_mrev0]
  exact mj_afterN F S0 (va_runSN (As := as.map (mj_c ρ)) (rest := st.map (mj_c ρ)) ⟨F.1, F.2.1, F.2.2.1, F.2.2.2.1, hts⟩ (mj_met hc ρ) ⟨mj_nestB (H := H) hts F.2.2.2.2.2.2.2.2.2 hR hh w1 w4 w5 hy, hts _ w2, trivial⟩ ⟨mj_blind, hpre⟩ rfl (by rw [List.length_map]; exact hn) S.2.2.2.2.2.1.1.1 rfl (by show 2 * 0 + _ ≤ 8; rw [mj_wt_eq]; omega) hd ⟨mj_cells (M := M) S.2.1, mj_cells (M := M) S.2.2.1⟩) kr
/-- a constructor -/
theorem mx_callI {idx n : Nat} {c0 : Int} (hd : decode (mi_code M) pc = .ok (.invokespecial idx, 3)) (hS : mj_SI (mi_own M) idx N n) (hR : mj_Rm M N) (hn : as.length = n) (hw : mj_wt st ≤ 8)
    (hc : mj_Cal G N (mR (some c0) :: as) A Post (fun _ _ => False)) (kr : ∀ r A', Post r A' → mj_X G M Q A' kc ks (pc + 3) L (r.toList ++ st)) : mj_X G M Q A (kc + (mi_rm N).cells) (ks + (mi_rm N).slots) pc L (as.reverse ++ mR (some c0) :: st) := by
  intro p e s m args below meth c H locs ls ρ0 ρ cells slots F S
  obtain ⟨hh, hret, hnm, w1, w2, w4, w5, hy⟩ := hS
  have hts := F.2.2.2.2.2.2.2.2.1
  have S0 := S.to1 (st' := st) fun h v hv => h v (List.mem_append_right _ (List.mem_cons_of_mem _ hv))
  have hmem : ∀ v ∈ (mR (some c0) :: as), v ∈ as.reverse ++ mR (some c0) :: st := fun v hv => by
    rcases List.mem_cons.mp hv with h | h
    · rw [h]; exact List.mem_append_right _ List.mem_cons_self
    · exact List.mem_append_left _ (List.mem_reverse.mpr h)
  have hpre := mj_pre (as := mR (some c0) :: as) F S hmem
  have cb := mj_cbS hts hR hh w1 w4 w5 hy
  rw [hret] at cb
  rw [mj_mrev]
  exact mj_afterN F S0 (va_runI (b := (ρ c0).getD 0) (As := as.map (mj_c ρ)) (rest := st.map (mj_c ρ)) ⟨F.1, F.2.1, F.2.2.1, F.2.2.2.1, hts⟩ (mj_met hc ρ) ⟨cb, hnm, hts _ w2⟩ ⟨mj_blind, hpre⟩ rfl (by rw [List.length_map]; exact hn) S.2.2.2.2.2.1.1.1 rfl (by show 2 * 0 + _ ≤ 8; rw [mj_wt_eq]; omega) hd ⟨mj_cells (M := M) S.2.1, mj_cells (M := M) S.2.2.1⟩) kr
theorem mx_callIN {idx n : Nat} {c0 : Int} (hd : decode (mi_code M) pc = .ok (.invokespecial idx, 3)) (hS : mj_SNi (mi_own M) idx N n) (hR : mj_Rm M N) (hn : as.length = n) (hw : mj_wt st ≤ 8)
    (hc : mj_Cal G N (mR (some c0) :: as) A Post (fun _ _ => False)) (kr : ∀ r A', Post r A' → mj_X G M Q A' kc ks (pc + 3) L (r.toList ++ st)) : mj_X G M Q A (kc + (mi_rm N).cells) (ks + (mi_rm N).slots) pc L (as.reverse ++ mR (some c0) :: st) := by
  intro p e s m args below meth c H locs ls ρ0 ρ cells slots F S
  obtain ⟨hh, hret, hnm, ⟨host, w1⟩, w2, w4, w5, hy⟩ := hS
  have hts := F.2.2.2.2.2.2.2.2.1
  have S0 := S.to1 (st' := st) fun h v hv => h v (List.mem_append_right _ (List.mem_cons_of_mem _ hv))
  have hmem : ∀ v ∈ (mR (some c0) :: as), v ∈ as.reverse ++ mR (some c0) :: st := fun v hv => by
    rcases List.mem_cons.mp hv with h | h
    · rw [h]; exact List.mem_append_right _ List.mem_cons_self
    · exact List.mem_append_left _ (List.mem_reverse.mpr h)
  have hpre := mj_pre (as := mR (some c0) :: as) F S hmem
  have cb := mj_nestB (H := H) hts F.2.2.2.2.2.2.2.2.2 hR hh w1 w4 w5 hy
  rw [hret] at cb
  rw [mj_mrev]
  exact mj_afterN F S0 (va_runIN (b := (ρ c0).getD 0) (As := as.map (mj_c ρ)) (rest := st.map (mj_c ρ)) ⟨F.1, F.2.1, F.2.2.1, F.2.2.2.1, hts⟩ (mj_met hc ρ) ⟨cb, hnm, hts _ w2⟩ ⟨mj_blind, hpre⟩ rfl (by rw [List.length_map]; exact hn) S.2.2.2.2.2.1.1.1 rfl (by show 2 * 0 + _ ≤ 8; rw [mj_wt_eq]; omega) hd ⟨mj_cells (M := M) S.2.1, mj_cells (M := M) S.2.2.1⟩) kr
/-- java/lang/Object's constructor -/
theorem mx_objInit {idx : Nat} {c0 : Int} (hd : decode (mi_code M) pc = .ok (.invokespecial idx, 3)) (w1 : Cond.methodLink (mi_own M) idx Lib.objectInit ∈ mj_TB) (w2 : Cond.instanceMethod Lib.objectInit ∈ mj_TB) (w3 : Cond.code Lib.objectInit ⟨#[0xb1]⟩ 1 none ∈ mj_TB) (hf : 1 ≤ (mi_rm M).frames) (hl : mj_wt st + 12 ≤ (mi_rm M).locals) (hs : gS A c0 ≠ none) (kk : mj_X G M Q A kc ks (pc + 3) L st) : mj_X G M Q A kc ks pc L (mR (some c0) :: st) := by
  intro p e s m args below meth c H locs ls ρ0 ρ cells slots F S
  have hts := F.2.2.2.2.2.2.2.2.1
  exact W.objInit F.1 F.2.1 F.2.2.2.1 (hts _ w1) (hts _ w2) (hts _ w3) rfl (S.2.2.2.2.2.1.1.1.trans F.2.2.1.symm) rfl hd hf (by show 2 * 0 + _ + 12 ≤ _; rw [mj_wt_eq]; omega) (kk p e s m args below meth c H locs ls ρ0 ρ cells slots F (S.to1 fun h => (List.forall_mem_cons.mp h).2))
theorem mj_mm {x y : Int} (hx : r32 x) (hy : r32 y) : (if Int32.ofInt x < Int32.ofInt y then Int32.ofInt y else Int32.ofInt x) = Int32.ofInt (if x < y then y else x) := by
  by_cases h : x < y
  · rw [if_pos h, if_pos ((r32_lt hx hy).mpr h)]
  · rw [if_neg h, if_neg fun z => h ((r32_lt hx hy).mp z)]
end MJF
