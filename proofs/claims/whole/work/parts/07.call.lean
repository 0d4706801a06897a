/-! THE SMALL MACHINE, 5: contracts, bodies, returns, throws, calls -/
section MJE
def mj_Pc (G : mj_G) (ρ0 : mj_P) (as : List mj_V) (A : mj_M) : Array Value → State → Prop := fun av U => av = (as.map (mj_c ρ0)).toArray ∧ mj_H G ρ0 A U.heap ∧ mj_B G U ∧ ∀ v ∈ as, mj_ok ρ0 v
def mj_Qc (G : mj_G) (ρ0 : mj_P) (Post : Option mj_V → mj_M → Prop) : Array Value → State → Outcome → State → Prop := fun _ st oc t => ∃ (ρ : mj_P) (r : Option mj_V) (A' : mj_M), oc = .returned (r.map (mj_c ρ)) ∧ Post r A' ∧ mj_ext ρ0 ρ ∧ mj_H G ρ A' t.heap ∧ (∀ v, r = some v → mj_ok ρ v) ∧ va_F (fun q => G.2.1 ≤ q) st t
def mj_Xc (G : mj_G) (ρ0 : mj_P) (PX : String → mj_M → Prop) : String → State → State → Prop := fun E st t => ∃ (ρ : mj_P) (A' : mj_M), PX E A' ∧ mj_ext ρ0 ρ ∧ mj_H G ρ A' t.heap ∧ va_F (fun q => G.2.1 ≤ q) st t
def mj_cw (M : mj_I) : Cond := if mi_hh M = [] then .code (mi_y M) (mi_code M) (mi_ml M) (mi_ret M) else .codeWith (mi_y M) (mi_code M) (mi_ml M) (mi_ret M) (mi_hh M)
/-- from the memory A, with these arguments, the method returns with Post or throws with PX -/
def mj_Cal (G : mj_G) (M : mj_I) (as : List mj_V) (A : mj_M) (Post : Option mj_V → mj_M → Prop) (PX : String → mj_M → Prop) : Prop :=
  ∀ ρ0 : mj_P, vx_Met G.1 (mi_y M) (mj_cw M :: mj_TB) (mi_rm M) (mj_Pc G ρ0 as A) (mj_Qc G ρ0 Post) (mj_Xc G ρ0 PX) (mi_rm M).cells (mi_rm M).slots (fun q => G.2.1 ≤ q)
def mj_Qm (G : mj_G) (M : mj_I) (Post : Option mj_V → mj_M → Prop) (PX : String → mj_M → Prop) : mj_Q := fun ρ0 args s below => vx_MQ below (mj_Qc G ρ0 Post) (mj_Xc G ρ0 PX) args s (mi_rm M).cells (mi_rm M).slots (fun q => G.2.1 ≤ q)
theorem mj_blind {G : mj_G} {ρ0 : mj_P} {as : List mj_V} {A : mj_M} : FrameBlind (mj_Pc G ρ0 as A) := fun a U g mk h => ⟨h.1, h.2.1, h.2.2.1.same rfl rfl, h.2.2.2⟩
/-- the locals at the entry -/
theorem mj_entry {ρ : mj_P} {as : List mj_V} {n : Nat} (hn : as.length ≤ n) (hz : ∀ v ∈ as, mj_ok ρ v ∧ ∀ z, v ≠ mZ z) : mj_L ρ n (as.map some ++ List.replicate (n - as.length) none) (((as.map (mj_c ρ)).map Slot.val ++ List.replicate (n - (as.map (mj_c ρ)).length) Slot.unset).toArray) := by
  have hget : ∀ (i : Nat) (x : Slot), (((as.map (mj_c ρ)).map Slot.val ++ List.replicate (n - (as.map (mj_c ρ)).length) Slot.unset).toArray)[i]? = some x → x = .unset ∨ ∃ v, as[i]? = some v ∧ x = .val (mj_c ρ v) := by
    intro i x hx
    rw [List.getElem?_toArray, List.getElem?_append] at hx
    split at hx
    · simp only [List.getElem?_map, Option.map_eq_some_iff] at hx
      obtain ⟨w, ⟨v, h1, h2⟩, h3⟩ := hx
      exact Or.inr ⟨v, h1, by rw [← h3, ← h2]⟩
    · rw [List.getElem?_replicate] at hx
      split at hx
      · cases hx; exact Or.inl rfl
      · cases hx
  refine ⟨⟨?_, ⟨fun i v hv h2 => ?_, fun i hi => ?_⟩, fun q hq => ?_⟩, ?_, fun k v hk => ?_⟩
  · simp; omega
  · rcases hget i _ hv with h | ⟨w, h1, h⟩
    · cases h
    · cases h
      have := mj_cat (ρ := ρ) (hz w (List.mem_of_getElem? h1)).2
      omega
  · rcases hget i _ hi with h | ⟨w, h1, h⟩ <;> cases h
  · obtain ⟨k, u, h1, h2, h3⟩ := (mj_l_mem _ 0).mp (show (q.1, q.2) ∈ _ from hq)
    have hk0 : q.1 = k := by omega
    rw [hk0, h3]
    rw [List.getElem?_append] at h1
    split at h1
    · rename_i hlt
      simp only [List.getElem?_map, Option.map_eq_some_iff] at h1
      obtain ⟨w, h4, h5⟩ := h1
      cases h5
      rw [List.getElem?_toArray, List.getElem?_append_left (by simpa using hlt)]
      simp [h4]
    · rw [List.getElem?_replicate] at h1
      split at h1 <;> cases h1
  · simp; omega
  · rw [List.getElem?_append] at hk
    split at hk
    · simp only [List.getElem?_map, Option.map_eq_some_iff] at hk
      obtain ⟨w, h4, h5⟩ := hk
      cases h5
      exact hz _ (List.mem_of_getElem? h4)
    · rw [List.getElem?_replicate] at hk
      split at hk <;> cases hk
section BODY
variable {G : mj_G} {M : mj_I} {A : mj_M} {as : List mj_V} {Post : Option mj_V → mj_M → Prop} {PX : String → mj_M → Prop} {L0 : List (Option mj_V)}
theorem mj_body0 {ρ0 : mj_P} {p : Program} {e : Env} {s : State} {m : MethodId} {args : Array Value} {below : List Frame} {meth : Method} {c : Code} {s₁ : State} {w : Cond} (hn : as.length ≤ mi_ml M) (hz : ∀ v ∈ as, ∀ z, v ≠ mZ z) (hL : L0 = as.map some ++ List.replicate (mi_ml M - as.length) none)
    (k : mj_X G M (mj_Qm G M Post PX) A (mi_rm M).cells (mi_rm M).slots 0 L0 []) (B : BodyLoose p G.1 (mi_y M) (headSpec (w :: mj_TB) (mi_rm M)) (mi_code M) (mi_ml M) (mi_ret M) e s m args below meth c s₁) (hml : c.maxLocals = mi_ml M) (ht : c.exceptionTable.toList = tableOf (mi_hh M)) (hP : mj_Pc G ρ0 as A args s) :
    W p G.1 e (headSpec (w :: mj_TB) (mi_rm M)).room s m args below meth c s.heap [] 0 0 (vx_MQ below (mj_Qc G ρ0 Post) (mj_Xc G ρ0 PX) args s (mi_rm M).cells (mi_rm M).slots (fun q => G.2.1 ≤ q)) (entryFrame m args (mi_ml M)) := by
  obtain ⟨rfl, hH, hB, hok⟩ := hP
  have hts := atoms_spec (ws := w :: mj_TB) B.pre
  have hcat : ∀ v ∈ as.map (mj_c ρ0), v.category = 1 := by
    intro v hv
    obtain ⟨u, hu, rfl⟩ := List.mem_map.mp hv
    exact mj_cat (hz u hu)
  rw [entry_eq m (as.map (mj_c ρ0)) hcat]
  subst hL
  exact k p e s m _ below meth c s.heap [] _ ρ0 ρ0 0 0 ⟨B.exec, B.bytes, hml, findClass_of_methodNamed B.named, B.returns, B.notSynchronized, (name_of_methodNamed B.named B.method).1, ht, fun x hx => hts x (List.mem_cons_of_mem _ hx), hB⟩
    ⟨mj_ext.rf, Nat.le_of_eq (Nat.zero_add _), Nat.le_of_eq (Nat.zero_add _), hH, va_S.rf, mj_entry hn fun v hv => ⟨hok v hv, hz v hv⟩, fun v hv => by cases hv⟩
theorem mj_body (hh : mi_hh M = []) (hy : plainName (mi_own M) = true) (hn : as.length ≤ mi_ml M) (hz : ∀ v ∈ as, ∀ z, v ≠ mZ z) (hL : L0 = as.map some ++ List.replicate (mi_ml M - as.length) none)
    (k : mj_X G M (mj_Qm G M Post PX) A (mi_rm M).cells (mi_rm M).slots 0 L0 []) : mj_Cal G M as A Post PX := by
  intro ρ0
  refine vx_ofW (y := mi_y M) (cc := mi_code M) (maxL := mi_ml M) (ret := mi_ret M) (ws' := mj_TB) hy (by rw [mj_cw, if_pos hh]) ?_
  intro p e s m args below meth c s₁ B hml hexc hP
  refine mj_body0 hn hz hL k B hml ?_ hP
  rw [hh]
  show _ = []
  exact List.eq_nil_iff_forall_not_mem.mpr fun x hx => hexc x hx
theorem mj_bodyH (hh : mi_hh M ≠ []) (hy : plainName (mi_own M) = true) (hn : as.length ≤ mi_ml M) (hz : ∀ v ∈ as, ∀ z, v ≠ mZ z) (hL : L0 = as.map some ++ List.replicate (mi_ml M - as.length) none)
    (k : mj_X G M (mj_Qm G M Post PX) A (mi_rm M).cells (mi_rm M).slots 0 L0 []) : mj_Cal G M as A Post PX := by
  intro ρ0
  refine vx_ofWH (y := mi_y M) (cc := mi_code M) (maxL := mi_ml M) (ret := mi_ret M) (hh := mi_hh M) (ws' := mj_TB) hy (by rw [mj_cw, if_neg hh]) ?_
  intro p e s m args below meth c s₁ B hml hP
  refine mj_body0 hn hz hL k B hml ?_ hP
  have h := atoms_spec (ws := mj_cw M :: mj_TB) B.pre _ List.mem_cons_self
  rw [mj_cw, if_neg hh] at h
  exact vx_table (x := mi_y M) B h
end BODY
section ENDS
variable {G : mj_G} {M : mj_I} {A : mj_M} {kc ks pc : Nat} {L : List (Option mj_V)} {st : List mj_V} {Post : Option mj_V → mj_M → Prop} {PX : String → mj_M → Prop}
theorem mj_fin {ρ0 ρ : mj_P} {s t : State} {H : Heap} {locs : List Loc} {ls : Array Slot} {cells slots : Nat} {a : Array Value} (S : mj_St G M ρ0 ρ A kc ks L st s H locs ls cells slots) (ht : t.heap = H) {r : Option mj_V} (hq : Post r A) (hr : ∀ v, r = some v → v ∈ st) : mj_Qc G ρ0 Post a s (.returned (r.map (mj_c ρ))) t :=
  ⟨ρ, r, A, rfl, hq, S.1, by rw [ht]; exact S.2.2.2.1, fun v hv => S.2.2.2.2.2.2 v (hr v hv), S.2.2.2.2.1.F ht⟩
theorem mx_iret {x : Int} (hd : decode (mi_code M) pc = .ok (.ireturn, 1)) (hr : mi_ret M = some .int) (hq : Post (some (mI x)) A) : mj_X G M (mj_Qm G M Post PX) A kc ks pc L [mI x] := by
  intro p e s m args below meth c H locs ls ρ0 ρ cells slots F S
  exact W.widen (k := (mi_rm M).cells) (n := (mi_rm M).slots) (Nat.le_trans (Nat.le_add_right _ _) S.2.1) (Nat.le_trans (Nat.le_add_right _ _) S.2.2.1) (vx_ret (W.iret F.1 F.2.1 (F.2.2.2.2.1.trans hr) (fun t ht _ => mj_fin S ht (r := some (mI x)) hq (fun v hv => by cases hv; exact List.mem_cons_self)) S.2.2.2.2.1.2.2 hd F.2.2.2.2.2.1))
theorem mx_zret {x : Int} (hd : decode (mi_code M) pc = .ok (.ireturn, 1)) (hr : mi_ret M = some .boolean) (hx : x = 0 ∨ x = 1) (hq : Post (some (mI x)) A) : mj_X G M (mj_Qm G M Post PX) A kc ks pc L [mI x] := by
  intro p e s m args below meth c H locs ls ρ0 ρ cells slots F S
  exact W.widen (k := (mi_rm M).cells) (n := (mi_rm M).slots) (Nat.le_trans (Nat.le_add_right _ _) S.2.1) (Nat.le_trans (Nat.le_add_right _ _) S.2.2.1) (vx_ret (W.zret F.1 F.2.1 (F.2.2.2.2.1.trans hr) (mj_nB hx).1 (fun t ht _ => mj_fin S ht (r := some (mI x)) hq (fun v hv => by cases hv; exact List.mem_cons_self)) S.2.2.2.2.1.2.2 hd F.2.2.2.2.2.1))
theorem mx_vret (hd : decode (mi_code M) pc = .ok (.return_, 1)) (hr : mi_ret M = none) (hq : Post none A) : mj_X G M (mj_Qm G M Post PX) A kc ks pc L [] := by
  intro p e s m args below meth c H locs ls ρ0 ρ cells slots F S
  exact W.widen (k := (mi_rm M).cells) (n := (mi_rm M).slots) (Nat.le_trans (Nat.le_add_right _ _) S.2.1) (Nat.le_trans (Nat.le_add_right _ _) S.2.2.1) (vx_ret (W.vret F.1 F.2.1 (F.2.2.2.2.1.trans hr) (fun t ht _ => mj_fin S ht (r := none) hq (fun v hv => by cases hv)) S.2.2.2.2.1.2.2 hd F.2.2.2.2.2.1))
theorem mx_aret {r : Option Int} {C : String} (hd : decode (mi_code M) pc = .ok (.areturn, 1)) (hr : mi_ret M = some (.object C)) (hq : Post (some (mR r)) A) : mj_X G M (mj_Qm G M Post PX) A kc ks pc L [mR r] := by
  intro p e s m args below meth c H locs ls ρ0 ρ cells slots F S
  exact W.widen (k := (mi_rm M).cells) (n := (mi_rm M).slots) (Nat.le_trans (Nat.le_add_right _ _) S.2.1) (Nat.le_trans (Nat.le_add_right _ _) S.2.2.1) (vx_ret (W.aret F.1 F.2.1 (F.2.2.2.2.1.trans hr) (Or.inl ⟨C, rfl⟩) (by cases r <;> first | exact Or.inl rfl | exact Or.inr ⟨_, rfl⟩) (fun t ht _ => mj_fin S ht (r := some (mR r)) hq (fun v hv => by cases hv; exact List.mem_cons_self)) S.2.2.2.2.1.2.2 hd F.2.2.2.2.2.1))
theorem mj_H.grow {ρ : mj_P} {H H' : Heap} (h : mj_H G ρ A H) (hq : ∀ q, q < H.size → H'[q]? = H[q]?) : mj_H G ρ A H' := by
  refine ⟨fun c => ?_, h.2⟩
  have h1 := h.1 c
  unfold mj_at at h1 ⊢
  cases hs : gS A c with
  | none => rw [hs] at h1; exact h1
  | some x =>
    rw [hs] at h1
    obtain ⟨a, g1, ⟨g2, g3⟩ | g3⟩ := h1
    · exact ⟨a, g1, Or.inl ⟨g2, g3.kept (hq a g3.lt) (fun _ => rfl) (fun _ => rfl)⟩⟩
    · exact ⟨a, g1, Or.inr (g3.kept (hq a g3.lt) (fun _ => rfl))⟩
def mj_nm : List String := ["java/lang/RuntimeException", "java/lang/Exception"]
/-- a throw's words -/
def mj_Thr (own : String) (ik ic : Nat) (cls : String) : Prop := Bundle.fit cls = true ∧ (∀ n ∈ mj_nm, Bundle.fit n = true) ∧ Cond.classLink own ik cls ∈ mj_TB ∧ Cond.initialized cls ∈ mj_TB ∧ (vx_atS own ic cls mj_nm).all (fun w => lw_tbl.contains w && (goodWord w || (mj_xw w && w.onTables))) = true ∧ (Cond.classLink own ik cls :: Cond.initialized cls :: vx_atS own ic cls mj_nm).all vx_ot = true
theorem mj_hat {own cls : String} {ic : Nat} {s : State} {args : Array Value} (h : (vx_atS own ic cls mj_nm).all (fun w => lw_tbl.contains w && (goodWord w || (mj_xw w && w.onTables))) = true) (hts : ∀ w ∈ mj_TB, w.before args s = true) (hB : mj_B G s) : ∀ w ∈ vx_atS own ic cls mj_nm, w.before args s = true := by
  intro w hw
  have h1 := List.all_eq_true.mp h w hw
  simp only [Bool.and_eq_true, Bool.or_eq_true, List.contains_iff_mem] at h1
  obtain ⟨hm, hg | ⟨hx, ht⟩⟩ := h1
  · exact hts w (List.mem_filter.mpr ⟨hm, hg⟩)
  · exact va_Nw.use ht (hB.2.2.2.2.2.1 w hm hx)
theorem mx_throw {ik is ic : Nat} {cls text : String} (hT : mj_Thr (mi_own M) ik ic cls) (hstr : (mi_own M, is, text) ∈ mj_str) (hh : mi_hh M = []) (hf : 6 ≤ (mi_rm M).frames) (hl : ((st.map (mj_c fun _ => none)).map fun v => v.category).sum + 82 ≤ (mi_rm M).locals) (d0 : decode (mi_code M) pc = .ok (.new ik, 3)) (d3 : decode (mi_code M) (pc + 3) = .ok (.dup, 1)) (d4 : decode (mi_code M) (pc + 4) = .ok (.ldc is, 2)) (d6 : decode (mi_code M) (pc + 6) = .ok (.invokespecial ic, 3)) (d9 : decode (mi_code M) (pc + 9) = .ok (.athrow, 1)) (hq : PX cls A) : mj_X G M (mj_Qm G M Post PX) A (kc + 1) (ks + 6) pc L st := by
  intro p e s m args below meth c H locs ls ρ0 ρ cells slots F S
  obtain ⟨t1, t2, t3, t4, t5, t6⟩ := hT
  have hts := F.2.2.2.2.2.2.2.2.1
  have hB := F.2.2.2.2.2.2.2.2.2
  obtain ⟨sa, hsa⟩ := hB.2.2.2.2.1 _ hstr
  have hcs : ((st.map (mj_c ρ)).map fun v => v.category) = ((st.map (mj_c fun _ => none)).map fun v => v.category) := by
    simp only [List.map_map]
    refine List.map_congr_left fun v _ => ?_
    rcases v with x | r | x
    · rfl
    · cases r <;> rfl
    · rfl
  refine vx_throwS F.1 F.2.1 hB.2.2.2.2.2.2.2.2.2 F.2.2.2.1 t1 t2 (hts _ t3) (hts _ t4) hsa (mj_hat t5 hts hB) (fun w hw => List.all_eq_true.mp t6 w hw) hB.2.2.1 hB.2.2.2.1 S.2.2.2.2.1 (S.2.2.2.2.2.1.1.1.trans F.2.2.1.symm) d0 d3 d4 d6 d9 (fun x hx => ?_) (show 2 + 3 < (mi_rm M).frames by omega) (by rw [hcs]; show _ + (13 * (2 + 1) + 43) ≤ _; omega) (by have := S.2.1; omega) (by have := S.2.2.1; omega) F.2.2.2.2.2.1 (fun t hal hsz hk => ⟨ρ, A, hq, S.1, S.2.2.2.1.grow hk, ?_, fun q h1 h2 => ?_⟩) S.2.2.2.2.1.2.2 (by have := S.2.1; omega) (by have := S.2.2.1; omega)
  · rw [F.2.2.2.2.2.2.2.1, hh] at hx; cases hx
  · exact Nat.le_trans S.2.2.2.2.1.1 hsz
  · rw [hk q (Nat.lt_of_lt_of_le h1 S.2.2.2.2.1.1)]; exact S.2.2.2.2.1.2.1 q h1 h2
theorem mx_throwW {ik is ic : Nat} {cls text : String} (hT : mj_Thr (mi_own M) ik ic cls) (hstr : (mi_own M, is, text) ∈ mj_str) (hh : mi_hh M = []) (hf : 6 ≤ (mi_rm M).frames) (hl : ((st.map (mj_c fun _ => none)).map fun v => v.category).sum + 82 ≤ (mi_rm M).locals) (d0 : decode (mi_code M) pc = .ok (.new ik, 3)) (d3 : decode (mi_code M) (pc + 3) = .ok (.dup, 1)) (d4 : decode (mi_code M) (pc + 4) = .ok (.ldc_w is, 3)) (d7 : decode (mi_code M) (pc + 7) = .ok (.invokespecial ic, 3)) (d10 : decode (mi_code M) (pc + 10) = .ok (.athrow, 1)) (hq : PX cls A) : mj_X G M (mj_Qm G M Post PX) A (kc + 1) (ks + 6) pc L st := by
  intro p e s m args below meth c H locs ls ρ0 ρ cells slots F S
  obtain ⟨t1, t2, t3, t4, t5, t6⟩ := hT
  have hts := F.2.2.2.2.2.2.2.2.1
  have hB := F.2.2.2.2.2.2.2.2.2
  obtain ⟨sa, hsa⟩ := hB.2.2.2.2.1 _ hstr
  have hcs : ((st.map (mj_c ρ)).map fun v => v.category) = ((st.map (mj_c fun _ => none)).map fun v => v.category) := by
    simp only [List.map_map]
    refine List.map_congr_left fun v _ => ?_
    rcases v with x | r | x
    · rfl
    · cases r <;> rfl
    · rfl
  refine vx_throwSW F.1 F.2.1 hB.2.2.2.2.2.2.2.2.2 F.2.2.2.1 t1 t2 (hts _ t3) (hts _ t4) hsa (mj_hat t5 hts hB) (fun w hw => List.all_eq_true.mp t6 w hw) hB.2.2.1 hB.2.2.2.1 S.2.2.2.2.1 (S.2.2.2.2.2.1.1.1.trans F.2.2.1.symm) d0 d3 d4 d7 d10 (fun x hx => ?_) (show 2 + 3 < (mi_rm M).frames by omega) (by rw [hcs]; show _ + (13 * (2 + 1) + 43) ≤ _; omega) (by have := S.2.1; omega) (by have := S.2.2.1; omega) F.2.2.2.2.2.1 (fun t hal hsz hk => ⟨ρ, A, hq, S.1, S.2.2.2.1.grow hk, ?_, fun q h1 h2 => ?_⟩) S.2.2.2.2.1.2.2 (by have := S.2.1; omega) (by have := S.2.2.1; omega)
  · rw [F.2.2.2.2.2.2.2.1, hh] at hx; cases hx
  · exact Nat.le_trans S.2.2.2.2.1.1 hsz
  · rw [hk q (Nat.lt_of_lt_of_le h1 S.2.2.2.2.1.1)]; exact S.2.2.2.2.1.2.1 q h1 h2
end ENDS
/-- an exception of class E over the frame -/
def mj_T (G : mj_G) (M : mj_I) (Q : mj_Q) (A : mj_M) (kc ks pc : Nat) (L : List (Option mj_V)) (E : String) : Prop :=
  ∀ (p : Program) (e : Env) (s : State) (m : MethodId) (args : Array Value) (below : List Frame) (meth : Method) (c : Code) (H : Heap) (locs : List Loc) (ls : Array Slot) (ρ0 ρ : mj_P) (cells slots : Nat) (q : Addr) (ce : Cell) (rest : List Value),
    mj_Fr G M p s m args meth c → mj_St G M ρ0 ρ A kc ks L [] s H locs ls cells slots → H[q]? = some ce → ce.vm = .none → s.vm.findClass E = some ce.cls →
    vx_W p G.1 e (mi_rm M) s m args below meth c H locs cells slots (Q ρ0 args s below) (F0 m pc ls rest) q
section THR
variable {G : mj_G} {M : mj_I} {Q : mj_Q} {A : mj_M} {kc ks pc : Nat} {L : List (Option mj_V)} {Post : Option mj_V → mj_M → Prop} {PX : String → mj_M → Prop} {E : String}
theorem mt_out (hh : mi_hh M = []) (hq : PX E A) : mj_T G M (mj_Qm G M Post PX) A kc ks pc L E := by
  intro p e s m args below meth c H locs ls ρ0 ρ cells slots q ce rest F S hce hv hcl
  refine vx_widen (k := (mi_rm M).cells) (n := (mi_rm M).slots) (Nat.le_trans (Nat.le_add_right _ _) S.2.1) (Nat.le_trans (Nat.le_add_right _ _) S.2.2.1) (vx_out (E := E) (ce := ce) (fun x hx => ?_) F.2.2.2.2.2.1 hce hv hcl (fun t ht _ => ⟨ρ, A, hq, S.1, by rw [ht]; exact S.2.2.2.1, S.2.2.2.2.1.F ht⟩) S.2.2.2.2.1.2.2 (Nat.le_refl _) (Nat.le_refl _))
  rw [F.2.2.2.2.2.2.2.1, hh] at hx; cases hx
/-- caught by the row x: the handler stores the exception away -/
theorem mt_catch {name : String} (pre : List (Nat × Nat × Nat × Nat)) (x : Nat × Nat × Nat × Nat) (suf : List (Nat × Nat × Nat × Nat)) (hsplit : mi_hh M = pre ++ x :: suf) (hpass : ∀ z ∈ pre, z.2.2.2 ≠ 0 ∧ ∃ nm : String, Cond.classLink (mi_own M) z.2.2.2 nm ∈ mj_TB ∧ (E, nm) ∈ mj_nc) (hx : covers ⟨x.1, x.2.1, x.2.2.1, x.2.2.2⟩ pc = true) (h0 : x.2.2.2 ≠ 0) (hlink : Cond.classLink (mi_own M) x.2.2.2 name ∈ mj_TB) (hcast : Cond.castable E name ∈ lw_tbl)
    {i : Nat} (hd : (∃ k0 : Fin 4, (k0 : Nat) = i ∧ decode (mi_code M) x.2.2.1 = .ok (.astore_n k0, 1) ∧ mj_X G M Q A kc ks (x.2.2.1 + 1) (L.set i none) []) ∨ (decode (mi_code M) x.2.2.1 = .ok (.astore i, 2) ∧ mj_X G M Q A kc ks (x.2.2.1 + 2) (L.set i none) [])) (hi : i < mi_ml M) : mj_T G M Q A kc ks pc L E := by
  intro p e s m args below meth c H locs ls ρ0 ρ cells slots q ce rest F S hce hv hcl
  have hts := F.2.2.2.2.2.2.2.2.1
  have hB := F.2.2.2.2.2.2.2.2.2
  refine vx_catch (name := name) F.2.2.2.1 (tableOf pre) ⟨x.1, x.2.1, x.2.2.1, x.2.2.2⟩ (tableOf suf) (by rw [F.2.2.2.2.2.2.2.1, hsplit]; simp [tableOf]) (fun z hz => ?_) hx h0 (hts _ hlink) (va_Nw.use rfl (hB.2.2.2.2.2.1 _ hcast rfl)) hce hv hcl ?_
  · obtain ⟨y, hy, rfl⟩ := List.mem_map.mp hz
    obtain ⟨h1, nm, h2, h3⟩ := hpass y hy
    exact Or.inr ⟨h1, nm, hts _ h2, hB.2.2.2.2.2.2.1 _ h3⟩
  · have drop : ∀ ls' : Array Slot, lv_has ls' (mi_ml M) ((i, Value.ref q) :: (mj_l ρ 0 L).filter (fun q => !(q.1 == i) && !(q.1 + 1 == i && q.2.category == 2))) → mj_St G M ρ0 ρ A kc ks (L.set i none) [] s H locs ls' cells slots := by
      intro ls' h'
      have key : ∀ (k : Nat) (u : mj_V), (L.set i none)[k]? = some (some u) → k ≠ i ∧ L[k]? = some (some u) := by
        intro k u hk
        rw [List.getElem?_set] at hk
        by_cases e : i = k
        · rw [if_pos e] at hk
          split at hk <;> cases hk
        · rw [if_neg e] at hk
          exact ⟨fun z => e z.symm, hk⟩
      refine S.to2 ⟨⟨h'.1, h'.2.1, fun q9 hq9 => ?_⟩, by rw [List.length_set]; exact S.2.2.2.2.2.1.2.1, fun k u hk => S.2.2.2.2.2.1.2.2 k u (key k u hk).2⟩ id
      obtain ⟨k, u, h1, h2, h3⟩ := (mj_l_mem _ 0).mp (show (q9.1, q9.2) ∈ _ from hq9)
      have hk0 : q9.1 = k := by omega
      obtain ⟨e1, e2⟩ := key k u h1
      rw [hk0, h3]
      refine h'.2.2 (k, mj_c ρ u) (List.mem_cons_of_mem _ (List.mem_filter.mpr ⟨(mj_l_mem L 0).mpr ⟨k, u, e2, by omega, rfl⟩, ?_⟩))
      have hc := mj_cat (ρ := ρ) (S.2.2.2.2.2.1.2.2 k u e2).2
      simp [e1, hc]
    rcases hd with ⟨k0, hk0, hd, kk⟩ | ⟨hd, kk⟩
    · exact lv_astore_n F.1 F.2.1 hd hk0 S.2.2.2.2.2.1.1 hi rfl fun ls' h' => kk p e s m args below meth c H locs ls' ρ0 ρ cells slots F (drop ls' h')
    · exact lv_astore F.1 F.2.1 hd S.2.2.2.2.2.1.1 hi rfl fun ls' h' => kk p e s m args below meth c H locs ls' ρ0 ρ cells slots F (drop ls' h')
end THR
end MJE
