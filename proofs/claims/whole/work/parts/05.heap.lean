/-! THE SMALL MACHINE, 3: fields, arrays, new cells -/
section MJC
/-- entry idx of class own is field k of class ci -/
def mj_Fld (own : String) (idx ci k : Nat) (fin : Bool) : Prop := ∃ r : vw_C, mj_cl[ci]? = some r ∧ k < r.2.2 ∧ Cond.fieldLink own idx (r.2.1 k).1 (r.2.1 k).2.1 (r.2.1 k).2.2.1 ∈ mj_TB ∧ (r.2.1 k).2.2.2 = fin ∧ (r.2.1 k).1 = r.1
theorem mj_fT_ok : ∀ ci r, mj_cl[ci]? = some r → ∀ k, k < r.2.2 → defaultValue (mj_fT ci k) = (if mj_rf ci k = true then Value.null else Value.int (Int32.ofInt 0)) := by
  intro ci r h
  match ci, h with
  | 0, h => cases h; decide +kernel
  | 1, h => cases h; decide +kernel
  | 2, h => cases h; decide +kernel
  | 3, h => cases h; decide +kernel
  | 4, h => cases h; decide +kernel
  | 5, h => cases h; decide +kernel
  | 6, h => cases h; decide +kernel
  | 7, h => cases h; decide +kernel
  | n + 8, h => simp [mj_cl] at h
section R2
variable {G : mj_G} {M : mj_I} {Q : mj_Q} {A : mj_M} {kc ks pc : Nat} {L : List (Option mj_V)} {st : List mj_V}
theorem mj_cR {ρ : mj_P} {c : Int} {a : Nat} (h : ρ c = some a) : mj_c ρ (mR (some c)) = .ref a := by simp [mj_c, h, va_rf]
theorem mj_fvI {ρ : mj_P} {A : mj_M} {ci k : Nat} {c : Int} (h : mj_rf ci k = false) : mj_fv ρ A ci c k = mj_c ρ (mI (gI A c (k : Int))) := by unfold mj_fv; rw [h]; rfl
theorem mj_fvP {ρ : mj_P} {A : mj_M} {ci k : Nat} {c : Int} (h : mj_rf ci k = true) : mj_fv ρ A ci c k = mj_c ρ (mR (gP A c (k : Int))) := by unfold mj_fv; rw [h]; rfl
theorem gI_sIs (A : mj_M) (c i v : Int) : gI (sI A c i v) c i = v := by rw [gI_sI, if_pos ⟨rfl, rfl⟩]
theorem gP_sPs (A : mj_M) (c i : Int) (v : Option Int) : gP (sP A c i v) c i = v := by rw [gP_sP, if_pos ⟨rfl, rfl⟩]
/-- what a getfield needs -/
theorem mx_getf {idx ci k : Nat} {fin : Bool} {c : Int} {v : mj_V} (hd : decode (mi_code M) pc = .ok (.getfield idx, 3)) (hF : mj_Fld (mi_own M) idx ci k fin) (hs : gS A c = some (.inl ci)) (hv : ∀ ρ, mj_fv ρ A ci c k = mj_c ρ v) (hok : ∀ ρ H, mj_H G ρ A H → mj_ok ρ v) (kk : mj_X G M Q A kc ks (pc + 3) L (v :: st)) : mj_X G M Q A kc ks pc L (mR (some c) :: st) := by
  intro p e s m args below meth c9 H locs ls ρ0 ρ cells slots F S
  obtain ⟨r, hr, hk, hlink, hfin, hdecl⟩ := hF
  obtain ⟨a, ha, hz, r', hr', cell, q1, q2, q3, q4⟩ := S.2.2.2.1.sh hs (mj_nx hr)
  cases hr.symm.trans hr'
  obtain ⟨hU, hN, hY⟩ := mj_cls hr
  have hts := F.2.2.2.2.2.2.2.2.1
  obtain ⟨hS, hfc, kC, hkC, hkind⟩ := F.2.2.2.2.2.2.2.2.2.1.1 ci r hr
  obtain ⟨cf, kf, fi, f, hi, hsl⟩ := hS k hk
  show W _ _ _ _ _ _ _ _ _ _ _ _ _ _ _ (F0 m pc ls (mj_c ρ (mR (some c)) :: st.map (mj_c ρ)))
  rw [mj_cR ha]
  refine W.getf F.1 F.2.1 F.2.2.2.1 (hts _ hlink) hi (u_facts hfc hkC (u_lays hts hU hk) hi).1 q1 (by rw [q3]; exact fun h => by cases h) (v := mj_c ρ v) ?_ rfl rfl hd (kk p e s m args below meth c9 H locs ls ρ0 ρ cells slots F (S.to1 fun h => List.forall_mem_cons.mpr ⟨hok ρ H S.2.2.2.1, (List.forall_mem_cons.mp h).2⟩))
  rw [hsl, q4 k hk, hv]
theorem mx_getI {idx ci k : Nat} {fin : Bool} (kz : Int) {c : Int} (hd : decode (mi_code M) pc = .ok (.getfield idx, 3)) (hF : mj_Fld (mi_own M) idx ci k fin) (hkz : (k : Int) = kz) (hr : mj_rf ci k = false) (hs : gS A c = some (.inl ci)) (kk : mj_X G M Q A kc ks (pc + 3) L (mI (gI A c kz) :: st)) : mj_X G M Q A kc ks pc L (mR (some c) :: st) :=
  mx_getf hd hF hs (fun ρ => by rw [mj_fvI hr, hkz]) (fun ρ H _ => mj_okI _) kk
theorem mx_getP {idx ci k : Nat} {fin : Bool} (kz : Int) {c : Int} (hd : decode (mi_code M) pc = .ok (.getfield idx, 3)) (hF : mj_Fld (mi_own M) idx ci k fin) (hkz : (k : Int) = kz) (hr : mj_rf ci k = true) (hs : gS A c = some (.inl ci)) (kk : mj_X G M Q A kc ks (pc + 3) L (mR (gP A c kz) :: st)) : mj_X G M Q A kc ks pc L (mR (some c) :: st) :=
  mx_getf hd hF hs (fun ρ => by rw [mj_fvP hr, hkz]) (fun ρ H h => mj_okR h fun q hq => h.2.2.1 c kz q (by rw [hs]; exact fun z => by cases z) hq) kk
/-- the memory with one place changed: a field, or a place of an array -/
def mj_Ch (A A' : mj_M) (c i : Int) : Prop := (∀ c', gS A' c' = gS A c') ∧ (∀ c' i', ¬ (c' = c ∧ i' = i) → gI A' c' i' = gI A c' i') ∧ (∀ c' i', ¬ (c' = c ∧ i' = i) → gP A' c' i' = gP A c' i')
theorem mj_Ch.I {A : mj_M} {c i x : Int} : mj_Ch A (sI A c i x) c i := ⟨fun _ => rfl, fun c' i' h => by rw [gI_sI, if_neg h], fun _ _ _ => rfl⟩
theorem mj_Ch.P {A : mj_M} {c i : Int} {x : Option Int} : mj_Ch A (sP A c i x) c i := ⟨fun _ => rfl, fun _ _ _ => rfl, fun c' i' h => by rw [gP_sP, if_neg h]⟩
theorem mj_fv_ne {ρ : mj_P} {A A' : mj_M} {ci j k : Nat} {c : Int} (h : mj_Ch A A' c (k : Int)) (hj : j ≠ k) : mj_fv ρ A' ci c j = mj_fv ρ A ci c j := by
  have hn : ¬ (c = c ∧ (j : Int) = (k : Int)) := fun z => hj (by omega)
  unfold mj_fv
  rw [h.2.1 c _ hn, h.2.2 c _ hn]
theorem mj_av_ne {ρ : mj_P} {A A' : mj_M} {t j k : Nat} {c : Int} (h : mj_Ch A A' c (k : Int)) (hj : j ≠ k) : mj_av ρ A' c t j = mj_av ρ A c t j := by
  have hn : ¬ (c = c ∧ (j : Int) = (k : Int)) := fun z => hj (by omega)
  unfold mj_av
  rw [h.2.1 c _ hn, h.2.2 c _ hn]
theorem mj_St.put {A' : mj_M} {ρ0 ρ : mj_P} {st st' : List mj_V} {s : State} {H H' : Heap} {locs : List Loc} {ls : Array Slot} {cells slots : Nat} (S : mj_St G M ρ0 ρ A kc ks L st s H locs ls cells slots) {c0 i : Int} {a0 k : Nat} {x : Nat ⊕ (Nat × Int)} (hs : gS A c0 = some x) (ha : ρ c0 = some a0) (hz : G.2.1 ≤ a0) (hce : mj_ce G ρ A' H' c0 a0 x) (z : H'.size = H.size) (hq : ∀ q, q ≠ a0 → H'[q]? = H[q]?) (hC : mj_Ch A A' c0 i)
    (hcl : ∀ q, gP A' c0 i = some q → gS A q ≠ none) (hr : r32 (gI A' c0 i)) (h : (∀ v ∈ st, mj_ok ρ v) → ∀ v ∈ st', mj_ok ρ v) : mj_St G M ρ0 ρ A' kc ks L st' s H' (locs ++ [⟨a0, k⟩]) ls cells slots := by
  refine ⟨S.1, S.2.1, S.2.2.1, ?_, S.2.2.2.2.1.put z hq hz, S.2.2.2.2.2.1, h S.2.2.2.2.2.2⟩
  refine S.2.2.2.1.put hs ha hz hce hq hC.1 (fun c j hc => hC.2.1 c j fun z => hc z.1) (fun c j hc => hC.2.2 c j fun z => hc z.1) (fun j q hj => ?_) fun j => ?_
  · by_cases e : j = i
    · subst e; exact hcl q hj
    · rw [hC.2.2 c0 j fun z => e z.2] at hj
      exact S.2.2.2.1.2.2.1 c0 j q (by rw [hs]; exact fun z => by cases z) hj
  · by_cases e : j = i
    · subst e; exact hr
    · rw [hC.2.1 c0 j fun z => e z.2]; exact S.2.2.2.1.2.2.2 c0 j
/-- what a putfield needs -/
theorem mx_putf {A' : mj_M} {idx ci k : Nat} {fin : Bool} {c : Int} {v : mj_V} (hd : decode (mi_code M) pc = .ok (.putfield idx, 3)) (hF : mj_Fld (mi_own M) idx ci k fin) (hs : gS A c = some (.inl ci)) (hfin : fin = false ∨ (mi_name M = "<init>" ∧ ∃ r : vw_C, mj_cl[ci]? = some r ∧ r.1 = mi_own M))
    (hv : ∀ ρ, mj_fv ρ A' ci c k = mj_c ρ v) (hn : ∀ ρ, narrow (mj_fT ci k) (mj_c ρ v) = mj_c ρ v ∧ fits (mj_fT ci k) (mj_c ρ v) = true) (hC : mj_Ch A A' c (k : Int)) (hcl : ∀ q, v = mR (some q) → gS A q ≠ none → gP A' c k = some q) (hcl2 : ∀ q, gP A' c k = some q → v = mR (some q) ∨ gP A c k = some q) (hr : r32 (gI A c (k : Int)) → r32 (gI A' c (k : Int)))
    (kk : mj_X G M Q A' kc ks (pc + 3) L st) : mj_X G M Q A kc ks pc L (v :: mR (some c) :: st) := by
  intro p e s m args below meth c9 H locs ls ρ0 ρ cells slots F S
  obtain ⟨r, hr1, hk, hlink, hfin1, hdecl⟩ := hF
  obtain ⟨a, ha, hz, r', hr', cell, q1, q2, q3, q4⟩ := S.2.2.2.1.sh hs (mj_nx hr1)
  cases hr1.symm.trans hr'
  obtain ⟨hU, hN, hY⟩ := mj_cls hr1
  have hts := F.2.2.2.2.2.2.2.2.1
  have hK := F.2.2.2.2.2.2.2.2.2.1
  have hap := va_apart (own := mi_own M) hts hU (mj_fT ci) hY hN hK hr1
  obtain ⟨hS, hfc, kC, hkC, hkind⟩ := hK.1 ci r hr1
  obtain ⟨cf, kf, fi, f, hi, hsl⟩ := hS k hk
  have hlay := hts _ (hU _ (u_in_lay hk))
  unfold u_lay at hlay
  have hst := (u_facts hfc hkC (u_lays hts hU hk) hi).1
  have hvok := (List.forall_mem_cons.mp S.2.2.2.2.2.2).1
  show W _ _ _ _ _ _ _ _ _ _ _ _ _ _ _ (F0 m pc ls (mj_c ρ v :: mj_c ρ (mR (some c)) :: st.map (mj_c ρ)))
  rw [mj_cR ha]
  have fin' : ∀ (H' : Heap), H'[a]? = some (cell.setSlot f.slot (mj_c ρ v)) → H'.size = H.size → (∀ q, q ≠ a → H'[q]? = H[q]?) → W p G.1 e (mi_rm M) s m args below meth c9 H' (locs ++ [⟨a, f.slot⟩]) cells slots (Q ρ0 args s below) (F0 m (pc + 3) ls (st.map (mj_c ρ))) := by
    intro H' e1 e2 e3
    rw [hsl] at e1
    refine kk p e s m args below meth c9 H' _ ls ρ0 ρ cells slots F (S.put hs ha hz ⟨r, hr1, t_OB.to (V := updV (mj_fv ρ A ci c) k (mj_c ρ v)) ⟨_, e1, q2, q3, t_set q4 hap hk _⟩ fun j _ => ?_⟩ e2 e3 hC (fun q hq => ?_) (hr (S.2.2.2.1.2.2.2 c k)) fun h => (List.forall_mem_cons.mp (List.forall_mem_cons.mp h).2).2)
    · unfold updV
      by_cases ej : j = k
      · rw [if_pos ej, ej, hv]
      · rw [if_neg ej, mj_fv_ne hC ej]
    · rcases hcl2 q hq with h1 | h1
      · subst h1; exact mj_okS S.2.2.2.1 hvok
      · exact S.2.2.2.1.2.2.1 c k q (by rw [hs]; exact fun z => by cases z) h1
  rcases Bool.eq_false_or_eq_true fin with hf | hf
  · subst hf
    rw [if_pos hfin1] at hlay
    obtain ⟨hname, r9, hr9, hown9⟩ : mi_name M = "<init>" ∧ ∃ r : vw_C, mj_cl[ci]? = some r ∧ r.1 = mi_own M := by
      rcases hfin with h | h
      · cases h
      · exact h
    cases hr1.symm.trans hr9
    have hcf : m.cls = cf := by
      obtain ⟨_, _, c', _, _, _, -, -, hf', -, -, -, hown2, -⟩ := Cond.laysFinal_spec hlay
      have e1 : c' = cf := by have := hi.symm.trans hf'; simp at this; exact this.1.symm
      rw [hdecl, hown9] at hown2
      rw [← e1]; exact Option.some.inj (F.2.2.2.1.symm.trans hown2)
    have h6 := u_fits hfc hkC hkind (Or.inr hlay) hi (hY k hk) (hn ρ).1 (hn ρ).2
    exact W.putFinK F.1 F.2.1 F.2.2.2.1 (hts _ hlink) hi hst hcf (F.2.2.2.2.2.2.1.trans hname) (by rw [q2]; exact h6) q1 q3 (by rw [hsl]; exact k2_hasslot (q4 k hk)) rfl rfl hd fin'
  · subst hf
    rw [if_neg (by rw [hfin1]; decide)] at hlay
    have h6 := u_store hfc hkC hkind hlay hi (hY k hk) (hn ρ).1 (hn ρ).2
    exact W.putK F.1 F.2.1 (f := f) ⟨F.2.2.2.1, hts _ hlink, ⟨_, _, _, hi⟩, hst⟩ (by rw [q2]; exact h6) q1 q3 (by rw [hsl]; exact k2_hasslot (q4 k hk)) rfl rfl hd fin'
theorem mj_nB {x : Int} (h : x = 0 ∨ x = 1) : narrow .boolean (.int (Int32.ofInt x)) = .int (Int32.ofInt x) ∧ fits .boolean (.int (Int32.ofInt x)) = true := by
  rcases h with rfl | rfl <;> decide +kernel
/-- a put of an int (hb: of a boolean, 0 or 1) -/
theorem mx_putI {idx ci k : Nat} {fin : Bool} (kz : Int) {c x : Int} (hd : decode (mi_code M) pc = .ok (.putfield idx, 3)) (hF : mj_Fld (mi_own M) idx ci k fin) (hkz : (k : Int) = kz) (hs : gS A c = some (.inl ci)) (hfin : fin = false ∨ (mi_name M = "<init>" ∧ ∃ r : vw_C, mj_cl[ci]? = some r ∧ r.1 = mi_own M)) (ht : mj_fT ci k = .int ∨ (mj_fT ci k = .boolean ∧ (x = 0 ∨ x = 1))) (hx : r32 x)
    (kk : mj_X G M Q (sI A c kz x) kc ks (pc + 3) L st) : mj_X G M Q A kc ks pc L (mI x :: mR (some c) :: st) := by
  subst hkz
  have hrf : mj_rf ci k = false := by unfold mj_rf; rcases ht with h | h <;> simp [h]
  refine mx_putf hd hF hs hfin (fun ρ => by rw [mj_fvI hrf, gI_sIs]) (fun ρ => ?_) mj_Ch.I (fun q h => by cases h) (fun q h => Or.inr h) (fun _ => by rw [gI_sIs]; exact hx) kk
  rcases ht with h | ⟨h, h2⟩
  · rw [h]; exact ⟨rfl, rfl⟩
  · rw [h]; exact mj_nB h2
/-- a put of a reference -/
theorem mx_putP {idx ci k : Nat} {fin : Bool} (kz : Int) {c : Int} {v : Option Int} (hd : decode (mi_code M) pc = .ok (.putfield idx, 3)) (hF : mj_Fld (mi_own M) idx ci k fin) (hkz : (k : Int) = kz) (hs : gS A c = some (.inl ci)) (hfin : fin = false ∨ (mi_name M = "<init>" ∧ ∃ r : vw_C, mj_cl[ci]? = some r ∧ r.1 = mi_own M)) (ht : (∃ C, mj_fT ci k = .object C) ∨ ∃ t, mj_fT ci k = .array t)
    (kk : mj_X G M Q (sP A c kz v) kc ks (pc + 3) L st) : mj_X G M Q A kc ks pc L (mR v :: mR (some c) :: st) := by
  subst hkz
  have hrf : mj_rf ci k = true := by unfold mj_rf; rcases ht with ⟨C, h⟩ | ⟨C, h⟩ <;> simp [h]
  refine mx_putf hd hF hs hfin (fun ρ => by rw [mj_fvP hrf, gP_sPs]) (fun ρ => ?_) mj_Ch.P (fun q h _ => by rw [gP_sP, if_pos ⟨rfl, rfl⟩]; cases h; rfl) (fun q h => by rw [gP_sP, if_pos ⟨rfl, rfl⟩] at h; exact Or.inl (by rw [h])) id kk
  rcases ht with ⟨C, h⟩ | ⟨C, h⟩ <;> rw [h] <;> cases v <;> exact ⟨rfl, rfl⟩
end R2
end MJC
