/-! THE LAW, 7: the script is read -/
section LAWA
variable {G : mj_G} {A : mj_M}
theorem mx_scr {M : mj_I} {ρ : mj_P} {p : Program} {s : State} {m : MethodId} {args : Array Value} {meth : Method} {c9 : Code} {H : Heap} {c : Int} (hH : mj_H G ρ A H) (F : mj_Fr G M p s m args meth c9) (hs : gS A c = some (.inl 99)) : ∃ a scr, ρ c = some a ∧ H[a]? = some scr ∧ s.isArrayOf scr .int ∧ scr.vm ≠ .unknown ∧ (0 ≤ gI A c (-1) ∧ gI A c (-1) < 2147483648) ∧ scr.slots.size = (gI A c (-1)).toNat ∧ ∀ j : Nat, j < scr.slots.size → scr.slots[j]? = some (.int (Int32.ofInt (gI A c (j : Int)))) := by
  have h9 := hH.1 c
  unfold mj_at at h9
  rw [hs] at h9
  obtain ⟨a, ha, ⟨-, r, hr, -⟩ | ⟨-, scr, g1, g2, g3, g4, g5, g6, g7⟩⟩ := h9
  · exact absurd hr (by simp [mj_cl])
  · refine ⟨a, scr, ha, g1, ⟨g3, ?_⟩, g4, g5, g6, g7⟩
    have hA7 := F.2.2.2.2.2.2.2.2.2.2.2.2.2.2.2.2.1.2
    obtain ⟨k, hk, comp, hkind⟩ := (hA7 0 (fun _ => .int 0)).2
    exact ⟨k, by rw [g2]; exact hk, comp, hkind⟩
section SLD
variable {M : mj_I} {Q : mj_Q} {kc ks pc : Nat} {L : List (Option mj_V)} {st : List mj_V}
theorem mx_sald {c i : Int} (hd : decode (mi_code M) pc = .ok (.iaload, 1)) (hs : gS A c = some (.inl 99)) (h0 : 0 ≤ i) (h1 : i < gI A c (-1)) (kk : mj_X G M Q A kc ks (pc + 1) L (mI (gI A c i) :: st)) : mj_X G M Q A kc ks pc L (mI i :: mR (some c) :: st) := by
  intro p e s m args below meth c9 H locs ls ρ0 ρ cells slots F S
  obtain ⟨a, scr, ha, g1, harr, g4, g5, g6, g7⟩ := mx_scr S.2.2.2.1 F hs
  show W _ _ _ _ _ _ _ _ _ _ _ _ _ _ _ (F0 m pc ls (.int (Int32.ofInt i) :: mj_c ρ (mR (some c)) :: st.map (mj_c ρ)))
  rw [mj_cR ha]
  refine W.iald (v := .int (Int32.ofInt (gI A c i))) F.1 F.2.1 g1 harr g4 (by rw [g6]; exact r32_in h0 h1 ⟨by omega, by omega⟩) (by rw [r32_nat ⟨by omega, by omega⟩, g7 _ (by rw [g6]; omega), show ((i.toNat : Nat) : Int) = i by omega]) rfl rfl hd ?_
  exact kk p e s m args below meth c9 H locs ls ρ0 ρ cells slots F (S.to1 fun h => List.forall_mem_cons.mpr ⟨mj_okI _, (List.forall_mem_cons.mp (List.forall_mem_cons.mp h).2).2⟩)
theorem mx_salen {c : Int} (hd : decode (mi_code M) pc = .ok (.arraylength, 1)) (hs : gS A c = some (.inl 99)) (kk : mj_X G M Q A kc ks (pc + 1) L (mI (gI A c (-1)) :: st)) : mj_X G M Q A kc ks pc L (mR (some c) :: st) := by
  intro p e s m args below meth c9 H locs ls ρ0 ρ cells slots F S
  obtain ⟨a, scr, ha, g1, harr, g4, g5, g6, g7⟩ := mx_scr S.2.2.2.1 F hs
  show W _ _ _ _ _ _ _ _ _ _ _ _ _ _ _ (F0 m pc ls (mj_c ρ (mR (some c)) :: st.map (mj_c ρ)))
  rw [mj_cR ha]
  refine W.alen (n := Int32.ofInt (gI A c (-1))) F.1 F.2.1 g1 harr (by rw [g6]; show Int32.ofNat (gI A c (-1)).toNat = _; rw [← Int32.ofInt_eq_ofNat, show (((gI A c (-1)).toNat : Nat) : Int) = gI A c (-1) by omega]) rfl rfl hd ?_
  exact kk p e s m args below meth c9 H locs ls ρ0 ρ cells slots F (S.to1 fun h => List.forall_mem_cons.mpr ⟨mj_okI _, (List.forall_mem_cons.mp h).2⟩)
end SLD
end LAWA
