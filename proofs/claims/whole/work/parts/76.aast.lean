/-! THE SMALL MACHINE, 9: null is stored into a row -/
section MJW
variable {G : mj_G} {M : mj_I} {Q : mj_Q} {A : mj_M} {kc ks pc : Nat} {L : List (Option mj_V)} {st : List mj_V}
theorem mx_aastN {c i n : Int} {t : Nat} (hd : decode (mi_code M) pc = .ok (.aastore, 1)) (hs : gS A c = some (.inr (t, n))) (h3 : 3 ≤ t) (h0 : 0 ≤ i) (h1 : i < n) (kk : mj_X G M Q (sP A c i none) kc ks (pc + 1) L st) : mj_X G M Q A kc ks pc L (mR none :: mI i :: mR (some c) :: st) := by
  intro p e s m args below meth c9 H locs ls ρ0 ρ cells slots F S
  obtain ⟨a, ha, hz, ht, hn0, hn, hcell⟩ := S.2.2.2.1.sh hs
  have hRA := (F.2.2.2.2.2.2.2.2.2.2.1 t ht).2
  rw [mj_tyR h3 ht] at hRA
  obtain ⟨kA, comp, k1, k2, k3, -⟩ := hRA
  show W _ _ _ _ _ _ _ _ _ _ _ _ _ _ _ (F0 m pc ls (mj_c ρ (mR none) :: .int (Int32.ofInt i) :: mj_c ρ (mR (some c)) :: st.map (mj_c ρ)))
  rw [mj_cR ha]
  have hsz := mj_sz (G.2.2.2 t) (mj_av ρ A c t) rfl h0 h1 hn
  intro T hT X
  obtain ⟨X', st'⟩ := X.aastoreNullIn (g := F0 m pc ls (.null :: .int (Int32.ofInt i) :: .ref a :: st.map (mj_c ρ))) F.1 (by rw [hT]; exact hcell) (fun q h => by cases h) (fun h => by cases h) k1 k2 rfl ⟨fun h => hsz (Or.inl h), Nat.not_le.mp fun h => hsz (Or.inr h)⟩ rfl rfl (by rw [F.2.1]; exact hd)
  have hlt : a < T.heap.size := by rw [hT]; exact (Array.getElem?_eq_some_iff.mp hcell).1
  obtain ⟨t', a1, b1⟩ := kk p e s m args below meth c9 _ _ ls ρ0 ρ cells slots F (S.put hs ha hz (mj_wr ht hn0 hn h0 h1 mj_Ch.P (by rw [mj_avP h3, show (i.toNat : Int) = i by omega, gP_sPs]; rfl) (heapAt_setCell_self _ hlt)) (by rw [size_setCell, hT]) (fun q hq => by rw [heapAt_setCell_ne _ (Ne.symm hq), hT]) mj_Ch.P (fun q hq => by rw [gP_sPs] at hq; cases hq) (S.2.2.2.1.2.2.2 c i) fun h => (List.forall_mem_cons.mp (List.forall_mem_cons.mp (List.forall_mem_cons.mp h).2).2).2) _ rfl X'
  exact ⟨t', st' t' a1, b1⟩
/-- a reference or null -/
theorem mx_aastO {c i n : Int} {t : Nat} {v : Option Int} (hd : decode (mi_code M) pc = .ok (.aastore, 1)) (hs : gS A c = some (.inr (t, n))) (h3 : 3 ≤ t) (h0 : 0 ≤ i) (h1 : i < n) (hv : ∀ q, v = some q → gS A q = some (.inl (mj_tc t))) (kk : mj_X G M Q (sP A c i v) kc ks (pc + 1) L st) : mj_X G M Q A kc ks pc L (mR v :: mI i :: mR (some c) :: st) := by
  cases v with
  | none => exact mx_aastN hd hs h3 h0 h1 kk
  | some q => exact mx_aast hd hs h3 h0 h1 (hv q rfl) kk
end MJW
