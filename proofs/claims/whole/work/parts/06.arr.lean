/-! THE SMALL MACHINE, 4: arrays and new cells -/
section MJD
variable {G : mj_G} {M : mj_I} {Q : mj_Q} {A : mj_M} {kc ks pc : Nat} {L : List (Option mj_V)} {st : List mj_V}
theorem mj_avI {ρ : mj_P} {A : mj_M} {t j : Nat} {c : Int} (h : t < 2) : mj_av ρ A c t j = .int (Int32.ofInt (gI A c (j : Int))) := by unfold mj_av; rw [if_neg (by omega), if_neg (by omega)]; rfl
theorem mj_avZ {ρ : mj_P} {A : mj_M} {j : Nat} {c : Int} : mj_av ρ A c 2 j = .long (Int64.ofInt (gI A c (j : Int))) := by unfold mj_av; rw [if_neg (by omega), if_pos rfl]; rfl
theorem mj_avP {ρ : mj_P} {A : mj_M} {t j : Nat} {c : Int} (h : 3 ≤ t) : mj_av ρ A c t j = mj_c ρ (mR (gP A c (j : Int))) := by unfold mj_av; rw [if_pos h]
theorem mj_sz {n : Nat} (cA : ClassId) (f : Nat → Value) {i : Int} {m : Int} (hm : m.toNat = n) (h0 : 0 ≤ i) (h1 : i < m) (hn : m < 2147483648) : ¬ (Int32.ofInt i < 0 ∨ (arrV cA n f).slots.size ≤ (Int32.ofInt i).toNatClampNeg) := by
  rw [arrV_size, ← hm]; exact r32_in h0 h1 ⟨by omega, by omega⟩
theorem mj_rd {n : Nat} (cA : ClassId) (f : Nat → Value) {i : Int} {m : Int} (hm : m.toNat = n) (h0 : 0 ≤ i) (h1 : i < m) (hn : m < 2147483648) : (arrV cA n f).slots[(Int32.ofInt i).toNatClampNeg]? = some (f i.toNat) := by
  rw [r32_nat ⟨by omega, by omega⟩, arrV_read _ _ (by omega)]
theorem mx_iald {c i n : Int} (hd : decode (mi_code M) pc = .ok (.iaload, 1)) (hs : gS A c = some (.inr (0, n))) (h0 : 0 ≤ i) (h1 : i < n) (kk : mj_X G M Q A kc ks (pc + 1) L (mI (gI A c i) :: st)) : mj_X G M Q A kc ks pc L (mI i :: mR (some c) :: st) := by
  intro p e s m args below meth c9 H locs ls ρ0 ρ cells slots F S
  obtain ⟨a, ha, hz, ht, hn0, hn, hcell⟩ := S.2.2.2.1.sh hs
  show W _ _ _ _ _ _ _ _ _ _ _ _ _ _ _ (F0 m pc ls (.int (Int32.ofInt i) :: mj_c ρ (mR (some c)) :: st.map (mj_c ρ)))
  rw [mj_cR ha]
  refine W.iald F.1 F.2.1 hcell ((F.2.2.2.2.2.2.2.2.2.2.1 0 (by omega)).1 _ _) (fun h => by cases h) (mj_sz _ _ rfl h0 h1 hn) (mj_rd _ _ rfl h0 h1 hn) rfl rfl hd ?_
  rw [mj_avI (by omega), show (i.toNat : Int) = i by omega]
  exact kk p e s m args below meth c9 H locs ls ρ0 ρ cells slots F (S.to1 fun h => List.forall_mem_cons.mpr ⟨mj_okI _, (List.forall_mem_cons.mp (List.forall_mem_cons.mp h).2).2⟩)
theorem mx_zald {c i n : Int} (hd : decode (mi_code M) pc = .ok (.baload, 1)) (hs : gS A c = some (.inr (1, n))) (h0 : 0 ≤ i) (h1 : i < n) (kk : mj_X G M Q A kc ks (pc + 1) L (mI (gI A c i) :: st)) : mj_X G M Q A kc ks pc L (mI i :: mR (some c) :: st) := by
  intro p e s m args below meth c9 H locs ls ρ0 ρ cells slots F S
  obtain ⟨a, ha, hz, ht, hn0, hn, hcell⟩ := S.2.2.2.1.sh hs
  show W _ _ _ _ _ _ _ _ _ _ _ _ _ _ _ (F0 m pc ls (.int (Int32.ofInt i) :: mj_c ρ (mR (some c)) :: st.map (mj_c ρ)))
  rw [mj_cR ha]
  refine W.zald F.1 F.2.1 hcell ((F.2.2.2.2.2.2.2.2.2.2.1 1 (by omega)).1 _ _) (fun h => by cases h) (mj_sz _ _ rfl h0 h1 hn) (mj_rd _ _ rfl h0 h1 hn) rfl rfl hd ?_
  rw [mj_avI (by omega), show (i.toNat : Int) = i by omega]
  exact kk p e s m args below meth c9 H locs ls ρ0 ρ cells slots F (S.to1 fun h => List.forall_mem_cons.mpr ⟨mj_okI _, (List.forall_mem_cons.mp (List.forall_mem_cons.mp h).2).2⟩)
theorem mx_lald {c i n : Int} (hd : decode (mi_code M) pc = .ok (.laload, 1)) (hs : gS A c = some (.inr (2, n))) (h0 : 0 ≤ i) (h1 : i < n) (kk : mj_X G M Q A kc ks (pc + 1) L (mZ (gI A c i) :: st)) : mj_X G M Q A kc ks pc L (mI i :: mR (some c) :: st) := by
  intro p e s m args below meth c9 H locs ls ρ0 ρ cells slots F S
  obtain ⟨a, ha, hz, ht, hn0, hn, hcell⟩ := S.2.2.2.1.sh hs
  show W _ _ _ _ _ _ _ _ _ _ _ _ _ _ _ (F0 m pc ls (.int (Int32.ofInt i) :: mj_c ρ (mR (some c)) :: st.map (mj_c ρ)))
  rw [mj_cR ha]
  refine W.lald F.1 F.2.1 hcell ((F.2.2.2.2.2.2.2.2.2.2.1 2 (by omega)).1 _ _) (fun h => by cases h) (mj_sz _ _ rfl h0 h1 hn) (mj_rd _ _ rfl h0 h1 hn) rfl rfl hd ?_
  rw [mj_avZ, show (i.toNat : Int) = i by omega]
  exact kk p e s m args below meth c9 H locs ls ρ0 ρ cells slots F (S.to1 fun h => List.forall_mem_cons.mpr ⟨mj_okZ _, (List.forall_mem_cons.mp (List.forall_mem_cons.mp h).2).2⟩)
theorem mj_tyR {t : Nat} (h3 : 3 ≤ t) (h7 : t < 7) : mj_ty t = .object (mj_on t) := by
  rcases (show t = 3 ∨ t = 4 ∨ t = 5 ∨ t = 6 by omega) with rfl | rfl | rfl | rfl <;> rfl
theorem mx_aald {c i n : Int} {t : Nat} (hd : decode (mi_code M) pc = .ok (.aaload, 1)) (hs : gS A c = some (.inr (t, n))) (h3 : 3 ≤ t) (h0 : 0 ≤ i) (h1 : i < n) (kk : mj_X G M Q A kc ks (pc + 1) L (mR (gP A c i) :: st)) : mj_X G M Q A kc ks pc L (mI i :: mR (some c) :: st) := by
  intro p e s m args below meth c9 H locs ls ρ0 ρ cells slots F S
  obtain ⟨a, ha, hz, ht, hn0, hn, hcell⟩ := S.2.2.2.1.sh hs
  show W _ _ _ _ _ _ _ _ _ _ _ _ _ _ _ (F0 m pc ls (.int (Int32.ofInt i) :: mj_c ρ (mR (some c)) :: st.map (mj_c ρ)))
  rw [mj_cR ha]
  refine W.aald F.1 F.2.1 hcell ((F.2.2.2.2.2.2.2.2.2.2.1 t ht).1 _ _) (by rw [mj_tyR h3 ht]; rfl) (fun h => by cases h) (mj_sz _ _ rfl h0 h1 hn) (mj_rd _ _ rfl h0 h1 hn) rfl rfl hd ?_
  rw [mj_avP h3, show (i.toNat : Int) = i by omega]
  exact kk p e s m args below meth c9 H locs ls ρ0 ρ cells slots F (S.to1 fun h => List.forall_mem_cons.mpr ⟨mj_okR S.2.2.2.1 fun q hq => S.2.2.2.1.2.2.1 c i q (by rw [hs]; exact fun z => by cases z) hq, (List.forall_mem_cons.mp (List.forall_mem_cons.mp h).2).2⟩)
/-- the array's cell behind a store -/
theorem mj_wr {ρ : mj_P} {A A' : mj_M} {H' : Heap} {a t : Nat} {c i n : Int} {v : Value} (ht : t < 7) (hn0 : 0 ≤ n) (hn : n < 2147483648) (h0 : 0 ≤ i) (h1 : i < n) (hC : mj_Ch A A' c i) (hv : mj_av ρ A' c t i.toNat = v) (e : H'[a]? = some ((arrV (G.2.2.2 t) n.toNat (mj_av ρ A c t)).setSlot (Int32.ofInt i).toNatClampNeg v)) : mj_ce G ρ A' H' c a (.inr (t, n)) := by
  refine ⟨ht, hn0, hn, ?_⟩
  rw [e, arrV_store, r32_nat ⟨by omega, by omega⟩]
  congr 2
  funext j
  unfold updV
  by_cases ej : j = i.toNat
  · rw [if_pos ej, ej, hv]
  · rw [if_neg ej]
    have hC' : mj_Ch A A' c (i.toNat : Int) := by rw [show (i.toNat : Int) = i by omega]; exact hC
    exact (mj_av_ne hC' ej).symm
theorem mx_iast {c i n x : Int} (hd : decode (mi_code M) pc = .ok (.iastore, 1)) (hs : gS A c = some (.inr (0, n))) (h0 : 0 ≤ i) (h1 : i < n) (hx : r32 x) (kk : mj_X G M Q (sI A c i x) kc ks (pc + 1) L st) : mj_X G M Q A kc ks pc L (mI x :: mI i :: mR (some c) :: st) := by
  intro p e s m args below meth c9 H locs ls ρ0 ρ cells slots F S
  obtain ⟨a, ha, hz, ht, hn0, hn, hcell⟩ := S.2.2.2.1.sh hs
  show W _ _ _ _ _ _ _ _ _ _ _ _ _ _ _ (F0 m pc ls (.int (Int32.ofInt x) :: .int (Int32.ofInt i) :: mj_c ρ (mR (some c)) :: st.map (mj_c ρ)))
  rw [mj_cR ha]
  refine W.iast F.1 F.2.1 hcell ((F.2.2.2.2.2.2.2.2.2.2.1 0 (by omega)).1 _ _) (fun h => by cases h) (mj_sz _ _ rfl h0 h1 hn) rfl rfl hd fun H1 e1 z1 o1 => ?_
  exact kk p e s m args below meth c9 H1 _ ls ρ0 ρ cells slots F (S.put hs ha hz (mj_wr ht hn0 hn h0 h1 mj_Ch.I (by rw [mj_avI (by omega), show (i.toNat : Int) = i by omega, gI_sIs]) e1) z1 o1 mj_Ch.I (fun q hq => S.2.2.2.1.2.2.1 c i q (by rw [hs]; exact fun z => by cases z) hq) (by rw [gI_sIs]; exact hx) fun h => (List.forall_mem_cons.mp (List.forall_mem_cons.mp (List.forall_mem_cons.mp h).2).2).2)
theorem mx_zast {c i n x : Int} (hd : decode (mi_code M) pc = .ok (.bastore, 1)) (hs : gS A c = some (.inr (1, n))) (h0 : 0 ≤ i) (h1 : i < n) (hx : x = 0 ∨ x = 1) (kk : mj_X G M Q (sI A c i x) kc ks (pc + 1) L st) : mj_X G M Q A kc ks pc L (mI x :: mI i :: mR (some c) :: st) := by
  intro p e s m args below meth c9 H locs ls ρ0 ρ cells slots F S
  obtain ⟨a, ha, hz, ht, hn0, hn, hcell⟩ := S.2.2.2.1.sh hs
  show W _ _ _ _ _ _ _ _ _ _ _ _ _ _ _ (F0 m pc ls (.int (Int32.ofInt x) :: .int (Int32.ofInt i) :: mj_c ρ (mR (some c)) :: st.map (mj_c ρ)))
  rw [mj_cR ha]
  refine W.zast F.1 F.2.1 hcell ((F.2.2.2.2.2.2.2.2.2.2.1 1 (by omega)).1 _ _) (fun h => by cases h) (mj_sz _ _ rfl h0 h1 hn) rfl rfl hd fun H1 e1 z1 o1 => ?_
  rw [(mj_nB hx).1] at e1
  exact kk p e s m args below meth c9 H1 _ ls ρ0 ρ cells slots F (S.put hs ha hz (mj_wr ht hn0 hn h0 h1 mj_Ch.I (by rw [mj_avI (by omega), show (i.toNat : Int) = i by omega, gI_sIs]) e1) z1 o1 mj_Ch.I (fun q hq => S.2.2.2.1.2.2.1 c i q (by rw [hs]; exact fun z => by cases z) hq) (by rw [gI_sIs]; rcases hx with rfl | rfl <;> exact ⟨by decide, by decide⟩) fun h => (List.forall_mem_cons.mp (List.forall_mem_cons.mp (List.forall_mem_cons.mp h).2).2).2)
theorem mx_last {c i n x : Int} (hd : decode (mi_code M) pc = .ok (.lastore, 1)) (hs : gS A c = some (.inr (2, n))) (h0 : 0 ≤ i) (h1 : i < n) (hx : r32 x) (kk : mj_X G M Q (sI A c i x) kc ks (pc + 1) L st) : mj_X G M Q A kc ks pc L (mZ x :: mI i :: mR (some c) :: st) := by
  intro p e s m args below meth c9 H locs ls ρ0 ρ cells slots F S
  obtain ⟨a, ha, hz, ht, hn0, hn, hcell⟩ := S.2.2.2.1.sh hs
  show W _ _ _ _ _ _ _ _ _ _ _ _ _ _ _ (F0 m pc ls (.long (Int64.ofInt x) :: .int (Int32.ofInt i) :: mj_c ρ (mR (some c)) :: st.map (mj_c ρ)))
  rw [mj_cR ha]
  refine W.last F.1 F.2.1 hcell ((F.2.2.2.2.2.2.2.2.2.2.1 2 (by omega)).1 _ _) (fun h => by cases h) (mj_sz _ _ rfl h0 h1 hn) rfl rfl hd fun H1 e1 z1 o1 => ?_
  exact kk p e s m args below meth c9 H1 _ ls ρ0 ρ cells slots F (S.put hs ha hz (mj_wr ht hn0 hn h0 h1 mj_Ch.I (by rw [mj_avZ, show (i.toNat : Int) = i by omega, gI_sIs]) e1) z1 o1 mj_Ch.I (fun q hq => S.2.2.2.1.2.2.1 c i q (by rw [hs]; exact fun z => by cases z) hq) (by rw [gI_sIs]; exact hx) fun h => (List.forall_mem_cons.mp (List.forall_mem_cons.mp (List.forall_mem_cons.mp h).2).2).2)
/-- the class whose objects an array of kind t holds -/
def mj_tc (t : Nat) : Nat := if t = 3 then 0 else if t = 4 then 2 else if t = 5 then 4 else 5
theorem mj_tc_ok {t : Nat} (h3 : 3 ≤ t) (h7 : t < 7) : ∃ r : vw_C, mj_cl[mj_tc t]? = some r ∧ r.1 = mj_on t := by
  rcases (show t = 3 ∨ t = 4 ∨ t = 5 ∨ t = 6 by omega) with rfl | rfl | rfl | rfl <;> exact ⟨_, rfl, rfl⟩
theorem mx_aast {c i n v : Int} {t : Nat} (hd : decode (mi_code M) pc = .ok (.aastore, 1)) (hs : gS A c = some (.inr (t, n))) (h3 : 3 ≤ t) (h0 : 0 ≤ i) (h1 : i < n) (hv : gS A v = some (.inl (mj_tc t))) (kk : mj_X G M Q (sP A c i (some v)) kc ks (pc + 1) L st) : mj_X G M Q A kc ks pc L (mR (some v) :: mI i :: mR (some c) :: st) := by
  intro p e s m args below meth c9 H locs ls ρ0 ρ cells slots F S
  obtain ⟨a, ha, hz, ht, hn0, hn, hcell⟩ := S.2.2.2.1.sh hs
  obtain ⟨r', hr', hrn⟩ := mj_tc_ok h3 ht
  obtain ⟨b, hb, hzb, r, hr, cellV, g1, g2, g3, -⟩ := S.2.2.2.1.sh hv (mj_nx hr')
  cases hr.symm.trans hr'
  have hcls := (F.2.2.2.2.2.2.2.2.2.1.1 _ _ hr).2
  have hRA := (F.2.2.2.2.2.2.2.2.2.2.1 t ht).2
  rw [mj_tyR h3 ht] at hRA
  obtain ⟨kA, comp, k1, k2, k3, -⟩ := hRA
  have hcomp : comp = G.2.2.1.1 (mj_tc t) := Option.some.inj (k3.symm.trans (by rw [← hrn]; exact hcls.1))
  subst hcomp
  obtain ⟨kC, hkC, -⟩ := hcls.2
  show W _ _ _ _ _ _ _ _ _ _ _ _ _ _ _ (F0 m pc ls (mj_c ρ (mR (some v)) :: .int (Int32.ofInt i) :: mj_c ρ (mR (some c)) :: st.map (mj_c ρ)))
  rw [mj_cR ha, mj_cR hb]
  have hsz := mj_sz (G.2.2.2 t) (mj_av ρ A c t) rfl h0 h1 hn
  refine W.aast F.1 F.2.1 hcell (fun q h => by cases h) (fun h => by cases h) k1 k2 rfl hkC ⟨fun h => hsz (Or.inl h), Nat.not_le.mp fun h => hsz (Or.inr h)⟩ g1 (fun q h => by rw [g3] at h; cases h) (by rw [g2]; exact hkC) (by rw [g2]; exact va_assign hcls) rfl rfl hd fun H1 e1 z1 o1 => ?_
  exact kk p e s m args below meth c9 H1 _ ls ρ0 ρ cells slots F (S.put hs ha hz (mj_wr ht hn0 hn h0 h1 mj_Ch.P (by rw [mj_avP h3, show (i.toNat : Int) = i by omega, gP_sPs, mj_cR hb]) e1) z1 o1 mj_Ch.P (fun q hq => by rw [gP_sPs] at hq; cases hq; rw [hv]; exact fun z => by cases z) (S.2.2.2.1.2.2.2 c i) fun h => (List.forall_mem_cons.mp (List.forall_mem_cons.mp (List.forall_mem_cons.mp h).2).2).2)
theorem mx_alen {c n : Int} {t : Nat} (hd : decode (mi_code M) pc = .ok (.arraylength, 1)) (hs : gS A c = some (.inr (t, n))) (kk : mj_X G M Q A kc ks (pc + 1) L (mI n :: st)) : mj_X G M Q A kc ks pc L (mR (some c) :: st) := by
  intro p e s m args below meth c9 H locs ls ρ0 ρ cells slots F S
  obtain ⟨a, ha, hz, ht, hn0, hn, hcell⟩ := S.2.2.2.1.sh hs
  show W _ _ _ _ _ _ _ _ _ _ _ _ _ _ _ (F0 m pc ls (mj_c ρ (mR (some c)) :: st.map (mj_c ρ)))
  rw [mj_cR ha]
  refine W.alen (n := Int32.ofInt n) F.1 F.2.1 hcell ((F.2.2.2.2.2.2.2.2.2.2.1 t ht).1 _ _) (by rw [arrV_size]; show Int32.ofNat n.toNat = _; rw [← Int32.ofInt_eq_ofNat, show ((n.toNat : Nat) : Int) = n by omega]) rfl rfl hd ?_
  exact kk p e s m args below meth c9 H locs ls ρ0 ρ cells slots F (S.to1 fun h => List.forall_mem_cons.mpr ⟨mj_okI _, (List.forall_mem_cons.mp h).2⟩)
theorem mj_map_ext {ρ ρ' : mj_P} {st : List mj_V} (h : ∀ v ∈ st, mj_ok ρ v) (he : mj_ext ρ ρ') : st.map (mj_c ρ') = st.map (mj_c ρ) := List.map_congr_left fun v hv => mj_c_ext (h v hv) he
/-- a new cell: what the walk knows behind it -/
theorem mj_St.new {ρ0 ρ : mj_P} {st st' : List mj_V} {s : State} {H H' : Heap} {locs : List Loc} {ls : Array Slot} {cells slots n : Nat} (S : mj_St G M ρ0 ρ A (kc + 1) (ks + n) L st s H locs ls cells slots) {c0 : Int} {x : Nat ⊕ (Nat × Int)} (hs : gS A c0 = none) (hB : G.2.1 ≤ s.heap.size) (hce : mj_ce G (mj_up ρ c0 H.size) (sN A c0 x) H' c0 H.size x) (z : H'.size = H.size + 1) (hq : ∀ q, q < H.size → H'[q]? = H[q]?) (h : (∀ v ∈ st, mj_ok ρ v) → ∀ v ∈ st', mj_ok ρ v) :
    mj_St G M ρ0 (mj_up ρ c0 H.size) (sN A c0 x) kc ks L (mR (some c0) :: st') s H' locs ls (cells + 1) (slots + n) ∧ st'.map (mj_c (mj_up ρ c0 H.size)) = st'.map (mj_c ρ) ∧ mj_c (mj_up ρ c0 H.size) (mR (some c0)) = .ref H.size := by
  obtain ⟨h1, h2⟩ := S.2.2.2.1.new hs (Nat.le_trans hB S.2.2.2.2.1.1) hce hq
  have hst := h S.2.2.2.2.2.2
  have hup : mj_up ρ c0 H.size c0 = some H.size := by simp [mj_up]
  refine ⟨⟨S.1.tr h2, by have := S.2.1; omega, by have := S.2.2.1; omega, h1, ⟨Nat.le_trans S.2.2.2.2.1.1 (by omega), fun q g1 g2 => (hq q (Nat.lt_of_lt_of_le g1 S.2.2.2.2.1.1)).trans (S.2.2.2.2.1.2.1 q g1 g2), S.2.2.2.2.1.2.2⟩, S.2.2.2.2.2.1.ext h2, List.forall_mem_cons.mpr ⟨(fun c hc => by cases hc; rw [hup]; exact fun z => (by cases z)), fun v hv => (hst v hv).ext h2⟩⟩, mj_map_ext hst h2, mj_cR hup⟩
def mj_New (own : String) (idx ci n : Nat) : Prop := ∃ r : vw_C, mj_cl[ci]? = some r ∧ r.2.2 = n ∧ Cond.classLink own idx r.1 ∈ mj_TB ∧ Cond.instantiable r.1 n ∈ mj_TB ∧ Cond.initialized r.1 ∈ mj_TB
theorem mx_new {idx ci n : Nat} (c0 : Int) (hd : decode (mi_code M) pc = .ok (.new idx, 3)) (hN : mj_New (mi_own M) idx ci n) (hs : gS A c0 = none) (kk : mj_X G M Q (sN A c0 (.inl ci)) kc ks (pc + 3) L (mR (some c0) :: st)) : mj_X G M Q A (kc + 1) (ks + n) pc L st := by
  intro p e s m args below meth c9 H locs ls ρ0 ρ cells slots F S
  obtain ⟨r, hr, hn, hcl, hins, hini⟩ := hN
  subst hn
  obtain ⟨hU, hNm, hY⟩ := mj_cls hr
  have hts := F.2.2.2.2.2.2.2.2.1
  have hKn := F.2.2.2.2.2.2.2.2.2.1.1 ci r hr
  refine W.newcK F.1 F.2.1 F.2.2.2.1 (hts _ hcl) (hts _ hins) (hts _ hini) rfl hd (by have := S.2.1; omega) (by have := S.2.2.1; omega) hKn.2.1 rfl fun H1 kC hkC e1 z1 o1 => ?_
  obtain ⟨S', e2, e3⟩ := S.new (st' := st) (x := .inl ci) hs F.2.2.2.2.2.2.2.2.2.2.2.2.2.2.2.2.2.1 ⟨r, hr, (u_born (mj_fT ci) hts hU hKn hkC e1 hY).to fun j hj => by
    rw [mj_fT_ok ci r hr j hj]
    by_cases hf : mj_rf ci j = true
    · rw [if_pos hf, mj_fvP hf, gP_sN, if_pos rfl]; rfl
    · rw [if_neg hf, mj_fvI (by simpa using hf), gI_sN, if_pos rfl]; rfl⟩ z1 o1 id
  have k9 := kk p e s m args below meth c9 H1 locs ls ρ0 _ _ _ F S'
  rw [List.map_cons, e2, e3] at k9
  exact k9
theorem mj_newS {t : Nat} (ht : t < 3) {U : State} {cA cB : ClassId} (h : va_RA U cA (mj_ty t)) (h' : U.vm.findClass ("[" ++ (mj_ty t).toString) = some cB) : cB = cA := by
  rcases (show t = 0 ∨ t = 1 ∨ t = 2 by omega) with rfl | rfl | rfl <;> exact Option.some.inj (h'.symm.trans h)
theorem mx_newa {atype : ArrayType} {t : Nat} (c0 : Int) {n : Int} {n1 : Nat} (hd : decode (mi_code M) pc = .ok (.newarray atype, 2)) (ht : t < 3) (hat : newarray.typeOf atype = mj_ty t) (hw : Cond.arrayClass (mj_ty t) ∈ mj_TB) (hs : gS A c0 = none) (hn : n = (n1 : Int)) (hn1 : n1 ≤ 1000000) (kk : mj_X G M Q (sN A c0 (.inr (t, n))) kc ks (pc + 2) L (mR (some c0) :: st)) : mj_X G M Q A (kc + 1) (ks + n1) pc L (mI n :: st) := by
  intro p e s m args below meth c9 H locs ls ρ0 ρ cells slots F S
  have hts := F.2.2.2.2.2.2.2.2.1
  have hr : r32 n := ⟨by omega, by omega⟩
  have hB := F.2.2.2.2.2.2.2.2.2.2.1 t (by omega)
  show W _ _ _ _ _ _ _ _ _ _ _ _ _ _ _ (F0 m pc ls (.int (Int32.ofInt n) :: st.map (mj_c ρ)))
  have hcb : componentBytes (newarray.typeOf atype) ≤ 8 := by cases atype <;> decide
  refine va_newaK F.1 F.2.1 (by rw [hat]; exact hts _ hw) rfl hd rfl (by rw [r32_lt0 hr]; omega) (N := n1) (by rw [r32_nat hr]; omega) (by have := Nat.mul_le_mul_left n1 hcb; omega) (by have := S.2.1; omega) (by have := S.2.2.1; omega) rfl fun H1 cA e1 z1 o1 hAr hNm => ?_
  rw [hat] at hNm e1
  have hcA := mj_newS ht hB.2 hNm
  subst hcA
  obtain ⟨S', e2, e3⟩ := S.new (st' := st) (x := .inr (t, n)) hs F.2.2.2.2.2.2.2.2.2.2.2.2.2.2.2.2.2.1 ⟨by omega, by omega, by omega, by
    rw [e1, show n.toNat = n1 by omega]
    congr 2
    funext j
    rcases (show t = 0 ∨ t = 1 ∨ t = 2 by omega) with rfl | rfl | rfl
    · rw [mj_avI (by omega), gI_sN, if_pos rfl]; rfl
    · rw [mj_avI (by omega), gI_sN, if_pos rfl]; rfl
    · rw [mj_avZ, gI_sN, if_pos rfl]; rfl⟩ z1 o1 (fun h => (List.forall_mem_cons.mp h).2)
  have k9 := kk p e s m args below meth c9 H1 locs ls ρ0 _ _ _ F S'
  rw [List.map_cons, e2, e3] at k9
  exact k9
theorem mx_anew {idx t : Nat} (c0 : Int) {n : Int} {n1 : Nat} (hd : decode (mi_code M) pc = .ok (.anewarray idx, 3)) (h3 : 3 ≤ t) (h7 : t < 7) (hw : Cond.classLink (mi_own M) idx (mj_on t) ∈ mj_TB) (hs : gS A c0 = none) (hn : n = (n1 : Int)) (hn1 : n1 ≤ 1000000) (kk : mj_X G M Q (sN A c0 (.inr (t, n))) kc ks (pc + 3) L (mR (some c0) :: st)) : mj_X G M Q A (kc + 1) (ks + n1) pc L (mI n :: st) := by
  intro p e s m args below meth c9 H locs ls ρ0 ρ cells slots F S
  have hts := F.2.2.2.2.2.2.2.2.1
  have hr : r32 n := ⟨by omega, by omega⟩
  have hB := F.2.2.2.2.2.2.2.2.2.2.1 t h7
  have hover := F.2.2.2.2.2.2.2.2.2.2.2.2.2.2.2.2.1.1 t h3 h7
  have hnn : (Int32.ofInt n).toNatClampNeg = n1 := by rw [r32_nat hr]; omega
  show W _ _ _ _ _ _ _ _ _ _ _ _ _ _ _ (F0 m pc ls (.int (Int32.ofInt n) :: st.map (mj_c ρ)))
  refine W.anew F.1 F.2.1 F.2.2.2.1 (hts _ hw) (va_AO.use hover) rfl hd rfl (by rw [r32_lt0 hr]; omega) (by rw [hnn]; omega) (by have := S.2.1; omega) (by rw [hnn]; have := S.2.2.1; omega) fun cA kA comp f1 f2 f3 f4 => ?_
  rw [hnn]
  generalize hH1 : H.push ({ cls := cA, slots := Array.replicate n1 .null, vm := .none } : Cell) = H1
  have z1 : H1.size = H.size + 1 := by rw [← hH1, Array.size_push]
  have e1 : H1[H.size]? = some (arrV cA n1 (fun _ => .null)) := by rw [← hH1, Array.getElem?_push_size, ← arrV_new]
  have o1 : ∀ q : Nat, q < H.size → H1[q]? = H[q]? := fun q hq => by rw [← hH1, Array.getElem?_push, if_neg (Nat.ne_of_lt hq)]
  have hRA := hB.2
  rw [mj_tyR h3 h7] at hRA
  obtain ⟨kA2, comp2, k1, k2, k3, k4⟩ := hRA
  cases f1.symm.trans k4
  obtain ⟨S', e2, e3⟩ := S.new (st' := st) (x := .inr (t, n)) hs F.2.2.2.2.2.2.2.2.2.2.2.2.2.2.2.2.2.1 ⟨h7, by omega, by omega, by
    rw [e1, show n.toNat = n1 by omega]
    congr 2
    funext j
    rw [mj_avP h3, gP_sN, if_pos rfl]; rfl⟩ z1 o1 (fun h => (List.forall_mem_cons.mp h).2)
  have k9 := kk p e s m args below meth c9 H1 locs ls ρ0 _ _ _ F S'
  rw [List.map_cons, e2, e3] at k9
  exact k9
end MJD
