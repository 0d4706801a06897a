/-! THE SMALL MACHINE, 7: Math, System.arraycopy, loops -/
section MJL
variable {G : mj_G} {M : mj_I} {Q : mj_Q} {A : mj_M} {kc ks pc : Nat} {L : List (Option mj_V)} {st : List mj_V}
def mj_Mt (own : String) (idx : Nat) (y : MethodName) (code : ByteArray) (k : Nat) : Prop := Cond.methodLink own idx y ∈ mj_TB ∧ Cond.static y ∈ mj_TB ∧ Cond.initialized "java/lang/Math" ∈ mj_TB ∧ Cond.code y code k (some .int) ∈ mj_TB
theorem mx_max {idx : Nat} {x y : Int} (hd : decode (mi_code M) pc = .ok (.invokestatic idx, 3)) (hM : mj_Mt (mi_own M) idx Lib.Math.max.name Lib.Math.max.code 2) (hf : 1 ≤ (mi_rm M).frames) (hl : mj_wt st + 13 ≤ (mi_rm M).locals) (hx : r32 x) (hy : r32 y) (kk : mj_X G M Q A kc ks (pc + 3) L (mI (if x < y then y else x) :: st)) : mj_X G M Q A kc ks pc L (mI y :: mI x :: st) := by
  intro p e s m args below meth c H locs ls ρ0 ρ cells slots F S
  have hts := F.2.2.2.2.2.2.2.2.1
  refine va_mmax F.1 F.2.1 (F.2.2.1.trans S.2.2.2.2.2.1.1.1.symm) F.2.2.2.1 (hts _ hM.1) (hts _ hM.2.1) (hts _ hM.2.2.1) (hts _ hM.2.2.2) hf (by rw [mj_wt_eq]; exact hl) (by have := S.2.1; omega) (by have := S.2.2.1; omega) hd ?_
  rw [mj_mm hx hy]
  exact kk p e s m args below meth c H locs ls ρ0 ρ cells slots F (S.to1 fun h => List.forall_mem_cons.mpr ⟨mj_okI _, (List.forall_mem_cons.mp (List.forall_mem_cons.mp h).2).2⟩)
theorem mx_min {idx : Nat} {x y : Int} (hd : decode (mi_code M) pc = .ok (.invokestatic idx, 3)) (hM : mj_Mt (mi_own M) idx Lib.Math.min.name Lib.Math.min.code 2) (hf : 1 ≤ (mi_rm M).frames) (hl : mj_wt st + 13 ≤ (mi_rm M).locals) (hx : r32 x) (hy : r32 y) (kk : mj_X G M Q A kc ks (pc + 3) L (mI (if y < x then y else x) :: st)) : mj_X G M Q A kc ks pc L (mI y :: mI x :: st) := by
  intro p e s m args below meth c H locs ls ρ0 ρ cells slots F S
  have hts := F.2.2.2.2.2.2.2.2.1
  refine va_mmin F.1 F.2.1 (F.2.2.1.trans S.2.2.2.2.2.1.1.1.symm) F.2.2.2.1 (hts _ hM.1) (hts _ hM.2.1) (hts _ hM.2.2.1) (hts _ hM.2.2.2) hf (by rw [mj_wt_eq]; exact hl) (by have := S.2.1; omega) (by have := S.2.2.1; omega) hd ?_
  have e9 : (if Int32.ofInt y < Int32.ofInt x then Int32.ofInt y else Int32.ofInt x) = Int32.ofInt (if y < x then y else x) := by
    by_cases h : y < x
    · rw [if_pos h, if_pos ((r32_lt hy hx).mpr h)]
    · rw [if_neg h, if_neg fun z => h ((r32_lt hy hx).mp z)]
  rw [e9]
  exact kk p e s m args below meth c H locs ls ρ0 ρ cells slots F (S.to1 fun h => List.forall_mem_cons.mpr ⟨mj_okI _, (List.forall_mem_cons.mp (List.forall_mem_cons.mp h).2).2⟩)
theorem mx_abs {idx : Nat} {x : Int} (hd : decode (mi_code M) pc = .ok (.invokestatic idx, 3)) (hM : mj_Mt (mi_own M) idx Lib.Math.abs.name Lib.Math.abs.code 1) (hf : 1 ≤ (mi_rm M).frames) (hl : mj_wt st + 13 ≤ (mi_rm M).locals) (hx : r32 x) (kk : mj_X G M Q A kc ks (pc + 3) L (mI (if 0 ≤ x then x else 0 - x) :: st)) : mj_X G M Q A kc ks pc L (mI x :: st) := by
  intro p e s m args below meth c H locs ls ρ0 ρ cells slots F S
  have hts := F.2.2.2.2.2.2.2.2.1
  refine va_mabs F.1 F.2.1 (F.2.2.1.trans S.2.2.2.2.2.1.1.1.symm) F.2.2.2.1 (hts _ hM.1) (hts _ hM.2.1) (hts _ hM.2.2.1) (hts _ hM.2.2.2) hf (by rw [mj_wt_eq]; omega) (by have := S.2.1; omega) (by have := S.2.2.1; omega) hd ?_
  have e9 : (if (0 : Int32) ≤ Int32.ofInt x then Int32.ofInt x else 0 - Int32.ofInt x) = Int32.ofInt (if 0 ≤ x then x else 0 - x) := by
    by_cases h : 0 ≤ x
    · rw [if_pos h, if_pos (show (0 : Int32) ≤ Int32.ofInt x from (r32_le r32_0 hx).mpr h)]
    · rw [if_neg h, if_neg (show ¬ (0 : Int32) ≤ Int32.ofInt x from fun z => h ((r32_le r32_0 hx).mp z)), Int32.ofInt_sub]; rfl
  rw [e9]
  exact kk p e s m args below meth c H locs ls ρ0 ρ cells slots F (S.to1 fun h => List.forall_mem_cons.mpr ⟨mj_okI _, (List.forall_mem_cons.mp h).2⟩)
/-- System.arraycopy between two int arrays -/
theorem mx_copy {idx : Nat} {c0 c1 n0 n1 sp dp n : Int} (hd : decode (mi_code M) pc = .ok (.invokestatic idx, 3)) (w1 : Cond.methodLink (mi_own M) idx arraycopyName ∈ mj_TB) (w2 : Cond.native arraycopyName ∈ mj_TB) (w3 : Cond.static arraycopyName ∈ mj_TB) (w4 : Cond.initialized "java/lang/System" ∈ mj_TB) (hs0 : gS A c0 = some (.inr (0, n0))) (hs1 : gS A c1 = some (.inr (0, n1)))
    (h1 : 0 ≤ sp) (h2 : 0 ≤ dp) (h3 : 0 ≤ n) (h4 : sp + n ≤ n0) (h5 : dp + n ≤ n1) (hf : 1 ≤ (mi_rm M).frames) (hl : mj_wt st + 18 ≤ (mi_rm M).locals)
    (kk : mj_X G M Q (sF A c1 fun i => if dp ≤ i ∧ i < dp + n then gI A c0 (sp + (i - dp)) else gI A c1 i) kc ks (pc + 3) L st) : mj_X G M Q A kc ks pc L (mI n :: mI dp :: mR (some c1) :: mI sp :: mR (some c0) :: st) := by
  intro p e s m args below meth c H locs ls ρ0 ρ cells slots F S
  obtain ⟨a0, ha0, hz0, -, q0, q1, hc0⟩ := S.2.2.2.1.sh hs0
  obtain ⟨a1, ha1, hz1, ht1, q2, q3, hc1⟩ := S.2.2.2.1.sh hs1
  have hts := F.2.2.2.2.2.2.2.2.1
  have hK := (F.2.2.2.2.2.2.2.2.2.2.1 0 (by omega)).1
  have av : ∀ (c : Int), mj_av ρ A c 0 = fun j => .int (Int32.ofInt (gI A c (j : Int))) := fun c => by funext j; exact mj_avI (by omega)
  rw [av] at hc0 hc1
  show W _ _ _ _ _ _ _ _ _ _ _ _ _ _ _ (F0 m pc ls (.int (Int32.ofInt n) :: .int (Int32.ofInt dp) :: mj_c ρ (mR (some c1)) :: .int (Int32.ofInt sp) :: mj_c ρ (mR (some c0)) :: st.map (mj_c ρ)))
  rw [mj_cR ha0, mj_cR ha1]
  have rsp : r32 sp := ⟨by omega, by omega⟩
  have rdp : r32 dp := ⟨by omega, by omega⟩
  have rn : r32 n := ⟨by omega, by omega⟩
  intro T hT X
  obtain ⟨-, k0, hk0, cm0, hkk0⟩ := hK n0.toNat (fun j => .int (Int32.ofInt (gI A c0 (j : Int))))
  obtain ⟨-, k1, hk1, cm1, hkk1⟩ := hK n1.toNat (fun j => .int (Int32.ofInt (gI A c1 (j : Int))))
  obtain ⟨vm', X', step⟩ := X.arraycopy F.1 F.2.2.2.1 (hts _ w1) (hts _ w2) (hts _ w3) (hts _ w4) (src := a0) (dst := a1) (srcPos := Int32.ofInt sp) (destPos := Int32.ofInt dp) (n := Int32.ofInt n) (by rw [hT]; exact hc0) (by rw [hT]; exact hc1)
    (fun _ h => by cases h) (fun _ h => by cases h) (fun h => by cases h) (fun h => by cases h) hk0 hk1 hkk0 hkk1 (by decide) (by rw [r32_lt0 rsp]; omega) (by rw [r32_lt0 rdp]; omega) (by rw [r32_lt0 rn]; omega)
    (by rw [r32_toInt rsp, r32_toInt rn, arrV_size]; omega) (by rw [r32_toInt rdp, r32_toInt rn, arrV_size]; omega)
    (fun vm₁ _ i hi => by
      rw [r32_nat rn] at hi
      rw [r32_nat rsp, Array.getD_eq_getD_getElem?, arrV_read _ _ (by omega)]
      exact ⟨rfl, trivial⟩)
    (g := F0 m pc ls (.int (Int32.ofInt n) :: .int (Int32.ofInt dp) :: .ref a1 :: .int (Int32.ofInt sp) :: .ref a0 :: st.map (mj_c ρ))) rfl (by rw [F.2.2.1]; exact S.2.2.2.2.2.1.1.1) (rest := st.map (mj_c ρ)) rfl (by rw [F.2.1]; exact hd) hf (by show 2 * 0 + _ + (7 + 11) ≤ _; rw [mj_wt_eq]; omega)
  have e1 := va_copied (fun z : Int32 => .int z) (G.2.2.2 0) (G.2.2.2 0) (n0 := n0.toNat) (n1 := n1.toNat) (sp := sp.toNat) (dp := dp.toNat) (n := n.toNat) (fun j => Int32.ofInt (gI A c0 (j : Int))) (fun j => Int32.ofInt (gI A c1 (j : Int))) (by omega)
  have e2 : copied (arrV (G.2.2.2 0) n0.toNat (fun j => .int (Int32.ofInt (gI A c0 (j : Int))))) (arrV (G.2.2.2 0) n1.toNat (fun j => .int (Int32.ofInt (gI A c1 (j : Int))))) (Int32.ofInt sp) (Int32.ofInt dp) (Int32.ofInt n) = arrV (G.2.2.2 0) n1.toNat (fun j => .int (va_cpy (fun j : Nat => Int32.ofInt (gI A c0 (j : Int))) (fun j : Nat => Int32.ofInt (gI A c1 (j : Int))) sp.toNat dp.toNat n.toNat j)) := by
    rw [← e1]
    unfold copied
    rw [r32_nat rsp, r32_nat rdp, r32_nat rn]
  rw [e2] at X' step
  have hlt : a1 < T.heap.size := (Array.getElem?_eq_some_iff.mp (by rw [hT]; exact hc1)).1
  generalize hZ : arrV (G.2.2.2 0) n1.toNat (fun j => .int (va_cpy (fun j : Nat => Int32.ofInt (gI A c0 (j : Int))) (fun j : Nat => Int32.ofInt (gI A c1 (j : Int))) sp.toNat dp.toNat n.toNat j)) = Z at X' step
  have y1 : ((T.setVm vm').setCell a1 Z).heap[a1]? = some Z := heapAt_setCell_self _ hlt
  have y2 : ((T.setVm vm').setCell a1 Z).heap.size = H.size := by rw [size_setCell]; rw [← hT]; rfl
  have y3 : ∀ q, q ≠ a1 → ((T.setVm vm').setCell a1 Z).heap[q]? = H[q]? := fun q hq => by rw [heapAt_setCell_ne _ (Ne.symm hq), ← hT]; rfl
  have hS1 : ∀ LL : List Loc, (∀ q ∈ LL, q.base = a1) → va_S (fun q => G.2.1 ≤ q) s.heap ((T.setVm vm').setCell a1 Z).heap (locs ++ LL) := by
    intro LL hLL
    refine ⟨by rw [y2]; exact S.2.2.2.2.1.1, fun q g1 g2 => ?_, fun q hq => ?_⟩
    · rw [y3 q (fun e => g2 (by rw [e]; exact hz1))]
      exact S.2.2.2.2.1.2.1 q g1 g2
    · rcases List.mem_append.mp hq with h | h
      · exact S.2.2.2.2.1.2.2 q h
      · show G.2.1 ≤ q.base
        rw [hLL q h]; exact hz1
  obtain ⟨t, g1, g2⟩ := kk p e s m args below meth c _ _ ls ρ0 ρ cells slots F ⟨S.1, S.2.1, S.2.2.1, S.2.2.2.1.put hs1 ha1 hz1 ⟨ht1, q2, q3, by
      rw [y1, ← hZ]
      congr 2
      funext j
      rw [mj_avI (by omega), gI_sF, if_pos rfl]
      unfold va_cpy
      by_cases hj : dp ≤ (j : Int) ∧ (j : Int) < dp + n
      · rw [if_pos hj, if_pos (by omega)]
        have e9 : ((sp.toNat + (j - dp.toNat) : Nat) : Int) = sp + ((j : Int) - dp) := by omega
        show Value.int (Int32.ofInt (gI A c0 ((sp.toNat + (j - dp.toNat) : Nat) : Int))) = _
        rw [e9]
      · rw [if_neg hj, if_neg (by omega)]⟩ y3 (fun _ => rfl) (fun c i hc => by rw [gI_sF, if_neg hc]) (fun _ _ _ => rfl) (fun i q hq => S.2.2.2.1.2.2.1 c1 i q (by rw [hs1]; exact fun z => by cases z) hq) (fun i => by
        rw [gI_sF, if_pos rfl]
        split
        · exact S.2.2.2.1.2.2.2 _ _
        · exact S.2.2.2.1.2.2.2 _ _), hS1 _ (fun q hq => by obtain ⟨z, -, hz⟩ := List.mem_map.mp hq; rw [← hz]), S.2.2.2.2.2.1, fun v hv => S.2.2.2.2.2.2 v (by simp [hv])⟩ _ rfl X'
  exact ⟨t, step t g1, g2⟩
/-- a loop: at its head, with the invariant, by a measure that falls -/
theorem mj_loop {α : Type} (Inv : α → Prop) (μ : α → Nat) (P : α → Prop) (h : ∀ a, Inv a → (∀ b, Inv b → μ b < μ a → P b) → P a) : ∀ a, Inv a → P a := by
  have key : ∀ n a, μ a < n → Inv a → P a := by
    intro n
    induction n with
    | zero => intro a h1; omega
    | succ n ih => intro a h1 h2; exact h a h2 fun b h3 h4 => ih b (by omega) h3
  intro a ha
  exact key (μ a + 1) a (by omega) ha
end MJL
