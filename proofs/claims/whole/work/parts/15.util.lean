/-! THE SMALL MACHINE, 8: what the expanded walks use -/
section MJU
variable {G : mj_G} {M : mj_I} {Q : mj_Q} {A : mj_M} {kc ks pc : Nat} {L : List (Option mj_V)} {st : List mj_V}
theorem r32_mk {x : Int} (h1 : -2147483648 ≤ x) (h2 : x < 2147483648) : r32 x := ⟨h1, h2⟩
theorem mj_sne {c : Int} {x : Nat ⊕ (Nat × Int)} (h : gS A c = some x) : gS A c ≠ none := by rw [h]; exact fun z => by cases z
abbrev mj_no : String → mj_M → Prop := fun _ _ => False
theorem mx_getPs {idx ci k : Nat} {fin : Bool} (kz : Int) {c q : Int} (hd : decode (mi_code M) pc = .ok (.getfield idx, 3)) (hF : mj_Fld (mi_own M) idx ci k fin) (hkz : (k : Int) = kz) (hr : mj_rf ci k = true) (hs : gS A c = some (.inl ci)) (hq : gP A c kz = some q) (kk : mj_X G M Q A kc ks (pc + 3) L (mR (some q) :: st)) : mj_X G M Q A kc ks pc L (mR (some c) :: st) :=
  mx_getP kz hd hF hkz hr hs (by rw [hq]; exact kk)
theorem mx_aalds {c i n q : Int} {t : Nat} (hd : decode (mi_code M) pc = .ok (.aaload, 1)) (hs : gS A c = some (.inr (t, n))) (h3 : 3 ≤ t) (h0 : 0 ≤ i) (h1 : i < n) (hq : gP A c i = some q) (kk : mj_X G M Q A kc ks (pc + 1) L (mR (some q) :: st)) : mj_X G M Q A kc ks pc L (mI i :: mR (some c) :: st) :=
  mx_aald hd hs h3 h0 h1 (by rw [hq]; exact kk)
theorem mj_wt_le : ∀ st : List mj_V, mj_wt st ≤ 2 * st.length
  | [] => Nat.le_refl 0
  | v :: st => by
    have h := mj_wt_le st
    have e : mj_wt (v :: st) = (mj_c (fun _ => none) v).category + mj_wt st := rfl
    have hc : (mj_c (fun _ => none) v).category ≤ 2 := by
      rcases v with x | r | x
      · show 1 ≤ 2; omega
      · cases r <;> (show 1 ≤ 2; omega)
      · show 2 ≤ 2; omega
    rw [e, List.length_cons]; omega
theorem mj_wt_8 (h : 2 * st.length ≤ 8) : mj_wt st ≤ 8 := Nat.le_trans (mj_wt_le st) h
theorem mj_wt_12 {n : Nat} (h : 2 * st.length + 12 ≤ n) : mj_wt st + 12 ≤ n := Nat.le_trans (Nat.add_le_add_right (mj_wt_le st) _) h
theorem mj_wt_13 {n : Nat} (h : 2 * st.length + 13 ≤ n) : mj_wt st + 13 ≤ n := Nat.le_trans (Nat.add_le_add_right (mj_wt_le st) _) h
theorem mj_wt_18 {n : Nat} (h : 2 * st.length + 18 ≤ n) : mj_wt st + 18 ≤ n := Nat.le_trans (Nat.add_le_add_right (mj_wt_le st) _) h
/-- a body, its room in numbers -/
theorem mj_bodyK {as : List mj_V} {Post : Option mj_V → mj_M → Prop} {PX : String → mj_M → Prop} (K S : Nat) (L0 : List (Option mj_V)) (hK : (mi_rm M).cells = K) (hS : (mi_rm M).slots = S) (hh : mi_hh M = []) (hy : plainName (mi_own M) = true) (hn : as.length ≤ mi_ml M) (hz : ∀ v ∈ as, ∀ z, v ≠ mZ z) (hL : L0 = as.map some ++ List.replicate (mi_ml M - as.length) none)
    (k : mj_X G M (mj_Qm G M Post PX) A K S 0 L0 []) : mj_Cal G M as A Post PX := mj_body hh hy hn hz hL (by rw [hK, hS]; exact k)
theorem mj_bodyHK {as : List mj_V} {Post : Option mj_V → mj_M → Prop} {PX : String → mj_M → Prop} (K S : Nat) (L0 : List (Option mj_V)) (hK : (mi_rm M).cells = K) (hS : (mi_rm M).slots = S) (hh : mi_hh M ≠ []) (hy : plainName (mi_own M) = true) (hn : as.length ≤ mi_ml M) (hz : ∀ v ∈ as, ∀ z, v ≠ mZ z) (hL : L0 = as.map some ++ List.replicate (mi_ml M - as.length) none)
    (k : mj_X G M (mj_Qm G M Post PX) A K S 0 L0 []) : mj_Cal G M as A Post PX := mj_bodyH hh hy hn hz hL (by rw [hK, hS]; exact k)
/-- a weaker post -/
theorem mj_Cal.mono {as : List mj_V} {Post Post' : Option mj_V → mj_M → Prop} {PX PX' : String → mj_M → Prop} (h : mj_Cal G M as A Post PX) (h1 : ∀ r A', Post r A' → Post' r A') (h2 : ∀ E A', PX E A' → PX' E A') : mj_Cal G M as A Post' PX' := by
  intro ρ0 p e g1 g2 g3 s m args below g4 g5 g6 g7
  obtain ⟨n, o, k1, k2, k3, k4⟩ := h ρ0 p e g1 g2 g3 s m args below g4 g5 g6 g7
  refine ⟨n, o, k1, k2, k3, ?_⟩
  rcases k4 with ⟨⟨ρ, r, A', q1, q2, q3⟩, k5⟩ | ⟨q, hq, E, ce, L, ⟨ρ, A', q2, q3⟩, k5⟩
  · exact Or.inl ⟨⟨ρ, r, A', q1, h1 r A' q2, q3⟩, k5⟩
  · exact Or.inr ⟨q, hq, E, ce, L, ⟨ρ, A', h2 E A' q2, q3⟩, k5⟩
/-- what never throws may be called as what throws -/
theorem mj_Cal.nox {as : List mj_V} {Post : Option mj_V → mj_M → Prop} {PX : String → mj_M → Prop} (h : mj_Cal G M as A Post mj_no) : mj_Cal G M as A Post PX := h.mono (fun _ _ q => q) fun _ _ q => q.elim
/-- a code that was new, given back at the end: nothing refers to it -/
theorem mj_forget {as : List mj_V} {Post Post' : Option mj_V → mj_M → Prop} {PX : String → mj_M → Prop} (c0 : Int) (h0 : gS A c0 = none) (h : mj_Cal G M as A Post PX)
    (f : ∀ r A', Post r A' → ∃ A'' : mj_M, Post' r A'' ∧ gS A'' c0 = none ∧ (∀ i, gI A'' c0 i = gI A c0 i) ∧ (∀ c, c ≠ c0 → gS A'' c = gS A' c ∧ (∀ i, gI A'' c i = gI A' c i) ∧ ∀ i, gP A'' c i = gP A' c i) ∧ (∀ c i, c ≠ c0 → gS A' c ≠ none → gP A' c i ≠ some c0) ∧ r ≠ some (mR (some c0))) : mj_Cal G M as A Post' PX := by
  intro ρ0 p e g1 g2 g3 s m args below g4 g5 g6 g7
  obtain ⟨n, o, k1, k2, k3, k4⟩ := h ρ0 p e g1 g2 g3 s m args below g4 g5 g6 g7
  refine ⟨n, o, k1, k2, k3, ?_⟩
  rcases k4 with ⟨⟨ρ, r, A', q1, q2, q3, q4, q5, q6⟩, k5⟩ | k4
  · obtain ⟨A'', f1, f2, f3, f4, f5, f6⟩ := f r A' q2
    have hρ0 : ρ0 c0 = none := by
      have h1 := g6.2.1.1 c0
      unfold mj_at at h1
      rw [h0] at h1
      exact h1
    have hext : mj_ext (fun c => if c = c0 then none else ρ c) ρ := by
      intro c a hc
      by_cases e9 : c = c0
      · simp [e9] at hc
      · simpa [e9] using hc
    have hok : ∀ v, mj_ok ρ v → v ≠ mR (some c0) → mj_ok (fun c => if c = c0 then none else ρ c) v := by
      intro v hv hn c hc
      have : c ≠ c0 := fun e9 => hn (by rw [hc, e9])
      simp only [this, if_false]
      exact hv c hc
    have hc9 : ∀ v, mj_ok ρ v → v ≠ mR (some c0) → mj_c (fun c => if c = c0 then none else ρ c) v = mj_c ρ v := fun v hv hn => (mj_c_ext (hok v hv hn) hext).symm
    have hrok : ∀ v, r = some v → mj_ok (fun c => if c = c0 then none else ρ c) v := fun v hv => hok v (q5 v hv) fun e9 => f6 (by rw [hv, e9])
    refine Or.inl ⟨⟨fun c => if c = c0 then none else ρ c, r, A'', ?_, f1, ?_, ⟨fun c => ?_, fun c c' a hc hc' => ?_, fun c i q hc hp => ?_, fun c i => ?_⟩, hrok, q6⟩, k5⟩
    · rw [q1]
      cases r with
      | none => rfl
      | some v => simp only [Option.map_some]; rw [hc9 v (q5 v rfl) fun e9 => f6 (by rw [e9])]
    · intro c a hc
      have h1 := q3 c a hc
      by_cases e9 : c = c0
      · rw [e9, hρ0] at hc; cases hc
      · simpa [e9] using h1
    · unfold mj_at
      by_cases e9 : c = c0
      · rw [e9, f2]; simp
      · have h1 := q4.1 c
        unfold mj_at at h1
        rw [(f4 c e9).1]
        cases hs : gS A' c with
        | none => rw [hs] at h1; simpa [e9] using h1
        | some x =>
          rw [hs] at h1
          obtain ⟨a, b1, ⟨b2, b3⟩ | b3⟩ := h1
          rotate_left
          · exact ⟨a, by simpa [e9] using b1, Or.inr (b3.kept rfl (f4 c e9).2.1)⟩
          refine ⟨a, by simpa [e9] using b1, Or.inl ⟨b2, b3.kept rfl (f4 c e9).2.1 fun i => ?_⟩⟩
          rw [(f4 c e9).2.2 i]
          have hne := f5 c i e9 (by rw [hs]; exact fun z => by cases z)
          refine hc9 _ (mj_okR q4 fun q hq => q4.2.2.1 c i q (by rw [hs]; exact fun z => by cases z) hq) fun e8 => hne ?_
          exact Sum.inl.inj (Sum.inr.inj e8)
    · have hc2 := hext c a hc
      have hc3 := hext c' a hc'
      exact q4.2.1 c c' a hc2 hc3
    · by_cases e9 : c = c0
      · rw [e9, f2] at hc; exact absurd rfl hc
      · rw [(f4 c e9).1] at hc
        rw [(f4 c e9).2.2 i] at hp
        have hq := q4.2.2.1 c i q hc hp
        have hne : q ≠ c0 := fun e8 => f5 c i e9 hc (by rw [hp, e8])
        rw [(f4 q hne).1]; exact hq
    · by_cases e9 : c = c0
      · rw [e9, f3 i]; exact g6.2.1.2.2.2 c0 i
      · rw [(f4 c e9).2.1 i]; exact q4.2.2.2 c i
  · exact Or.inr k4
end MJU
