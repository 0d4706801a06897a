/-! THE SMALL MACHINE: objects and arrays have codes (whole numbers of the prover's choice), ints are whole numbers; mj_X is 'the machine, from here, with this memory, comes to its post' -/
section MJA
/-- a value: an int, a reference (its code), a long -/
abbrev mj_V : Type := Int ⊕ (Option Int ⊕ Int)
abbrev mI (x : Int) : mj_V := .inl x
abbrev mR (r : Option Int) : mj_V := .inr (.inl r)
abbrev mZ (x : Int) : mj_V := .inr (.inr x)
/-- where the cells of the codes lie -/
abbrev mj_P : Type := Int → Option Nat
def mj_c (ρ : mj_P) (v : mj_V) : Value := match v with
  | .inl x => .int (Int32.ofInt x)
  | .inr (.inl r) => va_rf (r.map fun c => (ρ c).getD 0)
  | .inr (.inr x) => .long (Int64.ofInt x)
/-- a memory: what a code is (a class by its number; an array: its kind, its length), its whole numbers, its references -/
abbrev mj_M : Type := (Int → Option (Nat ⊕ (Nat × Int))) × (Int → Int → Int) × (Int → Int → Option Int)
def gS (A : mj_M) (c : Int) : Option (Nat ⊕ (Nat × Int)) := A.1 c
def gI (A : mj_M) (c i : Int) : Int := A.2.1 c i
def gP (A : mj_M) (c i : Int) : Option Int := A.2.2 c i
def sI (A : mj_M) (c i : Int) (v : Int) : mj_M := (A.1, fun c' i' => if c' = c ∧ i' = i then v else A.2.1 c' i', A.2.2)
def sP (A : mj_M) (c i : Int) (v : Option Int) : mj_M := (A.1, A.2.1, fun c' i' => if c' = c ∧ i' = i then v else A.2.2 c' i')
def sN (A : mj_M) (c : Int) (x : Nat ⊕ (Nat × Int)) : mj_M := (fun c' => if c' = c then some x else A.1 c', fun c' i' => if c' = c then 0 else A.2.1 c' i', fun c' i' => if c' = c then none else A.2.2 c' i')
/-- a whole array anew -/
def sF (A : mj_M) (c : Int) (f : Int → Int) : mj_M := (A.1, fun c' i' => if c' = c then f i' else A.2.1 c' i', A.2.2)
theorem gS_sI (A : mj_M) (c i v c' : Int) : gS (sI A c i v) c' = gS A c' := rfl
theorem gS_sP (A : mj_M) (c i : Int) (v : Option Int) (c' : Int) : gS (sP A c i v) c' = gS A c' := rfl
theorem gS_sF (A : mj_M) (c : Int) (f : Int → Int) (c' : Int) : gS (sF A c f) c' = gS A c' := rfl
theorem gS_sN (A : mj_M) (c : Int) (x : Nat ⊕ (Nat × Int)) (c' : Int) : gS (sN A c x) c' = if c' = c then some x else gS A c' := rfl
theorem gI_sI (A : mj_M) (c i v c' i' : Int) : gI (sI A c i v) c' i' = if c' = c ∧ i' = i then v else gI A c' i' := rfl
theorem gI_sP (A : mj_M) (c i : Int) (v : Option Int) (c' i' : Int) : gI (sP A c i v) c' i' = gI A c' i' := rfl
theorem gI_sF (A : mj_M) (c : Int) (f : Int → Int) (c' i' : Int) : gI (sF A c f) c' i' = if c' = c then f i' else gI A c' i' := rfl
theorem gI_sN (A : mj_M) (c : Int) (x : Nat ⊕ (Nat × Int)) (c' i' : Int) : gI (sN A c x) c' i' = if c' = c then 0 else gI A c' i' := rfl
theorem gP_sI (A : mj_M) (c i v c' i' : Int) : gP (sI A c i v) c' i' = gP A c' i' := rfl
theorem gP_sP (A : mj_M) (c i : Int) (v : Option Int) (c' i' : Int) : gP (sP A c i v) c' i' = if c' = c ∧ i' = i then v else gP A c' i' := rfl
theorem gP_sF (A : mj_M) (c : Int) (f : Int → Int) (c' i' : Int) : gP (sF A c f) c' i' = gP A c' i' := rfl
theorem gP_sN (A : mj_M) (c : Int) (x : Nat ⊕ (Nat × Int)) (c' i' : Int) : gP (sN A c x) c' i' = if c' = c then none else gP A c' i' := rfl
def r32 (x : Int) : Prop := -2147483648 ≤ x ∧ x < 2147483648
theorem r32_toInt {x : Int} (h : r32 x) : (Int32.ofInt x).toInt = x := Int32.toInt_ofInt_of_le (by have := h.1; omega) (by have := h.2; omega)
theorem r32_lt {x y : Int} (hx : r32 x) (hy : r32 y) : Int32.ofInt x < Int32.ofInt y ↔ x < y := by rw [Int32.lt_iff_toInt_lt, r32_toInt hx, r32_toInt hy]
theorem r32_le {x y : Int} (hx : r32 x) (hy : r32 y) : Int32.ofInt x ≤ Int32.ofInt y ↔ x ≤ y := by rw [Int32.le_iff_toInt_le, r32_toInt hx, r32_toInt hy]
theorem r32_eq {x y : Int} (hx : r32 x) (hy : r32 y) : Int32.ofInt x = Int32.ofInt y ↔ x = y := by rw [← Int32.toInt_inj, r32_toInt hx, r32_toInt hy]
theorem r32_nat {x : Int} (h : r32 x) : (Int32.ofInt x).toNatClampNeg = x.toNat := by show (Int32.ofInt x).toInt.toNat = _; rw [r32_toInt h]
theorem r32_0 : r32 0 := ⟨by decide, by decide⟩
theorem r32_lt0 {x : Int} (hx : r32 x) : Int32.ofInt x < 0 ↔ x < 0 := r32_lt (y := 0) hx r32_0
theorem r32_eq0 {x : Int} (hx : r32 x) : Int32.ofInt x = 0 ↔ x = 0 := r32_eq (y := 0) hx r32_0
theorem r32_le0 {x : Int} (hx : r32 x) : Int32.ofInt x ≤ 0 ↔ x ≤ 0 := r32_le (y := 0) hx r32_0
theorem r32_in {i n : Int} (h0 : 0 ≤ i) (h1 : i < n) (hn : r32 i) : ¬ (Int32.ofInt i < 0 ∨ n.toNat ≤ (Int32.ofInt i).toNatClampNeg) := by
  rw [r32_lt0 hn, r32_nat hn]; omega
/-- kinds of arrays -/
def mj_ty (t : Nat) : FieldType := if t = 0 then .int else if t = 1 then .boolean else if t = 2 then .long else if t = 3 then .object "CelHouse$Drawing" else if t = 4 then .object "CelHouse$Peg" else if t = 5 then .object "CelHouse$Scene" else .object "CelHouse$Stroke"
/-- launch, where our cells begin, the classes' numbers and slots, the arrays' classes -/
abbrev mj_G : Type := Launch × Nat × va_G × (Nat → ClassId)
/-- is field k of class ci a reference -/
def mj_rf (ci k : Nat) : Bool := match mj_fT ci k with
  | .int => false
  | .boolean => false
  | _ => true
def mj_fv (ρ : mj_P) (A : mj_M) (ci : Nat) (c : Int) (k : Nat) : Value := if mj_rf ci k = true then mj_c ρ (mR (gP A c (k : Int))) else mj_c ρ (mI (gI A c (k : Int)))
def mj_av (ρ : mj_P) (A : mj_M) (c : Int) (t : Nat) (j : Nat) : Value := if 3 ≤ t then mj_c ρ (mR (gP A c (j : Int))) else if t = 2 then mj_c ρ (mZ (gI A c (j : Int))) else mj_c ρ (mI (gI A c (j : Int)))
def mj_ce (G : mj_G) (ρ : mj_P) (A : mj_M) (H : Heap) (c : Int) (a : Nat) (x : Nat ⊕ (Nat × Int)) : Prop := match x with
  | .inl ci => ∃ r : vw_C, mj_cl[ci]? = some r ∧ t_OB a (G.2.2.1.1 ci) r.2.2 (G.2.2.1.2 ci) H (mj_fv ρ A ci c)
  | .inr q => q.1 < 7 ∧ 0 ≤ q.2 ∧ q.2 < 2147483648 ∧ H[a]? = some (arrV (G.2.2.2 q.1) q.2.toNat (mj_av ρ A c q.1))
/-- a row of ints that was there before, of any monitor: only read -/
def mj_sc (G : mj_G) (A : mj_M) (H : Heap) (c : Int) (a : Nat) (x : Nat ⊕ (Nat × Int)) : Prop := x = .inl 99 ∧ ∃ scr : Cell, H[a]? = some scr ∧ scr.cls = G.2.2.2 7 ∧ (∀ k, scr.vm ≠ .statics k) ∧ scr.vm ≠ .unknown ∧ (0 ≤ gI A c (-1) ∧ gI A c (-1) < 2147483648) ∧ scr.slots.size = (gI A c (-1)).toNat ∧ ∀ j : Nat, j < scr.slots.size → scr.slots[j]? = some (.int (Int32.ofInt (gI A c (j : Int))))
theorem mj_sc.lt {G : mj_G} {A : mj_M} {H : Heap} {c : Int} {a : Nat} {x : Nat ⊕ (Nat × Int)} (h : mj_sc G A H c a x) : a < H.size := by
  obtain ⟨-, scr, h1, -⟩ := h
  exact (Array.getElem?_eq_some_iff.mp h1).1
theorem mj_sc.kept {G : mj_G} {A A' : mj_M} {H H' : Heap} {c : Int} {a : Nat} {x : Nat ⊕ (Nat × Int)} (h : mj_sc G A H c a x) (hq : H'[a]? = H[a]?) (hI : ∀ i, gI A' c i = gI A c i) : mj_sc G A' H' c a x := by
  obtain ⟨h0, scr, h1, h2, h3, h4, h5, h6, h7⟩ := h
  exact ⟨h0, scr, by rw [hq]; exact h1, h2, h3, h4, by rw [hI]; exact h5, by rw [hI]; exact h6, fun j hj => by rw [hI]; exact h7 j hj⟩
def mj_at (G : mj_G) (ρ : mj_P) (A : mj_M) (H : Heap) (c : Int) : Prop := match gS A c with
  | none => ρ c = none
  | some x => ∃ a, ρ c = some a ∧ ((G.2.1 ≤ a ∧ mj_ce G ρ A H c a x) ∨ mj_sc G A H c a x)
/-- the heap holds the memory -/
def mj_H (G : mj_G) (ρ : mj_P) (A : mj_M) (H : Heap) : Prop :=
  (∀ c, mj_at G ρ A H c) ∧ (∀ c c' a, ρ c = some a → ρ c' = some a → c = c') ∧ (∀ c i q, gS A c ≠ none → gP A c i = some q → gS A q ≠ none) ∧ ∀ c i, r32 (gI A c i)
def mj_ext (ρ ρ' : mj_P) : Prop := ∀ c a, ρ c = some a → ρ' c = some a
def mj_ok (ρ : mj_P) (v : mj_V) : Prop := ∀ c, v = mR (some c) → ρ c ≠ none
theorem mj_ext.rf {ρ : mj_P} : mj_ext ρ ρ := fun _ _ h => h
theorem mj_ext.tr {ρ ρ' ρ'' : mj_P} (h : mj_ext ρ ρ') (h' : mj_ext ρ' ρ'') : mj_ext ρ ρ'' := fun c a q => h' c a (h c a q)
theorem mj_ok.ext {ρ ρ' : mj_P} {v : mj_V} (h : mj_ok ρ v) (he : mj_ext ρ ρ') : mj_ok ρ' v := by
  intro c hc hn
  cases hr : ρ c with
  | none => exact h c hc hr
  | some a => rw [he c a hr] at hn; cases hn
theorem mj_c_ext {ρ ρ' : mj_P} {v : mj_V} (h : mj_ok ρ v) (he : mj_ext ρ ρ') : mj_c ρ' v = mj_c ρ v := by
  rcases v with x | r | x
  · rfl
  · cases r with
    | none => rfl
    | some c =>
      cases hr : ρ c with
      | none => exact absurd hr (h c rfl)
      | some a => simp [mj_c, hr, he c a hr]
  · rfl
theorem mj_okI {ρ : mj_P} (x : Int) : mj_ok ρ (mI x) := fun c h => by cases h
theorem mj_okZ {ρ : mj_P} (x : Int) : mj_ok ρ (mZ x) := fun c h => by cases h
theorem mj_okN {ρ : mj_P} : mj_ok ρ (mR none) := fun c h => by cases h
theorem mj_okR {G : mj_G} {ρ : mj_P} {A : mj_M} {H : Heap} (h : mj_H G ρ A H) {r : Option Int} (hr : ∀ q, r = some q → gS A q ≠ none) : mj_ok ρ (mR r) := by
  intro c hc
  cases hc
  have h1 := h.1 c
  unfold mj_at at h1
  cases hs : gS A c with
  | none => exact absurd hs (hr c rfl)
  | some x =>
    rw [hs] at h1
    obtain ⟨a, h2, -⟩ := h1
    rw [h2]; exact fun z => by cases z
theorem mj_okS {G : mj_G} {ρ : mj_P} {A : mj_M} {H : Heap} (h : mj_H G ρ A H) {c : Int} (hr : mj_ok ρ (mR (some c))) : gS A c ≠ none := by
  intro hs
  have h1 := h.1 c
  unfold mj_at at h1
  rw [hs] at h1
  exact hr c rfl h1
theorem mj_H.sh {G : mj_G} {ρ : mj_P} {A : mj_M} {H : Heap} (h : mj_H G ρ A H) {c : Int} {x : Nat ⊕ (Nat × Int)} (hs : gS A c = some x) (hx : x ≠ .inl 99 := by intro h; cases h) : ∃ a, ρ c = some a ∧ G.2.1 ≤ a ∧ mj_ce G ρ A H c a x := by
  have h1 := h.1 c
  unfold mj_at at h1
  rw [hs] at h1
  obtain ⟨a, g1, g2 | g2⟩ := h1
  · exact ⟨a, g1, g2⟩
  · exact absurd g2.1 hx
theorem mj_nx {ci : Nat} {r : vw_C} (h : mj_cl[ci]? = some r) : (.inl ci : Nat ⊕ (Nat × Int)) ≠ .inl 99 := by
  intro e
  cases e
  simp [mj_cl] at h
theorem mj_ce.lt {G : mj_G} {ρ : mj_P} {A : mj_M} {H : Heap} {c : Int} {a : Nat} {x : Nat ⊕ (Nat × Int)} (h : mj_ce G ρ A H c a x) : a < H.size := by
  rcases x with ci | q
  · obtain ⟨r, -, cell, h1, -⟩ := h
    exact (Array.getElem?_eq_some_iff.mp h1).1
  · exact (Array.getElem?_eq_some_iff.mp h.2.2.2).1
/-- another memory that agrees at the code, in a heap that agrees at the cell -/
theorem mj_ce.kept {G : mj_G} {ρ ρ' : mj_P} {A A' : mj_M} {H H' : Heap} {c : Int} {a : Nat} {x : Nat ⊕ (Nat × Int)} (h : mj_ce G ρ A H c a x) (hq : H'[a]? = H[a]?) (hI : ∀ i, gI A' c i = gI A c i) (hP : ∀ i, mj_c ρ' (mR (gP A' c i)) = mj_c ρ (mR (gP A c i))) : mj_ce G ρ' A' H' c a x := by
  rcases x with ci | q
  · obtain ⟨r, h1, h2⟩ := h
    refine ⟨r, h1, (h2.kept hq).to fun k _ => ?_⟩
    unfold mj_fv
    rw [hP, hI]
    rfl
  · obtain ⟨h1, h2, h3, h4⟩ := h
    refine ⟨h1, h2, h3, ?_⟩
    rw [hq, h4]
    congr 2
    funext j
    unfold mj_av
    rw [hP, hI]
    rfl
/-- a store at one code -/
theorem mj_H.put {G : mj_G} {ρ : mj_P} {A A' : mj_M} {H H' : Heap} (h : mj_H G ρ A H) {c0 : Int} {a0 : Nat} {x : Nat ⊕ (Nat × Int)} (hs : gS A c0 = some x) (ha : ρ c0 = some a0) (hz : G.2.1 ≤ a0) (hce : mj_ce G ρ A' H' c0 a0 x) (hq : ∀ q, q ≠ a0 → H'[q]? = H[q]?)
    (hS : ∀ c, gS A' c = gS A c) (hI : ∀ c i, c ≠ c0 → gI A' c i = gI A c i) (hP : ∀ c i, c ≠ c0 → gP A' c i = gP A c i) (hcl : ∀ i q, gP A' c0 i = some q → gS A q ≠ none) (hr : ∀ i, r32 (gI A' c0 i)) : mj_H G ρ A' H' := by
  refine ⟨fun c => ?_, h.2.1, fun c i q hc hp => ?_, fun c i => ?_⟩
  · unfold mj_at
    rw [hS]
    have h1 := h.1 c
    unfold mj_at at h1
    cases hc : gS A c with
    | none => rw [hc] at h1; exact h1
    | some y =>
      rw [hc] at h1
      obtain ⟨a, g1, g2⟩ := h1
      refine ⟨a, g1, ?_⟩
      by_cases hcc : c = c0
      · subst hcc
        cases hs.symm.trans hc
        cases ha.symm.trans g1
        exact Or.inl ⟨hz, hce⟩
      · have hq1 := hq a fun e => hcc (h.2.1 c c0 a0 (by rw [← e]; exact g1) ha)
        rcases g2 with ⟨g2, g3⟩ | g3
        · exact Or.inl ⟨g2, g3.kept hq1 (fun i => hI c i hcc) fun i => by rw [hP c i hcc]⟩
        · exact Or.inr (g3.kept hq1 fun i => hI c i hcc)
  · rw [hS] at hc ⊢
    by_cases hcc : c = c0
    · subst hcc; exact hcl i q hp
    · rw [hP c i hcc] at hp; exact h.2.2.1 c i q hc hp
  · by_cases hcc : c = c0
    · subst hcc; exact hr i
    · rw [hI c i hcc]; exact h.2.2.2 c i
def mj_up (ρ : mj_P) (c : Int) (a : Nat) : mj_P := fun c' => if c' = c then some a else ρ c'
theorem mj_up_ext {ρ : mj_P} {c : Int} {a : Nat} (h : ρ c = none) : mj_ext ρ (mj_up ρ c a) := by
  intro c' a' h'
  unfold mj_up
  rw [if_neg]
  · exact h'
  · intro e; rw [e, h] at h'; cases h'
/-- a new code -/
theorem mj_H.new {G : mj_G} {ρ : mj_P} {A : mj_M} {H H' : Heap} (h : mj_H G ρ A H) {c0 : Int} {x : Nat ⊕ (Nat × Int)} (hs : gS A c0 = none) (hz : G.2.1 ≤ H.size) (hce : mj_ce G (mj_up ρ c0 H.size) (sN A c0 x) H' c0 H.size x) (hq : ∀ q, q < H.size → H'[q]? = H[q]?) :
    mj_H G (mj_up ρ c0 H.size) (sN A c0 x) H' ∧ mj_ext ρ (mj_up ρ c0 H.size) := by
  have h0 : ρ c0 = none := by
    have h1 := h.1 c0
    unfold mj_at at h1
    rw [hs] at h1
    exact h1
  have hlt : ∀ c a, ρ c = some a → a < H.size := by
    intro c a hc
    have h1 := h.1 c
    unfold mj_at at h1
    cases hcs : gS A c with
    | none => rw [hcs] at h1; rw [h1] at hc; cases hc
    | some y =>
      rw [hcs] at h1
      obtain ⟨a', g1, g3⟩ := h1
      cases hc.symm.trans g1
      rcases g3 with ⟨-, g3⟩ | g3
      · exact g3.lt
      · exact g3.lt
  have hext := mj_up_ext (a := H.size) h0
  refine ⟨⟨fun c => ?_, fun c c' a hc hc' => ?_, fun c i q hc hp => ?_, fun c i => ?_⟩, hext⟩
  · unfold mj_at
    rw [gS_sN]
    by_cases hcc : c = c0
    · subst hcc
      rw [if_pos rfl]
      exact ⟨H.size, by simp [mj_up], Or.inl ⟨hz, hce⟩⟩
    · rw [if_neg hcc]
      have h1 := h.1 c
      unfold mj_at at h1
      cases hcs : gS A c with
      | none =>
        rw [hcs] at h1
        show mj_up ρ c0 H.size c = none
        unfold mj_up
        rw [if_neg hcc]; exact h1
      | some y =>
        rw [hcs] at h1
        obtain ⟨a, g1, ⟨g2, g3⟩ | g3⟩ := h1
        rotate_left
        · exact ⟨a, hext c a g1, Or.inr (g3.kept (hq a g3.lt) (fun i => by rw [gI_sN, if_neg hcc]))⟩
        refine ⟨a, hext c a g1, Or.inl ⟨g2, g3.kept (hq a g3.lt) (fun i => by rw [gI_sN, if_neg hcc]) fun i => ?_⟩⟩
        rw [gP_sN, if_neg hcc]
        exact mj_c_ext (mj_okR h fun q hq2 => h.2.2.1 c i q (by rw [hcs]; exact fun z => by cases z) hq2) hext
  · unfold mj_up at hc hc'
    by_cases e : c = c0 <;> by_cases e' : c' = c0
    · rw [e, e']
    · rw [if_pos e] at hc; rw [if_neg e'] at hc'
      cases hc
      exact absurd (hlt c' _ hc') (Nat.lt_irrefl _)
    · rw [if_neg e] at hc; rw [if_pos e'] at hc'
      cases hc'
      exact absurd (hlt c _ hc) (Nat.lt_irrefl _)
    · rw [if_neg e] at hc; rw [if_neg e'] at hc'
      exact h.2.1 c c' a hc hc'
  · rw [gS_sN] at hc ⊢
    rw [gP_sN] at hp
    by_cases e : c = c0
    · rw [if_pos e] at hp; cases hp
    · rw [if_neg e] at hp hc
      by_cases e' : q = c0
      · rw [if_pos e']; exact fun z => by cases z
      · rw [if_neg e']; exact h.2.2.1 c i q hc hp
  · rw [gI_sN]
    by_cases e : c = c0
    · rw [if_pos e]; exact r32_0
    · rw [if_neg e]; exact h.2.2.2 c i
end MJA
