section MJN
theorem mj_div {x y : Int} (hx : r32 x) (hy : r32 y) : Int32.ofInt (x.tdiv y) = Int32.ofInt x / Int32.ofInt y := Int32.ofInt_tdiv hx.1 (by have := hx.2; show x ≤ 2147483647; omega) hy.1 (by have := hy.2; show y ≤ 2147483647; omega)
theorem mj_rem {x y : Int} (hx : r32 x) (hy : r32 y) : Int32.ofInt x - Int32.ofInt x / Int32.ofInt y * Int32.ofInt y = Int32.ofInt (x.tmod y) := by
  rw [← mj_div hx hy, ← Int32.ofInt_mul, ← Int32.ofInt_sub]
  congr 1
  have := Int.tmod_def x y
  rw [Int.mul_comm] at this
  omega
theorem mj_i2l {x : Int} (hx : r32 x) : (Int32.ofInt x).toInt64 = Int64.ofInt x := Int32.toInt64_ofInt hx.1 (by have := hx.2; show x ≤ 2147483647; omega)
theorem mj_shl1_aux : ∀ n, n < 31 → (Int32.ofInt 1 <<< (Int32.ofInt (n : Nat) &&& 31)) = Int32.ofInt (2 ^ n) := by decide +kernel
theorem mj_shl1 {y : Int} (h0 : 0 ≤ y) (h1 : y < 31) : (Int32.ofInt 1 <<< (Int32.ofInt y &&& 31)) = Int32.ofInt (2 ^ y.toNat) := by
  obtain ⟨n, rfl⟩ : ∃ n : Nat, y = (n : Int) := ⟨y.toNat, by omega⟩
  exact mj_shl1_aux n (by omega)
theorem mj_shr_aux : ∀ n, n < 31 → ((Int32.ofInt (n : Nat) &&& 31).toBitVec.smod 32).toNat = n := by decide +kernel
theorem mj_shr {x y : Int} (hx : r32 x) (h0 : 0 ≤ y) (h1 : y < 31) : (Int32.ofInt x >>> (Int32.ofInt y &&& 31)) = Int32.ofInt (x / 2 ^ y.toNat) := by
  obtain ⟨n, rfl⟩ : ∃ n : Nat, y = (n : Int) := ⟨y.toNat, by omega⟩
  have h := pk_shr (Int32.ofInt x) (Int32.ofInt (n : Nat) &&& 31) n (mj_shr_aux n (by omega))
  rw [r32_toInt hx] at h
  rw [← Int32.toInt_inj, h, Int.shiftRight_eq_div_pow]
  have hb : r32 (x / ((2 ^ n : Nat) : Int)) := by
    have hp : (0 : Int) < ((2 ^ n : Nat) : Int) := by exact_mod_cast Nat.two_pow_pos n
    refine ⟨?_, ?_⟩
    · have h1 : (-2147483648 : Int) ≤ x := hx.1
      exact Int.le_ediv_of_mul_le hp (by
        have : ((2 ^ n : Nat) : Int) ≥ 1 := by omega
        have h2 : (-2147483648 : Int) * ((2 ^ n : Nat) : Int) ≤ (-2147483648) * 1 := Int.mul_le_mul_of_nonpos_left (by decide) this
        omega)
    · exact Int.ediv_lt_of_lt_mul hp (by
        have : ((2 ^ n : Nat) : Int) ≥ 1 := by omega
        have h2 : (2147483648 : Int) * 1 ≤ 2147483648 * ((2 ^ n : Nat) : Int) := Int.mul_le_mul_of_nonneg_left this (by decide)
        have := hx.2
        omega)
  have e : ((n : Nat) : Int).toNat = n := by omega
  rw [e]
  have e2 : (2 ^ n : Int) = ((2 ^ n : Nat) : Int) := by simp
  rw [e2, r32_toInt hb]
theorem mj_or {x y : Int} (hx : 0 ≤ x) (hy : 0 ≤ y) : Int32.ofInt x ||| Int32.ofInt y = Int32.ofInt ((x.toNat ||| y.toNat : Nat) : Int) := by
  obtain ⟨a, rfl⟩ : ∃ n : Nat, x = (n : Int) := ⟨x.toNat, by omega⟩
  obtain ⟨b, rfl⟩ : ∃ n : Nat, y = (n : Int) := ⟨y.toNat, by omega⟩
  rw [Int32.ofInt_eq_ofNat, Int32.ofInt_eq_ofNat, Int32.ofInt_eq_ofNat]
  simp only [Int.toNat_natCast]
  apply Int32.toBitVec.inj
  simp [BitVec.ofNat_or]
theorem mj_bv {x : Int} (a : Nat) (h : (x % 4294967296).toNat = a) : Int32.ofInt x = Int32.ofNat a := by
  subst h
  apply Int32.toBitVec.inj
  apply BitVec.eq_of_toNat_eq
  have : (x % 4294967296).toNat < 4294967296 := by
    have := Int.emod_lt_of_pos x (show (0 : Int) < 4294967296 by decide)
    have := Int.emod_nonneg x (show (4294967296 : Int) ≠ 0 by decide)
    omega
  simp [BitVec.toNat_ofInt]
  omega
theorem mj_andm {x : Int} (k : Nat) (hk : k ≤ 30) : Int32.ofInt x &&& Int32.ofNat (2 ^ k - 1) = Int32.ofInt (x % 2 ^ k) := by
  rw [mj_bv (x := x) _ rfl]
  have h0 : 0 ≤ x % 2 ^ k := Int.emod_nonneg _ (by have := Int.pow_pos (n := 2) (m := k) (by decide); omega)
  obtain ⟨b, hb⟩ : ∃ n : Nat, x % 2 ^ k = (n : Int) := ⟨(x % 2 ^ k).toNat, by omega⟩
  rw [hb, Int32.ofInt_eq_ofNat]
  apply Int32.toBitVec.inj
  apply BitVec.eq_of_toNat_eq
  have hm : (x % 4294967296).toNat % 2 ^ k = b := by
    have hd : ((2 ^ k : Nat) : Int) ∣ 4294967296 := by
      refine ⟨((2 ^ (32 - k) : Nat) : Int), ?_⟩
      have h3 : 2 ^ k * 2 ^ (32 - k) = 4294967296 := by rw [← Nat.pow_add, show k + (32 - k) = 32 by omega]
      rw [← Int.natCast_mul, h3]; rfl
    have h1 : (x % 4294967296) % ((2 ^ k : Nat) : Int) = x % ((2 ^ k : Nat) : Int) := Int.emod_emod_of_dvd x hd
    have e2 : (2 ^ k : Int) = ((2 ^ k : Nat) : Int) := by simp
    rw [e2] at hb
    rw [hb] at h1
    have h2 : 0 ≤ x % 4294967296 := Int.emod_nonneg _ (by decide)
    obtain ⟨d, hd2⟩ : ∃ n : Nat, x % 4294967296 = (n : Int) := ⟨(x % 4294967296).toNat, by omega⟩
    rw [hd2] at h1 ⊢
    rw [Int.toNat_natCast]
    exact_mod_cast h1
  have hlt : (x % 4294967296).toNat < 4294967296 := by
    have := Int.emod_lt_of_pos x (show (0 : Int) < 4294967296 by decide)
    have := Int.emod_nonneg x (show (4294967296 : Int) ≠ 0 by decide)
    omega
  have hp : 2 ^ k ≤ 2 ^ 30 := Nat.pow_le_pow_right (by decide) hk
  have hp0 : 0 < 2 ^ k := Nat.two_pow_pos k
  have hbl : b < 2 ^ k := by rw [← hm]; exact Nat.mod_lt _ hp0
  simp only [Int32.toBitVec_and, Int32.toBitVec_ofNat', BitVec.toNat_and, BitVec.toNat_ofNat]
  rw [Nat.mod_eq_of_lt (a := (x % 4294967296).toNat) (by omega), Nat.mod_eq_of_lt (a := 2 ^ k - 1) (by omega), Nat.mod_eq_of_lt (a := b) (by omega), Nat.and_two_pow_sub_one_eq_mod, hm]
theorem mj_and1 {x : Int} : Int32.ofInt x &&& Int32.ofInt 1 = Int32.ofInt (x % 2) := mj_andm (x := x) 1 (by decide)
theorem mj_and63 {x : Int} : Int32.ofInt x &&& Int32.ofInt 63 = Int32.ofInt (x % 64) := mj_andm (x := x) 6 (by decide)
theorem mj_andB {x y : Int} (hx : x = 0 ∨ x = 1) (hy : y = 0 ∨ y = 1) : Int32.ofInt x &&& Int32.ofInt y = Int32.ofInt (if x = 1 ∧ y = 1 then 1 else 0) := by
  rcases hx with rfl | rfl <;> rcases hy with rfl | rfl <;> decide
theorem mj_orB {x y : Int} (hx : x = 0 ∨ x = 1) (hy : y = 0 ∨ y = 1) : Int32.ofInt x ||| Int32.ofInt y = Int32.ofInt (if x = 1 ∨ y = 1 then 1 else 0) := by
  rcases hx with rfl | rfl <;> rcases hy with rfl | rfl <;> decide
theorem mj_lcmp {x y : Int} (hx : r32 x) (hy : r32 y) : lg_cmp (Int64.ofInt x) (Int64.ofInt y) = Int32.ofInt (if y < x then 1 else if x = y then 0 else -1) := by
  have ex : (Int64.ofInt x).toInt = x := Int64.toInt_ofInt_of_le (by have := hx.1; omega) (by have := hx.2; omega)
  have ey : (Int64.ofInt y).toInt = y := Int64.toInt_ofInt_of_le (by have := hy.1; omega) (by have := hy.2; omega)
  unfold lg_cmp
  simp only [gt_iff_lt, Int64.lt_iff_toInt_lt, ← Int64.toInt_inj, ex, ey]
  by_cases h1 : y < x
  · simp [h1]
  · by_cases h2 : x = y
    · simp [h2]
    · simp [h1, h2]
end MJN
/-- the texts of the exceptions: class, entry, text -/
def mj_str : List (String × Nat × String) := [("CelHouse", 337, "there are 16 drawings"), ("CelHouse", 339, "no such drawing"), ("CelHouse", 81, "n is 0 to d, d is 1 to 24"), ("CelHouse", 347, "no such point"), ("CelHouse", 349, "no such colour name"), ("CelHouse", 351, "a name is 0 to 7"), ("CelHouse", 341, "an in-between, or approved"), ("CelHouse", 136, "it has 6 paints"), ("CelHouse", 153, "it is so already"), ("CelHouse", 353, "no such palette"), ("CelHouse", 162, "a colour is 1 to 99"), ("CelHouse", 164, "a scene has 1 to 24 frames"), ("CelHouse", 169, "there are 6 scenes"), ("CelHouse", 355, "no such scene"), ("CelHouse", 357, "no such level"), ("CelHouse", 359, "no such frame"), ("CelHouse", 182, "no drawing, blank, hold or cycle"), ("CelHouse", 361, "no such sound"), ("CelHouse", 363, "no such peg"), ("CelHouse", 209, "there are 6 pegs"), ("CelHouse", 214, "a frame is 0 to 23"), ("CelHouse", 216, "x and y are -20 to 20"), ("CelHouse", 224, "6 others were told"), ("CelHouse", 230, "a depth is 1 to 4"), ("CelHouse", 252, "a speed is 1 to 9"), ("CelHouse", 257, "there are 4 hands"), ("CelHouse", 262, "the film has 10 scenes"), ("CelHouse", 281, "what is 0 to 5"), ("CelHouse", 321, "no such hand"), ("CelHouse", 335, "no such frame of the film")]
/-- exceptions that are none of the others -/
def mj_nc : List (String × String) := [("java/lang/IndexOutOfBoundsException", "java/lang/IllegalArgumentException"), ("java/lang/IndexOutOfBoundsException", "java/lang/IllegalStateException"), ("java/lang/IllegalArgumentException", "java/lang/IndexOutOfBoundsException"), ("java/lang/IllegalArgumentException", "java/lang/IllegalStateException"), ("java/lang/IllegalStateException", "java/lang/IndexOutOfBoundsException"), ("java/lang/IllegalStateException", "java/lang/IllegalArgumentException")]
def mj_on (t : Nat) : String := if t = 3 then "CelHouse$Drawing" else if t = 4 then "CelHouse$Peg" else if t = 5 then "CelHouse$Scene" else "CelHouse$Stroke"
/-! THE SMALL MACHINE, 2: what a frame knows, mj_X, and a rule for each instruction that leaves the heap alone -/
section MJB
/-- the locals, those that are known -/
def mj_l (ρ : mj_P) : Nat → List (Option mj_V) → List (Nat × Value)
  | _, [] => []
  | i, none :: t => mj_l ρ (i + 1) t
  | i, some v :: t => (i, mj_c ρ v) :: mj_l ρ (i + 1) t
theorem mj_l_mem {ρ : mj_P} {j : Nat} {w : Value} : ∀ (L : List (Option mj_V)) (i : Nat), (j, w) ∈ mj_l ρ i L ↔ ∃ (k : Nat) (v : mj_V), L[k]? = some (some v) ∧ j = i + k ∧ w = mj_c ρ v
  | [], i => by simp [mj_l]
  | none :: t, i => by
    rw [mj_l, mj_l_mem t (i + 1)]
    constructor
    · rintro ⟨k, v, h1, h2, h3⟩
      exact ⟨k + 1, v, by simpa using h1, by omega, h3⟩
    · rintro ⟨k, v, h1, h2, h3⟩
      cases k with
      | zero => simp at h1
      | succ k => exact ⟨k, v, by simpa using h1, by omega, h3⟩
  | some u :: t, i => by
    rw [mj_l, List.mem_cons, mj_l_mem t (i + 1)]
    constructor
    · rintro (h | ⟨k, v, h1, h2, h3⟩)
      · cases h
        exact ⟨0, u, by simp, by omega, rfl⟩
      · exact ⟨k + 1, v, by simpa using h1, by omega, h3⟩
    · rintro ⟨k, v, h1, h2, h3⟩
      cases k with
      | zero =>
        simp at h1
        subst h1
        exact Or.inl (by rw [h2, h3]; rfl)
      | succ k => exact Or.inr ⟨k, v, by simpa using h1, by omega, h3⟩
def mj_L (ρ : mj_P) (nL : Nat) (L : List (Option mj_V)) (ls : Array Slot) : Prop := lv_has ls nL (mj_l ρ 0 L) ∧ L.length = nL ∧ ∀ (k : Nat) (v : mj_V), L[k]? = some (some v) → mj_ok ρ v ∧ ∀ z, v ≠ mZ z
theorem mj_cat {ρ : mj_P} {v : mj_V} (h : ∀ z, v ≠ mZ z) : (mj_c ρ v).category = 1 := by
  rcases v with x | r | x
  · rfl
  · cases r <;> rfl
  · exact absurd rfl (h x)
theorem mj_L.at {ρ : mj_P} {nL : Nat} {L : List (Option mj_V)} {ls : Array Slot} (h : mj_L ρ nL L ls) {i : Nat} {v : mj_V} (hi : L[i]? = some (some v)) : ls[i]? = some (.val (mj_c ρ v)) :=
  h.1.2.2 (i, mj_c ρ v) ((mj_l_mem L 0).mpr ⟨i, v, hi, by omega, rfl⟩)
theorem mj_L.set {ρ : mj_P} {nL : Nat} {L : List (Option mj_V)} {ls ls' : Array Slot} (h : mj_L ρ nL L ls) {i : Nat} {v : mj_V} (hv : mj_ok ρ v) (hz : ∀ z, v ≠ mZ z) (h' : lv_has ls' nL ((i, mj_c ρ v) :: (mj_l ρ 0 L).filter (fun q => !(q.1 == i) && !(q.1 + 1 == i && q.2.category == 2)))) : mj_L ρ nL (L.set i (some v)) ls' := by
  have key : ∀ (k : Nat) (u : mj_V), (L.set i (some v))[k]? = some (some u) → (k = i ∧ u = v) ∨ (k ≠ i ∧ L[k]? = some (some u)) := by
    intro k u hk
    rw [List.getElem?_set] at hk
    by_cases e : i = k
    · rw [if_pos e] at hk
      by_cases e2 : i < L.length
      · simp only [e2, if_true] at hk
        exact Or.inl ⟨e.symm, (Option.some.inj (Option.some.inj hk)).symm⟩
      · simp [e2] at hk
    · rw [if_neg e] at hk
      exact Or.inr ⟨fun z => e z.symm, hk⟩
  refine ⟨⟨h'.1, h'.2.1, fun q hq => ?_⟩, by rw [List.length_set]; exact h.2.1, fun k u hk => ?_⟩
  · obtain ⟨k, u, h1, h2, h3⟩ := (mj_l_mem _ 0).mp (show (q.1, q.2) ∈ _ from hq)
    have hk0 : q.1 = k := by omega
    rcases key k u h1 with ⟨e1, e2⟩ | ⟨e1, e2⟩
    · subst e2
      rw [hk0, h3, e1]
      exact h'.2.2 (i, mj_c ρ u) List.mem_cons_self
    · rw [hk0, h3]
      refine h'.2.2 (k, mj_c ρ u) (List.mem_cons_of_mem _ (List.mem_filter.mpr ⟨(mj_l_mem L 0).mpr ⟨k, u, e2, by omega, rfl⟩, ?_⟩))
      have hc := mj_cat (ρ := ρ) (h.2.2 k u e2).2
      simp [e1, hc]
  · rcases key k u hk with ⟨-, e2⟩ | ⟨-, e2⟩
    · subst e2; exact ⟨hv, hz⟩
    · exact h.2.2 k u e2
theorem mj_L.ext {ρ ρ' : mj_P} {nL : Nat} {L : List (Option mj_V)} {ls : Array Slot} (h : mj_L ρ nL L ls) (he : mj_ext ρ ρ') : mj_L ρ' nL L ls := by
  refine ⟨⟨h.1.1, h.1.2.1, fun q hq => ?_⟩, h.2.1, fun k u hk => ⟨(h.2.2 k u hk).1.ext he, (h.2.2 k u hk).2⟩⟩
  obtain ⟨k, u, h1, h2, h3⟩ := (mj_l_mem _ 0).mp (show (q.1, q.2) ∈ _ from hq)
  have hk0 : q.1 = k := by omega
  rw [hk0, h3, mj_c_ext (h.2.2 k u h1).1 he]
  exact h.at h1
/-- less is known -/
theorem mj_L.drop {ρ : mj_P} {nL : Nat} {L L' : List (Option mj_V)} {ls : Array Slot} (h : mj_L ρ nL L ls) (hl : L'.length = L.length) (hd : ∀ (k : Nat) (v : mj_V), L'[k]? = some (some v) → L[k]? = some (some v)) : mj_L ρ nL L' ls := by
  refine ⟨⟨h.1.1, h.1.2.1, fun q hq => ?_⟩, hl.trans h.2.1, fun k u hk => h.2.2 k u (hd k u hk)⟩
  obtain ⟨k, u, h1, h2, h3⟩ := (mj_l_mem _ 0).mp (show (q.1, q.2) ∈ _ from hq)
  have hk0 : q.1 = k := by omega
  rw [hk0, h3]
  exact h.at (hd k u h1)
/-- a method: own class, name, descriptor; code, locals, what it returns, its room, its handlers -/
abbrev mj_I : Type := (String × String × String) × ByteArray × Nat × Option FieldType × Room × List (Nat × Nat × Nat × Nat)
abbrev mi_own (M : mj_I) : String := M.1.1
abbrev mi_name (M : mj_I) : String := M.1.2.1
abbrev mi_desc (M : mj_I) : String := M.1.2.2
abbrev mi_y (M : mj_I) : MethodName := ⟨M.1.1, M.1.2.1, M.1.2.2⟩
abbrev mi_code (M : mj_I) : ByteArray := M.2.1
abbrev mi_ml (M : mj_I) : Nat := M.2.2.1
abbrev mi_ret (M : mj_I) : Option FieldType := M.2.2.2.1
abbrev mi_rm (M : mj_I) : Room := M.2.2.2.2.1
abbrev mi_hh (M : mj_I) : List (Nat × Nat × Nat × Nat) := M.2.2.2.2.2
/-- words that are no good words, but stay true all the same -/
def mj_xw (w : Cond) : Bool := match w with
  | .castable _ _ => true
  | .declares _ => true
  | .methodLinkNest _ _ _ _ => true
  | _ => false
/-- what every method's start knows: classes, arrays, statics, texts -/
def mj_B (G : mj_G) (U : State) : Prop :=
  va_K G.2.2.1 mj_cl [] U ∧ (∀ t, t < 7 → ArrOfT U (G.2.2.2 t) (mj_ty t) ∧ va_RA U (G.2.2.2 t) (mj_ty t)) ∧ vx_Zq Bundle.tN "UNASSIGNED_STACK" Bundle.steD (fun q => G.2.1 ≤ q) U U.heap ∧ vx_Zq Bundle.tN "SUPPRESSED_SENTINEL" Bundle.listD (fun q => G.2.1 ≤ q) U U.heap ∧
  (∀ q ∈ mj_str, ∃ sa, vk_R q.1 q.2.1 q.2.2 sa U) ∧ (∀ w ∈ lw_tbl, mj_xw w = true → va_Nw w U) ∧ (∀ q ∈ mj_nc, va_Nc q.1 q.2 U) ∧ ((∀ t, 3 ≤ t → t < 7 → va_AO (mj_on t) U) ∧ ArrOfT U (G.2.2.2 7) .int) ∧ G.2.1 ≤ U.heap.size ∧ G.1.stackTraces = false
theorem mj_B.moved {G : mj_G} {s U : State} {H : Heap} {locs : List Loc} (h : mj_B G s) (hW : s.WarmedH U.vm) (hU : U.heap = H) (hS : va_S (fun q => G.2.1 ≤ q) s.heap H locs) : mj_B G U := by
  obtain ⟨h1, h2, h3, h4, h5, h6, h7, h8, h9, h10⟩ := h
  refine ⟨va_K.moved hW.alike h1, fun t ht => ⟨arrOfT_moved hW.alike (h2 t ht).1, (h2 t ht).2.moved hW.alike⟩, ?_, ?_, fun q hq => ?_, fun w hw hx => ?_, fun q hq => va_Nc.moved hW.alike (h7 q hq), ⟨fun t h3 h7 => va_AO.moved hW.alike (h8.1 t h3 h7), arrOfT_moved hW.alike h8.2⟩, ?_, h10⟩
  · rw [hU]; exact vx_Zq.moved hW.alike (h3.kept hS.2.1)
  · rw [hU]; exact vx_Zq.moved hW.alike (h4.kept hS.2.1)
  · obtain ⟨sa, h⟩ := h5 q hq
    exact ⟨sa, vk_R.warm hW h⟩
  · have hz := h6 w hw hx
    cases w <;> first | exact va_Nw.warmC hW hz | exact va_Nw.warmD hW hz | exact va_Nw.warmM hW hz | exact absurd hx (by simp [mj_xw])
  · rw [hU]; exact Nat.le_trans h9 hS.1
theorem mj_B.same {G : mj_G} {s U : State} (h : mj_B G s) (hv : U.vm = s.vm) (hh : U.heap = s.heap) : mj_B G U := by
  refine h.moved (H := U.heap) (locs := []) (by rw [hv]; exact State.WarmedH.refl s) rfl ?_
  rw [hh]; exact va_S.rf
def mj_Fr (G : mj_G) (M : mj_I) (p : Program) (s : State) (m : MethodId) (args : Array Value) (meth : Method) (c : Code) : Prop :=
  p.tables.exec = Jvm.exec ∧ c.code = mi_code M ∧ c.maxLocals = mi_ml M ∧ s.vm.findClass (mi_own M) = some m.cls ∧ meth.sig.returnType = mi_ret M ∧ meth.locks = false ∧ meth.name = mi_name M ∧ c.exceptionTable.toList = tableOf (mi_hh M) ∧ (∀ w ∈ mj_TB, w.before args s = true) ∧ mj_B G s
/-- where the walk stands: kc cells and ks slots may still be made -/
def mj_St (G : mj_G) (M : mj_I) (ρ0 ρ : mj_P) (A : mj_M) (kc ks : Nat) (L : List (Option mj_V)) (st : List mj_V) (s : State) (H : Heap) (locs : List Loc) (ls : Array Slot) (cells slots : Nat) : Prop :=
  mj_ext ρ0 ρ ∧ cells + kc ≤ (mi_rm M).cells ∧ slots + ks ≤ (mi_rm M).slots ∧ mj_H G ρ A H ∧ va_S (fun q => G.2.1 ≤ q) s.heap H locs ∧ mj_L ρ (mi_ml M) L ls ∧ ∀ v ∈ st, mj_ok ρ v
abbrev mj_Q : Type := mj_P → Array Value → State → List Frame → State → Prop
def mj_X (G : mj_G) (M : mj_I) (Q : mj_Q) (A : mj_M) (kc ks : Nat) (pc : Nat) (L : List (Option mj_V)) (st : List mj_V) : Prop :=
  ∀ (p : Program) (e : Env) (s : State) (m : MethodId) (args : Array Value) (below : List Frame) (meth : Method) (c : Code) (H : Heap) (locs : List Loc) (ls : Array Slot) (ρ0 ρ : mj_P) (cells slots : Nat),
    mj_Fr G M p s m args meth c → mj_St G M ρ0 ρ A kc ks L st s H locs ls cells slots →
    W p G.1 e (mi_rm M) s m args below meth c H locs cells slots (Q ρ0 args s below) (F0 m pc ls (st.map (mj_c ρ)))
section R1
variable {G : mj_G} {M : mj_I} {Q : mj_Q} {A : mj_M} {kc ks pc : Nat} {L : List (Option mj_V)} {st : List mj_V}
theorem mj_St.to1 {ρ0 ρ : mj_P} {st st' : List mj_V} {s : State} {H : Heap} {locs : List Loc} {ls : Array Slot} {cells slots : Nat} (S : mj_St G M ρ0 ρ A kc ks L st s H locs ls cells slots) (h : (∀ v ∈ st, mj_ok ρ v) → ∀ v ∈ st', mj_ok ρ v) : mj_St G M ρ0 ρ A kc ks L st' s H locs ls cells slots :=
  ⟨S.1, S.2.1, S.2.2.1, S.2.2.2.1, S.2.2.2.2.1, S.2.2.2.2.2.1, h S.2.2.2.2.2.2⟩
theorem mj_St.to2 {ρ0 ρ : mj_P} {st st' : List mj_V} {L' : List (Option mj_V)} {s : State} {H : Heap} {locs : List Loc} {ls ls' : Array Slot} {cells slots : Nat} (S : mj_St G M ρ0 ρ A kc ks L st s H locs ls cells slots) (hL : mj_L ρ (mi_ml M) L' ls') (h : (∀ v ∈ st, mj_ok ρ v) → ∀ v ∈ st', mj_ok ρ v) : mj_St G M ρ0 ρ A kc ks L' st' s H locs ls' cells slots :=
  ⟨S.1, S.2.1, S.2.2.1, S.2.2.2.1, S.2.2.2.2.1, hL, h S.2.2.2.2.2.2⟩
/-- all numbers of the memory are ints -/
def mj_R (A : mj_M) : Prop := ∀ c i, r32 (gI A c i)
theorem mx_R (k : mj_R A → mj_X G M Q A kc ks pc L st) : mj_X G M Q A kc ks pc L st := fun p e s m args below meth c H locs ls ρ0 ρ cells slots F S => k S.2.2.2.1.2.2.2 p e s m args below meth c H locs ls ρ0 ρ cells slots F S
/-- what a reference holds is a cell -/
def mj_Cl (A : mj_M) : Prop := ∀ c i q, gS A c ≠ none → gP A c i = some q → gS A q ≠ none
theorem mx_Cl (k : mj_Cl A → mj_X G M Q A kc ks pc L st) : mj_X G M Q A kc ks pc L st := fun p e s m args below meth c H locs ls ρ0 ρ cells slots F S => k S.2.2.2.1.2.2.1 p e s m args below meth c H locs ls ρ0 ρ cells slots F S
/-- fewer cells may still be made -/
theorem mx_less {kc' ks' : Nat} (h1 : kc' ≤ kc) (h2 : ks' ≤ ks) (k : mj_X G M Q A kc' ks' pc L st) : mj_X G M Q A kc ks pc L st := fun p e s m args below meth c H locs ls ρ0 ρ cells slots F S =>
  k p e s m args below meth c H locs ls ρ0 ρ cells slots F ⟨S.1, Nat.le_trans (Nat.add_le_add_left h1 _) S.2.1, Nat.le_trans (Nat.add_le_add_left h2 _) S.2.2.1, S.2.2.2⟩
/-- less of the locals is known -/
theorem mx_drop {L' : List (Option mj_V)} (hl : L'.length = L.length) (hd : ∀ (k : Nat) (v : mj_V), L'[k]? = some (some v) → L[k]? = some (some v)) (k : mj_X G M Q A kc ks pc L' st) : mj_X G M Q A kc ks pc L st := fun p e s m args below meth c H locs ls ρ0 ρ cells slots F S =>
  k p e s m args below meth c H locs ls ρ0 ρ cells slots F (S.to2 (S.2.2.2.2.2.1.drop hl hd) id)
theorem mx_iconst {n : Int} (hd : decode (mi_code M) pc = .ok (.iconst n, 1)) (k : mj_X G M Q A kc ks (pc + 1) L (mI n :: st)) : mj_X G M Q A kc ks pc L (st) := by
  intro p e s m args below meth c H locs ls ρ0 ρ cells slots F S
  refine lv_iconst (v := Int32.ofInt n) F.1 F.2.1 hd rfl ?_
  exact k p e s m args below meth c H locs ls ρ0 ρ cells slots F (S.to1 (fun h => List.forall_mem_cons.mpr ⟨mj_okI _, h⟩))
theorem mx_bipush {n : Int} (hd : decode (mi_code M) pc = .ok (.bipush n, 2)) (hv : (Int8.ofInt n).toInt32 = Int32.ofInt n) (k : mj_X G M Q A kc ks (pc + 2) L (mI n :: st)) : mj_X G M Q A kc ks pc L (st) := by
  intro p e s m args below meth c H locs ls ρ0 ρ cells slots F S
  refine lv_bipush (v := Int32.ofInt n) F.1 F.2.1 hd hv ?_
  exact k p e s m args below meth c H locs ls ρ0 ρ cells slots F (S.to1 (fun h => List.forall_mem_cons.mpr ⟨mj_okI _, h⟩))
theorem mx_sipush {n : Int} (hd : decode (mi_code M) pc = .ok (.sipush n, 3)) (hv : (Int16.ofInt n).toInt32 = Int32.ofInt n) (k : mj_X G M Q A kc ks (pc + 3) L (mI n :: st)) : mj_X G M Q A kc ks pc L (st) := by
  intro p e s m args below meth c H locs ls ρ0 ρ cells slots F S
  refine lv_sipush (v := Int32.ofInt n) F.1 F.2.1 hd hv ?_
  exact k p e s m args below meth c H locs ls ρ0 ρ cells slots F (S.to1 (fun h => List.forall_mem_cons.mpr ⟨mj_okI _, h⟩))
theorem mx_lconst {n : Fin 2} {z : Int} (hd : decode (mi_code M) pc = .ok (.lconst n, 1)) (hv : Int64.ofNat (n : Nat) = Int64.ofInt z) (k : mj_X G M Q A kc ks (pc + 1) L (mZ z :: st)) : mj_X G M Q A kc ks pc L (st) := by
  intro p e s m args below meth c H locs ls ρ0 ρ cells slots F S
  refine lv_lconst (v := Int64.ofInt z) F.1 F.2.1 hd hv ?_
  exact k p e s m args below meth c H locs ls ρ0 ρ cells slots F (S.to1 (fun h => List.forall_mem_cons.mpr ⟨mj_okZ _, h⟩))
theorem mx_iload_n {k0 : Fin 4} (i : Nat) {x : Int} (hd : decode (mi_code M) pc = .ok (.iload_n k0, 1)) (hi : (k0 : Nat) = i) (hl : L[i]? = some (some (mI x))) (k : mj_X G M Q A kc ks (pc + 1) L (mI x :: st)) : mj_X G M Q A kc ks pc L (st) := by
  intro p e s m args below meth c H locs ls ρ0 ρ cells slots F S
  refine lv_iload_n F.1 F.2.1 hd hi (S.2.2.2.2.2.1.at hl) ?_
  exact k p e s m args below meth c H locs ls ρ0 ρ cells slots F (S.to1 (fun h => List.forall_mem_cons.mpr ⟨mj_okI _, h⟩))
theorem mx_iload (i : Nat) {x : Int} (hd : decode (mi_code M) pc = .ok (.iload i, 2)) (hl : L[i]? = some (some (mI x))) (k : mj_X G M Q A kc ks (pc + 2) L (mI x :: st)) : mj_X G M Q A kc ks pc L (st) := by
  intro p e s m args below meth c H locs ls ρ0 ρ cells slots F S
  refine lv_iload F.1 F.2.1 hd (S.2.2.2.2.2.1.at hl) ?_
  exact k p e s m args below meth c H locs ls ρ0 ρ cells slots F (S.to1 (fun h => List.forall_mem_cons.mpr ⟨mj_okI _, h⟩))
theorem mx_aload_n {k0 : Fin 4} (i : Nat) {r : Option Int} (hd : decode (mi_code M) pc = .ok (.aload_n k0, 1)) (hi : (k0 : Nat) = i) (hl : L[i]? = some (some (mR r))) (k : mj_X G M Q A kc ks (pc + 1) L (mR r :: st)) : mj_X G M Q A kc ks pc L st := by
  intro p e s m args below meth c H locs ls ρ0 ρ cells slots F S
  have h1 := S.2.2.2.2.2.1.at hl
  have h2 := k p e s m args below meth c H locs ls ρ0 ρ cells slots F (S.to1 (fun h => List.forall_mem_cons.mpr ⟨(S.2.2.2.2.2.1.2.2 i _ hl).1, h⟩))
  cases r with
  | none => exact lv_aload_nN F.1 F.2.1 hd hi h1 h2
  | some a => exact lv_aload_n F.1 F.2.1 hd hi h1 h2
theorem mx_aload (i : Nat) {r : Option Int} (hd : decode (mi_code M) pc = .ok (.aload i, 2)) (hl : L[i]? = some (some (mR r))) (k : mj_X G M Q A kc ks (pc + 2) L (mR r :: st)) : mj_X G M Q A kc ks pc L st := by
  intro p e s m args below meth c H locs ls ρ0 ρ cells slots F S
  have h1 := S.2.2.2.2.2.1.at hl
  have h2 := k p e s m args below meth c H locs ls ρ0 ρ cells slots F (S.to1 (fun h => List.forall_mem_cons.mpr ⟨(S.2.2.2.2.2.1.2.2 i _ hl).1, h⟩))
  cases r with
  | none => exact lv_aloadN F.1 F.2.1 hd h1 h2
  | some a => exact lv_aload F.1 F.2.1 hd h1 h2
theorem mx_iadd {x y : Int} (hd : decode (mi_code M) pc = .ok (.iadd, 1)) (k : mj_X G M Q A kc ks (pc + 1) L (mI (x + y) :: st)) : mj_X G M Q A kc ks pc L (mI y :: mI x :: st) := by
  intro p e s m args below meth c H locs ls ρ0 ρ cells slots F S
  refine lv_iadd F.1 F.2.1 hd ?_
  rw [← Int32.ofInt_add]
  exact k p e s m args below meth c H locs ls ρ0 ρ cells slots F (S.to1 (fun h => List.forall_mem_cons.mpr ⟨mj_okI _, (List.forall_mem_cons.mp (List.forall_mem_cons.mp h).2).2⟩))
theorem mx_isub {x y : Int} (hd : decode (mi_code M) pc = .ok (.isub, 1)) (k : mj_X G M Q A kc ks (pc + 1) L (mI (x - y) :: st)) : mj_X G M Q A kc ks pc L (mI y :: mI x :: st) := by
  intro p e s m args below meth c H locs ls ρ0 ρ cells slots F S
  refine lv_isub F.1 F.2.1 hd ?_
  rw [← Int32.ofInt_sub]
  exact k p e s m args below meth c H locs ls ρ0 ρ cells slots F (S.to1 (fun h => List.forall_mem_cons.mpr ⟨mj_okI _, (List.forall_mem_cons.mp (List.forall_mem_cons.mp h).2).2⟩))
theorem mx_imul {x y : Int} (hd : decode (mi_code M) pc = .ok (.imul, 1)) (k : mj_X G M Q A kc ks (pc + 1) L (mI (x * y) :: st)) : mj_X G M Q A kc ks pc L (mI y :: mI x :: st) := by
  intro p e s m args below meth c H locs ls ρ0 ρ cells slots F S
  refine lv_imul F.1 F.2.1 hd ?_
  rw [← Int32.ofInt_mul]
  exact k p e s m args below meth c H locs ls ρ0 ρ cells slots F (S.to1 (fun h => List.forall_mem_cons.mpr ⟨mj_okI _, (List.forall_mem_cons.mp (List.forall_mem_cons.mp h).2).2⟩))
theorem mx_ineg {x : Int} (hd : decode (mi_code M) pc = .ok (.ineg, 1)) (k : mj_X G M Q A kc ks (pc + 1) L (mI (-x) :: st)) : mj_X G M Q A kc ks pc L (mI x :: st) := by
  intro p e s m args below meth c H locs ls ρ0 ρ cells slots F S
  refine lv_ineg F.1 F.2.1 hd ?_
  rw [← Int32.ofInt_neg]
  exact k p e s m args below meth c H locs ls ρ0 ρ cells slots F (S.to1 (fun h => List.forall_mem_cons.mpr ⟨mj_okI _, (List.forall_mem_cons.mp h).2⟩))
theorem mx_idiv {x y : Int} (hd : decode (mi_code M) pc = .ok (.idiv, 1)) (hx : r32 x) (hy : r32 y) (h0 : ¬ y = 0) (k : mj_X G M Q A kc ks (pc + 1) L (mI (x.tdiv y) :: st)) : mj_X G M Q A kc ks pc L (mI y :: mI x :: st) := by
  intro p e s m args below meth c H locs ls ρ0 ρ cells slots F S
  refine lv_idiv F.1 F.2.1 hd (by rw [r32_eq0 hy]; exact h0) ?_
  rw [← mj_div hx hy]
  exact k p e s m args below meth c H locs ls ρ0 ρ cells slots F (S.to1 (fun h => List.forall_mem_cons.mpr ⟨mj_okI _, (List.forall_mem_cons.mp (List.forall_mem_cons.mp h).2).2⟩))
theorem mx_irem {x y : Int} (hd : decode (mi_code M) pc = .ok (.irem, 1)) (hx : r32 x) (hy : r32 y) (h0 : ¬ y = 0) (k : mj_X G M Q A kc ks (pc + 1) L (mI (x.tmod y) :: st)) : mj_X G M Q A kc ks pc L (mI y :: mI x :: st) := by
  intro p e s m args below meth c H locs ls ρ0 ρ cells slots F S
  refine lv_irem F.1 F.2.1 hd (by rw [r32_eq0 hy]; exact h0) ?_
  rw [mj_rem hx hy]
  exact k p e s m args below meth c H locs ls ρ0 ρ cells slots F (S.to1 (fun h => List.forall_mem_cons.mpr ⟨mj_okI _, (List.forall_mem_cons.mp (List.forall_mem_cons.mp h).2).2⟩))
theorem mx_i2l {x : Int} (hd : decode (mi_code M) pc = .ok (.i2l, 1)) (hx : r32 x) (k : mj_X G M Q A kc ks (pc + 1) L (mZ x :: st)) : mj_X G M Q A kc ks pc L (mI x :: st) := by
  intro p e s m args below meth c H locs ls ρ0 ρ cells slots F S
  refine lv_i2l (v := Int64.ofInt x) F.1 F.2.1 hd (mj_i2l hx) ?_
  exact k p e s m args below meth c H locs ls ρ0 ρ cells slots F (S.to1 (fun h => List.forall_mem_cons.mpr ⟨mj_okZ _, (List.forall_mem_cons.mp h).2⟩))
theorem mx_ishl1 {y : Int} (hd : decode (mi_code M) pc = .ok (.ishl, 1)) (h0 : 0 ≤ y) (h1 : y < 31) (k : mj_X G M Q A kc ks (pc + 1) L (mI (2 ^ y.toNat) :: st)) : mj_X G M Q A kc ks pc L (mI y :: mI 1 :: st) := by
  intro p e s m args below meth c H locs ls ρ0 ρ cells slots F S
  refine lv_ishl F.1 F.2.1 hd ?_
  rw [mj_shl1 h0 h1]
  exact k p e s m args below meth c H locs ls ρ0 ρ cells slots F (S.to1 (fun h => List.forall_mem_cons.mpr ⟨mj_okI _, (List.forall_mem_cons.mp (List.forall_mem_cons.mp h).2).2⟩))
theorem mx_ishr {x y : Int} (hd : decode (mi_code M) pc = .ok (.ishr, 1)) (hx : r32 x) (h0 : 0 ≤ y) (h1 : y < 31) (k : mj_X G M Q A kc ks (pc + 1) L (mI (x / 2 ^ y.toNat) :: st)) : mj_X G M Q A kc ks pc L (mI y :: mI x :: st) := by
  intro p e s m args below meth c H locs ls ρ0 ρ cells slots F S
  refine lv_ishr F.1 F.2.1 hd ?_
  rw [mj_shr hx h0 h1]
  exact k p e s m args below meth c H locs ls ρ0 ρ cells slots F (S.to1 (fun h => List.forall_mem_cons.mpr ⟨mj_okI _, (List.forall_mem_cons.mp (List.forall_mem_cons.mp h).2).2⟩))
theorem mx_ior {x y : Int} (hd : decode (mi_code M) pc = .ok (.ior, 1)) (hx : 0 ≤ x ∧ x < 2147483648) (hy : 0 ≤ y ∧ y < 2147483648) (k : mj_X G M Q A kc ks (pc + 1) L (mI ((x.toNat ||| y.toNat : Nat) : Int) :: st)) : mj_X G M Q A kc ks pc L (mI y :: mI x :: st) := by
  intro p e s m args below meth c H locs ls ρ0 ρ cells slots F S
  refine lv_ior F.1 F.2.1 hd ?_
  rw [mj_or hx.1 hy.1]
  exact k p e s m args below meth c H locs ls ρ0 ρ cells slots F (S.to1 (fun h => List.forall_mem_cons.mpr ⟨mj_okI _, (List.forall_mem_cons.mp (List.forall_mem_cons.mp h).2).2⟩))
theorem mx_iand1 {x : Int} (hd : decode (mi_code M) pc = .ok (.iand, 1)) (k : mj_X G M Q A kc ks (pc + 1) L (mI (x % 2) :: st)) : mj_X G M Q A kc ks pc L (mI 1 :: mI x :: st) := by
  intro p e s m args below meth c H locs ls ρ0 ρ cells slots F S
  refine lv_iand F.1 F.2.1 hd ?_
  rw [mj_and1]
  exact k p e s m args below meth c H locs ls ρ0 ρ cells slots F (S.to1 (fun h => List.forall_mem_cons.mpr ⟨mj_okI _, (List.forall_mem_cons.mp (List.forall_mem_cons.mp h).2).2⟩))
theorem mx_iand63 {x : Int} (hd : decode (mi_code M) pc = .ok (.iand, 1)) (k : mj_X G M Q A kc ks (pc + 1) L (mI (x % 64) :: st)) : mj_X G M Q A kc ks pc L (mI 63 :: mI x :: st) := by
  intro p e s m args below meth c H locs ls ρ0 ρ cells slots F S
  refine lv_iand F.1 F.2.1 hd ?_
  rw [mj_and63]
  exact k p e s m args below meth c H locs ls ρ0 ρ cells slots F (S.to1 (fun h => List.forall_mem_cons.mpr ⟨mj_okI _, (List.forall_mem_cons.mp (List.forall_mem_cons.mp h).2).2⟩))
theorem mx_iandB {x y : Int} (hd : decode (mi_code M) pc = .ok (.iand, 1)) (hx : x = 0 ∨ x = 1) (hy : y = 0 ∨ y = 1) (k : mj_X G M Q A kc ks (pc + 1) L (mI (if x = 1 ∧ y = 1 then 1 else 0) :: st)) : mj_X G M Q A kc ks pc L (mI y :: mI x :: st) := by
  intro p e s m args below meth c H locs ls ρ0 ρ cells slots F S
  refine lv_iand F.1 F.2.1 hd ?_
  rw [mj_andB hx hy]
  exact k p e s m args below meth c H locs ls ρ0 ρ cells slots F (S.to1 (fun h => List.forall_mem_cons.mpr ⟨mj_okI _, (List.forall_mem_cons.mp (List.forall_mem_cons.mp h).2).2⟩))
theorem mx_iorB {x y : Int} (hd : decode (mi_code M) pc = .ok (.ior, 1)) (hx : x = 0 ∨ x = 1) (hy : y = 0 ∨ y = 1) (k : mj_X G M Q A kc ks (pc + 1) L (mI (if x = 1 ∨ y = 1 then 1 else 0) :: st)) : mj_X G M Q A kc ks pc L (mI y :: mI x :: st) := by
  intro p e s m args below meth c H locs ls ρ0 ρ cells slots F S
  refine lv_ior F.1 F.2.1 hd ?_
  rw [mj_orB hx hy]
  exact k p e s m args below meth c H locs ls ρ0 ρ cells slots F (S.to1 (fun h => List.forall_mem_cons.mpr ⟨mj_okI _, (List.forall_mem_cons.mp (List.forall_mem_cons.mp h).2).2⟩))
theorem mx_lcmp {x y : Int} (hd : decode (mi_code M) pc = .ok (.lcmp, 1)) (hx : r32 x) (hy : r32 y) (k : mj_X G M Q A kc ks (pc + 1) L (mI (if y < x then 1 else if x = y then 0 else -1) :: st)) : mj_X G M Q A kc ks pc L (mZ y :: mZ x :: st) := by
  intro p e s m args below meth c H locs ls ρ0 ρ cells slots F S
  refine W.lcmp F.1 F.2.1 hd ?_
  rw [mj_lcmp hx hy]
  exact k p e s m args below meth c H locs ls ρ0 ρ cells slots F (S.to1 (fun h => List.forall_mem_cons.mpr ⟨mj_okI _, (List.forall_mem_cons.mp (List.forall_mem_cons.mp h).2).2⟩))
theorem mx_null (hd : decode (mi_code M) pc = .ok (.aconst_null, 1)) (k : mj_X G M Q A kc ks (pc + 1) L (mR none :: st)) : mj_X G M Q A kc ks pc L (st) := by
  intro p e s m args below meth c H locs ls ρ0 ρ cells slots F S
  refine lv_null F.1 F.2.1 hd ?_
  exact k p e s m args below meth c H locs ls ρ0 ρ cells slots F (S.to1 (fun h => List.forall_mem_cons.mpr ⟨mj_okN, h⟩))
theorem mx_dup {v : mj_V} (hd : decode (mi_code M) pc = .ok (.dup, 1)) (hv : ∀ z, v ≠ mZ z) (k : mj_X G M Q A kc ks (pc + 1) L (v :: v :: st)) : mj_X G M Q A kc ks pc L (v :: st) := by
  intro p e s m args below meth c H locs ls ρ0 ρ cells slots F S
  exact lv_dup F.1 F.2.1 hd (mj_cat hv) (k p e s m args below meth c H locs ls ρ0 ρ cells slots F (S.to1 (fun h => List.forall_mem_cons.mpr ⟨(List.forall_mem_cons.mp h).1, h⟩)))
theorem mx_dup2 {v w : mj_V} (hd : decode (mi_code M) pc = .ok (.dup2, 1)) (hv : ∀ z, v ≠ mZ z) (hw : ∀ z, w ≠ mZ z) (k : mj_X G M Q A kc ks (pc + 1) L (v :: w :: v :: w :: st)) : mj_X G M Q A kc ks pc L (v :: w :: st) := by
  intro p e s m args below meth c H locs ls ρ0 ρ cells slots F S
  exact lv_dup2_11 F.1 F.2.1 hd (mj_cat hv) (mj_cat hw) (k p e s m args below meth c H locs ls ρ0 ρ cells slots F (S.to1 (fun h => List.forall_mem_cons.mpr ⟨(List.forall_mem_cons.mp h).1, List.forall_mem_cons.mpr ⟨(List.forall_mem_cons.mp (List.forall_mem_cons.mp h).2).1, h⟩⟩)))
theorem mx_dup_x1 {v w : mj_V} (hd : decode (mi_code M) pc = .ok (.dup_x1, 1)) (hv : ∀ z, v ≠ mZ z) (hw : ∀ z, w ≠ mZ z) (k : mj_X G M Q A kc ks (pc + 1) L (v :: w :: v :: st)) : mj_X G M Q A kc ks pc L (v :: w :: st) := by
  intro p e s m args below meth c H locs ls ρ0 ρ cells slots F S
  exact lv_dup_x1 F.1 F.2.1 hd (mj_cat hv) (mj_cat hw) (k p e s m args below meth c H locs ls ρ0 ρ cells slots F (S.to1 (fun h => List.forall_mem_cons.mpr ⟨(List.forall_mem_cons.mp h).1, List.forall_mem_cons.mpr ⟨(List.forall_mem_cons.mp (List.forall_mem_cons.mp h).2).1, List.forall_mem_cons.mpr ⟨(List.forall_mem_cons.mp h).1, (List.forall_mem_cons.mp (List.forall_mem_cons.mp h).2).2⟩⟩⟩)))
theorem mx_istore_n {k0 : Fin 4} (i : Nat) {x : Int} (hd : decode (mi_code M) pc = .ok (.istore_n k0, 1)) (hi : (k0 : Nat) = i) (hn : i < mi_ml M) (k : mj_X G M Q A kc ks (pc + 1) (L.set i (some (mI x))) st) : mj_X G M Q A kc ks pc L (mI x :: st) := by
  intro p e s m args below meth c H locs ls ρ0 ρ cells slots F S
  refine lv_istore_n F.1 F.2.1 hd hi S.2.2.2.2.2.1.1 hn rfl fun ls' h' => ?_
  exact k p e s m args below meth c H locs ls' ρ0 ρ cells slots F (S.to2 (S.2.2.2.2.2.1.set (mj_okI x) (fun z h => by cases h) h') (fun h => (List.forall_mem_cons.mp h).2))
theorem mx_istore (i : Nat) {x : Int} (hd : decode (mi_code M) pc = .ok (.istore i, 2)) (hn : i < mi_ml M) (k : mj_X G M Q A kc ks (pc + 2) (L.set i (some (mI x))) st) : mj_X G M Q A kc ks pc L (mI x :: st) := by
  intro p e s m args below meth c H locs ls ρ0 ρ cells slots F S
  refine lv_istore F.1 F.2.1 hd S.2.2.2.2.2.1.1 hn rfl fun ls' h' => ?_
  exact k p e s m args below meth c H locs ls' ρ0 ρ cells slots F (S.to2 (S.2.2.2.2.2.1.set (mj_okI x) (fun z h => by cases h) h') (fun h => (List.forall_mem_cons.mp h).2))
theorem mx_astore_n {k0 : Fin 4} (i : Nat) {r : Option Int} (hd : decode (mi_code M) pc = .ok (.astore_n k0, 1)) (hi : (k0 : Nat) = i) (hn : i < mi_ml M) (k : mj_X G M Q A kc ks (pc + 1) (L.set i (some (mR r))) st) : mj_X G M Q A kc ks pc L (mR r :: st) := by
  intro p e s m args below meth c H locs ls ρ0 ρ cells slots F S
  have hr := (List.forall_mem_cons.mp S.2.2.2.2.2.2).1
  have kk : ∀ ls' : Array Slot, lv_has ls' (mi_ml M) ((i, mj_c ρ (mR r)) :: (mj_l ρ 0 L).filter (fun q => !(q.1 == i) && !(q.1 + 1 == i && q.2.category == 2))) → W p G.1 e (mi_rm M) s m args below meth c H locs cells slots (Q ρ0 args s below) (F0 m (pc + 1) ls' (st.map (mj_c ρ))) := fun ls' h' => k p e s m args below meth c H locs ls' ρ0 ρ cells slots F (S.to2 (S.2.2.2.2.2.1.set hr (fun z h => by cases h) h') (fun h => (List.forall_mem_cons.mp h).2))
  cases r with
  | none => exact lv_astore_nN F.1 F.2.1 hd hi S.2.2.2.2.2.1.1 hn rfl kk
  | some a => exact lv_astore_n F.1 F.2.1 hd hi S.2.2.2.2.2.1.1 hn rfl kk
theorem mx_astore (i : Nat) {r : Option Int} (hd : decode (mi_code M) pc = .ok (.astore i, 2)) (hn : i < mi_ml M) (k : mj_X G M Q A kc ks (pc + 2) (L.set i (some (mR r))) st) : mj_X G M Q A kc ks pc L (mR r :: st) := by
  intro p e s m args below meth c H locs ls ρ0 ρ cells slots F S
  have hr := (List.forall_mem_cons.mp S.2.2.2.2.2.2).1
  have kk : ∀ ls' : Array Slot, lv_has ls' (mi_ml M) ((i, mj_c ρ (mR r)) :: (mj_l ρ 0 L).filter (fun q => !(q.1 == i) && !(q.1 + 1 == i && q.2.category == 2))) → W p G.1 e (mi_rm M) s m args below meth c H locs cells slots (Q ρ0 args s below) (F0 m (pc + 2) ls' (st.map (mj_c ρ))) := fun ls' h' => k p e s m args below meth c H locs ls' ρ0 ρ cells slots F (S.to2 (S.2.2.2.2.2.1.set hr (fun z h => by cases h) h') (fun h => (List.forall_mem_cons.mp h).2))
  cases r with
  | none => exact lv_astoreN F.1 F.2.1 hd S.2.2.2.2.2.1.1 hn rfl kk
  | some a => exact lv_astore F.1 F.2.1 hd S.2.2.2.2.2.1.1 hn rfl kk
theorem mx_iinc (i : Nat) {n x : Int} (hd : decode (mi_code M) pc = .ok (.iinc i n, 3)) (hl : L[i]? = some (some (mI x))) (hn : i < mi_ml M) (k : mj_X G M Q A kc ks (pc + 3) (L.set i (some (mI (x + n)))) st) : mj_X G M Q A kc ks pc L st := by
  intro p e s m args below meth c H locs ls ρ0 ρ cells slots F S
  obtain ⟨j, hj⟩ := List.getElem?_of_mem ((mj_l_mem (ρ := ρ) (j := i) (w := mj_c ρ (mI x)) L 0).mpr ⟨i, mI x, hl, by omega, rfl⟩)
  refine lv_iinc (v := Int32.ofInt (x + n)) F.1 F.2.1 hd S.2.2.2.2.2.1.1 hj (by rw [Int32.ofInt_add]) hn rfl fun ls' h' => ?_
  exact k p e s m args below meth c H locs ls' ρ0 ρ cells slots F (S.to2 (S.2.2.2.2.2.1.set (mj_okI _) (fun z h => by cases h) h') id)
theorem mx_goto {off : Int} (tgt : Nat) (hd : decode (mi_code M) pc = .ok (.goto off, 3)) (ht : (pc : Int) + off = (tgt : Int)) (k : mj_X G M Q A kc ks tgt L st) : mj_X G M Q A kc ks pc L st := by
  intro p e s m args below meth c H locs ls ρ0 ρ cells slots F S
  exact lv_goto F.1 F.2.1 hd ht (k p e s m args below meth c H locs ls ρ0 ρ cells slots F S)
theorem mx_icmp_eq {x y off : Int} (tgt : Nat) (hd : decode (mi_code M) pc = .ok (.if_icmp .eq off, 3)) (ht : (pc : Int) + off = (tgt : Int)) (hx : r32 x) (hy : r32 y) (kt : x = y → mj_X G M Q A kc ks tgt L st) (kf : ¬ x = y → mj_X G M Q A kc ks (pc + 3) L st) : mj_X G M Q A kc ks pc L (mI y :: mI x :: st) := by
  intro p e s m args below meth c H locs ls ρ0 ρ cells slots F S
  have S' := S.to1 (fun h => (List.forall_mem_cons.mp (List.forall_mem_cons.mp h).2).2)
  exact lv_icmp_eq F.1 F.2.1 hd ht (fun h => kt ((fun h => (r32_eq hx hy).mp h) h) p e s m args below meth c H locs ls ρ0 ρ cells slots F S') (fun h => kf ((fun h => fun z => h ((r32_eq hx hy).mpr z)) h) p e s m args below meth c H locs ls ρ0 ρ cells slots F S')
theorem mx_if_eq {x off : Int} (tgt : Nat) (hd : decode (mi_code M) pc = .ok (.ifCond .eq off, 3)) (ht : (pc : Int) + off = (tgt : Int)) (hx : r32 x) (kt : x = 0 → mj_X G M Q A kc ks tgt L st) (kf : ¬ x = 0 → mj_X G M Q A kc ks (pc + 3) L st) : mj_X G M Q A kc ks pc L (mI x :: st) := by
  intro p e s m args below meth c H locs ls ρ0 ρ cells slots F S
  have S' := S.to1 (fun h => (List.forall_mem_cons.mp h).2)
  have hy : r32 0 := r32_0
  exact lv_if_eq F.1 F.2.1 hd ht (fun h => kt ((fun h => (r32_eq hx hy).mp h) h) p e s m args below meth c H locs ls ρ0 ρ cells slots F S') (fun h => kf ((fun h => fun z => h ((r32_eq hx hy).mpr z)) h) p e s m args below meth c H locs ls ρ0 ρ cells slots F S')
theorem mx_icmp_ne {x y off : Int} (tgt : Nat) (hd : decode (mi_code M) pc = .ok (.if_icmp .ne off, 3)) (ht : (pc : Int) + off = (tgt : Int)) (hx : r32 x) (hy : r32 y) (kt : ¬ x = y → mj_X G M Q A kc ks tgt L st) (kf : x = y → mj_X G M Q A kc ks (pc + 3) L st) : mj_X G M Q A kc ks pc L (mI y :: mI x :: st) := by
  intro p e s m args below meth c H locs ls ρ0 ρ cells slots F S
  have S' := S.to1 (fun h => (List.forall_mem_cons.mp (List.forall_mem_cons.mp h).2).2)
  exact lv_icmp_ne F.1 F.2.1 hd ht (fun h => kt ((fun h => fun z => h ((r32_eq hx hy).mpr z)) h) p e s m args below meth c H locs ls ρ0 ρ cells slots F S') (fun h => kf ((fun h => (r32_eq hx hy).mp h) h) p e s m args below meth c H locs ls ρ0 ρ cells slots F S')
theorem mx_if_ne {x off : Int} (tgt : Nat) (hd : decode (mi_code M) pc = .ok (.ifCond .ne off, 3)) (ht : (pc : Int) + off = (tgt : Int)) (hx : r32 x) (kt : ¬ x = 0 → mj_X G M Q A kc ks tgt L st) (kf : x = 0 → mj_X G M Q A kc ks (pc + 3) L st) : mj_X G M Q A kc ks pc L (mI x :: st) := by
  intro p e s m args below meth c H locs ls ρ0 ρ cells slots F S
  have S' := S.to1 (fun h => (List.forall_mem_cons.mp h).2)
  have hy : r32 0 := r32_0
  exact lv_if_ne F.1 F.2.1 hd ht (fun h => kt ((fun h => fun z => h ((r32_eq hx hy).mpr z)) h) p e s m args below meth c H locs ls ρ0 ρ cells slots F S') (fun h => kf ((fun h => (r32_eq hx hy).mp h) h) p e s m args below meth c H locs ls ρ0 ρ cells slots F S')
theorem mx_icmp_lt {x y off : Int} (tgt : Nat) (hd : decode (mi_code M) pc = .ok (.if_icmp .lt off, 3)) (ht : (pc : Int) + off = (tgt : Int)) (hx : r32 x) (hy : r32 y) (kt : x < y → mj_X G M Q A kc ks tgt L st) (kf : y ≤ x → mj_X G M Q A kc ks (pc + 3) L st) : mj_X G M Q A kc ks pc L (mI y :: mI x :: st) := by
  intro p e s m args below meth c H locs ls ρ0 ρ cells slots F S
  have S' := S.to1 (fun h => (List.forall_mem_cons.mp (List.forall_mem_cons.mp h).2).2)
  exact lv_icmp_lt F.1 F.2.1 hd ht (fun h => kt ((fun h => (r32_lt hx hy).mp h) h) p e s m args below meth c H locs ls ρ0 ρ cells slots F S') (fun h => kf ((fun h => Int.not_lt.mp fun z => h ((r32_lt hx hy).mpr z)) h) p e s m args below meth c H locs ls ρ0 ρ cells slots F S')
theorem mx_if_lt {x off : Int} (tgt : Nat) (hd : decode (mi_code M) pc = .ok (.ifCond .lt off, 3)) (ht : (pc : Int) + off = (tgt : Int)) (hx : r32 x) (kt : x < 0 → mj_X G M Q A kc ks tgt L st) (kf : 0 ≤ x → mj_X G M Q A kc ks (pc + 3) L st) : mj_X G M Q A kc ks pc L (mI x :: st) := by
  intro p e s m args below meth c H locs ls ρ0 ρ cells slots F S
  have S' := S.to1 (fun h => (List.forall_mem_cons.mp h).2)
  have hy : r32 0 := r32_0
  exact lv_if_lt F.1 F.2.1 hd ht (fun h => kt ((fun h => (r32_lt hx hy).mp h) h) p e s m args below meth c H locs ls ρ0 ρ cells slots F S') (fun h => kf ((fun h => Int.not_lt.mp fun z => h ((r32_lt hx hy).mpr z)) h) p e s m args below meth c H locs ls ρ0 ρ cells slots F S')
theorem mx_icmp_ge {x y off : Int} (tgt : Nat) (hd : decode (mi_code M) pc = .ok (.if_icmp .ge off, 3)) (ht : (pc : Int) + off = (tgt : Int)) (hx : r32 x) (hy : r32 y) (kt : y ≤ x → mj_X G M Q A kc ks tgt L st) (kf : x < y → mj_X G M Q A kc ks (pc + 3) L st) : mj_X G M Q A kc ks pc L (mI y :: mI x :: st) := by
  intro p e s m args below meth c H locs ls ρ0 ρ cells slots F S
  have S' := S.to1 (fun h => (List.forall_mem_cons.mp (List.forall_mem_cons.mp h).2).2)
  exact lv_icmp_ge F.1 F.2.1 hd ht (fun h => kt ((fun h => (r32_le hy hx).mp h) h) p e s m args below meth c H locs ls ρ0 ρ cells slots F S') (fun h => kf ((fun h => Int.not_le.mp fun z => h ((r32_le hy hx).mpr z)) h) p e s m args below meth c H locs ls ρ0 ρ cells slots F S')
theorem mx_if_ge {x off : Int} (tgt : Nat) (hd : decode (mi_code M) pc = .ok (.ifCond .ge off, 3)) (ht : (pc : Int) + off = (tgt : Int)) (hx : r32 x) (kt : 0 ≤ x → mj_X G M Q A kc ks tgt L st) (kf : x < 0 → mj_X G M Q A kc ks (pc + 3) L st) : mj_X G M Q A kc ks pc L (mI x :: st) := by
  intro p e s m args below meth c H locs ls ρ0 ρ cells slots F S
  have S' := S.to1 (fun h => (List.forall_mem_cons.mp h).2)
  have hy : r32 0 := r32_0
  exact lv_if_ge F.1 F.2.1 hd ht (fun h => kt ((fun h => (r32_le hy hx).mp h) h) p e s m args below meth c H locs ls ρ0 ρ cells slots F S') (fun h => kf ((fun h => Int.not_le.mp fun z => h ((r32_le hy hx).mpr z)) h) p e s m args below meth c H locs ls ρ0 ρ cells slots F S')
theorem mx_icmp_gt {x y off : Int} (tgt : Nat) (hd : decode (mi_code M) pc = .ok (.if_icmp .gt off, 3)) (ht : (pc : Int) + off = (tgt : Int)) (hx : r32 x) (hy : r32 y) (kt : y < x → mj_X G M Q A kc ks tgt L st) (kf : x ≤ y → mj_X G M Q A kc ks (pc + 3) L st) : mj_X G M Q A kc ks pc L (mI y :: mI x :: st) := by
  intro p e s m args below meth c H locs ls ρ0 ρ cells slots F S
  have S' := S.to1 (fun h => (List.forall_mem_cons.mp (List.forall_mem_cons.mp h).2).2)
  exact lv_icmp_gt F.1 F.2.1 hd ht (fun h => kt ((fun h => (r32_lt hy hx).mp h) h) p e s m args below meth c H locs ls ρ0 ρ cells slots F S') (fun h => kf ((fun h => Int.not_lt.mp fun z => h ((r32_lt hy hx).mpr z)) h) p e s m args below meth c H locs ls ρ0 ρ cells slots F S')
theorem mx_if_gt {x off : Int} (tgt : Nat) (hd : decode (mi_code M) pc = .ok (.ifCond .gt off, 3)) (ht : (pc : Int) + off = (tgt : Int)) (hx : r32 x) (kt : 0 < x → mj_X G M Q A kc ks tgt L st) (kf : x ≤ 0 → mj_X G M Q A kc ks (pc + 3) L st) : mj_X G M Q A kc ks pc L (mI x :: st) := by
  intro p e s m args below meth c H locs ls ρ0 ρ cells slots F S
  have S' := S.to1 (fun h => (List.forall_mem_cons.mp h).2)
  have hy : r32 0 := r32_0
  exact lv_if_gt F.1 F.2.1 hd ht (fun h => kt ((fun h => (r32_lt hy hx).mp h) h) p e s m args below meth c H locs ls ρ0 ρ cells slots F S') (fun h => kf ((fun h => Int.not_lt.mp fun z => h ((r32_lt hy hx).mpr z)) h) p e s m args below meth c H locs ls ρ0 ρ cells slots F S')
theorem mx_icmp_le {x y off : Int} (tgt : Nat) (hd : decode (mi_code M) pc = .ok (.if_icmp .le off, 3)) (ht : (pc : Int) + off = (tgt : Int)) (hx : r32 x) (hy : r32 y) (kt : x ≤ y → mj_X G M Q A kc ks tgt L st) (kf : y < x → mj_X G M Q A kc ks (pc + 3) L st) : mj_X G M Q A kc ks pc L (mI y :: mI x :: st) := by
  intro p e s m args below meth c H locs ls ρ0 ρ cells slots F S
  have S' := S.to1 (fun h => (List.forall_mem_cons.mp (List.forall_mem_cons.mp h).2).2)
  exact lv_icmp_le F.1 F.2.1 hd ht (fun h => kt ((fun h => (r32_le hx hy).mp h) h) p e s m args below meth c H locs ls ρ0 ρ cells slots F S') (fun h => kf ((fun h => Int.not_le.mp fun z => h ((r32_le hx hy).mpr z)) h) p e s m args below meth c H locs ls ρ0 ρ cells slots F S')
theorem mx_if_le {x off : Int} (tgt : Nat) (hd : decode (mi_code M) pc = .ok (.ifCond .le off, 3)) (ht : (pc : Int) + off = (tgt : Int)) (hx : r32 x) (kt : x ≤ 0 → mj_X G M Q A kc ks tgt L st) (kf : 0 < x → mj_X G M Q A kc ks (pc + 3) L st) : mj_X G M Q A kc ks pc L (mI x :: st) := by
  intro p e s m args below meth c H locs ls ρ0 ρ cells slots F S
  have S' := S.to1 (fun h => (List.forall_mem_cons.mp h).2)
  have hy : r32 0 := r32_0
  exact lv_if_le F.1 F.2.1 hd ht (fun h => kt ((fun h => (r32_le hx hy).mp h) h) p e s m args below meth c H locs ls ρ0 ρ cells slots F S') (fun h => kf ((fun h => Int.not_le.mp fun z => h ((r32_le hx hy).mpr z)) h) p e s m args below meth c H locs ls ρ0 ρ cells slots F S')
theorem mx_ifnull {r : Option Int} {off : Int} (tgt : Nat) (hd : decode (mi_code M) pc = .ok (.ifnull off, 3)) (ht : (pc : Int) + off = (tgt : Int)) (kt : r = none → mj_X G M Q A kc ks tgt L st) (kf : r ≠ none → mj_X G M Q A kc ks (pc + 3) L st) : mj_X G M Q A kc ks pc L (mR r :: st) := by
  intro p e s m args below meth c H locs ls ρ0 ρ cells slots F S
  have S' := S.to1 (fun h => (List.forall_mem_cons.mp h).2)
  cases r with
  | none => exact lv_ifnullN F.1 F.2.1 hd ht (kt rfl p e s m args below meth c H locs ls ρ0 ρ cells slots F S')
  | some a => exact lv_ifnull F.1 F.2.1 hd (kf (fun z => by cases z) p e s m args below meth c H locs ls ρ0 ρ cells slots F S')
theorem mx_ifnonnull {r : Option Int} {off : Int} (tgt : Nat) (hd : decode (mi_code M) pc = .ok (.ifnonnull off, 3)) (ht : (pc : Int) + off = (tgt : Int)) (kt : r ≠ none → mj_X G M Q A kc ks tgt L st) (kf : r = none → mj_X G M Q A kc ks (pc + 3) L st) : mj_X G M Q A kc ks pc L (mR r :: st) := by
  intro p e s m args below meth c H locs ls ρ0 ρ cells slots F S
  have S' := S.to1 (fun h => (List.forall_mem_cons.mp h).2)
  cases r with
  | none => exact lv_ifnonnullN F.1 F.2.1 hd (kf rfl p e s m args below meth c H locs ls ρ0 ρ cells slots F S')
  | some a => exact lv_ifnonnull F.1 F.2.1 hd ht (kt (fun z => by cases z) p e s m args below meth c H locs ls ρ0 ρ cells slots F S')
theorem mx_tableOut {dflt lo hi : Int} {offs : Array Int} {len : Nat} {x : Int} (tgt : Nat) (hd : decode (mi_code M) pc = .ok (.tableswitch dflt lo hi offs, len)) (hx : r32 x) (h : x < lo ∨ hi < x) (ht : (pc : Int) + dflt = (tgt : Int)) (k : mj_X G M Q A kc ks tgt L st) : mj_X G M Q A kc ks pc L (mI x :: st) := by
  intro p e s m args below meth c H locs ls ρ0 ρ cells slots F S
  exact lv_tableOut F.1 F.2.1 hd (by rw [r32_toInt hx]; exact h) ht (k p e s m args below meth c H locs ls ρ0 ρ cells slots F (S.to1 (fun h => (List.forall_mem_cons.mp h).2)))
theorem mx_tableIn {dflt lo hi : Int} {offs : Array Int} {len : Nat} {x off : Int} (tgt : Nat) (hd : decode (mi_code M) pc = .ok (.tableswitch dflt lo hi offs, len)) (hx : r32 x) (h1 : lo ≤ x) (h2 : x ≤ hi) (ho : offs[(x - lo).toNat]? = some off) (ht : (pc : Int) + off = (tgt : Int)) (k : mj_X G M Q A kc ks tgt L st) : mj_X G M Q A kc ks pc L (mI x :: st) := by
  intro p e s m args below meth c H locs ls ρ0 ρ cells slots F S
  exact lv_tableIn (x := Int32.ofInt x) F.1 F.2.1 hd (by rw [r32_toInt hx]; omega) (by rw [r32_toInt hx]; omega) (by rw [r32_toInt hx]; exact ho) ht (k p e s m args below meth c H locs ls ρ0 ρ cells slots F (S.to1 (fun h => (List.forall_mem_cons.mp h).2)))
end R1
end MJB
