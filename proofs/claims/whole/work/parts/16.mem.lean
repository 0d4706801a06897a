/-! MEMORIES: what stores do -/
section MEM
variable {A : mj_M}
theorem mj_ext3 {A B : mj_M} (h1 : ∀ c, gS A c = gS B c) (h2 : ∀ c i, gI A c i = gI B c i) (h3 : ∀ c i, gP A c i = gP B c i) : A = B := by
  obtain ⟨a, b, c⟩ := A
  obtain ⟨a', b', c'⟩ := B
  have e1 : a = a' := funext h1
  have e2 : b = b' := funext fun x => funext fun y => h2 x y
  have e3 : c = c' := funext fun x => funext fun y => h3 x y
  rw [e1, e2, e3]
theorem sF_id {c : Int} {f : Int → Int} (h : ∀ i, f i = gI A c i) : sF A c f = A := mj_ext3 (fun _ => rfl) (fun c' i => by
  rw [gI_sF]
  by_cases e : c' = c
  · rw [if_pos e, h, e]
  · rw [if_neg e]) (fun _ _ => rfl)
theorem sF_congr {c : Int} {f g : Int → Int} (h : ∀ i, f i = g i) : sF A c f = sF A c g := by rw [show f = g from funext h]
theorem sI_sF {c i v : Int} {f : Int → Int} : sI (sF A c f) c i v = sF A c (fun j => if j = i then v else f j) := mj_ext3 (fun _ => rfl) (fun c' i' => by
  simp only [gI_sI, gI_sF]
  by_cases e : c' = c
  · simp [e]
  · simp [e]) (fun _ _ => rfl)
theorem sF_sF {c : Int} {f g : Int → Int} : sF (sF A c f) c g = sF A c g := mj_ext3 (fun _ => rfl) (fun c' i' => by
  simp only [gI_sF]
  by_cases e : c' = c
  · simp [e]
  · simp [e]) (fun _ _ => rfl)
theorem sI_id {c i v : Int} (h : gI A c i = v) : sI A c i v = A := mj_ext3 (fun _ => rfl) (fun c' i' => by
  rw [gI_sI]
  by_cases e : c' = c ∧ i' = i
  · rw [if_pos e, e.1, e.2, h]
  · rw [if_neg e]) (fun _ _ => rfl)
theorem sI_sI {c i v w : Int} : sI (sI A c i v) c i w = sI A c i w := mj_ext3 (fun _ => rfl) (fun c' i' => by
  simp only [gI_sI]
  by_cases e : c' = c ∧ i' = i
  · simp [e]
  · simp [e]) (fun _ _ => rfl)
theorem mj_Xeq {G : mj_G} {M : mj_I} {Q : mj_Q} {A' : mj_M} {kc ks pc : Nat} {L : List (Option mj_V)} {st : List mj_V} (e : A = A') (k : mj_X G M Q A' kc ks pc L st) : mj_X G M Q A kc ks pc L st := by rw [e]; exact k
end MEM
section CUT
variable {G : mj_G} {M : mj_I} {Q : mj_Q} {A : mj_M} {kc ks pc : Nat} {L : List (Option mj_V)} {st : List mj_V}
/-- where two ways of a truth value come together -/
theorem mj_cutB (P : Prop) [Decidable P] (pc' : Nat) (k : mj_X G M Q A kc ks pc' L (mI (if P then 1 else 0) :: st)) (h : mj_X G M Q A kc ks pc' L (mI (if P then 1 else 0) :: st) → mj_X G M Q A kc ks pc L st) : mj_X G M Q A kc ks pc L st := h k
theorem mj_j1 {P : Prop} [Decidable P] (h : mj_X G M Q A kc ks pc L (mI (if P then 1 else 0) :: st)) (hP : P) : mj_X G M Q A kc ks pc L (mI 1 :: st) := by rwa [if_pos hP] at h
theorem mj_j0 {P : Prop} [Decidable P] (h : mj_X G M Q A kc ks pc L (mI (if P then 1 else 0) :: st)) (hP : ¬ P) : mj_X G M Q A kc ks pc L (mI 0 :: st) := by rwa [if_neg hP] at h
/-- any int that is settled by its two ways -/
theorem mj_cutI (v : Int) (pc' : Nat) (k : mj_X G M Q A kc ks pc' L (mI v :: st)) (h : mj_X G M Q A kc ks pc' L (mI v :: st) → mj_X G M Q A kc ks pc L st) : mj_X G M Q A kc ks pc L st := h k
theorem mj_ji {v w : Int} (h : mj_X G M Q A kc ks pc L (mI v :: st)) (e : w = v) : mj_X G M Q A kc ks pc L (mI w :: st) := by rwa [e]
end CUT
