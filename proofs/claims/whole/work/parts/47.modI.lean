/-! THE REFERENCE, 18: the names of an in-between -/
/-- the first of n from lo that is x, or -1 -/
def mj_fx (nm : Int → Int) (x lo : Int) : Nat → Int
  | 0 => -1
  | n + 1 => if mj_fx nm x lo n ≠ -1 then mj_fx nm x lo n else if nm (lo + n) = x then lo + n else -1
theorem mj_fx_n {nm : Int → Int} {x lo : Int} : ∀ n : Nat, (∀ j, lo ≤ j → j < lo + n → nm j ≠ x) → mj_fx nm x lo n = -1
  | 0, _ => rfl
  | n + 1, h => by
    rw [mj_fx, mj_fx_n n (fun j h0 h1 => h j h0 (by omega)), if_neg (fun h => h rfl), if_neg (h _ (by omega) (by omega))]
theorem mj_fx_s {nm : Int → Int} {x lo k : Int} (h0 : 0 ≤ lo) (hk : lo ≤ k) (hx : nm k = x) (hf : ∀ j, lo ≤ j → j < k → nm j ≠ x) : ∀ n : Nat, k < lo + n → mj_fx nm x lo n = k
  | 0, h => by omega
  | n + 1, h => by
    rw [mj_fx]
    by_cases e : k = lo + n
    · rw [mj_fx_n n (fun j j0 j1 => hf j j0 (by omega)), if_neg (fun h => h rfl), ← e, if_pos hx]
    · rw [mj_fx_s h0 hk hx hf n (by omega), if_pos (by omega)]
theorem mj_fx_c {nm nm' : Int → Int} {x lo : Int} : ∀ n : Nat, (∀ j, lo ≤ j → j < lo + n → nm j = nm' j) → mj_fx nm x lo n = mj_fx nm' x lo n
  | 0, _ => rfl
  | n + 1, h => by
    rw [mj_fx, mj_fx, mj_fx_c n (fun j h0 h1 => h j h0 (by omega)), h _ (by omega) (by omega)]
theorem mj_fx_r {nm : Int → Int} {x lo : Int} (h0 : 0 ≤ lo) : ∀ n : Nat, mj_fx nm x lo n = -1 ∨ (lo ≤ mj_fx nm x lo n ∧ mj_fx nm x lo n < lo + n ∧ nm (mj_fx nm x lo n) = x)
  | 0 => Or.inl rfl
  | n + 1 => by
    have h := mj_fx_r (nm := nm) (x := x) h0 n
    rw [mj_fx]
    split
    · rcases h with h | h
      · exact absurd h (by assumption)
      · exact Or.inr ⟨h.1, by omega, h.2.2⟩
    · split
      · exact Or.inr ⟨by omega, by omega, by assumption⟩
      · exact Or.inl rfl
section MODI
variable {G : mj_G} {A : mj_M}
/-- strokeOf as a function -/
theorem cm_strokeOf2 {d x : Int} (hM : MS A) (hd0 : 0 ≤ d) (hd1 : d < 16) (hn : 0 ≤ gI A 209 d ∧ gI A 209 d ≤ 8) (hx : r32 x) : mj_Cal G n_M_strokeOf [mR (some 200), mI d, mI x] A (fun r A' => r = some (mI (mj_fx (gI A 210) x (8 * d) (gI A 209 d).toNat)) ∧ A' = A) mj_no := by
  refine (cm_strokeOf hM hd0 hd1 rfl hn.1 hn.2 hx).mono (fun r A' h => ?_) (fun _ _ h => h)
  obtain ⟨e, ⟨k, h1, h2, h3, h4, h5⟩ | ⟨h1, h2⟩⟩ := h
  · exact ⟨by rw [h1, mj_fx_s (by omega) h2 h4 h5 _ (by omega)], e⟩
  · exact ⟨by rw [h1, mj_fx_n _ (fun j j0 j1 => h2 j j0 (by omega))], e⟩
end MODI
