def mval (m : Nat) : Int32 := if m = 5 then -1 else nI m
theorem mval_of {m : Nat} (h : m ≠ 5) : mval m = nI m := if_neg h
theorem mval_int {m : Nat} (h : m ≤ 5) : (m = 5 ∧ (mval m).toInt = (-1 : Int32).toInt) ∨ (m < 5 ∧ (mval m).toInt = (m : Int) ∧ (-1 : Int32).toInt = -1) := by
  by_cases e : m = 5
  · subst e; exact Or.inl ⟨rfl, rfl⟩
  · exact Or.inr ⟨by omega, by rw [mval_of e, nI_toInt (by omega)], h_m1⟩
theorem mnd_0 {σ : gS} {b n : Nat} (h : gEy σ (4 * b + n) = none) : mnd σ b (n + 1) = mnd σ b n := by
  rw [mnd, h]
theorem mnd_1 {σ : gS} {b n s t : Nat} (h : gEy σ (4 * b + n) = some (s, t)) (c : 4 - nsm (el σ b s) 4 < mnd σ b n ∧ 4 - nsm (el σ b s) 4 ≤ nsm (fr σ (sKd σ s)) (gNS σ)) : mnd σ b (n + 1) = 4 - nsm (el σ b s) 4 := by
  rw [mnd, h]
  exact if_pos c
theorem mnd_2 {σ : gS} {b n s t : Nat} (h : gEy σ (4 * b + n) = some (s, t)) (c : ¬ (4 - nsm (el σ b s) 4 < mnd σ b n ∧ 4 - nsm (el σ b s) 4 ≤ nsm (fr σ (sKd σ s)) (gNS σ))) : mnd σ b (n + 1) = mnd σ b n := by
  rw [mnd, h]
  exact if_neg c
theorem mnd_le {σ : gS} {b : Nat} : ∀ {n : Nat}, mnd σ b n ≤ 5
  | 0 => by unfold mnd; split <;> omega
  | n + 1 => by
    have ih := mnd_le (σ := σ) (b := b) (n := n)
    rw [mnd]
    split
    · exact ih
    · split <;> omega
