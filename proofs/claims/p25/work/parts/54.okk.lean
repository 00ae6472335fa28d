/-! A CALL THAT IS DONE LEAVES A STATE AS IT SHOULD BE -/
theorem inR_lt {x : Int32} {n : Nat} (h : inR x n = true) : x.toInt.toNat < n := by
  have h1 := inR_t h
  omega
theorem ok_sWk {σ : gS} (h : okS σ) {c k : Nat} {q : gCn} (hc : c < gNC σ) (hq : q.1 ≤ 60 ∧ q.2.2.1 ≤ 10 ∧ ∀ j, j < 24 → q.2.2.2.2 j < 8) : okS (sWk σ c k q) := by
  have h1 := h.2.2.2.1 c hc
  refine ok_pass (ok_can h ?_)
  by_cases hk : k ≤ cHt σ c
  · rw [if_pos hk]; exact hq
  · rw [if_neg hk]; exact h1
theorem okk_begin {σ : gS} (h : okS σ) (hk : k_begin σ = 0) : okS (s_begin σ) := by
  have h1 := h.1
  unfold k_begin at hk
  by_cases h8 : gNC σ = 8
  · rw [if_pos h8] at hk; cases hk
  · exact ok_begin h (by omega)
theorem okk_lay {σ : gS} (h : okS σ) {c r f n q : Int32} (hk : k_lay σ c r f n q = 0) : okS (sWk σ c.toInt.toNat 2 (q_lay σ c.toInt.toNat r.toInt.toNat f.toInt.toNat n.toInt.toNat q.toInt.toNat)) := by
  unfold k_lay at hk
  by_cases h1 : inR c (gNC σ) = true
  · rw [if_pos h1] at hk
    by_cases h2 : (inR r 3 && inR f 8 && inB n 1 8 && inR q 8) = true
    · have hc := h.2.2.2.1 _ (inR_lt h1)
      have hq := inR_lt (Bool.and_eq_true_iff.mp h2).2
      refine ok_sWk h (inR_lt h1) ⟨hc.1, ?_, fun j hj => ?_⟩
      · show cHt σ c.toInt.toNat - 1 ≤ 10
        have := hc.2.1
        omega
      · show pnt _ _ _ _ _ j < 8
        unfold pnt
        split
        · exact hq
        · exact hc.2.2 j hj
    · rw [if_neg h2] at hk; cases hk
  · rw [if_neg h1] at hk; cases hk
theorem okk_twist {σ : gS} (h : okS σ) {c x : Int32} (hk : k_twist σ c x = 0) : okS (sWk σ c.toInt.toNat 4 (q_twist σ c.toInt.toNat x)) := by
  unfold k_twist at hk
  by_cases h1 : inR c (gNC σ) = true
  · have hc := h.2.2.2.1 _ (inR_lt h1)
    refine ok_sWk h (inR_lt h1) ⟨hc.1, ?_, hc.2.2⟩
    show cHt σ c.toInt.toNat - 1 ≤ 10
    have := hc.2.1
    omega
  · rw [if_neg h1] at hk; cases hk
theorem okk_pull {σ : gS} (h : okS σ) {c : Int32} (hk : k_pull σ c = 0) : okS (sWk σ c.toInt.toNat 6 (q_pull σ c.toInt.toNat)) := by
  unfold k_pull at hk
  by_cases h1 : inR c (gNC σ) = true
  · have hc := h.2.2.2.1 _ (inR_lt h1)
    refine ok_sWk h (inR_lt h1) ⟨?_, ?_, hc.2.2⟩
    · show min (2 * cLen σ c.toInt.toNat) 60 ≤ 60
      omega
    · show cHt σ c.toInt.toNat - 1 ≤ 10
      have := hc.2.1
      omega
  · rw [if_neg h1] at hk; cases hk
theorem okk_furnace {σ : gS} (h : okS σ) {x : Int32} : okS (uObj σ (gNB σ) x (gMi σ)) := ok_obj h ⟨Nat.le_refl _, h.2.2.1⟩
theorem okk_cut {σ : gS} (h : okS σ) {c : Int32} (hk : k_cut σ c = 0) : okS (s_cut σ c.toInt.toNat) := by
  have h60 := h.2.1
  unfold k_cut at hk
  by_cases h1 : inR c (gNC σ) = true
  · rw [if_pos h1] at hk
    by_cases h2 : cLen σ c.toInt.toNat = 0 ∨ 3 < cHt σ c.toInt.toNat ∨ gNS σ = 60
    · rw [if_pos h2] at hk; cases hk
    · exact ok_cut h (inR_lt h1) (by omega)
  · rw [if_neg h1] at hk; cases hk
theorem okk_bead {σ : gS} (h : okS σ) (hk : k_bead σ = 0) : okS (uObj σ (gNB σ + 1) (gFu σ) (gMi σ)) := by
  have h1 := h.2.2.1
  unfold k_bead at hk
  by_cases h8 : gNB σ = 6
  · rw [if_pos h8] at hk; cases hk
  · exact ok_obj h ⟨by omega, by omega⟩
theorem okk_set {σ : gS} (h : okS σ) {b k x t : Int32} (hk : k_set σ b k x t = 0) : okS (s_set σ (4 * b.toInt.toNat + k.toInt.toNat) x.toInt.toNat t.toInt.toNat) := by
  unfold k_set at hk
  by_cases h1 : (inR b (gNB σ) && inR k 4 && inR x (gNS σ)) = true
  · rw [if_pos h1] at hk
    obtain ⟨h2, h3⟩ := Bool.and_eq_true_iff.mp h1
    obtain ⟨h4, h5⟩ := Bool.and_eq_true_iff.mp h2
    have l1 := inR_lt h3
    have l2 := inR_lt h4
    have l3 := inR_lt h5
    by_cases h6 : inR t 8 = true
    · rw [if_pos h6] at hk
      by_cases h7 : ((gEy σ (4 * b.toInt.toNat + k.toInt.toNat)).isSome || !decide (eyv (sEy σ x.toInt.toNat) = -1)) = true
      · rw [if_pos h7] at hk; cases hk
      · have h8 := Bool.or_eq_false_iff.mp (Bool.eq_false_iff.mpr h7)
        refine ok_set h (by omega) l1 (inR_lt h6) ?_ ?_
        · rcases hq : gEy σ (4 * b.toInt.toNat + k.toInt.toNat) with _ | v
          · rfl
          · have h9 := h8.1
            rw [hq] at h9
            cases h9
        · refine (eyv_none (fun z hz => ok_ey h l1 hz)).mp ?_
          have h9 := h8.2
          rw [Bool.not_eq_false'] at h9
          exact h9
    · rw [if_neg h6] at hk; cases hk
  · rw [if_neg h1] at hk; cases hk
theorem okk_drop {σ : gS} (h : okS σ) {b k : Int32} (hk : k_drop σ b k = 0) : okS (s_drop σ (4 * b.toInt.toNat + k.toInt.toNat)) := by
  unfold k_drop at hk
  by_cases h1 : (inR b (gNB σ) && inR k 4) = true
  · rw [if_pos h1] at hk
    rcases hq : gEy σ (4 * b.toInt.toNat + k.toInt.toNat) with _ | ⟨s, t⟩
    · rw [hq] at hk; cases hk
    · exact ok_drop h hq
  · rw [if_neg h1] at hk; cases hk
theorem lcmp_self (a : Int64) : lg_cmp a a = nI 0 := by
  unfold lg_cmp
  rw [if_neg (by rw [gt_iff_lt, Int64.lt_iff_toInt_lt]; omega), if_pos rfl]
  rfl
