/-! KINDS: slices that can be turned to look alike -/
def lk9 (P P2 : Nat → Nat) (t : Nat) : Prop := ∀ r, r < 3 → ∀ s, s < 8 → P (8 * r + (s + 8 - t) % 8) = P2 (8 * r + s)
theorem like_lk {P P2 : Nat → Nat} {t : Nat} (ht : t < 8) : like P (nI t) P2 = true ↔ lk9 P P2 t := by
  have hm : m8 (nI t) = t := by rw [m8_nI (by omega)]; omega
  constructor
  · intro h r hr s hs
    have h1 := like_iff.mp h (8 * r + s) (by omega)
    rw [rot_at hs, hm] at h1
    exact h1
  · intro h
    exact like_t fun r hr s hs => by rw [hm]; exact h r hr s hs
theorem sim_iff {P P2 : Nat → Nat} : sim P P2 = true ↔ ∃ t, t < 8 ∧ lk9 P P2 t := by
  unfold sim
  rw [decide_eq_true_iff]
  constructor
  · intro h
    exact ⟨_, h, (like_lk h).mp (frst_yes (p := fun t => like P (nI t) P2) h)⟩
  · rintro ⟨t, ht, hl⟩
    rcases Nat.lt_or_ge (lturn P P2) 8 with h | h
    · exact h
    · have h1 := frst_no (p := fun t => like P (nI t) P2) (n := 8) (k := t) (Nat.lt_of_lt_of_le ht h)
      have h2 := (like_lk ht).mpr hl
      exact absurd (h1.symm.trans h2) (by decide)
theorem sim_refl (P : Nat → Nat) : sim P P = true := sim_iff.mpr ⟨0, by omega, fun r _ s hs => by rw [show (s + 8 - 0) % 8 = s by omega]⟩
theorem sim_symm {P P2 : Nat → Nat} (h : sim P P2 = true) : sim P2 P = true := by
  obtain ⟨t, ht, h1⟩ := sim_iff.mp h
  refine sim_iff.mpr ⟨(8 - t) % 8, by omega, fun r hr s hs => ?_⟩
  have h2 := h1 r hr ((s + t) % 8) (by omega)
  rw [show ((s + t) % 8 + 8 - t) % 8 = s by omega] at h2
  rw [show (s + 8 - (8 - t) % 8) % 8 = (s + t) % 8 by omega, h2]
theorem tri8 : ∀ s, s < 8 → ∀ t, t < 8 → ∀ v, v < 8 → (s + 8 - (t + v) % 8) % 8 = ((s + 8 - v) % 8 + 8 - t) % 8 := by decide +kernel
theorem sim_trans {P P2 P3 : Nat → Nat} (h : sim P P2 = true) (h2 : sim P2 P3 = true) : sim P P3 = true := by
  obtain ⟨t, ht, h1⟩ := sim_iff.mp h
  obtain ⟨v, hv, h3⟩ := sim_iff.mp h2
  refine sim_iff.mpr ⟨(t + v) % 8, by omega, fun r hr s hs => ?_⟩
  have h4 := h1 r hr ((s + 8 - v) % 8) (by omega)
  rw [tri8 s hs t ht v hv, h4, h3 r hr s hs]
theorem kd_sim {σ : gS} (hO : okS σ) {k : Nat} (hk : k < gNS σ) : sim (sPt σ k) (sPt σ (sKd σ k)) = true ∧ ∀ j, j < sKd σ k → sim (sPt σ k) (sPt σ j) = false := by
  have h := (hO.2.2.2.2.1 k hk).2
  have h2 : sKd σ k = frst (fun j => sim (sPt σ k) (sPt σ j)) k := h
  constructor
  · rcases Nat.lt_or_ge (sKd σ k) k with w | w
    · have h3 := frst_yes (p := fun j => sim (sPt σ k) (sPt σ j)) (n := k) (by rw [← h2]; exact w)
      rw [← h2] at h3
      exact h3
    · have h3 := frst_le (fun j => sim (sPt σ k) (sPt σ j)) k
      rw [← h2] at h3
      rw [show sKd σ k = k by omega]
      exact sim_refl _
  · intro j hj
    rw [h2] at hj
    exact frst_no hj
theorem kd_le {σ : gS} (hO : okS σ) {a b : Nat} (ha : a < gNS σ) (hb : b < gNS σ) (h : sim (sPt σ a) (sPt σ b) = true) : sKd σ a ≤ sKd σ b := by
  rcases Nat.lt_or_ge (sKd σ b) (sKd σ a) with w | w
  · have h1 := (kd_sim hO ha).2 _ w
    have h2 := sim_trans h (kd_sim hO hb).1
    exact absurd (h1.symm.trans h2) (by decide)
  · exact w
theorem kd_iff {σ : gS} (hO : okS σ) {a b : Nat} (ha : a < gNS σ) (hb : b < gNS σ) : sim (sPt σ a) (sPt σ b) = true ↔ sKd σ a = sKd σ b := by
  constructor
  · intro h
    exact Nat.le_antisymm (kd_le hO ha hb h) (kd_le hO hb ha (sim_symm h))
  · intro h
    have h1 := (kd_sim hO ha).1
    rw [h] at h1
    exact sim_trans h1 (sim_symm (kd_sim hO hb).1)
theorem fm_fr {σ : gS} (hO : okS σ) {x : Nat} (hx : x < gNS σ) : nsm (fm σ x) (gNS σ) = nsm (fr σ (sKd σ x)) (gNS σ) := by
  refine nsm_cong fun s hs => ?_
  unfold fm fr
  by_cases h1 : (eyv (sEy σ s)).toInt = (-1 : Int32).toInt ∧ sim (sPt σ s) (sPt σ x) = true
  · rw [if_pos h1, if_pos ⟨decide_eq_true (hI_eq.mpr h1.1), (kd_iff hO hs hx).mp h1.2⟩]
  · rw [if_neg h1, if_neg (fun q => h1 ⟨hI_eq.mp (of_decide_eq_true q.1), (kd_iff hO hs hx).mpr q.2⟩)]
theorem nsm_pos {f : Nat → Nat} : ∀ {n : Nat}, 0 < nsm f n → ∃ k, k < n ∧ 0 < f k
  | 0, h => absurd h (Nat.lt_irrefl 0)
  | n + 1, h => by
    rw [nsm] at h
    by_cases h1 : 0 < nsm f n
    · obtain ⟨k, hk, h2⟩ := nsm_pos h1
      exact ⟨k, by omega, h2⟩
    · exact ⟨n, by omega, by omega⟩
/-- whether one of the first n slices is free, with enough like it for a bead -/
def exf (σ : gS) : Nat → Bool
  | 0 => false
  | n + 1 => exf σ n || (decide ((eyv (sEy σ n)).toInt = (-1 : Int32).toInt) && decide (4 ≤ nsm (fm σ n) (gNS σ)))
theorem exf_iff {σ : gS} : ∀ {n : Nat}, exf σ n = true ↔ ∃ k, k < n ∧ (eyv (sEy σ k)).toInt = (-1 : Int32).toInt ∧ 4 ≤ nsm (fm σ k) (gNS σ)
  | 0 => ⟨fun h => (by cases h), fun ⟨k, hk, _⟩ => absurd hk (Nat.not_lt_zero k)⟩
  | n + 1 => by
    rw [exf, Bool.or_eq_true_iff, Bool.and_eq_true_iff, decide_eq_true_iff, decide_eq_true_iff, exf_iff]
    constructor
    · rintro (⟨k, hk, h⟩ | h)
      · exact ⟨k, by omega, h⟩
      · exact ⟨n, by omega, h⟩
    · rintro ⟨k, hk, h⟩
      rcases Nat.lt_or_ge k n with w | w
      · exact Or.inl ⟨k, w, h⟩
      · have h9 : k = n := by omega
        subst h9
        exact Or.inr h
theorem cfb_exf {σ : gS} (hO : okS σ) : cfb σ = exf σ (gNS σ) := by
  refine Bool.eq_iff_iff.mpr ?_
  rw [exf_iff]
  unfold cfb
  rw [decide_eq_true_iff]
  constructor
  · intro h
    have h1 := of_decide_eq_true (frst_yes (p := fun k => decide (4 ≤ nsm (fr σ k) (gNS σ))) h)
    generalize frst (fun k => decide (4 ≤ nsm (fr σ k) (gNS σ))) (gNS σ) = c at h h1
    obtain ⟨s, hs, h2⟩ := nsm_pos (f := fr σ c) (n := gNS σ) (by omega)
    have h3 : decide (eyv (sEy σ s) = -1) = true ∧ sKd σ s = c := by
      unfold fr at h2
      by_cases w : decide (eyv (sEy σ s) = -1) = true ∧ sKd σ s = c
      · exact w
      · rw [if_neg w] at h2
        exact absurd h2 (Nat.lt_irrefl 0)
    exact ⟨s, hs, hI_eq.mp (of_decide_eq_true h3.1), by rw [fm_fr hO hs, h3.2]; exact h1⟩
  · rintro ⟨s, hs, h1, h2⟩
    rw [fm_fr hO hs] at h2
    have h3 := (hO.2.2.2.2.1 s hs).2
    have h4 : sKd σ s ≤ s := by rw [h3]; exact frst_le _ s
    rcases Nat.lt_or_ge (frst (fun k => decide (4 ≤ nsm (fr σ k) (gNS σ))) (gNS σ)) (gNS σ) with w | w
    · exact w
    · have h5 := frst_no (p := fun k => decide (4 ≤ nsm (fr σ k) (gNS σ))) (n := gNS σ) (k := sKd σ s) (by omega)
      exact absurd h2 (of_decide_eq_false h5)
/-- in how few eyes, as the model counts -/
def mdm (σ : gS) (b : Nat) : Nat → Nat
  | 0 => 5
  | n + 1 => match gEy σ (4 * b + n) with
    | none => mdm σ b n
    | some q => if 4 - nsm (tw σ (4 * b + n) (4 * b)) 4 ≤ nsm (fm σ q.1) (gNS σ) then min (mdm σ b n) (4 - nsm (tw σ (4 * b + n) (4 * b)) 4) else mdm σ b n
theorem mdm_0 {σ : gS} {b n : Nat} (h : gEy σ (4 * b + n) = none) : mdm σ b (n + 1) = mdm σ b n := by
  rw [mdm, h]
theorem mdm_1 {σ : gS} {b n s t : Nat} (h : gEy σ (4 * b + n) = some (s, t)) (c : 4 - nsm (tw σ (4 * b + n) (4 * b)) 4 ≤ nsm (fm σ s) (gNS σ)) : mdm σ b (n + 1) = min (mdm σ b n) (4 - nsm (tw σ (4 * b + n) (4 * b)) 4) := by
  rw [mdm, h]
  exact if_pos c
theorem mdm_2 {σ : gS} {b n s t : Nat} (h : gEy σ (4 * b + n) = some (s, t)) (c : ¬ 4 - nsm (tw σ (4 * b + n) (4 * b)) 4 ≤ nsm (fm σ s) (gNS σ)) : mdm σ b (n + 1) = mdm σ b n := by
  rw [mdm, h]
  exact if_neg c
theorem mdm_le {σ : gS} {b : Nat} : ∀ {n : Nat}, mdm σ b n ≤ 5
  | 0 => Nat.le_refl 5
  | n + 1 => by
    have ih := mdm_le (σ := σ) (b := b) (n := n)
    rcases hq : gEy σ (4 * b + n) with _ | ⟨s, t⟩
    · rw [mdm_0 hq]; exact ih
    · by_cases c : 4 - nsm (tw σ (4 * b + n) (4 * b)) 4 ≤ nsm (fm σ s) (gNS σ)
      · rw [mdm_1 hq c]; omega
      · rw [mdm_2 hq c]; exact ih
def exN (σ : gS) (n : Nat) : Nat := if exf σ n = true then 4 else 5
theorem mnd_mdm {σ : gS} (hO : okS σ) {b : Nat} : ∀ {n : Nat}, mnd σ b n = min (exN σ (gNS σ)) (mdm σ b n)
  | 0 => by
    rw [mnd, mdm, cfb_exf hO]
    unfold exN
    split <;> rfl
  | n + 1 => by
    have ih := mnd_mdm hO (b := b) (n := n)
    rcases hq : gEy σ (4 * b + n) with _ | ⟨s, t⟩
    · rw [mnd_0 hq, mdm_0 hq]; exact ih
    · have hs := (hO.2.2.2.2.2.1 _ _ _ hq).2.1
      have e1 : nsm (tw σ (4 * b + n) (4 * b)) 4 = nsm (el σ b s) 4 := nsm_cong fun k _ => tw_el hO hq
      have e2 := fm_fr hO hs
      by_cases c : 4 - nsm (el σ b s) 4 ≤ nsm (fr σ (sKd σ s)) (gNS σ)
      · rw [mdm_1 hq (by rw [e1, e2]; exact c), e1]
        by_cases c2 : 4 - nsm (el σ b s) 4 < mnd σ b n
        · rw [mnd_1 hq ⟨c2, c⟩]; omega
        · rw [mnd_2 hq (fun q => c2 q.1)]; omega
      · rw [mdm_2 hq (by rw [e1, e2]; exact c), mnd_2 hq (fun q => c q.2)]; exact ih
theorem exN_le {σ : gS} {n : Nat} : exN σ n = 4 ∨ exN σ n = 5 := by
  unfold exN
  split
  · exact Or.inl rfl
  · exact Or.inr rfl
theorem exN_mono {σ : gS} {n m : Nat} (h : n ≤ m) : exN σ m ≤ exN σ n := by
  unfold exN
  by_cases h1 : exf σ n = true
  · obtain ⟨k, hk, h2⟩ := exf_iff.mp h1
    rw [if_pos h1, if_pos (exf_iff.mpr ⟨k, by omega, h2⟩)]
    exact Nat.le_refl 4
  · rw [if_neg h1]
    split <;> omega
theorem exN_1 {σ : gS} {n : Nat} (h1 : (eyv (sEy σ n)).toInt = (-1 : Int32).toInt) (h2 : 4 ≤ nsm (fm σ n) (gNS σ)) : exN σ (n + 1) = 4 := if_pos (exf_iff.mpr ⟨n, by omega, h1, h2⟩)
theorem exN_0 {σ : gS} {n : Nat} (h : ¬ ((eyv (sEy σ n)).toInt = (-1 : Int32).toInt ∧ 4 ≤ nsm (fm σ n) (gNS σ))) : exN σ (n + 1) = exN σ n := by
  unfold exN
  rw [exf]
  rcases h1 : decide ((eyv (sEy σ n)).toInt = (-1 : Int32).toInt) && decide (4 ≤ nsm (fm σ n) (gNS σ)) with _ | _
  · rw [Bool.or_false]
  · rw [Bool.and_eq_true_iff, decide_eq_true_iff, decide_eq_true_iff] at h1
    exact absurd h1 h
