/-! WHAT THE PROPERTY NEEDS OF THE STATES -/
/-- twists from -4 to 4; in the furnace a cane, or none -/
def ok2 (σ : gS) : Prop := (∀ i, i < gNC σ → -4 ≤ (cTw σ i).toInt ∧ (cTw σ i).toInt ≤ 4) ∧ -1 ≤ (gFu σ).toInt ∧ (gFu σ).toInt < (gNC σ : Int)
/-- how a state stands to the one before it, when g minutes have gone by -/
def rel (g : Nat) (σ τ : gS) : Prop := gNC τ = gNC σ ∧ gNB τ = gNB σ ∧ gNS σ ≤ gNS τ ∧ (∀ k, k < gNS σ → sPt τ k = sPt σ k) ∧ (∀ k, k < gNC σ → cHt τ k ≤ cHt σ k + 3 * g ∧ cHt σ k ≤ cHt τ k + g + 1 ∧ (g = 0 → cHt τ k = cHt σ k) ∧ (cCr σ k = true → cCr τ k = true)) ∧ gMi τ = gMi σ + nI g
theorem nI0_add (x : Int32) : x = x + nI 0 := by
  show x = x + 0
  rw [Int32.add_zero]
theorem rel_0 {σ : gS} : rel 0 σ σ := ⟨rfl, rfl, Nat.le_refl _, fun _ _ => rfl, fun k _ => ⟨by omega, by omega, fun _ => rfl, fun h => h⟩, nI0_add _⟩
theorem pass_at {σ : gS} {k : Nat} (h : k < gNC σ) : (sPass σ).2.1 k = aged σ k := if_pos h
theorem aged_ht {σ : gS} {k : Nat} : (aged σ k).2.2.1 ≤ cHt σ k + 3 ∧ cHt σ k ≤ (aged σ k).2.2.1 + 1 ∨ 10 < cHt σ k := by
  unfold aged
  show ((if decide (nI k = gFu σ) = true then min (cHt σ k + 3) 10 else cHt σ k - 1) ≤ cHt σ k + 3 ∧ cHt σ k ≤ (if decide (nI k = gFu σ) = true then min (cHt σ k + 3) 10 else cHt σ k - 1) + 1) ∨ _
  by_cases q : 10 < cHt σ k
  · exact Or.inr q
  · refine Or.inl ?_
    split <;> omega
theorem rel_pass {σ τ : gS} {g : Nat} (h10 : ∀ k, k < gNC σ → cHt τ k ≤ 10) (hC : gNC τ = gNC σ) (hB : gNB τ = gNB σ) (hS : gNS σ ≤ gNS τ) (hP : ∀ k, k < gNS σ → sPt τ k = sPt σ k) (hk : ∀ k, k < gNC σ → cHt τ k ≤ cHt σ k + 3 * g ∧ cHt σ k ≤ cHt τ k + g + 1 ∧ (cCr σ k = true → cCr τ k = true)) (hM : gMi τ = gMi σ + nI g) : rel (g + 1) σ (sPass τ) := by
  refine ⟨hC, hB, hS, hP, fun k hk2 => ?_, ?_⟩
  · have e := pass_at (σ := τ) (k := k) (by rw [hC]; exact hk2)
    have e1 : cHt (sPass τ) k = (aged τ k).2.2.1 := by show ((sPass τ).2.1 k).2.2.1 = _; rw [e]
    have e2 : cCr (sPass τ) k = cCr τ k := by show ((sPass τ).2.1 k).2.2.2.1 = _; rw [e]; rfl
    have h1 := hk k hk2
    have h2 := h10 k hk2
    have h3 := aged_ht (σ := τ) (k := k)
    rw [e1, e2]
    refine ⟨by omega, by omega, fun q => by omega, h1.2.2⟩
  · show gMi τ + nI 1 = _
    rw [hM, Int32.add_assoc, nI_add]
theorem rel_itP {σ : gS} (hO : okS σ) : ∀ n, rel n σ (itP σ n)
  | 0 => rel_0
  | n + 1 => by
    obtain ⟨r1, r2, r3, r4, r5, r6⟩ := rel_itP hO n
    have h9 := ok_itP hO n
    exact rel_pass (fun k hk => (h9.2.2.2.1 k (by rw [r1]; exact hk)).2.1) r1 r2 r3 r4 (fun k hk => ⟨(r5 k hk).1, (r5 k hk).2.1, (r5 k hk).2.2.2⟩) r6
/-- what becomes of a cane that is worked -/
def wkq (σ : gS) (c k : Nat) (q : gCn) : gCn := if k ≤ cHt σ c then q else (cLen σ c, cTw σ c, cHt σ c, true, cPt σ c)
theorem wk_cr {σ : gS} {c k : Nat} {q : gCn} (hq : q.2.2.2.1 = cCr σ c) (h0 : cCr σ c = false) (hc : c < gNC σ) : cCr (sWk σ c k q) c = !decide (k ≤ cHt σ c) := by
  have e := pass_at (σ := uCan σ c (wkq σ c k q)) (k := c) hc
  show ((sPass (uCan σ c (wkq σ c k q))).2.1 c).2.2.2.1 = _
  rw [e]
  show (va_up σ.2.1 c (wkq σ c k q) c).2.2.2.1 = _
  rw [va_up_self]
  unfold wkq
  by_cases h : k ≤ cHt σ c
  · rw [if_pos h, decide_eq_true h, hq, h0]; rfl
  · rw [if_neg h, decide_eq_false h]; rfl
theorem rel_sWk {σ : gS} (hO : okS σ) {c k : Nat} {q : gCn} (hc : c < gNC σ) (hq : q.2.2.1 = cHt σ c - 1 ∧ q.2.2.2.1 = cCr σ c) : rel 1 σ (sWk σ c k q) := by
  have key : ∀ j, j < gNC σ → cHt (uCan σ c (wkq σ c k q)) j ≤ cHt σ j ∧ cHt σ j ≤ cHt (uCan σ c (wkq σ c k q)) j + 1 ∧ (cCr σ j = true → cCr (uCan σ c (wkq σ c k q)) j = true) := by
    intro j hj
    show (va_up σ.2.1 c (wkq σ c k q) j).2.2.1 ≤ _ ∧ _ ≤ (va_up σ.2.1 c (wkq σ c k q) j).2.2.1 + 1 ∧ (_ → (va_up σ.2.1 c (wkq σ c k q) j).2.2.2.1 = true)
    by_cases e : j = c
    · subst e
      rw [va_up_self]
      unfold wkq
      by_cases h : k ≤ cHt σ j
      · rw [if_pos h, hq.1, hq.2]
        exact ⟨by omega, by omega, fun h9 => h9⟩
      · rw [if_neg h]
        exact ⟨Nat.le_refl _, by show cHt σ j ≤ cHt σ j + 1; omega, fun _ => rfl⟩
    · rw [va_up_ne _ _ e]
      exact ⟨Nat.le_refl _, by show cHt σ j ≤ cHt σ j + 1; omega, fun h => h⟩
  refine rel_pass (σ := σ) (τ := uCan σ c (wkq σ c k q)) (g := 0) (fun j hj => ?_) rfl rfl (Nat.le_refl _) (fun _ _ => rfl) (fun j hj => ?_) (nI0_add _)
  · have h1 := (key j hj).1
    have h2 := (hO.2.2.2.1 j hj).2.1
    omega
  · have h1 := key j hj
    exact ⟨by omega, by omega, h1.2.2⟩
theorem rel_fu {σ : gS} {x : Int32} : rel 0 σ (uObj σ (gNB σ) x (gMi σ)) := ⟨rfl, rfl, Nat.le_refl _, fun _ _ => rfl, fun k _ => ⟨by show cHt σ k ≤ _; omega, by show cHt σ k ≤ cHt σ k + 0 + 1; omega, fun _ => rfl, fun h => h⟩, nI0_add _⟩
theorem rel_cut {σ : gS} {c : Nat} : rel 0 σ (s_cut σ c) := by
  refine ⟨rfl, rfl, Nat.le_succ _, fun k hk => ?_, fun k _ => ?_, nI0_add _⟩
  · show (va_up σ.2.2.2.1 (gNS σ) _ k).1 = _
    rw [va_up_ne _ _ (by omega)]
  · show (va_up σ.2.1 c (cLen σ c - 1, cTw σ c, cHt σ c, cCr σ c, cPt σ c) k).2.2.1 ≤ _ ∧ _ ≤ (va_up σ.2.1 c (cLen σ c - 1, cTw σ c, cHt σ c, cCr σ c, cPt σ c) k).2.2.1 + 0 + 1 ∧ (_ → (va_up σ.2.1 c (cLen σ c - 1, cTw σ c, cHt σ c, cCr σ c, cPt σ c) k).2.2.1 = _) ∧ (_ → (va_up σ.2.1 c (cLen σ c - 1, cTw σ c, cHt σ c, cCr σ c, cPt σ c) k).2.2.2.1 = true)
    by_cases e : k = c
    · subst e
      rw [va_up_self]
      exact ⟨by show cHt σ k ≤ _; omega, by show cHt σ k ≤ cHt σ k + 0 + 1; omega, fun _ => rfl, fun h => h⟩
    · rw [va_up_ne _ _ e]
      exact ⟨by show cHt σ k ≤ _; omega, by show cHt σ k ≤ cHt σ k + 0 + 1; omega, fun _ => rfl, fun h => h⟩
theorem rel_set {σ : gS} {k x t : Nat} : rel 0 σ (s_set σ k x t) := by
  refine ⟨rfl, rfl, Nat.le_refl _, fun j _ => ?_, fun j _ => ⟨by show cHt σ j ≤ _; omega, by show cHt σ j ≤ cHt σ j + 0 + 1; omega, fun _ => rfl, fun h => h⟩, nI0_add _⟩
  show (va_up σ.2.2.2.1 x _ j).1 = _
  by_cases e : j = x
  · subst e; rw [va_up_self]
  · rw [va_up_ne _ _ e]
-- twists and furnace
theorem ok2_0 : ok2 s_0 := ⟨fun i hi => absurd hi (Nat.not_lt_zero i), by decide, by decide⟩
theorem ok2_begin {σ : gS} (h : ok2 σ) : ok2 (s_begin σ) := by
  refine ⟨fun i hi => ?_, h.2.1, ?_⟩
  · show -4 ≤ (va_up σ.2.1 (gNC σ) (8, nI 0, 10, false, fun _ => 0) i).2.1.toInt ∧ (va_up σ.2.1 (gNC σ) (8, nI 0, 10, false, fun _ => 0) i).2.1.toInt ≤ 4
    by_cases e : i = gNC σ
    · subst e
      rw [va_up_self]
      exact ⟨by show -4 ≤ (nI 0).toInt; decide, by show (nI 0).toInt ≤ 4; decide⟩
    · rw [va_up_ne _ _ e]
      have hi2 : i < gNC σ + 1 := hi
      exact h.1 i (by omega)
  · have := h.2.2
    show (gFu σ).toInt < ((gNC σ + 1 : Nat) : Int)
    omega
theorem ok2_bead {σ : gS} (h : ok2 σ) {nb : Nat} {mi : Int32} : ok2 (uObj σ nb (gFu σ) mi) := h
theorem ok2_fu {σ : gS} (h : ok2 σ) {x : Int32} {nb : Nat} {mi : Int32} (h0 : -1 ≤ x.toInt) (h1 : x.toInt < (gNC σ : Int)) : ok2 (uObj σ nb x mi) := ⟨h.1, h0, h1⟩
theorem ok2_pass {σ : gS} (h : ok2 σ) : ok2 (sPass σ) := by
  refine ⟨fun i hi => ?_, h.2.1, h.2.2⟩
  have e := pass_at (σ := σ) (k := i) hi
  show -4 ≤ ((sPass σ).2.1 i).2.1.toInt ∧ ((sPass σ).2.1 i).2.1.toInt ≤ 4
  rw [e]
  exact h.1 i hi
theorem ok2_itP {σ : gS} (h : ok2 σ) : ∀ n, ok2 (itP σ n)
  | 0 => h
  | n + 1 => ok2_pass (ok2_itP h n)
theorem ok2_sWk {σ : gS} (h : ok2 σ) {c k : Nat} {q : gCn} (hc : c < gNC σ) (hq : -4 ≤ q.2.1.toInt ∧ q.2.1.toInt ≤ 4) : ok2 (sWk σ c k q) := by
  refine ok2_pass (σ := uCan σ c (wkq σ c k q)) ⟨fun i hi => ?_, h.2.1, h.2.2⟩
  show -4 ≤ (va_up σ.2.1 c (wkq σ c k q) i).2.1.toInt ∧ (va_up σ.2.1 c (wkq σ c k q) i).2.1.toInt ≤ 4
  by_cases e : i = c
  · subst e
    rw [va_up_self]
    unfold wkq
    by_cases h9 : k ≤ cHt σ i
    · rw [if_pos h9]; exact hq
    · rw [if_neg h9]; exact h.1 i hc
  · rw [va_up_ne _ _ e]; exact h.1 i hi
theorem ok2_cut {σ : gS} (h : ok2 σ) {c : Nat} (hc : c < gNC σ) : ok2 (s_cut σ c) := by
  refine ⟨fun i hi => ?_, h.2.1, h.2.2⟩
  show -4 ≤ (va_up σ.2.1 c (cLen σ c - 1, cTw σ c, cHt σ c, cCr σ c, cPt σ c) i).2.1.toInt ∧ (va_up σ.2.1 c (cLen σ c - 1, cTw σ c, cHt σ c, cCr σ c, cPt σ c) i).2.1.toInt ≤ 4
  by_cases e : i = c
  · subst e; rw [va_up_self]; exact h.1 i hc
  · rw [va_up_ne _ _ e]; exact h.1 i hi
theorem ok2_set {σ : gS} (h : ok2 σ) {k x t : Nat} : ok2 (s_set σ k x t) := h
theorem inT_b {x : Int32} (h : inT x = true) : -4 ≤ x.toInt ∧ x.toInt ≤ 4 := by
  have h1 := of_decide_eq_true h
  have h2 : (-4 : Int32).toInt = -4 := by decide
  omega
theorem half_b {x : Int32} (h : -4 ≤ x.toInt ∧ x.toInt ≤ 4) : -4 ≤ (x / nI 2).toInt ∧ (x / nI 2).toInt ≤ 4 := by
  have hd : (x / nI 2).toInt = x.toInt.tdiv 2 := by
    rw [Int32.toInt_div_of_ne_right _ _ (by decide)]
    rfl
  rw [hd]
  rcases (show x.toInt = -4 ∨ x.toInt = -3 ∨ x.toInt = -2 ∨ x.toInt = -1 ∨ x.toInt = 0 ∨ x.toInt = 1 ∨ x.toInt = 2 ∨ x.toInt = 3 ∨ x.toInt = 4 by omega) with e | e | e | e | e | e | e | e | e <;> rw [e] <;> decide
/-- what a catcher of a work leaves: -1 and nothing done, or 1 or 0 -/
def wkP (σ : gS) (c w : Nat) (z : Int32) (τ : gS) : Prop := (z = -1 ∧ τ = σ) ∨ (cCr σ c = false ∧ z = hbv (decide (2 + 2 * w ≤ cHt σ c)) ∧ rel 1 σ τ ∧ okS τ ∧ ok2 τ ∧ cCr τ c = !decide (2 + 2 * w ≤ cHt σ c))
-- sums
theorem nsm_mono {f g : Nat → Nat} : ∀ {n : Nat}, (∀ k, k < n → f k ≤ g k) → nsm f n ≤ nsm g n
  | 0, _ => Nat.le_refl _
  | n + 1, h => by
    have h1 := nsm_mono (f := f) (g := g) (n := n) (fun k hk => h k (by omega))
    have h2 := h n (by omega)
    rw [nsm, nsm]
    omega
theorem nsm_two {f g : Nat → Nat} : ∀ {n : Nat}, (∀ k, k < n → f k + g k ≤ 1) → nsm f n + nsm g n ≤ n
  | 0, _ => Nat.le_refl _
  | n + 1, h => by
    have h1 := nsm_two (f := f) (g := g) (n := n) (fun k hk => h k (by omega))
    have h2 := h n (by omega)
    rw [nsm, nsm]
    omega
theorem nsm_one {f : Nat → Nat} : ∀ {n : Nat}, (∀ k, k < n → f k ≤ 1) → nsm f n = n → ∀ k, k < n → f k = 1
  | 0, _, _ => fun k hk => absurd hk (Nat.not_lt_zero k)
  | n + 1, h, e => fun k hk => by
    have h1 := nsm_le (f := f) (c := 1) (n := n) (fun k hk => h k (by omega))
    have h2 := h n (by omega)
    rw [nsm] at e
    rcases Nat.lt_or_ge k n with q | q
    · exact nsm_one (n := n) (fun k hk => h k (by omega)) (by omega) k q
    · have : k = n := by omega
      subst this
      omega
theorem nsm_all {f : Nat → Nat} : ∀ {n : Nat}, (∀ k, k < n → f k = 1) → nsm f n = n
  | 0, _ => rfl
  | n + 1, h => by rw [nsm, nsm_all (fun k hk => h k (by omega)), h n (by omega)]
/-- the empty eyes of a bead, its first n -/
def emp (σ : gS) (b n : Nat) : Nat := nsm (fun k => 1 - ie σ (4 * b + k)) n
theorem el_ie {σ : gS} {b c k : Nat} : el σ b c k ≤ ie σ (4 * b + k) := by
  rcases h : gEy σ (4 * b + k) with _ | ⟨s, t⟩
  · rw [el_0 h, ie_0 h]; omega
  · have := el_le (σ := σ) (b := b) (c := c) (k := k)
    rw [ie_1 h]; exact this
theorem el_emp {σ : gS} {b c : Nat} : nsm (el σ b c) 4 + emp σ b 4 ≤ 4 := nsm_two (fun k _ => by
  have h1 := el_ie (σ := σ) (b := b) (c := c) (k := k)
  show el σ b c k + (1 - ie σ (4 * b + k)) ≤ 1
  have h2 : ie σ (4 * b + k) ≤ 1 := by unfold ie; split <;> omega
  omega)
theorem emp_le {σ : gS} {b : Nat} : emp σ b 4 ≤ 4 := by
  have := nsm_le (f := fun k => 1 - ie σ (4 * b + k)) (c := 1) (n := 4) (fun k _ => by show 1 - _ ≤ 1; omega)
  unfold emp
  omega
/-- slices in eyes -/
def inE (σ : gS) (n : Nat) : Nat := nsm (fun k => if (sEy σ k).isSome then 1 else 0) n
theorem inE_le {σ : gS} {n : Nat} : inE σ n ≤ n := by
  have := nsm_le (f := fun k => if (sEy σ k).isSome then 1 else 0) (c := 1) (n := n) (fun k _ => by show (if _ then 1 else 0) ≤ 1; split <;> omega)
  unfold inE
  omega
theorem inE_all {σ : gS} (hO : okS σ) : inE σ (gNS σ) = nsm (ie σ) 24 := hO.2.2.2.2.2.2.2.symm
theorem fr_inE {σ : gS} {k : Nat} (hO : okS σ) : nsm (fr σ k) (gNS σ) + inE σ (gNS σ) ≤ gNS σ := nsm_two (fun j hj => by
  show fr σ k j + (if (sEy σ j).isSome then 1 else 0) ≤ 1
  unfold fr
  rcases h : sEy σ j with _ | x
  · simp
    split <;> omega
  · have h24 := ok_ey hO hj h
    rw [if_neg (fun q => by have := (eyv_none (o := some x) (fun e he => by cases he; exact h24)).mp q.1; cases this)]
    simp)
/-- no fewer than are empty, no more than four, no more than are free -/
theorem mnd_b {σ : gS} (hO : okS σ) {b : Nat} : ∀ n, mnd σ b n = 5 ∨ (mnd σ b n ≤ 4 ∧ emp σ b 4 ≤ mnd σ b n ∧ mnd σ b n + inE σ (gNS σ) ≤ gNS σ)
  | 0 => by
    rw [mnd]
    by_cases h : cfb σ = true
    · rw [if_pos h]
      refine Or.inr ⟨Nat.le_refl _, emp_le, ?_⟩
      have h1 := of_decide_eq_true h
      have h2 := of_decide_eq_true (frst_yes h1)
      have h3 := fr_inE hO (k := frst (fun k => decide (4 ≤ nsm (fr σ k) (gNS σ))) (gNS σ))
      omega
    · rw [if_neg h]; exact Or.inl rfl
  | n + 1 => by
    have ih := mnd_b hO (b := b) n
    rcases h : gEy σ (4 * b + n) with _ | ⟨s, t⟩
    · rw [mnd_0 h]; exact ih
    · by_cases c : 4 - nsm (el σ b s) 4 < mnd σ b n ∧ 4 - nsm (el σ b s) 4 ≤ nsm (fr σ (sKd σ s)) (gNS σ)
      · rw [mnd_1 h c]
        have h1 := el_emp (σ := σ) (b := b) (c := s)
        have h2 := fr_inE hO (k := sKd σ s)
        exact Or.inr ⟨by omega, by omega, by omega⟩
      · rw [mnd_2 h c]; exact ih
theorem mnd_z {σ : gS} {b : Nat} : ∀ n, mnd σ b n = 0 ↔ ∃ k s t, k < n ∧ gEy σ (4 * b + k) = some (s, t) ∧ nsm (el σ b s) 4 = 4
  | 0 => by
    rw [mnd]
    refine ⟨fun h => by split at h <;> omega, fun ⟨k, _, _, h, _⟩ => absurd h (Nat.not_lt_zero k)⟩
  | n + 1 => by
    have ih := mnd_z (σ := σ) (b := b) n
    rcases h : gEy σ (4 * b + n) with _ | ⟨s, t⟩
    · rw [mnd_0 h, ih]
      refine ⟨fun ⟨k, s, t, h1, h2⟩ => ⟨k, s, t, by omega, h2⟩, fun ⟨k, s, t, h1, h2, h3⟩ => ⟨k, s, t, ?_, h2, h3⟩⟩
      rcases Nat.lt_or_ge k n with q | q
      · exact q
      · have : k = n := by omega
        subst this
        rw [h] at h2
        cases h2
    · have hle : nsm (el σ b s) 4 ≤ 4 := by
        have := el_emp (σ := σ) (b := b) (c := s)
        omega
      by_cases c : 4 - nsm (el σ b s) 4 < mnd σ b n ∧ 4 - nsm (el σ b s) 4 ≤ nsm (fr σ (sKd σ s)) (gNS σ)
      · rw [mnd_1 h c]
        refine ⟨fun q => ⟨n, s, t, by omega, h, by omega⟩, fun ⟨k, s2, t2, h1, h2, h3⟩ => ?_⟩
        rcases Nat.lt_or_ge k n with q | q
        · have := ih.mpr ⟨k, s2, t2, q, h2, h3⟩
          omega
        · have : k = n := by omega
          subst this
          rw [h] at h2
          cases h2
          omega
      · rw [mnd_2 h c, ih]
        refine ⟨fun ⟨k, s, t, h1, h2⟩ => ⟨k, s, t, by omega, h2⟩, fun ⟨k, s2, t2, h1, h2, h3⟩ => ?_⟩
        rcases Nat.lt_or_ge k n with q | q
        · exact ⟨k, s2, t2, q, h2, h3⟩
        · have : k = n := by omega
          subst this
          rw [h] at h2
          cases h2
          exact ih.mp (by omega)
-- looking alike
theorem m8_j {j : Nat} (h : j < 8) : m8 (nI j) = j := by rw [m8_nI (by omega)]; omega
/-- one look, turned a, is the other one's, turned b -/
theorem like_ab {P Q : Nat → Nat} {a b : Nat} (ha : a < 8) (hb : b < 8) : like P (nI a - nI b) Q = true ↔ ∀ r s, r < 3 → s < 8 → P (8 * r + (s + 8 - a) % 8) = Q (8 * r + (s + 8 - b) % 8) := by
  have hm : m8 (nI a - nI b) = (a + 8 - b) % 8 := by rw [m8_sub ha, m8_j hb]
  refine ⟨fun h r s hr hs => ?_, fun h => like_t fun r hr s hs => ?_⟩
  · have h1 := like_iff.mp h (8 * r + (s + 8 - b) % 8) (by omega)
    rw [rot_at (by omega), hm] at h1
    rw [← h1]
    congr 1
    omega
  · have h1 := h r ((s + b) % 8) hr (by omega)
    rw [hm]
    have e1 : ((s + b) % 8 + 8 - a) % 8 = (s + 8 - (a + 8 - b) % 8) % 8 := by omega
    have e2 : ((s + b) % 8 + 8 - b) % 8 = s := by omega
    rw [e1, e2] at h1
    exact h1
theorem el_like {σ : gS} (hO : okS σ) {b c k s t : Nat} (h : gEy σ (4 * b + k) = some (s, t)) : el σ b c k = 1 ↔ like (sPt σ s) (nI t - nI (trn σ c)) (sPt σ c) = true := by
  have e := trn_of hO h
  by_cases h1 : like (sPt σ s) (nI (trn σ s) - nI (trn σ c)) (sPt σ c) = true
  · rw [el_1 h h1, ← e]; exact ⟨fun _ => h1, fun _ => rfl⟩
  · rw [el_2 h (Bool.eq_false_iff.mpr h1), ← e]; exact ⟨fun q => (by cases q), fun q => absurd q h1⟩
/-- if all look like one of them, all look like the first -/
theorem el_first {σ : gS} (hO : okS σ) {b k s t : Nat} (hk : k < 4) (h : gEy σ (4 * b + k) = some (s, t)) (h4 : nsm (el σ b s) 4 = 4) : ∃ s0 t0, gEy σ (4 * b) = some (s0, t0) ∧ nsm (el σ b s0) 4 = 4 := by
  have h1 := nsm_one (fun j _ => el_le (σ := σ) (b := b) (c := s) (k := j)) h4
  have look : ∀ j, j < 4 → ∃ x u, gEy σ (4 * b + j) = some (x, u) ∧ u < 8 ∧ ∀ r z, r < 3 → z < 8 → sPt σ x (8 * r + (z + 8 - u) % 8) = sPt σ s (8 * r + (z + 8 - t) % 8) := by
    intro j hj
    rcases hq : gEy σ (4 * b + j) with _ | ⟨x, u⟩
    · have := h1 j hj
      rw [el_0 hq] at this
      cases this
    · have hu := (hO.2.2.2.2.2.1 _ _ _ hq).2.2.1
      have ht := (hO.2.2.2.2.2.1 _ _ _ h).2.2.1
      have h2 := (el_like hO hq).mp (h1 j hj)
      rw [trn_of hO h] at h2
      exact ⟨x, u, rfl, hu, (like_ab hu ht).mp h2⟩
  obtain ⟨s0, t0, g0, u0, l0⟩ := look 0 (by omega)
  have g0' : gEy σ (4 * b) = some (s0, t0) := g0
  refine ⟨s0, t0, g0', nsm_all fun j hj => ?_⟩
  obtain ⟨x, u, g1, u1, l1⟩ := look j hj
  rw [el_like hO g1, trn_of hO g0', like_ab u1 u0]
  intro r z hr hz
  rw [l1 r z hr hz, l0 r z hr hz]
theorem bl_mnd {σ : gS} (hO : okS σ) {b : Nat} : bl σ b = if mnd σ b 4 = 0 then 1 else 0 := by
  by_cases h : mnd σ b 4 = 0
  · rw [if_pos h]
    obtain ⟨k, s, t, h1, h2, h3⟩ := (mnd_z 4).mp h
    obtain ⟨s0, t0, g0, g4⟩ := el_first hO h1 h2 h3
    exact bl_1 g0 g4
  · rw [if_neg h]
    rcases hq : gEy σ (4 * b) with _ | ⟨s, t⟩
    · exact bl_0 hq
    · by_cases h4 : nsm (el σ b s) 4 = 4
      · exact absurd ((mnd_z 4).mpr ⟨0, s, t, by omega, hq, h4⟩) h
      · exact bl_2 hq h4
-- turns there and back
theorem like_back {P Q : Nat → Nat} {t : Nat} (ht : t < 8) (h : like P (nI t) Q = true) : like Q (nI ((8 - t) % 8)) P = true := by
  refine like_t fun r hr s hs => ?_
  rw [m8_j (by omega)]
  have h1 := like_iff.mp h (8 * r + (s + 8 - (8 - t) % 8) % 8) (by omega)
  rw [rot_at (by omega), m8_j ht] at h1
  rw [← h1]
  congr 1
  omega
theorem lturn_le {P Q : Nat → Nat} : lturn P Q ≤ 8 := frst_le _ 8
theorem lturn_lt {P Q : Nat → Nat} : lturn P Q < 8 ↔ ∃ t, t < 8 ∧ like P (nI t) Q = true := by
  refine ⟨fun h => ⟨lturn P Q, h, frst_yes h⟩, fun ⟨t, ht, h⟩ => ?_⟩
  rcases Nat.lt_or_ge t (lturn P Q) with q | q
  · have h2 : like P (nI t) Q = false := frst_no (p := fun t => like P (nI t) Q) q
    rw [h] at h2
    cases h2
  · omega
theorem lturn_sym {P Q : Nat → Nat} : lturn P Q < 8 ↔ lturn Q P < 8 := by
  rw [lturn_lt, lturn_lt]
  exact ⟨fun ⟨t, ht, h⟩ => ⟨(8 - t) % 8, by omega, like_back ht h⟩, fun ⟨t, ht, h⟩ => ⟨(8 - t) % 8, by omega, like_back ht h⟩⟩
theorem lturn_0 {P Q : Nat → Nat} : lturn P Q = 0 ↔ like P (nI 0) Q = true := by
  refine ⟨fun h => ?_, fun h => frst_is (by omega) (fun k hk => absurd hk (Nat.not_lt_zero k)) (fun _ => h)⟩
  have h1 : lturn P Q < 8 := by omega
  have h2 : like P (nI (lturn P Q)) Q = true := frst_yes h1
  rw [h] at h2
  exact h2
theorem lturn_0s {P Q : Nat → Nat} : lturn P Q = 0 ↔ lturn Q P = 0 := by
  rw [lturn_0, lturn_0]
  exact ⟨fun h => like_back (t := 0) (by omega) h, fun h => like_back (t := 0) (by omega) h⟩
