/-! CUTTING, TURNING, THE MEAN -/
theorem turn_F {F : Nat → Int32} {P : Nat → Nat} {x : Int32} {i j : Nat} (hj : j < 8) (hF : ∀ k, k < 8 * i + j → F k = nI (rot x P k)) : ∀ k, k < 8 * i + (j + 1) → va_up F (8 * i + j) (nI (P (8 * i + (j + 8 - m8 x) % 8))) k = nI (rot x P k) := by
  intro k hk
  by_cases w : k = 8 * i + j
  · subst w
    rw [va_up_self, rot_at hj]
  · rw [va_up_ne _ _ w]
    exact hF k (by omega)
/-- nothing of the class has moved; a new slice's cells have come -/
theorem gX.keepN {D : hG} {σ : gS} {ad ad' : Nat → Nat} {ct ct' : hC} (h : gX D σ ad ct) (hO : okS σ) (h1 : ∀ z : Nat, z ≠ 16 * gNS σ + 6 → z ≠ 16 * gNS σ + 7 → z ≠ 16 * gNS σ + 8 → ct' z = ct z) (ha : ∀ z : Nat, z ≠ 16 * gNS σ + 6 → z ≠ 16 * gNS σ + 7 → z ≠ 16 * gNS σ + 8 → ad' z = ad z) : gX D σ ad' ct' := by
  obtain ⟨g1, g2, g3, g4, g5, g6⟩ := h
  refine ⟨?_, ?_, ?_, ?_, fun i hi => (g5 i hi).keep (fun z hz => h1 z (by omega) (by omega) (by omega)) (fun z hz => ha z (by omega) (by omega) (by omega)), fun i hi => (g6 i hi).keep (fun z hz => h1 z (by omega) (by omega) (by omega)) (fun z hz => ha z (by omega) (by omega) (by omega))⟩
  · rw [h1 0 (by omega) (by omega) (by omega), ha 16 (by omega) (by omega) (by omega), ha 32 (by omega) (by omega) (by omega), ha 48 (by omega) (by omega) (by omega)]; exact g1
  · rw [h1 16 (by omega) (by omega) (by omega), g2]
    have : (fun i => if i < gNC σ then some (ad (16 * i + 3)) else none) = (fun i => if i < gNC σ then some (ad' (16 * i + 3)) else none) := by
      funext i
      rw [ha (16 * i + 3) (by omega) (by omega) (by omega)]
    rw [this]
  · rw [h1 32 (by omega) (by omega) (by omega), g3]
    have : (fun i => if i < gNS σ then some (ad (16 * i + 6)) else none) = (fun i => if i < gNS σ then some (ad' (16 * i + 6)) else none) := by
      funext i
      by_cases h9 : i < gNS σ
      · rw [if_pos h9, if_pos h9, ha (16 * i + 6) (by omega) (by omega) (by omega)]
      · rw [if_neg h9, if_neg h9]
    rw [this]
  · rw [h1 48 (by omega) (by omega) (by omega), g4]
    have hE : ∀ (k : Nat), (gEy σ k).map (fun q => ad (16 * q.1 + 6)) = (gEy σ k).map (fun q => ad' (16 * q.1 + 6)) := fun k => by
      rcases hk : gEy σ k with _ | ⟨s, t⟩
      · rfl
      · have hs9 := (hO.2.2.2.2.2.1 _ _ _ hk).2.1
        show some (ad (16 * s + 6)) = some (ad' (16 * s + 6))
        rw [ha (16 * s + 6) (by omega) (by omega) (by omega)]
    rw [funext hE]
/-- a slice is cut -/
theorem trn_cut {σ : gS} (h : okS σ) {c : Nat} : trn (s_cut σ c) (gNS σ) = 0 ∧ ∀ s, s < gNS σ → trn (s_cut σ c) s = trn σ s := by
  have old : ∀ j, j < gNS σ → (s_cut σ c).2.2.2.1 j = σ.2.2.2.1 j := fun j hj => va_up_ne _ _ (by omega)
  have new : (s_cut σ c).2.2.2.1 (gNS σ) = (p_cut σ c, knd σ (p_cut σ c) (gNS σ), none) := va_up_self _ _ _
  refine ⟨?_, fun s hs => ?_⟩
  · unfold trn
    show (match ((s_cut σ c).2.2.2.1 (gNS σ)).2.2 with | none => 0 | some k => match (s_cut σ c).2.2.2.2.2.1 k with | none => 0 | some q => q.2) = 0
    rw [new]
  · unfold trn
    show (match ((s_cut σ c).2.2.2.1 s).2.2 with | none => 0 | some k => match (s_cut σ c).2.2.2.2.2.1 k with | none => 0 | some q => q.2) = _
    rw [old s hs]
    rfl
theorem gX.cut {D : hG} {σ : gS} {ad ad' : Nat → Nat} {ct ct' : hC} (h : gX D σ ad ct) (hO : okS σ) {c : Nat} (hc : c < gNC σ)
    (h0 : ct' 0 = some (eO 3 [.ref (ad' 16), .ref (ad' 32), .ref (ad' 48), .int (nI (gNC σ)), .int (nI (gNS σ + 1)), .int (nI (gNB σ)), .int (gFu σ), .int (gMi σ)]))
    (h2 : ct' 32 = some (eQ (D.2 2) 60 (va_up (fun i => if i < gNS σ then some (ad (16 * i + 6)) else none) (gNS σ) (some (ad' (16 * gNS σ + 6))))))
    (hs : ct' (16 * gNS σ + 6) = some (eO 2 [.int (nI (gNS σ)), .ref (ad' (16 * gNS σ + 7)), .int (nI (knd σ (p_cut σ c) (gNS σ))), .int (-1), .int (nI 0)])) (hp : hPat D ad' ct' (16 * gNS σ + 7) (p_cut σ c))
    (hk : ct' (16 * c + 3) = some (eO 0 [.ref (ad' (16 * c + 4)), .int (nI (cLen σ c - 1)), .int (cTw σ c), .int (nI (cHt σ c)), .int (hbv (cCr σ c))]))
    (hne : ∀ z : Nat, z ≠ 0 → z ≠ 32 → z ≠ 16 * c + 3 → z ≠ 16 * gNS σ + 6 → z ≠ 16 * gNS σ + 7 → z ≠ 16 * gNS σ + 8 → ct' z = ct z) (hna : ∀ z : Nat, z ≠ 16 * gNS σ + 6 → z ≠ 16 * gNS σ + 7 → z ≠ 16 * gNS σ + 8 → ad' z = ad z) : gX D (s_cut σ c) ad' ct' := by
  obtain ⟨g1, g2, g3, g4, g5, g6⟩ := h
  refine ⟨h0, ?_, ?_, ?_, fun j hj => ?_, fun j hj => ?_⟩
  · rw [hne 16 (by omega) (by omega) (by omega) (by omega) (by omega) (by omega), g2]
    congr 2
    funext i
    show (if i < gNC σ then some (ad (16 * i + 3)) else none) = if i < gNC σ then some (ad' (16 * i + 3)) else none
    rw [hna (16 * i + 3) (by omega) (by omega) (by omega)]
  · rw [h2]
    congr 2
    funext i
    show va_up _ _ _ i = if i < gNS σ + 1 then some (ad' (16 * i + 6)) else none
    unfold va_up
    by_cases w : i = gNS σ
    · subst w
      rw [if_pos rfl, if_pos (by omega)]
    · rw [if_neg w]
      show (if i < gNS σ then some (ad (16 * i + 6)) else none) = _
      by_cases w2 : i < gNS σ
      · rw [if_pos w2, if_pos (by omega), hna (16 * i + 6) (by omega) (by omega) (by omega)]
      · rw [if_neg w2, if_neg (by omega)]
  · rw [hne 48 (by omega) (by omega) (by omega) (by omega) (by omega) (by omega), g4]
    congr 2
    funext k
    show (gEy σ k).map (fun q => ad (16 * q.1 + 6)) = (gEy σ k).map (fun q => ad' (16 * q.1 + 6))
    rcases hk9 : gEy σ k with _ | ⟨s, t⟩
    · rfl
    · have hs9 := (hO.2.2.2.2.2.1 _ _ _ hk9).2.1
      show some (ad (16 * s + 6)) = some (ad' (16 * s + 6))
      rw [hna (16 * s + 6) (by omega) (by omega) (by omega)]
  · have hj2 : j < gNC σ := hj
    show gXc D ad' ct' j (va_up σ.2.1 c (cLen σ c - 1, cTw σ c, cHt σ c, cCr σ c, cPt σ c) j)
    by_cases w : j = c
    · subst w
      rw [va_up_self]
      exact ⟨hk, (g5 j hj2).2.keep (hne _ (by omega) (by omega) (by omega) (by omega) (by omega) (by omega)) (hne _ (by omega) (by omega) (by omega) (by omega) (by omega) (by omega)) (hna _ (by omega) (by omega) (by omega))⟩
    · rw [va_up_ne _ _ w]
      exact (g5 j hj2).keep (fun z hz => hne z (by omega) (by omega) (by omega) (by omega) (by omega) (by omega)) (fun z hz => hna z (by omega) (by omega) (by omega))
  · have hj2 : j < gNS σ + 1 := hj
    show gXs D ad' ct' j (va_up σ.2.2.2.1 (gNS σ) (p_cut σ c, knd σ (p_cut σ c) (gNS σ), none) j) (trn (s_cut σ c) j)
    by_cases w : j = gNS σ
    · subst w
      rw [va_up_self, (trn_cut hO).1]
      exact ⟨hs, hp⟩
    · rw [va_up_ne _ _ w, (trn_cut hO).2 j (by omega)]
      exact (g6 j (by omega)).keep (fun z hz => hne z (by omega) (by omega) (by omega) (by omega) (by omega) (by omega)) (fun z hz => hna z (by omega) (by omega) (by omega))
/-- the mean of the heats -/
def r_mean (σ : gS) : UInt64 := if gNC σ = 0 then FP.dconst0 else FP.ddiv (FP.i2d (nI (nsm (cHt σ) (gNC σ)))) (FP.i2d (nI (gNC σ)))
def meanOK (a b : Nat) : Bool := decide (FP.ddiv (FP.i2d (nI a)) (FP.i2d (nI b)) &&& 0x7fffffffffffffff ≤ 0x7ff0000000000000) && decide (FP.dcmp (FP.ddiv (FP.i2d (nI a)) (FP.i2d (nI b))) (FP.ddiv (FP.i2d (nI a)) (FP.i2d (nI b))) = some .eq)
theorem meanOK_all : ((List.range 81).all fun a => (List.range 8).all fun b => meanOK a (b + 1)) = true := by decide +kernel
theorem meanOK_of {a b : Nat} (ha : a ≤ 80) (h0 : b ≠ 0) (hb8 : b ≤ 8) : meanOK a b = true := by
  have h := List.all_eq_true.mp meanOK_all a (List.mem_range.mpr (by omega))
  have h2 := List.all_eq_true.mp h (b - 1) (List.mem_range.mpr (by omega))
  rw [show b - 1 + 1 = b by omega] at h2
  exact h2
theorem mean_n {a b : Nat} (ha : a ≤ 80) (h0 : b ≠ 0) (hb8 : b ≤ 8) : vf_n64 (FP.ddiv (FP.i2d (nI a)) (FP.i2d (nI b))) := by
  unfold vf_n64
  exact of_decide_eq_true (Bool.and_eq_true_iff.mp (meanOK_of ha h0 hb8)).1
theorem mean_c {σ : gS} (hO : okS σ) : FP.dcmp (r_mean σ) (r_mean σ) = some .eq := by
  unfold r_mean
  by_cases h : gNC σ = 0
  · rw [if_pos h]; decide +kernel
  · rw [if_neg h]
    have h1 := nsm_le (f := cHt σ) (c := 10) (n := gNC σ) (fun k hk => (hO.2.2.2.1 k hk).2.1)
    have h2 := hO.1
    exact of_decide_eq_true (Bool.and_eq_true_iff.mp (meanOK_of (a := nsm (cHt σ) (gNC σ)) (b := gNC σ) (by omega) h h2)).2
