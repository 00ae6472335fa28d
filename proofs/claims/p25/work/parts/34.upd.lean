/-! HOW THE STATE MOVES -/
def uCan (σ : gS) (i : Nat) (q : gCn) : gS := (σ.1, va_up σ.2.1 i q, σ.2.2)
def uObj (σ : gS) (nb : Nat) (fu mi : Int32) : gS := (σ.1, σ.2.1, σ.2.2.1, σ.2.2.2.1, nb, σ.2.2.2.2.2.1, fu, mi)
def aged (σ : gS) (c : Nat) : gCn := (cLen σ c, cTw σ c, if decide (nI c = gFu σ) = true then min (cHt σ c + 3) 10 else cHt σ c - 1, cCr σ c, cPt σ c)
def agd (σ : gS) (n : Nat) : gS := (σ.1, fun c => if c < n then aged σ c else σ.2.1 c, σ.2.2)
/-- a minute goes by -/
def sPass (σ : gS) : gS := uObj (agd σ (gNC σ)) (gNB σ) (gFu σ) (gMi σ + nI 1)
theorem agd_0 {σ : gS} : agd σ 0 = σ := by
  unfold agd
  have : (fun c => if c < 0 then aged σ c else σ.2.1 c) = σ.2.1 := by
    funext c
    rw [if_neg (Nat.not_lt_zero c)]
  rw [this]
theorem agd_s {σ : gS} {i : Nat} : agd σ (i + 1) = uCan (agd σ i) i (aged σ i) := by
  unfold agd uCan
  have : (fun c => if c < i + 1 then aged σ c else σ.2.1 c) = va_up (fun c => if c < i then aged σ c else σ.2.1 c) i (aged σ i) := by
    funext c
    unfold va_up
    by_cases h : c = i
    · subst h
      rw [if_pos (by omega), if_pos rfl]
    · rw [if_neg h]
      show _ = if c < i then aged σ c else σ.2.1 c
      by_cases h1 : c < i
      · rw [if_pos h1, if_pos (by omega)]
      · rw [if_neg h1, if_neg (by omega)]
  rw [this]
theorem agd_ge {σ : gS} {n i : Nat} (h : n ≤ i) : (agd σ n).2.1 i = σ.2.1 i := by
  show (if i < n then aged σ i else σ.2.1 i) = _
  rw [if_neg (by omega)]
theorem gX.can {D : hG} {σ : gS} {ad : Nat → Nat} {ct ct1 : hC} (h : gX D σ ad ct) {i : Nat} {q : gCn}
    (he : ct1 (16 * i + 3) = some (eO 0 [.ref (ad (16 * i + 4)), .int (nI q.1), .int q.2.1, .int (nI q.2.2.1), .int (hbv q.2.2.2.1)])) (hp : hPat D ad ct1 (16 * i + 4) q.2.2.2.2) (hne : ∀ z : Nat, z ≠ 16 * i + 3 → z ≠ 16 * i + 5 → ct1 z = ct z) : gX D (uCan σ i q) ad ct1 := by
  obtain ⟨g1, g2, g3, g4, g5, g6⟩ := h
  refine ⟨by rw [hne 0 (by omega) (by omega)]; exact g1, by rw [hne 16 (by omega) (by omega)]; exact g2, by rw [hne 32 (by omega) (by omega)]; exact g3, by rw [hne 48 (by omega) (by omega)]; exact g4, fun j hj => ?_, fun j hj => (g6 j hj).keep (fun z hz => hne z (by omega) (by omega)) (fun _ _ => rfl)⟩
  show gXc D ad ct1 j (va_up σ.2.1 i q j)
  by_cases e : j = i
  · subst e
    rw [va_up_self]
    exact ⟨he, hp⟩
  · rw [va_up_ne _ _ e]
    exact (g5 j hj).keep (fun z hz => hne z (by omega) (by omega)) (fun _ _ => rfl)
theorem gX.obj {D : hG} {σ : gS} {ad : Nat → Nat} {ct ct1 : hC} (h : gX D σ ad ct) {nb : Nat} {fu mi : Int32}
    (he : ct1 0 = some (eO 3 [.ref (ad 16), .ref (ad 32), .ref (ad 48), .int (nI (gNC σ)), .int (nI (gNS σ)), .int (nI nb), .int fu, .int mi])) (hne : ∀ z : Nat, z ≠ 0 → ct1 z = ct z) : gX D (uObj σ nb fu mi) ad ct1 := by
  obtain ⟨g1, g2, g3, g4, g5, g6⟩ := h
  exact ⟨he, by rw [hne 16 (by omega)]; exact g2, by rw [hne 32 (by omega)]; exact g3, by rw [hne 48 (by omega)]; exact g4, fun j hj => (g5 j hj).keep (fun z hz => hne z (by omega)) (fun _ _ => rfl), fun j hj => (g6 j hj).keep (fun z hz => hne z (by omega)) (fun _ _ => rfl)⟩
theorem uCan_2 {σ : gS} {i : Nat} {p q : gCn} : uCan (uCan σ i p) i q = uCan σ i q := by
  unfold uCan
  have : va_up (va_up σ.2.1 i p) i q = va_up σ.2.1 i q := by
    funext c
    unfold va_up
    split <;> rfl
  rw [this]
theorem uCan_can {σ : gS} {i : Nat} {q : gCn} : (uCan σ i q).2.1 i = q := va_up_self _ _ _
