/-! THE MODEL: its object at the tag 80, its rows at 96, 112 .. 224; f1 length, f2 twist, f3 heat, f4 isWhole, f5 pattern, f6 look, f7 place, f8 eye, f9 turned -/
def gMe (σ : gS) (f1 f2 f3 f4 f5 f6 f7 f8 f9 : Nat → Int32) : Prop :=
  (∀ k, k < gNC σ → f1 k = nI (cLen σ k)) ∧ (∀ k, k < 8 → f2 k = if k < gNC σ then cTw σ k else nI 0) ∧ (∀ k, k < gNC σ → f3 k = nI (cHt σ k)) ∧ (∀ k, k < gNC σ → f4 k = nI (wh σ k)) ∧
  (∀ k, k < 8 → ∀ r, r < 3 → f5 (3 * k + r) = nI (if k < gNC σ then rgP (cPt σ k) r else 0)) ∧ (∀ k, k < gNS σ → ∀ r, r < 3 → f6 (3 * k + r) = nI (rgP (sPt σ k) r)) ∧ (∀ k, k < gNS σ → f7 k = eyv (sEy σ k)) ∧ (∀ k, k < 4 * gNB σ → f8 k = esl σ k) ∧ ∀ k, k < 24 → f9 k = etn σ k
def gM (D : hG) (σ : gS) (th : Nat) (ad : Nat → Nat) (ct : hC) : Prop := ∃ f1 f2 f3 f4 f5 f6 f7 f8 f9 : Nat → Int32,
  (ct 80 = some (eO 4 [.int (nI th), .int (gMi σ), .int (gFu σ), .int (nI (gNC σ)), .ref (ad 96), .ref (ad 112), .ref (ad 128), .ref (ad 144), .ref (ad 160), .int (nI (gNS σ)), .ref (ad 176), .ref (ad 192), .int (nI (gNB σ)), .ref (ad 208), .ref (ad 224)]) ∧
  ct 96 = some (eI D 8 f1) ∧ ct 112 = some (eI D 8 f2) ∧ ct 128 = some (eI D 8 f3) ∧ ct 144 = some (eI D 8 f4) ∧ ct 160 = some (eI D 24 f5) ∧ ct 176 = some (eI D 180 f6) ∧ ct 192 = some (eI D 60 f7) ∧ ct 208 = some (eI D 24 f8) ∧ ct 224 = some (eI D 24 f9)) ∧ gMe σ f1 f2 f3 f4 f5 f6 f7 f8 f9
theorem gM.keep {D : hG} {σ : gS} {th : Nat} {ad ad' : Nat → Nat} {ct ct' : hC} (h : gM D σ th ad ct) (h1 : ∀ q : Nat, q % 16 = 0 → 80 ≤ q → ct' q = ct q) (ha : ∀ q : Nat, q % 16 = 0 → 80 ≤ q → ad' q = ad q) : gM D σ th ad' ct' := by
  obtain ⟨f1, f2, f3, f4, f5, f6, f7, f8, f9, ⟨g0, g1, g2, g3, g4, g5, g6, g7, g8, g9⟩, he⟩ := h
  refine ⟨f1, f2, f3, f4, f5, f6, f7, f8, f9, ⟨?_, (h1 _ (by omega) (by omega)).trans g1, (h1 _ (by omega) (by omega)).trans g2, (h1 _ (by omega) (by omega)).trans g3, (h1 _ (by omega) (by omega)).trans g4, (h1 _ (by omega) (by omega)).trans g5, (h1 _ (by omega) (by omega)).trans g6, (h1 _ (by omega) (by omega)).trans g7, (h1 _ (by omega) (by omega)).trans g8, (h1 _ (by omega) (by omega)).trans g9⟩, he⟩
  rw [h1 80 (by omega) (by omega), ha 96 (by omega) (by omega), ha 112 (by omega) (by omega), ha 128 (by omega) (by omega), ha 144 (by omega) (by omega), ha 160 (by omega) (by omega), ha 176 (by omega) (by omega), ha 192 (by omega) (by omega), ha 208 (by omega) (by omega), ha 224 (by omega) (by omega)]
  exact g0
/-- what a call of the model leaves of the cells that aren't the model's -/
def hFm (ad : Nat → Nat) (ct : hC) (u : hU) : Prop := ∀ q : Nat, q ≠ 1 → u.1 q = ad q ∧ ((q % 16 ≠ 0 ∨ q < 80) → u.2 q = ct q)
theorem me_can {σ : gS} {c : Nat} {q : gCn} {f1 f2 f3 f4 f5 f6 f7 f8 f9 g1 g2 g3 g4 g5 : Nat → Int32} (h : gMe σ f1 f2 f3 f4 f5 f6 f7 f8 f9) (hc : c < gNC σ) (h1 : g1 c = nI q.1 ∧ ∀ k, k ≠ c → g1 k = f1 k) (h2 : g2 c = q.2.1 ∧ ∀ k, k ≠ c → g2 k = f2 k) (h3 : g3 c = nI q.2.2.1 ∧ ∀ k, k ≠ c → g3 k = f3 k) (h4 : g4 c = nI (if q.2.2.2.1 = true then 0 else 1) ∧ ∀ k, k ≠ c → g4 k = f4 k)
    (h5 : (∀ r, r < 3 → g5 (3 * c + r) = nI (rgP q.2.2.2.2 r)) ∧ ∀ k, k ≠ c → ∀ r, r < 3 → g5 (3 * k + r) = f5 (3 * k + r)) : gMe (uCan σ c q) g1 g2 g3 g4 g5 f6 f7 f8 f9 := by
  obtain ⟨e1, e2, e3, e4, e5, e6, e7, e8, e9⟩ := h
  have new : (uCan σ c q).2.1 c = q := uCan_can
  have old : ∀ k, k ≠ c → (uCan σ c q).2.1 k = σ.2.1 k := fun k hk => va_up_ne _ _ hk
  refine ⟨fun k hk => ?_, fun k hk => ?_, fun k hk => ?_, fun k hk => ?_, fun k hk r hr => ?_, e6, e7, e8, e9⟩
  · show g1 k = nI ((uCan σ c q).2.1 k).1
    by_cases w : k = c
    · subst w; rw [new]; exact h1.1
    · rw [old k w, h1.2 k w]; exact e1 k hk
  · show g2 k = if k < gNC σ then ((uCan σ c q).2.1 k).2.1 else nI 0
    by_cases w : k = c
    · subst w; rw [new, if_pos hc]; exact h2.1
    · rw [old k w, h2.2 k w]; exact e2 k hk
  · show g3 k = nI ((uCan σ c q).2.1 k).2.2.1
    by_cases w : k = c
    · subst w; rw [new]; exact h3.1
    · rw [old k w, h3.2 k w]; exact e3 k hk
  · show g4 k = nI (if ((uCan σ c q).2.1 k).2.2.2.1 = true then 0 else 1)
    by_cases w : k = c
    · subst w; rw [new]; exact h4.1
    · rw [old k w, h4.2 k w]; exact e4 k hk
  · show g5 (3 * k + r) = nI (if k < gNC σ then rgP ((uCan σ c q).2.1 k).2.2.2.2 r else 0)
    by_cases w : k = c
    · subst w; rw [new, if_pos hc]; exact h5.1 r hr
    · rw [old k w, h5.2 k w r hr]; exact e5 k hk r hr
theorem up_1 {f : Nat → Int32} {c : Nat} {v w : Int32} (h : v = w) : va_up f c v c = w ∧ ∀ k, k ≠ c → va_up f c v k = f k := ⟨by rw [va_up_self, h], fun k hk => va_up_ne _ _ hk⟩
theorem up_0 {f : Nat → Int32} {c : Nat} {w : Int32} (h : f c = w) : f c = w ∧ ∀ k, k ≠ c → f k = f k := ⟨h, fun _ _ => rfl⟩
theorem up_5 {f : Nat → Int32} {c : Nat} {P : Nat → Nat} (h : ∀ r, r < 3 → f (3 * c + r) = nI (rgP P r)) : (∀ r, r < 3 → f (3 * c + r) = nI (rgP P r)) ∧ ∀ k, k ≠ c → ∀ r, r < 3 → f (3 * k + r) = f (3 * k + r) := ⟨h, fun _ _ _ _ => rfl⟩
theorem gMe.pt {σ : gS} {f1 f2 f3 f4 f5 f6 f7 f8 f9 : Nat → Int32} (h : gMe σ f1 f2 f3 f4 f5 f6 f7 f8 f9) (h8 : gNC σ ≤ 8) {c : Nat} (hc : c < gNC σ) : ∀ r, r < 3 → f5 (3 * c + r) = nI (rgP (cPt σ c) r) := fun r hr => by
  rw [h.2.2.2.2.1 c (by omega) r hr, if_pos hc]
theorem gMe.tw {σ : gS} {f1 f2 f3 f4 f5 f6 f7 f8 f9 : Nat → Int32} (h : gMe σ f1 f2 f3 f4 f5 f6 f7 f8 f9) (h8 : gNC σ ≤ 8) {c : Nat} (hc : c < gNC σ) : f2 c = cTw σ c := by
  rw [h.2.1 c (by omega), if_pos hc]
theorem rgP_0 (r : Nat) : rgP (fun _ => 0) r = 0 := rfl
theorem me_begin {σ : gS} {f1 f2 f3 f4 f5 f6 f7 f8 f9 : Nat → Int32} (h : gMe σ f1 f2 f3 f4 f5 f6 f7 f8 f9) (hc : gNC σ < 8) : gMe (s_begin σ) (va_up f1 (gNC σ) (nI 8)) f2 (va_up f3 (gNC σ) (nI 10)) (va_up f4 (gNC σ) (nI 1)) f5 f6 f7 f8 f9 := by
  obtain ⟨e1, e2, e3, e4, e5, e6, e7, e8, e9⟩ := h
  have new : (s_begin σ).2.1 (gNC σ) = (8, nI 0, 10, false, fun _ => 0) := va_up_self _ _ _
  have old : ∀ k, k ≠ gNC σ → (s_begin σ).2.1 k = σ.2.1 k := fun k hk => va_up_ne _ _ hk
  refine ⟨fun k hk => ?_, fun k hk => ?_, fun k hk => ?_, fun k hk => ?_, fun k hk r hr => ?_, e6, e7, e8, e9⟩
  · have hk2 : k < gNC σ + 1 := hk
    show va_up f1 (gNC σ) (nI 8) k = nI ((s_begin σ).2.1 k).1
    by_cases w : k = gNC σ
    · subst w; rw [new, va_up_self]
    · rw [old k w, va_up_ne _ _ w]; exact e1 k (by omega)
  · show f2 k = if k < gNC σ + 1 then ((s_begin σ).2.1 k).2.1 else nI 0
    by_cases w : k = gNC σ
    · rw [e2 k hk, w, new, if_neg (by omega), if_pos (by omega)]
    · rw [old k w, e2 k hk]
      by_cases w2 : k < gNC σ
      · rw [if_pos w2, if_pos (by omega)]
      · rw [if_neg w2, if_neg (by omega)]
  · have hk2 : k < gNC σ + 1 := hk
    show va_up f3 (gNC σ) (nI 10) k = nI ((s_begin σ).2.1 k).2.2.1
    by_cases w : k = gNC σ
    · subst w; rw [new, va_up_self]
    · rw [old k w, va_up_ne _ _ w]; exact e3 k (by omega)
  · have hk2 : k < gNC σ + 1 := hk
    show va_up f4 (gNC σ) (nI 1) k = nI (if ((s_begin σ).2.1 k).2.2.2.1 = true then 0 else 1)
    by_cases w : k = gNC σ
    · subst w; rw [new, va_up_self]; rfl
    · rw [old k w, va_up_ne _ _ w]; exact e4 k (by omega)
  · show f5 (3 * k + r) = nI (if k < gNC σ + 1 then rgP ((s_begin σ).2.1 k).2.2.2.2 r else 0)
    by_cases w : k = gNC σ
    · rw [e5 k hk r hr, w, new, if_neg (by omega), if_pos (by omega)]; rfl
    · rw [old k w, e5 k hk r hr]
      by_cases w2 : k < gNC σ
      · rw [if_pos w2, if_pos (by omega)]
      · rw [if_neg w2, if_neg (by omega)]
theorem me_cut {σ : gS} {c : Nat} {f1 f2 f3 f4 f5 f6 f7 f8 f9 g6 : Nat → Int32} (h : gMe σ f1 f2 f3 f4 f5 f6 f7 f8 f9) (h8 : gNC σ ≤ 8) (hc : c < gNC σ) (h6 : (∀ r, r < 3 → g6 (3 * gNS σ + r) = nI (rgP (p_cut σ c) r)) ∧ ∀ k, k < gNS σ → ∀ r, r < 3 → g6 (3 * k + r) = f6 (3 * k + r)) :
    gMe (s_cut σ c) (va_up f1 c (nI (cLen σ c - 1))) f2 f3 f4 f5 g6 (va_up f7 (gNS σ) (-1)) f8 f9 := by
  have hcn := me_can (q := (cLen σ c - 1, cTw σ c, cHt σ c, cCr σ c, cPt σ c)) h hc (up_1 rfl) (up_0 (h.tw h8 hc)) (up_0 (h.2.2.1 c hc)) (up_0 (h.2.2.2.1 c hc)) (up_5 (h.pt h8 hc))
  obtain ⟨k1, k2, k3, k4, k5, -, -, -, -⟩ := hcn
  obtain ⟨-, -, -, -, -, e6, e7, e8, e9⟩ := h
  have old : ∀ j, j < gNS σ → (s_cut σ c).2.2.2.1 j = σ.2.2.2.1 j := fun j hj => va_up_ne _ _ (by omega)
  have new : (s_cut σ c).2.2.2.1 (gNS σ) = (p_cut σ c, knd σ (p_cut σ c) (gNS σ), none) := va_up_self _ _ _
  refine ⟨k1, k2, k3, k4, k5, fun k hk r hr => ?_, fun k hk => ?_, e8, e9⟩
  · have hk2 : k < gNS σ + 1 := hk
    show g6 (3 * k + r) = nI (rgP ((s_cut σ c).2.2.2.1 k).1 r)
    by_cases w : k = gNS σ
    · rw [w, new]; exact h6.1 r hr
    · rw [old k (by omega), h6.2 k (by omega) r hr]; exact e6 k (by omega) r hr
  · have hk2 : k < gNS σ + 1 := hk
    show va_up f7 (gNS σ) (-1) k = eyv ((s_cut σ c).2.2.2.1 k).2.2
    by_cases w : k = gNS σ
    · rw [w, new, va_up_self]; rfl
    · rw [old k (by omega), va_up_ne _ _ w]; exact e7 k (by omega)
theorem me_bead {σ : gS} {f1 f2 f3 f4 f5 f6 f7 f8 f9 g8 : Nat → Int32} (h : gMe σ f1 f2 f3 f4 f5 f6 f7 f8 f9) (hO : okS σ) (h8 : (∀ k, k < 4 * gNB σ → g8 k = f8 k) ∧ ∀ k, k < 4 → g8 (4 * gNB σ + k) = -1) : gMe (uObj σ (gNB σ + 1) (gFu σ) (gMi σ)) f1 f2 f3 f4 f5 f6 f7 g8 f9 := by
  obtain ⟨e1, e2, e3, e4, e5, e6, e7, e8, e9⟩ := h
  refine ⟨e1, e2, e3, e4, e5, e6, e7, fun k hk => ?_, e9⟩
  have hk2 : k < 4 * (gNB σ + 1) := hk
  show g8 k = esl σ k
  rcases Nat.lt_or_ge k (4 * gNB σ) with w | w
  · rw [h8.1 k w]; exact e8 k w
  · have hn : gEy σ k = none := by
      rcases hq : gEy σ k with _ | ⟨s, t⟩
      · rfl
      · have := (hO.2.2.2.2.2.1 _ _ _ hq).1
        omega
    rw [esl_0 hn, ← h8.2 (k - 4 * gNB σ) (by omega), show 4 * gNB σ + (k - 4 * gNB σ) = k by omega]
theorem me_set {σ : gS} {f1 f2 f3 f4 f5 f6 f7 f8 f9 : Nat → Int32} (h : gMe σ f1 f2 f3 f4 f5 f6 f7 f8 f9) {c x t : Nat} : gMe (s_set σ c x t) f1 f2 f3 f4 f5 f6 (va_up f7 x (nI c)) (va_up f8 c (nI x)) (va_up f9 c (nI t)) := by
  obtain ⟨e1, e2, e3, e4, e5, e6, e7, e8, e9⟩ := h
  have oldS : ∀ j, j ≠ x → (s_set σ c x t).2.2.2.1 j = σ.2.2.2.1 j := fun j hj => va_up_ne _ _ hj
  have newS : (s_set σ c x t).2.2.2.1 x = (sPt σ x, sKd σ x, some c) := va_up_self _ _ _
  have oldE : ∀ j, j ≠ c → (s_set σ c x t).2.2.2.2.2.1 j = σ.2.2.2.2.2.1 j := fun j hj => va_up_ne _ _ hj
  have newE : (s_set σ c x t).2.2.2.2.2.1 c = some (x, t) := va_up_self _ _ _
  refine ⟨e1, e2, e3, e4, e5, fun k hk r hr => ?_, fun k hk => ?_, fun k hk => ?_, fun k hk => ?_⟩
  · show f6 (3 * k + r) = nI (rgP ((s_set σ c x t).2.2.2.1 k).1 r)
    by_cases w : k = x
    · rw [w, newS, ← w]; exact e6 k hk r hr
    · rw [oldS k w]; exact e6 k hk r hr
  · show va_up f7 x (nI c) k = eyv ((s_set σ c x t).2.2.2.1 k).2.2
    by_cases w : k = x
    · rw [w, newS, va_up_self]; rfl
    · rw [oldS k w, va_up_ne _ _ w]; exact e7 k hk
  · by_cases w : k = c
    · rw [w, va_up_self, esl_1 newE]
    · rw [va_up_ne _ _ w, e8 k hk]
      show esl σ k = (match (s_set σ c x t).2.2.2.2.2.1 k with | none => -1 | some q => nI q.1)
      rw [oldE k w]
      rfl
  · by_cases w : k = c
    · rw [w, va_up_self, etn_1 newE]
    · rw [va_up_ne _ _ w, e9 k hk]
      show etn σ k = (match (s_set σ c x t).2.2.2.2.2.1 k with | none => nI 0 | some q => nI q.2)
      rw [oldE k w]
      rfl
theorem me_drop {σ : gS} {f1 f2 f3 f4 f5 f6 f7 f8 f9 : Nat → Int32} (h : gMe σ f1 f2 f3 f4 f5 f6 f7 f8 f9) {c x t : Nat} (h0 : gEy σ c = some (x, t)) : gMe (s_drop σ c) f1 f2 f3 f4 f5 f6 (va_up f7 x (-1)) (va_up f8 c (-1)) (va_up f9 c (nI 0)) := by
  obtain ⟨e1, e2, e3, e4, e5, e6, e7, e8, e9⟩ := h
  have ed : s_drop σ c = (σ.1, σ.2.1, σ.2.2.1, va_up σ.2.2.2.1 x (sPt σ x, sKd σ x, none), σ.2.2.2.2.1, va_up σ.2.2.2.2.2.1 c none, σ.2.2.2.2.2.2) := by
    unfold s_drop
    rw [h0]
  rw [ed]
  have oldS : ∀ j, j ≠ x → va_up σ.2.2.2.1 x (sPt σ x, sKd σ x, none) j = σ.2.2.2.1 j := fun j hj => va_up_ne _ _ hj
  have newS : va_up σ.2.2.2.1 x (sPt σ x, sKd σ x, none) x = (sPt σ x, sKd σ x, none) := va_up_self _ _ _
  have oldE : ∀ j, j ≠ c → va_up σ.2.2.2.2.2.1 c none j = σ.2.2.2.2.2.1 j := fun j hj => va_up_ne _ _ hj
  have newE : va_up σ.2.2.2.2.2.1 c none c = none := va_up_self _ _ _
  refine ⟨e1, e2, e3, e4, e5, fun k hk r hr => ?_, fun k hk => ?_, fun k hk => ?_, fun k hk => ?_⟩
  · show f6 (3 * k + r) = nI (rgP (va_up σ.2.2.2.1 x (sPt σ x, sKd σ x, none) k).1 r)
    by_cases w : k = x
    · rw [w, newS, ← w]; exact e6 k hk r hr
    · rw [oldS k w]; exact e6 k hk r hr
  · show va_up f7 x (-1) k = eyv (va_up σ.2.2.2.1 x (sPt σ x, sKd σ x, none) k).2.2
    by_cases w : k = x
    · rw [w, newS, va_up_self]; rfl
    · rw [oldS k w, va_up_ne _ _ w]; exact e7 k hk
  · show va_up f8 c (-1) k = (match va_up σ.2.2.2.2.2.1 c none k with | none => -1 | some q => nI q.1)
    by_cases w : k = c
    · rw [w, va_up_self, newE]
    · rw [va_up_ne _ _ w, oldE k w, e8 k hk]
      rfl
  · show va_up f9 c (nI 0) k = (match va_up σ.2.2.2.2.2.1 c none k with | none => nI 0 | some q => nI q.2)
    by_cases w : k = c
    · rw [w, va_up_self, newE]
    · rw [va_up_ne _ _ w, oldE k w, e9 k hk]
      rfl
/-- whether a number lies between two others -/
def inI (v lo hi : Int32) : Bool := decide (lo.toInt ≤ v.toInt ∧ v.toInt ≤ hi.toInt)
theorem inI_1 {v lo hi : Int32} (h0 : lo.toInt ≤ v.toInt) (h1 : v.toInt ≤ hi.toInt) : inI v lo hi = true := decide_eq_true ⟨h0, h1⟩
theorem inI_0 {v lo hi : Int32} (h : v.toInt < lo.toInt ∨ hi.toInt < v.toInt) : inI v lo hi = false := decide_eq_false (by omega)
theorem sub1_int {n : Nat} (h : n < 2 ^ 31) : (nI n - nI 1).toInt = (n : Int) - 1 := by
  rcases Nat.eq_zero_or_pos n with h0 | h0
  · subst h0; decide
  · rw [pk_sub (show 1 ≤ n from h0), nI_toInt (by omega)]; omega
theorem inI_n {v : Int32} {n : Nat} (h : n < 2 ^ 31) : inI v (nI 0) (nI n - nI 1) = inR v n := by
  unfold inI inR
  rw [sub1_int h, nI_toInt (by omega)]
  exact decide_eq_decide.mpr ⟨fun q => ⟨by omega, by omega⟩, fun q => ⟨by omega, by omega⟩⟩
theorem inI_k {v : Int32} {n k : Nat} (h : k < 2 ^ 31) (hn : n = k + 1) : inI v (nI 0) (nI k) = inR v n := by
  unfold inI inR
  rw [nI_toInt h, nI_toInt (by omega)]
  exact decide_eq_decide.mpr ⟨fun q => ⟨by omega, by omega⟩, fun q => ⟨by omega, by omega⟩⟩
theorem inI_b {v : Int32} {lo hi : Nat} (h0 : lo < 2 ^ 31) (h : hi < 2 ^ 31) : inI v (nI lo) (nI hi) = inB v lo hi := by
  unfold inI inB
  rw [nI_toInt h, nI_toInt h0]
theorem inI_t {v : Int32} : inI v (-4) (nI 4) = inT v := by
  unfold inI inT
  rw [nI_toInt (by omega)]
  rfl
/-- the object alone has moved -/
theorem gM.th {D : hG} {σ : gS} {th n : Nat} {ad : Nat → Nat} {ct ct1 : hC} (h : gM D σ th ad ct) (he : ct1 80 = some (eO 4 [.int (nI n), .int (gMi σ), .int (gFu σ), .int (nI (gNC σ)), .ref (ad 96), .ref (ad 112), .ref (ad 128), .ref (ad 144), .ref (ad 160), .int (nI (gNS σ)), .ref (ad 176), .ref (ad 192), .int (nI (gNB σ)), .ref (ad 208), .ref (ad 224)])) (hne : ∀ q : Nat, q ≠ 80 → ct1 q = ct q) : gM D σ n ad ct1 := by
  obtain ⟨f1, f2, f3, f4, f5, f6, f7, f8, f9, ⟨g0, g1, g2, g3, g4, g5, g6, g7, g8, g9⟩, hme⟩ := h
  exact ⟨f1, f2, f3, f4, f5, f6, f7, f8, f9, ⟨he, (hne _ (by omega)).trans g1, (hne _ (by omega)).trans g2, (hne _ (by omega)).trans g3, (hne _ (by omega)).trans g4, (hne _ (by omega)).trans g5, (hne _ (by omega)).trans g6, (hne _ (by omega)).trans g7, (hne _ (by omega)).trans g8, (hne _ (by omega)).trans g9⟩, hme⟩
