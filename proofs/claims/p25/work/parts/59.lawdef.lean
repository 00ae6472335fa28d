/-! THE LAW'S WORLD: what was told of the canes (the tag 64, its rows at 80, 96 ..), the slices' looks (208, its rows at 224, 240 ..) -/
def LC (p : Program) (l : Launch) (s : State) (m : MethodId) (c : Code) (b L N0 : Nat) (xs : Nat → Int32) (D : hG) : Prop :=
  l.stackTraces = false ∧ (∀ w ∈ wsL_law, w.before #[Value.ref b] s = true) ∧ (∀ w ∈ lw_tbl, w.before #[Value.ref b] s = true) ∧ p.tables.exec = Jvm.exec ∧ c.code = code ∧ c.maxLocals = 22 ∧ s.vm.findClass RL = some m.cls ∧ va_X b L xs s s.heap ∧ b < s.heap.size ∧ ¬ hA N0 b ∧ b < N0 ∧ L ≤ 260 ∧ hK D N0 s
def lA (D : hG) (σ : gS) (nc : Nat) (ad : Nat → Nat) (ct : hC) : Prop := okS σ ∧ ok2 σ ∧ 1 ≤ nc ∧ gNC σ = nc ∧ gX D σ ad ct
def wasN (D : hG) (σ : gS) (n N : Nat) (ad : Nat → Nat) (ct : hC) : Prop := ct 64 = some (eQ (D.2 3) n (fun i => if i < n then some (ad (16 * i + 80)) else none)) ∧ ∀ k, k < n → ∃ f : Nat → Int32, ct (16 * k + 80) = some (eI D 5 f) ∧ ∀ j, j < 5 → 5 * k + j < N → f j = tel σ k j
theorem wasN.keep {D : hG} {σ : gS} {n N : Nat} {ad ad' : Nat → Nat} {ct ct' : hC} (h : wasN D σ n N ad ct) (hn : n ≤ 8) (hc : ∀ q : Nat, q % 16 = 0 → 64 ≤ q → q < 208 → ct' q = ct q) (ha : ∀ q : Nat, q % 16 = 0 → 64 ≤ q → q < 208 → ad' q = ad q) : wasN D σ n N ad' ct' := by
  refine ⟨?_, fun k hk => ?_⟩
  · rw [hc 64 (by omega) (by omega) (by omega), h.1]
    have : (fun i => if i < n then some (ad (16 * i + 80)) else none) = (fun i => if i < n then some (ad' (16 * i + 80)) else none) := by
      funext i
      by_cases q : i < n
      · rw [if_pos q, if_pos q, ha _ (by omega) (by omega) (by omega)]
      · rw [if_neg q, if_neg q]
    rw [this]
  · obtain ⟨f, h1, h2⟩ := h.2 k hk
    exact ⟨f, (hc _ (by omega) (by omega) (by omega)).trans h1, h2⟩
theorem wasN.put {D : hG} {σ : gS} {n k j : Nat} {ad : Nat → Nat} {ct ct' : hC} {f : Nat → Int32} (h : wasN D σ n (5 * k + j) ad ct) (hj : j < 5) (hfj : ∀ i, i < 5 → 5 * k + i < 5 * k + j → f i = tel σ k i) (he : ct' (16 * k + 80) = some (eI D 5 (va_up f j (tel σ k j)))) (hne : ∀ q : Nat, q ≠ 16 * k + 80 → ct' q = ct q) : wasN D σ n (5 * k + (j + 1)) ad ct' := by
  refine ⟨(hne 64 (by omega)).trans h.1, fun q hq => ?_⟩
  by_cases e : q = k
  · subst e
    refine ⟨_, he, fun i hi hN => ?_⟩
    by_cases e2 : i = j
    · subst e2; rw [va_up_self]
    · rw [va_up_ne _ _ e2]; exact hfj i hi (by omega)
  · obtain ⟨g, h1, h2⟩ := h.2 q hq
    exact ⟨g, (hne _ (by omega)).trans h1, fun i hi hN => h2 i hi (by omega)⟩
theorem wasN.mono {D : hG} {σ : gS} {n N M : Nat} {ad : Nat → Nat} {ct : hC} (h : wasN D σ n N ad ct) (hM : M ≤ N) : wasN D σ n M ad ct := ⟨h.1, fun k hk => by
  obtain ⟨f, h1, h2⟩ := h.2 k hk
  exact ⟨f, h1, fun j hj hN => h2 j hj (by omega)⟩⟩
/-- what was told of a cane -/
theorem wasN.at {D : hG} {σ : gS} {n k : Nat} {ad : Nat → Nat} {ct : hC} (h : wasN D σ n (5 * n) ad ct) (hk : k < n) : ∃ f : Nat → Int32, ct (16 * k + 80) = some (eI D 5 f) ∧ ∀ j, j < 5 → f j = tel σ k j := by
  obtain ⟨f, h1, h2⟩ := h.2 k hk
  exact ⟨f, h1, fun j hj => h2 j hj (by omega)⟩
def lookN (D : hG) (σ : gS) (r n j : Nat) (ad : Nat → Nat) (ct : hC) : Prop := ∃ g : Nat → Option Nat, ct 208 = some (eQ (D.2 3) n g) ∧ ∀ k, k < n → k % 5 = r → k < r + 5 * j → g k = some (ad (16 * k + 224)) ∧ ∃ f : Nat → Int32, ct (16 * k + 224) = some (eI D 24 f) ∧ ∀ i, i < 24 → f i = nI (sPt σ k i)
theorem lookN.keep {D : hG} {σ : gS} {r n j : Nat} {ad ad' : Nat → Nat} {ct ct' : hC} (h : lookN D σ r n j ad ct) (hn : n ≤ 60) (hc : ∀ q : Nat, q % 16 = 0 → 208 ≤ q → q < 1184 → (q < 224 ∨ q < 224 + 16 * (r + 5 * j)) → ct' q = ct q) (ha : ∀ q : Nat, q % 16 = 0 → 208 ≤ q → q < 1184 → (q < 224 ∨ q < 224 + 16 * (r + 5 * j)) → ad' q = ad q) : lookN D σ r n j ad' ct' := by
  obtain ⟨g, h1, h2⟩ := h
  refine ⟨g, (hc 208 (by omega) (by omega) (by omega) (by omega)).trans h1, fun k hk hr hj => ?_⟩
  obtain ⟨h3, f, h4, h5⟩ := h2 k hk hr hj
  exact ⟨by rw [ha _ (by omega) (by omega) (by omega) (by omega)]; exact h3, f, (hc _ (by omega) (by omega) (by omega) (by omega)).trans h4, h5⟩
theorem lookN.put {D : hG} {σ : gS} {r n j : Nat} {ad : Nat → Nat} {ct ct' : hC} {g : Nat → Option Nat} {f : Nat → Int32} (hr : r < 5) (h2 : ∀ k, k < n → k % 5 = r → k < r + 5 * j → g k = some (ad (16 * k + 224)) ∧ ∃ f : Nat → Int32, ct (16 * k + 224) = some (eI D 24 f) ∧ ∀ i, i < 24 → f i = nI (sPt σ k i)) (hf : ct (16 * (r + 5 * j) + 224) = some (eI D 24 f)) (hfj : ∀ i, i < 24 → f i = nI (sPt σ (r + 5 * j) i))
    (he : ct' 208 = some (eQ (D.2 3) n (va_up g (r + 5 * j) (some (ad (16 * (r + 5 * j) + 224)))))) (hne : ∀ q : Nat, q ≠ 208 → ct' q = ct q) : lookN D σ r n (j + 1) ad ct' := by
  refine ⟨_, he, fun k hk hk5 hkj => ?_⟩
  by_cases e : k = r + 5 * j
  · subst e
    rw [va_up_self]
    exact ⟨rfl, f, (hne _ (by omega)).trans hf, hfj⟩
  · rw [va_up_ne _ _ e]
    obtain ⟨h3, f1, h4, h5⟩ := h2 k hk hk5 (by omega)
    exact ⟨h3, f1, (hne _ (by omega)).trans h4, h5⟩
theorem lookN.mono {D : hG} {σ : gS} {r n i j : Nat} {ad : Nat → Nat} {ct : hC} (h : lookN D σ r n j ad ct) (hi : n ≤ r + 5 * j) : lookN D σ r n i ad ct := by
  obtain ⟨g, h1, h2⟩ := h
  exact ⟨g, h1, fun k hk h5 _ => h2 k hk h5 (by omega)⟩
theorem abs_4 {x : Int32} (h : -4 ≤ x.toInt ∧ x.toInt ≤ 4) : (if 0 ≤ x then x else 0 - x).toInt ≤ 4 := by
  split
  · exact h.2
  · rw [Int32.toInt_sub]
    have h0 : (0 : Int32).toInt = 0 := by decide
    rw [h0, Int.bmod_eq_of_le (by omega) (by omega)]
    omega
theorem hbv_1i {b : Bool} : (hbv b).toInt = if b = true then 1 else 0 := by cases b <;> decide
/-- the tables' words of the JDK's comparing -/
theorem plc_b {n k : Nat} (h : n < 2 ^ 31) : (plc n k).toInt < n := by
  unfold plc
  split
  · rw [nI_toInt (by omega)]; omega
  · rw [h_m1]; omega
theorem plc_neg {n k : Nat} (hn : n < 2 ^ 31) : (plc n k).toInt < 0 ↔ n ≤ k := by
  unfold plc
  split
  · rw [nI_toInt (by omega)]; omega
  · rw [h_m1]; omega
theorem plc_z {n k : Nat} (hn : n < 2 ^ 31) (h0 : 0 < n) : (plc n k).toInt = 0 ↔ k = 0 := by
  unfold plc
  split
  · rw [nI_toInt (by omega)]; omega
  · rw [h_m1]; omega
