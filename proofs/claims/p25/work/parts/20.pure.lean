/-! NUMBERS MODULO 8; the first place at which something holds -/
theorem tm8 (a : Int) : (0 ≤ a → 0 ≤ a.tmod 8) ∧ (a ≤ 0 → a.tmod 8 ≤ 0) := by
  refine ⟨fun h => Int.tmod_nonneg 8 h, fun h => ?_⟩
  have h1 := Int.tmod_nonneg 8 (show 0 ≤ -a by omega)
  rw [Int.neg_tmod] at h1
  omega
theorem rem8 (x : Int32) : (x - x / nI 8 * nI 8).toInt = x.toInt.tmod 8 := by
  have h1 : -2147483648 ≤ x.toInt := Int32.le_toInt x
  have h2 : x.toInt < 2147483648 := Int32.toInt_lt x
  have h8 : (nI 8).toInt = 8 := nI_toInt (by decide)
  have hd : (x / nI 8).toInt = x.toInt.tdiv 8 := by
    rw [Int32.toInt_div_of_ne_right _ _ (by decide), h8]
  have e := Int.mul_tdiv_add_tmod x.toInt 8
  have b1 := Int.tmod_lt_of_pos x.toInt (b := 8) (by omega)
  have b2 : -8 < x.toInt.tmod 8 := by
    have := Int.lt_tmod_of_pos x.toInt (b := 8) (by omega)
    omega
  have b3 := tm8 x.toInt
  have hm : (x / nI 8 * nI 8).toInt = x.toInt.tdiv 8 * 8 := by
    rw [Int32.toInt_mul, hd, h8]
    exact Int.bmod_eq_of_le (by omega) (by omega)
  rw [Int32.toInt_sub, hm]
  rw [Int.bmod_eq_of_le (by omega) (by omega)]
  omega
theorem sgn8 (x : Int32) : (x ^^^ nI 8).toInt < 0 ↔ x.toInt < 0 := by
  have h : (x ^^^ nI 8).toBitVec.msb = x.toBitVec.msb := by
    rw [Int32.toBitVec_xor, BitVec.msb_xor]
    have : (nI 8).toBitVec.msb = false := by decide
    rw [this, Bool.xor_false]
  have e1 := BitVec.msb_eq_toInt (x := (x ^^^ nI 8).toBitVec)
  have e2 := BitVec.msb_eq_toInt (x := x.toBitVec)
  rw [h, e2] at e1
  have := of_decide_eq_true (p := (decide (x.toBitVec.toInt < 0) = decide ((x ^^^ nI 8).toBitVec.toInt < 0))) (by simpa using e1)
  simp only [decide_eq_decide] at this
  exact this.symm
theorem m8_cast (x : Int32) : ((m8 x : Nat) : Int) = x.toInt % 8 := by
  unfold m8
  omega
theorem fm_pos {x : Int32} (h : 0 ≤ (x ^^^ nI 8).toInt) : x - x / nI 8 * nI 8 = nI (m8 x) := by
  have h0 : ¬ x.toInt < 0 := fun q => by have := (sgn8 x).mpr q; omega
  have hl := m8_lt x
  rw [hI_eq, rem8, nI_toInt (by omega), m8_cast, Int.tmod_eq_emod_of_nonneg (by omega)]
theorem fm_zero {x : Int32} (h : (x - x / nI 8 * nI 8).toInt = 0) : x - x / nI 8 * nI 8 = nI (m8 x) := by
  have hl := m8_lt x
  have h1 := rem8 x
  have e := Int.mul_tdiv_add_tmod x.toInt 8
  rw [hI_eq, h, nI_toInt (by omega), m8_cast]
  omega
theorem fm_neg {x : Int32} (h : (x ^^^ nI 8).toInt < 0) (h2 : (x - x / nI 8 * nI 8).toInt ≠ 0) : x - x / nI 8 * nI 8 + nI 8 = nI (m8 x) := by
  have h0 : x.toInt < 0 := (sgn8 x).mp h
  have hl := m8_lt x
  have h1 := rem8 x
  have e := Int.mul_tdiv_add_tmod x.toInt 8
  have b2 : -8 < x.toInt.tmod 8 := by
    have := Int.lt_tmod_of_pos x.toInt (b := 8) (by omega)
    omega
  have b3 := (tm8 x.toInt).2 (by omega)
  rw [hI_eq, Int32.toInt_add, h1, nI_toInt (by omega), nI_toInt (by omega), m8_cast]
  rw [Int.bmod_eq_of_le (by omega) (by omega)]
  rw [h1] at h2
  omega
theorem m8_nI {a : Nat} (h : a < 2 ^ 31) : m8 (nI a) = a % 8 := by
  unfold m8
  rw [nI_toInt h]
  omega
theorem m8_bmod (z : Int) : (z.bmod (2 ^ 32)) % 8 = z % 8 := by
  have := Int.bmod_emod (x := z) (m := 2 ^ 32)
  have h2 : z.bmod (2 ^ 32) % 8 = (z.bmod (2 ^ 32) % (2 ^ 32)) % 8 := by omega
  have h3 : (z % ((2 ^ 32 : Nat) : Int)) % 8 = z % 8 := by
    have : ((2 ^ 32 : Nat) : Int) = 4294967296 := by decide
    rw [this]
    omega
  have h4 : ((2 ^ 32 : Nat) : Int) = 4294967296 := by decide
  omega
theorem m8_sub {a : Nat} (h : a < 8) (x : Int32) : m8 (nI a - x) = (a + 8 - m8 x) % 8 := by
  have h1 := m8_cast (nI a - x)
  have h2 := m8_cast x
  have h3 := m8_lt x
  rw [Int32.toInt_sub, m8_bmod, nI_toInt (by omega)] at h1
  omega
/-- the first place below n at which p holds, n if there is none -/
def frst (p : Nat → Bool) : Nat → Nat
  | 0 => 0
  | n + 1 => if frst p n < n then frst p n else if p n = true then n else n + 1
theorem frst_le (p : Nat → Bool) : ∀ n, frst p n ≤ n
  | 0 => Nat.le_refl 0
  | n + 1 => by
    have ih := frst_le p n
    rw [frst]
    split
    · omega
    · split <;> omega
theorem frst_is {p : Nat → Bool} : ∀ {n i : Nat}, i ≤ n → (∀ k, k < i → p k = false) → (i < n → p i = true) → frst p n = i
  | 0, i, h, _, _ => by rw [frst]; omega
  | n + 1, i, h, h1, h2 => by
    rw [frst]
    rcases Nat.lt_or_ge i n with q | q
    · rw [frst_is (n := n) (i := i) (by omega) h1 (fun _ => h2 (by omega)), if_pos q]
    · have e : frst p n = n := frst_is (Nat.le_refl n) (fun k hk => h1 k (by omega)) (fun q => by omega)
      rw [e, if_neg (Nat.lt_irrefl n)]
      rcases Nat.lt_or_ge n i with z | z
      · have hi : i = n + 1 := by omega
        subst hi
        rw [if_neg (by rw [h1 n (by omega)]; decide)]
      · have hi : i = n := by omega
        subst hi
        rw [if_pos (h2 (by omega))]
theorem frst_no {p : Nat → Bool} : ∀ {n k : Nat}, k < frst p n → p k = false
  | 0, k, h => by rw [frst] at h; omega
  | n + 1, k, h => by
    rw [frst] at h
    split at h
    · exact frst_no h
    · have := frst_le p n
      split at h
      · exact frst_no (n := n) (by omega)
      · rename_i h3 h4
        rcases Nat.lt_or_ge k n with q | q
        · exact frst_no (n := n) (by omega)
        · have : k = n := by omega
          subst this
          simpa using h4
theorem frst_yes {p : Nat → Bool} : ∀ {n : Nat}, frst p n < n → p (frst p n) = true
  | 0, h => by rw [frst] at h; omega
  | n + 1, h => by
    rw [frst] at h ⊢
    split
    · rename_i h3; exact frst_yes h3
    · rename_i h3
      rw [if_neg h3] at h
      split
      · rename_i h4; exact h4
      · rename_i h4
        rw [if_neg h4] at h
        omega
/-- a place as an answer: -1 for none -/
def plc (n k : Nat) : Int32 := if k < n then nI k else -1
theorem plc_in {n k : Nat} (h : k < n) : plc n k = nI k := if_pos h
theorem plc_out {n : Nat} : plc n n = -1 := if_neg (Nat.lt_irrefl n)
/-- a pattern turned by t sectors, at the place j (8 * ring + sector) -/
def rot (t : Int32) (P : Nat → Nat) : Nat → Nat := fun j => P (8 * (j / 8) + (j % 8 + 8 - m8 t) % 8)
theorem rot_at {t : Int32} {P : Nat → Nat} {r s : Nat} (hs : s < 8) : rot t P (8 * r + s) = P (8 * r + (s + 8 - m8 t) % 8) := by
  unfold rot
  rw [show (8 * r + s) / 8 = r by omega, show (8 * r + s) % 8 = s by omega]
/-- whether the one, turned by t sectors, looks like the other -/
def like (P : Nat → Nat) (t : Int32) (Q : Nat → Nat) : Bool := (List.range 24).all fun j => decide (rot t P j = Q j)
theorem like_iff {P Q : Nat → Nat} {t : Int32} : like P t Q = true ↔ ∀ j, j < 24 → rot t P j = Q j := by
  unfold like
  rw [List.all_eq_true]
  exact ⟨fun h j hj => of_decide_eq_true (h j (List.mem_range.mpr hj)), fun h j hj => decide_eq_true (h j (List.mem_range.mp hj))⟩
theorem like_t {P Q : Nat → Nat} {t : Int32} (h : ∀ r, r < 3 → ∀ s, s < 8 → P (8 * r + (s + 8 - m8 t) % 8) = Q (8 * r + s)) : like P t Q = true := by
  refine like_iff.mpr fun j hj => ?_
  have h1 := h (j / 8) (by omega) (j % 8) (by omega)
  rw [show 8 * (j / 8) + j % 8 = j by omega] at h1
  unfold rot
  exact h1
theorem like_f {P Q : Nat → Nat} {t : Int32} {r s : Nat} (hr : r < 3) (hs : s < 8) (h : P (8 * r + (s + 8 - m8 t) % 8) ≠ Q (8 * r + s)) : like P t Q = false := by
  rcases hl : like P t Q with _ | _
  · rfl
  · refine absurd ?_ h
    rw [← like_iff.mp hl (8 * r + s) (by omega), rot_at hs]
/-- the least turn by which the one looks like the other; 8 for none -/
def lturn (P Q : Nat → Nat) : Nat := frst (fun t => like P (nI t) Q) 8
/-- the cells of a pattern: the object at the tag t, its row behind it -/
def hPat (D : hG) (ad : Nat → Nat) (ct : hC) (t : Nat) (P : Nat → Nat) : Prop :=
  ct t = some (eO 1 [.ref (ad (t + 1))]) ∧ ∃ F : Nat → Int32, ct (t + 1) = some (eI D 24 F) ∧ (∀ j, j < 24 → F j = nI (P j)) ∧ ∀ j, j < 24 → P j < 8
theorem hN_max0 {a : Nat} (h : a < 2 ^ 31) : (if nI a - nI 1 < nI 0 then nI 0 else nI a - nI 1) = nI (a - 1) := by
  rcases Nat.eq_zero_or_pos a with h0 | h0
  · subst h0; decide
  · rw [pk_sub (show 1 ≤ a from h0), if_neg (fun q => absurd ((nI_ltI (by omega) (by omega)).mp q) (by omega))]
/-- a pattern with a colour laid in n sectors of a ring, from f on -/
def pnt (P : Nat → Nat) (r f n k : Nat) : Nat → Nat := fun j => if j / 8 = r ∧ (j % 8 + 8 - f) % 8 < n then k else P j
theorem pnt_0 {P : Nat → Nat} {r f k : Nat} : pnt P r f 0 k = P := by
  funext j
  unfold pnt
  rw [if_neg (by omega)]
theorem paint_0 {D : hG} {ad : Nat → Nat} {ct : hC} {t : Nat} {P : Nat → Nat} {r f k : Nat} (h : hPat D ad ct t P) : hPat D ad ct t (pnt P r f 0 k) := by
  rw [pnt_0]
  exact h
theorem paint_F {F : Nat → Int32} {P : Nat → Nat} {r f i k : Nat} (hr : r < 3) (hf : f < 8) (hi : i < 8) (hF : ∀ j, j < 24 → F j = nI (pnt P r f i k j)) : ∀ j, j < 24 → va_up F (8 * r + m8 (nI (f + i))) (nI k) j = nI (pnt P r f (i + 1) k j) := by
  intro j hj
  rw [m8_nI (by omega)]
  unfold va_up
  by_cases h : j = 8 * r + (f + i) % 8
  · rw [if_pos h]
    unfold pnt
    rw [if_pos (by omega)]
  · rw [if_neg h, hF j hj]
    unfold pnt
    by_cases h1 : j / 8 = r ∧ (j % 8 + 8 - f) % 8 < i
    · rw [if_pos h1, if_pos (by omega)]
    · rw [if_neg h1, if_neg (by omega)]
theorem paint_8 {P : Nat → Nat} {r f i k : Nat} (hk : k < 8) (hP : ∀ j, j < 24 → pnt P r f i k j < 8) : ∀ j, j < 24 → pnt P r f (i + 1) k j < 8 := by
  intro j hj
  have h := hP j hj
  unfold pnt at h ⊢
  split
  · exact hk
  · rename_i h1
    rw [if_neg (by omega)] at h
    exact h
/-- what is told of a cane -/
def ctell (len : Nat) (tw : Int32) (ht : Nat) (cr b : Bool) (k : Nat) : Int32 := match k with
  | 0 => nI len
  | 1 => tw
  | 2 => nI ht
  | 3 => hbv (!cr)
  | _ => hbv b
