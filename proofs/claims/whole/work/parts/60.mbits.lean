/-! A RING AS A NUMBER: three bits for each sector -/
def pkR (f : Nat → Nat) : Nat := f 0 + 8 * (f 1 + 8 * (f 2 + 8 * (f 3 + 8 * (f 4 + 8 * (f 5 + 8 * (f 6 + 8 * f 7))))))
def dg8 (f : Nat → Nat) : Prop := ∀ s, s < 8 → f s < 8
theorem dg8.all {f : Nat → Nat} (h : dg8 f) : f 0 < 8 ∧ f 1 < 8 ∧ f 2 < 8 ∧ f 3 < 8 ∧ f 4 < 8 ∧ f 5 < 8 ∧ f 6 < 8 ∧ f 7 < 8 := ⟨h 0 (by omega), h 1 (by omega), h 2 (by omega), h 3 (by omega), h 4 (by omega), h 5 (by omega), h 6 (by omega), h 7 (by omega)⟩
theorem pkR_lt {f : Nat → Nat} (h : dg8 f) : pkR f < 16777216 := by
  obtain ⟨h0, h1, h2, h3, h4, h5, h6, h7⟩ := h.all
  unfold pkR
  omega
theorem dg_split {a b c d : Nat} (ha : a < 8) (hc : c < 8) (h : a + 8 * b = c + 8 * d) : a = c ∧ b = d := by omega
theorem pkR_inj {f g : Nat → Nat} (hf : dg8 f) (hg : dg8 g) (h : pkR f = pkR g) : ∀ s, s < 8 → f s = g s := by
  obtain ⟨h0, h1, h2, h3, h4, h5, h6, h7⟩ := hf.all
  obtain ⟨g0, g1, g2, g3, g4, g5, g6, g7⟩ := hg.all
  unfold pkR at h
  obtain ⟨k0, h⟩ := dg_split h0 g0 h
  obtain ⟨k1, h⟩ := dg_split h1 g1 h
  obtain ⟨k2, h⟩ := dg_split h2 g2 h
  obtain ⟨k3, h⟩ := dg_split h3 g3 h
  obtain ⟨k4, h⟩ := dg_split h4 g4 h
  obtain ⟨k5, h⟩ := dg_split h5 g5 h
  obtain ⟨k6, k7⟩ := dg_split h6 g6 h
  intro s hs
  rcases (show s = 0 ∨ s = 1 ∨ s = 2 ∨ s = 3 ∨ s = 4 ∨ s = 5 ∨ s = 6 ∨ s = 7 by omega) with rfl | rfl | rfl | rfl | rfl | rfl | rfl | rfl
  · exact k0
  · exact k1
  · exact k2
  · exact k3
  · exact k4
  · exact k5
  · exact k6
  · exact k7
theorem pkR_cong {f g : Nat → Nat} (h : ∀ s, s < 8 → f s = g s) : pkR f = pkR g := by
  unfold pkR
  rw [h 0 (by omega), h 1 (by omega), h 2 (by omega), h 3 (by omega), h 4 (by omega), h 5 (by omega), h 6 (by omega), h 7 (by omega)]
theorem dg_div {a b : Nat} (ha : a < 8) : (a + 8 * b) / 8 = b ∧ (a + 8 * b) % 8 = a := by omega
theorem pw3 (k : Nat) : 2 ^ (3 * (k + 1)) = 8 * 2 ^ (3 * k) := by rw [show 3 * (k + 1) = 3 * k + 3 by omega, Nat.pow_add, Nat.mul_comm]
theorem dg_step {a b k : Nat} (ha : a < 8) : (a + 8 * b) / 2 ^ (3 * (k + 1)) % 8 = b / 2 ^ (3 * k) % 8 := by rw [pw3, ← Nat.div_div_eq_div_mul, (dg_div ha).1]
theorem dg_zero (a : Nat) : a / 2 ^ (3 * 0) % 8 = a % 8 := by rw [Nat.mul_zero, Nat.pow_zero, Nat.div_one]
theorem pkR_at {f : Nat → Nat} (h : dg8 f) {s : Nat} (hs : s < 8) : pkR f / 2 ^ (3 * s) % 8 = f s := by
  obtain ⟨h0, h1, h2, h3, h4, h5, h6, h7⟩ := h.all
  unfold pkR
  rcases (show s = 0 ∨ s = 1 ∨ s = 2 ∨ s = 3 ∨ s = 4 ∨ s = 5 ∨ s = 6 ∨ s = 7 by omega) with rfl | rfl | rfl | rfl | rfl | rfl | rfl | rfl
  · rw [dg_zero, (dg_div h0).2]
  · rw [dg_step (k := 0) h0, dg_zero, (dg_div h1).2]
  · rw [dg_step (k := 1) h0, dg_step (k := 0) h1, dg_zero, (dg_div h2).2]
  · rw [dg_step (k := 2) h0, dg_step (k := 1) h1, dg_step (k := 0) h2, dg_zero, (dg_div h3).2]
  · rw [dg_step (k := 3) h0, dg_step (k := 2) h1, dg_step (k := 1) h2, dg_step (k := 0) h3, dg_zero, (dg_div h4).2]
  · rw [dg_step (k := 4) h0, dg_step (k := 3) h1, dg_step (k := 2) h2, dg_step (k := 1) h3, dg_step (k := 0) h4, dg_zero, (dg_div h5).2]
  · rw [dg_step (k := 5) h0, dg_step (k := 4) h1, dg_step (k := 3) h2, dg_step (k := 2) h3, dg_step (k := 1) h4, dg_step (k := 0) h5, dg_zero, (dg_div h6).2]
  · rw [dg_step (k := 6) h0, dg_step (k := 5) h1, dg_step (k := 4) h2, dg_step (k := 3) h3, dg_step (k := 2) h4, dg_step (k := 1) h5, dg_step (k := 0) h6, dg_zero, Nat.mod_eq_of_lt h7]
theorem tb8 {a : Nat} (ha : a < 8) (b k : Nat) : (a + 8 * b).testBit k = if k < 3 then a.testBit k else b.testBit (k - 3) := by
  rw [show a + 8 * b = 2 ^ 3 * b + a by omega, Nat.testBit_two_pow_mul_add _ (show a < 2 ^ 3 by omega)]
theorem pkR_bit {f : Nat → Nat} (h : dg8 f) (k : Nat) : (pkR f).testBit k = (decide (k < 24) && (f (k / 3)).testBit (k % 3)) := by
  obtain ⟨h0, h1, h2, h3, h4, h5, h6, h7⟩ := h.all
  unfold pkR
  rw [tb8 h0, tb8 h1, tb8 h2, tb8 h3, tb8 h4, tb8 h5, tb8 h6]
  by_cases c0 : k < 3
  · rw [if_pos c0, show k / 3 = 0 by omega, show k % 3 = k by omega, decide_eq_true (by omega), Bool.true_and]
  rw [if_neg c0]
  by_cases c1 : k - 3 < 3
  · rw [if_pos c1, show k / 3 = 1 by omega, show k % 3 = k - 3 by omega, decide_eq_true (by omega), Bool.true_and]
  rw [if_neg c1]
  by_cases c2 : k - 3 - 3 < 3
  · rw [if_pos c2, show k / 3 = 2 by omega, show k % 3 = k - 3 - 3 by omega, decide_eq_true (by omega), Bool.true_and]
  rw [if_neg c2]
  by_cases c3 : k - 3 - 3 - 3 < 3
  · rw [if_pos c3, show k / 3 = 3 by omega, show k % 3 = k - 3 - 3 - 3 by omega, decide_eq_true (by omega), Bool.true_and]
  rw [if_neg c3]
  by_cases c4 : k - 3 - 3 - 3 - 3 < 3
  · rw [if_pos c4, show k / 3 = 4 by omega, show k % 3 = k - 3 - 3 - 3 - 3 by omega, decide_eq_true (by omega), Bool.true_and]
  rw [if_neg c4]
  by_cases c5 : k - 3 - 3 - 3 - 3 - 3 < 3
  · rw [if_pos c5, show k / 3 = 5 by omega, show k % 3 = k - 3 - 3 - 3 - 3 - 3 by omega, decide_eq_true (by omega), Bool.true_and]
  rw [if_neg c5]
  by_cases c6 : k - 3 - 3 - 3 - 3 - 3 - 3 < 3
  · rw [if_pos c6, show k / 3 = 6 by omega, show k % 3 = k - 3 - 3 - 3 - 3 - 3 - 3 by omega, decide_eq_true (by omega), Bool.true_and]
  rw [if_neg c6]
  by_cases c7 : k < 24
  · rw [show k / 3 = 7 by omega, show k % 3 = k - 3 - 3 - 3 - 3 - 3 - 3 - 3 by omega, decide_eq_true c7, Bool.true_and]
  · rw [decide_eq_false c7, Bool.false_and]
    refine Nat.testBit_lt_two_pow (Nat.lt_of_lt_of_le h7 ?_)
    exact Nat.pow_le_pow_right (n := 2) (i := 3) (by decide) (by omega)
theorem nR_or (a b : Nat) : nI a ||| nI b = nI (a ||| b) := by
  apply Int32.toBitVec_inj.1
  show BitVec.ofNat 32 a ||| BitVec.ofNat 32 b = BitVec.ofNat 32 (a ||| b)
  apply BitVec.eq_of_getLsbD_eq
  intro k hk
  simp [hk]
theorem nR_and (a b : Nat) : nI a &&& nI b = nI (a &&& b) := by
  apply Int32.toBitVec_inj.1
  show BitVec.ofNat 32 a &&& BitVec.ofNat 32 b = BitVec.ofNat 32 (a &&& b)
  apply BitVec.eq_of_getLsbD_eq
  intro k hk
  simp [hk]
theorem nR_xor (a b : Nat) : nI a ^^^ nI b = nI (a ^^^ b) := by
  apply Int32.toBitVec_inj.1
  show BitVec.ofNat 32 a ^^^ BitVec.ofNat 32 b = BitVec.ofNat 32 (a ^^^ b)
  apply BitVec.eq_of_getLsbD_eq
  intro k hk
  simp [hk]
theorem nR_sl : ∀ n, n < 32 → ((nI n &&& 31).toBitVec.smod 32).toNat = n := by decide +kernel
theorem nR_su : ∀ n, n < 32 → (((nI n).toUInt32 &&& Int32.toUInt32 31).toBitVec % 32).toNat = n := by decide +kernel
theorem nR_shl (a : Nat) {k : Nat} (hk : k < 32) : nI a <<< (nI k &&& 31) = nI (a * 2 ^ k) := by
  apply Int32.toBitVec_inj.1
  rw [Int32.toBitVec_shiftLeft]
  apply BitVec.eq_of_toNat_eq
  show (BitVec.ofNat 32 a <<< ((nI k &&& 31).toBitVec.smod 32).toNat).toNat = (BitVec.ofNat 32 (a * 2 ^ k)).toNat
  rw [nR_sl k hk, BitVec.toNat_shiftLeft, BitVec.toNat_ofNat, BitVec.toNat_ofNat, Nat.shiftLeft_eq, Nat.mul_mod, Nat.mod_mod, ← Nat.mul_mod]
theorem nR_ushr {a k : Nat} (ha : a < 2 ^ 31) (hk : k < 32) : ((nI a).toUInt32 >>> ((nI k).toUInt32 &&& Int32.toUInt32 31)).toInt32 = nI (a / 2 ^ k) := by
  apply Int32.toBitVec_inj.1
  apply BitVec.eq_of_toNat_eq
  show ((nI a).toUInt32 >>> ((nI k).toUInt32 &&& Int32.toUInt32 31)).toBitVec.toNat = (BitVec.ofNat 32 (a / 2 ^ k)).toNat
  rw [UInt32.toBitVec_shiftRight]
  show (BitVec.ofNat 32 a >>> (((nI k).toUInt32 &&& Int32.toUInt32 31).toBitVec % 32).toNat).toNat = _
  have hd : a / 2 ^ k ≤ a := Nat.div_le_self _ _
  rw [nR_su k hk, BitVec.toNat_ushiftRight, BitVec.toNat_ofNat, BitVec.toNat_ofNat, Nat.shiftRight_eq_div_pow, Nat.mod_eq_of_lt (by omega), Nat.mod_eq_of_lt (by omega)]
theorem nR_sshr {a k : Nat} (ha : a < 2 ^ 31) (hk : k < 32) : nI a >>> (nI k &&& 31) = nI (a / 2 ^ k) := by
  apply Int32.toBitVec_inj.1
  rw [Int32.toBitVec_shiftRight]
  apply BitVec.eq_of_toNat_eq
  show ((BitVec.ofNat 32 a).sshiftRight ((nI k &&& 31).toBitVec.smod 32).toNat).toNat = (BitVec.ofNat 32 (a / 2 ^ k)).toNat
  have hd : a / 2 ^ k ≤ a := Nat.div_le_self _ _
  have hm : (BitVec.ofNat 32 a).msb = false := by
    rw [BitVec.msb_eq_false_iff_two_mul_lt, BitVec.toNat_ofNat, Nat.mod_eq_of_lt (by omega)]
    omega
  rw [nR_sl k hk, BitVec.sshiftRight_eq_of_msb_false hm, BitVec.toNat_ushiftRight, BitVec.toNat_ofNat, BitVec.toNat_ofNat, Nat.shiftRight_eq_div_pow, Nat.mod_eq_of_lt (by omega), Nat.mod_eq_of_lt (by omega)]
theorem nR_m7 (a : Nat) : nI a &&& nI 7 = nI (a % 8) := by
  rw [nR_and, show (7 : Nat) = 2 ^ 3 - 1 from rfl, Nat.and_two_pow_sub_one_eq_mod]
theorem nR_all (a : Nat) : nI a &&& 16777215 = nI (a % 16777216) := by
  show nI a &&& nI 16777215 = _
  rw [nR_and, show (16777215 : Nat) = 2 ^ 24 - 1 from rfl, Nat.and_two_pow_sub_one_eq_mod]
/-- a ring's sectors, turned by m -/
def rtF (m : Nat) (f : Nat → Nat) : Nat → Nat := fun s => f ((s + 8 - m) % 8)
theorem rtF_dg {f : Nat → Nat} (h : dg8 f) (m : Nat) : dg8 (rtF m f) := fun s _ => h _ (by omega)
theorem rt_arith {lo hi c d : Nat} (hc : c * d = 16777216) (hlo : lo < c) (hhi : hi < d) : (d * (lo + c * hi) + (lo + c * hi) / c) % 16777216 = hi + d * lo ∧ (lo + c * hi) / c < d := by
  have h9 : (lo + c * hi) / c = hi := by rw [Nat.add_mul_div_left _ _ (by omega), Nat.div_eq_of_lt hlo, Nat.zero_add]
  have h1 : d * (lo + 1) ≤ d * c := Nat.mul_le_mul_left d hlo
  rw [Nat.mul_comm d c, hc, Nat.mul_add] at h1
  have h2 : d * (c * hi) = 16777216 * hi := by rw [← Nat.mul_assoc, Nat.mul_comm d c, hc]
  rw [h9, Nat.mul_add, h2]
  generalize d * lo = z at h1 ⊢
  exact ⟨by omega, hhi⟩
theorem rt_num {f : Nat → Nat} (h : dg8 f) {m : Nat} (hm : m < 8) : (2 ^ (3 * m) * pkR f + pkR f / 2 ^ (24 - 3 * m)) % 16777216 = pkR (rtF m f) ∧ pkR f / 2 ^ (24 - 3 * m) < 2 ^ (3 * m) := by
  obtain ⟨h0, h1, h2, h3, h4, h5, h6, h7⟩ := h.all
  rcases (show m = 0 ∨ m = 1 ∨ m = 2 ∨ m = 3 ∨ m = 4 ∨ m = 5 ∨ m = 6 ∨ m = 7 by omega) with rfl | rfl | rfl | rfl | rfl | rfl | rfl | rfl
  · have e1 : pkR f = (f 0 + 8 * (f 1 + 8 * (f 2 + 8 * (f 3 + 8 * (f 4 + 8 * (f 5 + 8 * (f 6 + 8 * f 7))))))) + 16777216 * 0 := by
      unfold pkR
      omega
    have e2 : pkR (rtF 0 f) = 0 + 1 * (f 0 + 8 * (f 1 + 8 * (f 2 + 8 * (f 3 + 8 * (f 4 + 8 * (f 5 + 8 * (f 6 + 8 * f 7))))))) := by
      show (f ((0 + 8 - 0) % 8) + 8 * (f ((1 + 8 - 0) % 8) + 8 * (f ((2 + 8 - 0) % 8) + 8 * (f ((3 + 8 - 0) % 8) + 8 * (f ((4 + 8 - 0) % 8) + 8 * (f ((5 + 8 - 0) % 8) + 8 * (f ((6 + 8 - 0) % 8) + 8 * f ((7 + 8 - 0) % 8)))))))) = _
      rw [show (0 + 8 - 0) % 8 = 0 from rfl, show (1 + 8 - 0) % 8 = 1 from rfl, show (2 + 8 - 0) % 8 = 2 from rfl, show (3 + 8 - 0) % 8 = 3 from rfl, show (4 + 8 - 0) % 8 = 4 from rfl, show (5 + 8 - 0) % 8 = 5 from rfl, show (6 + 8 - 0) % 8 = 6 from rfl, show (7 + 8 - 0) % 8 = 7 from rfl] <;> omega
    have hlo : (f 0 + 8 * (f 1 + 8 * (f 2 + 8 * (f 3 + 8 * (f 4 + 8 * (f 5 + 8 * (f 6 + 8 * f 7))))))) < 16777216 := by omega
    have hhi : 0 < 1 := by omega
    rw [e2, e1]
    exact rt_arith (c := 16777216) (d := 1) (by decide) hlo hhi
  · have e1 : pkR f = (f 0 + 8 * (f 1 + 8 * (f 2 + 8 * (f 3 + 8 * (f 4 + 8 * (f 5 + 8 * f 6)))))) + 2097152 * f 7 := by
      unfold pkR
      omega
    have e2 : pkR (rtF 1 f) = f 7 + 8 * (f 0 + 8 * (f 1 + 8 * (f 2 + 8 * (f 3 + 8 * (f 4 + 8 * (f 5 + 8 * f 6)))))) := by
      show (f ((0 + 8 - 1) % 8) + 8 * (f ((1 + 8 - 1) % 8) + 8 * (f ((2 + 8 - 1) % 8) + 8 * (f ((3 + 8 - 1) % 8) + 8 * (f ((4 + 8 - 1) % 8) + 8 * (f ((5 + 8 - 1) % 8) + 8 * (f ((6 + 8 - 1) % 8) + 8 * f ((7 + 8 - 1) % 8)))))))) = _
      rw [show (0 + 8 - 1) % 8 = 7 from rfl, show (1 + 8 - 1) % 8 = 0 from rfl, show (2 + 8 - 1) % 8 = 1 from rfl, show (3 + 8 - 1) % 8 = 2 from rfl, show (4 + 8 - 1) % 8 = 3 from rfl, show (5 + 8 - 1) % 8 = 4 from rfl, show (6 + 8 - 1) % 8 = 5 from rfl, show (7 + 8 - 1) % 8 = 6 from rfl] <;> omega
    have hlo : (f 0 + 8 * (f 1 + 8 * (f 2 + 8 * (f 3 + 8 * (f 4 + 8 * (f 5 + 8 * f 6)))))) < 2097152 := by omega
    have hhi : f 7 < 8 := by omega
    rw [e2, e1]
    exact rt_arith (c := 2097152) (d := 8) (by decide) hlo hhi
  · have e1 : pkR f = (f 0 + 8 * (f 1 + 8 * (f 2 + 8 * (f 3 + 8 * (f 4 + 8 * f 5))))) + 262144 * (f 6 + 8 * f 7) := by
      unfold pkR
      omega
    have e2 : pkR (rtF 2 f) = (f 6 + 8 * f 7) + 64 * (f 0 + 8 * (f 1 + 8 * (f 2 + 8 * (f 3 + 8 * (f 4 + 8 * f 5))))) := by
      show (f ((0 + 8 - 2) % 8) + 8 * (f ((1 + 8 - 2) % 8) + 8 * (f ((2 + 8 - 2) % 8) + 8 * (f ((3 + 8 - 2) % 8) + 8 * (f ((4 + 8 - 2) % 8) + 8 * (f ((5 + 8 - 2) % 8) + 8 * (f ((6 + 8 - 2) % 8) + 8 * f ((7 + 8 - 2) % 8)))))))) = _
      rw [show (0 + 8 - 2) % 8 = 6 from rfl, show (1 + 8 - 2) % 8 = 7 from rfl, show (2 + 8 - 2) % 8 = 0 from rfl, show (3 + 8 - 2) % 8 = 1 from rfl, show (4 + 8 - 2) % 8 = 2 from rfl, show (5 + 8 - 2) % 8 = 3 from rfl, show (6 + 8 - 2) % 8 = 4 from rfl, show (7 + 8 - 2) % 8 = 5 from rfl] <;> omega
    have hlo : (f 0 + 8 * (f 1 + 8 * (f 2 + 8 * (f 3 + 8 * (f 4 + 8 * f 5))))) < 262144 := by omega
    have hhi : (f 6 + 8 * f 7) < 64 := by omega
    rw [e2, e1]
    exact rt_arith (c := 262144) (d := 64) (by decide) hlo hhi
  · have e1 : pkR f = (f 0 + 8 * (f 1 + 8 * (f 2 + 8 * (f 3 + 8 * f 4)))) + 32768 * (f 5 + 8 * (f 6 + 8 * f 7)) := by
      unfold pkR
      omega
    have e2 : pkR (rtF 3 f) = (f 5 + 8 * (f 6 + 8 * f 7)) + 512 * (f 0 + 8 * (f 1 + 8 * (f 2 + 8 * (f 3 + 8 * f 4)))) := by
      show (f ((0 + 8 - 3) % 8) + 8 * (f ((1 + 8 - 3) % 8) + 8 * (f ((2 + 8 - 3) % 8) + 8 * (f ((3 + 8 - 3) % 8) + 8 * (f ((4 + 8 - 3) % 8) + 8 * (f ((5 + 8 - 3) % 8) + 8 * (f ((6 + 8 - 3) % 8) + 8 * f ((7 + 8 - 3) % 8)))))))) = _
      rw [show (0 + 8 - 3) % 8 = 5 from rfl, show (1 + 8 - 3) % 8 = 6 from rfl, show (2 + 8 - 3) % 8 = 7 from rfl, show (3 + 8 - 3) % 8 = 0 from rfl, show (4 + 8 - 3) % 8 = 1 from rfl, show (5 + 8 - 3) % 8 = 2 from rfl, show (6 + 8 - 3) % 8 = 3 from rfl, show (7 + 8 - 3) % 8 = 4 from rfl] <;> omega
    have hlo : (f 0 + 8 * (f 1 + 8 * (f 2 + 8 * (f 3 + 8 * f 4)))) < 32768 := by omega
    have hhi : (f 5 + 8 * (f 6 + 8 * f 7)) < 512 := by omega
    rw [e2, e1]
    exact rt_arith (c := 32768) (d := 512) (by decide) hlo hhi
  · have e1 : pkR f = (f 0 + 8 * (f 1 + 8 * (f 2 + 8 * f 3))) + 4096 * (f 4 + 8 * (f 5 + 8 * (f 6 + 8 * f 7))) := by
      unfold pkR
      omega
    have e2 : pkR (rtF 4 f) = (f 4 + 8 * (f 5 + 8 * (f 6 + 8 * f 7))) + 4096 * (f 0 + 8 * (f 1 + 8 * (f 2 + 8 * f 3))) := by
      show (f ((0 + 8 - 4) % 8) + 8 * (f ((1 + 8 - 4) % 8) + 8 * (f ((2 + 8 - 4) % 8) + 8 * (f ((3 + 8 - 4) % 8) + 8 * (f ((4 + 8 - 4) % 8) + 8 * (f ((5 + 8 - 4) % 8) + 8 * (f ((6 + 8 - 4) % 8) + 8 * f ((7 + 8 - 4) % 8)))))))) = _
      rw [show (0 + 8 - 4) % 8 = 4 from rfl, show (1 + 8 - 4) % 8 = 5 from rfl, show (2 + 8 - 4) % 8 = 6 from rfl, show (3 + 8 - 4) % 8 = 7 from rfl, show (4 + 8 - 4) % 8 = 0 from rfl, show (5 + 8 - 4) % 8 = 1 from rfl, show (6 + 8 - 4) % 8 = 2 from rfl, show (7 + 8 - 4) % 8 = 3 from rfl] <;> omega
    have hlo : (f 0 + 8 * (f 1 + 8 * (f 2 + 8 * f 3))) < 4096 := by omega
    have hhi : (f 4 + 8 * (f 5 + 8 * (f 6 + 8 * f 7))) < 4096 := by omega
    rw [e2, e1]
    exact rt_arith (c := 4096) (d := 4096) (by decide) hlo hhi
  · have e1 : pkR f = (f 0 + 8 * (f 1 + 8 * f 2)) + 512 * (f 3 + 8 * (f 4 + 8 * (f 5 + 8 * (f 6 + 8 * f 7)))) := by
      unfold pkR
      omega
    have e2 : pkR (rtF 5 f) = (f 3 + 8 * (f 4 + 8 * (f 5 + 8 * (f 6 + 8 * f 7)))) + 32768 * (f 0 + 8 * (f 1 + 8 * f 2)) := by
      show (f ((0 + 8 - 5) % 8) + 8 * (f ((1 + 8 - 5) % 8) + 8 * (f ((2 + 8 - 5) % 8) + 8 * (f ((3 + 8 - 5) % 8) + 8 * (f ((4 + 8 - 5) % 8) + 8 * (f ((5 + 8 - 5) % 8) + 8 * (f ((6 + 8 - 5) % 8) + 8 * f ((7 + 8 - 5) % 8)))))))) = _
      rw [show (0 + 8 - 5) % 8 = 3 from rfl, show (1 + 8 - 5) % 8 = 4 from rfl, show (2 + 8 - 5) % 8 = 5 from rfl, show (3 + 8 - 5) % 8 = 6 from rfl, show (4 + 8 - 5) % 8 = 7 from rfl, show (5 + 8 - 5) % 8 = 0 from rfl, show (6 + 8 - 5) % 8 = 1 from rfl, show (7 + 8 - 5) % 8 = 2 from rfl] <;> omega
    have hlo : (f 0 + 8 * (f 1 + 8 * f 2)) < 512 := by omega
    have hhi : (f 3 + 8 * (f 4 + 8 * (f 5 + 8 * (f 6 + 8 * f 7)))) < 32768 := by omega
    rw [e2, e1]
    exact rt_arith (c := 512) (d := 32768) (by decide) hlo hhi
  · have e1 : pkR f = (f 0 + 8 * f 1) + 64 * (f 2 + 8 * (f 3 + 8 * (f 4 + 8 * (f 5 + 8 * (f 6 + 8 * f 7))))) := by
      unfold pkR
      omega
    have e2 : pkR (rtF 6 f) = (f 2 + 8 * (f 3 + 8 * (f 4 + 8 * (f 5 + 8 * (f 6 + 8 * f 7))))) + 262144 * (f 0 + 8 * f 1) := by
      show (f ((0 + 8 - 6) % 8) + 8 * (f ((1 + 8 - 6) % 8) + 8 * (f ((2 + 8 - 6) % 8) + 8 * (f ((3 + 8 - 6) % 8) + 8 * (f ((4 + 8 - 6) % 8) + 8 * (f ((5 + 8 - 6) % 8) + 8 * (f ((6 + 8 - 6) % 8) + 8 * f ((7 + 8 - 6) % 8)))))))) = _
      rw [show (0 + 8 - 6) % 8 = 2 from rfl, show (1 + 8 - 6) % 8 = 3 from rfl, show (2 + 8 - 6) % 8 = 4 from rfl, show (3 + 8 - 6) % 8 = 5 from rfl, show (4 + 8 - 6) % 8 = 6 from rfl, show (5 + 8 - 6) % 8 = 7 from rfl, show (6 + 8 - 6) % 8 = 0 from rfl, show (7 + 8 - 6) % 8 = 1 from rfl] <;> omega
    have hlo : (f 0 + 8 * f 1) < 64 := by omega
    have hhi : (f 2 + 8 * (f 3 + 8 * (f 4 + 8 * (f 5 + 8 * (f 6 + 8 * f 7))))) < 262144 := by omega
    rw [e2, e1]
    exact rt_arith (c := 64) (d := 262144) (by decide) hlo hhi
  · have e1 : pkR f = f 0 + 8 * (f 1 + 8 * (f 2 + 8 * (f 3 + 8 * (f 4 + 8 * (f 5 + 8 * (f 6 + 8 * f 7)))))) := by
      unfold pkR
      omega
    have e2 : pkR (rtF 7 f) = (f 1 + 8 * (f 2 + 8 * (f 3 + 8 * (f 4 + 8 * (f 5 + 8 * (f 6 + 8 * f 7)))))) + 2097152 * f 0 := by
      show (f ((0 + 8 - 7) % 8) + 8 * (f ((1 + 8 - 7) % 8) + 8 * (f ((2 + 8 - 7) % 8) + 8 * (f ((3 + 8 - 7) % 8) + 8 * (f ((4 + 8 - 7) % 8) + 8 * (f ((5 + 8 - 7) % 8) + 8 * (f ((6 + 8 - 7) % 8) + 8 * f ((7 + 8 - 7) % 8)))))))) = _
      rw [show (0 + 8 - 7) % 8 = 1 from rfl, show (1 + 8 - 7) % 8 = 2 from rfl, show (2 + 8 - 7) % 8 = 3 from rfl, show (3 + 8 - 7) % 8 = 4 from rfl, show (4 + 8 - 7) % 8 = 5 from rfl, show (5 + 8 - 7) % 8 = 6 from rfl, show (6 + 8 - 7) % 8 = 7 from rfl, show (7 + 8 - 7) % 8 = 0 from rfl] <;> omega
    have hlo : f 0 < 8 := by omega
    have hhi : (f 1 + 8 * (f 2 + 8 * (f 3 + 8 * (f 4 + 8 * (f 5 + 8 * (f 6 + 8 * f 7)))))) < 2097152 := by omega
    rw [e2, e1]
    exact rt_arith (c := 8) (d := 2097152) (by decide) hlo hhi
theorem rot_ring {f : Nat → Nat} (h : dg8 f) {m : Nat} (hm : m < 8) : (nI (pkR f) <<< (nI (3 * m) &&& 31) ||| ((nI (pkR f)).toUInt32 >>> ((nI (24 - 3 * m)).toUInt32 &&& Int32.toUInt32 31)).toInt32) &&& 16777215 = nI (pkR (rtF m f)) := by
  have hp := pkR_lt h
  have hr := rt_num h hm
  rw [nR_shl _ (by omega), nR_ushr (by omega) (by omega), nR_or, nR_all, Nat.mul_comm, ← Nat.two_pow_add_eq_or_of_lt hr.2, hr.1]
theorem col_ring {f : Nat → Nat} (h : dg8 f) {s : Nat} (hs : s < 8) : nI (pkR f) >>> (nI (3 * s) &&& 31) &&& nI 7 = nI (f s) := by
  have hp := pkR_lt h
  rw [nR_sshr (by omega) (by omega), nR_m7, pkR_at h hs]
theorem m1_num : (-1 : Int32) = nI (2 ^ 32 - 1) := by decide +kernel
/-- a sector painted -/
theorem lay_ring {f : Nat → Nat} (h : dg8 f) {s c : Nat} (hs : s < 8) (hc : c < 8) : (nI (pkR f) &&& (nI 7 <<< (nI (3 * s) &&& 31) ^^^ (-1))) ||| nI c <<< (nI (3 * s) &&& 31) = nI (pkR (va_up f s c)) := by
  have hg : dg8 (va_up f s c) := fun k hk => by
    by_cases w : k = s
    · subst w; rw [va_up_self]; exact hc
    · rw [va_up_ne _ _ w]; exact h k hk
  rw [nR_shl _ (by omega), nR_shl _ (by omega), m1_num, nR_xor, nR_and, nR_or]
  congr 1
  refine Nat.eq_of_testBit_eq fun k => ?_
  rw [Nat.testBit_or, Nat.testBit_and, Nat.testBit_xor, ← Nat.shiftLeft_eq, ← Nat.shiftLeft_eq, Nat.testBit_shiftLeft, Nat.testBit_shiftLeft, Nat.testBit_two_pow_sub_one, pkR_bit h, pkR_bit hg, show (7 : Nat) = 2 ^ 3 - 1 from rfl, Nat.testBit_two_pow_sub_one]
  have hbig : ∀ z, 3 ≤ z → c.testBit z = false := fun z hz => Nat.testBit_lt_two_pow (Nat.lt_of_lt_of_le hc (Nat.pow_le_pow_right (n := 2) (i := 3) (by decide) hz))
  by_cases w : k / 3 = s
  · rw [w, va_up_self, decide_eq_true (show 3 * s ≤ k by omega), decide_eq_true (show k - 3 * s < 3 by omega), decide_eq_true (show k < 32 by omega), decide_eq_true (show k < 24 by omega), show k % 3 = k - 3 * s by omega]
    simp
  · rw [va_up_ne _ _ w]
    by_cases c1 : 3 * s ≤ k
    · rw [decide_eq_true c1, decide_eq_false (show ¬ k - 3 * s < 3 by omega), hbig _ (by omega)]
      by_cases c2 : k < 24
      · rw [decide_eq_true c2, decide_eq_true (show k < 32 by omega)]
        simp
      · rw [decide_eq_false c2]
        simp
    · rw [decide_eq_false c1, decide_eq_true (show k < 32 by omega)]
      simp
/-- a ring of a pattern -/
def rgP (P : Nat → Nat) (r : Nat) : Nat := pkR (fun s => P (8 * r + s))
def ok24 (P : Nat → Nat) : Prop := ∀ k, k < 24 → P k < 8
theorem ok24.dg {P : Nat → Nat} (h : ok24 P) {r : Nat} (hr : r < 3) : dg8 (fun s => P (8 * r + s)) := fun s hs => h _ (by omega)
theorem rgP_lt {P : Nat → Nat} (h : ok24 P) {r : Nat} (hr : r < 3) : rgP P r < 16777216 := pkR_lt (h.dg hr)
theorem rgP_rot {P : Nat → Nat} {t : Int32} {r : Nat} : pkR (rtF (m8 t) (fun s => P (8 * r + s))) = rgP (rot t P) r := pkR_cong fun s hs => by
  show P (8 * r + (s + 8 - m8 t) % 8) = rot t P (8 * r + s)
  rw [rot_at hs]
theorem rgP_like {P P2 : Nat → Nat} (h : ok24 P) (h2 : ok24 P2) {t : Int32} : like P t P2 = true ↔ ∀ r, r < 3 → rgP (rot t P) r = rgP P2 r := by
  rw [like_iff]
  have h3 : ok24 (rot t P) := rot_8 h
  refine ⟨fun g r hr => pkR_cong fun s hs => g _ (by omega), fun g k hk => ?_⟩
  have h4 := pkR_inj (h3.dg (r := k / 8) (by omega)) (h2.dg (r := k / 8) (by omega)) (g (k / 8) (by omega)) (k % 8) (by omega)
  rw [show 8 * (k / 8) + k % 8 = k by omega] at h4
  exact h4
