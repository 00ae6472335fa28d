section HW4
variable {p : Program} {l : Launch} {e : Env} {R : Room} {s : State} {m : MethodId} {args : Array Value} {below : List Frame} {meth : Method} {c : Code} {H : Heap} {locs : List Loc} {cells slots : Nat} {Q : State → Prop}
variable {cc : ByteArray} {pc : Nat} {ls : Array Slot} {rest : List Value} {D : hG} {N0 : Nat} {ad : Nat → Nat} {ct : hC}
theorem hv_newL (hexec : p.tables.exec = Jvm.exec) (hb : c.code = cc) (harr : (Cond.arrayClass .long).before args s = true) (hKs : hK D N0 s) (hV : hv D N0 ad ct H) (hS : va_S (hA N0) s.heap H locs) (t : Nat)
    {n : Nat} (hn : n < 65536) (hcells : cells + 1 ≤ R.cells) (hslots : slots + n ≤ R.slots) (hdg : decode cc pc = .ok (.newarray .long, 2))
    (kk : ∀ (ad1 : Nat → Nat) (ct1 : hC) (H1 : Heap), ct1 t = some (eL D n (fun _ => 0)) → (∀ q : Nat, q ≠ t → ct1 q = ct q) → (∀ q : Nat, q ≠ t → ad1 q = ad q) → hv D N0 ad1 ct1 H1 → va_S (hA N0) s.heap H1 locs →
      W p l e R s m args below meth c H1 locs (cells + 1) (slots + n) Q (F0 m (pc + 2) ls (.ref (ad1 t) :: rest))) : W p l e R s m args below meth c H locs cells slots Q (F0 m pc ls (.int (nI n) :: rest)) := by
  have hb31 : n < 2 ^ 31 := Nat.lt_trans hn (by decide)
  have hle : n * componentBytes (newarray.typeOf .long) ≤ 536870912 := by
    show n * 8 ≤ 536870912
    omega
  refine va_newaK (atype := .long) hexec hb harr rfl hdg rfl (nI_pos hb31) (nI_clamp hb31) hle hcells hslots rfl fun H1 cA e1 z1 o1 hAr hNm => ?_
  have hcA : cA = D.2 3 := Option.some.inj (hNm.symm.trans (hKs.1.2 3 (D.2 3, .long) rfl).2)
  subst hcA
  have h := kk (va_up ad t H.size) (va_up ct t (some (eL D n (fun _ => 0)))) H1 (va_up_self _ _ _) (fun q h => va_up_ne _ _ h) (fun q h => va_up_ne _ _ h) (hV.new t e1 o1 (by omega)) ⟨Nat.le_trans hS.1 (by omega), fun x h1 h2 => (o1 x (Nat.lt_of_lt_of_le h1 hS.1)).trans (hS.2.1 x h1 h2), hS.2.2⟩
  rw [va_up_self] at h
  exact h
end HW4
/-- the two sides and the law's own row, between two calls -/
def gL (D : hG) (σ : gS) (ad : Nat → Nat) (ct : hC) : Prop := okS σ ∧ gX D σ ad ct ∧ (∃ th, gM D σ th ad ct) ∧ ∃ fo : Nat → Int64, ct 64 = some (eL D 1 fo)
theorem gX.hFm {D : hG} {σ : gS} {ad : Nat → Nat} {ct : hC} {u : hU} (h : gX D σ ad ct) (hf : hFm ad ct u) : gX D σ u.1 u.2 := h.keep (fun z h1 h2 => (hf z (by omega)).2 (by omega)) (fun z h1 h2 => (hf z (by omega)).1)
theorem gM.wP {D : hG} {σ : gS} {th : Nat} {ad : Nat → Nat} {ct : hC} {u : hU} (h : gM D σ th ad ct) (hf : ∀ q : Nat, q % 16 = 0 → u.1 q = ad q ∧ (80 ≤ q → u.2 q = ct q)) : gM D σ th u.1 u.2 := h.keep (fun q h1 h2 => (hf q h1).2 h2) (fun q h1 _ => (hf q h1).1)
theorem sub6_int {n : Nat} (h : n < 2 ^ 31) : (nI n - nI 6).toInt = (n : Int) - 6 := by
  rcases Nat.lt_or_ge n 6 with h0 | h0
  · rcases (show n = 0 ∨ n = 1 ∨ n = 2 ∨ n = 3 ∨ n = 4 ∨ n = 5 by omega) with rfl | rfl | rfl | rfl | rfl | rfl <;> decide
  · rw [pk_sub h0, nI_toInt (by omega)]; omega
theorem and31 (x : Int32) : ∃ k : Nat, k < 32 ∧ x &&& nI 31 = nI k := by
  obtain ⟨a, rfl⟩ : ∃ a : Nat, x = nI a := ⟨x.toBitVec.toNat, by
    apply Int32.toBitVec_inj.1
    show x.toBitVec = BitVec.ofNat 32 x.toBitVec.toNat
    simp⟩
  exact ⟨a % 32, Nat.mod_lt _ (by decide), by rw [nR_and, show (31 : Nat) = 2 ^ 5 - 1 from rfl, Nat.and_two_pow_sub_one_eq_mod]⟩
