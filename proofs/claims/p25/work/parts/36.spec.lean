/-! WHAT EACH CALL ANSWERS, AND HOW IT MOVES THE STATE: k_ the exception's number (0: none), s_ the state behind it -/
def inB (x : Int32) (lo hi : Nat) : Bool := decide ((lo : Int) ≤ x.toInt ∧ x.toInt ≤ hi)
theorem inB_1 {x : Int32} {lo hi : Nat} (h0 : (lo : Int) ≤ x.toInt) (h1 : x.toInt ≤ hi) : inB x lo hi = true := decide_eq_true ⟨h0, h1⟩
theorem inB_0 {x : Int32} {lo hi : Nat} (h : x.toInt < lo ∨ (hi : Int) < x.toInt) : inB x lo hi = false := decide_eq_false (by omega)
theorem frst_cong {p q : Nat → Bool} : ∀ {n : Nat}, (∀ k, k < n → p k = q k) → frst p n = frst q n
  | 0, _ => rfl
  | n + 1, h => by rw [frst, frst, frst_cong (fun k hk => h k (by omega)), h n (by omega)]
def k_begin (σ : gS) : Nat := if gNC σ = 8 then 1 else 0
def s_begin (σ : gS) : gS := (gNC σ + 1, va_up σ.2.1 (gNC σ) (8, nI 0, 10, false, fun _ => 0), σ.2.2)
/-- a work on a cane: done, or it cracks; a minute goes by -/
def sWk (σ : gS) (c k : Nat) (q : gCn) : gS := sPass (uCan σ c (if k ≤ cHt σ c then q else (cLen σ c, cTw σ c, cHt σ c, true, cPt σ c)))
def q_lay (σ : gS) (c r f n k : Nat) : gCn := (cLen σ c, cTw σ c, cHt σ c - 1, cCr σ c, pnt (cPt σ c) r f n k)
def k_lay (σ : gS) (c r f n q : Int32) : Nat := if inR c (gNC σ) = true then (if (inR r 3 && inR f 8 && inB n 1 8 && inR q 8) = true then (if cCr σ c.toInt.toNat = true then 3 else 0) else 2) else 1
def q_twist (σ : gS) (c : Nat) (x : Int32) : gCn := (cLen σ c, cTw σ c + x, cHt σ c - 1, cCr σ c, cPt σ c)
def k_twist (σ : gS) (c x : Int32) : Nat := if inR c (gNC σ) = true then (if (!decide (x.toInt = 0) && inT x) = true then (if (cCr σ c.toInt.toNat || !inT (cTw σ c.toInt.toNat + x)) = true then 3 else 0) else 2) else 1
def q_pull (σ : gS) (c : Nat) : gCn := (min (2 * cLen σ c) 60, cTw σ c / nI 2, cHt σ c - 1, cCr σ c, cPt σ c)
def k_pull (σ : gS) (c : Int32) : Nat := if inR c (gNC σ) = true then (if cCr σ c.toInt.toNat = true then 2 else 0) else 1
def k_furnace (σ : gS) (x : Int32) : Nat := if (decide (x.toInt = (-1 : Int32).toInt) || inR x (gNC σ)) = true then 0 else 1
def k_rest (x : Int32) : Nat := if inB x 1 60 = true then 0 else 1
def itP (σ : gS) : Nat → gS
  | 0 => σ
  | n + 1 => sPass (itP σ n)
def k_cut (σ : gS) (x : Int32) : Nat := if inR x (gNC σ) = true then (if cLen σ x.toInt.toNat = 0 ∨ 3 < cHt σ x.toInt.toNat ∨ gNS σ = 60 then 2 else 0) else 1
def p_cut (σ : gS) (c : Nat) : Nat → Nat := rot (cTw σ c * nI (cLen σ c - 1)) (cPt σ c)
def s_cut (σ : gS) (c : Nat) : gS := (σ.1, va_up σ.2.1 c (cLen σ c - 1, cTw σ c, cHt σ c, cCr σ c, cPt σ c), gNS σ + 1, va_up σ.2.2.2.1 (gNS σ) (p_cut σ c, knd σ (p_cut σ c) (gNS σ), none), σ.2.2.2.2)
def k_cane (σ : gS) (x y : Int32) : Nat := if (inR x (gNC σ) && inR y 5) = true then 0 else 1
def k_shows (σ : gS) (x y r c : Int32) : Nat := if inR x (gNC σ) = true then (if (inR y (cLen σ x.toInt.toNat) && inR r 3 && inR c 8) = true then 0 else 1) else 1
def k_colour (σ : gS) (x r c : Int32) : Nat := if (inR x (gNS σ) && inR r 3 && inR c 8) = true then 0 else 1
def k_where (σ : gS) (x : Int32) : Nat := if inR x (gNS σ) = true then 0 else 1
def k_bead (σ : gS) : Nat := if gNB σ = 6 then 1 else 0
def k_set (σ : gS) (b k x t : Int32) : Nat := if (inR b (gNB σ) && inR k 4 && inR x (gNS σ)) = true then (if inR t 8 = true then (if ((gEy σ (4 * b.toInt.toNat + k.toInt.toNat)).isSome || !decide (eyv (sEy σ x.toInt.toNat) = -1)) = true then 3 else 0) else 2) else 1
def s_set (σ : gS) (k x t : Nat) : gS := (σ.1, σ.2.1, σ.2.2.1, va_up σ.2.2.2.1 x (sPt σ x, sKd σ x, some k), σ.2.2.2.2.1, va_up σ.2.2.2.2.2.1 k (some (x, t)), σ.2.2.2.2.2.2)
def k_drop (σ : gS) (b k : Int32) : Nat := if (inR b (gNB σ) && inR k 4) = true then (if (gEy σ (4 * b.toInt.toNat + k.toInt.toNat)).isSome = true then 0 else 2) else 1
def s_drop (σ : gS) (k : Nat) : gS := match gEy σ k with
  | none => σ
  | some q => (σ.1, σ.2.1, σ.2.2.1, va_up σ.2.2.2.1 q.1 (sPt σ q.1, sKd σ q.1, none), σ.2.2.2.2.1, va_up σ.2.2.2.2.2.1 k none, σ.2.2.2.2.2.2)
def k_seen (σ : gS) (b k r c : Int32) : Nat := if (inR b (gNB σ) && inR k 4 && inR r 3 && inR c 8) = true then 0 else 1
def r_seen (σ : gS) (k j : Nat) : Int32 := match gEy σ k with
  | none => -1
  | some q => nI (rot (nI q.2) (sPt σ q.1) j)
def k_count (x : Int32) : Nat := if inR x 8 = true then 0 else 1
def k_again (σ : gS) (x y : Int32) : Nat := if inR x (gNC σ) = true then (if inR y (cLen σ x.toInt.toNat) = true then 0 else 1) else 1
def d_again (σ : gS) (c p : Nat) : Nat := frst (fun d => like (cPt σ c) (cTw σ c * nI (d + 1)) (cPt σ c)) (cLen σ c - (p + 1))
def r_again (σ : gS) (c p : Nat) : Int32 := if d_again σ c p < cLen σ c - (p + 1) then nI (p + 1 + d_again σ c p) else -1
def k_turn (σ : gS) (x y : Int32) : Nat := if (inR x (gNS σ) && inR y (gNS σ)) = true then 0 else 1
def k_cuts (σ : gS) (x y : Int32) : Nat := if (inR x (gNC σ) && inR y (gNS σ)) = true then 0 else 1
def d_cuts (σ : gS) (c x : Nat) : Nat := frst (fun d => like (cPt σ c) (cTw σ c * nI (cLen σ c - (d + 1))) (sPt σ x)) (cLen σ c)
def r_cuts (σ : gS) (c x : Nat) : Int32 := if d_cuts σ c x < cLen σ c then nI (d_cuts σ c x + 1) else -1
def k_mends (σ : gS) (x : Int32) : Nat := if inR x (gNB σ) = true then 0 else 1
/-- in how few eyes, after the first n of them; 5 for not at all -/
def mnd (σ : gS) (b : Nat) : Nat → Nat
  | 0 => if cfb σ = true then 4 else 5
  | n + 1 => match gEy σ (4 * b + n) with
    | none => mnd σ b n
    | some q => if 4 - nsm (el σ b q.1) 4 < mnd σ b n ∧ 4 - nsm (el σ b q.1) 4 ≤ nsm (fr σ (sKd σ q.1)) (gNS σ) then 4 - nsm (el σ b q.1) 4 else mnd σ b n
def r_mends (σ : gS) (b : Nat) : Int32 := if mnd σ b 4 = 5 then -1 else nI (mnd σ b 4)
-- the states stay as they should
theorem ok_can {σ : gS} (h : okS σ) {i : Nat} {q : gCn} (hq : q.1 ≤ 60 ∧ q.2.2.1 ≤ 10 ∧ ∀ j, j < 24 → q.2.2.2.2 j < 8) : okS (uCan σ i q) := by
  obtain ⟨h1, h2, h3, h4, h5, h6, h7, h8⟩ := h
  refine ⟨h1, h2, h3, fun j hj => ?_, h5, h6, h7, h8⟩
  show (va_up σ.2.1 i q j).1 ≤ 60 ∧ (va_up σ.2.1 i q j).2.2.1 ≤ 10 ∧ ∀ z, z < 24 → (va_up σ.2.1 i q j).2.2.2.2 z < 8
  by_cases e : j = i
  · subst e; rw [va_up_self]; exact hq
  · rw [va_up_ne _ _ e]; exact h4 j hj
theorem ok_pass {σ : gS} (h : okS σ) : okS (sPass σ) := by
  obtain ⟨h1, h2, h3, h4, h5, h6, h7, h8⟩ := h
  refine ⟨h1, h2, h3, fun j hj => ?_, h5, h6, h7, h8⟩
  have h9 := h4 j hj
  have e : (sPass σ).2.1 j = aged σ j := if_pos hj
  show ((sPass σ).2.1 j).1 ≤ 60 ∧ ((sPass σ).2.1 j).2.2.1 ≤ 10 ∧ ∀ z, z < 24 → ((sPass σ).2.1 j).2.2.2.2 z < 8
  rw [e]
  refine ⟨h9.1, ?_, h9.2.2⟩
  show (if decide (nI j = gFu σ) = true then min (cHt σ j + 3) 10 else cHt σ j - 1) ≤ 10
  split
  · omega
  · have := h9.2.1; omega
theorem ok_obj {σ : gS} (h : okS σ) {nb : Nat} (hnb : gNB σ ≤ nb ∧ nb ≤ 6) {fu mi : Int32} : okS (uObj σ nb fu mi) := by
  obtain ⟨h1, h2, h3, h4, h5, h6, h7, h8⟩ := h
  exact ⟨h1, h2, hnb.2, h4, h5, fun e s t he => ⟨Nat.lt_of_lt_of_le (h6 e s t he).1 (Nat.mul_le_mul_left 4 hnb.1), (h6 e s t he).2⟩, h7, h8⟩
theorem ok_itP {σ : gS} (h : okS σ) : ∀ n, okS (itP σ n)
  | 0 => h
  | n + 1 => ok_pass (ok_itP h n)
theorem itP_nC {σ : gS} : ∀ n, gNC (itP σ n) = gNC σ
  | 0 => rfl
  | n + 1 => itP_nC n
theorem ok_begin {σ : gS} (h : okS σ) (h8 : gNC σ < 8) : okS (s_begin σ) := by
  obtain ⟨h1, h2, h3, h4, h5, h6, h7, h9⟩ := h
  refine ⟨h8, h2, h3, fun j hj => ?_, h5, h6, h7, h9⟩
  show (va_up σ.2.1 (gNC σ) (8, nI 0, 10, false, fun _ => 0) j).1 ≤ 60 ∧ (va_up σ.2.1 (gNC σ) (8, nI 0, 10, false, fun _ => 0) j).2.2.1 ≤ 10 ∧ ∀ z, z < 24 → (va_up σ.2.1 (gNC σ) (8, nI 0, 10, false, fun _ => 0) j).2.2.2.2 z < 8
  by_cases e : j = gNC σ
  · subst e
    rw [va_up_self]
    exact ⟨by decide, by decide, fun _ _ => Nat.zero_lt_succ 7⟩
  · rw [va_up_ne _ _ e]
    have hj2 : j < gNC σ + 1 := hj
    exact h4 j (by omega)
theorem rot_8 {t : Int32} {P : Nat → Nat} (h : ∀ j, j < 24 → P j < 8) : ∀ j, j < 24 → rot t P j < 8 := fun j hj => h _ (by omega)
theorem ok_cut {σ : gS} (h : okS σ) {c : Nat} (hc : c < gNC σ) (hn : gNS σ < 60) : okS (s_cut σ c) := by
  obtain ⟨h1, h2, h3, h4, h5, h6, h7, h8⟩ := h
  have old : ∀ j, j < gNS σ → (s_cut σ c).2.2.2.1 j = σ.2.2.2.1 j := fun j hj => va_up_ne _ _ (by omega)
  have new : (s_cut σ c).2.2.2.1 (gNS σ) = (p_cut σ c, knd σ (p_cut σ c) (gNS σ), none) := va_up_self _ _ _
  have kk : ∀ P n, n ≤ gNS σ → knd (s_cut σ c) P n = knd σ P n := by
    intro P n hn2
    refine frst_cong fun k hk => ?_
    show sim P ((s_cut σ c).2.2.2.1 k).1 = sim P (σ.2.2.2.1 k).1
    rw [old k (by omega)]
  refine ⟨h1, hn, h3, fun j hj => ?_, fun j hj => ?_, fun e s t he => ?_, fun s e hs he => ?_, ?_⟩
  · show (va_up σ.2.1 c (cLen σ c - 1, cTw σ c, cHt σ c, cCr σ c, cPt σ c) j).1 ≤ 60 ∧ (va_up σ.2.1 c (cLen σ c - 1, cTw σ c, cHt σ c, cCr σ c, cPt σ c) j).2.2.1 ≤ 10 ∧ ∀ z, z < 24 → (va_up σ.2.1 c (cLen σ c - 1, cTw σ c, cHt σ c, cCr σ c, cPt σ c) j).2.2.2.2 z < 8
    have hj2 : j < gNC σ := hj
    by_cases e : j = c
    · subst e
      rw [va_up_self]
      have := h4 j hj2
      exact ⟨by show cLen σ j - 1 ≤ 60; omega, this.2⟩
    · rw [va_up_ne _ _ e]; exact h4 j hj2
  · have hj2 : j < gNS σ + 1 := hj
    show (∀ z, z < 24 → ((s_cut σ c).2.2.2.1 j).1 z < 8) ∧ ((s_cut σ c).2.2.2.1 j).2.1 = knd (s_cut σ c) ((s_cut σ c).2.2.2.1 j).1 j
    rcases Nat.lt_or_ge j (gNS σ) with q | q
    · rw [old j q, kk _ _ (by omega)]
      exact h5 j q
    · have e : j = gNS σ := by omega
      subst e
      rw [new, kk _ _ (Nat.le_refl _)]
      exact ⟨rot_8 (h4 c hc).2.2, rfl⟩
  · have h9 := h6 e s t he
    refine ⟨h9.1, Nat.lt_succ_of_lt h9.2.1, h9.2.2.1, ?_⟩
    show ((s_cut σ c).2.2.2.1 s).2.2 = some e
    rw [old s h9.2.1]
    exact h9.2.2.2
  · have hs2 : s < gNS σ + 1 := hs
    have he2 : ((s_cut σ c).2.2.2.1 s).2.2 = some e := he
    rcases Nat.lt_or_ge s (gNS σ) with q | q
    · rw [old s q] at he2
      exact h7 s e q he2
    · have e9 : s = gNS σ := by omega
      subst e9
      rw [new] at he2
      cases he2
  · refine h8.trans ?_
    show _ = nsm (fun s => if ((s_cut σ c).2.2.2.1 s).2.2.isSome then 1 else 0) (gNS σ + 1)
    rw [nsm, new]
    show _ = _ + 0
    rw [Nat.add_zero]
    exact nsm_cong (fun k hk => by rw [old k hk])
theorem eyv_none {o : Option Nat} (h : ∀ e, o = some e → e < 24) : decide (eyv o = -1) = true ↔ o = none := by
  cases o with
  | none => exact ⟨fun _ => rfl, fun _ => by decide⟩
  | some e =>
    have h24 := h e rfl
    refine ⟨fun q => ?_, fun q => by cases q⟩
    have q2 : nI e = -1 := of_decide_eq_true q
    rw [hI_eq, nI_toInt (by omega), h_m1] at q2
    omega
theorem ok_ey {σ : gS} (h : okS σ) {s e : Nat} (hs : s < gNS σ) (he : sEy σ s = some e) : e < 24 := by
  obtain ⟨h1, h2, h3, h4, h5, h6, h7, h8⟩ := h
  obtain ⟨t, ht⟩ := h7 s e hs he
  have := (h6 e s t ht).1
  omega
theorem ok_set {σ : gS} (h : okS σ) {k x t : Nat} (hk : k < 4 * gNB σ) (hx : x < gNS σ) (ht : t < 8) (h0 : gEy σ k = none) (h9 : sEy σ x = none) : okS (s_set σ k x t) := by
  obtain ⟨h1, h2, h3, h4, h5, h6, h7, h8⟩ := h
  have oldS : ∀ j, j ≠ x → (s_set σ k x t).2.2.2.1 j = σ.2.2.2.1 j := fun j hj => va_up_ne _ _ hj
  have newS : (s_set σ k x t).2.2.2.1 x = (sPt σ x, sKd σ x, some k) := va_up_self _ _ _
  have oldE : ∀ j, j ≠ k → (s_set σ k x t).2.2.2.2.2.1 j = σ.2.2.2.2.2.1 j := fun j hj => va_up_ne _ _ hj
  have newE : (s_set σ k x t).2.2.2.2.2.1 k = some (x, t) := va_up_self _ _ _
  have pt : ∀ j, ((s_set σ k x t).2.2.2.1 j).1 = (σ.2.2.2.1 j).1 ∧ ((s_set σ k x t).2.2.2.1 j).2.1 = (σ.2.2.2.1 j).2.1 := by
    intro j
    by_cases e : j = x
    · subst e; rw [newS]; exact ⟨rfl, rfl⟩
    · rw [oldS j e]; exact ⟨rfl, rfl⟩
  refine ⟨h1, h2, h3, h4, fun j hj => ?_, fun e s u he => ?_, fun s e hs he => ?_, ?_⟩
  · have kk : knd (s_set σ k x t) (sPt σ j) j = knd σ (sPt σ j) j := by
      refine frst_cong fun z hz => ?_
      show sim _ ((s_set σ k x t).2.2.2.1 z).1 = sim _ (σ.2.2.2.1 z).1
      rw [(pt z).1]
    show (∀ z, z < 24 → ((s_set σ k x t).2.2.2.1 j).1 z < 8) ∧ ((s_set σ k x t).2.2.2.1 j).2.1 = knd (s_set σ k x t) ((s_set σ k x t).2.2.2.1 j).1 j
    rw [(pt j).1, (pt j).2, kk]
    exact h5 j hj
  · have he2 : (s_set σ k x t).2.2.2.2.2.1 e = some (s, u) := he
    show e < 4 * gNB σ ∧ s < gNS σ ∧ u < 8 ∧ ((s_set σ k x t).2.2.2.1 s).2.2 = some e
    by_cases q : e = k
    · subst q
      rw [newE] at he2
      cases he2
      exact ⟨hk, hx, ht, by rw [newS]⟩
    · rw [oldE e q] at he2
      have h10 := h6 e s u he2
      have hsx : s ≠ x := by
        intro z
        subst z
        rw [h9] at h10
        cases h10.2.2.2
      exact ⟨h10.1, h10.2.1, h10.2.2.1, by rw [oldS s hsx]; exact h10.2.2.2⟩
  · have he2 : ((s_set σ k x t).2.2.2.1 s).2.2 = some e := he
    show ∃ u, (s_set σ k x t).2.2.2.2.2.1 e = some (s, u)
    by_cases q : s = x
    · subst q
      rw [newS] at he2
      cases he2
      exact ⟨t, newE⟩
    · rw [oldS s q] at he2
      obtain ⟨u, hu⟩ := h7 s e hs he2
      have hek : e ≠ k := by
        intro z
        subst z
        rw [h0] at hu
        cases hu
      exact ⟨u, by rw [oldE e hek]; exact hu⟩
  · have e1 := nsm_upd (fun e => if (gEy σ e).isSome then 1 else 0) 1 (i := k) (n := 24) (by omega)
    have e2 := nsm_upd (fun s => if (sEy σ s).isSome then 1 else 0) 1 (i := x) (n := gNS σ) hx
    rw [h0] at e1
    rw [h9] at e2
    have f1 : nsm (fun e => if ((s_set σ k x t).2.2.2.2.2.1 e).isSome then 1 else 0) 24 = nsm (fun e => if e = k then 1 else if (gEy σ e).isSome then 1 else 0) 24 := by
      refine nsm_cong fun e _ => ?_
      by_cases q : e = k
      · subst q; rw [newE, if_pos rfl]; rfl
      · rw [oldE e q, if_neg q]
    have f2 : nsm (fun s => if ((s_set σ k x t).2.2.2.1 s).2.2.isSome then 1 else 0) (gNS σ) = nsm (fun s => if s = x then 1 else if (sEy σ s).isSome then 1 else 0) (gNS σ) := by
      refine nsm_cong fun s _ => ?_
      by_cases q : s = x
      · subst q; rw [newS, if_pos rfl]; rfl
      · rw [oldS s q, if_neg q]
    show nsm (fun e => if ((s_set σ k x t).2.2.2.2.2.1 e).isSome then 1 else 0) 24 = nsm (fun s => if ((s_set σ k x t).2.2.2.1 s).2.2.isSome then 1 else 0) (gNS σ)
    rw [f1, f2]
    simp only [Option.isSome_none] at e1 e2
    simp at e1 e2
    omega
theorem ok_drop {σ : gS} (h : okS σ) {k x t : Nat} (h0 : gEy σ k = some (x, t)) : okS (s_drop σ k) := by
  obtain ⟨h1, h2, h3, h4, h5, h6, h7, h8⟩ := h
  have hx := h6 k x t h0
  have ed : s_drop σ k = (σ.1, σ.2.1, σ.2.2.1, va_up σ.2.2.2.1 x (sPt σ x, sKd σ x, none), σ.2.2.2.2.1, va_up σ.2.2.2.2.2.1 k none, σ.2.2.2.2.2.2) := by
    unfold s_drop
    rw [h0]
  have oldS : ∀ j, j ≠ x → (s_drop σ k).2.2.2.1 j = σ.2.2.2.1 j := fun j hj => by rw [ed]; exact va_up_ne _ _ hj
  have newS : (s_drop σ k).2.2.2.1 x = (sPt σ x, sKd σ x, none) := by rw [ed]; exact va_up_self _ _ _
  have oldE : ∀ j, j ≠ k → (s_drop σ k).2.2.2.2.2.1 j = σ.2.2.2.2.2.1 j := fun j hj => by rw [ed]; exact va_up_ne _ _ hj
  have newE : (s_drop σ k).2.2.2.2.2.1 k = none := by rw [ed]; exact va_up_self _ _ _
  have eC : (s_drop σ k).1 = σ.1 ∧ (s_drop σ k).2.1 = σ.2.1 ∧ (s_drop σ k).2.2.1 = σ.2.2.1 ∧ (s_drop σ k).2.2.2.2.1 = σ.2.2.2.2.1 := by rw [ed]; exact ⟨rfl, rfl, rfl, rfl⟩
  have pt : ∀ j, ((s_drop σ k).2.2.2.1 j).1 = (σ.2.2.2.1 j).1 ∧ ((s_drop σ k).2.2.2.1 j).2.1 = (σ.2.2.2.1 j).2.1 := by
    intro j
    by_cases e : j = x
    · subst e; rw [newS]; exact ⟨rfl, rfl⟩
    · rw [oldS j e]; exact ⟨rfl, rfl⟩
  unfold okS
  simp only [gNC, gNS, gNB, cLen, cHt, cPt, sPt, sKd, gEy, sEy]
  rw [eC.1, eC.2.1, eC.2.2.1, eC.2.2.2]
  refine ⟨h1, h2, h3, h4, fun j hj => ?_, fun e s u he => ?_, fun s e hs he => ?_, ?_⟩
  · have kk : knd (s_drop σ k) (sPt σ j) j = knd σ (sPt σ j) j := by
      refine frst_cong fun z hz => ?_
      show sim _ ((s_drop σ k).2.2.2.1 z).1 = sim _ (σ.2.2.2.1 z).1
      rw [(pt z).1]
    rw [(pt j).1, (pt j).2, kk]
    exact h5 j hj
  · have hek : e ≠ k := by
      intro z
      subst z
      rw [newE] at he
      cases he
    rw [oldE e hek] at he
    have h10 := h6 e s u he
    have hsx : s ≠ x := by
      intro z
      subst z
      have := h10.2.2.2.symm.trans hx.2.2.2
      cases this
      exact hek rfl
    exact ⟨h10.1, h10.2.1, h10.2.2.1, by rw [oldS s hsx]; exact h10.2.2.2⟩
  · have hsx : s ≠ x := by
      intro z
      subst z
      rw [newS] at he
      cases he
    rw [oldS s hsx] at he
    obtain ⟨u, hu⟩ := h7 s e hs he
    have hek : e ≠ k := by
      intro z
      subst z
      rw [h0] at hu
      cases hu
      exact hsx rfl
    exact ⟨u, by rw [oldE e hek]; exact hu⟩
  · have e1 := nsm_upd (fun e => if (gEy σ e).isSome then 1 else 0) 0 (i := k) (n := 24) (by have := hx.1; omega)
    have e2 := nsm_upd (fun s => if (sEy σ s).isSome then 1 else 0) 0 (i := x) (n := gNS σ) hx.2.1
    rw [h0] at e1
    rw [hx.2.2.2] at e2
    have f1 : nsm (fun e => if ((s_drop σ k).2.2.2.2.2.1 e).isSome then 1 else 0) 24 = nsm (fun e => if e = k then 0 else if (gEy σ e).isSome then 1 else 0) 24 := by
      refine nsm_cong fun e _ => ?_
      by_cases q : e = k
      · subst q; rw [newE, if_pos rfl]; rfl
      · rw [oldE e q, if_neg q]
    have f2 : nsm (fun s => if ((s_drop σ k).2.2.2.1 s).2.2.isSome then 1 else 0) (gNS σ) = nsm (fun s => if s = x then 0 else if (sEy σ s).isSome then 1 else 0) (gNS σ) := by
      refine nsm_cong fun s _ => ?_
      by_cases q : s = x
      · subst q; rw [newS, if_pos rfl]; rfl
      · rw [oldS s q, if_neg q]
    rw [f1, f2]
    simp at e1 e2
    omega
