/-! THE LAW'S OWN HELPERS: rows, and that no call of theirs throws where it is in range -/
theorem nR_and (a b : Nat) : nI a &&& nI b = nI (a &&& b) := by
  apply Int32.toBitVec_inj.1
  show BitVec.ofNat 32 a &&& BitVec.ofNat 32 b = BitVec.ofNat 32 (a &&& b)
  apply BitVec.eq_of_getLsbD_eq
  intro k hk
  simp [hk]
/-- a number without its sign's bit -/
def v31 (v : Int32) : Nat := v.toBitVec.toNat % 2147483648
theorem v31_lt (v : Int32) : v31 v < 2147483648 := Nat.mod_lt _ (by decide)
theorem v31_eq (v : Int32) : v &&& 2147483647 = nI (v31 v) := by
  obtain ⟨a, ha⟩ : ∃ a : Nat, a = v.toBitVec.toNat := ⟨_, rfl⟩
  have hv9 : v = nI a := by
    rw [ha]
    apply Int32.toBitVec_inj.1
    show v.toBitVec = BitVec.ofNat 32 v.toBitVec.toNat
    simp
  have h1 : v31 v = a % 2147483648 := by unfold v31; rw [ha]
  rw [h1, hv9, show (2147483647 : Int32) = nI (2 ^ 31 - 1) from rfl, nR_and, Nat.and_two_pow_sub_one_eq_mod]
/-- what the law draws of a number: below n -/
def blw (v : Int32) (n : Nat) : Nat := v31 v % n
theorem blw_lt (v : Int32) {n : Nat} (h : 0 < n) : blw v n < n := Nat.mod_lt _ h
theorem dv_X3 : ∀ j, j < 8 → defaultValue (tyX3 j) = vp_V [.null, .null, .null, .int (nI 0), .int (nI 0), .int (nI 0), .int (nI 0), .int (nI 0)] j := fun j hj => by
  rcases (show j = 0 ∨ j = 1 ∨ j = 2 ∨ j = 3 ∨ j = 4 ∨ j = 5 ∨ j = 6 ∨ j = 7 by omega) with rfl | rfl | rfl | rfl | rfl | rfl | rfl | rfl <;> rfl
section HW3
variable {p : Program} {l : Launch} {e : Env} {R : Room} {s : State} {m : MethodId} {args : Array Value} {below : List Frame} {meth : Method} {c : Code} {H : Heap} {locs : List Loc} {cells slots : Nat} {Q : State → Prop}
variable {cc : ByteArray} {pc : Nat} {ls : Array Slot} {rest st0 : List Value} {D : hG} {N0 : Nat} {ad : Nat → Nat} {ct : hC}
theorem hv_callxi {post : Int32 → hU → Prop} {a : Array Value} {mc ms k : Nat} {nm : Nat → String} (hr : vx_Run p l e R s m args below meth c H locs cells slots mc ms (F0 m pc ls st0) rest (va_Qi post (hB D N0) (hA N0) a) (hXC D N0 ad ct nm k) (hA N0)) (hS : va_S (hA N0) s.heap H locs)
    (kx : k ≠ 0 → ∀ (ce : Cell) (q9 : Nat) (H1 : Heap) (locs1 : List Loc), hv D N0 ad ct H1 → va_S (hA N0) s.heap H1 locs1 → H1[q9]? = some ce → ce.vm = .none → s.vm.findClass (nm k) = some ce.cls → vx_W p l e R s m args below meth c H1 locs1 (cells + mc) (slots + ms) Q (F0 m pc ls rest) q9)
    (kk : ∀ (r : Int32) (u : hU) (H1 : Heap) (locs1 : List Loc), post r u → hv D N0 u.1 u.2 H1 → va_S (hA N0) s.heap H1 locs1 → W p l e R s m args below meth c H1 locs1 (cells + mc) (slots + ms) Q (F0 m (pc + 3) ls (.int r :: rest))) : W p l e R s m args below meth c H locs cells slots Q (F0 m pc ls st0) :=
  vx_calli (px := fun u : hU => k ≠ 0 ∧ u = (ad, ct)) (BX := fun E u t => E = nm k ∧ hB D N0 u t) (AX := hA N0) hr hS (fun _ _ h => h) (fun _ h => h) (fun _ _ h => h)
    (fun E ce q9 u t H1 locs1 ht _ hp hb _ _ hS1 hc hv hcl => by
      obtain ⟨hk0, hu⟩ := hp
      obtain ⟨hE, hb⟩ := hb
      subst hu
      subst hE
      unfold hB at hb
      rw [ht] at hb
      exact kx hk0 ce q9 H1 locs1 hb hS1 hc hv hcl)
    (fun r u t H1 locs1 ht _ hp hb _ _ hS1 => kk r u H1 locs1 hp (by unfold hB at hb; rw [ht] at hb; exact hb) hS1)
theorem hv_call0 {post : Int32 → hU → Prop} {a : Array Value} {mc ms k : Nat} {nm : Nat → String} (hk : k = 0) (hr : vx_Run p l e R s m args below meth c H locs cells slots mc ms (F0 m pc ls st0) rest (va_Qi post (hB D N0) (hA N0) a) (hXC D N0 ad ct nm k) (hA N0)) (hS : va_S (hA N0) s.heap H locs)
    (kk : ∀ (r : Int32) (u : hU) (H1 : Heap) (locs1 : List Loc), post r u → hv D N0 u.1 u.2 H1 → va_S (hA N0) s.heap H1 locs1 → W p l e R s m args below meth c H1 locs1 (cells + mc) (slots + ms) Q (F0 m (pc + 3) ls (.int r :: rest))) : W p l e R s m args below meth c H locs cells slots Q (F0 m pc ls st0) :=
  hv_callxi hr hS (fun h => absurd hk h) kk
theorem hv_calld {post : UInt64 → hU → Prop} {a : Array Value} {mc ms : Nat} (hr : va_Run p l e R s m args below meth c H locs cells slots mc ms (F0 m pc ls st0) rest (va_Qd post (hB D N0) (hA N0) a) (hA N0)) (hS : va_S (hA N0) s.heap H locs)
    (kk : ∀ (r : UInt64) (u : hU) (H1 : Heap) (locs1 : List Loc), post r u → hv D N0 u.1 u.2 H1 → va_S (hA N0) s.heap H1 locs1 → W p l e R s m args below meth c H1 locs1 (cells + mc) (slots + ms) Q (F0 m (pc + 3) ls (.double r :: rest))) : W p l e R s m args below meth c H locs cells slots Q (F0 m pc ls st0) :=
  va_calld hr hS (fun _ _ h => h) (fun _ h => h) (fun r u t H1 locs1 ht _ hp hb _ _ hS1 => kk r u H1 locs1 hp (by unfold hB at hb; rw [ht] at hb; exact hb) hS1)
theorem hv_qretA {post : Option Nat → hU → Prop} {r : Option Nat} {u : hU} (hexec : p.tables.exec = Jvm.exec) (hb : c.code = cc) (hr : meth.sig.returnType = some (.array .int)) (hq : post r u) (hV : hv D N0 u.1 u.2 H) (hS : va_S (hA N0) s.heap H locs) (hdg : decode cc pc = .ok (.areturn, 1)) (hlocks : meth.locks = false) :
    W p l e R s m args below meth c H locs cells slots (MQ below (va_Qq post (hB D N0) (hA N0)) args s cells slots (hA N0)) (F0 m pc ls [va_rf r]) :=
  W.aret hexec hb hr (Or.inr ⟨_, rfl⟩) (va_rf_or r) (fun t ht _ => ⟨⟨r, u, rfl, hq, hB_of ht hV⟩, hS.F ht⟩) hS.2.2 hdg hlocks
end HW3
/-- starts: with the script, and with new rows of objects -/
def hPcX (D : hG) (N0 : Nat) (ad : Nat → Nat) (ct : hC) (b L : Nat) (xs : Nat → Int32) (av : List Value) : Array Value → State → Prop := va_Pc av (fun U => va_X b L xs U U.heap ∧ hK D N0 U ∧ hv D N0 ad ct U.heap)
theorem hPcX.blind {D : hG} {N0 : Nat} {ad : Nat → Nat} {ct : hC} {b L : Nat} {xs : Nat → Int32} {av : List Value} : FrameBlind (hPcX D N0 ad ct b L xs av) := by
  intro a U g mk h
  obtain ⟨h1, h4, h2, h3⟩ := h
  exact ⟨h1, va_X.moved (u := U) (U := U.calling g mk a) (Vm.Alike.refl U.vm) h4, h2.blind, h3⟩
theorem hv_preSX {s : State} {H : Heap} {locs : List Loc} {D : hG} {N0 : Nat} {ad : Nat → Nat} {ct : hC} {b L : Nat} {xs : Nat → Int32} {As : List Value} (hX : va_X b L xs s s.heap) (hbl : b < s.heap.size) (hbA : ¬ hA N0 b) (hKs : hK D N0 s) (hV : hv D N0 ad ct H) (hS : va_S (hA N0) s.heap H locs) : PreS s H (hPcX D N0 ad ct b L xs As) As :=
  ⟨hPcX.blind, fun U hU hW => ⟨rfl, by rw [hU]; exact (hX.kept (hS.2.1 b hbl hbA)).moved hW.alike, hKs.to hS hU hW, by rw [hU]; exact hV⟩⟩
theorem hPcO.blind {D : hG} {N0 : Nat} {ad : Nat → Nat} {ct : hC} {av : List Value} : FrameBlind (hPcO D N0 ad ct av) := by
  intro a U g mk h
  obtain ⟨h1, ⟨h4, h5⟩, h2, h3⟩ := h
  exact ⟨h1, ⟨va_AO.moved (u := U) (U := U.calling g mk a) (Vm.Alike.refl U.vm) h4, va_AO.moved (u := U) (U := U.calling g mk a) (Vm.Alike.refl U.vm) h5⟩, h2.blind, h3⟩
theorem hv_preSO {s : State} {H : Heap} {locs : List Loc} {D : hG} {N0 : Nat} {ad : Nat → Nat} {ct : hC} {As : List Value} (hKs : hK D N0 s) (hV : hv D N0 ad ct H) (hS : va_S (hA N0) s.heap H locs) : PreS s H (hPcO D N0 ad ct As) As :=
  ⟨hPcO.blind, fun U hU hW => ⟨rfl, ⟨va_AO.moved hW.alike hKs.2.2.2.2.2.2.1.1, va_AO.moved hW.alike hKs.2.2.2.2.2.2.1.2.1⟩, hKs.to hS hU hW, by rw [hU]; exact hV⟩⟩
theorem hFr.rf {ad : Nat → Nat} {ct : hC} : hFr ad ct (ad, ct) := fun _ _ => ⟨rfl, fun _ => rfl⟩
theorem hFr.tr {ad : Nat → Nat} {ct : hC} {u w : hU} (h : hFr ad ct u) (h2 : hFr u.1 u.2 w) : hFr ad ct w := fun q hq => ⟨((h2 q hq).1).trans (h q hq).1, fun h64 => ((h2 q hq).2 h64).trans ((h q hq).2 h64)⟩
-- no call in range throws
theorem kz_cane {σ : gS} (hO : okS σ) {i j : Nat} (hi : i < gNC σ) (hj : j < 5) : k_cane σ (nI i) (nI j) = 0 := by
  have := hO.1
  unfold k_cane
  rw [inR_j (by omega) hi, inR_j (by omega) hj]
  rfl
theorem kz_shows {σ : gS} (hO : okS σ) {i y r c : Nat} (hi : i < gNC σ) (hy : y < cLen σ i) (hr : r < 3) (hc : c < 8) : k_shows σ (nI i) (nI y) (nI r) (nI c) = 0 := by
  have h8 := hO.1
  have h60 := (hO.2.2.2.1 i hi).1
  unfold k_shows
  rw [if_pos (inR_j (by omega) hi), toNat_nI (by omega), inR_j (by omega) hy, inR_j (by omega) hr, inR_j (by omega) hc]
  rfl
theorem kz_colour {σ : gS} (hO : okS σ) {i r c : Nat} (hi : i < gNS σ) (hr : r < 3) (hc : c < 8) : k_colour σ (nI i) (nI r) (nI c) = 0 := by
  have := hO.2.1
  unfold k_colour
  rw [inR_j (by omega) hi, inR_j (by omega) hr, inR_j (by omega) hc]
  rfl
theorem kz_where {σ : gS} (hO : okS σ) {i : Nat} (hi : i < gNS σ) : k_where σ (nI i) = 0 := by
  have := hO.2.1
  unfold k_where
  rw [inR_j (by omega) hi]
  rfl
theorem kz_seen {σ : gS} (hO : okS σ) {b k r c : Nat} (hb : b < gNB σ) (hk : k < 4) (hr : r < 3) (hc : c < 8) : k_seen σ (nI b) (nI k) (nI r) (nI c) = 0 := by
  have := hO.2.2.1
  unfold k_seen
  rw [inR_j (by omega) hb, inR_j (by omega) hk, inR_j (by omega) hr, inR_j (by omega) hc]
  rfl
theorem kz_turn {σ : gS} (hO : okS σ) {i j : Nat} (hi : i < gNS σ) (hj : j < gNS σ) : k_turn σ (nI i) (nI j) = 0 := by
  have := hO.2.1
  unfold k_turn
  rw [inR_j (by omega) hi, inR_j (by omega) hj]
  rfl
theorem kz_cuts {σ : gS} (hO : okS σ) {i j : Nat} (hi : i < gNC σ) (hj : j < gNS σ) : k_cuts σ (nI i) (nI j) = 0 := by
  have := hO.2.1
  have := hO.1
  unfold k_cuts
  rw [inR_j (by omega) hi, inR_j (by omega) hj]
  rfl
theorem kz_mends {σ : gS} (hO : okS σ) {i : Nat} (hi : i < gNB σ) : k_mends σ (nI i) = 0 := by
  have := hO.2.2.1
  unfold k_mends
  rw [inR_j (by omega) hi]
  rfl
theorem kz_furnace {σ : gS} (hO : okS σ) {i : Nat} (hi : i < gNC σ) : k_furnace σ (nI i) = 0 := by
  have := hO.1
  unfold k_furnace
  rw [inR_j (by omega) hi, Bool.or_true]
  rfl
/-- a cane's number, or -1 -/
theorem kz_furn1 {σ : gS} (hO : okS σ) {x : Int32} (h0 : -1 ≤ x.toInt) (h1 : x.toInt < (gNC σ : Int)) : k_furnace σ x = 0 := by
  have h8 := hO.1
  unfold k_furnace
  by_cases h : x.toInt = (-1 : Int32).toInt
  · rw [decide_eq_true h]; rfl
  · rw [h_m1] at h
    rw [inR_1 (by omega) h1, Bool.or_true]
    rfl
theorem kz_rest {n : Nat} (h0 : 1 ≤ n) (h1 : n ≤ 60) : k_rest (nI n) = 0 := by
  unfold k_rest
  rw [inB_1 (by rw [nI_toInt (by omega)]; omega) (by rw [nI_toInt (by omega)]; omega)]
  rfl
theorem kz_begin {σ : gS} (h : gNC σ < 8) : k_begin σ = 0 := if_neg (by omega)
theorem kz_bead {σ : gS} (h : gNB σ < 6) : k_bead σ = 0 := if_neg (by omega)
theorem kc_lay {σ : gS} (hO : okS σ) {c r f n q : Nat} (hc : c < gNC σ) (hr : r < 3) (hf : f < 8) (hn : 1 ≤ n ∧ n ≤ 8) (hq : q < 8) : k_lay σ (nI c) (nI r) (nI f) (nI n) (nI q) = if cCr σ c = true then 3 else 0 := by
  have := hO.1
  unfold k_lay
  rw [if_pos (inR_j (by omega) hc), inR_j (by omega) hr, inR_j (by omega) hf, inR_j (by omega) hq, inB_1 (by rw [nI_toInt (by omega)]; omega) (by rw [nI_toInt (by omega)]; omega), toNat_nI (by omega)]
  rfl
theorem kc_twist {σ : gS} (hO : okS σ) {c : Nat} {x : Int32} (hc : c < gNC σ) (hx : (!decide (x.toInt = 0) && inT x) = true) : k_twist σ (nI c) x = if (cCr σ c || !inT (cTw σ c + x)) = true then 3 else 0 := by
  have := hO.1
  unfold k_twist
  rw [if_pos (inR_j (by omega) hc), if_pos hx, toNat_nI (by omega)]
theorem kc_pull {σ : gS} (hO : okS σ) {c : Nat} (hc : c < gNC σ) : k_pull σ (nI c) = if cCr σ c = true then 2 else 0 := by
  have := hO.1
  unfold k_pull
  rw [if_pos (inR_j (by omega) hc), toNat_nI (by omega)]
theorem kc_cut {σ : gS} (hO : okS σ) {c : Nat} (hc : c < gNC σ) : k_cut σ (nI c) = if cLen σ c = 0 ∨ 3 < cHt σ c ∨ gNS σ = 60 then 2 else 0 := by
  have := hO.1
  unfold k_cut
  rw [if_pos (inR_j (by omega) hc), toNat_nI (by omega)]
theorem kc_set {σ : gS} (hO : okS σ) {b k x t : Nat} (hb : b < gNB σ) (hk : k < 4) (hx : x < gNS σ) (ht : t < 8) : k_set σ (nI b) (nI k) (nI x) (nI t) = if ((gEy σ (4 * b + k)).isSome || !decide (eyv (sEy σ x) = -1)) = true then 3 else 0 := by
  have := hO.2.2.1
  have := hO.2.1
  unfold k_set
  rw [inR_j (by omega) hb, inR_j (by omega) hk, inR_j (by omega) hx, inR_j (by omega) ht, toNat_nI (by omega), toNat_nI (by omega), toNat_nI (by omega)]
  rfl
theorem tw_1 : ∀ a, a < 8 → 3 < a → (!decide ((nI a - nI 4 + nI 1).toInt = 0) && inT (nI a - nI 4 + nI 1)) = true := by decide +kernel
theorem tw_0 : ∀ a, a < 8 → a ≤ 3 → (!decide ((nI a - nI 4 + nI 0).toInt = 0) && inT (nI a - nI 4 + nI 0)) = true := by decide +kernel
theorem wk_lay {σ : gS} (hO : okS σ) (h2 : ok2 σ) {c r f n q : Nat} (hc : c < gNC σ) (hr : r < 3) (hf : f < 8) (hn : 1 ≤ n ∧ n ≤ 8) (hq : q < 8) (hk : k_lay σ (nI c) (nI r) (nI f) (nI n) (nI q) = 0) : wkP σ c 0 (hbv (decide (2 ≤ cHt σ (nI c).toInt.toNat))) (sWk σ (nI c).toInt.toNat 2 (q_lay σ (nI c).toInt.toNat (nI r).toInt.toNat (nI f).toInt.toNat (nI n).toInt.toNat (nI q).toInt.toNat)) := by
  have h8 := hO.1
  have hOO := okk_lay hO hk
  rw [kc_lay hO hc hr hf hn hq] at hk
  have hcr : cCr σ c = false := by
    rcases h : cCr σ c with _ | _
    · rfl
    · rw [h] at hk; cases hk
  have ec : (nI c).toInt.toNat = c := toNat_nI (by omega)
  rw [ec] at hOO ⊢
  exact Or.inr ⟨hcr, rfl, rel_sWk hO hc ⟨rfl, rfl⟩, hOO, ok2_sWk h2 hc (h2.1 c hc), wk_cr (q := q_lay σ c _ _ _ _) rfl hcr hc⟩
theorem wk_twist {σ : gS} (hO : okS σ) (h2 : ok2 σ) {c : Nat} {x : Int32} (hc : c < gNC σ) (hx : (!decide (x.toInt = 0) && inT x) = true) (hk : k_twist σ (nI c) x = 0) : wkP σ c 1 (hbv (decide (4 ≤ cHt σ (nI c).toInt.toNat))) (sWk σ (nI c).toInt.toNat 4 (q_twist σ (nI c).toInt.toNat x)) := by
  have h8 := hO.1
  have hOO := okk_twist hO hk
  rw [kc_twist hO hc hx] at hk
  have ec : (nI c).toInt.toNat = c := toNat_nI (by omega)
  rw [ec] at hOO ⊢
  by_cases h : (cCr σ c || !inT (cTw σ c + x)) = true
  · rw [if_pos h] at hk; cases hk
  · obtain ⟨hcr, ht⟩ := Bool.or_eq_false_iff.mp (Bool.eq_false_iff.mpr h)
    rw [Bool.not_eq_false'] at ht
    exact Or.inr ⟨hcr, rfl, rel_sWk hO hc ⟨rfl, rfl⟩, hOO, ok2_sWk h2 hc (inT_b ht), wk_cr (q := q_twist σ c x) rfl hcr hc⟩
theorem wk_pull {σ : gS} (hO : okS σ) (h2 : ok2 σ) {c : Nat} (hc : c < gNC σ) (hk : k_pull σ (nI c) = 0) : wkP σ c 2 (hbv (decide (6 ≤ cHt σ (nI c).toInt.toNat))) (sWk σ (nI c).toInt.toNat 6 (q_pull σ (nI c).toInt.toNat)) := by
  have h8 := hO.1
  have hOO := okk_pull hO hk
  rw [kc_pull hO hc] at hk
  have hcr : cCr σ c = false := by
    rcases h : cCr σ c with _ | _
    · rfl
    · rw [h] at hk; cases hk
  have ec : (nI c).toInt.toNat = c := toNat_nI (by omega)
  rw [ec] at hOO ⊢
  exact Or.inr ⟨hcr, rfl, rel_sWk hO hc ⟨rfl, rfl⟩, hOO, ok2_sWk h2 hc (half_b (h2.1 c hc)), wk_cr (q := q_pull σ c) rfl hcr hc⟩
theorem hbv_t {b : Bool} (h : b = true) : nI 1 = hbv b := by rw [h]; rfl
theorem hbv_f {b : Bool} (h : b = false) : nI 0 = hbv b := by rw [h]; rfl
