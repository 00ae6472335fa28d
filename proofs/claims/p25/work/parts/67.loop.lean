set_option maxHeartbeats 4000000 in
set_option maxRecDepth 100000 in
/-- one turn of the law, from the case's end to the loop's head -/
theorem L_rest {p : Program} {l : Launch} {e : Env} {s : State} {m : MethodId} {below : List Frame} {meth : Method} {c : Code} {b L N0 : Nat} {xs : Nat → Int32} {Q : State → Prop} {D : hG} (CT : LC p l s m c b L N0 xs D) {ad : Nat → Nat} {ct : hC} {H : Heap} {locs : List Loc} {cells slots : Nat} (hV : hv D N0 ad ct H) (hS : va_S (hA N0) s.heap H locs) {ls : Array Slot} {σ0 σ : gS} {nc i g : Nat} {xv : Int32} {cn rr : Nat} (hi : i < 30) (hcn1 : cn < nc) (hrr : rr = i % 5) (hg4 : g ≤ 4) (hA9 : lA D σ nc ad ct) (hrel : rel g σ0 σ) (hW : wasN D σ0 nc (5 * nc) ad ct) (hLk : lookN D σ0 rr (gNS σ0) 12 ad ct) (hl : lv_has ls 22 [(13, .int (nI (g))), (10, .ref (ad (208))), (9, .ref (ad (64))), (8, .int (nI (gNB σ0))), (7, .int (nI (gNS σ0))), (6, .int (gMi σ0)), (5, .int (nI (cn))), (4, .int (xv)), (0, .ref (b)), (1, .ref (ad (0))), (2, .int (nI (nc))), (3, .int (nI (i)))]) (hr1 : cells + 502 ≤ 600086) (hr2 : slots + 3246 ≤ 7301442)
    (K : ∀  (ad1 : Nat → Nat) (ct1 : hC) (H1 : Heap) (locs1 : List Loc) (ls1 : Array Slot), lA D σ nc ad1 ct1 → hv D N0 ad1 ct1 H1 → va_S (hA N0) s.heap H1 locs1 → lv_has ls1 22 [(0, .ref (b)), (1, .ref (ad1 (0))), (2, .int (nI (nc))), (3, .int (nI (i)))] → W p l e room_1 s m #[Value.ref b] below meth c H1 locs1 (cells + 502) (slots + 3246) Q (F0 m 1283 ls1 [])) : W p l e room_1 s m #[Value.ref b] below meth c H locs cells slots Q (F0 m 676 ls []) :=
  S_E CT hV hS hi hcn1 hrr hg4 hA9 hrel hW hLk hl (by omega) (by omega) fun ad1 ct1 H1 locs1 ls1 a1 k1 v1 s1 l1 =>
  S_F CT v1 s1 hi hcn1 hrr hg4 a1 hrel k1 l1 (by omega) (by omega) fun ad2 ct2 H2 locs2 ls2 a2 v2 s2 l2 =>
  S_G CT v2 s2 hi hcn1 hrr hg4 a2 hrel l2 (by omega) (by omega) fun ad3 ct3 H3 locs3 ls3 a3 v3 s3 l3 =>
  S_H CT v3 s3 hi hcn1 hrr hg4 a3 hrel l3 (by omega) (by omega) fun ad4 ct4 H4 locs4 ls4 a4 v4 s4 l4 =>
  S_I CT v4 s4 hi hcn1 hrr hg4 a4 hrel l4 (by omega) (by omega) fun ad5 ct5 H5 locs5 ls5 a5 v5 s5 l5 => K ad5 ct5 H5 locs5 ls5 a5 v5 s5 l5
set_option maxHeartbeats 4000000 in
set_option maxRecDepth 100000 in
/-- one turn of the law -/
theorem L_turn {p : Program} {l : Launch} {e : Env} {s : State} {m : MethodId} {below : List Frame} {meth : Method} {c : Code} {b L N0 : Nat} {xs : Nat → Int32} {Q : State → Prop} {D : hG} (CT : LC p l s m c b L N0 xs D) {ad : Nat → Nat} {ct : hC} {H : Heap} {locs : List Loc} {cells slots : Nat} (hV : hv D N0 ad ct H) (hS : va_S (hA N0) s.heap H locs) {ls : Array Slot} {σ : gS} {nc i : Nat} (hi : i < 30) (hA9 : lA D σ nc ad ct) (hl : lv_has ls 22 [(0, .ref (b)), (1, .ref (ad (0))), (2, .int (nI (nc))), (3, .int (nI (i)))]) (hr1 : cells + 910 ≤ 600086) (hr2 : slots + 6006 ≤ 7301442)
    (K : ∀ (σ1 : gS) (ad1 : Nat → Nat) (ct1 : hC) (H1 : Heap) (locs1 : List Loc) (ls1 : Array Slot), lA D σ1 nc ad1 ct1 → hv D N0 ad1 ct1 H1 → va_S (hA N0) s.heap H1 locs1 → lv_has ls1 22 [(0, .ref (b)), (1, .ref (ad1 (0))), (2, .int (nI (nc))), (3, .int (nI (i)))] → W p l e room_1 s m #[Value.ref b] below meth c H1 locs1 (cells + 910) (slots + 6006) Q (F0 m 1283 ls1 [])) : W p l e room_1 s m #[Value.ref b] below meth c H locs cells slots Q (F0 m 19 ls []) := by
  refine S_A CT hV hS hi hA9 hl (by omega) (by omega) fun xv cn ad1 ct1 H1 locs1 ls1 hcn a1 w1 v1 s1 l1 => ?_
  refine S_B CT v1 s1 hi a1 w1 l1 (by omega) (by omega) fun ad2 ct2 H2 locs2 ls2 a2 w2 v2 s2 l2 => ?_
  refine S_C CT v2 s2 hi a2 w2 l2 (by omega) (by omega) fun rr ad3 ct3 H3 locs3 ls3 hrr a3 w3 k3 v3 s3 l3 => ?_
  refine S_D CT v3 s3 hi hcn hrr a3 w3 k3 l3 (by omega) (by omega) fun t ad4 ct4 H4 locs4 ls4 ht a4 w4 k4 v4 s4 l4 => ?_
  have KK : ∀ (σ1 : gS) (g : Nat) (ad1 : Nat → Nat) (ct1 : hC) (H1 : Heap) (locs1 : List Loc) (ls1 : Array Slot), lA D σ1 nc ad1 ct1 → rel g σ σ1 → g ≤ 4 → wasN D σ nc (5 * nc) ad1 ct1 → lookN D σ rr (gNS σ) 12 ad1 ct1 → hv D N0 ad1 ct1 H1 → va_S (hA N0) s.heap H1 locs1 → lv_has ls1 22 [(13, .int (nI (g))), (10, .ref (ad1 (208))), (9, .ref (ad1 (64))), (8, .int (nI (gNB σ))), (7, .int (nI (gNS σ))), (6, .int (gMi σ)), (5, .int (nI (cn))), (4, .int (xv)), (0, .ref (b)), (1, .ref (ad1 (0))), (2, .int (nI (nc))), (3, .int (nI (i)))] → W p l e room_1 s m #[Value.ref b] below meth c H1 locs1 (cells + 12 + 40 + 301 + 0 + 55) (slots + 66 + 240 + 2076 + 0 + 378) Q (F0 m 676 ls1 []) := by
    intro σ1 g ad5 ct5 H5 locs5 ls5 a5 r5 g5 w5 k5 v5 s5 l5
    exact L_rest CT v5 s5 hi hcn hrr g5 a5 r5 w5 k5 l5 (by omega) (by omega) fun ad6 ct6 H6 locs6 ls6 a6 v6 s6 l6 => K σ1 ad6 ct6 H6 locs6 ls6 a6 v6 s6 l6
  rcases ht with rfl | rfl | rfl | rfl | rfl
  · exact S_0 CT v4 s4 hi hcn hrr a4 w4 k4 l4 (by omega) (by omega) KK
  · exact S_1 CT v4 s4 hi hcn hrr a4 w4 k4 l4 (by omega) (by omega) KK
  · exact S_2 CT v4 s4 hi hcn hrr a4 w4 k4 l4 (by omega) (by omega) KK
  · refine S_3a CT v4 s4 hi hcn hrr a4 w4 k4 l4 (by omega) (by omega) fun F ad5 ct5 H5 locs5 ls5 a5 w5 k5 f5 g5 v5 s5 l5 => ?_
    exact S_3b CT v5 s5 hi hcn hrr a5 w5 k5 f5 g5 l5 (by omega) (by omega) KK
  · exact S_5 CT v4 s4 hi hcn hrr a4 w4 k4 l4 (by omega) (by omega) KK
set_option maxHeartbeats 4000000 in
set_option maxRecDepth 100000 in
/-- the law's loop, from its head -/
theorem L_loop {p : Program} {l : Launch} {e : Env} {s : State} {m : MethodId} {below : List Frame} {meth : Method} {c : Code} {b L N0 : Nat} {xs : Nat → Int32} {D : hG} (CT : LC p l s m c b L N0 xs D) (hr : meth.sig.returnType = ret) (hlocks : meth.locks = false) (hN0 : N0 = s.heap.size) {nc : Nat} :
    ∀ (n i : Nat), i ≤ 30 → 30 < i + n → ∀ (σ : gS) (ad : Nat → Nat) (ct : hC) (H : Heap) (locs : List Loc) (ls : Array Slot), lA D σ nc ad ct → hv D N0 ad ct H → va_S (hA N0) s.heap H locs → lv_has ls 22 [(0, .ref (b)), (1, .ref (ad (0))), (2, .int (nI (nc))), (3, .int (nI (i)))] → W p l e room_1 s m #[Value.ref b] below meth c H locs (840 + 1000 * i) (8400 + 7000 * i) (lw_Z below #[Value.ref b] s) (F0 m 13 ls []) := by
  obtain ⟨hfl, hts, hts0, hx, hb, hml, hown, hX, hbs, hbA, hbl, hL, hKs⟩ := id CT
  intro n
  induction n with
  | zero => intro i h1 h2; omega
  | succ n ih =>
    intro i h1 h2 σ ad ct H locs ls hA9 hV hS hl
    refine lv_iload_n hx hb dL_law_13 rfl (lv_at hl 3 rfl) ?_
    refine lv_bipush (v := nI 30) hx hb dL_law_14 (by decide) ?_
    refine hN_icmp_ge (tgt := 1289) hx hb (by omega) (by omega) dL_law_16 (by decide) (fun c16 => ?_) (fun c16 => ?_)
    · refine lv_iconst (v := nI 1) hx hb dL_law_1289 (by decide) ?_
      refine W.widen (k := 600086) (n := 7301442) (by omega) (by omega) ?_
      refine va_forget (fun q hq => by have := hS.2.2 q hq; rw [hN0] at this; exact this) ?_
      exact lw_ret (d0 := s.drawn) (Drawn.sameBut.refl s.drawn lw_cs) hx hb hr hlocks dL_law_1290
    · refine L_turn CT hV hS (by omega) hA9 hl (by omega) (by omega) fun σ1 ad1 ct1 H1 locs1 ls1 a1 v1 s1 l1 => ?_
      refine lv_iinc (v := nI (i + 1)) (lv' := [(3, .int (nI (i + 1))), (0, .ref b), (1, .ref (ad1 0)), (2, .int (nI nc))]) hx hb dL_law_1283 l1 (k := 3) rfl (nI_add i 1) (by decide) rfl (fun ls hl => ?_)
      refine lv_goto (tgt := 13) hx hb dL_law_1286 (by decide) ?_
      refine W.widen (k := 840 + 1000 * (i + 1)) (n := 8400 + 7000 * (i + 1)) (by omega) (by omega) ?_
      exact ih (i + 1) (by omega) (by omega) σ1 ad1 ct1 H1 locs1 ls a1 v1 s1 (lv_sub hl [1, 2, 3, 0] rfl)
