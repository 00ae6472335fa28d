set_option maxHeartbeats 4000000 in
set_option maxRecDepth 100000 in
theorem S_C {p : Program} {l : Launch} {e : Env} {s : State} {m : MethodId} {below : List Frame} {meth : Method} {c : Code} {b L N0 : Nat} {xs : Nat → Int32} {Q : State → Prop} {D : hG} (CT : LC p l s m c b L N0 xs D) {ad : Nat → Nat} {ct : hC} {H : Heap} {locs : List Loc} {cells slots : Nat} (hV : hv D N0 ad ct H) (hS : va_S (hA N0) s.heap H locs) {ls : Array Slot} {σ : gS} {nc i : Nat} {xv : Int32} {cn : Nat} (hi : i < 30) (hA9 : lA D σ nc ad ct) (hW : wasN D σ nc (5 * nc) ad ct) (hl : lv_has ls 22 [(9, .ref (ad (64))), (8, .int (nI (gNB σ))), (7, .int (nI (gNS σ))), (6, .int (gMi σ)), (5, .int (nI (cn))), (4, .int (xv)), (0, .ref (b)), (1, .ref (ad (0))), (2, .int (nI (nc))), (3, .int (nI (i)))]) (hr1 : cells + 301 ≤ 600086) (hr2 : slots + 2076 ≤ 7301442)
    (K : ∀ (rr : Nat) (ad1 : Nat → Nat) (ct1 : hC) (H1 : Heap) (locs1 : List Loc) (ls1 : Array Slot), rr = i % 5 → lA D σ nc ad1 ct1 → wasN D σ nc (5 * nc) ad1 ct1 → lookN D σ rr (gNS σ) 12 ad1 ct1 → hv D N0 ad1 ct1 H1 → va_S (hA N0) s.heap H1 locs1 → lv_has ls1 22 [(10, .ref (ad1 (208))), (9, .ref (ad1 (64))), (8, .int (nI (gNB σ))), (7, .int (nI (gNS σ))), (6, .int (gMi σ)), (5, .int (nI (cn))), (4, .int (xv)), (0, .ref (b)), (1, .ref (ad1 (0))), (2, .int (nI (nc))), (3, .int (nI (i)))] → W p l e room_1 s m #[Value.ref b] below meth c H1 locs1 (cells + 301) (slots + 2076) Q (F0 m 158 ls1 [])) : W p l e room_1 s m #[Value.ref b] below meth c H locs cells slots Q (F0 m 122 ls []) := by
  obtain ⟨hfl, hts, hts0, hx, hb, hml, hown, hX, hbs, hbA, hbl, hL, hKs⟩ := CT
  have kc79 := hts (.classLink RL 79 "[I") (by decide +kernel)
  obtain ⟨hO, h2, hnc0, hc, hG⟩ := hA9
  have h00 := hG.1
  obtain ⟨hn8, hn60, hn6, -⟩ := id hO
  refine lv_iload hx hb dL_law_122 (lv_at hl 2 rfl) ?_
  refine hv_newqA hx hb hown kc79 hKs hV hS (208) (n := gNS σ) (by omega) (show cells + 1 ≤ 600086 by omega) (show slots + gNS σ ≤ 7301442 by omega) dL_law_124 (fun ad ct H he hne hna hV hS => ?_)
  have hl : lv_has ls 22 [(9, .ref (ad (64))), (8, .int (nI (gNB σ))), (7, .int (nI (gNS σ))), (6, .int (gMi σ)), (5, .int (nI (cn))), (4, .int (xv)), (0, .ref (b)), (1, .ref (ad (0))), (2, .int (nI (nc))), (3, .int (nI (i)))] := by rw [hna (64) (by omega), hna (0) (by omega)]; exact hl
  have h00 : ct (0) = some (eO 3 [.ref (ad (16)), .ref (ad (32)), .ref (ad (48)), .int (nI (gNC σ)), .int (nI (gNS σ)), .int (nI (gNB σ)), .int (gFu σ), .int (gMi σ)]) := by rw [hne (0) (by omega), hna (16) (by omega), hna (32) (by omega), hna (48) (by omega)]; exact h00
  have hG := hG.keep (ct' := ct) (ad' := ad) (fun z h1 h2 => hne z (by omega)) (fun z h1 h2 => hna z (by omega))
  have hW := hW.keep (ct' := ct) (ad' := ad) (by omega) (fun q h1 h2 h3 => hne q (by omega)) (fun q h1 h2 h3 => hna q (by omega))
  have h208 := he
  refine lv_astore (lv' := [(10, .ref (ad (208))), (9, .ref (ad (64))), (8, .int (nI (gNB σ))), (7, .int (nI (gNS σ))), (6, .int (gMi σ)), (5, .int (nI (cn))), (4, .int (xv)), (0, .ref (b)), (1, .ref (ad (0))), (2, .int (nI (nc))), (3, .int (nI (i)))]) hx hb dL_law_127 hl (by decide) rfl (fun ls hl => ?_)
  refine lv_iload_n hx hb dL_law_129 rfl (lv_at hl 10 rfl) ?_
  refine lv_iconst (v := nI 5) hx hb dL_law_130 (by decide) ?_
  refine hN_irem hx hb (by omega) (by omega) (by omega) dL_law_131 ?_
  obtain ⟨rr, hrr⟩ : ∃ z, z = (i) % (5) := ⟨_, rfl⟩
  have hrr5 : rr < 5 := by omega
  refine hv_eqi (y := nI rr) (by rw [hrr]) ?_
  refine lv_istore (lv' := [(11, .int (nI (rr))), (10, .ref (ad (208))), (9, .ref (ad (64))), (8, .int (nI (gNB σ))), (7, .int (nI (gNS σ))), (6, .int (gMi σ)), (5, .int (nI (cn))), (4, .int (xv)), (0, .ref (b)), (1, .ref (ad (0))), (2, .int (nI (nc))), (3, .int (nI (i)))]) hx hb dL_law_132 hl (by decide) rfl (fun ls hl => ?_)
  have L134 : ∀ (n jj : Nat), jj ≤ 12 → 12 < jj + n → ∀ (ad : Nat → Nat) (ct : hC) (H : Heap) (locs : List Loc), (gX D σ ad ct) → (wasN D σ nc (5 * nc) ad ct) → (lookN D σ rr (gNS σ) jj ad ct) → hv D N0 ad ct H → va_S (hA N0) s.heap H locs → ∀ ls : Array Slot, lv_has ls 22 [(11, .int (nI (rr + 5 * jj))), (10, .ref (ad (208))), (9, .ref (ad (64))), (8, .int (nI (gNB σ))), (7, .int (nI (gNS σ))), (6, .int (gMi σ)), (5, .int (nI (cn))), (4, .int (xv)), (0, .ref (b)), (1, .ref (ad (0))), (2, .int (nI (nc))), (3, .int (nI (i)))] → W p l e room_1 s m #[Value.ref b] below meth c H locs (cells + 1 + 25 * jj) (slots + 60 + 168 * jj) Q (F0 m 134 ls []) := by
    intro n
    induction n with
    | zero => intro jj h1 h2; exact absurd h2 (by omega)
    | succ n ih134 =>
      intro jj hi134 hn134 ad ct H locs hG hW hLk hV hS ls hl
      have h00 := hG.1
      refine lv_iload hx hb dL_law_134 (lv_at hl 0 rfl) ?_
      refine lv_iload hx hb dL_law_136 (lv_at hl 4 rfl) ?_
      refine hN_icmp_ge (tgt := 158) hx hb (by omega) (by omega) dL_law_138 (by decide) (fun c138 => ?_) (fun c138 => ?_)
      · refine W.widen (k := cells + 301) (n := slots + 2076) (by omega) (by omega) ?_
        exact K (rr) ad ct _ _ _ (hrr) (⟨hO, h2, hnc0, hc, hG⟩) (hW) (hLk.mono (by omega)) hV hS (lv_sub hl [1, 2, 3, 4, 5, 6, 7, 8, 9, 10, 11] rfl)
      · refine lv_aload hx hb dL_law_141 (lv_at hl 1 rfl) ?_
        refine lv_iload hx hb dL_law_143 (lv_at hl 0 rfl) ?_
        refine lv_aload_n hx hb dL_law_145 rfl (lv_at hl 9 rfl) ?_
        refine lv_iload hx hb dL_law_146 (lv_at hl 0 rfl) ?_
        refine hv_callq (va_runS (As := [.ref (ad (0)), .int (nI (rr + 5 * jj))]) (rest := [.int (nI (rr + 5 * jj)), .ref (ad (208))]) ⟨hx, hb, hml, hown, hts⟩ (c_L_look l D N0 ad ct hfl hG hO (by omega : rr + 5 * jj < gNS σ) (tg := 16 * (rr + 5 * jj) + 224) (by omega)) (va_cwS 2 hts gL_law_L_look rfl rfl rfl (by decide +kernel) ⟨Nat.le_of_ble_eq_true rfl, Nat.le_of_ble_eq_true rfl⟩) (hv_preS hKs hV hS) rfl rfl hl.1 rfl (lv_room (Nat.le_of_ble_eq_true rfl)) dL_law_148 ⟨(show cells + 1 + 25 * jj + 25 ≤ 600086 by omega), (show slots + 60 + 168 * jj + 168 ≤ 7301442 by omega)⟩) hS (fun r9 u9 H locs hq hV hS => ?_)
        obtain ⟨ad, ct⟩ := u9
        dsimp only at hq
        obtain ⟨hz9, ⟨F, hF9, hFj⟩, hfr⟩ := hq
        have hV : hv D N0 ad ct H := hV
        subst hz9
        have hna := fun (q : Nat) (q1 : q ≠ 16 * (rr + 5 * jj) + 224) => (hfr q q1).1
        have hne := fun (q : Nat) (q1 : q ≠ 16 * (rr + 5 * jj) + 224) => (hfr q q1).2
        try dsimp only at hna hne
        refine hv_eq (w := .ref (ad (16 * (rr + 5 * jj) + 224))) rfl ?_
        refine hv_stk (st' := [.ref (ad (16 * (rr + 5 * jj) + 224)), .int (nI (rr + 5 * jj)), .ref (ad (208))]) (by rw [hna (208) (by omega)]) ?_
        have hl : lv_has ls 22 [(11, .int (nI (rr + 5 * jj))), (10, .ref (ad (208))), (9, .ref (ad (64))), (8, .int (nI (gNB σ))), (7, .int (nI (gNS σ))), (6, .int (gMi σ)), (5, .int (nI (cn))), (4, .int (xv)), (0, .ref (b)), (1, .ref (ad (0))), (2, .int (nI (nc))), (3, .int (nI (i)))] := by rw [hna (208) (by omega), hna (64) (by omega), hna (0) (by omega)]; exact hl
        have h00 : ct (0) = some (eO 3 [.ref (ad (16)), .ref (ad (32)), .ref (ad (48)), .int (nI (gNC σ)), .int (nI (gNS σ)), .int (nI (gNB σ)), .int (gFu σ), .int (gMi σ)]) := by rw [hne (0) (by omega), hna (16) (by omega), hna (32) (by omega), hna (48) (by omega)]; exact h00
        have hG := hG.keep (ct' := ct) (ad' := ad) (fun z h1 h2 => hne z (by omega)) (fun z h1 h2 => hna z (by omega))
        have hW := hW.keep (ct' := ct) (ad' := ad) (by omega) (fun q h1 h2 h3 => hne q (by omega)) (fun q h1 h2 h3 => hna q (by omega))
        have hLk := hLk.keep (ct' := ct) (ad' := ad) (by omega) (fun q h1 h2 h3 h4 => hne q (by omega)) (fun q h1 h2 h3 h4 => hna q (by omega))
        obtain ⟨gg, hg1, hg2⟩ := hLk
        refine hv_aastA hx hb hKs hV hS hg1 hF9 (by omega) (by omega) dL_law_151 (fun ct H locs he hne hV hS => ?_)
        have h00 := (hne (0) (by omega)).trans h00
        have hG := hG.keep (ct' := ct) (ad' := ad) (fun z h1 h2 => hne z (by omega)) (fun _ _ _ => rfl)
        have hW := hW.keep (ct' := ct) (ad' := ad) (by omega) (fun q h1 h2 h3 => hne q (by omega)) (fun _ _ _ _ => rfl)
        have hLk := lookN.put hrr5 hg2 hF9 hFj he hne
        refine lv_iinc (v := nI (rr + 5 * (jj + 1))) (lv' := [(11, .int (nI (rr + 5 * (jj + 1)))), (10, .ref (ad (208))), (9, .ref (ad (64))), (8, .int (nI (gNB σ))), (7, .int (nI (gNS σ))), (6, .int (gMi σ)), (5, .int (nI (cn))), (4, .int (xv)), (0, .ref (b)), (1, .ref (ad (0))), (2, .int (nI (nc))), (3, .int (nI (i)))]) hx hb dL_law_152 hl (k := 0) rfl (by rw [show rr + 5 * (jj + 1) = rr + 5 * jj + 5 by omega]; exact nI_add _ _) (by decide) rfl (fun ls hl => ?_)
        refine lv_goto (tgt := 134) hx hb dL_law_155 (by decide) ?_
        refine W.widen (k := cells + 1 + 25 * (jj + 1)) (n := slots + 60 + 168 * (jj + 1)) (by omega) (by omega) ?_
        exact ih134 (jj + 1)  (by omega) (by omega) ad ct _ _ (hG) (hW) (hLk) hV hS ls (lv_sub hl [0, 1, 2, 3, 4, 5, 6, 7, 8, 9, 10, 11] rfl)
  refine W.widen (k := cells + 1 + 25 * (0)) (n := slots + 60 + 168 * (0)) (by omega) (by omega) ?_
  exact L134 (12 + 1) (0)  (by omega) (by omega) ad ct _ _ (hG) (hW) (⟨_, h208, fun k _ h5 hj => absurd hj (by omega)⟩) hV hS ls (lv_sub hl [0, 1, 2, 3, 4, 5, 6, 7, 8, 9, 10, 11] rfl)

set_option maxHeartbeats 4000000 in
set_option maxRecDepth 100000 in
theorem S_D {p : Program} {l : Launch} {e : Env} {s : State} {m : MethodId} {below : List Frame} {meth : Method} {c : Code} {b L N0 : Nat} {xs : Nat → Int32} {Q : State → Prop} {D : hG} (CT : LC p l s m c b L N0 xs D) {ad : Nat → Nat} {ct : hC} {H : Heap} {locs : List Loc} {cells slots : Nat} (hV : hv D N0 ad ct H) (hS : va_S (hA N0) s.heap H locs) {ls : Array Slot} {σ : gS} {nc i : Nat} {xv : Int32} {cn rr : Nat} (hi : i < 30) (hcn1 : cn < nc) (hrr : rr = i % 5) (hA9 : lA D σ nc ad ct) (hW : wasN D σ nc (5 * nc) ad ct) (hLk : lookN D σ rr (gNS σ) 12 ad ct) (hl : lv_has ls 22 [(10, .ref (ad (208))), (9, .ref (ad (64))), (8, .int (nI (gNB σ))), (7, .int (nI (gNS σ))), (6, .int (gMi σ)), (5, .int (nI (cn))), (4, .int (xv)), (0, .ref (b)), (1, .ref (ad (0))), (2, .int (nI (nc))), (3, .int (nI (i)))]) (hr1 : cells + 0 ≤ 600086) (hr2 : slots + 0 ≤ 7301442)
    (K : ∀ (t : Nat) (ad1 : Nat → Nat) (ct1 : hC) (H1 : Heap) (locs1 : List Loc) (ls1 : Array Slot), (t = 208 ∨ t = 329 ∨ t = 352 ∨ t = 396 ∨ t = 574) → lA D σ nc ad1 ct1 → wasN D σ nc (5 * nc) ad1 ct1 → lookN D σ rr (gNS σ) 12 ad1 ct1 → hv D N0 ad1 ct1 H1 → va_S (hA N0) s.heap H1 locs1 → lv_has ls1 22 [(13, .int (nI (0))), (11, .long (dgt σ)), (10, .ref (ad1 (208))), (9, .ref (ad1 (64))), (8, .int (nI (gNB σ))), (7, .int (nI (gNS σ))), (6, .int (gMi σ)), (5, .int (nI (cn))), (4, .int (xv)), (0, .ref (b)), (1, .ref (ad1 (0))), (2, .int (nI (nc))), (3, .int (nI (i)))] → W p l e room_1 s m #[Value.ref b] below meth c H1 locs1 (cells + 0) (slots + 0) Q (F0 m t ls1 [])) : W p l e room_1 s m #[Value.ref b] below meth c H locs cells slots Q (F0 m 158 ls []) := by
  obtain ⟨hfl, hts, hts0, hx, hb, hml, hown, hX, hbs, hbA, hbl, hL, hKs⟩ := CT
  obtain ⟨hO, h2, hnc0, hc, hG⟩ := hA9
  have h00 := hG.1
  obtain ⟨hn8, hn60, hn6, -⟩ := id hO
  refine lv_aload_n hx hb dL_law_158 rfl (lv_at hl 8 rfl) ?_
  refine hv_calll (va_runV (As := []) (rest := []) ⟨hx, hb, hml, hown, hts⟩ (c_X3_digest l D N0 ad ct hG hO) (cwV 0 hts gL_law_X3_digest rfl rfl rfl (by decide +kernel) ⟨Nat.le_of_ble_eq_true rfl, Nat.le_of_ble_eq_true rfl⟩) (hv_preV (r := (RX3, TX3, 8)) hKs hV hS h00 rfl) rfl rfl hl.1 rfl (lv_room (Nat.le_of_ble_eq_true rfl)) dL_law_159 ⟨(show cells + 0 ≤ 600086 by omega), (show slots + 0 ≤ 7301442 by omega)⟩) hS (fun r9 u9 H locs hq hV hS => ?_)
  obtain ⟨rfl, rfl⟩ := hq
  have hV : hv D N0 ad ct H := hV
  refine lv_lstore (lv' := [(11, .long (dgt σ)), (10, .ref (ad (208))), (9, .ref (ad (64))), (8, .int (nI (gNB σ))), (7, .int (nI (gNS σ))), (6, .int (gMi σ)), (5, .int (nI (cn))), (4, .int (xv)), (0, .ref (b)), (1, .ref (ad (0))), (2, .int (nI (nc))), (3, .int (nI (i)))]) hx hb dL_law_162 hl (by decide) rfl (fun ls hl => ?_)
  refine lv_iconst (v := nI 0) hx hb dL_law_164 (by decide) ?_
  refine lv_istore (lv' := [(13, .int (nI (0))), (11, .long (dgt σ)), (10, .ref (ad (208))), (9, .ref (ad (64))), (8, .int (nI (gNB σ))), (7, .int (nI (gNS σ))), (6, .int (gMi σ)), (5, .int (nI (cn))), (4, .int (xv)), (0, .ref (b)), (1, .ref (ad (0))), (2, .int (nI (nc))), (3, .int (nI (i)))]) hx hb dL_law_165 hl (by decide) rfl (fun ls hl => ?_)
  refine lv_iload hx hb dL_law_167 (lv_at hl 8 rfl) ?_
  refine lv_bipush (v := nI 6) hx hb dL_law_169 (by decide) ?_
  refine hv_calli (va_runS (As := [.int (xv), .int (nI (6))]) (rest := []) ⟨hx, hb, hml, hown, hts⟩ (c_L_below l D N0 ad ct ((xv)) (by omega : 0 < 6) (by omega : 6 < 2 ^ 31)) (va_cwS 2 hts gL_law_L_below rfl rfl rfl (by decide +kernel) ⟨Nat.le_of_ble_eq_true rfl, Nat.le_of_ble_eq_true rfl⟩) (hv_preS hKs hV hS) rfl rfl hl.1 rfl (lv_room (Nat.le_of_ble_eq_true rfl)) dL_law_171 ⟨(show cells + 0 ≤ 600086 by omega), (show slots + 0 ≤ 7301442 by omega)⟩) hS (fun r9 u9 H locs hq hV hS => ?_)
  obtain ⟨rfl, rfl⟩ := hq
  have hV : hv D N0 ad ct H := hV
  have hbl0 := blw_lt ((xv)) (by omega : 0 < 6)
  obtain ⟨k9, hk9⟩ : ∃ z, z = blw ((xv)) (6) := ⟨_, rfl⟩
  have hk12 : k9 < 6 := by rw [hk9]; exact blw_lt _ (by omega)
  refine hv_eqi (y := nI k9) (by rw [hk9]) ?_
  clear hk9
  refine W.widen (k := cells + 0) (n := slots + 0) (by omega) (by omega) ?_
  rcases (show k9 = 0 ∨ k9 = 1 ∨ k9 = 2 ∨ k9 = 3 ∨ k9 = 4 ∨ k9 = 5 by omega) with rfl | rfl | rfl | rfl | rfl | rfl
  · refine lv_tableIn (tgt := 208) hx hb dL_law_174 (by decide) (by decide) rfl (by decide) ?_
    exact K (208) ad ct _ _ _ (by decide) ⟨hO, h2, hnc0, hc, hG⟩ hW hLk hV hS (lv_sub hl [0, 1, 2, 3, 4, 5, 6, 7, 8, 9, 10, 11, 12] rfl)
  · refine lv_tableIn (tgt := 329) hx hb dL_law_174 (by decide) (by decide) rfl (by decide) ?_
    exact K (329) ad ct _ _ _ (by decide) ⟨hO, h2, hnc0, hc, hG⟩ hW hLk hV hS (lv_sub hl [0, 1, 2, 3, 4, 5, 6, 7, 8, 9, 10, 11, 12] rfl)
  · refine lv_tableIn (tgt := 352) hx hb dL_law_174 (by decide) (by decide) rfl (by decide) ?_
    exact K (352) ad ct _ _ _ (by decide) ⟨hO, h2, hnc0, hc, hG⟩ hW hLk hV hS (lv_sub hl [0, 1, 2, 3, 4, 5, 6, 7, 8, 9, 10, 11, 12] rfl)
  · refine lv_tableIn (tgt := 396) hx hb dL_law_174 (by decide) (by decide) rfl (by decide) ?_
    exact K (396) ad ct _ _ _ (by decide) ⟨hO, h2, hnc0, hc, hG⟩ hW hLk hV hS (lv_sub hl [0, 1, 2, 3, 4, 5, 6, 7, 8, 9, 10, 11, 12] rfl)
  · refine lv_tableIn (tgt := 396) hx hb dL_law_174 (by decide) (by decide) rfl (by decide) ?_
    exact K (396) ad ct _ _ _ (by decide) ⟨hO, h2, hnc0, hc, hG⟩ hW hLk hV hS (lv_sub hl [0, 1, 2, 3, 4, 5, 6, 7, 8, 9, 10, 11, 12] rfl)
  · refine lv_tableOut (tgt := 574) hx hb dL_law_174 (by decide) (by decide) ?_
    exact K (574) ad ct _ _ _ (by decide) ⟨hO, h2, hnc0, hc, hG⟩ hW hLk hV hS (lv_sub hl [0, 1, 2, 3, 4, 5, 6, 7, 8, 9, 10, 11, 12] rfl)
