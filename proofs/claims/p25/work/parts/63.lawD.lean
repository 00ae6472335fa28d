set_option maxRecDepth 100000 in
theorem gLE : GoodIn lw_tbl (va_wsS RL 95 yJ7_equals_bbcde wsJE) := goodIn_p (va_wsS RL 95 yJ7_equals_bbcde wsJE) [527, 530, 537, 545] (by decide +kernel) (by decide +kernel)
theorem nsm_ie4 {f : Nat → Nat} (h : ∀ k, k < 4 → f k ≤ 1) : nsm f 4 ≤ 4 := nsm_le (c := 1) h
theorem ie_le (σ : gS) (k : Nat) : ie σ k ≤ 1 := by unfold ie; split <;> omega

set_option maxHeartbeats 4000000 in
set_option maxRecDepth 100000 in
theorem S_3a {p : Program} {l : Launch} {e : Env} {s : State} {m : MethodId} {below : List Frame} {meth : Method} {c : Code} {b L N0 : Nat} {xs : Nat → Int32} {Q : State → Prop} {D : hG} (CT : LC p l s m c b L N0 xs D) {ad : Nat → Nat} {ct : hC} {H : Heap} {locs : List Loc} {cells slots : Nat} (hV : hv D N0 ad ct H) (hS : va_S (hA N0) s.heap H locs) {ls : Array Slot} {σ : gS} {nc i : Nat} {xv : Int32} {cn rr : Nat} (hi : i < 30) (hcn1 : cn < nc) (hrr : rr = i % 5) (hA9 : lA D σ nc ad ct) (hW : wasN D σ nc (5 * nc) ad ct) (hLk : lookN D σ rr (gNS σ) 12 ad ct) (hl : lv_has ls 22 [(13, .int (nI (0))), (11, .long (dgt σ)), (10, .ref (ad (208))), (9, .ref (ad (64))), (8, .int (nI (gNB σ))), (7, .int (nI (gNS σ))), (6, .int (gMi σ)), (5, .int (nI (cn))), (4, .int (xv)), (0, .ref (b)), (1, .ref (ad (0))), (2, .int (nI (nc))), (3, .int (nI (i)))]) (hr1 : cells + 25 ≤ 600086) (hr2 : slots + 168 ≤ 7301442)
    (K : ∀ (F : Nat → Int32) (ad1 : Nat → Nat) (ct1 : hC) (H1 : Heap) (locs1 : List Loc) (ls1 : Array Slot), lA D σ nc ad1 ct1 → wasN D σ nc (5 * nc) ad1 ct1 → lookN D σ rr (gNS σ) 12 ad1 ct1 → ct1 1184 = some (eI D 24 F) → (0 < cLen σ cn → ∀ j, j < 24 → F j = nI (p_cut σ cn j)) → hv D N0 ad1 ct1 H1 → va_S (hA N0) s.heap H1 locs1 → lv_has ls1 22 [(14, .ref (ad1 (1184))), (13, .int (nI (0))), (10, .ref (ad1 (208))), (9, .ref (ad1 (64))), (8, .int (nI (gNB σ))), (7, .int (nI (gNS σ))), (6, .int (gMi σ)), (5, .int (nI (cn))), (4, .int (xv)), (0, .ref (b)), (1, .ref (ad1 (0))), (2, .int (nI (nc))), (3, .int (nI (i)))] → W p l e room_1 s m #[Value.ref b] below meth c H1 locs1 (cells + 25) (slots + 168) Q (F0 m 458 ls1 [])) : W p l e room_1 s m #[Value.ref b] below meth c H locs cells slots Q (F0 m 396 ls []) := by
  obtain ⟨hfl, hts, hts0, hx, hb, hml, hown, hX, hbs, hbA, hbl, hL, hKs⟩ := CT
  have karr := hts (.arrayClass .int) (by decide +kernel)
  obtain ⟨hO, h2, hnc0, hc, hG⟩ := hA9
  have h00 := hG.1
  obtain ⟨hn8, hn60, hn6, -⟩ := id hO
  have hca := hO.2.2.2.1 cn (by omega)
  have hht := hca.2.1
  have hle := hca.1
  have h64 := hW.1
  refine lv_bipush (v := nI 24) hx hb dL_law_396 (by decide) ?_
  refine hv_newI hx hb karr hKs hV hS (1184) (n := 24) (by decide) (show cells + 1 ≤ 600086 by omega) (show slots + 24 ≤ 7301442 by omega) dL_law_398 (fun ad ct H he hne hna hV hS => ?_)
  have hl : lv_has ls 22 [(13, .int (nI (0))), (11, .long (dgt σ)), (10, .ref (ad (208))), (9, .ref (ad (64))), (8, .int (nI (gNB σ))), (7, .int (nI (gNS σ))), (6, .int (gMi σ)), (5, .int (nI (cn))), (4, .int (xv)), (0, .ref (b)), (1, .ref (ad (0))), (2, .int (nI (nc))), (3, .int (nI (i)))] := by rw [hna (208) (by omega), hna (64) (by omega), hna (0) (by omega)]; exact hl
  have h00 : ct (0) = some (eO 3 [.ref (ad (16)), .ref (ad (32)), .ref (ad (48)), .int (nI (gNC σ)), .int (nI (gNS σ)), .int (nI (gNB σ)), .int (gFu σ), .int (gMi σ)]) := by rw [hne (0) (by omega), hna (16) (by omega), hna (32) (by omega), hna (48) (by omega)]; exact h00
  have h64 := (hne (64) (by omega)).trans h64
  have hn1 := he
  have hG := hG.keep (ct' := ct) (ad' := ad) (fun z h1 h2 => hne z (by omega)) (fun z h1 h2 => hna z (by omega))
  have hW := hW.keep (ct' := ct) (ad' := ad) (by omega) (fun q h1 h2 h3 => hne q (by omega)) (fun q h1 h2 h3 => hna q (by omega))
  have hLk := hLk.keep (ct' := ct) (ad' := ad) (by omega) (fun q h1 h2 h3 h4 => hne q (by omega)) (fun q h1 h2 h3 h4 => hna q (by omega))
  have h00 := hG.1
  have h64 := hW.1
  refine lv_astore (lv' := [(14, .ref (ad (1184))), (13, .int (nI (0))), (11, .long (dgt σ)), (10, .ref (ad (208))), (9, .ref (ad (64))), (8, .int (nI (gNB σ))), (7, .int (nI (gNS σ))), (6, .int (gMi σ)), (5, .int (nI (cn))), (4, .int (xv)), (0, .ref (b)), (1, .ref (ad (0))), (2, .int (nI (nc))), (3, .int (nI (i)))]) hx hb dL_law_400 hl (by decide) rfl (fun ls hl => ?_)
  refine lv_iconst (v := nI 0) hx hb dL_law_402 (by decide) ?_
  refine lv_istore (lv' := [(15, .int (nI (0))), (14, .ref (ad (1184))), (13, .int (nI (0))), (11, .long (dgt σ)), (10, .ref (ad (208))), (9, .ref (ad (64))), (8, .int (nI (gNB σ))), (7, .int (nI (gNS σ))), (6, .int (gMi σ)), (5, .int (nI (cn))), (4, .int (xv)), (0, .ref (b)), (1, .ref (ad (0))), (2, .int (nI (nc))), (3, .int (nI (i)))]) hx hb dL_law_403 hl (by decide) rfl (fun ls hl => ?_)
  have L405 : ∀ (n t : Nat) (F : Nat → Int32), t ≤ 24 → 24 < t + n → ∀ (ct : hC) (H : Heap) (locs : List Loc), (gX D σ ad ct) → (wasN D σ nc (5 * nc) ad ct) → (lookN D σ rr (gNS σ) 12 ad ct) → (ct 1184 = some (eI D 24 F)) → (∀ j, j < t → F j = nI (p_cut σ cn j)) → hv D N0 ad ct H → va_S (hA N0) s.heap H locs → ∀ ls : Array Slot, lv_has ls 22 [(15, .int (nI (t))), (14, .ref (ad (1184))), (13, .int (nI (0))), (10, .ref (ad (208))), (9, .ref (ad (64))), (8, .int (nI (gNB σ))), (7, .int (nI (gNS σ))), (6, .int (gMi σ)), (5, .int (nI (cn))), (4, .int (xv)), (0, .ref (b)), (1, .ref (ad (0))), (2, .int (nI (nc))), (3, .int (nI (i)))] → W p l e room_1 s m #[Value.ref b] below meth c H locs (cells + 1 + 1 * t) (slots + 24 + 6 * t) Q (F0 m 405 ls []) := by
    intro n
    induction n with
    | zero => intro t F h1 h2; exact absurd h2 (by omega)
    | succ n ih405 =>
      intro t F hi405 hn405 ct H locs hG hW hLk hF9 hFj hV hS ls hl
      have h00 := hG.1
      have h64 := hW.1
      refine lv_iload hx hb dL_law_405 (lv_at hl 0 rfl) ?_
      refine lv_bipush (v := nI 24) hx hb dL_law_407 (by decide) ?_
      refine hN_icmp_ge (tgt := 458) hx hb (by omega) (by omega) dL_law_409 (by decide) (fun c409 => ?_) (fun c409 => ?_)
      · refine W.widen (k := cells + 25) (n := slots + 168) (by omega) (by omega) ?_
        exact K (F) ad ct _ _ _ (⟨hO, h2, hnc0, hc, hG⟩) (hW) (hLk) (hF9) (fun h0 => fun j hj => hFj j (by omega)) hV hS (lv_sub hl [1, 2, 3, 4, 5, 6, 7, 8, 9, 10, 11, 12, 13] rfl)
      · refine lv_aload hx hb dL_law_412 (lv_at hl 4 rfl) ?_
        refine lv_iload hx hb dL_law_414 (lv_at hl 8 rfl) ?_
        refine hv_aaldA hx hb hKs hV h64 (by omega) (by omega) dL_law_416 ?_
        refine hv_eq (w := .ref (ad (16 * (cn) + 80))) (by rw [if_pos (by omega : cn < nc)]; rfl) ?_
        obtain ⟨fw2, fw2c, fw2j⟩ := hW.at (k := cn) (by omega)
        refine lv_iconst (v := nI 0) hx hb dL_law_417 (by decide) ?_
        refine hv_iald hx hb hKs hV fw2c (by omega) (by decide) dL_law_418 ?_
        refine hv_eqi (y := nI (cLen σ (cn))) (fw2j 0 (by omega)) ?_
        refine hN_if_le (tgt := 458) hx hb (by omega) dL_law_419 (by decide) (fun c419 => ?_) (fun c419 => ?_)
        · refine W.widen (k := cells + 25) (n := slots + 168) (by omega) (by omega) ?_
          exact K (F) ad ct _ _ _ (⟨hO, h2, hnc0, hc, hG⟩) (hW) (hLk) (hF9) (fun h0 => absurd h0 (by omega)) hV hS (lv_sub hl [1, 2, 3, 4, 5, 6, 7, 8, 9, 10, 11, 12, 13] rfl)
        · refine lv_aload hx hb dL_law_422 (lv_at hl 1 rfl) ?_
          refine lv_iload hx hb dL_law_424 (lv_at hl 0 rfl) ?_
          refine lv_aload_n hx hb dL_law_426 rfl (lv_at hl 11 rfl) ?_
          refine lv_iload hx hb dL_law_427 (lv_at hl 8 rfl) ?_
          refine lv_aload hx hb dL_law_429 (lv_at hl 4 rfl) ?_
          refine lv_iload hx hb dL_law_431 (lv_at hl 8 rfl) ?_
          refine hv_aaldA hx hb hKs hV h64 (by omega) (by omega) dL_law_433 ?_
          refine hv_eq (w := .ref (ad (16 * (cn) + 80))) (by rw [if_pos (by omega : cn < nc)]; rfl) ?_
          obtain ⟨fw3, fw3c, fw3j⟩ := hW.at (k := cn) (by omega)
          refine lv_iconst (v := nI 0) hx hb dL_law_434 (by decide) ?_
          refine hv_iald hx hb hKs hV fw3c (by omega) (by decide) dL_law_435 ?_
          refine hv_eqi (y := nI (cLen σ (cn))) (fw3j 0 (by omega)) ?_
          refine lv_iconst (v := nI 1) hx hb dL_law_436 (by decide) ?_
          refine hN_isub hx hb (by omega) dL_law_437 ?_
          refine lv_iload hx hb dL_law_438 (lv_at hl 0 rfl) ?_
          refine lv_bipush (v := nI 8) hx hb dL_law_440 (by decide) ?_
          refine hN_idiv hx hb (by omega) (by omega) (by omega) dL_law_442 ?_
          refine lv_iload hx hb dL_law_443 (lv_at hl 0 rfl) ?_
          refine lv_bipush (v := nI 8) hx hb dL_law_445 (by decide) ?_
          refine hN_irem hx hb (by omega) (by omega) (by omega) dL_law_447 ?_
          refine hv_call0 (kz_shows hO (by omega : cn < gNC σ) (by omega : cLen σ (cn) - (1) < cLen σ (cn)) (by omega : (t) / (8) < 3) (by omega : (t) % (8) < 8)) (vx_runV (As := [.int (nI (cn)), .int (nI (cLen σ (cn) - (1))), .int (nI ((t) / (8))), .int (nI ((t) % (8)))]) (rest := [.int (nI (t)), .ref (ad (1184))]) ⟨hx, hb, hml, hown, hts⟩ (c_X3_shows l hfl D N0 ad ct hG hO (nI (cn)) (nI (cLen σ (cn) - (1))) (nI ((t) / (8))) (nI ((t) % (8)))) (cwV 4 hts gL_law_X3_shows rfl rfl rfl (by decide +kernel) ⟨Nat.le_of_ble_eq_true rfl, Nat.le_of_ble_eq_true rfl⟩) (hv_preV (r := (RX3, TX3, 8)) hKs hV hS h00 rfl) rfl rfl hl.1 rfl (lv_room (Nat.le_of_ble_eq_true rfl)) dL_law_448 ⟨(show cells + 1 + 1 * t + 1 ≤ 600086 by omega), (show slots + 24 + 6 * t + 6 ≤ 7301442 by omega)⟩) hS (fun r9 u9 H locs hq hV hS => ?_)
          obtain ⟨-, hq, hu9⟩ := hq
          subst hu9
          have hV : hv D N0 ad ct H := hV
          simp only [toNat_nI (by omega : (cn) < 2 ^ 31), toNat_nI (by omega : (cLen σ (cn) - (1)) < 2 ^ 31), toNat_nI (by omega : ((t) / (8)) < 2 ^ 31), toNat_nI (by omega : ((t) % (8)) < 2 ^ 31)] at hq
          subst hq
          refine hv_eqi (y := nI (p_cut σ cn (8 * (t / 8) + t % 8))) rfl ?_
          refine hv_iast hx hb hKs hV hS hF9 (by omega) (by decide) dL_law_451 (fun ct H locs he hne hV hS => ?_)
          have h00 := (hne (0) (by omega)).trans h00
          have h64 := (hne (64) (by omega)).trans h64
          have fw3c := (hne (16 * (cn) + 80) (by omega)).trans fw3c
          have hF9 := he
          have hG := hG.keep (ct' := ct) (ad' := ad) (fun z h1 h2 => hne z (by omega)) (fun _ _ _ => rfl)
          have hW := hW.keep (ct' := ct) (ad' := ad) (by omega) (fun q h1 h2 h3 => hne q (by omega)) (fun _ _ _ _ => rfl)
          have hLk := hLk.keep (ct' := ct) (ad' := ad) (by omega) (fun q h1 h2 h3 h4 => hne q (by omega)) (fun _ _ _ _ _ => rfl)
          have hFj : ∀ j, j < t + 1 → va_up F t (nI (p_cut σ cn (8 * (t / 8) + t % 8))) j = nI (p_cut σ cn j) := fun j hj => by
            by_cases e : j = t
            · subst e
              rw [va_up_self, show 8 * (j / 8) + j % 8 = j by omega]
            · rw [va_up_ne _ _ e]
              exact hFj j (by omega)
          refine lv_iinc (v := nI (t + 1)) (lv' := [(15, .int (nI (t + 1))), (14, .ref (ad (1184))), (13, .int (nI (0))), (10, .ref (ad (208))), (9, .ref (ad (64))), (8, .int (nI (gNB σ))), (7, .int (nI (gNS σ))), (6, .int (gMi σ)), (5, .int (nI (cn))), (4, .int (xv)), (0, .ref (b)), (1, .ref (ad (0))), (2, .int (nI (nc))), (3, .int (nI (i)))]) hx hb dL_law_452 hl (k := 0) rfl (nI_add (t) 1) (by decide) rfl (fun ls hl => ?_)
          refine lv_goto (tgt := 405) hx hb dL_law_455 (by decide) ?_
          refine W.widen (k := cells + 1 + 1 * (t + 1)) (n := slots + 24 + 6 * (t + 1)) (by omega) (by omega) ?_
          exact ih405 (t + 1) (_) (by omega) (by omega) ct _ _ (hG) (hW) (hLk) (hF9) (hFj) hV hS ls (lv_sub hl [0, 1, 2, 3, 4, 5, 6, 7, 8, 9, 10, 11, 12, 13] rfl)
  refine W.widen (k := cells + 1 + 1 * (0)) (n := slots + 24 + 6 * (0)) (by omega) (by omega) ?_
  exact L405 (24 + 1) (0) (fun _ => 0) (by omega) (by omega) ct _ _ (hG) (hW) (hLk) (hn1) (fun j hj => absurd hj (Nat.not_lt_zero j)) hV hS ls (lv_sub hl [0, 1, 2, 4, 5, 6, 7, 8, 9, 10, 11, 12, 13, 14] rfl)

set_option maxHeartbeats 4000000 in
set_option maxRecDepth 100000 in
theorem S_3b {p : Program} {l : Launch} {e : Env} {s : State} {m : MethodId} {below : List Frame} {meth : Method} {c : Code} {b L N0 : Nat} {xs : Nat → Int32} {Q : State → Prop} {D : hG} (CT : LC p l s m c b L N0 xs D) {ad : Nat → Nat} {ct : hC} {H : Heap} {locs : List Loc} {cells slots : Nat} (hV : hv D N0 ad ct H) (hS : va_S (hA N0) s.heap H locs) {ls : Array Slot} {σ : gS} {nc i : Nat} {xv : Int32} {cn rr : Nat} (hi : i < 30) (hcn1 : cn < nc) (hrr : rr = i % 5) (hA9 : lA D σ nc ad ct) (hW : wasN D σ nc (5 * nc) ad ct) (hLk : lookN D σ rr (gNS σ) 12 ad ct) {F : Nat → Int32} (hF9 : ct 1184 = some (eI D 24 F)) (hFs : 0 < cLen σ cn → ∀ j, j < 24 → F j = nI (p_cut σ cn j)) (hl : lv_has ls 22 [(14, .ref (ad (1184))), (13, .int (nI (0))), (10, .ref (ad (208))), (9, .ref (ad (64))), (8, .int (nI (gNB σ))), (7, .int (nI (gNS σ))), (6, .int (gMi σ)), (5, .int (nI (cn))), (4, .int (xv)), (0, .ref (b)), (1, .ref (ad (0))), (2, .int (nI (nc))), (3, .int (nI (i)))]) (hr1 : cells + 30 ≤ 600086) (hr2 : slots + 210 ≤ 7301442)
    (K : ∀ (σ1 : gS) (g : Nat) (ad1 : Nat → Nat) (ct1 : hC) (H1 : Heap) (locs1 : List Loc) (ls1 : Array Slot), lA D σ1 nc ad1 ct1 → rel g σ σ1 → g ≤ 4 → wasN D σ nc (5 * nc) ad1 ct1 → lookN D σ rr (gNS σ) 12 ad1 ct1 → hv D N0 ad1 ct1 H1 → va_S (hA N0) s.heap H1 locs1 → lv_has ls1 22 [(13, .int (nI (g))), (10, .ref (ad1 (208))), (9, .ref (ad1 (64))), (8, .int (nI (gNB σ))), (7, .int (nI (gNS σ))), (6, .int (gMi σ)), (5, .int (nI (cn))), (4, .int (xv)), (0, .ref (b)), (1, .ref (ad1 (0))), (2, .int (nI (nc))), (3, .int (nI (i)))] → W p l e room_1 s m #[Value.ref b] below meth c H1 locs1 (cells + 30) (slots + 210) Q (F0 m 676 ls1 [])) : W p l e room_1 s m #[Value.ref b] below meth c H locs cells slots Q (F0 m 458 ls []) := by
  obtain ⟨hfl, hts, hts0, hx, hb, hml, hown, hX, hbs, hbA, hbl, hL, hKs⟩ := CT
  obtain ⟨hO, h2, hnc0, hc, hG⟩ := hA9
  have h00 := hG.1
  obtain ⟨hn8, hn60, hn6, -⟩ := id hO
  have hca := hO.2.2.2.1 cn (by omega)
  have hht := hca.2.1
  have hle := hca.1
  have h64 := hW.1
  have hFs9 := hF9
  refine lv_aload_n hx hb dL_law_458 rfl (lv_at hl 10 rfl) ?_
  refine lv_iload hx hb dL_law_459 (lv_at hl 7 rfl) ?_
  refine hv_calli (vx_runSW (hh := [(0, 5, 6, 63)]) (As := [.ref (ad (0)), .int (nI (cn))]) (rest := []) ⟨hx, hb, hml, hown, hts⟩ (c_L_cut l D N0 ad ct hfl hG hO (by omega : cn < gNC σ)) (vx_cwSW (hh := [(0, 5, 6, 63)]) 2 hts gL_law_L_cut rfl rfl rfl (by decide +kernel) ⟨Nat.le_of_ble_eq_true rfl, Nat.le_of_ble_eq_true rfl⟩) (hv_preS hKs hV hS) rfl rfl hl.1 rfl (lv_room (Nat.le_of_ble_eq_true rfl)) dL_law_461 ⟨(show cells + 3 ≤ 600086 by omega), (show slots + 30 ≤ 7301442 by omega)⟩) hS (fun r9 u9 H locs hq hV hS => ?_)
  obtain ⟨ad, ct⟩ := u9
  dsimp only at hq
  obtain ⟨hq, hF1⟩ := hq
  have hV : hv D N0 ad ct H := hV
  have hna := fun (q : Nat) (q1 : q % 16 = 0) => (hF1 q q1).1
  dsimp only at hna
  have hkc := kc_cut hO (by omega : cn < gNC σ)
  have hl : lv_has ls 22 [(14, .ref (ad (1184))), (13, .int (nI (0))), (10, .ref (ad (208))), (9, .ref (ad (64))), (8, .int (nI (gNB σ))), (7, .int (nI (gNS σ))), (6, .int (gMi σ)), (5, .int (nI (cn))), (4, .int (xv)), (0, .ref (b)), (1, .ref (ad (0))), (2, .int (nI (nc))), (3, .int (nI (i)))] := by rw [hna (1184) (by omega), hna (208) (by omega), hna (64) (by omega), hna (0) (by omega)]; exact hl
  have hF9 : ct 1184 = some (eI D 24 F) := ((hF1 1184 (by omega)).2 (by omega)).trans hF9
  rcases hq with ⟨hk, hz9, hG1⟩ | ⟨hk, hz9, hG1⟩
  · have h3 : 0 < cLen σ cn ∧ cHt σ cn ≤ 3 ∧ gNS σ < 60 := by
      rw [hk] at hkc
      split at hkc
      · cases hkc
      · omega
    obtain ⟨σ0, rfl⟩ : ∃ z, z = σ := ⟨σ, rfl⟩
    obtain ⟨σ, hσ⟩ : ∃ z, z = s_cut σ0 cn := ⟨_, rfl⟩
    rw [← hσ] at hG1
    have hrel : rel 0 σ0 σ := by rw [hσ]; exact rel_cut
    have hO0 := hO
    have hO : okS σ := by rw [hσ]; exact oks_cut hO (by omega) hk
    have h20 := h2
    have h2 : ok2 σ := by rw [hσ]; exact ok2_cut h2 (by omega)
    have hc0 := hc
    have hc : gNC σ = nc := by have := hrel.1; omega
    have hG := hG1
    have h00 := hG.1
    obtain ⟨hm8, hm60, hm6, -⟩ := id hO
    have hne1 := fun (q : Nat) (q1 : q % 16 = 0) (q2 : 64 ≤ q) => (hF1 q q1).2 q2
    try dsimp only at hne1
    have hW := hW.keep (ct' := ct) (ad' := ad) (by omega) (fun q h1 h2 h3 => hne1 q h1 (by omega)) (fun q h1 h2 h3 => hna q h1)
    have hLk := hLk.keep (ct' := ct) (ad' := ad) (by omega) (fun q h1 h2 h3 h4 => hne1 q h1 (by omega)) (fun q h1 h2 h3 h4 => hna q h1)
    have h64 := hW.1
    have hNS : gNS σ = gNS σ0 + 1 := by rw [hσ]; rfl
    have hlen : cLen σ cn = cLen σ0 cn - 1 := by
      rw [hσ]
      show (va_up σ0.2.1 cn (cLen σ0 cn - 1, cTw σ0 cn, cHt σ0 cn, cCr σ0 cn, cPt σ0 cn) cn).1 = _
      rw [va_up_self]
    have hnew : σ.2.2.2.1 (gNS σ0) = (p_cut σ0 cn, knd σ0 (p_cut σ0 cn) (gNS σ0), none) := by rw [hσ]; exact va_up_self _ _ _
    have hey : sEy σ (gNS σ0) = none := by show (σ.2.2.2.1 (gNS σ0)).2.2 = none; rw [hnew]
    have hpt : sPt σ (gNS σ0) = p_cut σ0 cn := by show (σ.2.2.2.1 (gNS σ0)).1 = _; rw [hnew]
    refine hv_eqi (y := nI (gNS σ0)) hz9 ?_
    refine lv_istore (lv' := [(15, .int (nI (gNS σ0))), (14, .ref (ad (1184))), (13, .int (nI (0))), (10, .ref (ad (208))), (9, .ref (ad (64))), (8, .int (nI (gNB σ0))), (7, .int (nI (gNS σ0))), (6, .int (gMi σ0)), (5, .int (nI (cn))), (4, .int (xv)), (0, .ref (b)), (1, .ref (ad (0))), (2, .int (nI (nc))), (3, .int (nI (i)))]) hx hb dL_law_464 hl (by decide) rfl (fun ls hl => ?_)
    refine lv_iload hx hb dL_law_466 (lv_at hl 0 rfl) ?_
    refine hN_if_lt (tgt := 475) hx hb (by omega) dL_law_468 (by decide) ?_
    refine lv_iconst (v := nI 1) hx hb dL_law_471 (by decide) ?_
    refine lv_goto (tgt := 476) hx hb dL_law_472 (by decide) ?_
    refine lv_aload hx hb dL_law_476 (lv_at hl 4 rfl) ?_
    refine lv_iload hx hb dL_law_478 (lv_at hl 8 rfl) ?_
    refine hv_aaldA hx hb hKs hV h64 (by omega) (by omega) dL_law_480 ?_
    refine hv_eq (w := .ref (ad (16 * (cn) + 80))) (by rw [if_pos (by omega : cn < nc)]; rfl) ?_
    obtain ⟨fw1, fw1c, fw1j⟩ := hW.at (k := cn) (by omega)
    refine lv_iconst (v := nI 0) hx hb dL_law_481 (by decide) ?_
    refine hv_iald hx hb hKs hV fw1c (by omega) (by decide) dL_law_482 ?_
    refine hv_eqi (y := nI (cLen σ0 (cn))) (fw1j 0 (by omega)) ?_
    refine hN_if_le (tgt := 508) hx hb (by omega) dL_law_483 (by decide) (fun c483 => by exact absurd c483 (by omega)) (fun c483 => ?_)
    refine lv_aload hx hb dL_law_486 (lv_at hl 4 rfl) ?_
    refine lv_iload hx hb dL_law_488 (lv_at hl 8 rfl) ?_
    refine hv_aaldA hx hb hKs hV h64 (by omega) (by omega) dL_law_490 ?_
    refine hv_eq (w := .ref (ad (16 * (cn) + 80))) (by rw [if_pos (by omega : cn < nc)]; rfl) ?_
    obtain ⟨fw2, fw2c, fw2j⟩ := hW.at (k := cn) (by omega)
    refine lv_iconst (v := nI 2) hx hb dL_law_491 (by decide) ?_
    refine hv_iald hx hb hKs hV fw2c (by omega) (by decide) dL_law_492 ?_
    refine hv_eqi (y := nI (cHt σ0 (cn))) (fw2j 2 (by omega)) ?_
    refine lv_iconst (v := nI 4) hx hb dL_law_493 (by decide) ?_
    refine hN_icmp_ge (tgt := 508) hx hb (by omega) (by omega) dL_law_494 (by decide) (fun c494 => by exact absurd c494 (by omega)) (fun c494 => ?_)
    refine lv_iload hx hb dL_law_497 (lv_at hl 6 rfl) ?_
    refine lv_bipush (v := nI 60) hx hb dL_law_499 (by decide) ?_
    refine hN_icmp_ge (tgt := 508) hx hb (by omega) (by omega) dL_law_501 (by decide) (fun c501 => by exact absurd c501 (by omega)) (fun c501 => ?_)
    refine lv_iconst (v := nI 1) hx hb dL_law_504 (by decide) ?_
    refine lv_goto (tgt := 509) hx hb dL_law_505 (by decide) ?_
    refine hN_icmp_eq (tgt := 514) hx hb (by omega) (by omega) dL_law_509 (by decide) (fun c509 => ?_) (fun c509 => by exact absurd rfl c509)
    refine lv_iload hx hb dL_law_514 (lv_at hl 0 rfl) ?_
    refine hN_if_ge (tgt := 522) hx hb (by omega) dL_law_516 (by decide) ?_
    refine lv_iload hx hb dL_law_522 (lv_at hl 0 rfl) ?_
    refine lv_iload hx hb dL_law_524 (lv_at hl 6 rfl) ?_
    refine hN_icmp_ne (tgt := 572) hx hb (by omega) (by omega) dL_law_526 (by decide) (fun c526 => by exact absurd rfl c526) (fun c526 => ?_)
    refine lv_aload_n hx hb dL_law_529 rfl (lv_at hl 11 rfl) ?_
    refine lv_iload hx hb dL_law_530 (lv_at hl 8 rfl) ?_
    refine lv_iconst (v := nI 0) hx hb dL_law_532 (by decide) ?_
    refine hv_call0 (kz_cane hO (by omega : cn < gNC σ) (by omega : 0 < 5)) (vx_runV (As := [.int (nI (cn)), .int (nI (0))]) (rest := []) ⟨hx, hb, hml, hown, hts⟩ (c_X3_cane l hfl D N0 ad ct hG hO (nI (cn)) (nI (0))) (cwV 2 hts gL_law_X3_cane rfl rfl rfl (by decide +kernel) ⟨Nat.le_of_ble_eq_true rfl, Nat.le_of_ble_eq_true rfl⟩) (hv_preV (r := (RX3, TX3, 8)) hKs hV hS h00 rfl) rfl rfl hl.1 rfl (lv_room (Nat.le_of_ble_eq_true rfl)) dL_law_533 ⟨(show cells + 3 + 1 ≤ 600086 by omega), (show slots + 30 + 6 ≤ 7301442 by omega)⟩) hS (fun r9 u9 H locs hq hV hS => ?_)
    obtain ⟨-, hq, hu9⟩ := hq
    subst hu9
    have hV : hv D N0 ad ct H := hV
    simp only [toNat_nI (by omega : (cn) < 2 ^ 31)] at hq
    refine hv_eqi (y := nI (cLen σ (cn))) hq ?_
    refine lv_aload hx hb dL_law_536 (lv_at hl 4 rfl) ?_
    refine lv_iload hx hb dL_law_538 (lv_at hl 8 rfl) ?_
    refine hv_aaldA hx hb hKs hV h64 (by omega) (by omega) dL_law_540 ?_
    refine hv_eq (w := .ref (ad (16 * (cn) + 80))) (by rw [if_pos (by omega : cn < nc)]; rfl) ?_
    obtain ⟨fw3, fw3c, fw3j⟩ := hW.at (k := cn) (by omega)
    refine lv_iconst (v := nI 0) hx hb dL_law_541 (by decide) ?_
    refine hv_iald hx hb hKs hV fw3c (by omega) (by decide) dL_law_542 ?_
    refine hv_eqi (y := nI (cLen σ0 (cn))) (fw3j 0 (by omega)) ?_
    refine lv_iconst (v := nI 1) hx hb dL_law_543 (by decide) ?_
    refine hN_isub hx hb (by omega) dL_law_544 ?_
    refine hN_icmp_ne (tgt := 572) hx hb (by omega) (by omega) dL_law_545 (by decide) (fun c545 => by exact absurd c545 (by omega)) (fun c545 => ?_)
    refine lv_aload_n hx hb dL_law_548 rfl (lv_at hl 11 rfl) ?_
    refine lv_iload hx hb dL_law_549 (lv_at hl 0 rfl) ?_
    refine hv_call0 (kz_where hO (by omega : gNS σ0 < gNS σ)) (vx_runV (As := [.int (nI (gNS σ0))]) (rest := []) ⟨hx, hb, hml, hown, hts⟩ (c_X3_where l hfl D N0 ad ct hG hO (nI (gNS σ0))) (cwV 1 hts gL_law_X3_where rfl rfl rfl (by decide +kernel) ⟨Nat.le_of_ble_eq_true rfl, Nat.le_of_ble_eq_true rfl⟩) (hv_preV (r := (RX3, TX3, 8)) hKs hV hS h00 rfl) rfl rfl hl.1 rfl (lv_room (Nat.le_of_ble_eq_true rfl)) dL_law_551 ⟨(show cells + 3 + 1 + 1 ≤ 600086 by omega), (show slots + 30 + 6 + 6 ≤ 7301442 by omega)⟩) hS (fun r9 u9 H locs hq hV hS => ?_)
    obtain ⟨-, hq, hu9⟩ := hq
    subst hu9
    have hV : hv D N0 ad ct H := hV
    simp only [toNat_nI (by omega : (gNS σ0) < 2 ^ 31)] at hq
    subst hq
    refine hv_eqi (y := (-1)) (by rw [hey]; rfl) ?_
    refine lv_iconst (v := (-1)) hx hb dL_law_554 (by decide) ?_
    refine hI_icmp_ne (tgt := 572) hx hb dL_law_555 (by decide) (fun c555 => by exact absurd rfl c555) (fun c555 => ?_)
    refine lv_aload_n hx hb dL_law_558 rfl (lv_at hl 11 rfl) ?_
    refine lv_iload hx hb dL_law_559 (lv_at hl 0 rfl) ?_
    refine hv_callq (va_runS (As := [.ref (ad (0)), .int (nI (gNS σ0))]) (rest := []) ⟨hx, hb, hml, hown, hts⟩ (c_L_look l D N0 ad ct hfl hG hO (by omega : gNS σ0 < gNS σ) (tg := 1200) (by omega)) (va_cwS 2 hts gL_law_L_look rfl rfl rfl (by decide +kernel) ⟨Nat.le_of_ble_eq_true rfl, Nat.le_of_ble_eq_true rfl⟩) (hv_preS hKs hV hS) rfl rfl hl.1 rfl (lv_room (Nat.le_of_ble_eq_true rfl)) dL_law_561 ⟨(show cells + 3 + 1 + 1 + 25 ≤ 600086 by omega), (show slots + 30 + 6 + 6 + 168 ≤ 7301442 by omega)⟩) hS (fun r9 u9 H locs hq hV hS => ?_)
    obtain ⟨ad, ct⟩ := u9
    dsimp only at hq
    have hFy := hF9
    obtain ⟨hz9, ⟨Fl, hF9, hFj⟩, hfr⟩ := hq
    have hV : hv D N0 ad ct H := hV
    subst hz9
    have hna := fun (q : Nat) (q1 : q ≠ 1200) => (hfr q q1).1
    have hne := fun (q : Nat) (q1 : q ≠ 1200) => (hfr q q1).2
    try dsimp only at hna hne
    refine hv_eq (w := .ref (ad (1200))) rfl ?_
    have hl : lv_has ls 22 [(15, .int (nI (gNS σ0))), (14, .ref (ad (1184))), (13, .int (nI (0))), (10, .ref (ad (208))), (9, .ref (ad (64))), (8, .int (nI (gNB σ0))), (7, .int (nI (gNS σ0))), (6, .int (gMi σ0)), (5, .int (nI (cn))), (4, .int (xv)), (0, .ref (b)), (1, .ref (ad (0))), (2, .int (nI (nc))), (3, .int (nI (i)))] := by rw [hna (1184) (by omega), hna (208) (by omega), hna (64) (by omega), hna (0) (by omega)]; exact hl
    have h00 : ct (0) = some (eO 3 [.ref (ad (16)), .ref (ad (32)), .ref (ad (48)), .int (nI (gNC σ)), .int (nI (gNS σ)), .int (nI (gNB σ)), .int (gFu σ), .int (gMi σ)]) := by rw [hne (0) (by omega), hna (16) (by omega), hna (32) (by omega), hna (48) (by omega)]; exact h00
    have h64 := (hne (64) (by omega)).trans h64
    have fw3c := (hne (16 * (cn) + 80) (by omega)).trans fw3c
    have hFl := hF9
    have hG := hG.keep (ct' := ct) (ad' := ad) (fun z h1 h2 => hne z (by omega)) (fun z h1 h2 => hna z (by omega))
    have hW := hW.keep (ct' := ct) (ad' := ad) (by omega) (fun q h1 h2 h3 => hne q (by omega)) (fun q h1 h2 h3 => hna q (by omega))
    have hLk := hLk.keep (ct' := ct) (ad' := ad) (by omega) (fun q h1 h2 h3 h4 => hne q (by omega)) (fun q h1 h2 h3 h4 => hna q (by omega))
    have hF9 := (hne 1184 (by omega)).trans hFy
    refine lv_aload hx hb dL_law_564 (lv_at hl 1 rfl) ?_
    refine hv_calli (va_runS (As := [.ref (ad (1200)), .ref (ad (1184))]) (rest := []) ⟨hx, hb, hml, hown, hts0⟩ (c_JE l D N0 ad ct hFl hF9 (fun j hj => by rw [hFj j hj, hFs h3.1 j hj, hpt])) (va_cwS 2 hts0 gLE rfl rfl rfl (by decide +kernel) ⟨Nat.le_of_ble_eq_true rfl, Nat.le_of_ble_eq_true rfl⟩) (hv_preS hKs hV hS) rfl rfl hl.1 rfl (lv_room (Nat.le_of_ble_eq_true rfl)) dL_law_566 ⟨(show cells + 3 + 1 + 1 + 25 + 0 ≤ 600086 by omega), (show slots + 30 + 6 + 6 + 168 + 0 ≤ 7301442 by omega)⟩) hS (fun r9 u9 H locs hq hV hS => ?_)
    obtain ⟨rfl, rfl⟩ := hq
    have hV : hv D N0 ad ct H := hV
    refine hN_if_ne (tgt := 676) hx hb (by omega) dL_law_569 (by decide) (fun c569 => ?_) (fun c569 => by exact absurd c569 (by omega))
    refine W.widen (k := cells + 30) (n := slots + 210) (by omega) (by omega) ?_
    exact K (σ) (0) ad ct _ _ _ (⟨hO, h2, hnc0, hc, hG⟩) (hrel) (by omega) (hW) (hLk) hV hS (lv_sub hl [2, 3, 4, 5, 6, 7, 8, 9, 10, 11, 12, 13] rfl)
  · have h3 : cLen σ cn = 0 ∨ 3 < cHt σ cn ∨ gNS σ = 60 := by
      split at hkc
      · assumption
      · exact absurd hkc hk
    have hG := hG1
    have hrel : rel 0 σ σ := rel_0
    have h00 := hG.1
    obtain ⟨hm8, hm60, hm6, -⟩ := id hO
    have hne1 := fun (q : Nat) (q1 : q % 16 = 0) (q2 : 64 ≤ q) => (hF1 q q1).2 q2
    try dsimp only at hne1
    have hW := hW.keep (ct' := ct) (ad' := ad) (by omega) (fun q h1 h2 h3 => hne1 q h1 (by omega)) (fun q h1 h2 h3 => hna q h1)
    have hLk := hLk.keep (ct' := ct) (ad' := ad) (by omega) (fun q h1 h2 h3 h4 => hne1 q h1 (by omega)) (fun q h1 h2 h3 h4 => hna q h1)
    have h64 := hW.1
    refine hv_eqi (y := (-1)) hz9 ?_
    refine lv_istore (lv' := [(15, .int ((-1))), (14, .ref (ad (1184))), (13, .int (nI (0))), (10, .ref (ad (208))), (9, .ref (ad (64))), (8, .int (nI (gNB σ))), (7, .int (nI (gNS σ))), (6, .int (gMi σ)), (5, .int (nI (cn))), (4, .int (xv)), (0, .ref (b)), (1, .ref (ad (0))), (2, .int (nI (nc))), (3, .int (nI (i)))]) hx hb dL_law_464 hl (by decide) rfl (fun ls hl => ?_)
    refine lv_iload hx hb dL_law_466 (lv_at hl 0 rfl) ?_
    refine hI_if_lt (tgt := 475) hx hb dL_law_468 (by decide) (fun c468 => ?_) (fun c468 => by exact absurd c468 (by decide))
    refine lv_iconst (v := nI 0) hx hb dL_law_475 (by decide) ?_
    refine lv_aload hx hb dL_law_476 (lv_at hl 4 rfl) ?_
    refine lv_iload hx hb dL_law_478 (lv_at hl 8 rfl) ?_
    refine hv_aaldA hx hb hKs hV h64 (by omega) (by omega) dL_law_480 ?_
    refine hv_eq (w := .ref (ad (16 * (cn) + 80))) (by rw [if_pos (by omega : cn < nc)]; rfl) ?_
    obtain ⟨fw4, fw4c, fw4j⟩ := hW.at (k := cn) (by omega)
    refine lv_iconst (v := nI 0) hx hb dL_law_481 (by decide) ?_
    refine hv_iald hx hb hKs hV fw4c (by omega) (by decide) dL_law_482 ?_
    refine hv_eqi (y := nI (cLen σ (cn))) (fw4j 0 (by omega)) ?_
    refine hN_if_le (tgt := 508) hx hb (by omega) dL_law_483 (by decide) (fun c483 => ?_) (fun c483 => ?_)
    · refine lv_iconst (v := nI 0) hx hb dL_law_508 (by decide) ?_
      refine hN_icmp_eq (tgt := 514) hx hb (by omega) (by omega) dL_law_509 (by decide) (fun c509 => ?_) (fun c509 => by exact absurd rfl c509)
      refine lv_iload hx hb dL_law_514 (lv_at hl 0 rfl) ?_
      refine hI_if_ge (tgt := 522) hx hb dL_law_516 (by decide) (fun c516 => by exact absurd c516 (by decide)) (fun c516 => ?_)
      refine lv_goto (tgt := 676) hx hb dL_law_519 (by decide) ?_
      refine W.widen (k := cells + 30) (n := slots + 210) (by omega) (by omega) ?_
      exact K (σ) (0) ad ct _ _ _ (⟨hO, h2, hnc0, hc, hG⟩) (hrel) (by omega) (hW) (hLk) hV hS (lv_sub hl [2, 3, 4, 5, 6, 7, 8, 9, 10, 11, 12, 13] rfl)
    · refine lv_aload hx hb dL_law_486 (lv_at hl 4 rfl) ?_
      refine lv_iload hx hb dL_law_488 (lv_at hl 8 rfl) ?_
      refine hv_aaldA hx hb hKs hV h64 (by omega) (by omega) dL_law_490 ?_
      refine hv_eq (w := .ref (ad (16 * (cn) + 80))) (by rw [if_pos (by omega : cn < nc)]; rfl) ?_
      obtain ⟨fw5, fw5c, fw5j⟩ := hW.at (k := cn) (by omega)
      refine lv_iconst (v := nI 2) hx hb dL_law_491 (by decide) ?_
      refine hv_iald hx hb hKs hV fw5c (by omega) (by decide) dL_law_492 ?_
      refine hv_eqi (y := nI (cHt σ (cn))) (fw5j 2 (by omega)) ?_
      refine lv_iconst (v := nI 4) hx hb dL_law_493 (by decide) ?_
      refine hN_icmp_ge (tgt := 508) hx hb (by omega) (by omega) dL_law_494 (by decide) (fun c494 => ?_) (fun c494 => ?_)
      · refine lv_iconst (v := nI 0) hx hb dL_law_508 (by decide) ?_
        refine hN_icmp_eq (tgt := 514) hx hb (by omega) (by omega) dL_law_509 (by decide) (fun c509 => ?_) (fun c509 => by exact absurd rfl c509)
        refine lv_iload hx hb dL_law_514 (lv_at hl 0 rfl) ?_
        refine hI_if_ge (tgt := 522) hx hb dL_law_516 (by decide) (fun c516 => by exact absurd c516 (by decide)) (fun c516 => ?_)
        refine lv_goto (tgt := 676) hx hb dL_law_519 (by decide) ?_
        refine W.widen (k := cells + 30) (n := slots + 210) (by omega) (by omega) ?_
        exact K (σ) (0) ad ct _ _ _ (⟨hO, h2, hnc0, hc, hG⟩) (hrel) (by omega) (hW) (hLk) hV hS (lv_sub hl [2, 3, 4, 5, 6, 7, 8, 9, 10, 11, 12, 13] rfl)
      · refine lv_iload hx hb dL_law_497 (lv_at hl 6 rfl) ?_
        refine lv_bipush (v := nI 60) hx hb dL_law_499 (by decide) ?_
        refine hN_icmp_ge (tgt := 508) hx hb (by omega) (by omega) dL_law_501 (by decide) (fun c501 => ?_) (fun c501 => by exact absurd c501 (by omega))
        refine lv_iconst (v := nI 0) hx hb dL_law_508 (by decide) ?_
        refine hN_icmp_eq (tgt := 514) hx hb (by omega) (by omega) dL_law_509 (by decide) (fun c509 => ?_) (fun c509 => by exact absurd rfl c509)
        refine lv_iload hx hb dL_law_514 (lv_at hl 0 rfl) ?_
        refine hI_if_ge (tgt := 522) hx hb dL_law_516 (by decide) (fun c516 => by exact absurd c516 (by decide)) (fun c516 => ?_)
        refine lv_goto (tgt := 676) hx hb dL_law_519 (by decide) ?_
        refine W.widen (k := cells + 30) (n := slots + 210) (by omega) (by omega) ?_
        exact K (σ) (0) ad ct _ _ _ (⟨hO, h2, hnc0, hc, hG⟩) (hrel) (by omega) (hW) (hLk) hV hS (lv_sub hl [2, 3, 4, 5, 6, 7, 8, 9, 10, 11, 12, 13] rfl)

set_option maxHeartbeats 4000000 in
set_option maxRecDepth 100000 in
theorem S_5 {p : Program} {l : Launch} {e : Env} {s : State} {m : MethodId} {below : List Frame} {meth : Method} {c : Code} {b L N0 : Nat} {xs : Nat → Int32} {Q : State → Prop} {D : hG} (CT : LC p l s m c b L N0 xs D) {ad : Nat → Nat} {ct : hC} {H : Heap} {locs : List Loc} {cells slots : Nat} (hV : hv D N0 ad ct H) (hS : va_S (hA N0) s.heap H locs) {ls : Array Slot} {σ : gS} {nc i : Nat} {xv : Int32} {cn rr : Nat} (hi : i < 30) (hcn1 : cn < nc) (hrr : rr = i % 5) (hA9 : lA D σ nc ad ct) (hW : wasN D σ nc (5 * nc) ad ct) (hLk : lookN D σ rr (gNS σ) 12 ad ct) (hl : lv_has ls 22 [(13, .int (nI (0))), (11, .long (dgt σ)), (10, .ref (ad (208))), (9, .ref (ad (64))), (8, .int (nI (gNB σ))), (7, .int (nI (gNS σ))), (6, .int (gMi σ)), (5, .int (nI (cn))), (4, .int (xv)), (0, .ref (b)), (1, .ref (ad (0))), (2, .int (nI (nc))), (3, .int (nI (i)))]) (hr1 : cells + 55 ≤ 600086) (hr2 : slots + 378 ≤ 7301442)
    (K : ∀ (σ1 : gS) (g : Nat) (ad1 : Nat → Nat) (ct1 : hC) (H1 : Heap) (locs1 : List Loc) (ls1 : Array Slot), lA D σ1 nc ad1 ct1 → rel g σ σ1 → g ≤ 4 → wasN D σ nc (5 * nc) ad1 ct1 → lookN D σ rr (gNS σ) 12 ad1 ct1 → hv D N0 ad1 ct1 H1 → va_S (hA N0) s.heap H1 locs1 → lv_has ls1 22 [(13, .int (nI (g))), (10, .ref (ad1 (208))), (9, .ref (ad1 (64))), (8, .int (nI (gNB σ))), (7, .int (nI (gNS σ))), (6, .int (gMi σ)), (5, .int (nI (cn))), (4, .int (xv)), (0, .ref (b)), (1, .ref (ad1 (0))), (2, .int (nI (nc))), (3, .int (nI (i)))] → W p l e room_1 s m #[Value.ref b] below meth c H1 locs1 (cells + 55) (slots + 378) Q (F0 m 676 ls1 [])) : W p l e room_1 s m #[Value.ref b] below meth c H locs cells slots Q (F0 m 574 ls []) := by
  obtain ⟨hfl, hts, hts0, hx, hb, hml, hown, hX, hbs, hbA, hbl, hL, hKs⟩ := CT
  obtain ⟨hO, h2, hnc0, hc, hG⟩ := hA9
  have h00 := hG.1
  obtain ⟨hn8, hn60, hn6, -⟩ := id hO
  have hca := hO.2.2.2.1 cn (by omega)
  have hht := hca.2.1
  have hle := hca.1
  have h64 := hW.1
  refine lv_iload hx hb dL_law_574 (lv_at hl 4 rfl) ?_
  refine hN_if_eq (tgt := 676) hx hb (by omega) dL_law_576 (by decide) (fun c576 => ?_) (fun c576 => ?_)
  · have hrel : rel 0 σ σ := rel_0
    refine W.widen (k := cells + 55) (n := slots + 378) (by omega) (by omega) ?_
    exact K (σ) (0) ad ct _ _ _ (⟨hO, h2, hnc0, hc, hG⟩) (hrel) (by omega) (hW) (hLk) hV hS (lv_sub hl [0, 2, 3, 4, 5, 6, 7, 8, 9, 10, 11, 12] rfl)
  · refine lv_iload hx hb dL_law_579 (lv_at hl 5 rfl) ?_
    refine hN_if_ne (tgt := 587) hx hb (by omega) dL_law_581 (by decide) (fun c581 => ?_) (fun c581 => ?_)
    · refine lv_iload hx hb dL_law_587 (lv_at hl 8 rfl) ?_
      refine lv_iconst (v := nI 5) hx hb dL_law_589 (by decide) ?_
      refine lv_ishr hx hb dL_law_590 ?_
      refine lv_iload hx hb dL_law_591 (lv_at hl 4 rfl) ?_
      refine hv_calli (va_runS (As := [.int ((xv) >>> (nI (5) &&& 31)), .int (nI (gNB σ))]) (rest := []) ⟨hx, hb, hml, hown, hts⟩ (c_L_below l D N0 ad ct (((xv) >>> (nI (5) &&& 31))) (by omega : 0 < gNB σ) (by omega : gNB σ < 2 ^ 31)) (va_cwS 2 hts gL_law_L_below rfl rfl rfl (by decide +kernel) ⟨Nat.le_of_ble_eq_true rfl, Nat.le_of_ble_eq_true rfl⟩) (hv_preS hKs hV hS) rfl rfl hl.1 rfl (lv_room (Nat.le_of_ble_eq_true rfl)) dL_law_593 ⟨(show cells + 0 ≤ 600086 by omega), (show slots + 0 ≤ 7301442 by omega)⟩) hS (fun r9 u9 H locs hq hV hS => ?_)
      obtain ⟨rfl, rfl⟩ := hq
      have hV : hv D N0 ad ct H := hV
      have hbl0 := blw_lt (((xv) >>> (nI (5) &&& 31))) (by omega : 0 < gNB σ)
      obtain ⟨bd, hbd⟩ : ∃ z, z = blw (((xv) >>> (nI (5) &&& 31))) (gNB σ) := ⟨_, rfl⟩
      have hbd9 : bd < gNB σ := by omega
      refine hv_eqi (y := nI bd) (by rw [hbd]) ?_
      refine lv_istore (lv' := [(14, .int (nI (bd))), (13, .int (nI (0))), (11, .long (dgt σ)), (10, .ref (ad (208))), (9, .ref (ad (64))), (8, .int (nI (gNB σ))), (7, .int (nI (gNS σ))), (6, .int (gMi σ)), (5, .int (nI (cn))), (4, .int (xv)), (0, .ref (b)), (1, .ref (ad (0))), (2, .int (nI (nc))), (3, .int (nI (i)))]) hx hb dL_law_596 hl (by decide) rfl (fun ls hl => ?_)
      refine lv_aload_n hx hb dL_law_598 rfl (lv_at hl 11 rfl) ?_
      refine lv_iload hx hb dL_law_599 (lv_at hl 0 rfl) ?_
      refine lv_iload hx hb dL_law_601 (lv_at hl 9 rfl) ?_
      refine lv_iconst (v := nI 4) hx hb dL_law_603 (by decide) ?_
      refine lv_ishr hx hb dL_law_604 ?_
      refine lv_iconst (v := nI 4) hx hb dL_law_605 (by decide) ?_
      refine hv_calli (va_runS (As := [.int ((xv) >>> (nI (4) &&& 31)), .int (nI (4))]) (rest := [.int (nI (bd)), .ref (ad (0))]) ⟨hx, hb, hml, hown, hts⟩ (c_L_below l D N0 ad ct (((xv) >>> (nI (4) &&& 31))) (by omega : 0 < 4) (by omega : 4 < 2 ^ 31)) (va_cwS 2 hts gL_law_L_below rfl rfl rfl (by decide +kernel) ⟨Nat.le_of_ble_eq_true rfl, Nat.le_of_ble_eq_true rfl⟩) (hv_preS hKs hV hS) rfl rfl hl.1 rfl (lv_room (Nat.le_of_ble_eq_true rfl)) dL_law_606 ⟨(show cells + 0 ≤ 600086 by omega), (show slots + 0 ≤ 7301442 by omega)⟩) hS (fun r9 u9 H locs hq hV hS => ?_)
      obtain ⟨rfl, rfl⟩ := hq
      have hV : hv D N0 ad ct H := hV
      have hbl1 := blw_lt (((xv) >>> (nI (4) &&& 31))) (by omega : 0 < 4)
      refine lv_iload hx hb dL_law_609 (lv_at hl 9 rfl) ?_
      refine lv_bipush (v := nI 6) hx hb dL_law_611 (by decide) ?_
      refine lv_ishr hx hb dL_law_613 ?_
      refine lv_iload hx hb dL_law_614 (lv_at hl 6 rfl) ?_
      refine hv_calli (va_runS (As := [.int ((xv) >>> (nI (6) &&& 31)), .int (nI (gNS σ))]) (rest := [.int (nI (blw (((xv) >>> (nI (4) &&& 31))) (4))), .int (nI (bd)), .ref (ad (0))]) ⟨hx, hb, hml, hown, hts⟩ (c_L_below l D N0 ad ct (((xv) >>> (nI (6) &&& 31))) (by omega : 0 < gNS σ) (by omega : gNS σ < 2 ^ 31)) (va_cwS 2 hts gL_law_L_below rfl rfl rfl (by decide +kernel) ⟨Nat.le_of_ble_eq_true rfl, Nat.le_of_ble_eq_true rfl⟩) (hv_preS hKs hV hS) rfl rfl hl.1 rfl (lv_room (Nat.le_of_ble_eq_true rfl)) dL_law_616 ⟨(show cells + 0 ≤ 600086 by omega), (show slots + 0 ≤ 7301442 by omega)⟩) hS (fun r9 u9 H locs hq hV hS => ?_)
      obtain ⟨rfl, rfl⟩ := hq
      have hV : hv D N0 ad ct H := hV
      have hbl2 := blw_lt (((xv) >>> (nI (6) &&& 31))) (by omega : 0 < gNS σ)
      refine lv_iload hx hb dL_law_619 (lv_at hl 9 rfl) ?_
      refine lv_iconst (v := nI 2) hx hb dL_law_621 (by decide) ?_
      refine lv_ishr hx hb dL_law_622 ?_
      refine lv_bipush (v := nI 8) hx hb dL_law_623 (by decide) ?_
      refine hv_calli (va_runS (As := [.int ((xv) >>> (nI (2) &&& 31)), .int (nI (8))]) (rest := [.int (nI (blw (((xv) >>> (nI (6) &&& 31))) (gNS σ))), .int (nI (blw (((xv) >>> (nI (4) &&& 31))) (4))), .int (nI (bd)), .ref (ad (0))]) ⟨hx, hb, hml, hown, hts⟩ (c_L_below l D N0 ad ct (((xv) >>> (nI (2) &&& 31))) (by omega : 0 < 8) (by omega : 8 < 2 ^ 31)) (va_cwS 2 hts gL_law_L_below rfl rfl rfl (by decide +kernel) ⟨Nat.le_of_ble_eq_true rfl, Nat.le_of_ble_eq_true rfl⟩) (hv_preS hKs hV hS) rfl rfl hl.1 rfl (lv_room (Nat.le_of_ble_eq_true rfl)) dL_law_625 ⟨(show cells + 0 ≤ 600086 by omega), (show slots + 0 ≤ 7301442 by omega)⟩) hS (fun r9 u9 H locs hq hV hS => ?_)
      obtain ⟨rfl, rfl⟩ := hq
      have hV : hv D N0 ad ct H := hV
      have hbl3 := blw_lt (((xv) >>> (nI (2) &&& 31))) (by omega : 0 < 8)
      refine hv_calli (vx_runSW (hh := [(0, 9, 10, 63)]) (As := [.ref (ad (0)), .int (nI (bd)), .int (nI (blw (((xv) >>> (nI (4) &&& 31))) (4))), .int (nI (blw (((xv) >>> (nI (6) &&& 31))) (gNS σ))), .int (nI (blw (((xv) >>> (nI (2) &&& 31))) (8)))]) (rest := []) ⟨hx, hb, hml, hown, hts⟩ (c_L_set l D N0 ad ct hfl hG hO (by omega : bd < gNB σ) (by omega : blw (((xv) >>> (nI (4) &&& 31))) (4) < 4) (by omega : blw (((xv) >>> (nI (6) &&& 31))) (gNS σ) < gNS σ) (by omega : blw (((xv) >>> (nI (2) &&& 31))) (8) < 8)) (vx_cwSW (hh := [(0, 9, 10, 63)]) 5 hts gL_law_L_set rfl rfl rfl (by decide +kernel) ⟨Nat.le_of_ble_eq_true rfl, Nat.le_of_ble_eq_true rfl⟩) (hv_preS hKs hV hS) rfl rfl hl.1 rfl (lv_room (Nat.le_of_ble_eq_true rfl)) dL_law_628 ⟨(show cells + 1 ≤ 600086 by omega), (show slots + 6 ≤ 7301442 by omega)⟩) hS (fun r9 u9 H locs hq hV hS => ?_)
      obtain ⟨ad, ct⟩ := u9
      dsimp only at hq
      obtain ⟨hq, hF1⟩ := hq
      have hV : hv D N0 ad ct H := hV
      have hna := fun (q : Nat) (q1 : q % 16 = 0) => (hF1 q q1).1
      dsimp only at hna
      have hl : lv_has ls 22 [(14, .int (nI (bd))), (13, .int (nI (0))), (11, .long (dgt σ)), (10, .ref (ad (208))), (9, .ref (ad (64))), (8, .int (nI (gNB σ))), (7, .int (nI (gNS σ))), (6, .int (gMi σ)), (5, .int (nI (cn))), (4, .int (xv)), (0, .ref (b)), (1, .ref (ad (0))), (2, .int (nI (nc))), (3, .int (nI (i)))] := by rw [hna (208) (by omega), hna (64) (by omega), hna (0) (by omega)]; exact hl
      rcases hq with ⟨hk, hz9, hG1⟩ | ⟨hk, hz9, hG1⟩
      · obtain ⟨σ0, rfl⟩ : ∃ z, z = σ := ⟨σ, rfl⟩
        obtain ⟨σ, hσ⟩ : ∃ z, z = s_set σ0 (4 * (bd) + (blw (((xv) >>> (nI (4) &&& 31))) (4))) (blw (((xv) >>> (nI (6) &&& 31))) (gNS σ0)) (blw (((xv) >>> (nI (2) &&& 31))) (8)) := ⟨_, rfl⟩
        have hz8 := hz9
        rw [← hσ] at hG1 hz8
        have hrel : rel 0 σ0 σ := by rw [hσ]; exact rel_set
        have hO0 := hO
        have hO : okS σ := by rw [hσ]; exact oks_set hO (by omega) (by omega) (by omega) (by omega) hk
        have h20 := h2
        have h2 : ok2 σ := by rw [hσ]; exact ok2_set h2
        have hc0 := hc
        have hc : gNC σ = nc := by have := hrel.1; omega
        have hG := hG1
        have h00 := hG.1
        obtain ⟨hm8, hm60, hm6, -⟩ := id hO
        have hne1 := fun (q : Nat) (q1 : q % 16 = 0) (q2 : 64 ≤ q) => (hF1 q q1).2 q2
        try dsimp only at hne1
        have hW := hW.keep (ct' := ct) (ad' := ad) (by omega) (fun q h1 h2 h3 => hne1 q h1 (by omega)) (fun q h1 h2 h3 => hna q h1)
        have hLk := hLk.keep (ct' := ct) (ad' := ad) (by omega) (fun q h1 h2 h3 h4 => hne1 q h1 (by omega)) (fun q h1 h2 h3 h4 => hna q h1)
        have h64 := hW.1
        have hNS : gNS σ = gNS σ0 := by rw [hσ]; rfl
        have hey : sEy σ (blw (((xv) >>> (nI (6) &&& 31))) (gNS σ0)) = some (4 * (bd) + (blw (((xv) >>> (nI (4) &&& 31))) (4))) := by
          rw [hσ]
          show (va_up σ0.2.2.2.1 (blw (((xv) >>> (nI (6) &&& 31))) (gNS σ0)) (sPt σ0 (blw (((xv) >>> (nI (6) &&& 31))) (gNS σ0)), sKd σ0 (blw (((xv) >>> (nI (6) &&& 31))) (gNS σ0)), some (4 * (bd) + (blw (((xv) >>> (nI (4) &&& 31))) (4)))) (blw (((xv) >>> (nI (6) &&& 31))) (gNS σ0))).2.2 = _
          rw [va_up_self]
        have hs4 := nsm_ie4 (f := fun k => ie σ (4 * (bd) + k)) (fun k _ => ie_le σ _)
        obtain ⟨zn, hzn⟩ : ∃ z, z = nsm (fun k => ie σ (4 * (bd) + k)) 4 := ⟨_, rfl⟩
        rw [← hzn] at hs4 hz8
        refine hv_eqi (y := nI zn) hz8 ?_
        refine lv_istore (lv' := [(15, .int (nI (zn))), (14, .int (nI (bd))), (13, .int (nI (0))), (11, .long (dgt σ0)), (10, .ref (ad (208))), (9, .ref (ad (64))), (8, .int (nI (gNB σ0))), (7, .int (nI (gNS σ0))), (6, .int (gMi σ0)), (5, .int (nI (cn))), (4, .int (xv)), (0, .ref (b)), (1, .ref (ad (0))), (2, .int (nI (nc))), (3, .int (nI (i)))]) hx hb dL_law_631 hl (by decide) rfl (fun ls hl => ?_)
        refine lv_iload hx hb dL_law_633 (lv_at hl 0 rfl) ?_
        refine lv_iconst (v := nI 4) hx hb dL_law_635 (by decide) ?_
        refine hN_icmp_gt (tgt := 674) hx hb (by omega) (by omega) dL_law_636 (by decide) (fun c636 => by exact absurd c636 (by omega)) (fun c636 => ?_)
        refine lv_iload hx hb dL_law_639 (lv_at hl 0 rfl) ?_
        refine hN_if_lt (tgt := 676) hx hb (by omega) dL_law_641 (by decide) ?_
        refine lv_aload_n hx hb dL_law_644 rfl (lv_at hl 12 rfl) ?_
        refine lv_iload hx hb dL_law_645 (lv_at hl 10 rfl) ?_
        refine lv_bipush (v := nI 6) hx hb dL_law_647 (by decide) ?_
        refine lv_ishr hx hb dL_law_649 ?_
        refine lv_iload hx hb dL_law_650 (lv_at hl 7 rfl) ?_
        refine hv_calli (va_runS (As := [.int ((xv) >>> (nI (6) &&& 31)), .int (nI (gNS σ0))]) (rest := [.ref (ad (0))]) ⟨hx, hb, hml, hown, hts⟩ (c_L_below l D N0 ad ct (((xv) >>> (nI (6) &&& 31))) (by omega : 0 < gNS σ0) (by omega : gNS σ0 < 2 ^ 31)) (va_cwS 2 hts gL_law_L_below rfl rfl rfl (by decide +kernel) ⟨Nat.le_of_ble_eq_true rfl, Nat.le_of_ble_eq_true rfl⟩) (hv_preS hKs hV hS) rfl rfl hl.1 rfl (lv_room (Nat.le_of_ble_eq_true rfl)) dL_law_652 ⟨(show cells + 1 + 0 ≤ 600086 by omega), (show slots + 6 + 0 ≤ 7301442 by omega)⟩) hS (fun r9 u9 H locs hq hV hS => ?_)
        obtain ⟨rfl, rfl⟩ := hq
        have hV : hv D N0 ad ct H := hV
        have hbl4 := blw_lt (((xv) >>> (nI (6) &&& 31))) (by omega : 0 < gNS σ0)
        refine hv_call0 (kz_where hO (by omega : blw (((xv) >>> (nI (6) &&& 31))) (gNS σ0) < gNS σ)) (vx_runV (As := [.int (nI (blw (((xv) >>> (nI (6) &&& 31))) (gNS σ0)))]) (rest := []) ⟨hx, hb, hml, hown, hts⟩ (c_X3_where l hfl D N0 ad ct hG hO (nI (blw (((xv) >>> (nI (6) &&& 31))) (gNS σ0)))) (cwV 1 hts gL_law_X3_where rfl rfl rfl (by decide +kernel) ⟨Nat.le_of_ble_eq_true rfl, Nat.le_of_ble_eq_true rfl⟩) (hv_preV (r := (RX3, TX3, 8)) hKs hV hS h00 rfl) rfl rfl hl.1 rfl (lv_room (Nat.le_of_ble_eq_true rfl)) dL_law_655 ⟨(show cells + 1 + 1 ≤ 600086 by omega), (show slots + 6 + 6 ≤ 7301442 by omega)⟩) hS (fun r9 u9 H locs hq hV hS => ?_)
        obtain ⟨-, hq, hu9⟩ := hq
        subst hu9
        have hV : hv D N0 ad ct H := hV
        simp only [toNat_nI (by omega : (blw (((xv) >>> (nI (6) &&& 31))) (gNS σ0)) < 2 ^ 31)] at hq
        subst hq
        refine hv_eqi (y := nI ((4) * (bd) + blw (((xv) >>> (nI (4) &&& 31))) (4))) (by rw [hey]; rfl) ?_
        refine lv_iconst (v := nI 4) hx hb dL_law_658 (by decide) ?_
        refine lv_iload hx hb dL_law_659 (lv_at hl 1 rfl) ?_
        refine hN_imul hx hb dL_law_661 ?_
        refine lv_iload hx hb dL_law_662 (lv_at hl 10 rfl) ?_
        refine lv_iconst (v := nI 4) hx hb dL_law_664 (by decide) ?_
        refine lv_ishr hx hb dL_law_665 ?_
        refine lv_iconst (v := nI 4) hx hb dL_law_666 (by decide) ?_
        refine hv_calli (va_runS (As := [.int ((xv) >>> (nI (4) &&& 31)), .int (nI (4))]) (rest := [.int (nI ((4) * (bd))), .int (nI ((4) * (bd) + blw (((xv) >>> (nI (4) &&& 31))) (4)))]) ⟨hx, hb, hml, hown, hts⟩ (c_L_below l D N0 ad ct (((xv) >>> (nI (4) &&& 31))) (by omega : 0 < 4) (by omega : 4 < 2 ^ 31)) (va_cwS 2 hts gL_law_L_below rfl rfl rfl (by decide +kernel) ⟨Nat.le_of_ble_eq_true rfl, Nat.le_of_ble_eq_true rfl⟩) (hv_preS hKs hV hS) rfl rfl hl.1 rfl (lv_room (Nat.le_of_ble_eq_true rfl)) dL_law_667 ⟨(show cells + 1 + 1 + 0 ≤ 600086 by omega), (show slots + 6 + 6 + 0 ≤ 7301442 by omega)⟩) hS (fun r9 u9 H locs hq hV hS => ?_)
        obtain ⟨rfl, rfl⟩ := hq
        have hV : hv D N0 ad ct H := hV
        have hbl5 := blw_lt (((xv) >>> (nI (4) &&& 31))) (by omega : 0 < 4)
        refine hN_iadd hx hb dL_law_670 ?_
        refine hN_icmp_eq (tgt := 676) hx hb (by omega) (by omega) dL_law_671 (by decide) (fun c671 => ?_) (fun c671 => by exact absurd rfl c671)
        refine W.widen (k := cells + 55) (n := slots + 378) (by omega) (by omega) ?_
        exact K (σ) (0) ad ct _ _ _ (⟨hO, h2, hnc0, hc, hG⟩) (hrel) (by omega) (hW) (hLk) hV hS (lv_sub hl [2, 4, 5, 6, 7, 8, 9, 10, 11, 12, 13, 14] rfl)
      · have hG := hG1
        have hrel : rel 0 σ σ := rel_0
        have h00 := hG.1
        obtain ⟨hm8, hm60, hm6, -⟩ := id hO
        have hne1 := fun (q : Nat) (q1 : q % 16 = 0) (q2 : 64 ≤ q) => (hF1 q q1).2 q2
        try dsimp only at hne1
        have hW := hW.keep (ct' := ct) (ad' := ad) (by omega) (fun q h1 h2 h3 => hne1 q h1 (by omega)) (fun q h1 h2 h3 => hna q h1)
        have hLk := hLk.keep (ct' := ct) (ad' := ad) (by omega) (fun q h1 h2 h3 h4 => hne1 q h1 (by omega)) (fun q h1 h2 h3 h4 => hna q h1)
        have h64 := hW.1
        refine hv_eqi (y := (-1)) hz9 ?_
        refine lv_istore (lv' := [(15, .int ((-1))), (14, .int (nI (bd))), (13, .int (nI (0))), (11, .long (dgt σ)), (10, .ref (ad (208))), (9, .ref (ad (64))), (8, .int (nI (gNB σ))), (7, .int (nI (gNS σ))), (6, .int (gMi σ)), (5, .int (nI (cn))), (4, .int (xv)), (0, .ref (b)), (1, .ref (ad (0))), (2, .int (nI (nc))), (3, .int (nI (i)))]) hx hb dL_law_631 hl (by decide) rfl (fun ls hl => ?_)
        refine lv_iload hx hb dL_law_633 (lv_at hl 0 rfl) ?_
        refine lv_iconst (v := nI 4) hx hb dL_law_635 (by decide) ?_
        refine hR_icmp_gt (tgt := 674) hx hb (by omega) dL_law_636 (by decide) (fun c636 => by exact absurd c636 (by decide)) (fun c636 => ?_)
        refine lv_iload hx hb dL_law_639 (lv_at hl 0 rfl) ?_
        refine hI_if_lt (tgt := 676) hx hb dL_law_641 (by decide) (fun c641 => ?_) (fun c641 => by exact absurd c641 (by decide))
        refine W.widen (k := cells + 55) (n := slots + 378) (by omega) (by omega) ?_
        exact K (σ) (0) ad ct _ _ _ (⟨hO, h2, hnc0, hc, hG⟩) (hrel) (by omega) (hW) (hLk) hV hS (lv_sub hl [2, 4, 5, 6, 7, 8, 9, 10, 11, 12, 13, 14] rfl)
    · refine lv_goto (tgt := 676) hx hb dL_law_584 (by decide) ?_
      have hrel : rel 0 σ σ := rel_0
      refine W.widen (k := cells + 55) (n := slots + 378) (by omega) (by omega) ?_
      exact K (σ) (0) ad ct _ _ _ (⟨hO, h2, hnc0, hc, hG⟩) (hrel) (by omega) (hW) (hLk) hV hS (lv_sub hl [0, 2, 3, 4, 5, 6, 7, 8, 9, 10, 11, 12] rfl)
