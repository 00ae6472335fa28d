set_option maxHeartbeats 4000000 in
set_option maxRecDepth 100000 in
theorem S_0 {p : Program} {l : Launch} {e : Env} {s : State} {m : MethodId} {below : List Frame} {meth : Method} {c : Code} {b L N0 : Nat} {xs : Nat → Int32} {Q : State → Prop} {D : hG} (CT : LC p l s m c b L N0 xs D) {ad : Nat → Nat} {ct : hC} {H : Heap} {locs : List Loc} {cells slots : Nat} (hV : hv D N0 ad ct H) (hS : va_S (hA N0) s.heap H locs) {ls : Array Slot} {σ : gS} {nc i : Nat} {xv : Int32} {cn rr : Nat} (hi : i < 30) (hcn1 : cn < nc) (hrr : rr = i % 5) (hA9 : lA D σ nc ad ct) (hW : wasN D σ nc (5 * nc) ad ct) (hLk : lookN D σ rr (gNS σ) 12 ad ct) (hl : lv_has ls 22 [(13, .int (nI (0))), (11, .long (dgt σ)), (10, .ref (ad (208))), (9, .ref (ad (64))), (8, .int (nI (gNB σ))), (7, .int (nI (gNS σ))), (6, .int (gMi σ)), (5, .int (nI (cn))), (4, .int (xv)), (0, .ref (b)), (1, .ref (ad (0))), (2, .int (nI (nc))), (3, .int (nI (i)))]) (hr1 : cells + 55 ≤ 600086) (hr2 : slots + 378 ≤ 7301442)
    (K : ∀ (σ1 : gS) (g : Nat) (ad1 : Nat → Nat) (ct1 : hC) (H1 : Heap) (locs1 : List Loc) (ls1 : Array Slot), lA D σ1 nc ad1 ct1 → rel g σ σ1 → g ≤ 4 → wasN D σ nc (5 * nc) ad1 ct1 → lookN D σ rr (gNS σ) 12 ad1 ct1 → hv D N0 ad1 ct1 H1 → va_S (hA N0) s.heap H1 locs1 → lv_has ls1 22 [(13, .int (nI (g))), (10, .ref (ad1 (208))), (9, .ref (ad1 (64))), (8, .int (nI (gNB σ))), (7, .int (nI (gNS σ))), (6, .int (gMi σ)), (5, .int (nI (cn))), (4, .int (xv)), (0, .ref (b)), (1, .ref (ad1 (0))), (2, .int (nI (nc))), (3, .int (nI (i)))] → W p l e room_1 s m #[Value.ref b] below meth c H1 locs1 (cells + 55) (slots + 378) Q (F0 m 676 ls1 [])) : W p l e room_1 s m #[Value.ref b] below meth c H locs cells slots Q (F0 m 208 ls []) := by
  obtain ⟨hfl, hts, hts0, hx, hb, hml, hown, hX, hbs, hbA, hbl, hL, hKs⟩ := CT
  obtain ⟨hO, h2, hnc0, hc, hG⟩ := hA9
  have h00 := hG.1
  obtain ⟨hn8, hn60, hn6, -⟩ := id hO
  have hca := hO.2.2.2.1 cn (by omega)
  have hht := hca.2.1
  have hle := hca.1
  have h64 := hW.1
  refine lv_iload hx hb dL_law_208 (lv_at hl 8 rfl) ?_
  refine lv_iconst (v := nI 5) hx hb dL_law_210 (by decide) ?_
  refine lv_ishr hx hb dL_law_211 ?_
  refine lv_iconst (v := nI 3) hx hb dL_law_212 (by decide) ?_
  refine hv_calli (va_runS (As := [.int ((xv) >>> (nI (5) &&& 31)), .int (nI (3))]) (rest := []) ⟨hx, hb, hml, hown, hts⟩ (c_L_below l D N0 ad ct (((xv) >>> (nI (5) &&& 31))) (by omega : 0 < 3) (by omega : 3 < 2 ^ 31)) (va_cwS 2 hts gL_law_L_below rfl rfl rfl (by decide +kernel) ⟨Nat.le_of_ble_eq_true rfl, Nat.le_of_ble_eq_true rfl⟩) (hv_preS hKs hV hS) rfl rfl hl.1 rfl (lv_room (Nat.le_of_ble_eq_true rfl)) dL_law_213 ⟨(show cells + 0 ≤ 600086 by omega), (show slots + 0 ≤ 7301442 by omega)⟩) hS (fun r9 u9 H locs hq hV hS => ?_)
  obtain ⟨rfl, rfl⟩ := hq
  have hV : hv D N0 ad ct H := hV
  have hbl0 := blw_lt (((xv) >>> (nI (5) &&& 31))) (by omega : 0 < 3)
  obtain ⟨wh, hwh⟩ : ∃ z, z = blw (((xv) >>> (nI (5) &&& 31))) (3) := ⟨_, rfl⟩
  have hwh3 : wh < 3 := by omega
  refine hv_eqi (y := nI wh) (by rw [hwh]) ?_
  refine lv_istore (lv' := [(14, .int (nI (wh))), (13, .int (nI (0))), (11, .long (dgt σ)), (10, .ref (ad (208))), (9, .ref (ad (64))), (8, .int (nI (gNB σ))), (7, .int (nI (gNS σ))), (6, .int (gMi σ)), (5, .int (nI (cn))), (4, .int (xv)), (0, .ref (b)), (1, .ref (ad (0))), (2, .int (nI (nc))), (3, .int (nI (i)))]) hx hb dL_law_216 hl (by decide) rfl (fun ls hl => ?_)
  refine lv_aload_n hx hb dL_law_218 rfl (lv_at hl 11 rfl) ?_
  refine lv_iload hx hb dL_law_219 (lv_at hl 8 rfl) ?_
  refine lv_iload hx hb dL_law_221 (lv_at hl 0 rfl) ?_
  refine lv_iload hx hb dL_law_223 (lv_at hl 9 rfl) ?_
  refine lv_bipush (v := nI 6) hx hb dL_law_225 (by decide) ?_
  refine lv_ishr hx hb dL_law_227 ?_
  refine hv_calli (vx_runSW (hh := [(0, 97, 98, 63)]) (As := [.ref (ad (0)), .int (nI (cn)), .int (nI (wh)), .int ((xv) >>> (nI (6) &&& 31))]) (rest := []) ⟨hx, hb, hml, hown, hts⟩ (c_L_work l D N0 ad ct hfl hG hO h2 (by omega : cn < gNC σ) (by omega : wh < 3) ((xv) >>> (nI (6) &&& 31))) (vx_cwSW (hh := [(0, 97, 98, 63)]) 4 hts gL_law_L_work rfl rfl rfl (by decide +kernel) ⟨Nat.le_of_ble_eq_true rfl, Nat.le_of_ble_eq_true rfl⟩) (hv_preS hKs hV hS) rfl rfl hl.1 rfl (lv_room (Nat.le_of_ble_eq_true rfl)) dL_law_228 ⟨(show cells + 1 ≤ 600086 by omega), (show slots + 6 ≤ 7301442 by omega)⟩) hS (fun r9 u9 H locs hq hV hS => ?_)
  obtain ⟨ad, ct⟩ := u9
  dsimp only at hq
  obtain ⟨σ0, rfl⟩ : ∃ z, z = σ := ⟨σ, rfl⟩
  obtain ⟨σ, hwk, hG, hF1⟩ := hq
  have hV : hv D N0 ad ct H := hV
  have hna := fun (q : Nat) (q1 : q % 16 = 0) => (hF1 q q1).1
  dsimp only at hna
  have hl : lv_has ls 22 [(14, .int (nI (wh))), (13, .int (nI (0))), (11, .long (dgt σ0)), (10, .ref (ad (208))), (9, .ref (ad (64))), (8, .int (nI (gNB σ0))), (7, .int (nI (gNS σ0))), (6, .int (gMi σ0)), (5, .int (nI (cn))), (4, .int (xv)), (0, .ref (b)), (1, .ref (ad (0))), (2, .int (nI (nc))), (3, .int (nI (i)))] := by rw [hna (208) (by omega), hna (64) (by omega), hna (0) (by omega)]; exact hl
  obtain ⟨zt, hzt⟩ : ∃ z, z = r9 := ⟨_, rfl⟩
  refine hv_eqi (y := zt) hzt.symm ?_
  rw [← hzt] at hwk
  clear hzt
  obtain ⟨hO1, h21, hC1, hB1⟩ := wkP_ok hwk hO h2
  have hO0 := hO
  have hO := hO1
  have h20 := h2
  have h2 := h21
  have hc0 := hc
  have hc : gNC σ = nc := by omega
  have h00 := hG.1
  obtain ⟨hm8, hm60, hm6, -⟩ := id hO
  have hne1 := fun (q : Nat) (q1 : q % 16 = 0) (q2 : 64 ≤ q) => (hF1 q q1).2 q2
  try dsimp only at hne1
  have hW := hW.keep (ct' := ct) (ad' := ad) (by omega) (fun q h1 h2 h3 => hne1 q h1 (by omega)) (fun q h1 h2 h3 => hna q h1)
  have hLk := hLk.keep (ct' := ct) (ad' := ad) (by omega) (fun q h1 h2 h3 h4 => hne1 q h1 (by omega)) (fun q h1 h2 h3 h4 => hna q h1)
  have h64 := hW.1
  rcases hwk with ⟨hz, hs⟩ | ⟨hcr, hz, hrel, -, -, hcr1⟩
  · subst hz
    have hs2 := hs.symm
    subst hs2
    obtain ⟨σ, rfl⟩ : ∃ z, z = σ0 := ⟨σ0, rfl⟩
    have hrel : rel 0 σ σ := rel_0
    refine lv_istore (lv' := [(15, .int ((-1))), (14, .int (nI (wh))), (13, .int (nI (0))), (11, .long (dgt σ)), (10, .ref (ad (208))), (9, .ref (ad (64))), (8, .int (nI (gNB σ))), (7, .int (nI (gNS σ))), (6, .int (gMi σ)), (5, .int (nI (cn))), (4, .int (xv)), (0, .ref (b)), (1, .ref (ad (0))), (2, .int (nI (nc))), (3, .int (nI (i)))]) hx hb dL_law_231 hl (by decide) rfl (fun ls hl => ?_)
    refine lv_iload hx hb dL_law_233 (lv_at hl 0 rfl) ?_
    refine hI_if_ge (tgt := 242) hx hb dL_law_235 (by decide) (fun c235 => by exact absurd c235 (by decide)) (fun c235 => ?_)
    refine lv_iconst (v := nI 0) hx hb dL_law_238 (by decide) ?_
    refine lv_goto (tgt := 243) hx hb dL_law_239 (by decide) ?_
    refine lv_istore (lv' := [(13, .int (nI (0))), (15, .int ((-1))), (14, .int (nI (wh))), (11, .long (dgt σ)), (10, .ref (ad (208))), (9, .ref (ad (64))), (8, .int (nI (gNB σ))), (7, .int (nI (gNS σ))), (6, .int (gMi σ)), (5, .int (nI (cn))), (4, .int (xv)), (0, .ref (b)), (1, .ref (ad (0))), (2, .int (nI (nc))), (3, .int (nI (i)))]) hx hb dL_law_243 hl (by decide) rfl (fun ls hl => ?_)
    refine lv_iload hx hb dL_law_245 (lv_at hl 1 rfl) ?_
    refine hI_if_ge (tgt := 260) hx hb dL_law_247 (by decide) (fun c247 => by exact absurd c247 (by decide)) (fun c247 => ?_)
    refine lv_aload_n hx hb dL_law_250 rfl (lv_at hl 12 rfl) ?_
    refine hv_calll (va_runV (As := []) (rest := []) ⟨hx, hb, hml, hown, hts⟩ (c_X3_digest l D N0 ad ct hG hO) (cwV 0 hts gL_law_X3_digest rfl rfl rfl (by decide +kernel) ⟨Nat.le_of_ble_eq_true rfl, Nat.le_of_ble_eq_true rfl⟩) (hv_preV (r := (RX3, TX3, 8)) hKs hV hS h00 rfl) rfl rfl hl.1 rfl (lv_room (Nat.le_of_ble_eq_true rfl)) dL_law_251 ⟨(show cells + 1 + 0 ≤ 600086 by omega), (show slots + 6 + 0 ≤ 7301442 by omega)⟩) hS (fun r9 u9 H locs hq hV hS => ?_)
    obtain ⟨rfl, rfl⟩ := hq
    have hV : hv D N0 ad ct H := hV
    refine lv_lload hx hb dL_law_254 (lv_at hl 3 rfl) ?_
    refine W.lcmp hx hb dL_law_256 ?_
    refine hv_eqi (y := nI 0) (jl_self _) ?_
    refine hN_if_ne (tgt := 327) hx hb (by omega) dL_law_257 (by decide) (fun c257 => by exact absurd c257 (by omega)) (fun c257 => ?_)
    refine lv_iload hx hb dL_law_260 (lv_at hl 1 rfl) ?_
    refine hI_if_lt (tgt := 310) hx hb dL_law_262 (by decide) (fun c262 => ?_) (fun c262 => by exact absurd c262 (by decide))
    refine lv_iload hx hb dL_law_310 (lv_at hl 1 rfl) ?_
    refine hI_if_lt (tgt := 676) hx hb dL_law_312 (by decide) (fun c312 => ?_) (fun c312 => by exact absurd c312 (by decide))
    refine W.widen (k := cells + 55) (n := slots + 378) (by omega) (by omega) ?_
    exact K (σ) (0) ad ct _ _ _ (⟨hO, h2, hnc0, hc, hG⟩) (hrel) (by omega) (hW) (hLk) hV hS (lv_sub hl [0, 4, 5, 6, 7, 8, 9, 10, 11, 12, 13, 14] rfl)
  · rcases hP : decide (2 + 2 * wh ≤ cHt σ0 cn) with _ | _
    · rw [hP] at hz hcr1
      have hPi := of_decide_eq_false hP
      subst hz
      refine hv_eqi (y := nI 0) rfl ?_
      refine lv_istore (lv' := [(15, .int (nI (0))), (14, .int (nI (wh))), (13, .int (nI (0))), (11, .long (dgt σ0)), (10, .ref (ad (208))), (9, .ref (ad (64))), (8, .int (nI (gNB σ0))), (7, .int (nI (gNS σ0))), (6, .int (gMi σ0)), (5, .int (nI (cn))), (4, .int (xv)), (0, .ref (b)), (1, .ref (ad (0))), (2, .int (nI (nc))), (3, .int (nI (i)))]) hx hb dL_law_231 hl (by decide) rfl (fun ls hl => ?_)
      refine lv_iload hx hb dL_law_233 (lv_at hl 0 rfl) ?_
      refine hN_if_ge (tgt := 242) hx hb (by omega) dL_law_235 (by decide) ?_
      refine lv_iconst (v := nI 1) hx hb dL_law_242 (by decide) ?_
      refine lv_istore (lv' := [(13, .int (nI (1))), (15, .int (nI (0))), (14, .int (nI (wh))), (11, .long (dgt σ0)), (10, .ref (ad (208))), (9, .ref (ad (64))), (8, .int (nI (gNB σ0))), (7, .int (nI (gNS σ0))), (6, .int (gMi σ0)), (5, .int (nI (cn))), (4, .int (xv)), (0, .ref (b)), (1, .ref (ad (0))), (2, .int (nI (nc))), (3, .int (nI (i)))]) hx hb dL_law_243 hl (by decide) rfl (fun ls hl => ?_)
      refine lv_iload hx hb dL_law_245 (lv_at hl 1 rfl) ?_
      refine hN_if_ge (tgt := 260) hx hb (by omega) dL_law_247 (by decide) ?_
      refine lv_iload hx hb dL_law_260 (lv_at hl 1 rfl) ?_
      refine hN_if_lt (tgt := 310) hx hb (by omega) dL_law_262 (by decide) ?_
      refine lv_aload hx hb dL_law_265 (lv_at hl 5 rfl) ?_
      refine lv_iload hx hb dL_law_267 (lv_at hl 9 rfl) ?_
      refine hv_aaldA hx hb hKs hV h64 (by omega) (by omega) dL_law_269 ?_
      refine hv_eq (w := .ref (ad (16 * (cn) + 80))) (by rw [if_pos (by omega : cn < nc)]; rfl) ?_
      obtain ⟨fw2, fw2c, fw2j⟩ := hW.at (k := cn) (by omega)
      refine lv_iconst (v := nI 3) hx hb dL_law_270 (by decide) ?_
      refine hv_iald hx hb hKs hV fw2c (by omega) (by decide) dL_law_271 ?_
      refine hv_eqi (y := hbv (!cCr σ0 (cn))) (fw2j 3 (by omega)) ?_
      refine hB_if_eq (tgt := 327) hx hb dL_law_272 (by decide) (fun c272 => by rw [hcr] at c272; exact absurd c272 (by decide)) (fun c272 => ?_)
      refine lv_iload hx hb dL_law_275 (lv_at hl 1 rfl) ?_
      refine lv_iconst (v := nI 1) hx hb dL_law_277 (by decide) ?_
      refine hN_icmp_ne (tgt := 285) hx hb (by omega) (by omega) dL_law_278 (by decide) (fun c278 => ?_) (fun c278 => by exact absurd c278 (by omega))
      refine lv_iconst (v := nI 0) hx hb dL_law_285 (by decide) ?_
      refine lv_aload hx hb dL_law_286 (lv_at hl 5 rfl) ?_
      refine lv_iload hx hb dL_law_288 (lv_at hl 9 rfl) ?_
      refine hv_aaldA hx hb hKs hV h64 (by omega) (by omega) dL_law_290 ?_
      refine hv_eq (w := .ref (ad (16 * (cn) + 80))) (by rw [if_pos (by omega : cn < nc)]; rfl) ?_
      obtain ⟨fw3, fw3c, fw3j⟩ := hW.at (k := cn) (by omega)
      refine lv_iconst (v := nI 2) hx hb dL_law_291 (by decide) ?_
      refine hv_iald hx hb hKs hV fw3c (by omega) (by decide) dL_law_292 ?_
      refine hv_eqi (y := nI (cHt σ0 (cn))) (fw3j 2 (by omega)) ?_
      refine lv_iconst (v := nI 2) hx hb dL_law_293 (by decide) ?_
      refine lv_iconst (v := nI 2) hx hb dL_law_294 (by decide) ?_
      refine lv_iload hx hb dL_law_295 (lv_at hl 2 rfl) ?_
      refine hN_imul hx hb dL_law_297 ?_
      refine hN_iadd hx hb dL_law_298 ?_
      refine hN_icmp_lt (tgt := 306) hx hb (by omega) (by omega) dL_law_299 (by decide) (fun c299 => ?_) (fun c299 => by exact absurd c299 (by omega))
      refine lv_iconst (v := nI 0) hx hb dL_law_306 (by decide) ?_
      refine hN_icmp_ne (tgt := 327) hx hb (by omega) (by omega) dL_law_307 (by decide) (fun c307 => by exact absurd rfl c307) (fun c307 => ?_)
      refine lv_iload hx hb dL_law_310 (lv_at hl 1 rfl) ?_
      refine hN_if_lt (tgt := 676) hx hb (by omega) dL_law_312 (by decide) ?_
      refine lv_aload_n hx hb dL_law_315 rfl (lv_at hl 12 rfl) ?_
      refine lv_iload hx hb dL_law_316 (lv_at hl 9 rfl) ?_
      refine lv_iconst (v := nI 3) hx hb dL_law_318 (by decide) ?_
      refine hv_call0 (kz_cane hO (by omega : cn < gNC σ) (by omega : 3 < 5)) (vx_runV (As := [.int (nI (cn)), .int (nI (3))]) (rest := []) ⟨hx, hb, hml, hown, hts⟩ (c_X3_cane l hfl D N0 ad ct hG hO (nI (cn)) (nI (3))) (cwV 2 hts gL_law_X3_cane rfl rfl rfl (by decide +kernel) ⟨Nat.le_of_ble_eq_true rfl, Nat.le_of_ble_eq_true rfl⟩) (hv_preV (r := (RX3, TX3, 8)) hKs hV hS h00 rfl) rfl rfl hl.1 rfl (lv_room (Nat.le_of_ble_eq_true rfl)) dL_law_319 ⟨(show cells + 1 + 1 ≤ 600086 by omega), (show slots + 6 + 6 ≤ 7301442 by omega)⟩) hS (fun r9 u9 H locs hq hV hS => ?_)
      obtain ⟨-, hq, hu9⟩ := hq
      subst hu9
      have hV : hv D N0 ad ct H := hV
      simp only [toNat_nI (by omega : (cn) < 2 ^ 31)] at hq
      refine hv_eqi (y := hbv (!cCr σ (cn))) hq ?_
      refine hv_eqi (y := nI 0) (by rw [hcr1]; rfl) ?_
      refine lv_iload hx hb dL_law_322 (lv_at hl 1 rfl) ?_
      refine hN_icmp_eq (tgt := 676) hx hb (by omega) (by omega) dL_law_324 (by decide) (fun c324 => ?_) (fun c324 => by exact absurd rfl c324)
      refine W.widen (k := cells + 55) (n := slots + 378) (by omega) (by omega) ?_
      exact K (σ) (1) ad ct _ _ _ (⟨hO, h2, hnc0, hc, hG⟩) (hrel) (by omega) (hW) (hLk) hV hS (lv_sub hl [0, 4, 5, 6, 7, 8, 9, 10, 11, 12, 13, 14] rfl)
    · rw [hP] at hz hcr1
      have hPi := of_decide_eq_true hP
      subst hz
      refine hv_eqi (y := nI 1) rfl ?_
      refine lv_istore (lv' := [(15, .int (nI (1))), (14, .int (nI (wh))), (13, .int (nI (0))), (11, .long (dgt σ0)), (10, .ref (ad (208))), (9, .ref (ad (64))), (8, .int (nI (gNB σ0))), (7, .int (nI (gNS σ0))), (6, .int (gMi σ0)), (5, .int (nI (cn))), (4, .int (xv)), (0, .ref (b)), (1, .ref (ad (0))), (2, .int (nI (nc))), (3, .int (nI (i)))]) hx hb dL_law_231 hl (by decide) rfl (fun ls hl => ?_)
      refine lv_iload hx hb dL_law_233 (lv_at hl 0 rfl) ?_
      refine hN_if_ge (tgt := 242) hx hb (by omega) dL_law_235 (by decide) ?_
      refine lv_iconst (v := nI 1) hx hb dL_law_242 (by decide) ?_
      refine lv_istore (lv' := [(13, .int (nI (1))), (15, .int (nI (1))), (14, .int (nI (wh))), (11, .long (dgt σ0)), (10, .ref (ad (208))), (9, .ref (ad (64))), (8, .int (nI (gNB σ0))), (7, .int (nI (gNS σ0))), (6, .int (gMi σ0)), (5, .int (nI (cn))), (4, .int (xv)), (0, .ref (b)), (1, .ref (ad (0))), (2, .int (nI (nc))), (3, .int (nI (i)))]) hx hb dL_law_243 hl (by decide) rfl (fun ls hl => ?_)
      refine lv_iload hx hb dL_law_245 (lv_at hl 1 rfl) ?_
      refine hN_if_ge (tgt := 260) hx hb (by omega) dL_law_247 (by decide) ?_
      refine lv_iload hx hb dL_law_260 (lv_at hl 1 rfl) ?_
      refine hN_if_lt (tgt := 310) hx hb (by omega) dL_law_262 (by decide) ?_
      refine lv_aload hx hb dL_law_265 (lv_at hl 5 rfl) ?_
      refine lv_iload hx hb dL_law_267 (lv_at hl 9 rfl) ?_
      refine hv_aaldA hx hb hKs hV h64 (by omega) (by omega) dL_law_269 ?_
      refine hv_eq (w := .ref (ad (16 * (cn) + 80))) (by rw [if_pos (by omega : cn < nc)]; rfl) ?_
      obtain ⟨fw4, fw4c, fw4j⟩ := hW.at (k := cn) (by omega)
      refine lv_iconst (v := nI 3) hx hb dL_law_270 (by decide) ?_
      refine hv_iald hx hb hKs hV fw4c (by omega) (by decide) dL_law_271 ?_
      refine hv_eqi (y := hbv (!cCr σ0 (cn))) (fw4j 3 (by omega)) ?_
      refine hB_if_eq (tgt := 327) hx hb dL_law_272 (by decide) (fun c272 => by rw [hcr] at c272; exact absurd c272 (by decide)) (fun c272 => ?_)
      refine lv_iload hx hb dL_law_275 (lv_at hl 1 rfl) ?_
      refine lv_iconst (v := nI 1) hx hb dL_law_277 (by decide) ?_
      refine hN_icmp_ne (tgt := 285) hx hb (by omega) (by omega) dL_law_278 (by decide) (fun c278 => by exact absurd rfl c278) (fun c278 => ?_)
      refine lv_iconst (v := nI 1) hx hb dL_law_281 (by decide) ?_
      refine lv_goto (tgt := 286) hx hb dL_law_282 (by decide) ?_
      refine lv_aload hx hb dL_law_286 (lv_at hl 5 rfl) ?_
      refine lv_iload hx hb dL_law_288 (lv_at hl 9 rfl) ?_
      refine hv_aaldA hx hb hKs hV h64 (by omega) (by omega) dL_law_290 ?_
      refine hv_eq (w := .ref (ad (16 * (cn) + 80))) (by rw [if_pos (by omega : cn < nc)]; rfl) ?_
      obtain ⟨fw5, fw5c, fw5j⟩ := hW.at (k := cn) (by omega)
      refine lv_iconst (v := nI 2) hx hb dL_law_291 (by decide) ?_
      refine hv_iald hx hb hKs hV fw5c (by omega) (by decide) dL_law_292 ?_
      refine hv_eqi (y := nI (cHt σ0 (cn))) (fw5j 2 (by omega)) ?_
      refine lv_iconst (v := nI 2) hx hb dL_law_293 (by decide) ?_
      refine lv_iconst (v := nI 2) hx hb dL_law_294 (by decide) ?_
      refine lv_iload hx hb dL_law_295 (lv_at hl 2 rfl) ?_
      refine hN_imul hx hb dL_law_297 ?_
      refine hN_iadd hx hb dL_law_298 ?_
      refine hN_icmp_lt (tgt := 306) hx hb (by omega) (by omega) dL_law_299 (by decide) (fun c299 => by exact absurd c299 (by omega)) (fun c299 => ?_)
      refine lv_iconst (v := nI 1) hx hb dL_law_302 (by decide) ?_
      refine lv_goto (tgt := 307) hx hb dL_law_303 (by decide) ?_
      refine hN_icmp_ne (tgt := 327) hx hb (by omega) (by omega) dL_law_307 (by decide) (fun c307 => by exact absurd rfl c307) (fun c307 => ?_)
      refine lv_iload hx hb dL_law_310 (lv_at hl 1 rfl) ?_
      refine hN_if_lt (tgt := 676) hx hb (by omega) dL_law_312 (by decide) ?_
      refine lv_aload_n hx hb dL_law_315 rfl (lv_at hl 12 rfl) ?_
      refine lv_iload hx hb dL_law_316 (lv_at hl 9 rfl) ?_
      refine lv_iconst (v := nI 3) hx hb dL_law_318 (by decide) ?_
      refine hv_call0 (kz_cane hO (by omega : cn < gNC σ) (by omega : 3 < 5)) (vx_runV (As := [.int (nI (cn)), .int (nI (3))]) (rest := []) ⟨hx, hb, hml, hown, hts⟩ (c_X3_cane l hfl D N0 ad ct hG hO (nI (cn)) (nI (3))) (cwV 2 hts gL_law_X3_cane rfl rfl rfl (by decide +kernel) ⟨Nat.le_of_ble_eq_true rfl, Nat.le_of_ble_eq_true rfl⟩) (hv_preV (r := (RX3, TX3, 8)) hKs hV hS h00 rfl) rfl rfl hl.1 rfl (lv_room (Nat.le_of_ble_eq_true rfl)) dL_law_319 ⟨(show cells + 1 + 1 ≤ 600086 by omega), (show slots + 6 + 6 ≤ 7301442 by omega)⟩) hS (fun r9 u9 H locs hq hV hS => ?_)
      obtain ⟨-, hq, hu9⟩ := hq
      subst hu9
      have hV : hv D N0 ad ct H := hV
      simp only [toNat_nI (by omega : (cn) < 2 ^ 31)] at hq
      refine hv_eqi (y := hbv (!cCr σ (cn))) hq ?_
      refine hv_eqi (y := nI 1) (by rw [hcr1]; rfl) ?_
      refine lv_iload hx hb dL_law_322 (lv_at hl 1 rfl) ?_
      refine hN_icmp_eq (tgt := 676) hx hb (by omega) (by omega) dL_law_324 (by decide) (fun c324 => ?_) (fun c324 => by exact absurd rfl c324)
      refine W.widen (k := cells + 55) (n := slots + 378) (by omega) (by omega) ?_
      exact K (σ) (1) ad ct _ _ _ (⟨hO, h2, hnc0, hc, hG⟩) (hrel) (by omega) (hW) (hLk) hV hS (lv_sub hl [0, 4, 5, 6, 7, 8, 9, 10, 11, 12, 13, 14] rfl)

set_option maxHeartbeats 4000000 in
set_option maxRecDepth 100000 in
theorem S_1 {p : Program} {l : Launch} {e : Env} {s : State} {m : MethodId} {below : List Frame} {meth : Method} {c : Code} {b L N0 : Nat} {xs : Nat → Int32} {Q : State → Prop} {D : hG} (CT : LC p l s m c b L N0 xs D) {ad : Nat → Nat} {ct : hC} {H : Heap} {locs : List Loc} {cells slots : Nat} (hV : hv D N0 ad ct H) (hS : va_S (hA N0) s.heap H locs) {ls : Array Slot} {σ : gS} {nc i : Nat} {xv : Int32} {cn rr : Nat} (hi : i < 30) (hcn1 : cn < nc) (hrr : rr = i % 5) (hA9 : lA D σ nc ad ct) (hW : wasN D σ nc (5 * nc) ad ct) (hLk : lookN D σ rr (gNS σ) 12 ad ct) (hl : lv_has ls 22 [(13, .int (nI (0))), (11, .long (dgt σ)), (10, .ref (ad (208))), (9, .ref (ad (64))), (8, .int (nI (gNB σ))), (7, .int (nI (gNS σ))), (6, .int (gMi σ)), (5, .int (nI (cn))), (4, .int (xv)), (0, .ref (b)), (1, .ref (ad (0))), (2, .int (nI (nc))), (3, .int (nI (i)))]) (hr1 : cells + 55 ≤ 600086) (hr2 : slots + 378 ≤ 7301442)
    (K : ∀ (σ1 : gS) (g : Nat) (ad1 : Nat → Nat) (ct1 : hC) (H1 : Heap) (locs1 : List Loc) (ls1 : Array Slot), lA D σ1 nc ad1 ct1 → rel g σ σ1 → g ≤ 4 → wasN D σ nc (5 * nc) ad1 ct1 → lookN D σ rr (gNS σ) 12 ad1 ct1 → hv D N0 ad1 ct1 H1 → va_S (hA N0) s.heap H1 locs1 → lv_has ls1 22 [(13, .int (nI (g))), (10, .ref (ad1 (208))), (9, .ref (ad1 (64))), (8, .int (nI (gNB σ))), (7, .int (nI (gNS σ))), (6, .int (gMi σ)), (5, .int (nI (cn))), (4, .int (xv)), (0, .ref (b)), (1, .ref (ad1 (0))), (2, .int (nI (nc))), (3, .int (nI (i)))] → W p l e room_1 s m #[Value.ref b] below meth c H1 locs1 (cells + 55) (slots + 378) Q (F0 m 676 ls1 [])) : W p l e room_1 s m #[Value.ref b] below meth c H locs cells slots Q (F0 m 329 ls []) := by
  obtain ⟨hfl, hts, hts0, hx, hb, hml, hown, hX, hbs, hbA, hbl, hL, hKs⟩ := CT
  obtain ⟨hO, h2, hnc0, hc, hG⟩ := hA9
  have h00 := hG.1
  obtain ⟨hn8, hn60, hn6, -⟩ := id hO
  have hca := hO.2.2.2.1 cn (by omega)
  have hht := hca.2.1
  have hle := hca.1
  have h64 := hW.1
  refine lv_iconst (v := nI 1) hx hb dL_law_329 (by decide) ?_
  refine lv_iload hx hb dL_law_330 (lv_at hl 8 rfl) ?_
  refine lv_iconst (v := nI 5) hx hb dL_law_332 (by decide) ?_
  refine lv_ishr hx hb dL_law_333 ?_
  refine lv_iconst (v := nI 4) hx hb dL_law_334 (by decide) ?_
  refine hv_calli (va_runS (As := [.int ((xv) >>> (nI (5) &&& 31)), .int (nI (4))]) (rest := [.int (nI (1))]) ⟨hx, hb, hml, hown, hts⟩ (c_L_below l D N0 ad ct (((xv) >>> (nI (5) &&& 31))) (by omega : 0 < 4) (by omega : 4 < 2 ^ 31)) (va_cwS 2 hts gL_law_L_below rfl rfl rfl (by decide +kernel) ⟨Nat.le_of_ble_eq_true rfl, Nat.le_of_ble_eq_true rfl⟩) (hv_preS hKs hV hS) rfl rfl hl.1 rfl (lv_room (Nat.le_of_ble_eq_true rfl)) dL_law_335 ⟨(show cells + 0 ≤ 600086 by omega), (show slots + 0 ≤ 7301442 by omega)⟩) hS (fun r9 u9 H locs hq hV hS => ?_)
  obtain ⟨rfl, rfl⟩ := hq
  have hV : hv D N0 ad ct H := hV
  have hbl0 := blw_lt (((xv) >>> (nI (5) &&& 31))) (by omega : 0 < 4)
  refine hN_iadd hx hb dL_law_338 ?_
  obtain ⟨gg, hgg⟩ : ∃ z, z = 1 + blw (((xv) >>> (nI (5) &&& 31))) (4) := ⟨_, rfl⟩
  have hgg4 : 1 ≤ gg ∧ gg ≤ 4 := by omega
  refine hv_eqi (y := nI gg) (by rw [hgg]) ?_
  refine lv_istore (lv' := [(13, .int (nI (gg))), (11, .long (dgt σ)), (10, .ref (ad (208))), (9, .ref (ad (64))), (8, .int (nI (gNB σ))), (7, .int (nI (gNS σ))), (6, .int (gMi σ)), (5, .int (nI (cn))), (4, .int (xv)), (0, .ref (b)), (1, .ref (ad (0))), (2, .int (nI (nc))), (3, .int (nI (i)))]) hx hb dL_law_339 hl (by decide) rfl (fun ls hl => ?_)
  refine lv_aload_n hx hb dL_law_341 rfl (lv_at hl 10 rfl) ?_
  refine lv_iload hx hb dL_law_342 (lv_at hl 0 rfl) ?_
  refine hv_call0 (kz_rest (by omega) (by omega)) (vx_runV (As := [.int (nI (gg))]) (rest := []) ⟨hx, hb, hml, hown, hts⟩ (c_X3_rest l hfl D N0 ad ct hG hO (nI (gg))) (cwV 1 hts gL_law_X3_rest rfl rfl rfl (by decide +kernel) ⟨Nat.le_of_ble_eq_true rfl, Nat.le_of_ble_eq_true rfl⟩) (hv_preV (r := (RX3, TX3, 8)) hKs hV hS h00 rfl) rfl rfl hl.1 rfl (lv_room (Nat.le_of_ble_eq_true rfl)) dL_law_344 ⟨(show cells + 1 ≤ 600086 by omega), (show slots + 6 ≤ 7301442 by omega)⟩) hS (fun r9 u9 H locs hq hV hS => ?_)
  obtain ⟨ad, ct⟩ := u9
  dsimp only at hq
  obtain ⟨-, hz9, hG1, hF1⟩ := hq
  have hV : hv D N0 ad ct H := hV
  have hna := fun (q : Nat) (q1 : q % 16 = 0) => (hF1 q q1).1
  dsimp only at hna
  simp only [toNat_nI (by omega : (gg) < 2 ^ 31)] at hz9 hG1
  obtain ⟨σ0, rfl⟩ : ∃ z, z = σ := ⟨σ, rfl⟩
  have hl : lv_has ls 22 [(13, .int (nI (gg))), (11, .long (dgt σ0)), (10, .ref (ad (208))), (9, .ref (ad (64))), (8, .int (nI (gNB σ0))), (7, .int (nI (gNS σ0))), (6, .int (gMi σ0)), (5, .int (nI (cn))), (4, .int (xv)), (0, .ref (b)), (1, .ref (ad (0))), (2, .int (nI (nc))), (3, .int (nI (i)))] := by rw [hna (208) (by omega), hna (64) (by omega), hna (0) (by omega)]; exact hl
  obtain ⟨σ, hσ⟩ : ∃ z, z = itP σ0 (gg) := ⟨_, rfl⟩
  rw [← hσ] at hG1
  have hrel : rel gg σ0 σ := by rw [hσ]; exact rel_itP hO gg
  have hO0 := hO
  have hO : okS σ := by rw [hσ]; exact ok_itP hO _
  have h20 := h2
  have h2 : ok2 σ := by rw [hσ]; exact ok2_itP h2 _
  have hc0 := hc
  have hc : gNC σ = nc := by have := hrel.1; omega
  have hG := hG1
  have h00 := hG.1
  obtain ⟨hm8, hm60, hm6, -⟩ := id hO
  have hne1 := fun (q : Nat) (q1 : q % 16 = 0) (q2 : 64 ≤ q) => (hF1 q q1).2 q2
  try dsimp only at hne1
  have hW := hW.keep (ct' := ct) (ad' := ad) (by omega) (fun q h1 h2 h3 => hne1 q h1 (by omega)) (fun q h1 h2 h3 => hna q h1)
  have hLk := hLk.keep (ct' := ct) (ad' := ad) (by omega) (fun q h1 h2 h3 h4 => hne1 q h1 (by omega)) (fun q h1 h2 h3 h4 => hna q h1)
  have h64 := hW.1
  have hsum := nsm_le (f := cHt σ) (c := 10) (n := gNC σ0) (fun k hk => (hO.2.2.2.1 k (by omega)).2.1)
  refine hv_eqi (y := nI (nsm (cHt σ) (gNC σ0))) (by rw [hz9, hσ]) ?_
  refine hN_if_ge (tgt := 676) hx hb (by omega) dL_law_347 (by decide) ?_
  refine W.widen (k := cells + 55) (n := slots + 378) (by omega) (by omega) ?_
  exact K (σ) (gg) ad ct _ _ _ (⟨hO, h2, hnc0, hc, hG⟩) (hrel) (by omega) (hW) (hLk) hV hS (lv_sub hl [0, 2, 3, 4, 5, 6, 7, 8, 9, 10, 11, 12] rfl)

set_option maxHeartbeats 4000000 in
set_option maxRecDepth 100000 in
theorem S_2 {p : Program} {l : Launch} {e : Env} {s : State} {m : MethodId} {below : List Frame} {meth : Method} {c : Code} {b L N0 : Nat} {xs : Nat → Int32} {Q : State → Prop} {D : hG} (CT : LC p l s m c b L N0 xs D) {ad : Nat → Nat} {ct : hC} {H : Heap} {locs : List Loc} {cells slots : Nat} (hV : hv D N0 ad ct H) (hS : va_S (hA N0) s.heap H locs) {ls : Array Slot} {σ : gS} {nc i : Nat} {xv : Int32} {cn rr : Nat} (hi : i < 30) (hcn1 : cn < nc) (hrr : rr = i % 5) (hA9 : lA D σ nc ad ct) (hW : wasN D σ nc (5 * nc) ad ct) (hLk : lookN D σ rr (gNS σ) 12 ad ct) (hl : lv_has ls 22 [(13, .int (nI (0))), (11, .long (dgt σ)), (10, .ref (ad (208))), (9, .ref (ad (64))), (8, .int (nI (gNB σ))), (7, .int (nI (gNS σ))), (6, .int (gMi σ)), (5, .int (nI (cn))), (4, .int (xv)), (0, .ref (b)), (1, .ref (ad (0))), (2, .int (nI (nc))), (3, .int (nI (i)))]) (hr1 : cells + 55 ≤ 600086) (hr2 : slots + 378 ≤ 7301442)
    (K : ∀ (σ1 : gS) (g : Nat) (ad1 : Nat → Nat) (ct1 : hC) (H1 : Heap) (locs1 : List Loc) (ls1 : Array Slot), lA D σ1 nc ad1 ct1 → rel g σ σ1 → g ≤ 4 → wasN D σ nc (5 * nc) ad1 ct1 → lookN D σ rr (gNS σ) 12 ad1 ct1 → hv D N0 ad1 ct1 H1 → va_S (hA N0) s.heap H1 locs1 → lv_has ls1 22 [(13, .int (nI (g))), (10, .ref (ad1 (208))), (9, .ref (ad1 (64))), (8, .int (nI (gNB σ))), (7, .int (nI (gNS σ))), (6, .int (gMi σ)), (5, .int (nI (cn))), (4, .int (xv)), (0, .ref (b)), (1, .ref (ad1 (0))), (2, .int (nI (nc))), (3, .int (nI (i)))] → W p l e room_1 s m #[Value.ref b] below meth c H1 locs1 (cells + 55) (slots + 378) Q (F0 m 676 ls1 [])) : W p l e room_1 s m #[Value.ref b] below meth c H locs cells slots Q (F0 m 352 ls []) := by
  obtain ⟨hfl, hts, hts0, hx, hb, hml, hown, hX, hbs, hbA, hbl, hL, hKs⟩ := CT
  obtain ⟨hO, h2, hnc0, hc, hG⟩ := hA9
  have h00 := hG.1
  obtain ⟨hn8, hn60, hn6, -⟩ := id hO
  have hca := hO.2.2.2.1 cn (by omega)
  have hht := hca.2.1
  have hle := hca.1
  have h64 := hW.1
  refine lv_aload_n hx hb dL_law_352 rfl (lv_at hl 10 rfl) ?_
  refine lv_iload hx hb dL_law_353 (lv_at hl 7 rfl) ?_
  refine hv_call0 (kz_furnace hO (by omega : cn < gNC σ)) (vx_runV (As := [.int (nI (cn))]) (rest := []) ⟨hx, hb, hml, hown, hts⟩ (c_X3_furnace l hfl D N0 ad ct hG hO (nI (cn))) (cwV 1 hts gL_law_X3_furnace rfl rfl rfl (by decide +kernel) ⟨Nat.le_of_ble_eq_true rfl, Nat.le_of_ble_eq_true rfl⟩) (hv_preV (r := (RX3, TX3, 8)) hKs hV hS h00 rfl) rfl rfl hl.1 rfl (lv_room (Nat.le_of_ble_eq_true rfl)) dL_law_355 ⟨(show cells + 1 ≤ 600086 by omega), (show slots + 6 ≤ 7301442 by omega)⟩) hS (fun r9 u9 H locs hq hV hS => ?_)
  obtain ⟨ad, ct⟩ := u9
  dsimp only at hq
  obtain ⟨-, hz9, hG1, hF1⟩ := hq
  have hV : hv D N0 ad ct H := hV
  have hna := fun (q : Nat) (q1 : q % 16 = 0) => (hF1 q q1).1
  dsimp only at hna
  obtain ⟨σ0, rfl⟩ : ∃ z, z = σ := ⟨σ, rfl⟩
  have hl : lv_has ls 22 [(13, .int (nI (0))), (11, .long (dgt σ0)), (10, .ref (ad (208))), (9, .ref (ad (64))), (8, .int (nI (gNB σ0))), (7, .int (nI (gNS σ0))), (6, .int (gMi σ0)), (5, .int (nI (cn))), (4, .int (xv)), (0, .ref (b)), (1, .ref (ad (0))), (2, .int (nI (nc))), (3, .int (nI (i)))] := by rw [hna (208) (by omega), hna (64) (by omega), hna (0) (by omega)]; exact hl
  obtain ⟨σ, hσ⟩ : ∃ z, z = uObj σ0 (gNB σ0) (nI (cn)) (gMi σ0) := ⟨_, rfl⟩
  rw [← hσ] at hG1
  have hrel : rel 0 σ0 σ := by rw [hσ]; exact rel_fu
  have hO0 := hO
  have hO : okS σ := by rw [hσ]; exact okk_furnace hO
  have h20 := h2
  have h2 : ok2 σ := by rw [hσ]; exact ok2_fu h2 (by rw [nI_toInt (by omega)]; omega) (by rw [nI_toInt (by omega)]; omega)
  have hc0 := hc
  have hc : gNC σ = nc := by have := hrel.1; omega
  have hG := hG1
  have h00 := hG.1
  obtain ⟨hm8, hm60, hm6, -⟩ := id hO
  have hne1 := fun (q : Nat) (q1 : q % 16 = 0) (q2 : 64 ≤ q) => (hF1 q q1).2 q2
  try dsimp only at hne1
  have hW := hW.keep (ct' := ct) (ad' := ad) (by omega) (fun q h1 h2 h3 => hne1 q h1 (by omega)) (fun q h1 h2 h3 => hna q h1)
  have hLk := hLk.keep (ct' := ct) (ad' := ad) (by omega) (fun q h1 h2 h3 h4 => hne1 q h1 (by omega)) (fun q h1 h2 h3 h4 => hna q h1)
  have h64 := hW.1
  refine hv_eqi (y := gFu σ0) hz9 ?_
  refine lv_istore (lv' := [(14, .int (gFu σ0)), (13, .int (nI (0))), (11, .long (dgt σ0)), (10, .ref (ad (208))), (9, .ref (ad (64))), (8, .int (nI (gNB σ0))), (7, .int (nI (gNS σ0))), (6, .int (gMi σ0)), (5, .int (nI (cn))), (4, .int (xv)), (0, .ref (b)), (1, .ref (ad (0))), (2, .int (nI (nc))), (3, .int (nI (i)))]) hx hb dL_law_358 hl (by decide) rfl (fun ls hl => ?_)
  refine lv_iload hx hb dL_law_360 (lv_at hl 0 rfl) ?_
  refine lv_iconst (v := (-1)) hx hb dL_law_362 (by decide) ?_
  refine hI_icmp_lt (tgt := 394) hx hb dL_law_363 (by decide) (fun c363 => by have := h20.2.1; rw [h_m1] at c363; omega) (fun c363 => ?_)
  refine lv_iload hx hb dL_law_366 (lv_at hl 0 rfl) ?_
  refine lv_iload_n hx hb dL_law_368 rfl (lv_at hl 12 rfl) ?_
  refine hR_icmp_ge (tgt := 394) hx hb (by omega) dL_law_369 (by decide) (fun c369 => by have := h20.2.2; omega) (fun c369 => ?_)
  refine lv_aload_n hx hb dL_law_372 rfl (lv_at hl 11 rfl) ?_
  refine lv_iload hx hb dL_law_373 (lv_at hl 8 rfl) ?_
  refine lv_iconst (v := nI 4) hx hb dL_law_375 (by decide) ?_
  refine hv_call0 (kz_cane hO (by omega : cn < gNC σ) (by omega : 4 < 5)) (vx_runV (As := [.int (nI (cn)), .int (nI (4))]) (rest := []) ⟨hx, hb, hml, hown, hts⟩ (c_X3_cane l hfl D N0 ad ct hG hO (nI (cn)) (nI (4))) (cwV 2 hts gL_law_X3_cane rfl rfl rfl (by decide +kernel) ⟨Nat.le_of_ble_eq_true rfl, Nat.le_of_ble_eq_true rfl⟩) (hv_preV (r := (RX3, TX3, 8)) hKs hV hS h00 rfl) rfl rfl hl.1 rfl (lv_room (Nat.le_of_ble_eq_true rfl)) dL_law_376 ⟨(show cells + 1 + 1 ≤ 600086 by omega), (show slots + 6 + 6 ≤ 7301442 by omega)⟩) hS (fun r9 u9 H locs hq hV hS => ?_)
  obtain ⟨-, hq, hu9⟩ := hq
  subst hu9
  have hV : hv D N0 ad ct H := hV
  simp only [toNat_nI (by omega : (cn) < 2 ^ 31)] at hq
  refine hv_eqi (y := hbv (decide (nI (cn) = gFu σ))) hq ?_
  refine hv_eqi (y := nI 1) (by rw [show gFu σ = nI cn from by rw [hσ]; rfl, decide_eq_true rfl]; rfl) ?_
  refine lv_iconst (v := nI 1) hx hb dL_law_379 (by decide) ?_
  refine hN_icmp_ne (tgt := 394) hx hb (by omega) (by omega) dL_law_380 (by decide) (fun c380 => by exact absurd rfl c380) (fun c380 => ?_)
  refine lv_aload_n hx hb dL_law_383 rfl (lv_at hl 11 rfl) ?_
  refine lv_iload hx hb dL_law_384 (lv_at hl 8 rfl) ?_
  refine hv_call0 (kz_furnace hO (by omega : cn < gNC σ)) (vx_runV (As := [.int (nI (cn))]) (rest := []) ⟨hx, hb, hml, hown, hts⟩ (c_X3_furnace l hfl D N0 ad ct hG hO (nI (cn))) (cwV 1 hts gL_law_X3_furnace rfl rfl rfl (by decide +kernel) ⟨Nat.le_of_ble_eq_true rfl, Nat.le_of_ble_eq_true rfl⟩) (hv_preV (r := (RX3, TX3, 8)) hKs hV hS h00 rfl) rfl rfl hl.1 rfl (lv_room (Nat.le_of_ble_eq_true rfl)) dL_law_386 ⟨(show cells + 1 + 1 + 1 ≤ 600086 by omega), (show slots + 6 + 6 + 6 ≤ 7301442 by omega)⟩) hS (fun r9 u9 H locs hq hV hS => ?_)
  obtain ⟨ad, ct⟩ := u9
  dsimp only at hq
  obtain ⟨-, hz9, hG1, hF1⟩ := hq
  have hV : hv D N0 ad ct H := hV
  have hna := fun (q : Nat) (q1 : q % 16 = 0) => (hF1 q q1).1
  dsimp only at hna
  have hl : lv_has ls 22 [(14, .int (gFu σ0)), (13, .int (nI (0))), (11, .long (dgt σ0)), (10, .ref (ad (208))), (9, .ref (ad (64))), (8, .int (nI (gNB σ0))), (7, .int (nI (gNS σ0))), (6, .int (gMi σ0)), (5, .int (nI (cn))), (4, .int (xv)), (0, .ref (b)), (1, .ref (ad (0))), (2, .int (nI (nc))), (3, .int (nI (i)))] := by rw [hna (208) (by omega), hna (64) (by omega), hna (0) (by omega)]; exact hl
  have he9 : uObj σ (gNB σ) (nI (cn)) (gMi σ) = σ := by rw [hσ]; rfl
  rw [he9] at hG1
  have hG := hG1
  have h00 := hG.1
  have hne1 := fun (q : Nat) (q1 : q % 16 = 0) (q2 : 64 ≤ q) => (hF1 q q1).2 q2
  try dsimp only at hne1
  have hW := hW.keep (ct' := ct) (ad' := ad) (by omega) (fun q h1 h2 h3 => hne1 q h1 (by omega)) (fun q h1 h2 h3 => hna q h1)
  have hLk := hLk.keep (ct' := ct) (ad' := ad) (by omega) (fun q h1 h2 h3 h4 => hne1 q h1 (by omega)) (fun q h1 h2 h3 h4 => hna q h1)
  have h64 := hW.1
  refine hv_eqi (y := nI cn) (by rw [hz9, hσ]; rfl) ?_
  refine lv_iload hx hb dL_law_389 (lv_at hl 8 rfl) ?_
  refine hN_icmp_eq (tgt := 676) hx hb (by omega) (by omega) dL_law_391 (by decide) (fun c391 => ?_) (fun c391 => by exact absurd rfl c391)
  refine W.widen (k := cells + 55) (n := slots + 378) (by omega) (by omega) ?_
  exact K (σ) (0) ad ct _ _ _ (⟨hO, h2, hnc0, hc, hG⟩) (hrel) (by omega) (hW) (hLk) hV hS (lv_sub hl [1, 3, 4, 5, 6, 7, 8, 9, 10, 11, 12, 13] rfl)
