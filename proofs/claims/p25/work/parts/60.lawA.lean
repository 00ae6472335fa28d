set_option maxHeartbeats 4000000 in
set_option maxRecDepth 100000 in
theorem S_A {p : Program} {l : Launch} {e : Env} {s : State} {m : MethodId} {below : List Frame} {meth : Method} {c : Code} {b L N0 : Nat} {xs : Nat → Int32} {Q : State → Prop} {D : hG} (CT : LC p l s m c b L N0 xs D) {ad : Nat → Nat} {ct : hC} {H : Heap} {locs : List Loc} {cells slots : Nat} (hV : hv D N0 ad ct H) (hS : va_S (hA N0) s.heap H locs) {ls : Array Slot} {σ : gS} {nc i : Nat} (hi : i < 30) (hA9 : lA D σ nc ad ct) (hl : lv_has ls 22 [(0, .ref (b)), (1, .ref (ad (0))), (2, .int (nI (nc))), (3, .int (nI (i)))]) (hr1 : cells + 12 ≤ 600086) (hr2 : slots + 66 ≤ 7301442)
    (K : ∀ (xv : Int32) (cn : Nat) (ad1 : Nat → Nat) (ct1 : hC) (H1 : Heap) (locs1 : List Loc) (ls1 : Array Slot), cn < nc → lA D σ nc ad1 ct1 → wasN D σ nc 0 ad1 ct1 → hv D N0 ad1 ct1 H1 → va_S (hA N0) s.heap H1 locs1 → lv_has ls1 22 [(10, .int (nI (0))), (9, .ref (ad1 (64))), (8, .int (nI (gNB σ))), (7, .int (nI (gNS σ))), (6, .int (gMi σ)), (5, .int (nI (cn))), (4, .int (xv)), (0, .ref (b)), (1, .ref (ad1 (0))), (2, .int (nI (nc))), (3, .int (nI (i)))] → W p l e room_1 s m #[Value.ref b] below meth c H1 locs1 (cells + 12) (slots + 66) Q (F0 m 79 ls1 [])) : W p l e room_1 s m #[Value.ref b] below meth c H locs cells slots Q (F0 m 19 ls []) := by
  obtain ⟨hfl, hts, hts0, hx, hb, hml, hown, hX, hbs, hbA, hbl, hL, hKs⟩ := CT
  have kc74 := hts (.classLink RL 74 "[[I") (by decide +kernel)
  have karr := hts (.arrayClass .int) (by decide +kernel)
  obtain ⟨hO, h2, hnc0, hc, hG⟩ := hA9
  have h00 := hG.1
  obtain ⟨hn8, hn60, hn6, -⟩ := id hO
  refine lv_aload_n hx hb dL_law_19 rfl (lv_at hl 0 rfl) ?_
  refine lv_iload_n hx hb dL_law_20 rfl (lv_at hl 3 rfl) ?_
  refine lv_bipush (v := nI 16) hx hb dL_law_21 (by decide) ?_
  refine hN_irem hx hb (by omega) (by omega) (by omega) dL_law_23 ?_
  refine hv_calli (va_runS (As := [.ref (b), .int (nI ((i) % (16)))]) (rest := []) ⟨hx, hb, hml, hown, hts⟩ (c_L_cell l D N0 ad ct hbl hL (by omega : (i) % (16) < 1000)) (va_cwS 2 hts gL_law_L_cell rfl rfl rfl (by decide +kernel) ⟨Nat.le_of_ble_eq_true rfl, Nat.le_of_ble_eq_true rfl⟩) (hv_preSX hX hbs hbA hKs hV hS) rfl rfl hl.1 rfl (lv_room (Nat.le_of_ble_eq_true rfl)) dL_law_24 ⟨(show cells + 0 ≤ 600086 by omega), (show slots + 0 ≤ 7301442 by omega)⟩) hS (fun r9 u9 H locs hq hV hS => ?_)
  subst hq
  have hV : hv D N0 ad ct H := hV
  obtain ⟨xa1, hxa1⟩ : ∃ z, z = r9 := ⟨_, rfl⟩
  refine hv_eqi (y := xa1) hxa1.symm ?_
  refine lv_iload_n hx hb dL_law_27 rfl (lv_at hl 3 rfl) ?_
  refine lv_bipush (v := nI 16) hx hb dL_law_28 (by decide) ?_
  refine hN_idiv hx hb (by omega) (by omega) (by omega) dL_law_30 ?_
  refine lv_bipush (v := nI 6) hx hb dL_law_31 (by decide) ?_
  refine hN_imul hx hb dL_law_33 ?_
  refine lv_ishr hx hb dL_law_34 ?_
  obtain ⟨xv, hxv⟩ : ∃ z, z = ((xa1) >>> (nI (((i) / (16)) * (6)) &&& 31)) := ⟨_, rfl⟩
  refine hv_eqi (y := xv) (by rw [hxv]) ?_
  refine lv_istore (lv' := [(4, .int (xv)), (0, .ref (b)), (1, .ref (ad (0))), (2, .int (nI (nc))), (3, .int (nI (i)))]) hx hb dL_law_35 hl (by decide) rfl (fun ls hl => ?_)
  refine lv_iload hx hb dL_law_37 (lv_at hl 0 rfl) ?_
  refine lv_iconst (v := nI 3) hx hb dL_law_39 (by decide) ?_
  refine lv_ishr hx hb dL_law_40 ?_
  refine lv_iload_n hx hb dL_law_41 rfl (lv_at hl 3 rfl) ?_
  refine hv_calli (va_runS (As := [.int ((xv) >>> (nI (3) &&& 31)), .int (nI (nc))]) (rest := []) ⟨hx, hb, hml, hown, hts⟩ (c_L_below l D N0 ad ct (((xv) >>> (nI (3) &&& 31))) (by omega : 0 < nc) (by omega : nc < 2 ^ 31)) (va_cwS 2 hts gL_law_L_below rfl rfl rfl (by decide +kernel) ⟨Nat.le_of_ble_eq_true rfl, Nat.le_of_ble_eq_true rfl⟩) (hv_preS hKs hV hS) rfl rfl hl.1 rfl (lv_room (Nat.le_of_ble_eq_true rfl)) dL_law_42 ⟨(show cells + 0 ≤ 600086 by omega), (show slots + 0 ≤ 7301442 by omega)⟩) hS (fun r9 u9 H locs hq hV hS => ?_)
  obtain ⟨rfl, rfl⟩ := hq
  have hV : hv D N0 ad ct H := hV
  have hbl1 := blw_lt (((xv) >>> (nI (3) &&& 31))) (by omega : 0 < nc)
  obtain ⟨cn, hcn⟩ : ∃ z, z = blw (((xv) >>> (nI (3) &&& 31))) (nc) := ⟨_, rfl⟩
  have hcn1 : cn < nc := by omega
  refine hv_eqi (y := nI cn) (by rw [hcn]) ?_
  refine lv_istore (lv' := [(5, .int (nI (cn))), (4, .int (xv)), (0, .ref (b)), (1, .ref (ad (0))), (2, .int (nI (nc))), (3, .int (nI (i)))]) hx hb dL_law_45 hl (by decide) rfl (fun ls hl => ?_)
  refine lv_aload_n hx hb dL_law_47 rfl (lv_at hl 3 rfl) ?_
  refine lv_iconst (v := nI 0) hx hb dL_law_48 (by decide) ?_
  refine hv_call0 (by decide) (vx_runV (As := [.int (nI (0))]) (rest := []) ⟨hx, hb, hml, hown, hts⟩ (c_X3_count l hfl D N0 ad ct hG hO (nI (0))) (cwV 1 hts gL_law_X3_count rfl rfl rfl (by decide +kernel) ⟨Nat.le_of_ble_eq_true rfl, Nat.le_of_ble_eq_true rfl⟩) (hv_preV (r := (RX3, TX3, 8)) hKs hV hS h00 rfl) rfl rfl hl.1 rfl (lv_room (Nat.le_of_ble_eq_true rfl)) dL_law_49 ⟨(show cells + 1 ≤ 600086 by omega), (show slots + 6 ≤ 7301442 by omega)⟩) hS (fun r9 u9 H locs hq hV hS => ?_)
  obtain ⟨-, hq, hu9⟩ := hq
  subst hu9
  have hV : hv D N0 ad ct H := hV
  have hq : r9 = (gMi σ) := hq
  subst hq
  refine lv_istore (lv' := [(6, .int (gMi σ)), (5, .int (nI (cn))), (4, .int (xv)), (0, .ref (b)), (1, .ref (ad (0))), (2, .int (nI (nc))), (3, .int (nI (i)))]) hx hb dL_law_52 hl (by decide) rfl (fun ls hl => ?_)
  refine lv_aload_n hx hb dL_law_54 rfl (lv_at hl 4 rfl) ?_
  refine lv_iconst (v := nI 3) hx hb dL_law_55 (by decide) ?_
  refine hv_call0 (by decide) (vx_runV (As := [.int (nI (3))]) (rest := []) ⟨hx, hb, hml, hown, hts⟩ (c_X3_count l hfl D N0 ad ct hG hO (nI (3))) (cwV 1 hts gL_law_X3_count rfl rfl rfl (by decide +kernel) ⟨Nat.le_of_ble_eq_true rfl, Nat.le_of_ble_eq_true rfl⟩) (hv_preV (r := (RX3, TX3, 8)) hKs hV hS h00 rfl) rfl rfl hl.1 rfl (lv_room (Nat.le_of_ble_eq_true rfl)) dL_law_56 ⟨(show cells + 1 + 1 ≤ 600086 by omega), (show slots + 6 + 6 ≤ 7301442 by omega)⟩) hS (fun r9 u9 H locs hq hV hS => ?_)
  obtain ⟨-, hq, hu9⟩ := hq
  subst hu9
  have hV : hv D N0 ad ct H := hV
  have hq : r9 = nI (gNS σ) := hq
  subst hq
  refine lv_istore (lv' := [(7, .int (nI (gNS σ))), (6, .int (gMi σ)), (5, .int (nI (cn))), (4, .int (xv)), (0, .ref (b)), (1, .ref (ad (0))), (2, .int (nI (nc))), (3, .int (nI (i)))]) hx hb dL_law_59 hl (by decide) rfl (fun ls hl => ?_)
  refine lv_aload_n hx hb dL_law_61 rfl (lv_at hl 5 rfl) ?_
  refine lv_iconst (v := nI 5) hx hb dL_law_62 (by decide) ?_
  refine hv_call0 (by decide) (vx_runV (As := [.int (nI (5))]) (rest := []) ⟨hx, hb, hml, hown, hts⟩ (c_X3_count l hfl D N0 ad ct hG hO (nI (5))) (cwV 1 hts gL_law_X3_count rfl rfl rfl (by decide +kernel) ⟨Nat.le_of_ble_eq_true rfl, Nat.le_of_ble_eq_true rfl⟩) (hv_preV (r := (RX3, TX3, 8)) hKs hV hS h00 rfl) rfl rfl hl.1 rfl (lv_room (Nat.le_of_ble_eq_true rfl)) dL_law_63 ⟨(show cells + 1 + 1 + 1 ≤ 600086 by omega), (show slots + 6 + 6 + 6 ≤ 7301442 by omega)⟩) hS (fun r9 u9 H locs hq hV hS => ?_)
  obtain ⟨-, hq, hu9⟩ := hq
  subst hu9
  have hV : hv D N0 ad ct H := hV
  have hq : r9 = nI (gNB σ) := hq
  subst hq
  refine lv_istore (lv' := [(8, .int (nI (gNB σ))), (7, .int (nI (gNS σ))), (6, .int (gMi σ)), (5, .int (nI (cn))), (4, .int (xv)), (0, .ref (b)), (1, .ref (ad (0))), (2, .int (nI (nc))), (3, .int (nI (i)))]) hx hb dL_law_66 hl (by decide) rfl (fun ls hl => ?_)
  refine lv_iload_n hx hb dL_law_68 rfl (lv_at hl 7 rfl) ?_
  refine lv_iconst (v := nI 5) hx hb dL_law_69 (by decide) ?_
  refine hv_mna hx hb hown kc74 karr hKs hV hS (n := nc) (k := 5) (by omega) (by decide) (show cells + 1 + 1 + 1 + (1 + nc) ≤ 600086 by omega) (show slots + 6 + 6 + 6 + (nc + nc * 5) ≤ 7301442 by omega) dL_law_70 (fun ad ct H he64 heR hne0 hna0 hV hS => ?_)
  have hna := fun (q : Nat) (q1 : q < 64) => hna0 q (by omega) (by omega)
  have hne := fun (q : Nat) (q1 : q < 64) => hne0 q (by omega) (by omega)
  have hl : lv_has ls 22 [(8, .int (nI (gNB σ))), (7, .int (nI (gNS σ))), (6, .int (gMi σ)), (5, .int (nI (cn))), (4, .int (xv)), (0, .ref (b)), (1, .ref (ad (0))), (2, .int (nI (nc))), (3, .int (nI (i)))] := by rw [hna (0) (by omega)]; exact hl
  have h00 : ct (0) = some (eO 3 [.ref (ad (16)), .ref (ad (32)), .ref (ad (48)), .int (nI (gNC σ)), .int (nI (gNS σ)), .int (nI (gNB σ)), .int (gFu σ), .int (gMi σ)]) := by rw [hne (0) (by omega), hna (16) (by omega), hna (32) (by omega), hna (48) (by omega)]; exact h00
  have hG := hG.keep (ct' := ct) (ad' := ad) (fun z h1 h2 => hne0 z (by omega) (by omega)) (fun z h1 h2 => hna0 z (by omega) (by omega))
  have hW : wasN D σ nc 0 ad ct := ⟨he64, fun k hk => ⟨_, heR k hk, fun j _ hN => absurd hN (by omega)⟩⟩
  refine lv_astore (lv' := [(9, .ref (ad (64))), (8, .int (nI (gNB σ))), (7, .int (nI (gNS σ))), (6, .int (gMi σ)), (5, .int (nI (cn))), (4, .int (xv)), (0, .ref (b)), (1, .ref (ad (0))), (2, .int (nI (nc))), (3, .int (nI (i)))]) hx hb dL_law_74 hl (by decide) rfl (fun ls hl => ?_)
  refine lv_iconst (v := nI 0) hx hb dL_law_76 (by decide) ?_
  refine lv_istore (lv' := [(10, .int (nI (0))), (9, .ref (ad (64))), (8, .int (nI (gNB σ))), (7, .int (nI (gNS σ))), (6, .int (gMi σ)), (5, .int (nI (cn))), (4, .int (xv)), (0, .ref (b)), (1, .ref (ad (0))), (2, .int (nI (nc))), (3, .int (nI (i)))]) hx hb dL_law_77 hl (by decide) rfl (fun ls hl => ?_)
  refine W.widen (k := cells + 12) (n := slots + 66) (by omega) (by omega) ?_
  exact K (xv) (cn) ad ct _ _ _ (hcn1) (⟨hO, h2, hnc0, hc, hG⟩) (hW) hV hS (lv_sub hl [0, 1, 2, 3, 4, 5, 6, 7, 8, 9, 10] rfl)

set_option maxHeartbeats 4000000 in
set_option maxRecDepth 100000 in
theorem S_B {p : Program} {l : Launch} {e : Env} {s : State} {m : MethodId} {below : List Frame} {meth : Method} {c : Code} {b L N0 : Nat} {xs : Nat → Int32} {Q : State → Prop} {D : hG} (CT : LC p l s m c b L N0 xs D) {ad : Nat → Nat} {ct : hC} {H : Heap} {locs : List Loc} {cells slots : Nat} (hV : hv D N0 ad ct H) (hS : va_S (hA N0) s.heap H locs) {ls : Array Slot} {σ : gS} {nc i : Nat} {xv : Int32} {cn : Nat} (hi : i < 30) (hA9 : lA D σ nc ad ct) (hW : wasN D σ nc 0 ad ct) (hl : lv_has ls 22 [(10, .int (nI (0))), (9, .ref (ad (64))), (8, .int (nI (gNB σ))), (7, .int (nI (gNS σ))), (6, .int (gMi σ)), (5, .int (nI (cn))), (4, .int (xv)), (0, .ref (b)), (1, .ref (ad (0))), (2, .int (nI (nc))), (3, .int (nI (i)))]) (hr1 : cells + 40 ≤ 600086) (hr2 : slots + 240 ≤ 7301442)
    (K : ∀  (ad1 : Nat → Nat) (ct1 : hC) (H1 : Heap) (locs1 : List Loc) (ls1 : Array Slot), lA D σ nc ad1 ct1 → wasN D σ nc (5 * nc) ad1 ct1 → hv D N0 ad1 ct1 H1 → va_S (hA N0) s.heap H1 locs1 → lv_has ls1 22 [(9, .ref (ad1 (64))), (8, .int (nI (gNB σ))), (7, .int (nI (gNS σ))), (6, .int (gMi σ)), (5, .int (nI (cn))), (4, .int (xv)), (0, .ref (b)), (1, .ref (ad1 (0))), (2, .int (nI (nc))), (3, .int (nI (i)))] → W p l e room_1 s m #[Value.ref b] below meth c H1 locs1 (cells + 40) (slots + 240) Q (F0 m 122 ls1 [])) : W p l e room_1 s m #[Value.ref b] below meth c H locs cells slots Q (F0 m 79 ls []) := by
  obtain ⟨hfl, hts, hts0, hx, hb, hml, hown, hX, hbs, hbA, hbl, hL, hKs⟩ := CT
  obtain ⟨hO, h2, hnc0, hc, hG⟩ := hA9
  have h00 := hG.1
  obtain ⟨hn8, hn60, hn6, -⟩ := id hO
  have L79 : ∀ (n k : Nat), k ≤ nc → nc < k + n → ∀ (ct : hC) (H : Heap) (locs : List Loc), (gX D σ ad ct) → (wasN D σ nc (5 * k) ad ct) → hv D N0 ad ct H → va_S (hA N0) s.heap H locs → ∀ ls : Array Slot, lv_has ls 22 [(10, .int (nI (k))), (9, .ref (ad (64))), (8, .int (nI (gNB σ))), (7, .int (nI (gNS σ))), (6, .int (gMi σ)), (5, .int (nI (cn))), (4, .int (xv)), (0, .ref (b)), (1, .ref (ad (0))), (2, .int (nI (nc))), (3, .int (nI (i)))] → W p l e room_1 s m #[Value.ref b] below meth c H locs (cells + 5 * k) (slots + 30 * k) Q (F0 m 79 ls []) := by
    intro n
    induction n with
    | zero => intro k h1 h2; exact absurd h2 (by omega)
    | succ n ih79 =>
      intro k hi79 hn79 ct H locs hG hW hV hS ls hl
      have h00 := hG.1
      have h64 := hW.1
      refine lv_iload hx hb dL_law_79 (lv_at hl 0 rfl) ?_
      refine lv_iload_n hx hb dL_law_81 rfl (lv_at hl 9 rfl) ?_
      refine hN_icmp_ge (tgt := 122) hx hb (by omega) (by omega) dL_law_82 (by decide) (fun c82 => ?_) (fun c82 => ?_)
      · refine W.widen (k := cells + 40) (n := slots + 240) (by omega) (by omega) ?_
        exact K  ad ct _ _ _ (⟨hO, h2, hnc0, hc, hG⟩) (hW.mono (by omega)) hV hS (lv_sub hl [1, 2, 3, 4, 5, 6, 7, 8, 9, 10] rfl)
      · refine lv_iconst (v := nI 0) hx hb dL_law_85 (by decide) ?_
        refine lv_istore (lv' := [(11, .int (nI (0))), (10, .int (nI (k))), (9, .ref (ad (64))), (8, .int (nI (gNB σ))), (7, .int (nI (gNS σ))), (6, .int (gMi σ)), (5, .int (nI (cn))), (4, .int (xv)), (0, .ref (b)), (1, .ref (ad (0))), (2, .int (nI (nc))), (3, .int (nI (i)))]) hx hb dL_law_86 hl (by decide) rfl (fun ls hl => ?_)
        have L88 : ∀ (n j : Nat), j ≤ 5 → 5 < j + n → ∀ (ct : hC) (H : Heap) (locs : List Loc), (gX D σ ad ct) → (wasN D σ nc (5 * k + j) ad ct) → hv D N0 ad ct H → va_S (hA N0) s.heap H locs → ∀ ls : Array Slot, lv_has ls 22 [(11, .int (nI (j))), (10, .int (nI (k))), (9, .ref (ad (64))), (8, .int (nI (gNB σ))), (7, .int (nI (gNS σ))), (6, .int (gMi σ)), (5, .int (nI (cn))), (4, .int (xv)), (0, .ref (b)), (1, .ref (ad (0))), (2, .int (nI (nc))), (3, .int (nI (i)))] → W p l e room_1 s m #[Value.ref b] below meth c H locs (cells + 5 * k + 1 * j) (slots + 30 * k + 6 * j) Q (F0 m 88 ls []) := by
          intro n
          induction n with
          | zero => intro j h1 h2; exact absurd h2 (by omega)
          | succ n ih88 =>
            intro j hi88 hn88 ct H locs hG hW hV hS ls hl
            have h00 := hG.1
            have h64 := hW.1
            refine lv_iload hx hb dL_law_88 (lv_at hl 0 rfl) ?_
            refine lv_iconst (v := nI 5) hx hb dL_law_90 (by decide) ?_
            refine hN_icmp_ge (tgt := 116) hx hb (by omega) (by omega) dL_law_91 (by decide) (fun c91 => ?_) (fun c91 => ?_)
            · refine lv_iinc (v := nI (k + 1)) (lv' := [(10, .int (nI (k + 1))), (11, .int (nI (j))), (9, .ref (ad (64))), (8, .int (nI (gNB σ))), (7, .int (nI (gNS σ))), (6, .int (gMi σ)), (5, .int (nI (cn))), (4, .int (xv)), (0, .ref (b)), (1, .ref (ad (0))), (2, .int (nI (nc))), (3, .int (nI (i)))]) hx hb dL_law_116 hl (k := 1) rfl (nI_add (k) 1) (by decide) rfl (fun ls hl => ?_)
              refine lv_goto (tgt := 79) hx hb dL_law_119 (by decide) ?_
              refine W.widen (k := cells + 5 * (k + 1)) (n := slots + 30 * (k + 1)) (by omega) (by omega) ?_
              exact ih79 (k + 1)  (by omega) (by omega) ct _ _ (hG) (hW.mono (by omega)) hV hS ls (lv_sub hl [0, 2, 3, 4, 5, 6, 7, 8, 9, 10, 11] rfl)
            · refine lv_aload hx hb dL_law_94 (lv_at hl 2 rfl) ?_
              refine lv_iload hx hb dL_law_96 (lv_at hl 1 rfl) ?_
              refine hv_aaldA hx hb hKs hV h64 (by omega) (by omega) dL_law_98 ?_
              refine hv_eq (w := .ref (ad (16 * k + 80))) (by rw [if_pos (by omega : k < nc)]; rfl) ?_
              obtain ⟨f9, hf9, hfj⟩ := hW.2 k (by omega)
              refine lv_iload hx hb dL_law_99 (lv_at hl 0 rfl) ?_
              refine lv_aload_n hx hb dL_law_101 rfl (lv_at hl 9 rfl) ?_
              refine lv_iload hx hb dL_law_102 (lv_at hl 1 rfl) ?_
              refine lv_iload hx hb dL_law_104 (lv_at hl 0 rfl) ?_
              refine hv_call0 (kz_cane hO (by omega : k < gNC σ) (by omega : j < 5)) (vx_runV (As := [.int (nI (k)), .int (nI (j))]) (rest := [.int (nI (j)), .ref (ad (16 * k + 80))]) ⟨hx, hb, hml, hown, hts⟩ (c_X3_cane l hfl D N0 ad ct hG hO (nI (k)) (nI (j))) (cwV 2 hts gL_law_X3_cane rfl rfl rfl (by decide +kernel) ⟨Nat.le_of_ble_eq_true rfl, Nat.le_of_ble_eq_true rfl⟩) (hv_preV (r := (RX3, TX3, 8)) hKs hV hS h00 rfl) rfl rfl hl.1 rfl (lv_room (Nat.le_of_ble_eq_true rfl)) dL_law_106 ⟨(show cells + 5 * k + 1 * j + 1 ≤ 600086 by omega), (show slots + 30 * k + 6 * j + 6 ≤ 7301442 by omega)⟩) hS (fun r9 u9 H locs hq hV hS => ?_)
              obtain ⟨-, hq, hu9⟩ := hq
              subst hu9
              have hV : hv D N0 ad ct H := hV
              simp only [toNat_nI (by omega : (k) < 2 ^ 31), toNat_nI (by omega : (j) < 2 ^ 31)] at hq
              subst hq
              refine hv_iast hx hb hKs hV hS hf9 (by omega) (by decide) dL_law_109 (fun ct H locs he hne hV hS => ?_)
              have h00 := (hne (0) (by omega)).trans h00
              have h64 := (hne (64) (by omega)).trans h64
              have hW := wasN.put hW (by omega) hfj he hne
              have hG := hG.keep (ct' := ct) (ad' := ad) (fun z h1 h2 => hne z (by omega)) (fun _ _ _ => rfl)
              refine lv_iinc (v := nI (j + 1)) (lv' := [(11, .int (nI (j + 1))), (10, .int (nI (k))), (9, .ref (ad (64))), (8, .int (nI (gNB σ))), (7, .int (nI (gNS σ))), (6, .int (gMi σ)), (5, .int (nI (cn))), (4, .int (xv)), (0, .ref (b)), (1, .ref (ad (0))), (2, .int (nI (nc))), (3, .int (nI (i)))]) hx hb dL_law_110 hl (k := 0) rfl (nI_add (j) 1) (by decide) rfl (fun ls hl => ?_)
              refine lv_goto (tgt := 88) hx hb dL_law_113 (by decide) ?_
              refine W.widen (k := cells + 5 * k + 1 * (j + 1)) (n := slots + 30 * k + 6 * (j + 1)) (by omega) (by omega) ?_
              exact ih88 (j + 1)  (by omega) (by omega) ct _ _ (hG) (hW) hV hS ls (lv_sub hl [0, 1, 2, 3, 4, 5, 6, 7, 8, 9, 10, 11] rfl)
        refine W.widen (k := cells + 5 * k + 1 * (0)) (n := slots + 30 * k + 6 * (0)) (by omega) (by omega) ?_
        exact L88 (5 + 1) (0)  (by omega) (by omega) ct _ _ (hG) (hW) hV hS ls (lv_sub hl [0, 1, 2, 3, 4, 5, 6, 7, 8, 9, 10, 11] rfl)
  refine W.widen (k := cells + 5 * (0)) (n := slots + 30 * (0)) (by omega) (by omega) ?_
  exact L79 (nc + 1) (0)  (by omega) (by omega) ct _ _ (hG) (hW) hV hS ls (lv_sub hl [0, 1, 2, 3, 4, 5, 6, 7, 8, 9, 10] rfl)
