section HW5
variable {p : Program} {l : Launch} {e : Env} {R : Room} {s : State} {m : MethodId} {args : Array Value} {below : List Frame} {meth : Method} {c : Code} {H : Heap} {locs : List Loc} {cells slots : Nat} {Q : State → Prop}
variable {cc : ByteArray} {pc : Nat} {ls : Array Slot} {rest st0 : List Value} {D : hG} {N0 : Nat} {ad : Nat → Nat} {ct : hC}
theorem hv_calld {post : UInt64 → hU → Prop} {a : Array Value} {mc ms : Nat} (hr : va_Run p l e R s m args below meth c H locs cells slots mc ms (F0 m pc ls st0) rest (va_Qd post (hB D N0) (hA N0) a) (hA N0)) (hS : va_S (hA N0) s.heap H locs)
    (kk : ∀ (r : UInt64) (u : hU) (H1 : Heap) (locs1 : List Loc), post r u → hv D N0 u.1 u.2 H1 → va_S (hA N0) s.heap H1 locs1 → W p l e R s m args below meth c H1 locs1 (cells + mc) (slots + ms) Q (F0 m (pc + 3) ls (.double r :: rest))) : W p l e R s m args below meth c H locs cells slots Q (F0 m pc ls st0) :=
  va_calld hr hS (fun _ _ h => h) (fun _ h => h) (fun r u t H1 locs1 ht _ hp hb _ _ hS1 => kk r u H1 locs1 hp (by unfold hB at hb; rw [ht] at hb; exact hb) hS1)
end HW5

set_option maxHeartbeats 4000000 in
set_option maxRecDepth 100000 in
theorem L_mean {p : Program} {l : Launch} {e : Env} {s : State} {m : MethodId} {below : List Frame} {meth : Method} {c : Code} {b L N0 : Nat} {xs : Nat → Int32} {Q : State → Prop} (hfl : l.stackTraces = false) (hts : ∀ w ∈ wsL_law, w.before #[Value.ref b] s = true) (hx : p.tables.exec = Jvm.exec) (hb : c.code = code) (hml : c.maxLocals = 9) (hown : s.vm.findClass RL = some m.cls) (hX : va_X b L xs s s.heap) (hbl : b < s.heap.size) (hbA : ¬ hA N0 b) (hL : L ≤ 3072) {D : hG} (hKs : hK D N0 s)
    {σ : gS} {ad : Nat → Nat} {ct : hC} (hI : gL D σ ad ct) {H : Heap} {locs : List Loc} {cells slots i : Nat} (hV : hv D N0 ad ct H) (hS : va_S (hA N0) s.heap H locs) {ls : Array Slot} (hi : i + 6 ≤ L) (hl : lv_has ls 9 [(0, .ref b), (1, .ref (ad 0)), (2, .ref (ad 80)), (3, .ref (ad 64)), (4, .int (nI i))]) (hr1 : cells + 64 ≤ 601024) (hr2 : slots + 400 ≤ 7293033)
    (K : ∀ (σ1 : gS) (ad1 : Nat → Nat) (ct1 : hC) (H1 : Heap) (locs1 : List Loc) (ls1 : Array Slot), gL D σ1 ad1 ct1 → hv D N0 ad1 ct1 H1 → va_S (hA N0) s.heap H1 locs1 → lv_has ls1 9 [(0, .ref b), (1, .ref (ad1 0)), (2, .ref (ad1 80)), (3, .ref (ad1 64)), (4, .int (nI (i + 6)))] → W p l e room_1 s m #[Value.ref b] below meth c H1 locs1 (cells + 64) (slots + 400) Q (F0 m 23 ls1 [])) : W p l e room_1 s m #[Value.ref b] below meth c H locs cells slots Q (F0 m 1513 ls []) := by
  obtain ⟨hO, hG, ⟨th, hM⟩, fo, hout⟩ := hI
  obtain ⟨hn8, hn60, hn6, -⟩ := id hO
  refine lv_aload_n hx hb dL_law_1513 rfl (lv_at hl 1 rfl) ?_
  refine hv_calld (va_runV (As := []) (rest := []) ⟨hx, hb, hml, hown, hts⟩ (c_X3_mean l D N0 ad ct hG hO) (cwV 0 hts gL_law_X3_mean rfl rfl rfl (by decide +kernel) ⟨Nat.le_of_ble_eq_true rfl, Nat.le_of_ble_eq_true rfl⟩) (hv_preV (r := (RX3, TX3, 8)) hKs hV hS hG.1 rfl) rfl rfl hl.1 rfl (lv_room (Nat.le_of_ble_eq_true rfl)) dL_law_1514 ⟨(show cells + 0 ≤ 601024 by omega), (show slots + 0 ≤ 7293033 by omega)⟩) hS (fun r9 u9 H locs hq hV hS => ?_)
  obtain ⟨rfl, rfl⟩ := hq
  have hV : hv D N0 ad ct H := hV
  obtain ⟨f1, f2, f3, f4, f5, f6, f7, f8, f9, ⟨hm0, hm1, hm2, hm3, hm4, hm5, hm6, hm7, hm8, hm9⟩, hme⟩ := id hM
  obtain ⟨em1, em2, em3, em4, em5, em6, em7, em8, em9⟩ := id hme
  refine lv_dstore (lv' := [(5, .double (r_mean σ)), (0, .ref (b)), (1, .ref (ad (0))), (2, .ref (ad (80))), (3, .ref (ad (64))), (4, .int (nI (i)))]) hx hb dL_law_1517 hl (by decide) rfl (fun ls hl => ?_)
  refine lv_aload_n hx hb dL_law_1519 rfl (lv_at hl 3 rfl) ?_
  refine hv_calld (va_runV (As := []) (rest := []) ⟨hx, hb, hml, hown, hts⟩ (c_X4_mean l D N0 ad ct hM hO) (cwV 0 hts gL_law_X4_mean rfl rfl rfl (by decide +kernel) ⟨Nat.le_of_ble_eq_true rfl, Nat.le_of_ble_eq_true rfl⟩) (hv_preV (r := (RX4, TX4, 15)) hKs hV hS hm0 rfl) rfl rfl hl.1 rfl (lv_room (Nat.le_of_ble_eq_true rfl)) dL_law_1520 ⟨(show cells + 0 ≤ 601024 by omega), (show slots + 0 ≤ 7293033 by omega)⟩) hS (fun r9 u9 H locs hq hV hS => ?_)
  obtain ⟨ad, ct⟩ := u9
  dsimp only at hq
  obtain ⟨rfl, hM2, hfm⟩ := hq
  have hV : hv D N0 ad ct H := hV
  have hna := fun (q : Nat) (q1 : q ≠ 1) => (hfm q q1).1
  dsimp only at hna
  have hl : lv_has ls 9 [(5, .double (r_mean σ)), (0, .ref (b)), (1, .ref (ad (0))), (2, .ref (ad (80))), (3, .ref (ad (64))), (4, .int (nI (i)))] := by rw [hna (0) (by omega), hna (80) (by omega), hna (64) (by omega)]; exact hl
  have hG1 : gX D σ ad ct := hG.hFm (u := (ad, ct)) hfm
  have hout := ((hfm 64 (by omega)).2 (by omega)).trans hout
  refine lv_dstore (lv' := [(7, .double (r_mean σ)), (5, .double (r_mean σ)), (0, .ref (b)), (1, .ref (ad (0))), (2, .ref (ad (80))), (3, .ref (ad (64))), (4, .int (nI (i)))]) hx hb dL_law_1523 hl (by decide) rfl (fun ls hl => ?_)
  refine lv_dload hx hb dL_law_1525 (lv_at hl 1 rfl) ?_
  refine lv_dload hx hb dL_law_1527 (lv_at hl 0 rfl) ?_
  refine lv_dcmp hx hb dL_law_1529 ?_
  refine hv_eqi (y := nI 0) (by rw [mean_c hO]; rfl) ?_
  refine hN_if_eq (tgt := 1551) hx hb (by omega) dL_law_1530 (by decide) (fun c1530 => ?_) (fun c1530 => by exact absurd c1530 (by omega))
  refine lv_goto (tgt := 1568) hx hb dL_law_1551 (by decide) ?_
  refine lv_iinc (v := nI (i + 6)) (lv' := [(4, .int (nI (i + 6))), (7, .double (r_mean σ)), (5, .double (r_mean σ)), (0, .ref (b)), (1, .ref (ad (0))), (2, .ref (ad (80))), (3, .ref (ad (64)))]) hx hb dL_law_1568 hl (k := 6) rfl (nI_add (i) 6) (by decide) rfl (fun ls hl => ?_)
  refine lv_goto (tgt := 23) hx hb dL_law_1571 (by decide) ?_
  refine W.widen (k := cells + 64) (n := slots + 400) (by omega) (by omega) ?_
  exact K _ _ _ _ _ ls ⟨hO, hG1, ⟨_, hM2⟩, _, hout⟩ hV hS (lv_sub hl [3, 4, 5, 6, 0] rfl)

set_option maxHeartbeats 4000000 in
set_option maxRecDepth 100000 in
theorem L_digest {p : Program} {l : Launch} {e : Env} {s : State} {m : MethodId} {below : List Frame} {meth : Method} {c : Code} {b L N0 : Nat} {xs : Nat → Int32} {Q : State → Prop} (hfl : l.stackTraces = false) (hts : ∀ w ∈ wsL_law, w.before #[Value.ref b] s = true) (hx : p.tables.exec = Jvm.exec) (hb : c.code = code) (hml : c.maxLocals = 9) (hown : s.vm.findClass RL = some m.cls) (hX : va_X b L xs s s.heap) (hbl : b < s.heap.size) (hbA : ¬ hA N0 b) (hL : L ≤ 3072) {D : hG} (hKs : hK D N0 s)
    {σ : gS} {ad : Nat → Nat} {ct : hC} (hI : gL D σ ad ct) {H : Heap} {locs : List Loc} {cells slots i : Nat} (hV : hv D N0 ad ct H) (hS : va_S (hA N0) s.heap H locs) {ls : Array Slot} (hi : i + 6 ≤ L) (hl : lv_has ls 9 [(0, .ref b), (1, .ref (ad 0)), (2, .ref (ad 80)), (3, .ref (ad 64)), (4, .int (nI i))]) (hr1 : cells + 64 ≤ 601024) (hr2 : slots + 400 ≤ 7293033)
    (K : ∀ (σ1 : gS) (ad1 : Nat → Nat) (ct1 : hC) (H1 : Heap) (locs1 : List Loc) (ls1 : Array Slot), gL D σ1 ad1 ct1 → hv D N0 ad1 ct1 H1 → va_S (hA N0) s.heap H1 locs1 → lv_has ls1 9 [(0, .ref b), (1, .ref (ad1 0)), (2, .ref (ad1 80)), (3, .ref (ad1 64)), (4, .int (nI (i + 6)))] → W p l e room_1 s m #[Value.ref b] below meth c H1 locs1 (cells + 64) (slots + 400) Q (F0 m 23 ls1 [])) : W p l e room_1 s m #[Value.ref b] below meth c H locs cells slots Q (F0 m 1554 ls []) := by
  obtain ⟨hO, hG, ⟨th, hM⟩, fo, hout⟩ := hI
  obtain ⟨hn8, hn60, hn6, -⟩ := id hO
  refine lv_aload_n hx hb dL_law_1554 rfl (lv_at hl 1 rfl) ?_
  refine hv_calll (va_runV (As := []) (rest := []) ⟨hx, hb, hml, hown, hts⟩ (c_X3_digest l D N0 ad ct hG hO) (cwV 0 hts gL_law_X3_digest rfl rfl rfl (by decide +kernel) ⟨Nat.le_of_ble_eq_true rfl, Nat.le_of_ble_eq_true rfl⟩) (hv_preV (r := (RX3, TX3, 8)) hKs hV hS hG.1 rfl) rfl rfl hl.1 rfl (lv_room (Nat.le_of_ble_eq_true rfl)) dL_law_1555 ⟨(show cells + 0 ≤ 601024 by omega), (show slots + 0 ≤ 7293033 by omega)⟩) hS (fun r9 u9 H locs hq hV hS => ?_)
  obtain ⟨rfl, rfl⟩ := hq
  have hV : hv D N0 ad ct H := hV
  obtain ⟨f1, f2, f3, f4, f5, f6, f7, f8, f9, ⟨hm0, hm1, hm2, hm3, hm4, hm5, hm6, hm7, hm8, hm9⟩, hme⟩ := id hM
  obtain ⟨em1, em2, em3, em4, em5, em6, em7, em8, em9⟩ := id hme
  refine lv_aload_n hx hb dL_law_1558 rfl (lv_at hl 2 rfl) ?_
  refine hv_calll (va_runV (As := []) (rest := [.long (dgt σ)]) ⟨hx, hb, hml, hown, hts⟩ (c_X4_digest l D N0 ad ct hM hO) (cwV 0 hts gL_law_X4_digest rfl rfl rfl (by decide +kernel) ⟨Nat.le_of_ble_eq_true rfl, Nat.le_of_ble_eq_true rfl⟩) (hv_preV (r := (RX4, TX4, 15)) hKs hV hS hm0 rfl) rfl rfl hl.1 rfl (lv_room (Nat.le_of_ble_eq_true rfl)) dL_law_1559 ⟨(show cells + 48 ≤ 601024 by omega), (show slots + 264 ≤ 7293033 by omega)⟩) hS (fun r9 u9 H locs hq hV hS => ?_)
  obtain ⟨ad, ct⟩ := u9
  dsimp only at hq
  obtain ⟨rfl, hM2, hfm⟩ := hq
  have hV : hv D N0 ad ct H := hV
  have hna := fun (q : Nat) (q1 : q ≠ 1) => (hfm q q1).1
  dsimp only at hna
  have hl : lv_has ls 9 [(0, .ref (b)), (1, .ref (ad (0))), (2, .ref (ad (80))), (3, .ref (ad (64))), (4, .int (nI (i)))] := by rw [hna (0) (by omega), hna (80) (by omega), hna (64) (by omega)]; exact hl
  have hG1 : gX D σ ad ct := hG.hFm (u := (ad, ct)) hfm
  have hout := ((hfm 64 (by omega)).2 (by omega)).trans hout
  refine W.lcmp hx hb dL_law_1562 ?_
  refine hv_eqi (y := nI 0) (lcmp_self _) ?_
  refine hN_if_eq (tgt := 1568) hx hb (by omega) dL_law_1563 (by decide) (fun c1563 => ?_) (fun c1563 => by exact absurd c1563 (by omega))
  refine lv_iinc (v := nI (i + 6)) (lv' := [(4, .int (nI (i + 6))), (0, .ref (b)), (1, .ref (ad (0))), (2, .ref (ad (80))), (3, .ref (ad (64)))]) hx hb dL_law_1568 hl (k := 4) rfl (nI_add (i) 6) (by decide) rfl (fun ls hl => ?_)
  refine lv_goto (tgt := 23) hx hb dL_law_1571 (by decide) ?_
  refine W.widen (k := cells + 64) (n := slots + 400) (by omega) (by omega) ?_
  exact K _ _ _ _ _ ls ⟨hO, hG1, ⟨_, hM2⟩, _, hout⟩ hV hS (lv_sub hl [1, 2, 3, 4, 0] rfl)
