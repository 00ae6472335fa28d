set_option maxHeartbeats 4000000 in
set_option maxRecDepth 100000 in
theorem L_begin {p : Program} {l : Launch} {e : Env} {s : State} {m : MethodId} {below : List Frame} {meth : Method} {c : Code} {b L N0 : Nat} {xs : Nat → Int32} {Q : State → Prop} (hfl : l.stackTraces = false) (hts : ∀ w ∈ wsL_law, w.before #[Value.ref b] s = true) (hx : p.tables.exec = Jvm.exec) (hb : c.code = code) (hml : c.maxLocals = 9) (hown : s.vm.findClass RL = some m.cls) (hX : va_X b L xs s s.heap) (hbl : b < s.heap.size) (hbA : ¬ hA N0 b) (hL : L ≤ 3072) {D : hG} (hKs : hK D N0 s)
    {σ : gS} {ad : Nat → Nat} {ct : hC} (hI : gL D σ ad ct) {H : Heap} {locs : List Loc} {cells slots i : Nat} (hV : hv D N0 ad ct H) (hS : va_S (hA N0) s.heap H locs) {ls : Array Slot} (hi : i + 6 ≤ L) (hl : lv_has ls 9 [(0, .ref b), (1, .ref (ad 0)), (2, .ref (ad 80)), (3, .ref (ad 64)), (4, .int (nI i))]) (hr1 : cells + 64 ≤ 601024) (hr2 : slots + 400 ≤ 7293033)
    (K : ∀ (σ1 : gS) (ad1 : Nat → Nat) (ct1 : hC) (H1 : Heap) (locs1 : List Loc) (ls1 : Array Slot), gL D σ1 ad1 ct1 → hv D N0 ad1 ct1 H1 → va_S (hA N0) s.heap H1 locs1 → lv_has ls1 9 [(0, .ref b), (1, .ref (ad1 0)), (2, .ref (ad1 80)), (3, .ref (ad1 64)), (4, .int (nI (i + 6)))] → W p l e room_1 s m #[Value.ref b] below meth c H1 locs1 (cells + 64) (slots + 400) Q (F0 m 23 ls1 [])) : W p l e room_1 s m #[Value.ref b] below meth c H locs cells slots Q (F0 m 144 ls []) := by
  obtain ⟨hO, hG, ⟨th, hM⟩, fo, hout⟩ := hI
  obtain ⟨hn8, hn60, hn6, -⟩ := id hO
  refine lv_aload_n hx hb dL_law_144 rfl (lv_at hl 1 rfl) ?_
  refine lv_aload_n hx hb dL_law_145 rfl (lv_at hl 3 rfl) ?_
  refine hv_calli (vx_runSW (hh := [(0, 8, 11, 13)]) (As := [.ref (ad (0)), .ref (ad (64))]) (rest := []) ⟨hx, hb, hml, hown, hts⟩ (c_L_begin l D N0 ad ct hfl hG hO  hout) (vx_cwSW (hh := [(0, 8, 11, 13)]) 2 hts gL_law_L_begin rfl rfl rfl (by decide +kernel) ⟨Nat.le_of_ble_eq_true rfl, Nat.le_of_ble_eq_true rfl⟩) (hv_preS hKs hV hS) rfl rfl hl.1 rfl (lv_room (Nat.le_of_ble_eq_true rfl)) dL_law_146 ⟨(show cells + 3 ≤ 601024 by omega), (show slots + 30 ≤ 7293033 by omega)⟩) hS (fun r9 u9 H locs hq hV hS => ?_)
  obtain ⟨ad, ct⟩ := u9
  obtain ⟨hz9, hw0, hw1, hwf⟩ := hq
  dsimp only at hw0 hw1 hwf
  have hV : hv D N0 ad ct H := hV
  have hna := fun (q : Nat) (q1 : q % 16 = 0) => (hwf q q1).1
  have hl : lv_has ls 9 [(0, .ref (b)), (1, .ref (ad (0))), (2, .ref (ad (80))), (3, .ref (ad (64))), (4, .int (nI (i)))] := by rw [hna (0) (by omega), hna (80) (by omega), hna (64) (by omega)]; exact hl
  obtain ⟨kv, hkv⟩ : ∃ z, z = k_begin σ := ⟨_, rfl⟩
  rw [← hkv] at hz9 hw0 hw1
  have hkb : kv ≤ 3 := by rw [hkv]; unfold k_begin; (repeat' split) <;> omega
  refine hv_eqi (y := nI kv) hz9 ?_
  obtain ⟨σ1, hσ1⟩ : ∃ z, z = (if kv = 0 then s_begin σ else σ) := ⟨_, rfl⟩
  have hG1 : gX D σ1 ad ct := by
    rw [hσ1]
    by_cases hk0 : kv = 0
    · rw [if_pos hk0]; exact (hw0 hk0).1
    · rw [if_neg hk0]; exact (hw1 hk0).1
  have hO1 : okS σ1 := by
    rw [hσ1]
    by_cases hk0 : kv = 0
    · rw [if_pos hk0]; exact okk_begin hO (by rw [← hkv]; exact hk0)
    · rw [if_neg hk0]; exact hO
  obtain ⟨fo, hout, hfo⟩ : ∃ fo : Nat → Int64, ct 64 = some (eL D 1 fo) ∧ (kv = 0 → fo 0 = (nI (gNC σ)).toInt64) := by
    by_cases hk0 : kv = 0
    · obtain ⟨f, h8, h9⟩ := (hw0 hk0).2
      exact ⟨f, h8, fun _ => h9⟩
    · obtain ⟨f, h8⟩ := (hw1 hk0).2
      exact ⟨f, h8, fun h => absurd h hk0⟩
  have hM1 : gM D σ th ad ct := hM.wP (u := (ad, ct)) hwf
  obtain ⟨f1, f2, f3, f4, f5, f6, f7, f8, f9, ⟨hm0, hm1, hm2, hm3, hm4, hm5, hm6, hm7, hm8, hm9⟩, hme⟩ := id hM1
  obtain ⟨em1, em2, em3, em4, em5, em6, em7, em8, em9⟩ := id hme
  refine lv_istore (lv' := [(5, .int (nI (kv))), (0, .ref (b)), (1, .ref (ad (0))), (2, .ref (ad (80))), (3, .ref (ad (64))), (4, .int (nI (i)))]) hx hb dL_law_149 hl (by decide) rfl (fun ls hl => ?_)
  refine lv_aload_n hx hb dL_law_151 rfl (lv_at hl 3 rfl) ?_
  refine hv_calli (va_runV (As := []) (rest := []) ⟨hx, hb, hml, hown, hts⟩ (c_X4_begin l D N0 ad ct hM1 hO ) (cwV 0 hts gL_law_X4_begin rfl rfl rfl (by decide +kernel) ⟨Nat.le_of_ble_eq_true rfl, Nat.le_of_ble_eq_true rfl⟩) (hv_preV (r := (RX4, TX4, 15)) hKs hV hS hm0 rfl) rfl rfl hl.1 rfl (lv_room (Nat.le_of_ble_eq_true rfl)) dL_law_152 ⟨(show cells + 3 + 0 ≤ 601024 by omega), (show slots + 30 + 0 ≤ 7293033 by omega)⟩) hS (fun r9 u9 H locs hq hV hS => ?_)
  obtain ⟨ad, ct⟩ := u9
  dsimp only at hq
  obtain ⟨hz8, hz7, hfm⟩ := hq
  have hV : hv D N0 ad ct H := hV
  rw [← hkv] at hz8 hz7
  have hna := fun (q : Nat) (q1 : q ≠ 1) => (hfm q q1).1
  dsimp only at hna
  have hl : lv_has ls 9 [(5, .int (nI (kv))), (0, .ref (b)), (1, .ref (ad (0))), (2, .ref (ad (80))), (3, .ref (ad (64))), (4, .int (nI (i)))] := by rw [hna (0) (by omega), hna (80) (by omega), hna (64) (by omega)]; exact hl
  have hM2 : gM D σ1 kv ad ct := by
    rw [hσ1]
    by_cases hk0 : kv = 0
    · rw [if_pos hk0]; have h9 := (hz8 hk0).2; rw [hk0]; exact h9
    · rw [if_neg hk0]; exact hz7 hk0
  have hzz : kv = 0 → r9 = nI (gNC σ) := fun h => (hz8 h).1
  have hG1 : gX D σ1 ad ct := hG1.hFm (u := (ad, ct)) hfm
  have hout := ((hfm 64 (by omega)).2 (by omega)).trans hout
  obtain ⟨f1, f2, f3, f4, f5, f6, f7, f8, f9, ⟨hm0, hmr⟩, hme⟩ := id hM2
  refine lv_istore (lv' := [(6, .int (r9)), (5, .int (nI (kv))), (0, .ref (b)), (1, .ref (ad (0))), (2, .ref (ad (80))), (3, .ref (ad (64))), (4, .int (nI (i)))]) hx hb dL_law_155 hl (by decide) rfl (fun ls hl => ?_)
  refine lv_aload_n hx hb dL_law_157 rfl (lv_at hl 4 rfl) ?_
  refine hv_calli (va_runV (As := []) (rest := []) ⟨hx, hb, hml, hown, hts⟩ (c_X4_thrown l D N0 ad ct hM2 hO1) (cwV 0 hts gL_law_X4_thrown rfl rfl rfl (by decide +kernel) ⟨Nat.le_of_ble_eq_true rfl, Nat.le_of_ble_eq_true rfl⟩) (hv_preV (r := (RX4, TX4, 15)) hKs hV hS hm0 rfl) rfl rfl hl.1 rfl (lv_room (Nat.le_of_ble_eq_true rfl)) dL_law_158 ⟨(show cells + 3 + 0 ≤ 601024 by omega), (show slots + 30 + 0 ≤ 7293033 by omega)⟩) hS (fun r9 u9 H locs hq hV hS => ?_)
  obtain ⟨rfl, rfl⟩ := hq
  have hV : hv D N0 ad ct H := hV
  refine lv_iload hx hb dL_law_161 (lv_at hl 1 rfl) ?_
  refine hN_icmp_eq (tgt := 168) hx hb (by omega) (by omega) dL_law_163 (by decide) (fun c163 => ?_) (fun c163 => by exact absurd rfl c163)
  refine lv_iload hx hb dL_law_168 (lv_at hl 1 rfl) ?_
  refine hN_if_ne (tgt := 185) hx hb (by omega) dL_law_170 (by decide) (fun c170 => ?_) (fun c170 => ?_)
  · refine lv_goto (tgt := 1568) hx hb dL_law_185 (by decide) ?_
    refine lv_iinc (v := nI (i + 6)) (lv' := [(4, .int (nI (i + 6))), (6, .int (r9)), (5, .int (nI (kv))), (0, .ref (b)), (1, .ref (ad (0))), (2, .ref (ad (80))), (3, .ref (ad (64)))]) hx hb dL_law_1568 hl (k := 6) rfl (nI_add (i) 6) (by decide) rfl (fun ls hl => ?_)
    refine lv_goto (tgt := 23) hx hb dL_law_1571 (by decide) ?_
    refine W.widen (k := cells + 64) (n := slots + 400) (by omega) (by omega) ?_
    exact K _ _ _ _ _ ls ⟨hO1, hG1, ⟨_, hM2⟩, _, hout⟩ hV hS (lv_sub hl [3, 4, 5, 6, 0] rfl)
  · refine lv_aload_n hx hb dL_law_173 rfl (lv_at hl 5 rfl) ?_
    refine lv_iconst (v := nI 0) hx hb dL_law_174 (by decide) ?_
    refine hv_lald hx hb hKs hV hout (by omega) (by decide) dL_law_175 ?_
    refine lv_iload hx hb dL_law_176 (lv_at hl 0 rfl) ?_
    refine lv_i2l hx hb dL_law_178 rfl ?_
    refine W.lcmp hx hb dL_law_179 ?_
    refine hv_eqi (y := nI 0) (by rw [hfo c170, hzz c170]; exact lcmp_self _) ?_
    refine hN_if_eq (tgt := 185) hx hb (by omega) dL_law_180 (by decide) (fun c180 => ?_) (fun c180 => by exact absurd c180 (by omega))
    refine lv_goto (tgt := 1568) hx hb dL_law_185 (by decide) ?_
    refine lv_iinc (v := nI (i + 6)) (lv' := [(4, .int (nI (i + 6))), (6, .int (r9)), (5, .int (nI (kv))), (0, .ref (b)), (1, .ref (ad (0))), (2, .ref (ad (80))), (3, .ref (ad (64)))]) hx hb dL_law_1568 hl (k := 6) rfl (nI_add (i) 6) (by decide) rfl (fun ls hl => ?_)
    refine lv_goto (tgt := 23) hx hb dL_law_1571 (by decide) ?_
    refine W.widen (k := cells + 64) (n := slots + 400) (by omega) (by omega) ?_
    exact K _ _ _ _ _ ls ⟨hO1, hG1, ⟨_, hM2⟩, _, hout⟩ hV hS (lv_sub hl [3, 4, 5, 6, 0] rfl)
