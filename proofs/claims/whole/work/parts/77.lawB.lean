set_option maxHeartbeats 4000000 in
set_option maxRecDepth 100000 in
theorem L_lay {p : Program} {l : Launch} {e : Env} {s : State} {m : MethodId} {below : List Frame} {meth : Method} {c : Code} {b L N0 : Nat} {xs : Nat → Int32} {Q : State → Prop} (hfl : l.stackTraces = false) (hts : ∀ w ∈ wsL_law, w.before #[Value.ref b] s = true) (hx : p.tables.exec = Jvm.exec) (hb : c.code = code) (hml : c.maxLocals = 9) (hown : s.vm.findClass RL = some m.cls) (hX : va_X b L xs s s.heap) (hbl : b < s.heap.size) (hbA : ¬ hA N0 b) (hL : L ≤ 3072) {D : hG} (hKs : hK D N0 s)
    {σ : gS} {ad : Nat → Nat} {ct : hC} (hI : gL D σ ad ct) {H : Heap} {locs : List Loc} {cells slots i : Nat} (hV : hv D N0 ad ct H) (hS : va_S (hA N0) s.heap H locs) {ls : Array Slot} (hi : i + 6 ≤ L) (hl : lv_has ls 9 [(0, .ref b), (1, .ref (ad 0)), (2, .ref (ad 80)), (3, .ref (ad 64)), (4, .int (nI i))]) (hr1 : cells + 64 ≤ 601024) (hr2 : slots + 400 ≤ 7293033)
    (K : ∀ (σ1 : gS) (ad1 : Nat → Nat) (ct1 : hC) (H1 : Heap) (locs1 : List Loc) (ls1 : Array Slot), gL D σ1 ad1 ct1 → hv D N0 ad1 ct1 H1 → va_S (hA N0) s.heap H1 locs1 → lv_has ls1 9 [(0, .ref b), (1, .ref (ad1 0)), (2, .ref (ad1 80)), (3, .ref (ad1 64)), (4, .int (nI (i + 6)))] → W p l e room_1 s m #[Value.ref b] below meth c H1 locs1 (cells + 64) (slots + 400) Q (F0 m 23 ls1 [])) : W p l e room_1 s m #[Value.ref b] below meth c H locs cells slots Q (F0 m 188 ls []) := by
  obtain ⟨hO, hG, ⟨th, hM⟩, fo, hout⟩ := hI
  obtain ⟨hn8, hn60, hn6, -⟩ := id hO
  refine lv_aload_n hx hb dL_law_188 rfl (lv_at hl 1 rfl) ?_
  refine lv_aload_n hx hb dL_law_189 rfl (lv_at hl 0 rfl) ?_
  refine lv_iload hx hb dL_law_190 (lv_at hl 4 rfl) ?_
  refine lv_iconst (v := nI 1) hx hb dL_law_192 (by decide) ?_
  refine hN_iadd hx hb dL_law_193 ?_
  refine va_sld hx hb hX hbl hbA hS (nI_in (by omega) (by omega)) dL_law_194 ?_
  refine hv_eqi (y := xs (i + 1)) (by rw [nI_clamp (by omega)]) ?_
  refine lv_aload_n hx hb dL_law_195 rfl (lv_at hl 0 rfl) ?_
  refine lv_iload hx hb dL_law_196 (lv_at hl 4 rfl) ?_
  refine lv_iconst (v := nI 2) hx hb dL_law_198 (by decide) ?_
  refine hN_iadd hx hb dL_law_199 ?_
  refine va_sld hx hb hX hbl hbA hS (nI_in (by omega) (by omega)) dL_law_200 ?_
  refine hv_eqi (y := xs (i + 2)) (by rw [nI_clamp (by omega)]) ?_
  refine lv_aload_n hx hb dL_law_201 rfl (lv_at hl 0 rfl) ?_
  refine lv_iload hx hb dL_law_202 (lv_at hl 4 rfl) ?_
  refine lv_iconst (v := nI 3) hx hb dL_law_204 (by decide) ?_
  refine hN_iadd hx hb dL_law_205 ?_
  refine va_sld hx hb hX hbl hbA hS (nI_in (by omega) (by omega)) dL_law_206 ?_
  refine hv_eqi (y := xs (i + 3)) (by rw [nI_clamp (by omega)]) ?_
  refine lv_aload_n hx hb dL_law_207 rfl (lv_at hl 0 rfl) ?_
  refine lv_iload hx hb dL_law_208 (lv_at hl 4 rfl) ?_
  refine lv_iconst (v := nI 4) hx hb dL_law_210 (by decide) ?_
  refine hN_iadd hx hb dL_law_211 ?_
  refine va_sld hx hb hX hbl hbA hS (nI_in (by omega) (by omega)) dL_law_212 ?_
  refine hv_eqi (y := xs (i + 4)) (by rw [nI_clamp (by omega)]) ?_
  refine lv_aload_n hx hb dL_law_213 rfl (lv_at hl 0 rfl) ?_
  refine lv_iload hx hb dL_law_214 (lv_at hl 4 rfl) ?_
  refine lv_iconst (v := nI 5) hx hb dL_law_216 (by decide) ?_
  refine hN_iadd hx hb dL_law_217 ?_
  refine va_sld hx hb hX hbl hbA hS (nI_in (by omega) (by omega)) dL_law_218 ?_
  refine hv_eqi (y := xs (i + 5)) (by rw [nI_clamp (by omega)]) ?_
  refine lv_aload_n hx hb dL_law_219 rfl (lv_at hl 3 rfl) ?_
  refine hv_calli (vx_runSW (hh := [(0, 23, 26, 19), (0, 23, 30, 21), (0, 23, 34, 13)]) (As := [.ref (ad (0)), .int (xs (i + 1)), .int (xs (i + 2)), .int (xs (i + 3)), .int (xs (i + 4)), .int (xs (i + 5)), .ref (ad (64))]) (rest := []) ⟨hx, hb, hml, hown, hts⟩ (c_L_lay l D N0 ad ct hfl hG hO ((xs (i + 1))) ((xs (i + 2))) ((xs (i + 3))) ((xs (i + 4))) ((xs (i + 5))) hout) (vx_cwSW (hh := [(0, 23, 26, 19), (0, 23, 30, 21), (0, 23, 34, 13)]) 7 hts gL_law_L_lay rfl rfl rfl (by decide +kernel) ⟨Nat.le_of_ble_eq_true rfl, Nat.le_of_ble_eq_true rfl⟩) (hv_preS hKs hV hS) rfl rfl hl.1 rfl (lv_room (Nat.le_of_ble_eq_true rfl)) dL_law_220 ⟨(show cells + 1 ≤ 601024 by omega), (show slots + 6 ≤ 7293033 by omega)⟩) hS (fun r9 u9 H locs hq hV hS => ?_)
  obtain ⟨ad, ct⟩ := u9
  obtain ⟨hz9, hw0, hw1, hwf⟩ := hq
  dsimp only at hw0 hw1 hwf
  have hV : hv D N0 ad ct H := hV
  have hna := fun (q : Nat) (q1 : q % 16 = 0) => (hwf q q1).1
  have hl : lv_has ls 9 [(0, .ref (b)), (1, .ref (ad (0))), (2, .ref (ad (80))), (3, .ref (ad (64))), (4, .int (nI (i)))] := by rw [hna (0) (by omega), hna (80) (by omega), hna (64) (by omega)]; exact hl
  obtain ⟨kv, hkv⟩ : ∃ z, z = k_lay σ (xs (i + 1)) (xs (i + 2)) (xs (i + 3)) (xs (i + 4)) (xs (i + 5)) := ⟨_, rfl⟩
  rw [← hkv] at hz9 hw0 hw1
  have hkb : kv ≤ 3 := by rw [hkv]; unfold k_lay; (repeat' split) <;> omega
  refine hv_eqi (y := nI kv) hz9 ?_
  obtain ⟨σ1, hσ1⟩ : ∃ z, z = (if kv = 0 then sWk σ (xs (i + 1)).toInt.toNat 2 (q_lay σ (xs (i + 1)).toInt.toNat (xs (i + 2)).toInt.toNat (xs (i + 3)).toInt.toNat (xs (i + 4)).toInt.toNat (xs (i + 5)).toInt.toNat) else σ) := ⟨_, rfl⟩
  have hG1 : gX D σ1 ad ct := by
    rw [hσ1]
    by_cases hk0 : kv = 0
    · rw [if_pos hk0]; exact (hw0 hk0).1
    · rw [if_neg hk0]; exact (hw1 hk0).1
  have hO1 : okS σ1 := by
    rw [hσ1]
    by_cases hk0 : kv = 0
    · rw [if_pos hk0]; exact okk_lay hO (by rw [← hkv]; exact hk0)
    · rw [if_neg hk0]; exact hO
  obtain ⟨fo, hout, hfo⟩ : ∃ fo : Nat → Int64, ct 64 = some (eL D 1 fo) ∧ (kv = 0 → fo 0 = (hbv (decide (2 ≤ cHt σ (xs (i + 1)).toInt.toNat))).toInt64) := by
    by_cases hk0 : kv = 0
    · obtain ⟨f, h8, h9⟩ := (hw0 hk0).2
      exact ⟨f, h8, fun _ => h9⟩
    · obtain ⟨f, h8⟩ := (hw1 hk0).2
      exact ⟨f, h8, fun h => absurd h hk0⟩
  have hM1 : gM D σ th ad ct := hM.wP (u := (ad, ct)) hwf
  obtain ⟨f1, f2, f3, f4, f5, f6, f7, f8, f9, ⟨hm0, hm1, hm2, hm3, hm4, hm5, hm6, hm7, hm8, hm9⟩, hme⟩ := id hM1
  obtain ⟨em1, em2, em3, em4, em5, em6, em7, em8, em9⟩ := id hme
  refine lv_istore (lv' := [(5, .int (nI (kv))), (0, .ref (b)), (1, .ref (ad (0))), (2, .ref (ad (80))), (3, .ref (ad (64))), (4, .int (nI (i)))]) hx hb dL_law_223 hl (by decide) rfl (fun ls hl => ?_)
  refine lv_aload_n hx hb dL_law_225 rfl (lv_at hl 3 rfl) ?_
  refine lv_aload_n hx hb dL_law_226 rfl (lv_at hl 1 rfl) ?_
  refine lv_iload hx hb dL_law_227 (lv_at hl 5 rfl) ?_
  refine lv_iconst (v := nI 1) hx hb dL_law_229 (by decide) ?_
  refine hN_iadd hx hb dL_law_230 ?_
  refine va_sld hx hb hX hbl hbA hS (nI_in (by omega) (by omega)) dL_law_231 ?_
  refine hv_eqi (y := xs (i + 1)) (by rw [nI_clamp (by omega)]) ?_
  refine lv_aload_n hx hb dL_law_232 rfl (lv_at hl 1 rfl) ?_
  refine lv_iload hx hb dL_law_233 (lv_at hl 5 rfl) ?_
  refine lv_iconst (v := nI 2) hx hb dL_law_235 (by decide) ?_
  refine hN_iadd hx hb dL_law_236 ?_
  refine va_sld hx hb hX hbl hbA hS (nI_in (by omega) (by omega)) dL_law_237 ?_
  refine hv_eqi (y := xs (i + 2)) (by rw [nI_clamp (by omega)]) ?_
  refine lv_aload_n hx hb dL_law_238 rfl (lv_at hl 1 rfl) ?_
  refine lv_iload hx hb dL_law_239 (lv_at hl 5 rfl) ?_
  refine lv_iconst (v := nI 3) hx hb dL_law_241 (by decide) ?_
  refine hN_iadd hx hb dL_law_242 ?_
  refine va_sld hx hb hX hbl hbA hS (nI_in (by omega) (by omega)) dL_law_243 ?_
  refine hv_eqi (y := xs (i + 3)) (by rw [nI_clamp (by omega)]) ?_
  refine lv_aload_n hx hb dL_law_244 rfl (lv_at hl 1 rfl) ?_
  refine lv_iload hx hb dL_law_245 (lv_at hl 5 rfl) ?_
  refine lv_iconst (v := nI 4) hx hb dL_law_247 (by decide) ?_
  refine hN_iadd hx hb dL_law_248 ?_
  refine va_sld hx hb hX hbl hbA hS (nI_in (by omega) (by omega)) dL_law_249 ?_
  refine hv_eqi (y := xs (i + 4)) (by rw [nI_clamp (by omega)]) ?_
  refine lv_aload_n hx hb dL_law_250 rfl (lv_at hl 1 rfl) ?_
  refine lv_iload hx hb dL_law_251 (lv_at hl 5 rfl) ?_
  refine lv_iconst (v := nI 5) hx hb dL_law_253 (by decide) ?_
  refine hN_iadd hx hb dL_law_254 ?_
  refine va_sld hx hb hX hbl hbA hS (nI_in (by omega) (by omega)) dL_law_255 ?_
  refine hv_eqi (y := xs (i + 5)) (by rw [nI_clamp (by omega)]) ?_
  refine hv_calli (va_runV (As := [.int (xs (i + 1)), .int (xs (i + 2)), .int (xs (i + 3)), .int (xs (i + 4)), .int (xs (i + 5))]) (rest := []) ⟨hx, hb, hml, hown, hts⟩ (c_X4_lay l D N0 ad ct hM1 hO ((xs (i + 1))) ((xs (i + 2))) ((xs (i + 3))) ((xs (i + 4))) ((xs (i + 5)))) (cwV 5 hts gL_law_X4_lay rfl rfl rfl (by decide +kernel) ⟨Nat.le_of_ble_eq_true rfl, Nat.le_of_ble_eq_true rfl⟩) (hv_preV (r := (RX4, TX4, 15)) hKs hV hS hm0 rfl) rfl rfl hl.1 rfl (lv_room (Nat.le_of_ble_eq_true rfl)) dL_law_256 ⟨(show cells + 1 + 0 ≤ 601024 by omega), (show slots + 6 + 0 ≤ 7293033 by omega)⟩) hS (fun r9 u9 H locs hq hV hS => ?_)
  obtain ⟨ad, ct⟩ := u9
  dsimp only at hq
  obtain ⟨hz8, hz7, hfm⟩ := hq
  have hV : hv D N0 ad ct H := hV
  rw [← hkv] at hz8 hz7
  have hna := fun (q : Nat) (q1 : q ≠ 1) => (hfm q q1).1
  dsimp only at hna
  have hl : lv_has ls 9 [(5, .int (nI (kv))), (0, .ref (b)), (1, .ref (ad (0))), (2, .ref (ad (80))), (3, .ref (ad (64))), (4, .int (nI (i)))] := by rw [hna (0) (by omega), hna (80) (by omega), hna (64) (by omega)]; exact hl
  have hM2 : gM D σ1 kv ad ct := by
    rw [hσ1]
    by_cases hk0 : kv = 0
    · rw [if_pos hk0]; have h9 := (hz8 hk0).2; rw [hk0]; exact h9
    · rw [if_neg hk0]; exact hz7 hk0
  have hzz : kv = 0 → r9 = hbv (decide (2 ≤ cHt σ (xs (i + 1)).toInt.toNat)) := fun h => (hz8 h).1
  have hG1 : gX D σ1 ad ct := hG1.hFm (u := (ad, ct)) hfm
  have hout := ((hfm 64 (by omega)).2 (by omega)).trans hout
  obtain ⟨f1, f2, f3, f4, f5, f6, f7, f8, f9, ⟨hm0, hmr⟩, hme⟩ := id hM2
  refine lv_istore (lv' := [(6, .int (r9)), (5, .int (nI (kv))), (0, .ref (b)), (1, .ref (ad (0))), (2, .ref (ad (80))), (3, .ref (ad (64))), (4, .int (nI (i)))]) hx hb dL_law_259 hl (by decide) rfl (fun ls hl => ?_)
  refine lv_aload_n hx hb dL_law_261 rfl (lv_at hl 4 rfl) ?_
  refine hv_calli (va_runV (As := []) (rest := []) ⟨hx, hb, hml, hown, hts⟩ (c_X4_thrown l D N0 ad ct hM2 hO1) (cwV 0 hts gL_law_X4_thrown rfl rfl rfl (by decide +kernel) ⟨Nat.le_of_ble_eq_true rfl, Nat.le_of_ble_eq_true rfl⟩) (hv_preV (r := (RX4, TX4, 15)) hKs hV hS hm0 rfl) rfl rfl hl.1 rfl (lv_room (Nat.le_of_ble_eq_true rfl)) dL_law_262 ⟨(show cells + 1 + 0 ≤ 601024 by omega), (show slots + 6 + 0 ≤ 7293033 by omega)⟩) hS (fun r9 u9 H locs hq hV hS => ?_)
  obtain ⟨rfl, rfl⟩ := hq
  have hV : hv D N0 ad ct H := hV
  refine lv_iload hx hb dL_law_265 (lv_at hl 1 rfl) ?_
  refine hN_icmp_eq (tgt := 272) hx hb (by omega) (by omega) dL_law_267 (by decide) (fun c267 => ?_) (fun c267 => by exact absurd rfl c267)
  refine lv_iload hx hb dL_law_272 (lv_at hl 1 rfl) ?_
  refine hN_if_ne (tgt := 296) hx hb (by omega) dL_law_274 (by decide) (fun c274 => ?_) (fun c274 => ?_)
  · refine lv_goto (tgt := 1568) hx hb dL_law_296 (by decide) ?_
    refine lv_iinc (v := nI (i + 6)) (lv' := [(4, .int (nI (i + 6))), (6, .int (r9)), (5, .int (nI (kv))), (0, .ref (b)), (1, .ref (ad (0))), (2, .ref (ad (80))), (3, .ref (ad (64)))]) hx hb dL_law_1568 hl (k := 6) rfl (nI_add (i) 6) (by decide) rfl (fun ls hl => ?_)
    refine lv_goto (tgt := 23) hx hb dL_law_1571 (by decide) ?_
    refine W.widen (k := cells + 64) (n := slots + 400) (by omega) (by omega) ?_
    exact K _ _ _ _ _ ls ⟨hO1, hG1, ⟨_, hM2⟩, _, hout⟩ hV hS (lv_sub hl [3, 4, 5, 6, 0] rfl)
  · refine lv_aload_n hx hb dL_law_277 rfl (lv_at hl 5 rfl) ?_
    refine lv_iconst (v := nI 0) hx hb dL_law_278 (by decide) ?_
    refine hv_lald hx hb hKs hV hout (by omega) (by decide) dL_law_279 ?_
    refine lv_iload hx hb dL_law_280 (lv_at hl 0 rfl) ?_
    refine hI_if_eq (tgt := 289) hx hb dL_law_282 (by decide) (fun c282 => ?_) (fun c282 => ?_)
    · refine lv_lconst (v := 0) hx hb dL_law_289 (by decide) ?_
      refine W.lcmp hx hb dL_law_290 ?_
      refine hv_eqi (y := nI 0) (by rw [hfo c274, show (0 : Int64) = (hbv (decide (2 ≤ cHt σ (xs (i + 1)).toInt.toNat))).toInt64 from hbv_0 (by rw [← hzz c274]; exact c282)]; exact lcmp_self _) ?_
      refine hN_if_eq (tgt := 296) hx hb (by omega) dL_law_291 (by decide) (fun c291 => ?_) (fun c291 => by exact absurd c291 (by omega))
      refine lv_goto (tgt := 1568) hx hb dL_law_296 (by decide) ?_
      refine lv_iinc (v := nI (i + 6)) (lv' := [(4, .int (nI (i + 6))), (6, .int (r9)), (5, .int (nI (kv))), (0, .ref (b)), (1, .ref (ad (0))), (2, .ref (ad (80))), (3, .ref (ad (64)))]) hx hb dL_law_1568 hl (k := 6) rfl (nI_add (i) 6) (by decide) rfl (fun ls hl => ?_)
      refine lv_goto (tgt := 23) hx hb dL_law_1571 (by decide) ?_
      refine W.widen (k := cells + 64) (n := slots + 400) (by omega) (by omega) ?_
      exact K _ _ _ _ _ ls ⟨hO1, hG1, ⟨_, hM2⟩, _, hout⟩ hV hS (lv_sub hl [3, 4, 5, 6, 0] rfl)
    · refine lv_lconst (v := 1) hx hb dL_law_285 (by decide) ?_
      refine lv_goto (tgt := 290) hx hb dL_law_286 (by decide) ?_
      refine W.lcmp hx hb dL_law_290 ?_
      refine hv_eqi (y := nI 0) (by rw [hfo c274, show (1 : Int64) = (hbv (decide (2 ≤ cHt σ (xs (i + 1)).toInt.toNat))).toInt64 from hbv_1 (by rw [← hzz c274]; exact c282)]; exact lcmp_self _) ?_
      refine hN_if_eq (tgt := 296) hx hb (by omega) dL_law_291 (by decide) (fun c291 => ?_) (fun c291 => by exact absurd c291 (by omega))
      refine lv_goto (tgt := 1568) hx hb dL_law_296 (by decide) ?_
      refine lv_iinc (v := nI (i + 6)) (lv' := [(4, .int (nI (i + 6))), (6, .int (r9)), (5, .int (nI (kv))), (0, .ref (b)), (1, .ref (ad (0))), (2, .ref (ad (80))), (3, .ref (ad (64)))]) hx hb dL_law_1568 hl (k := 6) rfl (nI_add (i) 6) (by decide) rfl (fun ls hl => ?_)
      refine lv_goto (tgt := 23) hx hb dL_law_1571 (by decide) ?_
      refine W.widen (k := cells + 64) (n := slots + 400) (by omega) (by omega) ?_
      exact K _ _ _ _ _ ls ⟨hO1, hG1, ⟨_, hM2⟩, _, hout⟩ hV hS (lv_sub hl [3, 4, 5, 6, 0] rfl)

set_option maxHeartbeats 4000000 in
set_option maxRecDepth 100000 in
theorem L_twist {p : Program} {l : Launch} {e : Env} {s : State} {m : MethodId} {below : List Frame} {meth : Method} {c : Code} {b L N0 : Nat} {xs : Nat → Int32} {Q : State → Prop} (hfl : l.stackTraces = false) (hts : ∀ w ∈ wsL_law, w.before #[Value.ref b] s = true) (hx : p.tables.exec = Jvm.exec) (hb : c.code = code) (hml : c.maxLocals = 9) (hown : s.vm.findClass RL = some m.cls) (hX : va_X b L xs s s.heap) (hbl : b < s.heap.size) (hbA : ¬ hA N0 b) (hL : L ≤ 3072) {D : hG} (hKs : hK D N0 s)
    {σ : gS} {ad : Nat → Nat} {ct : hC} (hI : gL D σ ad ct) {H : Heap} {locs : List Loc} {cells slots i : Nat} (hV : hv D N0 ad ct H) (hS : va_S (hA N0) s.heap H locs) {ls : Array Slot} (hi : i + 6 ≤ L) (hl : lv_has ls 9 [(0, .ref b), (1, .ref (ad 0)), (2, .ref (ad 80)), (3, .ref (ad 64)), (4, .int (nI i))]) (hr1 : cells + 64 ≤ 601024) (hr2 : slots + 400 ≤ 7293033)
    (K : ∀ (σ1 : gS) (ad1 : Nat → Nat) (ct1 : hC) (H1 : Heap) (locs1 : List Loc) (ls1 : Array Slot), gL D σ1 ad1 ct1 → hv D N0 ad1 ct1 H1 → va_S (hA N0) s.heap H1 locs1 → lv_has ls1 9 [(0, .ref b), (1, .ref (ad1 0)), (2, .ref (ad1 80)), (3, .ref (ad1 64)), (4, .int (nI (i + 6)))] → W p l e room_1 s m #[Value.ref b] below meth c H1 locs1 (cells + 64) (slots + 400) Q (F0 m 23 ls1 [])) : W p l e room_1 s m #[Value.ref b] below meth c H locs cells slots Q (F0 m 299 ls []) := by
  obtain ⟨hO, hG, ⟨th, hM⟩, fo, hout⟩ := hI
  obtain ⟨hn8, hn60, hn6, -⟩ := id hO
  refine lv_aload_n hx hb dL_law_299 rfl (lv_at hl 1 rfl) ?_
  refine lv_aload_n hx hb dL_law_300 rfl (lv_at hl 0 rfl) ?_
  refine lv_iload hx hb dL_law_301 (lv_at hl 4 rfl) ?_
  refine lv_iconst (v := nI 1) hx hb dL_law_303 (by decide) ?_
  refine hN_iadd hx hb dL_law_304 ?_
  refine va_sld hx hb hX hbl hbA hS (nI_in (by omega) (by omega)) dL_law_305 ?_
  refine hv_eqi (y := xs (i + 1)) (by rw [nI_clamp (by omega)]) ?_
  refine lv_aload_n hx hb dL_law_306 rfl (lv_at hl 0 rfl) ?_
  refine lv_iload hx hb dL_law_307 (lv_at hl 4 rfl) ?_
  refine lv_iconst (v := nI 2) hx hb dL_law_309 (by decide) ?_
  refine hN_iadd hx hb dL_law_310 ?_
  refine va_sld hx hb hX hbl hbA hS (nI_in (by omega) (by omega)) dL_law_311 ?_
  refine hv_eqi (y := xs (i + 2)) (by rw [nI_clamp (by omega)]) ?_
  refine lv_aload_n hx hb dL_law_312 rfl (lv_at hl 3 rfl) ?_
  refine hv_calli (vx_runSW (hh := [(0, 17, 20, 19), (0, 17, 24, 21), (0, 17, 28, 13)]) (As := [.ref (ad (0)), .int (xs (i + 1)), .int (xs (i + 2)), .ref (ad (64))]) (rest := []) ⟨hx, hb, hml, hown, hts⟩ (c_L_twist l D N0 ad ct hfl hG hO ((xs (i + 1))) ((xs (i + 2))) hout) (vx_cwSW (hh := [(0, 17, 20, 19), (0, 17, 24, 21), (0, 17, 28, 13)]) 4 hts gL_law_L_twist rfl rfl rfl (by decide +kernel) ⟨Nat.le_of_ble_eq_true rfl, Nat.le_of_ble_eq_true rfl⟩) (hv_preS hKs hV hS) rfl rfl hl.1 rfl (lv_room (Nat.le_of_ble_eq_true rfl)) dL_law_313 ⟨(show cells + 1 ≤ 601024 by omega), (show slots + 6 ≤ 7293033 by omega)⟩) hS (fun r9 u9 H locs hq hV hS => ?_)
  obtain ⟨ad, ct⟩ := u9
  obtain ⟨hz9, hw0, hw1, hwf⟩ := hq
  dsimp only at hw0 hw1 hwf
  have hV : hv D N0 ad ct H := hV
  have hna := fun (q : Nat) (q1 : q % 16 = 0) => (hwf q q1).1
  have hl : lv_has ls 9 [(0, .ref (b)), (1, .ref (ad (0))), (2, .ref (ad (80))), (3, .ref (ad (64))), (4, .int (nI (i)))] := by rw [hna (0) (by omega), hna (80) (by omega), hna (64) (by omega)]; exact hl
  obtain ⟨kv, hkv⟩ : ∃ z, z = k_twist σ (xs (i + 1)) (xs (i + 2)) := ⟨_, rfl⟩
  rw [← hkv] at hz9 hw0 hw1
  have hkb : kv ≤ 3 := by rw [hkv]; unfold k_twist; (repeat' split) <;> omega
  refine hv_eqi (y := nI kv) hz9 ?_
  obtain ⟨σ1, hσ1⟩ : ∃ z, z = (if kv = 0 then sWk σ (xs (i + 1)).toInt.toNat 4 (q_twist σ (xs (i + 1)).toInt.toNat (xs (i + 2))) else σ) := ⟨_, rfl⟩
  have hG1 : gX D σ1 ad ct := by
    rw [hσ1]
    by_cases hk0 : kv = 0
    · rw [if_pos hk0]; exact (hw0 hk0).1
    · rw [if_neg hk0]; exact (hw1 hk0).1
  have hO1 : okS σ1 := by
    rw [hσ1]
    by_cases hk0 : kv = 0
    · rw [if_pos hk0]; exact okk_twist hO (by rw [← hkv]; exact hk0)
    · rw [if_neg hk0]; exact hO
  obtain ⟨fo, hout, hfo⟩ : ∃ fo : Nat → Int64, ct 64 = some (eL D 1 fo) ∧ (kv = 0 → fo 0 = (hbv (decide (4 ≤ cHt σ (xs (i + 1)).toInt.toNat))).toInt64) := by
    by_cases hk0 : kv = 0
    · obtain ⟨f, h8, h9⟩ := (hw0 hk0).2
      exact ⟨f, h8, fun _ => h9⟩
    · obtain ⟨f, h8⟩ := (hw1 hk0).2
      exact ⟨f, h8, fun h => absurd h hk0⟩
  have hM1 : gM D σ th ad ct := hM.wP (u := (ad, ct)) hwf
  obtain ⟨f1, f2, f3, f4, f5, f6, f7, f8, f9, ⟨hm0, hm1, hm2, hm3, hm4, hm5, hm6, hm7, hm8, hm9⟩, hme⟩ := id hM1
  obtain ⟨em1, em2, em3, em4, em5, em6, em7, em8, em9⟩ := id hme
  refine lv_istore (lv' := [(5, .int (nI (kv))), (0, .ref (b)), (1, .ref (ad (0))), (2, .ref (ad (80))), (3, .ref (ad (64))), (4, .int (nI (i)))]) hx hb dL_law_316 hl (by decide) rfl (fun ls hl => ?_)
  refine lv_aload_n hx hb dL_law_318 rfl (lv_at hl 3 rfl) ?_
  refine lv_aload_n hx hb dL_law_319 rfl (lv_at hl 1 rfl) ?_
  refine lv_iload hx hb dL_law_320 (lv_at hl 5 rfl) ?_
  refine lv_iconst (v := nI 1) hx hb dL_law_322 (by decide) ?_
  refine hN_iadd hx hb dL_law_323 ?_
  refine va_sld hx hb hX hbl hbA hS (nI_in (by omega) (by omega)) dL_law_324 ?_
  refine hv_eqi (y := xs (i + 1)) (by rw [nI_clamp (by omega)]) ?_
  refine lv_aload_n hx hb dL_law_325 rfl (lv_at hl 1 rfl) ?_
  refine lv_iload hx hb dL_law_326 (lv_at hl 5 rfl) ?_
  refine lv_iconst (v := nI 2) hx hb dL_law_328 (by decide) ?_
  refine hN_iadd hx hb dL_law_329 ?_
  refine va_sld hx hb hX hbl hbA hS (nI_in (by omega) (by omega)) dL_law_330 ?_
  refine hv_eqi (y := xs (i + 2)) (by rw [nI_clamp (by omega)]) ?_
  refine hv_calli (va_runV (As := [.int (xs (i + 1)), .int (xs (i + 2))]) (rest := []) ⟨hx, hb, hml, hown, hts⟩ (c_X4_twist l D N0 ad ct hM1 hO ((xs (i + 1))) ((xs (i + 2)))) (cwV 2 hts gL_law_X4_twist rfl rfl rfl (by decide +kernel) ⟨Nat.le_of_ble_eq_true rfl, Nat.le_of_ble_eq_true rfl⟩) (hv_preV (r := (RX4, TX4, 15)) hKs hV hS hm0 rfl) rfl rfl hl.1 rfl (lv_room (Nat.le_of_ble_eq_true rfl)) dL_law_331 ⟨(show cells + 1 + 0 ≤ 601024 by omega), (show slots + 6 + 0 ≤ 7293033 by omega)⟩) hS (fun r9 u9 H locs hq hV hS => ?_)
  obtain ⟨ad, ct⟩ := u9
  dsimp only at hq
  obtain ⟨hz8, hz7, hfm⟩ := hq
  have hV : hv D N0 ad ct H := hV
  rw [← hkv] at hz8 hz7
  have hna := fun (q : Nat) (q1 : q ≠ 1) => (hfm q q1).1
  dsimp only at hna
  have hl : lv_has ls 9 [(5, .int (nI (kv))), (0, .ref (b)), (1, .ref (ad (0))), (2, .ref (ad (80))), (3, .ref (ad (64))), (4, .int (nI (i)))] := by rw [hna (0) (by omega), hna (80) (by omega), hna (64) (by omega)]; exact hl
  have hM2 : gM D σ1 kv ad ct := by
    rw [hσ1]
    by_cases hk0 : kv = 0
    · rw [if_pos hk0]; have h9 := (hz8 hk0).2; rw [hk0]; exact h9
    · rw [if_neg hk0]; exact hz7 hk0
  have hzz : kv = 0 → r9 = hbv (decide (4 ≤ cHt σ (xs (i + 1)).toInt.toNat)) := fun h => (hz8 h).1
  have hG1 : gX D σ1 ad ct := hG1.hFm (u := (ad, ct)) hfm
  have hout := ((hfm 64 (by omega)).2 (by omega)).trans hout
  obtain ⟨f1, f2, f3, f4, f5, f6, f7, f8, f9, ⟨hm0, hmr⟩, hme⟩ := id hM2
  refine lv_istore (lv' := [(6, .int (r9)), (5, .int (nI (kv))), (0, .ref (b)), (1, .ref (ad (0))), (2, .ref (ad (80))), (3, .ref (ad (64))), (4, .int (nI (i)))]) hx hb dL_law_334 hl (by decide) rfl (fun ls hl => ?_)
  refine lv_aload_n hx hb dL_law_336 rfl (lv_at hl 4 rfl) ?_
  refine hv_calli (va_runV (As := []) (rest := []) ⟨hx, hb, hml, hown, hts⟩ (c_X4_thrown l D N0 ad ct hM2 hO1) (cwV 0 hts gL_law_X4_thrown rfl rfl rfl (by decide +kernel) ⟨Nat.le_of_ble_eq_true rfl, Nat.le_of_ble_eq_true rfl⟩) (hv_preV (r := (RX4, TX4, 15)) hKs hV hS hm0 rfl) rfl rfl hl.1 rfl (lv_room (Nat.le_of_ble_eq_true rfl)) dL_law_337 ⟨(show cells + 1 + 0 ≤ 601024 by omega), (show slots + 6 + 0 ≤ 7293033 by omega)⟩) hS (fun r9 u9 H locs hq hV hS => ?_)
  obtain ⟨rfl, rfl⟩ := hq
  have hV : hv D N0 ad ct H := hV
  refine lv_iload hx hb dL_law_340 (lv_at hl 1 rfl) ?_
  refine hN_icmp_eq (tgt := 347) hx hb (by omega) (by omega) dL_law_342 (by decide) (fun c342 => ?_) (fun c342 => by exact absurd rfl c342)
  refine lv_iload hx hb dL_law_347 (lv_at hl 1 rfl) ?_
  refine hN_if_ne (tgt := 371) hx hb (by omega) dL_law_349 (by decide) (fun c349 => ?_) (fun c349 => ?_)
  · refine lv_goto (tgt := 1568) hx hb dL_law_371 (by decide) ?_
    refine lv_iinc (v := nI (i + 6)) (lv' := [(4, .int (nI (i + 6))), (6, .int (r9)), (5, .int (nI (kv))), (0, .ref (b)), (1, .ref (ad (0))), (2, .ref (ad (80))), (3, .ref (ad (64)))]) hx hb dL_law_1568 hl (k := 6) rfl (nI_add (i) 6) (by decide) rfl (fun ls hl => ?_)
    refine lv_goto (tgt := 23) hx hb dL_law_1571 (by decide) ?_
    refine W.widen (k := cells + 64) (n := slots + 400) (by omega) (by omega) ?_
    exact K _ _ _ _ _ ls ⟨hO1, hG1, ⟨_, hM2⟩, _, hout⟩ hV hS (lv_sub hl [3, 4, 5, 6, 0] rfl)
  · refine lv_aload_n hx hb dL_law_352 rfl (lv_at hl 5 rfl) ?_
    refine lv_iconst (v := nI 0) hx hb dL_law_353 (by decide) ?_
    refine hv_lald hx hb hKs hV hout (by omega) (by decide) dL_law_354 ?_
    refine lv_iload hx hb dL_law_355 (lv_at hl 0 rfl) ?_
    refine hI_if_eq (tgt := 364) hx hb dL_law_357 (by decide) (fun c357 => ?_) (fun c357 => ?_)
    · refine lv_lconst (v := 0) hx hb dL_law_364 (by decide) ?_
      refine W.lcmp hx hb dL_law_365 ?_
      refine hv_eqi (y := nI 0) (by rw [hfo c349, show (0 : Int64) = (hbv (decide (4 ≤ cHt σ (xs (i + 1)).toInt.toNat))).toInt64 from hbv_0 (by rw [← hzz c349]; exact c357)]; exact lcmp_self _) ?_
      refine hN_if_eq (tgt := 371) hx hb (by omega) dL_law_366 (by decide) (fun c366 => ?_) (fun c366 => by exact absurd c366 (by omega))
      refine lv_goto (tgt := 1568) hx hb dL_law_371 (by decide) ?_
      refine lv_iinc (v := nI (i + 6)) (lv' := [(4, .int (nI (i + 6))), (6, .int (r9)), (5, .int (nI (kv))), (0, .ref (b)), (1, .ref (ad (0))), (2, .ref (ad (80))), (3, .ref (ad (64)))]) hx hb dL_law_1568 hl (k := 6) rfl (nI_add (i) 6) (by decide) rfl (fun ls hl => ?_)
      refine lv_goto (tgt := 23) hx hb dL_law_1571 (by decide) ?_
      refine W.widen (k := cells + 64) (n := slots + 400) (by omega) (by omega) ?_
      exact K _ _ _ _ _ ls ⟨hO1, hG1, ⟨_, hM2⟩, _, hout⟩ hV hS (lv_sub hl [3, 4, 5, 6, 0] rfl)
    · refine lv_lconst (v := 1) hx hb dL_law_360 (by decide) ?_
      refine lv_goto (tgt := 365) hx hb dL_law_361 (by decide) ?_
      refine W.lcmp hx hb dL_law_365 ?_
      refine hv_eqi (y := nI 0) (by rw [hfo c349, show (1 : Int64) = (hbv (decide (4 ≤ cHt σ (xs (i + 1)).toInt.toNat))).toInt64 from hbv_1 (by rw [← hzz c349]; exact c357)]; exact lcmp_self _) ?_
      refine hN_if_eq (tgt := 371) hx hb (by omega) dL_law_366 (by decide) (fun c366 => ?_) (fun c366 => by exact absurd c366 (by omega))
      refine lv_goto (tgt := 1568) hx hb dL_law_371 (by decide) ?_
      refine lv_iinc (v := nI (i + 6)) (lv' := [(4, .int (nI (i + 6))), (6, .int (r9)), (5, .int (nI (kv))), (0, .ref (b)), (1, .ref (ad (0))), (2, .ref (ad (80))), (3, .ref (ad (64)))]) hx hb dL_law_1568 hl (k := 6) rfl (nI_add (i) 6) (by decide) rfl (fun ls hl => ?_)
      refine lv_goto (tgt := 23) hx hb dL_law_1571 (by decide) ?_
      refine W.widen (k := cells + 64) (n := slots + 400) (by omega) (by omega) ?_
      exact K _ _ _ _ _ ls ⟨hO1, hG1, ⟨_, hM2⟩, _, hout⟩ hV hS (lv_sub hl [3, 4, 5, 6, 0] rfl)

set_option maxHeartbeats 4000000 in
set_option maxRecDepth 100000 in
theorem L_pull {p : Program} {l : Launch} {e : Env} {s : State} {m : MethodId} {below : List Frame} {meth : Method} {c : Code} {b L N0 : Nat} {xs : Nat → Int32} {Q : State → Prop} (hfl : l.stackTraces = false) (hts : ∀ w ∈ wsL_law, w.before #[Value.ref b] s = true) (hx : p.tables.exec = Jvm.exec) (hb : c.code = code) (hml : c.maxLocals = 9) (hown : s.vm.findClass RL = some m.cls) (hX : va_X b L xs s s.heap) (hbl : b < s.heap.size) (hbA : ¬ hA N0 b) (hL : L ≤ 3072) {D : hG} (hKs : hK D N0 s)
    {σ : gS} {ad : Nat → Nat} {ct : hC} (hI : gL D σ ad ct) {H : Heap} {locs : List Loc} {cells slots i : Nat} (hV : hv D N0 ad ct H) (hS : va_S (hA N0) s.heap H locs) {ls : Array Slot} (hi : i + 6 ≤ L) (hl : lv_has ls 9 [(0, .ref b), (1, .ref (ad 0)), (2, .ref (ad 80)), (3, .ref (ad 64)), (4, .int (nI i))]) (hr1 : cells + 64 ≤ 601024) (hr2 : slots + 400 ≤ 7293033)
    (K : ∀ (σ1 : gS) (ad1 : Nat → Nat) (ct1 : hC) (H1 : Heap) (locs1 : List Loc) (ls1 : Array Slot), gL D σ1 ad1 ct1 → hv D N0 ad1 ct1 H1 → va_S (hA N0) s.heap H1 locs1 → lv_has ls1 9 [(0, .ref b), (1, .ref (ad1 0)), (2, .ref (ad1 80)), (3, .ref (ad1 64)), (4, .int (nI (i + 6)))] → W p l e room_1 s m #[Value.ref b] below meth c H1 locs1 (cells + 64) (slots + 400) Q (F0 m 23 ls1 [])) : W p l e room_1 s m #[Value.ref b] below meth c H locs cells slots Q (F0 m 374 ls []) := by
  obtain ⟨hO, hG, ⟨th, hM⟩, fo, hout⟩ := hI
  obtain ⟨hn8, hn60, hn6, -⟩ := id hO
  refine lv_aload_n hx hb dL_law_374 rfl (lv_at hl 1 rfl) ?_
  refine lv_aload_n hx hb dL_law_375 rfl (lv_at hl 0 rfl) ?_
  refine lv_iload hx hb dL_law_376 (lv_at hl 4 rfl) ?_
  refine lv_iconst (v := nI 1) hx hb dL_law_378 (by decide) ?_
  refine hN_iadd hx hb dL_law_379 ?_
  refine va_sld hx hb hX hbl hbA hS (nI_in (by omega) (by omega)) dL_law_380 ?_
  refine hv_eqi (y := xs (i + 1)) (by rw [nI_clamp (by omega)]) ?_
  refine lv_aload_n hx hb dL_law_381 rfl (lv_at hl 3 rfl) ?_
  refine hv_calli (vx_runSW (hh := [(0, 16, 19, 19), (0, 16, 22, 13)]) (As := [.ref (ad (0)), .int (xs (i + 1)), .ref (ad (64))]) (rest := []) ⟨hx, hb, hml, hown, hts⟩ (c_L_pull l D N0 ad ct hfl hG hO ((xs (i + 1))) hout) (vx_cwSW (hh := [(0, 16, 19, 19), (0, 16, 22, 13)]) 3 hts gL_law_L_pull rfl rfl rfl (by decide +kernel) ⟨Nat.le_of_ble_eq_true rfl, Nat.le_of_ble_eq_true rfl⟩) (hv_preS hKs hV hS) rfl rfl hl.1 rfl (lv_room (Nat.le_of_ble_eq_true rfl)) dL_law_382 ⟨(show cells + 1 ≤ 601024 by omega), (show slots + 6 ≤ 7293033 by omega)⟩) hS (fun r9 u9 H locs hq hV hS => ?_)
  obtain ⟨ad, ct⟩ := u9
  obtain ⟨hz9, hw0, hw1, hwf⟩ := hq
  dsimp only at hw0 hw1 hwf
  have hV : hv D N0 ad ct H := hV
  have hna := fun (q : Nat) (q1 : q % 16 = 0) => (hwf q q1).1
  have hl : lv_has ls 9 [(0, .ref (b)), (1, .ref (ad (0))), (2, .ref (ad (80))), (3, .ref (ad (64))), (4, .int (nI (i)))] := by rw [hna (0) (by omega), hna (80) (by omega), hna (64) (by omega)]; exact hl
  obtain ⟨kv, hkv⟩ : ∃ z, z = k_pull σ (xs (i + 1)) := ⟨_, rfl⟩
  rw [← hkv] at hz9 hw0 hw1
  have hkb : kv ≤ 3 := by rw [hkv]; unfold k_pull; (repeat' split) <;> omega
  refine hv_eqi (y := nI kv) hz9 ?_
  obtain ⟨σ1, hσ1⟩ : ∃ z, z = (if kv = 0 then sWk σ (xs (i + 1)).toInt.toNat 6 (q_pull σ (xs (i + 1)).toInt.toNat) else σ) := ⟨_, rfl⟩
  have hG1 : gX D σ1 ad ct := by
    rw [hσ1]
    by_cases hk0 : kv = 0
    · rw [if_pos hk0]; exact (hw0 hk0).1
    · rw [if_neg hk0]; exact (hw1 hk0).1
  have hO1 : okS σ1 := by
    rw [hσ1]
    by_cases hk0 : kv = 0
    · rw [if_pos hk0]; exact okk_pull hO (by rw [← hkv]; exact hk0)
    · rw [if_neg hk0]; exact hO
  obtain ⟨fo, hout, hfo⟩ : ∃ fo : Nat → Int64, ct 64 = some (eL D 1 fo) ∧ (kv = 0 → fo 0 = (hbv (decide (6 ≤ cHt σ (xs (i + 1)).toInt.toNat))).toInt64) := by
    by_cases hk0 : kv = 0
    · obtain ⟨f, h8, h9⟩ := (hw0 hk0).2
      exact ⟨f, h8, fun _ => h9⟩
    · obtain ⟨f, h8⟩ := (hw1 hk0).2
      exact ⟨f, h8, fun h => absurd h hk0⟩
  have hM1 : gM D σ th ad ct := hM.wP (u := (ad, ct)) hwf
  obtain ⟨f1, f2, f3, f4, f5, f6, f7, f8, f9, ⟨hm0, hm1, hm2, hm3, hm4, hm5, hm6, hm7, hm8, hm9⟩, hme⟩ := id hM1
  obtain ⟨em1, em2, em3, em4, em5, em6, em7, em8, em9⟩ := id hme
  refine lv_istore (lv' := [(5, .int (nI (kv))), (0, .ref (b)), (1, .ref (ad (0))), (2, .ref (ad (80))), (3, .ref (ad (64))), (4, .int (nI (i)))]) hx hb dL_law_385 hl (by decide) rfl (fun ls hl => ?_)
  refine lv_aload_n hx hb dL_law_387 rfl (lv_at hl 3 rfl) ?_
  refine lv_aload_n hx hb dL_law_388 rfl (lv_at hl 1 rfl) ?_
  refine lv_iload hx hb dL_law_389 (lv_at hl 5 rfl) ?_
  refine lv_iconst (v := nI 1) hx hb dL_law_391 (by decide) ?_
  refine hN_iadd hx hb dL_law_392 ?_
  refine va_sld hx hb hX hbl hbA hS (nI_in (by omega) (by omega)) dL_law_393 ?_
  refine hv_eqi (y := xs (i + 1)) (by rw [nI_clamp (by omega)]) ?_
  refine hv_calli (va_runV (As := [.int (xs (i + 1))]) (rest := []) ⟨hx, hb, hml, hown, hts⟩ (c_X4_pull l D N0 ad ct hM1 hO ((xs (i + 1)))) (cwV 1 hts gL_law_X4_pull rfl rfl rfl (by decide +kernel) ⟨Nat.le_of_ble_eq_true rfl, Nat.le_of_ble_eq_true rfl⟩) (hv_preV (r := (RX4, TX4, 15)) hKs hV hS hm0 rfl) rfl rfl hl.1 rfl (lv_room (Nat.le_of_ble_eq_true rfl)) dL_law_394 ⟨(show cells + 1 + 0 ≤ 601024 by omega), (show slots + 6 + 0 ≤ 7293033 by omega)⟩) hS (fun r9 u9 H locs hq hV hS => ?_)
  obtain ⟨ad, ct⟩ := u9
  dsimp only at hq
  obtain ⟨hz8, hz7, hfm⟩ := hq
  have hV : hv D N0 ad ct H := hV
  rw [← hkv] at hz8 hz7
  have hna := fun (q : Nat) (q1 : q ≠ 1) => (hfm q q1).1
  dsimp only at hna
  have hl : lv_has ls 9 [(5, .int (nI (kv))), (0, .ref (b)), (1, .ref (ad (0))), (2, .ref (ad (80))), (3, .ref (ad (64))), (4, .int (nI (i)))] := by rw [hna (0) (by omega), hna (80) (by omega), hna (64) (by omega)]; exact hl
  have hM2 : gM D σ1 kv ad ct := by
    rw [hσ1]
    by_cases hk0 : kv = 0
    · rw [if_pos hk0]; have h9 := (hz8 hk0).2; rw [hk0]; exact h9
    · rw [if_neg hk0]; exact hz7 hk0
  have hzz : kv = 0 → r9 = hbv (decide (6 ≤ cHt σ (xs (i + 1)).toInt.toNat)) := fun h => (hz8 h).1
  have hG1 : gX D σ1 ad ct := hG1.hFm (u := (ad, ct)) hfm
  have hout := ((hfm 64 (by omega)).2 (by omega)).trans hout
  obtain ⟨f1, f2, f3, f4, f5, f6, f7, f8, f9, ⟨hm0, hmr⟩, hme⟩ := id hM2
  refine lv_istore (lv' := [(6, .int (r9)), (5, .int (nI (kv))), (0, .ref (b)), (1, .ref (ad (0))), (2, .ref (ad (80))), (3, .ref (ad (64))), (4, .int (nI (i)))]) hx hb dL_law_397 hl (by decide) rfl (fun ls hl => ?_)
  refine lv_aload_n hx hb dL_law_399 rfl (lv_at hl 4 rfl) ?_
  refine hv_calli (va_runV (As := []) (rest := []) ⟨hx, hb, hml, hown, hts⟩ (c_X4_thrown l D N0 ad ct hM2 hO1) (cwV 0 hts gL_law_X4_thrown rfl rfl rfl (by decide +kernel) ⟨Nat.le_of_ble_eq_true rfl, Nat.le_of_ble_eq_true rfl⟩) (hv_preV (r := (RX4, TX4, 15)) hKs hV hS hm0 rfl) rfl rfl hl.1 rfl (lv_room (Nat.le_of_ble_eq_true rfl)) dL_law_400 ⟨(show cells + 1 + 0 ≤ 601024 by omega), (show slots + 6 + 0 ≤ 7293033 by omega)⟩) hS (fun r9 u9 H locs hq hV hS => ?_)
  obtain ⟨rfl, rfl⟩ := hq
  have hV : hv D N0 ad ct H := hV
  refine lv_iload hx hb dL_law_403 (lv_at hl 1 rfl) ?_
  refine hN_icmp_eq (tgt := 410) hx hb (by omega) (by omega) dL_law_405 (by decide) (fun c405 => ?_) (fun c405 => by exact absurd rfl c405)
  refine lv_iload hx hb dL_law_410 (lv_at hl 1 rfl) ?_
  refine hN_if_ne (tgt := 434) hx hb (by omega) dL_law_412 (by decide) (fun c412 => ?_) (fun c412 => ?_)
  · refine lv_goto (tgt := 1568) hx hb dL_law_434 (by decide) ?_
    refine lv_iinc (v := nI (i + 6)) (lv' := [(4, .int (nI (i + 6))), (6, .int (r9)), (5, .int (nI (kv))), (0, .ref (b)), (1, .ref (ad (0))), (2, .ref (ad (80))), (3, .ref (ad (64)))]) hx hb dL_law_1568 hl (k := 6) rfl (nI_add (i) 6) (by decide) rfl (fun ls hl => ?_)
    refine lv_goto (tgt := 23) hx hb dL_law_1571 (by decide) ?_
    refine W.widen (k := cells + 64) (n := slots + 400) (by omega) (by omega) ?_
    exact K _ _ _ _ _ ls ⟨hO1, hG1, ⟨_, hM2⟩, _, hout⟩ hV hS (lv_sub hl [3, 4, 5, 6, 0] rfl)
  · refine lv_aload_n hx hb dL_law_415 rfl (lv_at hl 5 rfl) ?_
    refine lv_iconst (v := nI 0) hx hb dL_law_416 (by decide) ?_
    refine hv_lald hx hb hKs hV hout (by omega) (by decide) dL_law_417 ?_
    refine lv_iload hx hb dL_law_418 (lv_at hl 0 rfl) ?_
    refine hI_if_eq (tgt := 427) hx hb dL_law_420 (by decide) (fun c420 => ?_) (fun c420 => ?_)
    · refine lv_lconst (v := 0) hx hb dL_law_427 (by decide) ?_
      refine W.lcmp hx hb dL_law_428 ?_
      refine hv_eqi (y := nI 0) (by rw [hfo c412, show (0 : Int64) = (hbv (decide (6 ≤ cHt σ (xs (i + 1)).toInt.toNat))).toInt64 from hbv_0 (by rw [← hzz c412]; exact c420)]; exact lcmp_self _) ?_
      refine hN_if_eq (tgt := 434) hx hb (by omega) dL_law_429 (by decide) (fun c429 => ?_) (fun c429 => by exact absurd c429 (by omega))
      refine lv_goto (tgt := 1568) hx hb dL_law_434 (by decide) ?_
      refine lv_iinc (v := nI (i + 6)) (lv' := [(4, .int (nI (i + 6))), (6, .int (r9)), (5, .int (nI (kv))), (0, .ref (b)), (1, .ref (ad (0))), (2, .ref (ad (80))), (3, .ref (ad (64)))]) hx hb dL_law_1568 hl (k := 6) rfl (nI_add (i) 6) (by decide) rfl (fun ls hl => ?_)
      refine lv_goto (tgt := 23) hx hb dL_law_1571 (by decide) ?_
      refine W.widen (k := cells + 64) (n := slots + 400) (by omega) (by omega) ?_
      exact K _ _ _ _ _ ls ⟨hO1, hG1, ⟨_, hM2⟩, _, hout⟩ hV hS (lv_sub hl [3, 4, 5, 6, 0] rfl)
    · refine lv_lconst (v := 1) hx hb dL_law_423 (by decide) ?_
      refine lv_goto (tgt := 428) hx hb dL_law_424 (by decide) ?_
      refine W.lcmp hx hb dL_law_428 ?_
      refine hv_eqi (y := nI 0) (by rw [hfo c412, show (1 : Int64) = (hbv (decide (6 ≤ cHt σ (xs (i + 1)).toInt.toNat))).toInt64 from hbv_1 (by rw [← hzz c412]; exact c420)]; exact lcmp_self _) ?_
      refine hN_if_eq (tgt := 434) hx hb (by omega) dL_law_429 (by decide) (fun c429 => ?_) (fun c429 => by exact absurd c429 (by omega))
      refine lv_goto (tgt := 1568) hx hb dL_law_434 (by decide) ?_
      refine lv_iinc (v := nI (i + 6)) (lv' := [(4, .int (nI (i + 6))), (6, .int (r9)), (5, .int (nI (kv))), (0, .ref (b)), (1, .ref (ad (0))), (2, .ref (ad (80))), (3, .ref (ad (64)))]) hx hb dL_law_1568 hl (k := 6) rfl (nI_add (i) 6) (by decide) rfl (fun ls hl => ?_)
      refine lv_goto (tgt := 23) hx hb dL_law_1571 (by decide) ?_
      refine W.widen (k := cells + 64) (n := slots + 400) (by omega) (by omega) ?_
      exact K _ _ _ _ _ ls ⟨hO1, hG1, ⟨_, hM2⟩, _, hout⟩ hV hS (lv_sub hl [3, 4, 5, 6, 0] rfl)

set_option maxHeartbeats 4000000 in
set_option maxRecDepth 100000 in
theorem L_furnace {p : Program} {l : Launch} {e : Env} {s : State} {m : MethodId} {below : List Frame} {meth : Method} {c : Code} {b L N0 : Nat} {xs : Nat → Int32} {Q : State → Prop} (hfl : l.stackTraces = false) (hts : ∀ w ∈ wsL_law, w.before #[Value.ref b] s = true) (hx : p.tables.exec = Jvm.exec) (hb : c.code = code) (hml : c.maxLocals = 9) (hown : s.vm.findClass RL = some m.cls) (hX : va_X b L xs s s.heap) (hbl : b < s.heap.size) (hbA : ¬ hA N0 b) (hL : L ≤ 3072) {D : hG} (hKs : hK D N0 s)
    {σ : gS} {ad : Nat → Nat} {ct : hC} (hI : gL D σ ad ct) {H : Heap} {locs : List Loc} {cells slots i : Nat} (hV : hv D N0 ad ct H) (hS : va_S (hA N0) s.heap H locs) {ls : Array Slot} (hi : i + 6 ≤ L) (hl : lv_has ls 9 [(0, .ref b), (1, .ref (ad 0)), (2, .ref (ad 80)), (3, .ref (ad 64)), (4, .int (nI i))]) (hr1 : cells + 64 ≤ 601024) (hr2 : slots + 400 ≤ 7293033)
    (K : ∀ (σ1 : gS) (ad1 : Nat → Nat) (ct1 : hC) (H1 : Heap) (locs1 : List Loc) (ls1 : Array Slot), gL D σ1 ad1 ct1 → hv D N0 ad1 ct1 H1 → va_S (hA N0) s.heap H1 locs1 → lv_has ls1 9 [(0, .ref b), (1, .ref (ad1 0)), (2, .ref (ad1 80)), (3, .ref (ad1 64)), (4, .int (nI (i + 6)))] → W p l e room_1 s m #[Value.ref b] below meth c H1 locs1 (cells + 64) (slots + 400) Q (F0 m 23 ls1 [])) : W p l e room_1 s m #[Value.ref b] below meth c H locs cells slots Q (F0 m 437 ls []) := by
  obtain ⟨hO, hG, ⟨th, hM⟩, fo, hout⟩ := hI
  obtain ⟨hn8, hn60, hn6, -⟩ := id hO
  refine lv_aload_n hx hb dL_law_437 rfl (lv_at hl 1 rfl) ?_
  refine lv_aload_n hx hb dL_law_438 rfl (lv_at hl 0 rfl) ?_
  refine lv_iload hx hb dL_law_439 (lv_at hl 4 rfl) ?_
  refine lv_iconst (v := nI 1) hx hb dL_law_441 (by decide) ?_
  refine hN_iadd hx hb dL_law_442 ?_
  refine va_sld hx hb hX hbl hbA hS (nI_in (by omega) (by omega)) dL_law_443 ?_
  refine hv_eqi (y := xs (i + 1)) (by rw [nI_clamp (by omega)]) ?_
  refine lv_aload_n hx hb dL_law_444 rfl (lv_at hl 3 rfl) ?_
  refine hv_calli (vx_runSW (hh := [(0, 9, 12, 19)]) (As := [.ref (ad (0)), .int (xs (i + 1)), .ref (ad (64))]) (rest := []) ⟨hx, hb, hml, hown, hts⟩ (c_L_furnace l D N0 ad ct hfl hG hO ((xs (i + 1))) hout) (vx_cwSW (hh := [(0, 9, 12, 19)]) 3 hts gL_law_L_furnace rfl rfl rfl (by decide +kernel) ⟨Nat.le_of_ble_eq_true rfl, Nat.le_of_ble_eq_true rfl⟩) (hv_preS hKs hV hS) rfl rfl hl.1 rfl (lv_room (Nat.le_of_ble_eq_true rfl)) dL_law_445 ⟨(show cells + 1 ≤ 601024 by omega), (show slots + 6 ≤ 7293033 by omega)⟩) hS (fun r9 u9 H locs hq hV hS => ?_)
  obtain ⟨ad, ct⟩ := u9
  obtain ⟨hz9, hw0, hw1, hwf⟩ := hq
  dsimp only at hw0 hw1 hwf
  have hV : hv D N0 ad ct H := hV
  have hna := fun (q : Nat) (q1 : q % 16 = 0) => (hwf q q1).1
  have hl : lv_has ls 9 [(0, .ref (b)), (1, .ref (ad (0))), (2, .ref (ad (80))), (3, .ref (ad (64))), (4, .int (nI (i)))] := by rw [hna (0) (by omega), hna (80) (by omega), hna (64) (by omega)]; exact hl
  obtain ⟨kv, hkv⟩ : ∃ z, z = k_furnace σ (xs (i + 1)) := ⟨_, rfl⟩
  rw [← hkv] at hz9 hw0 hw1
  have hkb : kv ≤ 3 := by rw [hkv]; unfold k_furnace; (repeat' split) <;> omega
  refine hv_eqi (y := nI kv) hz9 ?_
  obtain ⟨σ1, hσ1⟩ : ∃ z, z = (if kv = 0 then uObj σ (gNB σ) (xs (i + 1)) (gMi σ) else σ) := ⟨_, rfl⟩
  have hG1 : gX D σ1 ad ct := by
    rw [hσ1]
    by_cases hk0 : kv = 0
    · rw [if_pos hk0]; exact (hw0 hk0).1
    · rw [if_neg hk0]; exact (hw1 hk0).1
  have hO1 : okS σ1 := by
    rw [hσ1]
    by_cases hk0 : kv = 0
    · rw [if_pos hk0]; exact okk_furnace hO
    · rw [if_neg hk0]; exact hO
  obtain ⟨fo, hout, hfo⟩ : ∃ fo : Nat → Int64, ct 64 = some (eL D 1 fo) ∧ (kv = 0 → fo 0 = (gFu σ).toInt64) := by
    by_cases hk0 : kv = 0
    · obtain ⟨f, h8, h9⟩ := (hw0 hk0).2
      exact ⟨f, h8, fun _ => h9⟩
    · obtain ⟨f, h8⟩ := (hw1 hk0).2
      exact ⟨f, h8, fun h => absurd h hk0⟩
  have hM1 : gM D σ th ad ct := hM.wP (u := (ad, ct)) hwf
  obtain ⟨f1, f2, f3, f4, f5, f6, f7, f8, f9, ⟨hm0, hm1, hm2, hm3, hm4, hm5, hm6, hm7, hm8, hm9⟩, hme⟩ := id hM1
  obtain ⟨em1, em2, em3, em4, em5, em6, em7, em8, em9⟩ := id hme
  refine lv_istore (lv' := [(5, .int (nI (kv))), (0, .ref (b)), (1, .ref (ad (0))), (2, .ref (ad (80))), (3, .ref (ad (64))), (4, .int (nI (i)))]) hx hb dL_law_448 hl (by decide) rfl (fun ls hl => ?_)
  refine lv_aload_n hx hb dL_law_450 rfl (lv_at hl 3 rfl) ?_
  refine lv_aload_n hx hb dL_law_451 rfl (lv_at hl 1 rfl) ?_
  refine lv_iload hx hb dL_law_452 (lv_at hl 5 rfl) ?_
  refine lv_iconst (v := nI 1) hx hb dL_law_454 (by decide) ?_
  refine hN_iadd hx hb dL_law_455 ?_
  refine va_sld hx hb hX hbl hbA hS (nI_in (by omega) (by omega)) dL_law_456 ?_
  refine hv_eqi (y := xs (i + 1)) (by rw [nI_clamp (by omega)]) ?_
  refine hv_calli (va_runV (As := [.int (xs (i + 1))]) (rest := []) ⟨hx, hb, hml, hown, hts⟩ (c_X4_furnace l D N0 ad ct hM1 hO ((xs (i + 1)))) (cwV 1 hts gL_law_X4_furnace rfl rfl rfl (by decide +kernel) ⟨Nat.le_of_ble_eq_true rfl, Nat.le_of_ble_eq_true rfl⟩) (hv_preV (r := (RX4, TX4, 15)) hKs hV hS hm0 rfl) rfl rfl hl.1 rfl (lv_room (Nat.le_of_ble_eq_true rfl)) dL_law_457 ⟨(show cells + 1 + 0 ≤ 601024 by omega), (show slots + 6 + 0 ≤ 7293033 by omega)⟩) hS (fun r9 u9 H locs hq hV hS => ?_)
  obtain ⟨ad, ct⟩ := u9
  dsimp only at hq
  obtain ⟨hz8, hz7, hfm⟩ := hq
  have hV : hv D N0 ad ct H := hV
  rw [← hkv] at hz8 hz7
  have hna := fun (q : Nat) (q1 : q ≠ 1) => (hfm q q1).1
  dsimp only at hna
  have hl : lv_has ls 9 [(5, .int (nI (kv))), (0, .ref (b)), (1, .ref (ad (0))), (2, .ref (ad (80))), (3, .ref (ad (64))), (4, .int (nI (i)))] := by rw [hna (0) (by omega), hna (80) (by omega), hna (64) (by omega)]; exact hl
  have hM2 : gM D σ1 kv ad ct := by
    rw [hσ1]
    by_cases hk0 : kv = 0
    · rw [if_pos hk0]; have h9 := (hz8 hk0).2; rw [hk0]; exact h9
    · rw [if_neg hk0]; exact hz7 hk0
  have hzz : kv = 0 → r9 = gFu σ := fun h => (hz8 h).1
  have hG1 : gX D σ1 ad ct := hG1.hFm (u := (ad, ct)) hfm
  have hout := ((hfm 64 (by omega)).2 (by omega)).trans hout
  obtain ⟨f1, f2, f3, f4, f5, f6, f7, f8, f9, ⟨hm0, hmr⟩, hme⟩ := id hM2
  refine lv_istore (lv' := [(6, .int (r9)), (5, .int (nI (kv))), (0, .ref (b)), (1, .ref (ad (0))), (2, .ref (ad (80))), (3, .ref (ad (64))), (4, .int (nI (i)))]) hx hb dL_law_460 hl (by decide) rfl (fun ls hl => ?_)
  refine lv_aload_n hx hb dL_law_462 rfl (lv_at hl 4 rfl) ?_
  refine hv_calli (va_runV (As := []) (rest := []) ⟨hx, hb, hml, hown, hts⟩ (c_X4_thrown l D N0 ad ct hM2 hO1) (cwV 0 hts gL_law_X4_thrown rfl rfl rfl (by decide +kernel) ⟨Nat.le_of_ble_eq_true rfl, Nat.le_of_ble_eq_true rfl⟩) (hv_preV (r := (RX4, TX4, 15)) hKs hV hS hm0 rfl) rfl rfl hl.1 rfl (lv_room (Nat.le_of_ble_eq_true rfl)) dL_law_463 ⟨(show cells + 1 + 0 ≤ 601024 by omega), (show slots + 6 + 0 ≤ 7293033 by omega)⟩) hS (fun r9 u9 H locs hq hV hS => ?_)
  obtain ⟨rfl, rfl⟩ := hq
  have hV : hv D N0 ad ct H := hV
  refine lv_iload hx hb dL_law_466 (lv_at hl 1 rfl) ?_
  refine hN_icmp_eq (tgt := 473) hx hb (by omega) (by omega) dL_law_468 (by decide) (fun c468 => ?_) (fun c468 => by exact absurd rfl c468)
  refine lv_iload hx hb dL_law_473 (lv_at hl 1 rfl) ?_
  refine hN_if_ne (tgt := 490) hx hb (by omega) dL_law_475 (by decide) (fun c475 => ?_) (fun c475 => ?_)
  · refine lv_goto (tgt := 1568) hx hb dL_law_490 (by decide) ?_
    refine lv_iinc (v := nI (i + 6)) (lv' := [(4, .int (nI (i + 6))), (6, .int (r9)), (5, .int (nI (kv))), (0, .ref (b)), (1, .ref (ad (0))), (2, .ref (ad (80))), (3, .ref (ad (64)))]) hx hb dL_law_1568 hl (k := 6) rfl (nI_add (i) 6) (by decide) rfl (fun ls hl => ?_)
    refine lv_goto (tgt := 23) hx hb dL_law_1571 (by decide) ?_
    refine W.widen (k := cells + 64) (n := slots + 400) (by omega) (by omega) ?_
    exact K _ _ _ _ _ ls ⟨hO1, hG1, ⟨_, hM2⟩, _, hout⟩ hV hS (lv_sub hl [3, 4, 5, 6, 0] rfl)
  · refine lv_aload_n hx hb dL_law_478 rfl (lv_at hl 5 rfl) ?_
    refine lv_iconst (v := nI 0) hx hb dL_law_479 (by decide) ?_
    refine hv_lald hx hb hKs hV hout (by omega) (by decide) dL_law_480 ?_
    refine lv_iload hx hb dL_law_481 (lv_at hl 0 rfl) ?_
    refine lv_i2l hx hb dL_law_483 rfl ?_
    refine W.lcmp hx hb dL_law_484 ?_
    refine hv_eqi (y := nI 0) (by rw [hfo c475, hzz c475]; exact lcmp_self _) ?_
    refine hN_if_eq (tgt := 490) hx hb (by omega) dL_law_485 (by decide) (fun c485 => ?_) (fun c485 => by exact absurd c485 (by omega))
    refine lv_goto (tgt := 1568) hx hb dL_law_490 (by decide) ?_
    refine lv_iinc (v := nI (i + 6)) (lv' := [(4, .int (nI (i + 6))), (6, .int (r9)), (5, .int (nI (kv))), (0, .ref (b)), (1, .ref (ad (0))), (2, .ref (ad (80))), (3, .ref (ad (64)))]) hx hb dL_law_1568 hl (k := 6) rfl (nI_add (i) 6) (by decide) rfl (fun ls hl => ?_)
    refine lv_goto (tgt := 23) hx hb dL_law_1571 (by decide) ?_
    refine W.widen (k := cells + 64) (n := slots + 400) (by omega) (by omega) ?_
    exact K _ _ _ _ _ ls ⟨hO1, hG1, ⟨_, hM2⟩, _, hout⟩ hV hS (lv_sub hl [3, 4, 5, 6, 0] rfl)

set_option maxHeartbeats 4000000 in
set_option maxRecDepth 100000 in
theorem L_rest {p : Program} {l : Launch} {e : Env} {s : State} {m : MethodId} {below : List Frame} {meth : Method} {c : Code} {b L N0 : Nat} {xs : Nat → Int32} {Q : State → Prop} (hfl : l.stackTraces = false) (hts : ∀ w ∈ wsL_law, w.before #[Value.ref b] s = true) (hx : p.tables.exec = Jvm.exec) (hb : c.code = code) (hml : c.maxLocals = 9) (hown : s.vm.findClass RL = some m.cls) (hX : va_X b L xs s s.heap) (hbl : b < s.heap.size) (hbA : ¬ hA N0 b) (hL : L ≤ 3072) {D : hG} (hKs : hK D N0 s)
    {σ : gS} {ad : Nat → Nat} {ct : hC} (hI : gL D σ ad ct) {H : Heap} {locs : List Loc} {cells slots i : Nat} (hV : hv D N0 ad ct H) (hS : va_S (hA N0) s.heap H locs) {ls : Array Slot} (hi : i + 6 ≤ L) (hl : lv_has ls 9 [(0, .ref b), (1, .ref (ad 0)), (2, .ref (ad 80)), (3, .ref (ad 64)), (4, .int (nI i))]) (hr1 : cells + 64 ≤ 601024) (hr2 : slots + 400 ≤ 7293033)
    (K : ∀ (σ1 : gS) (ad1 : Nat → Nat) (ct1 : hC) (H1 : Heap) (locs1 : List Loc) (ls1 : Array Slot), gL D σ1 ad1 ct1 → hv D N0 ad1 ct1 H1 → va_S (hA N0) s.heap H1 locs1 → lv_has ls1 9 [(0, .ref b), (1, .ref (ad1 0)), (2, .ref (ad1 80)), (3, .ref (ad1 64)), (4, .int (nI (i + 6)))] → W p l e room_1 s m #[Value.ref b] below meth c H1 locs1 (cells + 64) (slots + 400) Q (F0 m 23 ls1 [])) : W p l e room_1 s m #[Value.ref b] below meth c H locs cells slots Q (F0 m 493 ls []) := by
  obtain ⟨hO, hG, ⟨th, hM⟩, fo, hout⟩ := hI
  obtain ⟨hn8, hn60, hn6, -⟩ := id hO
  refine lv_aload_n hx hb dL_law_493 rfl (lv_at hl 1 rfl) ?_
  refine lv_aload_n hx hb dL_law_494 rfl (lv_at hl 0 rfl) ?_
  refine lv_iload hx hb dL_law_495 (lv_at hl 4 rfl) ?_
  refine lv_iconst (v := nI 1) hx hb dL_law_497 (by decide) ?_
  refine hN_iadd hx hb dL_law_498 ?_
  refine va_sld hx hb hX hbl hbA hS (nI_in (by omega) (by omega)) dL_law_499 ?_
  refine hv_eqi (y := xs (i + 1)) (by rw [nI_clamp (by omega)]) ?_
  refine lv_aload_n hx hb dL_law_500 rfl (lv_at hl 3 rfl) ?_
  refine hv_calli (vx_runSW (hh := [(0, 9, 12, 21)]) (As := [.ref (ad (0)), .int (xs (i + 1)), .ref (ad (64))]) (rest := []) ⟨hx, hb, hml, hown, hts⟩ (c_L_rest l D N0 ad ct hfl hG hO ((xs (i + 1))) hout) (vx_cwSW (hh := [(0, 9, 12, 21)]) 3 hts gL_law_L_rest rfl rfl rfl (by decide +kernel) ⟨Nat.le_of_ble_eq_true rfl, Nat.le_of_ble_eq_true rfl⟩) (hv_preS hKs hV hS) rfl rfl hl.1 rfl (lv_room (Nat.le_of_ble_eq_true rfl)) dL_law_501 ⟨(show cells + 1 ≤ 601024 by omega), (show slots + 6 ≤ 7293033 by omega)⟩) hS (fun r9 u9 H locs hq hV hS => ?_)
  obtain ⟨ad, ct⟩ := u9
  obtain ⟨hz9, hw0, hw1, hwf⟩ := hq
  dsimp only at hw0 hw1 hwf
  have hV : hv D N0 ad ct H := hV
  have hna := fun (q : Nat) (q1 : q % 16 = 0) => (hwf q q1).1
  have hl : lv_has ls 9 [(0, .ref (b)), (1, .ref (ad (0))), (2, .ref (ad (80))), (3, .ref (ad (64))), (4, .int (nI (i)))] := by rw [hna (0) (by omega), hna (80) (by omega), hna (64) (by omega)]; exact hl
  obtain ⟨kv, hkv⟩ : ∃ z, z = k_rest (xs (i + 1)) := ⟨_, rfl⟩
  rw [← hkv] at hz9 hw0 hw1
  have hkb : kv ≤ 3 := by rw [hkv]; unfold k_rest; (repeat' split) <;> omega
  refine hv_eqi (y := nI kv) hz9 ?_
  obtain ⟨σ1, hσ1⟩ : ∃ z, z = (if kv = 0 then itP σ (xs (i + 1)).toInt.toNat else σ) := ⟨_, rfl⟩
  have hG1 : gX D σ1 ad ct := by
    rw [hσ1]
    by_cases hk0 : kv = 0
    · rw [if_pos hk0]; exact (hw0 hk0).1
    · rw [if_neg hk0]; exact (hw1 hk0).1
  have hO1 : okS σ1 := by
    rw [hσ1]
    by_cases hk0 : kv = 0
    · rw [if_pos hk0]; exact ok_itP hO _
    · rw [if_neg hk0]; exact hO
  obtain ⟨fo, hout, hfo⟩ : ∃ fo : Nat → Int64, ct 64 = some (eL D 1 fo) ∧ (kv = 0 → fo 0 = (nI (nsm (cHt (itP σ (xs (i + 1)).toInt.toNat)) (gNC σ))).toInt64) := by
    by_cases hk0 : kv = 0
    · obtain ⟨f, h8, h9⟩ := (hw0 hk0).2
      exact ⟨f, h8, fun _ => h9⟩
    · obtain ⟨f, h8⟩ := (hw1 hk0).2
      exact ⟨f, h8, fun h => absurd h hk0⟩
  have hM1 : gM D σ th ad ct := hM.wP (u := (ad, ct)) hwf
  obtain ⟨f1, f2, f3, f4, f5, f6, f7, f8, f9, ⟨hm0, hm1, hm2, hm3, hm4, hm5, hm6, hm7, hm8, hm9⟩, hme⟩ := id hM1
  obtain ⟨em1, em2, em3, em4, em5, em6, em7, em8, em9⟩ := id hme
  refine lv_istore (lv' := [(5, .int (nI (kv))), (0, .ref (b)), (1, .ref (ad (0))), (2, .ref (ad (80))), (3, .ref (ad (64))), (4, .int (nI (i)))]) hx hb dL_law_504 hl (by decide) rfl (fun ls hl => ?_)
  refine lv_aload_n hx hb dL_law_506 rfl (lv_at hl 3 rfl) ?_
  refine lv_aload_n hx hb dL_law_507 rfl (lv_at hl 1 rfl) ?_
  refine lv_iload hx hb dL_law_508 (lv_at hl 5 rfl) ?_
  refine lv_iconst (v := nI 1) hx hb dL_law_510 (by decide) ?_
  refine hN_iadd hx hb dL_law_511 ?_
  refine va_sld hx hb hX hbl hbA hS (nI_in (by omega) (by omega)) dL_law_512 ?_
  refine hv_eqi (y := xs (i + 1)) (by rw [nI_clamp (by omega)]) ?_
  refine hv_calli (va_runV (As := [.int (xs (i + 1))]) (rest := []) ⟨hx, hb, hml, hown, hts⟩ (c_X4_rest l D N0 ad ct hM1 hO ((xs (i + 1)))) (cwV 1 hts gL_law_X4_rest rfl rfl rfl (by decide +kernel) ⟨Nat.le_of_ble_eq_true rfl, Nat.le_of_ble_eq_true rfl⟩) (hv_preV (r := (RX4, TX4, 15)) hKs hV hS hm0 rfl) rfl rfl hl.1 rfl (lv_room (Nat.le_of_ble_eq_true rfl)) dL_law_513 ⟨(show cells + 1 + 0 ≤ 601024 by omega), (show slots + 6 + 0 ≤ 7293033 by omega)⟩) hS (fun r9 u9 H locs hq hV hS => ?_)
  obtain ⟨ad, ct⟩ := u9
  dsimp only at hq
  obtain ⟨hz8, hz7, hfm⟩ := hq
  have hV : hv D N0 ad ct H := hV
  rw [← hkv] at hz8 hz7
  have hna := fun (q : Nat) (q1 : q ≠ 1) => (hfm q q1).1
  dsimp only at hna
  have hl : lv_has ls 9 [(5, .int (nI (kv))), (0, .ref (b)), (1, .ref (ad (0))), (2, .ref (ad (80))), (3, .ref (ad (64))), (4, .int (nI (i)))] := by rw [hna (0) (by omega), hna (80) (by omega), hna (64) (by omega)]; exact hl
  have hM2 : gM D σ1 kv ad ct := by
    rw [hσ1]
    by_cases hk0 : kv = 0
    · rw [if_pos hk0]; have h9 := (hz8 hk0).2; rw [hk0]; exact h9
    · rw [if_neg hk0]; exact hz7 hk0
  have hzz : kv = 0 → r9 = nI (nsm (cHt (itP σ (xs (i + 1)).toInt.toNat)) (gNC σ)) := fun h => (hz8 h).1
  have hG1 : gX D σ1 ad ct := hG1.hFm (u := (ad, ct)) hfm
  have hout := ((hfm 64 (by omega)).2 (by omega)).trans hout
  obtain ⟨f1, f2, f3, f4, f5, f6, f7, f8, f9, ⟨hm0, hmr⟩, hme⟩ := id hM2
  refine lv_istore (lv' := [(6, .int (r9)), (5, .int (nI (kv))), (0, .ref (b)), (1, .ref (ad (0))), (2, .ref (ad (80))), (3, .ref (ad (64))), (4, .int (nI (i)))]) hx hb dL_law_516 hl (by decide) rfl (fun ls hl => ?_)
  refine lv_aload_n hx hb dL_law_518 rfl (lv_at hl 4 rfl) ?_
  refine hv_calli (va_runV (As := []) (rest := []) ⟨hx, hb, hml, hown, hts⟩ (c_X4_thrown l D N0 ad ct hM2 hO1) (cwV 0 hts gL_law_X4_thrown rfl rfl rfl (by decide +kernel) ⟨Nat.le_of_ble_eq_true rfl, Nat.le_of_ble_eq_true rfl⟩) (hv_preV (r := (RX4, TX4, 15)) hKs hV hS hm0 rfl) rfl rfl hl.1 rfl (lv_room (Nat.le_of_ble_eq_true rfl)) dL_law_519 ⟨(show cells + 1 + 0 ≤ 601024 by omega), (show slots + 6 + 0 ≤ 7293033 by omega)⟩) hS (fun r9 u9 H locs hq hV hS => ?_)
  obtain ⟨rfl, rfl⟩ := hq
  have hV : hv D N0 ad ct H := hV
  refine lv_iload hx hb dL_law_522 (lv_at hl 1 rfl) ?_
  refine hN_icmp_eq (tgt := 529) hx hb (by omega) (by omega) dL_law_524 (by decide) (fun c524 => ?_) (fun c524 => by exact absurd rfl c524)
  refine lv_iload hx hb dL_law_529 (lv_at hl 1 rfl) ?_
  refine hN_if_ne (tgt := 546) hx hb (by omega) dL_law_531 (by decide) (fun c531 => ?_) (fun c531 => ?_)
  · refine lv_goto (tgt := 1568) hx hb dL_law_546 (by decide) ?_
    refine lv_iinc (v := nI (i + 6)) (lv' := [(4, .int (nI (i + 6))), (6, .int (r9)), (5, .int (nI (kv))), (0, .ref (b)), (1, .ref (ad (0))), (2, .ref (ad (80))), (3, .ref (ad (64)))]) hx hb dL_law_1568 hl (k := 6) rfl (nI_add (i) 6) (by decide) rfl (fun ls hl => ?_)
    refine lv_goto (tgt := 23) hx hb dL_law_1571 (by decide) ?_
    refine W.widen (k := cells + 64) (n := slots + 400) (by omega) (by omega) ?_
    exact K _ _ _ _ _ ls ⟨hO1, hG1, ⟨_, hM2⟩, _, hout⟩ hV hS (lv_sub hl [3, 4, 5, 6, 0] rfl)
  · refine lv_aload_n hx hb dL_law_534 rfl (lv_at hl 5 rfl) ?_
    refine lv_iconst (v := nI 0) hx hb dL_law_535 (by decide) ?_
    refine hv_lald hx hb hKs hV hout (by omega) (by decide) dL_law_536 ?_
    refine lv_iload hx hb dL_law_537 (lv_at hl 0 rfl) ?_
    refine lv_i2l hx hb dL_law_539 rfl ?_
    refine W.lcmp hx hb dL_law_540 ?_
    refine hv_eqi (y := nI 0) (by rw [hfo c531, hzz c531]; exact lcmp_self _) ?_
    refine hN_if_eq (tgt := 546) hx hb (by omega) dL_law_541 (by decide) (fun c541 => ?_) (fun c541 => by exact absurd c541 (by omega))
    refine lv_goto (tgt := 1568) hx hb dL_law_546 (by decide) ?_
    refine lv_iinc (v := nI (i + 6)) (lv' := [(4, .int (nI (i + 6))), (6, .int (r9)), (5, .int (nI (kv))), (0, .ref (b)), (1, .ref (ad (0))), (2, .ref (ad (80))), (3, .ref (ad (64)))]) hx hb dL_law_1568 hl (k := 6) rfl (nI_add (i) 6) (by decide) rfl (fun ls hl => ?_)
    refine lv_goto (tgt := 23) hx hb dL_law_1571 (by decide) ?_
    refine W.widen (k := cells + 64) (n := slots + 400) (by omega) (by omega) ?_
    exact K _ _ _ _ _ ls ⟨hO1, hG1, ⟨_, hM2⟩, _, hout⟩ hV hS (lv_sub hl [3, 4, 5, 6, 0] rfl)

set_option maxHeartbeats 4000000 in
set_option maxRecDepth 100000 in
theorem L_cut {p : Program} {l : Launch} {e : Env} {s : State} {m : MethodId} {below : List Frame} {meth : Method} {c : Code} {b L N0 : Nat} {xs : Nat → Int32} {Q : State → Prop} (hfl : l.stackTraces = false) (hts : ∀ w ∈ wsL_law, w.before #[Value.ref b] s = true) (hx : p.tables.exec = Jvm.exec) (hb : c.code = code) (hml : c.maxLocals = 9) (hown : s.vm.findClass RL = some m.cls) (hX : va_X b L xs s s.heap) (hbl : b < s.heap.size) (hbA : ¬ hA N0 b) (hL : L ≤ 3072) {D : hG} (hKs : hK D N0 s)
    {σ : gS} {ad : Nat → Nat} {ct : hC} (hI : gL D σ ad ct) {H : Heap} {locs : List Loc} {cells slots i : Nat} (hV : hv D N0 ad ct H) (hS : va_S (hA N0) s.heap H locs) {ls : Array Slot} (hi : i + 6 ≤ L) (hl : lv_has ls 9 [(0, .ref b), (1, .ref (ad 0)), (2, .ref (ad 80)), (3, .ref (ad 64)), (4, .int (nI i))]) (hr1 : cells + 64 ≤ 601024) (hr2 : slots + 400 ≤ 7293033)
    (K : ∀ (σ1 : gS) (ad1 : Nat → Nat) (ct1 : hC) (H1 : Heap) (locs1 : List Loc) (ls1 : Array Slot), gL D σ1 ad1 ct1 → hv D N0 ad1 ct1 H1 → va_S (hA N0) s.heap H1 locs1 → lv_has ls1 9 [(0, .ref b), (1, .ref (ad1 0)), (2, .ref (ad1 80)), (3, .ref (ad1 64)), (4, .int (nI (i + 6)))] → W p l e room_1 s m #[Value.ref b] below meth c H1 locs1 (cells + 64) (slots + 400) Q (F0 m 23 ls1 [])) : W p l e room_1 s m #[Value.ref b] below meth c H locs cells slots Q (F0 m 549 ls []) := by
  obtain ⟨hO, hG, ⟨th, hM⟩, fo, hout⟩ := hI
  obtain ⟨hn8, hn60, hn6, -⟩ := id hO
  refine lv_aload_n hx hb dL_law_549 rfl (lv_at hl 1 rfl) ?_
  refine lv_aload_n hx hb dL_law_550 rfl (lv_at hl 0 rfl) ?_
  refine lv_iload hx hb dL_law_551 (lv_at hl 4 rfl) ?_
  refine lv_iconst (v := nI 1) hx hb dL_law_553 (by decide) ?_
  refine hN_iadd hx hb dL_law_554 ?_
  refine va_sld hx hb hX hbl hbA hS (nI_in (by omega) (by omega)) dL_law_555 ?_
  refine hv_eqi (y := xs (i + 1)) (by rw [nI_clamp (by omega)]) ?_
  refine lv_aload_n hx hb dL_law_556 rfl (lv_at hl 3 rfl) ?_
  refine hv_calli (vx_runSW (hh := [(0, 9, 12, 19), (0, 9, 15, 13)]) (As := [.ref (ad (0)), .int (xs (i + 1)), .ref (ad (64))]) (rest := []) ⟨hx, hb, hml, hown, hts⟩ (c_L_cut l D N0 ad ct hfl hG hO ((xs (i + 1))) hout) (vx_cwSW (hh := [(0, 9, 12, 19), (0, 9, 15, 13)]) 3 hts gL_law_L_cut rfl rfl rfl (by decide +kernel) ⟨Nat.le_of_ble_eq_true rfl, Nat.le_of_ble_eq_true rfl⟩) (hv_preS hKs hV hS) rfl rfl hl.1 rfl (lv_room (Nat.le_of_ble_eq_true rfl)) dL_law_557 ⟨(show cells + 3 ≤ 601024 by omega), (show slots + 30 ≤ 7293033 by omega)⟩) hS (fun r9 u9 H locs hq hV hS => ?_)
  obtain ⟨ad, ct⟩ := u9
  obtain ⟨hz9, hw0, hw1, hwf⟩ := hq
  dsimp only at hw0 hw1 hwf
  have hV : hv D N0 ad ct H := hV
  have hna := fun (q : Nat) (q1 : q % 16 = 0) => (hwf q q1).1
  have hl : lv_has ls 9 [(0, .ref (b)), (1, .ref (ad (0))), (2, .ref (ad (80))), (3, .ref (ad (64))), (4, .int (nI (i)))] := by rw [hna (0) (by omega), hna (80) (by omega), hna (64) (by omega)]; exact hl
  obtain ⟨kv, hkv⟩ : ∃ z, z = k_cut σ (xs (i + 1)) := ⟨_, rfl⟩
  rw [← hkv] at hz9 hw0 hw1
  have hkb : kv ≤ 3 := by rw [hkv]; unfold k_cut; (repeat' split) <;> omega
  refine hv_eqi (y := nI kv) hz9 ?_
  obtain ⟨σ1, hσ1⟩ : ∃ z, z = (if kv = 0 then s_cut σ (xs (i + 1)).toInt.toNat else σ) := ⟨_, rfl⟩
  have hG1 : gX D σ1 ad ct := by
    rw [hσ1]
    by_cases hk0 : kv = 0
    · rw [if_pos hk0]; exact (hw0 hk0).1
    · rw [if_neg hk0]; exact (hw1 hk0).1
  have hO1 : okS σ1 := by
    rw [hσ1]
    by_cases hk0 : kv = 0
    · rw [if_pos hk0]; exact okk_cut hO (by rw [← hkv]; exact hk0)
    · rw [if_neg hk0]; exact hO
  obtain ⟨fo, hout, hfo⟩ : ∃ fo : Nat → Int64, ct 64 = some (eL D 1 fo) ∧ (kv = 0 → fo 0 = (nI (gNS σ)).toInt64) := by
    by_cases hk0 : kv = 0
    · obtain ⟨f, h8, h9⟩ := (hw0 hk0).2
      exact ⟨f, h8, fun _ => h9⟩
    · obtain ⟨f, h8⟩ := (hw1 hk0).2
      exact ⟨f, h8, fun h => absurd h hk0⟩
  have hM1 : gM D σ th ad ct := hM.wP (u := (ad, ct)) hwf
  obtain ⟨f1, f2, f3, f4, f5, f6, f7, f8, f9, ⟨hm0, hm1, hm2, hm3, hm4, hm5, hm6, hm7, hm8, hm9⟩, hme⟩ := id hM1
  obtain ⟨em1, em2, em3, em4, em5, em6, em7, em8, em9⟩ := id hme
  refine lv_istore (lv' := [(5, .int (nI (kv))), (0, .ref (b)), (1, .ref (ad (0))), (2, .ref (ad (80))), (3, .ref (ad (64))), (4, .int (nI (i)))]) hx hb dL_law_560 hl (by decide) rfl (fun ls hl => ?_)
  refine lv_aload_n hx hb dL_law_562 rfl (lv_at hl 3 rfl) ?_
  refine lv_aload_n hx hb dL_law_563 rfl (lv_at hl 1 rfl) ?_
  refine lv_iload hx hb dL_law_564 (lv_at hl 5 rfl) ?_
  refine lv_iconst (v := nI 1) hx hb dL_law_566 (by decide) ?_
  refine hN_iadd hx hb dL_law_567 ?_
  refine va_sld hx hb hX hbl hbA hS (nI_in (by omega) (by omega)) dL_law_568 ?_
  refine hv_eqi (y := xs (i + 1)) (by rw [nI_clamp (by omega)]) ?_
  refine hv_calli (va_runV (As := [.int (xs (i + 1))]) (rest := []) ⟨hx, hb, hml, hown, hts⟩ (c_X4_cut l D N0 ad ct hM1 hO ((xs (i + 1)))) (cwV 1 hts gL_law_X4_cut rfl rfl rfl (by decide +kernel) ⟨Nat.le_of_ble_eq_true rfl, Nat.le_of_ble_eq_true rfl⟩) (hv_preV (r := (RX4, TX4, 15)) hKs hV hS hm0 rfl) rfl rfl hl.1 rfl (lv_room (Nat.le_of_ble_eq_true rfl)) dL_law_569 ⟨(show cells + 3 + 0 ≤ 601024 by omega), (show slots + 30 + 0 ≤ 7293033 by omega)⟩) hS (fun r9 u9 H locs hq hV hS => ?_)
  obtain ⟨ad, ct⟩ := u9
  dsimp only at hq
  obtain ⟨hz8, hz7, hfm⟩ := hq
  have hV : hv D N0 ad ct H := hV
  rw [← hkv] at hz8 hz7
  have hna := fun (q : Nat) (q1 : q ≠ 1) => (hfm q q1).1
  dsimp only at hna
  have hl : lv_has ls 9 [(5, .int (nI (kv))), (0, .ref (b)), (1, .ref (ad (0))), (2, .ref (ad (80))), (3, .ref (ad (64))), (4, .int (nI (i)))] := by rw [hna (0) (by omega), hna (80) (by omega), hna (64) (by omega)]; exact hl
  have hM2 : gM D σ1 kv ad ct := by
    rw [hσ1]
    by_cases hk0 : kv = 0
    · rw [if_pos hk0]; have h9 := (hz8 hk0).2; rw [hk0]; exact h9
    · rw [if_neg hk0]; exact hz7 hk0
  have hzz : kv = 0 → r9 = nI (gNS σ) := fun h => (hz8 h).1
  have hG1 : gX D σ1 ad ct := hG1.hFm (u := (ad, ct)) hfm
  have hout := ((hfm 64 (by omega)).2 (by omega)).trans hout
  obtain ⟨f1, f2, f3, f4, f5, f6, f7, f8, f9, ⟨hm0, hmr⟩, hme⟩ := id hM2
  refine lv_istore (lv' := [(6, .int (r9)), (5, .int (nI (kv))), (0, .ref (b)), (1, .ref (ad (0))), (2, .ref (ad (80))), (3, .ref (ad (64))), (4, .int (nI (i)))]) hx hb dL_law_572 hl (by decide) rfl (fun ls hl => ?_)
  refine lv_aload_n hx hb dL_law_574 rfl (lv_at hl 4 rfl) ?_
  refine hv_calli (va_runV (As := []) (rest := []) ⟨hx, hb, hml, hown, hts⟩ (c_X4_thrown l D N0 ad ct hM2 hO1) (cwV 0 hts gL_law_X4_thrown rfl rfl rfl (by decide +kernel) ⟨Nat.le_of_ble_eq_true rfl, Nat.le_of_ble_eq_true rfl⟩) (hv_preV (r := (RX4, TX4, 15)) hKs hV hS hm0 rfl) rfl rfl hl.1 rfl (lv_room (Nat.le_of_ble_eq_true rfl)) dL_law_575 ⟨(show cells + 3 + 0 ≤ 601024 by omega), (show slots + 30 + 0 ≤ 7293033 by omega)⟩) hS (fun r9 u9 H locs hq hV hS => ?_)
  obtain ⟨rfl, rfl⟩ := hq
  have hV : hv D N0 ad ct H := hV
  refine lv_iload hx hb dL_law_578 (lv_at hl 1 rfl) ?_
  refine hN_icmp_eq (tgt := 585) hx hb (by omega) (by omega) dL_law_580 (by decide) (fun c580 => ?_) (fun c580 => by exact absurd rfl c580)
  refine lv_iload hx hb dL_law_585 (lv_at hl 1 rfl) ?_
  refine hN_if_ne (tgt := 602) hx hb (by omega) dL_law_587 (by decide) (fun c587 => ?_) (fun c587 => ?_)
  · refine lv_goto (tgt := 1568) hx hb dL_law_602 (by decide) ?_
    refine lv_iinc (v := nI (i + 6)) (lv' := [(4, .int (nI (i + 6))), (6, .int (r9)), (5, .int (nI (kv))), (0, .ref (b)), (1, .ref (ad (0))), (2, .ref (ad (80))), (3, .ref (ad (64)))]) hx hb dL_law_1568 hl (k := 6) rfl (nI_add (i) 6) (by decide) rfl (fun ls hl => ?_)
    refine lv_goto (tgt := 23) hx hb dL_law_1571 (by decide) ?_
    refine W.widen (k := cells + 64) (n := slots + 400) (by omega) (by omega) ?_
    exact K _ _ _ _ _ ls ⟨hO1, hG1, ⟨_, hM2⟩, _, hout⟩ hV hS (lv_sub hl [3, 4, 5, 6, 0] rfl)
  · refine lv_aload_n hx hb dL_law_590 rfl (lv_at hl 5 rfl) ?_
    refine lv_iconst (v := nI 0) hx hb dL_law_591 (by decide) ?_
    refine hv_lald hx hb hKs hV hout (by omega) (by decide) dL_law_592 ?_
    refine lv_iload hx hb dL_law_593 (lv_at hl 0 rfl) ?_
    refine lv_i2l hx hb dL_law_595 rfl ?_
    refine W.lcmp hx hb dL_law_596 ?_
    refine hv_eqi (y := nI 0) (by rw [hfo c587, hzz c587]; exact lcmp_self _) ?_
    refine hN_if_eq (tgt := 602) hx hb (by omega) dL_law_597 (by decide) (fun c597 => ?_) (fun c597 => by exact absurd c597 (by omega))
    refine lv_goto (tgt := 1568) hx hb dL_law_602 (by decide) ?_
    refine lv_iinc (v := nI (i + 6)) (lv' := [(4, .int (nI (i + 6))), (6, .int (r9)), (5, .int (nI (kv))), (0, .ref (b)), (1, .ref (ad (0))), (2, .ref (ad (80))), (3, .ref (ad (64)))]) hx hb dL_law_1568 hl (k := 6) rfl (nI_add (i) 6) (by decide) rfl (fun ls hl => ?_)
    refine lv_goto (tgt := 23) hx hb dL_law_1571 (by decide) ?_
    refine W.widen (k := cells + 64) (n := slots + 400) (by omega) (by omega) ?_
    exact K _ _ _ _ _ ls ⟨hO1, hG1, ⟨_, hM2⟩, _, hout⟩ hV hS (lv_sub hl [3, 4, 5, 6, 0] rfl)

set_option maxHeartbeats 4000000 in
set_option maxRecDepth 100000 in
theorem L_cane {p : Program} {l : Launch} {e : Env} {s : State} {m : MethodId} {below : List Frame} {meth : Method} {c : Code} {b L N0 : Nat} {xs : Nat → Int32} {Q : State → Prop} (hfl : l.stackTraces = false) (hts : ∀ w ∈ wsL_law, w.before #[Value.ref b] s = true) (hx : p.tables.exec = Jvm.exec) (hb : c.code = code) (hml : c.maxLocals = 9) (hown : s.vm.findClass RL = some m.cls) (hX : va_X b L xs s s.heap) (hbl : b < s.heap.size) (hbA : ¬ hA N0 b) (hL : L ≤ 3072) {D : hG} (hKs : hK D N0 s)
    {σ : gS} {ad : Nat → Nat} {ct : hC} (hI : gL D σ ad ct) {H : Heap} {locs : List Loc} {cells slots i : Nat} (hV : hv D N0 ad ct H) (hS : va_S (hA N0) s.heap H locs) {ls : Array Slot} (hi : i + 6 ≤ L) (hl : lv_has ls 9 [(0, .ref b), (1, .ref (ad 0)), (2, .ref (ad 80)), (3, .ref (ad 64)), (4, .int (nI i))]) (hr1 : cells + 64 ≤ 601024) (hr2 : slots + 400 ≤ 7293033)
    (K : ∀ (σ1 : gS) (ad1 : Nat → Nat) (ct1 : hC) (H1 : Heap) (locs1 : List Loc) (ls1 : Array Slot), gL D σ1 ad1 ct1 → hv D N0 ad1 ct1 H1 → va_S (hA N0) s.heap H1 locs1 → lv_has ls1 9 [(0, .ref b), (1, .ref (ad1 0)), (2, .ref (ad1 80)), (3, .ref (ad1 64)), (4, .int (nI (i + 6)))] → W p l e room_1 s m #[Value.ref b] below meth c H1 locs1 (cells + 64) (slots + 400) Q (F0 m 23 ls1 [])) : W p l e room_1 s m #[Value.ref b] below meth c H locs cells slots Q (F0 m 605 ls []) := by
  obtain ⟨hO, hG, ⟨th, hM⟩, fo, hout⟩ := hI
  obtain ⟨hn8, hn60, hn6, -⟩ := id hO
  refine lv_aload_n hx hb dL_law_605 rfl (lv_at hl 1 rfl) ?_
  refine lv_aload_n hx hb dL_law_606 rfl (lv_at hl 0 rfl) ?_
  refine lv_iload hx hb dL_law_607 (lv_at hl 4 rfl) ?_
  refine lv_iconst (v := nI 1) hx hb dL_law_609 (by decide) ?_
  refine hN_iadd hx hb dL_law_610 ?_
  refine va_sld hx hb hX hbl hbA hS (nI_in (by omega) (by omega)) dL_law_611 ?_
  refine hv_eqi (y := xs (i + 1)) (by rw [nI_clamp (by omega)]) ?_
  refine lv_aload_n hx hb dL_law_612 rfl (lv_at hl 0 rfl) ?_
  refine lv_iload hx hb dL_law_613 (lv_at hl 4 rfl) ?_
  refine lv_iconst (v := nI 2) hx hb dL_law_615 (by decide) ?_
  refine hN_iadd hx hb dL_law_616 ?_
  refine va_sld hx hb hX hbl hbA hS (nI_in (by omega) (by omega)) dL_law_617 ?_
  refine hv_eqi (y := xs (i + 2)) (by rw [nI_clamp (by omega)]) ?_
  refine lv_aload_n hx hb dL_law_618 rfl (lv_at hl 3 rfl) ?_
  refine hv_calli (vx_runSW (hh := [(0, 10, 13, 19)]) (As := [.ref (ad (0)), .int (xs (i + 1)), .int (xs (i + 2)), .ref (ad (64))]) (rest := []) ⟨hx, hb, hml, hown, hts⟩ (c_L_cane l D N0 ad ct hfl hG hO ((xs (i + 1))) ((xs (i + 2))) hout) (vx_cwSW (hh := [(0, 10, 13, 19)]) 4 hts gL_law_L_cane rfl rfl rfl (by decide +kernel) ⟨Nat.le_of_ble_eq_true rfl, Nat.le_of_ble_eq_true rfl⟩) (hv_preS hKs hV hS) rfl rfl hl.1 rfl (lv_room (Nat.le_of_ble_eq_true rfl)) dL_law_619 ⟨(show cells + 1 ≤ 601024 by omega), (show slots + 6 ≤ 7293033 by omega)⟩) hS (fun r9 u9 H locs hq hV hS => ?_)
  obtain ⟨ad, ct⟩ := u9
  obtain ⟨hz9, hw0, hw1, hwf⟩ := hq
  dsimp only at hw0 hw1 hwf
  have hV : hv D N0 ad ct H := hV
  have hna := fun (q : Nat) (q1 : q % 16 = 0) => (hwf q q1).1
  have hl : lv_has ls 9 [(0, .ref (b)), (1, .ref (ad (0))), (2, .ref (ad (80))), (3, .ref (ad (64))), (4, .int (nI (i)))] := by rw [hna (0) (by omega), hna (80) (by omega), hna (64) (by omega)]; exact hl
  obtain ⟨kv, hkv⟩ : ∃ z, z = k_cane σ (xs (i + 1)) (xs (i + 2)) := ⟨_, rfl⟩
  rw [← hkv] at hz9 hw0 hw1
  have hkb : kv ≤ 3 := by rw [hkv]; unfold k_cane; (repeat' split) <;> omega
  refine hv_eqi (y := nI kv) hz9 ?_
  obtain ⟨σ1, hσ1⟩ : ∃ z, z = (if kv = 0 then σ else σ) := ⟨_, rfl⟩
  have hG1 : gX D σ1 ad ct := by
    rw [hσ1]
    by_cases hk0 : kv = 0
    · rw [if_pos hk0]; exact (hw0 hk0).1
    · rw [if_neg hk0]; exact (hw1 hk0).1
  have hO1 : okS σ1 := by
    rw [hσ1]
    by_cases hk0 : kv = 0
    · rw [if_pos hk0]; exact hO
    · rw [if_neg hk0]; exact hO
  obtain ⟨fo, hout, hfo⟩ : ∃ fo : Nat → Int64, ct 64 = some (eL D 1 fo) ∧ (kv = 0 → fo 0 = (tel σ (xs (i + 1)).toInt.toNat (xs (i + 2)).toInt.toNat).toInt64) := by
    by_cases hk0 : kv = 0
    · obtain ⟨f, h8, h9⟩ := (hw0 hk0).2
      exact ⟨f, h8, fun _ => h9⟩
    · obtain ⟨f, h8⟩ := (hw1 hk0).2
      exact ⟨f, h8, fun h => absurd h hk0⟩
  have hM1 : gM D σ th ad ct := hM.wP (u := (ad, ct)) hwf
  obtain ⟨f1, f2, f3, f4, f5, f6, f7, f8, f9, ⟨hm0, hm1, hm2, hm3, hm4, hm5, hm6, hm7, hm8, hm9⟩, hme⟩ := id hM1
  obtain ⟨em1, em2, em3, em4, em5, em6, em7, em8, em9⟩ := id hme
  refine lv_istore (lv' := [(5, .int (nI (kv))), (0, .ref (b)), (1, .ref (ad (0))), (2, .ref (ad (80))), (3, .ref (ad (64))), (4, .int (nI (i)))]) hx hb dL_law_622 hl (by decide) rfl (fun ls hl => ?_)
  refine lv_aload_n hx hb dL_law_624 rfl (lv_at hl 3 rfl) ?_
  refine lv_aload_n hx hb dL_law_625 rfl (lv_at hl 1 rfl) ?_
  refine lv_iload hx hb dL_law_626 (lv_at hl 5 rfl) ?_
  refine lv_iconst (v := nI 1) hx hb dL_law_628 (by decide) ?_
  refine hN_iadd hx hb dL_law_629 ?_
  refine va_sld hx hb hX hbl hbA hS (nI_in (by omega) (by omega)) dL_law_630 ?_
  refine hv_eqi (y := xs (i + 1)) (by rw [nI_clamp (by omega)]) ?_
  refine lv_aload_n hx hb dL_law_631 rfl (lv_at hl 1 rfl) ?_
  refine lv_iload hx hb dL_law_632 (lv_at hl 5 rfl) ?_
  refine lv_iconst (v := nI 2) hx hb dL_law_634 (by decide) ?_
  refine hN_iadd hx hb dL_law_635 ?_
  refine va_sld hx hb hX hbl hbA hS (nI_in (by omega) (by omega)) dL_law_636 ?_
  refine hv_eqi (y := xs (i + 2)) (by rw [nI_clamp (by omega)]) ?_
  refine hv_calli (va_runV (As := [.int (xs (i + 1)), .int (xs (i + 2))]) (rest := []) ⟨hx, hb, hml, hown, hts⟩ (c_X4_cane l D N0 ad ct hM1 hO ((xs (i + 1))) ((xs (i + 2)))) (cwV 2 hts gL_law_X4_cane rfl rfl rfl (by decide +kernel) ⟨Nat.le_of_ble_eq_true rfl, Nat.le_of_ble_eq_true rfl⟩) (hv_preV (r := (RX4, TX4, 15)) hKs hV hS hm0 rfl) rfl rfl hl.1 rfl (lv_room (Nat.le_of_ble_eq_true rfl)) dL_law_637 ⟨(show cells + 1 + 1 ≤ 601024 by omega), (show slots + 6 + 5 ≤ 7293033 by omega)⟩) hS (fun r9 u9 H locs hq hV hS => ?_)
  obtain ⟨ad, ct⟩ := u9
  dsimp only at hq
  obtain ⟨hz8, hM2, hfm⟩ := hq
  have hV : hv D N0 ad ct H := hV
  rw [← hkv] at hz8 hM2
  have hna := fun (q : Nat) (q1 : q ≠ 1) => (hfm q q1).1
  dsimp only at hna
  have hl : lv_has ls 9 [(5, .int (nI (kv))), (0, .ref (b)), (1, .ref (ad (0))), (2, .ref (ad (80))), (3, .ref (ad (64))), (4, .int (nI (i)))] := by rw [hna (0) (by omega), hna (80) (by omega), hna (64) (by omega)]; exact hl
  have hM2 : gM D σ1 kv ad ct := by
    rw [hσ1, ite_self]
    exact hM2
  have hzz := hz8
  have hG1 : gX D σ1 ad ct := hG1.hFm (u := (ad, ct)) hfm
  have hout := ((hfm 64 (by omega)).2 (by omega)).trans hout
  obtain ⟨f1, f2, f3, f4, f5, f6, f7, f8, f9, ⟨hm0, hmr⟩, hme⟩ := id hM2
  refine lv_istore (lv' := [(6, .int (r9)), (5, .int (nI (kv))), (0, .ref (b)), (1, .ref (ad (0))), (2, .ref (ad (80))), (3, .ref (ad (64))), (4, .int (nI (i)))]) hx hb dL_law_640 hl (by decide) rfl (fun ls hl => ?_)
  refine lv_aload_n hx hb dL_law_642 rfl (lv_at hl 4 rfl) ?_
  refine hv_calli (va_runV (As := []) (rest := []) ⟨hx, hb, hml, hown, hts⟩ (c_X4_thrown l D N0 ad ct hM2 hO1) (cwV 0 hts gL_law_X4_thrown rfl rfl rfl (by decide +kernel) ⟨Nat.le_of_ble_eq_true rfl, Nat.le_of_ble_eq_true rfl⟩) (hv_preV (r := (RX4, TX4, 15)) hKs hV hS hm0 rfl) rfl rfl hl.1 rfl (lv_room (Nat.le_of_ble_eq_true rfl)) dL_law_643 ⟨(show cells + 1 + 1 + 0 ≤ 601024 by omega), (show slots + 6 + 5 + 0 ≤ 7293033 by omega)⟩) hS (fun r9 u9 H locs hq hV hS => ?_)
  obtain ⟨rfl, rfl⟩ := hq
  have hV : hv D N0 ad ct H := hV
  refine lv_iload hx hb dL_law_646 (lv_at hl 1 rfl) ?_
  refine hN_icmp_eq (tgt := 653) hx hb (by omega) (by omega) dL_law_648 (by decide) (fun c648 => ?_) (fun c648 => by exact absurd rfl c648)
  refine lv_iload hx hb dL_law_653 (lv_at hl 1 rfl) ?_
  refine hN_if_ne (tgt := 670) hx hb (by omega) dL_law_655 (by decide) (fun c655 => ?_) (fun c655 => ?_)
  · refine lv_goto (tgt := 1568) hx hb dL_law_670 (by decide) ?_
    refine lv_iinc (v := nI (i + 6)) (lv' := [(4, .int (nI (i + 6))), (6, .int (r9)), (5, .int (nI (kv))), (0, .ref (b)), (1, .ref (ad (0))), (2, .ref (ad (80))), (3, .ref (ad (64)))]) hx hb dL_law_1568 hl (k := 6) rfl (nI_add (i) 6) (by decide) rfl (fun ls hl => ?_)
    refine lv_goto (tgt := 23) hx hb dL_law_1571 (by decide) ?_
    refine W.widen (k := cells + 64) (n := slots + 400) (by omega) (by omega) ?_
    exact K _ _ _ _ _ ls ⟨hO1, hG1, ⟨_, hM2⟩, _, hout⟩ hV hS (lv_sub hl [3, 4, 5, 6, 0] rfl)
  · refine lv_aload_n hx hb dL_law_658 rfl (lv_at hl 5 rfl) ?_
    refine lv_iconst (v := nI 0) hx hb dL_law_659 (by decide) ?_
    refine hv_lald hx hb hKs hV hout (by omega) (by decide) dL_law_660 ?_
    refine lv_iload hx hb dL_law_661 (lv_at hl 0 rfl) ?_
    refine lv_i2l hx hb dL_law_663 rfl ?_
    refine W.lcmp hx hb dL_law_664 ?_
    refine hv_eqi (y := nI 0) (by rw [hfo c655, hzz c655]; exact lcmp_self _) ?_
    refine hN_if_eq (tgt := 670) hx hb (by omega) dL_law_665 (by decide) (fun c665 => ?_) (fun c665 => by exact absurd c665 (by omega))
    refine lv_goto (tgt := 1568) hx hb dL_law_670 (by decide) ?_
    refine lv_iinc (v := nI (i + 6)) (lv' := [(4, .int (nI (i + 6))), (6, .int (r9)), (5, .int (nI (kv))), (0, .ref (b)), (1, .ref (ad (0))), (2, .ref (ad (80))), (3, .ref (ad (64)))]) hx hb dL_law_1568 hl (k := 6) rfl (nI_add (i) 6) (by decide) rfl (fun ls hl => ?_)
    refine lv_goto (tgt := 23) hx hb dL_law_1571 (by decide) ?_
    refine W.widen (k := cells + 64) (n := slots + 400) (by omega) (by omega) ?_
    exact K _ _ _ _ _ ls ⟨hO1, hG1, ⟨_, hM2⟩, _, hout⟩ hV hS (lv_sub hl [3, 4, 5, 6, 0] rfl)

set_option maxHeartbeats 4000000 in
set_option maxRecDepth 100000 in
theorem L_shows {p : Program} {l : Launch} {e : Env} {s : State} {m : MethodId} {below : List Frame} {meth : Method} {c : Code} {b L N0 : Nat} {xs : Nat → Int32} {Q : State → Prop} (hfl : l.stackTraces = false) (hts : ∀ w ∈ wsL_law, w.before #[Value.ref b] s = true) (hx : p.tables.exec = Jvm.exec) (hb : c.code = code) (hml : c.maxLocals = 9) (hown : s.vm.findClass RL = some m.cls) (hX : va_X b L xs s s.heap) (hbl : b < s.heap.size) (hbA : ¬ hA N0 b) (hL : L ≤ 3072) {D : hG} (hKs : hK D N0 s)
    {σ : gS} {ad : Nat → Nat} {ct : hC} (hI : gL D σ ad ct) {H : Heap} {locs : List Loc} {cells slots i : Nat} (hV : hv D N0 ad ct H) (hS : va_S (hA N0) s.heap H locs) {ls : Array Slot} (hi : i + 6 ≤ L) (hl : lv_has ls 9 [(0, .ref b), (1, .ref (ad 0)), (2, .ref (ad 80)), (3, .ref (ad 64)), (4, .int (nI i))]) (hr1 : cells + 64 ≤ 601024) (hr2 : slots + 400 ≤ 7293033)
    (K : ∀ (σ1 : gS) (ad1 : Nat → Nat) (ct1 : hC) (H1 : Heap) (locs1 : List Loc) (ls1 : Array Slot), gL D σ1 ad1 ct1 → hv D N0 ad1 ct1 H1 → va_S (hA N0) s.heap H1 locs1 → lv_has ls1 9 [(0, .ref b), (1, .ref (ad1 0)), (2, .ref (ad1 80)), (3, .ref (ad1 64)), (4, .int (nI (i + 6)))] → W p l e room_1 s m #[Value.ref b] below meth c H1 locs1 (cells + 64) (slots + 400) Q (F0 m 23 ls1 [])) : W p l e room_1 s m #[Value.ref b] below meth c H locs cells slots Q (F0 m 673 ls []) := by
  obtain ⟨hO, hG, ⟨th, hM⟩, fo, hout⟩ := hI
  obtain ⟨hn8, hn60, hn6, -⟩ := id hO
  refine lv_aload_n hx hb dL_law_673 rfl (lv_at hl 1 rfl) ?_
  refine lv_aload_n hx hb dL_law_674 rfl (lv_at hl 0 rfl) ?_
  refine lv_iload hx hb dL_law_675 (lv_at hl 4 rfl) ?_
  refine lv_iconst (v := nI 1) hx hb dL_law_677 (by decide) ?_
  refine hN_iadd hx hb dL_law_678 ?_
  refine va_sld hx hb hX hbl hbA hS (nI_in (by omega) (by omega)) dL_law_679 ?_
  refine hv_eqi (y := xs (i + 1)) (by rw [nI_clamp (by omega)]) ?_
  refine lv_aload_n hx hb dL_law_680 rfl (lv_at hl 0 rfl) ?_
  refine lv_iload hx hb dL_law_681 (lv_at hl 4 rfl) ?_
  refine lv_iconst (v := nI 2) hx hb dL_law_683 (by decide) ?_
  refine hN_iadd hx hb dL_law_684 ?_
  refine va_sld hx hb hX hbl hbA hS (nI_in (by omega) (by omega)) dL_law_685 ?_
  refine hv_eqi (y := xs (i + 2)) (by rw [nI_clamp (by omega)]) ?_
  refine lv_aload_n hx hb dL_law_686 rfl (lv_at hl 0 rfl) ?_
  refine lv_iload hx hb dL_law_687 (lv_at hl 4 rfl) ?_
  refine lv_iconst (v := nI 3) hx hb dL_law_689 (by decide) ?_
  refine hN_iadd hx hb dL_law_690 ?_
  refine va_sld hx hb hX hbl hbA hS (nI_in (by omega) (by omega)) dL_law_691 ?_
  refine hv_eqi (y := xs (i + 3)) (by rw [nI_clamp (by omega)]) ?_
  refine lv_aload_n hx hb dL_law_692 rfl (lv_at hl 0 rfl) ?_
  refine lv_iload hx hb dL_law_693 (lv_at hl 4 rfl) ?_
  refine lv_iconst (v := nI 4) hx hb dL_law_695 (by decide) ?_
  refine hN_iadd hx hb dL_law_696 ?_
  refine va_sld hx hb hX hbl hbA hS (nI_in (by omega) (by omega)) dL_law_697 ?_
  refine hv_eqi (y := xs (i + 4)) (by rw [nI_clamp (by omega)]) ?_
  refine lv_aload_n hx hb dL_law_698 rfl (lv_at hl 3 rfl) ?_
  refine hv_calli (vx_runSW (hh := [(0, 14, 17, 19)]) (As := [.ref (ad (0)), .int (xs (i + 1)), .int (xs (i + 2)), .int (xs (i + 3)), .int (xs (i + 4)), .ref (ad (64))]) (rest := []) ⟨hx, hb, hml, hown, hts⟩ (c_L_shows l D N0 ad ct hfl hG hO ((xs (i + 1))) ((xs (i + 2))) ((xs (i + 3))) ((xs (i + 4))) hout) (vx_cwSW (hh := [(0, 14, 17, 19)]) 6 hts gL_law_L_shows rfl rfl rfl (by decide +kernel) ⟨Nat.le_of_ble_eq_true rfl, Nat.le_of_ble_eq_true rfl⟩) (hv_preS hKs hV hS) rfl rfl hl.1 rfl (lv_room (Nat.le_of_ble_eq_true rfl)) dL_law_699 ⟨(show cells + 1 ≤ 601024 by omega), (show slots + 6 ≤ 7293033 by omega)⟩) hS (fun r9 u9 H locs hq hV hS => ?_)
  obtain ⟨ad, ct⟩ := u9
  obtain ⟨hz9, hw0, hw1, hwf⟩ := hq
  dsimp only at hw0 hw1 hwf
  have hV : hv D N0 ad ct H := hV
  have hna := fun (q : Nat) (q1 : q % 16 = 0) => (hwf q q1).1
  have hl : lv_has ls 9 [(0, .ref (b)), (1, .ref (ad (0))), (2, .ref (ad (80))), (3, .ref (ad (64))), (4, .int (nI (i)))] := by rw [hna (0) (by omega), hna (80) (by omega), hna (64) (by omega)]; exact hl
  obtain ⟨kv, hkv⟩ : ∃ z, z = k_shows σ (xs (i + 1)) (xs (i + 2)) (xs (i + 3)) (xs (i + 4)) := ⟨_, rfl⟩
  rw [← hkv] at hz9 hw0 hw1
  have hkb : kv ≤ 3 := by rw [hkv]; unfold k_shows; (repeat' split) <;> omega
  refine hv_eqi (y := nI kv) hz9 ?_
  obtain ⟨σ1, hσ1⟩ : ∃ z, z = (if kv = 0 then σ else σ) := ⟨_, rfl⟩
  have hG1 : gX D σ1 ad ct := by
    rw [hσ1]
    by_cases hk0 : kv = 0
    · rw [if_pos hk0]; exact (hw0 hk0).1
    · rw [if_neg hk0]; exact (hw1 hk0).1
  have hO1 : okS σ1 := by
    rw [hσ1]
    by_cases hk0 : kv = 0
    · rw [if_pos hk0]; exact hO
    · rw [if_neg hk0]; exact hO
  obtain ⟨fo, hout, hfo⟩ : ∃ fo : Nat → Int64, ct 64 = some (eL D 1 fo) ∧ (kv = 0 → fo 0 = (nI (rot (cTw σ (xs (i + 1)).toInt.toNat * nI (xs (i + 2)).toInt.toNat) (cPt σ (xs (i + 1)).toInt.toNat) (8 * (xs (i + 3)).toInt.toNat + (xs (i + 4)).toInt.toNat))).toInt64) := by
    by_cases hk0 : kv = 0
    · obtain ⟨f, h8, h9⟩ := (hw0 hk0).2
      exact ⟨f, h8, fun _ => h9⟩
    · obtain ⟨f, h8⟩ := (hw1 hk0).2
      exact ⟨f, h8, fun h => absurd h hk0⟩
  have hM1 : gM D σ th ad ct := hM.wP (u := (ad, ct)) hwf
  obtain ⟨f1, f2, f3, f4, f5, f6, f7, f8, f9, ⟨hm0, hm1, hm2, hm3, hm4, hm5, hm6, hm7, hm8, hm9⟩, hme⟩ := id hM1
  obtain ⟨em1, em2, em3, em4, em5, em6, em7, em8, em9⟩ := id hme
  refine lv_istore (lv' := [(5, .int (nI (kv))), (0, .ref (b)), (1, .ref (ad (0))), (2, .ref (ad (80))), (3, .ref (ad (64))), (4, .int (nI (i)))]) hx hb dL_law_702 hl (by decide) rfl (fun ls hl => ?_)
  refine lv_aload_n hx hb dL_law_704 rfl (lv_at hl 3 rfl) ?_
  refine lv_aload_n hx hb dL_law_705 rfl (lv_at hl 1 rfl) ?_
  refine lv_iload hx hb dL_law_706 (lv_at hl 5 rfl) ?_
  refine lv_iconst (v := nI 1) hx hb dL_law_708 (by decide) ?_
  refine hN_iadd hx hb dL_law_709 ?_
  refine va_sld hx hb hX hbl hbA hS (nI_in (by omega) (by omega)) dL_law_710 ?_
  refine hv_eqi (y := xs (i + 1)) (by rw [nI_clamp (by omega)]) ?_
  refine lv_aload_n hx hb dL_law_711 rfl (lv_at hl 1 rfl) ?_
  refine lv_iload hx hb dL_law_712 (lv_at hl 5 rfl) ?_
  refine lv_iconst (v := nI 2) hx hb dL_law_714 (by decide) ?_
  refine hN_iadd hx hb dL_law_715 ?_
  refine va_sld hx hb hX hbl hbA hS (nI_in (by omega) (by omega)) dL_law_716 ?_
  refine hv_eqi (y := xs (i + 2)) (by rw [nI_clamp (by omega)]) ?_
  refine lv_aload_n hx hb dL_law_717 rfl (lv_at hl 1 rfl) ?_
  refine lv_iload hx hb dL_law_718 (lv_at hl 5 rfl) ?_
  refine lv_iconst (v := nI 3) hx hb dL_law_720 (by decide) ?_
  refine hN_iadd hx hb dL_law_721 ?_
  refine va_sld hx hb hX hbl hbA hS (nI_in (by omega) (by omega)) dL_law_722 ?_
  refine hv_eqi (y := xs (i + 3)) (by rw [nI_clamp (by omega)]) ?_
  refine lv_aload_n hx hb dL_law_723 rfl (lv_at hl 1 rfl) ?_
  refine lv_iload hx hb dL_law_724 (lv_at hl 5 rfl) ?_
  refine lv_iconst (v := nI 4) hx hb dL_law_726 (by decide) ?_
  refine hN_iadd hx hb dL_law_727 ?_
  refine va_sld hx hb hX hbl hbA hS (nI_in (by omega) (by omega)) dL_law_728 ?_
  refine hv_eqi (y := xs (i + 4)) (by rw [nI_clamp (by omega)]) ?_
  refine hv_calli (va_runV (As := [.int (xs (i + 1)), .int (xs (i + 2)), .int (xs (i + 3)), .int (xs (i + 4))]) (rest := []) ⟨hx, hb, hml, hown, hts⟩ (c_X4_shows l D N0 ad ct hM1 hO ((xs (i + 1))) ((xs (i + 2))) ((xs (i + 3))) ((xs (i + 4)))) (cwV 4 hts gL_law_X4_shows rfl rfl rfl (by decide +kernel) ⟨Nat.le_of_ble_eq_true rfl, Nat.le_of_ble_eq_true rfl⟩) (hv_preV (r := (RX4, TX4, 15)) hKs hV hS hm0 rfl) rfl rfl hl.1 rfl (lv_room (Nat.le_of_ble_eq_true rfl)) dL_law_729 ⟨(show cells + 1 + 0 ≤ 601024 by omega), (show slots + 6 + 0 ≤ 7293033 by omega)⟩) hS (fun r9 u9 H locs hq hV hS => ?_)
  obtain ⟨ad, ct⟩ := u9
  dsimp only at hq
  obtain ⟨hz8, hM2, hfm⟩ := hq
  have hV : hv D N0 ad ct H := hV
  rw [← hkv] at hz8 hM2
  have hna := fun (q : Nat) (q1 : q ≠ 1) => (hfm q q1).1
  dsimp only at hna
  have hl : lv_has ls 9 [(5, .int (nI (kv))), (0, .ref (b)), (1, .ref (ad (0))), (2, .ref (ad (80))), (3, .ref (ad (64))), (4, .int (nI (i)))] := by rw [hna (0) (by omega), hna (80) (by omega), hna (64) (by omega)]; exact hl
  have hM2 : gM D σ1 kv ad ct := by
    rw [hσ1, ite_self]
    exact hM2
  have hzz := hz8
  have hG1 : gX D σ1 ad ct := hG1.hFm (u := (ad, ct)) hfm
  have hout := ((hfm 64 (by omega)).2 (by omega)).trans hout
  obtain ⟨f1, f2, f3, f4, f5, f6, f7, f8, f9, ⟨hm0, hmr⟩, hme⟩ := id hM2
  refine lv_istore (lv' := [(6, .int (r9)), (5, .int (nI (kv))), (0, .ref (b)), (1, .ref (ad (0))), (2, .ref (ad (80))), (3, .ref (ad (64))), (4, .int (nI (i)))]) hx hb dL_law_732 hl (by decide) rfl (fun ls hl => ?_)
  refine lv_aload_n hx hb dL_law_734 rfl (lv_at hl 4 rfl) ?_
  refine hv_calli (va_runV (As := []) (rest := []) ⟨hx, hb, hml, hown, hts⟩ (c_X4_thrown l D N0 ad ct hM2 hO1) (cwV 0 hts gL_law_X4_thrown rfl rfl rfl (by decide +kernel) ⟨Nat.le_of_ble_eq_true rfl, Nat.le_of_ble_eq_true rfl⟩) (hv_preV (r := (RX4, TX4, 15)) hKs hV hS hm0 rfl) rfl rfl hl.1 rfl (lv_room (Nat.le_of_ble_eq_true rfl)) dL_law_735 ⟨(show cells + 1 + 0 ≤ 601024 by omega), (show slots + 6 + 0 ≤ 7293033 by omega)⟩) hS (fun r9 u9 H locs hq hV hS => ?_)
  obtain ⟨rfl, rfl⟩ := hq
  have hV : hv D N0 ad ct H := hV
  refine lv_iload hx hb dL_law_738 (lv_at hl 1 rfl) ?_
  refine hN_icmp_eq (tgt := 745) hx hb (by omega) (by omega) dL_law_740 (by decide) (fun c740 => ?_) (fun c740 => by exact absurd rfl c740)
  refine lv_iload hx hb dL_law_745 (lv_at hl 1 rfl) ?_
  refine hN_if_ne (tgt := 762) hx hb (by omega) dL_law_747 (by decide) (fun c747 => ?_) (fun c747 => ?_)
  · refine lv_goto (tgt := 1568) hx hb dL_law_762 (by decide) ?_
    refine lv_iinc (v := nI (i + 6)) (lv' := [(4, .int (nI (i + 6))), (6, .int (r9)), (5, .int (nI (kv))), (0, .ref (b)), (1, .ref (ad (0))), (2, .ref (ad (80))), (3, .ref (ad (64)))]) hx hb dL_law_1568 hl (k := 6) rfl (nI_add (i) 6) (by decide) rfl (fun ls hl => ?_)
    refine lv_goto (tgt := 23) hx hb dL_law_1571 (by decide) ?_
    refine W.widen (k := cells + 64) (n := slots + 400) (by omega) (by omega) ?_
    exact K _ _ _ _ _ ls ⟨hO1, hG1, ⟨_, hM2⟩, _, hout⟩ hV hS (lv_sub hl [3, 4, 5, 6, 0] rfl)
  · refine lv_aload_n hx hb dL_law_750 rfl (lv_at hl 5 rfl) ?_
    refine lv_iconst (v := nI 0) hx hb dL_law_751 (by decide) ?_
    refine hv_lald hx hb hKs hV hout (by omega) (by decide) dL_law_752 ?_
    refine lv_iload hx hb dL_law_753 (lv_at hl 0 rfl) ?_
    refine lv_i2l hx hb dL_law_755 rfl ?_
    refine W.lcmp hx hb dL_law_756 ?_
    refine hv_eqi (y := nI 0) (by rw [hfo c747, hzz c747]; exact lcmp_self _) ?_
    refine hN_if_eq (tgt := 762) hx hb (by omega) dL_law_757 (by decide) (fun c757 => ?_) (fun c757 => by exact absurd c757 (by omega))
    refine lv_goto (tgt := 1568) hx hb dL_law_762 (by decide) ?_
    refine lv_iinc (v := nI (i + 6)) (lv' := [(4, .int (nI (i + 6))), (6, .int (r9)), (5, .int (nI (kv))), (0, .ref (b)), (1, .ref (ad (0))), (2, .ref (ad (80))), (3, .ref (ad (64)))]) hx hb dL_law_1568 hl (k := 6) rfl (nI_add (i) 6) (by decide) rfl (fun ls hl => ?_)
    refine lv_goto (tgt := 23) hx hb dL_law_1571 (by decide) ?_
    refine W.widen (k := cells + 64) (n := slots + 400) (by omega) (by omega) ?_
    exact K _ _ _ _ _ ls ⟨hO1, hG1, ⟨_, hM2⟩, _, hout⟩ hV hS (lv_sub hl [3, 4, 5, 6, 0] rfl)

set_option maxHeartbeats 4000000 in
set_option maxRecDepth 100000 in
theorem L_colour {p : Program} {l : Launch} {e : Env} {s : State} {m : MethodId} {below : List Frame} {meth : Method} {c : Code} {b L N0 : Nat} {xs : Nat → Int32} {Q : State → Prop} (hfl : l.stackTraces = false) (hts : ∀ w ∈ wsL_law, w.before #[Value.ref b] s = true) (hx : p.tables.exec = Jvm.exec) (hb : c.code = code) (hml : c.maxLocals = 9) (hown : s.vm.findClass RL = some m.cls) (hX : va_X b L xs s s.heap) (hbl : b < s.heap.size) (hbA : ¬ hA N0 b) (hL : L ≤ 3072) {D : hG} (hKs : hK D N0 s)
    {σ : gS} {ad : Nat → Nat} {ct : hC} (hI : gL D σ ad ct) {H : Heap} {locs : List Loc} {cells slots i : Nat} (hV : hv D N0 ad ct H) (hS : va_S (hA N0) s.heap H locs) {ls : Array Slot} (hi : i + 6 ≤ L) (hl : lv_has ls 9 [(0, .ref b), (1, .ref (ad 0)), (2, .ref (ad 80)), (3, .ref (ad 64)), (4, .int (nI i))]) (hr1 : cells + 64 ≤ 601024) (hr2 : slots + 400 ≤ 7293033)
    (K : ∀ (σ1 : gS) (ad1 : Nat → Nat) (ct1 : hC) (H1 : Heap) (locs1 : List Loc) (ls1 : Array Slot), gL D σ1 ad1 ct1 → hv D N0 ad1 ct1 H1 → va_S (hA N0) s.heap H1 locs1 → lv_has ls1 9 [(0, .ref b), (1, .ref (ad1 0)), (2, .ref (ad1 80)), (3, .ref (ad1 64)), (4, .int (nI (i + 6)))] → W p l e room_1 s m #[Value.ref b] below meth c H1 locs1 (cells + 64) (slots + 400) Q (F0 m 23 ls1 [])) : W p l e room_1 s m #[Value.ref b] below meth c H locs cells slots Q (F0 m 765 ls []) := by
  obtain ⟨hO, hG, ⟨th, hM⟩, fo, hout⟩ := hI
  obtain ⟨hn8, hn60, hn6, -⟩ := id hO
  refine lv_aload_n hx hb dL_law_765 rfl (lv_at hl 1 rfl) ?_
  refine lv_aload_n hx hb dL_law_766 rfl (lv_at hl 0 rfl) ?_
  refine lv_iload hx hb dL_law_767 (lv_at hl 4 rfl) ?_
  refine lv_iconst (v := nI 1) hx hb dL_law_769 (by decide) ?_
  refine hN_iadd hx hb dL_law_770 ?_
  refine va_sld hx hb hX hbl hbA hS (nI_in (by omega) (by omega)) dL_law_771 ?_
  refine hv_eqi (y := xs (i + 1)) (by rw [nI_clamp (by omega)]) ?_
  refine lv_aload_n hx hb dL_law_772 rfl (lv_at hl 0 rfl) ?_
  refine lv_iload hx hb dL_law_773 (lv_at hl 4 rfl) ?_
  refine lv_iconst (v := nI 2) hx hb dL_law_775 (by decide) ?_
  refine hN_iadd hx hb dL_law_776 ?_
  refine va_sld hx hb hX hbl hbA hS (nI_in (by omega) (by omega)) dL_law_777 ?_
  refine hv_eqi (y := xs (i + 2)) (by rw [nI_clamp (by omega)]) ?_
  refine lv_aload_n hx hb dL_law_778 rfl (lv_at hl 0 rfl) ?_
  refine lv_iload hx hb dL_law_779 (lv_at hl 4 rfl) ?_
  refine lv_iconst (v := nI 3) hx hb dL_law_781 (by decide) ?_
  refine hN_iadd hx hb dL_law_782 ?_
  refine va_sld hx hb hX hbl hbA hS (nI_in (by omega) (by omega)) dL_law_783 ?_
  refine hv_eqi (y := xs (i + 3)) (by rw [nI_clamp (by omega)]) ?_
  refine lv_aload_n hx hb dL_law_784 rfl (lv_at hl 3 rfl) ?_
  refine hv_calli (vx_runSW (hh := [(0, 12, 15, 19)]) (As := [.ref (ad (0)), .int (xs (i + 1)), .int (xs (i + 2)), .int (xs (i + 3)), .ref (ad (64))]) (rest := []) ⟨hx, hb, hml, hown, hts⟩ (c_L_colour l D N0 ad ct hfl hG hO ((xs (i + 1))) ((xs (i + 2))) ((xs (i + 3))) hout) (vx_cwSW (hh := [(0, 12, 15, 19)]) 5 hts gL_law_L_colour rfl rfl rfl (by decide +kernel) ⟨Nat.le_of_ble_eq_true rfl, Nat.le_of_ble_eq_true rfl⟩) (hv_preS hKs hV hS) rfl rfl hl.1 rfl (lv_room (Nat.le_of_ble_eq_true rfl)) dL_law_785 ⟨(show cells + 1 ≤ 601024 by omega), (show slots + 6 ≤ 7293033 by omega)⟩) hS (fun r9 u9 H locs hq hV hS => ?_)
  obtain ⟨ad, ct⟩ := u9
  obtain ⟨hz9, hw0, hw1, hwf⟩ := hq
  dsimp only at hw0 hw1 hwf
  have hV : hv D N0 ad ct H := hV
  have hna := fun (q : Nat) (q1 : q % 16 = 0) => (hwf q q1).1
  have hl : lv_has ls 9 [(0, .ref (b)), (1, .ref (ad (0))), (2, .ref (ad (80))), (3, .ref (ad (64))), (4, .int (nI (i)))] := by rw [hna (0) (by omega), hna (80) (by omega), hna (64) (by omega)]; exact hl
  obtain ⟨kv, hkv⟩ : ∃ z, z = k_colour σ (xs (i + 1)) (xs (i + 2)) (xs (i + 3)) := ⟨_, rfl⟩
  rw [← hkv] at hz9 hw0 hw1
  have hkb : kv ≤ 3 := by rw [hkv]; unfold k_colour; (repeat' split) <;> omega
  refine hv_eqi (y := nI kv) hz9 ?_
  obtain ⟨σ1, hσ1⟩ : ∃ z, z = (if kv = 0 then σ else σ) := ⟨_, rfl⟩
  have hG1 : gX D σ1 ad ct := by
    rw [hσ1]
    by_cases hk0 : kv = 0
    · rw [if_pos hk0]; exact (hw0 hk0).1
    · rw [if_neg hk0]; exact (hw1 hk0).1
  have hO1 : okS σ1 := by
    rw [hσ1]
    by_cases hk0 : kv = 0
    · rw [if_pos hk0]; exact hO
    · rw [if_neg hk0]; exact hO
  obtain ⟨fo, hout, hfo⟩ : ∃ fo : Nat → Int64, ct 64 = some (eL D 1 fo) ∧ (kv = 0 → fo 0 = (nI (sPt σ (xs (i + 1)).toInt.toNat (8 * (xs (i + 2)).toInt.toNat + (xs (i + 3)).toInt.toNat))).toInt64) := by
    by_cases hk0 : kv = 0
    · obtain ⟨f, h8, h9⟩ := (hw0 hk0).2
      exact ⟨f, h8, fun _ => h9⟩
    · obtain ⟨f, h8⟩ := (hw1 hk0).2
      exact ⟨f, h8, fun h => absurd h hk0⟩
  have hM1 : gM D σ th ad ct := hM.wP (u := (ad, ct)) hwf
  obtain ⟨f1, f2, f3, f4, f5, f6, f7, f8, f9, ⟨hm0, hm1, hm2, hm3, hm4, hm5, hm6, hm7, hm8, hm9⟩, hme⟩ := id hM1
  obtain ⟨em1, em2, em3, em4, em5, em6, em7, em8, em9⟩ := id hme
  refine lv_istore (lv' := [(5, .int (nI (kv))), (0, .ref (b)), (1, .ref (ad (0))), (2, .ref (ad (80))), (3, .ref (ad (64))), (4, .int (nI (i)))]) hx hb dL_law_788 hl (by decide) rfl (fun ls hl => ?_)
  refine lv_aload_n hx hb dL_law_790 rfl (lv_at hl 3 rfl) ?_
  refine lv_aload_n hx hb dL_law_791 rfl (lv_at hl 1 rfl) ?_
  refine lv_iload hx hb dL_law_792 (lv_at hl 5 rfl) ?_
  refine lv_iconst (v := nI 1) hx hb dL_law_794 (by decide) ?_
  refine hN_iadd hx hb dL_law_795 ?_
  refine va_sld hx hb hX hbl hbA hS (nI_in (by omega) (by omega)) dL_law_796 ?_
  refine hv_eqi (y := xs (i + 1)) (by rw [nI_clamp (by omega)]) ?_
  refine lv_aload_n hx hb dL_law_797 rfl (lv_at hl 1 rfl) ?_
  refine lv_iload hx hb dL_law_798 (lv_at hl 5 rfl) ?_
  refine lv_iconst (v := nI 2) hx hb dL_law_800 (by decide) ?_
  refine hN_iadd hx hb dL_law_801 ?_
  refine va_sld hx hb hX hbl hbA hS (nI_in (by omega) (by omega)) dL_law_802 ?_
  refine hv_eqi (y := xs (i + 2)) (by rw [nI_clamp (by omega)]) ?_
  refine lv_aload_n hx hb dL_law_803 rfl (lv_at hl 1 rfl) ?_
  refine lv_iload hx hb dL_law_804 (lv_at hl 5 rfl) ?_
  refine lv_iconst (v := nI 3) hx hb dL_law_806 (by decide) ?_
  refine hN_iadd hx hb dL_law_807 ?_
  refine va_sld hx hb hX hbl hbA hS (nI_in (by omega) (by omega)) dL_law_808 ?_
  refine hv_eqi (y := xs (i + 3)) (by rw [nI_clamp (by omega)]) ?_
  refine hv_calli (va_runV (As := [.int (xs (i + 1)), .int (xs (i + 2)), .int (xs (i + 3))]) (rest := []) ⟨hx, hb, hml, hown, hts⟩ (c_X4_colour l D N0 ad ct hM1 hO ((xs (i + 1))) ((xs (i + 2))) ((xs (i + 3)))) (cwV 3 hts gL_law_X4_colour rfl rfl rfl (by decide +kernel) ⟨Nat.le_of_ble_eq_true rfl, Nat.le_of_ble_eq_true rfl⟩) (hv_preV (r := (RX4, TX4, 15)) hKs hV hS hm0 rfl) rfl rfl hl.1 rfl (lv_room (Nat.le_of_ble_eq_true rfl)) dL_law_809 ⟨(show cells + 1 + 0 ≤ 601024 by omega), (show slots + 6 + 0 ≤ 7293033 by omega)⟩) hS (fun r9 u9 H locs hq hV hS => ?_)
  obtain ⟨ad, ct⟩ := u9
  dsimp only at hq
  obtain ⟨hz8, hM2, hfm⟩ := hq
  have hV : hv D N0 ad ct H := hV
  rw [← hkv] at hz8 hM2
  have hna := fun (q : Nat) (q1 : q ≠ 1) => (hfm q q1).1
  dsimp only at hna
  have hl : lv_has ls 9 [(5, .int (nI (kv))), (0, .ref (b)), (1, .ref (ad (0))), (2, .ref (ad (80))), (3, .ref (ad (64))), (4, .int (nI (i)))] := by rw [hna (0) (by omega), hna (80) (by omega), hna (64) (by omega)]; exact hl
  have hM2 : gM D σ1 kv ad ct := by
    rw [hσ1, ite_self]
    exact hM2
  have hzz := hz8
  have hG1 : gX D σ1 ad ct := hG1.hFm (u := (ad, ct)) hfm
  have hout := ((hfm 64 (by omega)).2 (by omega)).trans hout
  obtain ⟨f1, f2, f3, f4, f5, f6, f7, f8, f9, ⟨hm0, hmr⟩, hme⟩ := id hM2
  refine lv_istore (lv' := [(6, .int (r9)), (5, .int (nI (kv))), (0, .ref (b)), (1, .ref (ad (0))), (2, .ref (ad (80))), (3, .ref (ad (64))), (4, .int (nI (i)))]) hx hb dL_law_812 hl (by decide) rfl (fun ls hl => ?_)
  refine lv_aload_n hx hb dL_law_814 rfl (lv_at hl 4 rfl) ?_
  refine hv_calli (va_runV (As := []) (rest := []) ⟨hx, hb, hml, hown, hts⟩ (c_X4_thrown l D N0 ad ct hM2 hO1) (cwV 0 hts gL_law_X4_thrown rfl rfl rfl (by decide +kernel) ⟨Nat.le_of_ble_eq_true rfl, Nat.le_of_ble_eq_true rfl⟩) (hv_preV (r := (RX4, TX4, 15)) hKs hV hS hm0 rfl) rfl rfl hl.1 rfl (lv_room (Nat.le_of_ble_eq_true rfl)) dL_law_815 ⟨(show cells + 1 + 0 ≤ 601024 by omega), (show slots + 6 + 0 ≤ 7293033 by omega)⟩) hS (fun r9 u9 H locs hq hV hS => ?_)
  obtain ⟨rfl, rfl⟩ := hq
  have hV : hv D N0 ad ct H := hV
  refine lv_iload hx hb dL_law_818 (lv_at hl 1 rfl) ?_
  refine hN_icmp_eq (tgt := 825) hx hb (by omega) (by omega) dL_law_820 (by decide) (fun c820 => ?_) (fun c820 => by exact absurd rfl c820)
  refine lv_iload hx hb dL_law_825 (lv_at hl 1 rfl) ?_
  refine hN_if_ne (tgt := 842) hx hb (by omega) dL_law_827 (by decide) (fun c827 => ?_) (fun c827 => ?_)
  · refine lv_goto (tgt := 1568) hx hb dL_law_842 (by decide) ?_
    refine lv_iinc (v := nI (i + 6)) (lv' := [(4, .int (nI (i + 6))), (6, .int (r9)), (5, .int (nI (kv))), (0, .ref (b)), (1, .ref (ad (0))), (2, .ref (ad (80))), (3, .ref (ad (64)))]) hx hb dL_law_1568 hl (k := 6) rfl (nI_add (i) 6) (by decide) rfl (fun ls hl => ?_)
    refine lv_goto (tgt := 23) hx hb dL_law_1571 (by decide) ?_
    refine W.widen (k := cells + 64) (n := slots + 400) (by omega) (by omega) ?_
    exact K _ _ _ _ _ ls ⟨hO1, hG1, ⟨_, hM2⟩, _, hout⟩ hV hS (lv_sub hl [3, 4, 5, 6, 0] rfl)
  · refine lv_aload_n hx hb dL_law_830 rfl (lv_at hl 5 rfl) ?_
    refine lv_iconst (v := nI 0) hx hb dL_law_831 (by decide) ?_
    refine hv_lald hx hb hKs hV hout (by omega) (by decide) dL_law_832 ?_
    refine lv_iload hx hb dL_law_833 (lv_at hl 0 rfl) ?_
    refine lv_i2l hx hb dL_law_835 rfl ?_
    refine W.lcmp hx hb dL_law_836 ?_
    refine hv_eqi (y := nI 0) (by rw [hfo c827, hzz c827]; exact lcmp_self _) ?_
    refine hN_if_eq (tgt := 842) hx hb (by omega) dL_law_837 (by decide) (fun c837 => ?_) (fun c837 => by exact absurd c837 (by omega))
    refine lv_goto (tgt := 1568) hx hb dL_law_842 (by decide) ?_
    refine lv_iinc (v := nI (i + 6)) (lv' := [(4, .int (nI (i + 6))), (6, .int (r9)), (5, .int (nI (kv))), (0, .ref (b)), (1, .ref (ad (0))), (2, .ref (ad (80))), (3, .ref (ad (64)))]) hx hb dL_law_1568 hl (k := 6) rfl (nI_add (i) 6) (by decide) rfl (fun ls hl => ?_)
    refine lv_goto (tgt := 23) hx hb dL_law_1571 (by decide) ?_
    refine W.widen (k := cells + 64) (n := slots + 400) (by omega) (by omega) ?_
    exact K _ _ _ _ _ ls ⟨hO1, hG1, ⟨_, hM2⟩, _, hout⟩ hV hS (lv_sub hl [3, 4, 5, 6, 0] rfl)

set_option maxHeartbeats 4000000 in
set_option maxRecDepth 100000 in
theorem L_where {p : Program} {l : Launch} {e : Env} {s : State} {m : MethodId} {below : List Frame} {meth : Method} {c : Code} {b L N0 : Nat} {xs : Nat → Int32} {Q : State → Prop} (hfl : l.stackTraces = false) (hts : ∀ w ∈ wsL_law, w.before #[Value.ref b] s = true) (hx : p.tables.exec = Jvm.exec) (hb : c.code = code) (hml : c.maxLocals = 9) (hown : s.vm.findClass RL = some m.cls) (hX : va_X b L xs s s.heap) (hbl : b < s.heap.size) (hbA : ¬ hA N0 b) (hL : L ≤ 3072) {D : hG} (hKs : hK D N0 s)
    {σ : gS} {ad : Nat → Nat} {ct : hC} (hI : gL D σ ad ct) {H : Heap} {locs : List Loc} {cells slots i : Nat} (hV : hv D N0 ad ct H) (hS : va_S (hA N0) s.heap H locs) {ls : Array Slot} (hi : i + 6 ≤ L) (hl : lv_has ls 9 [(0, .ref b), (1, .ref (ad 0)), (2, .ref (ad 80)), (3, .ref (ad 64)), (4, .int (nI i))]) (hr1 : cells + 64 ≤ 601024) (hr2 : slots + 400 ≤ 7293033)
    (K : ∀ (σ1 : gS) (ad1 : Nat → Nat) (ct1 : hC) (H1 : Heap) (locs1 : List Loc) (ls1 : Array Slot), gL D σ1 ad1 ct1 → hv D N0 ad1 ct1 H1 → va_S (hA N0) s.heap H1 locs1 → lv_has ls1 9 [(0, .ref b), (1, .ref (ad1 0)), (2, .ref (ad1 80)), (3, .ref (ad1 64)), (4, .int (nI (i + 6)))] → W p l e room_1 s m #[Value.ref b] below meth c H1 locs1 (cells + 64) (slots + 400) Q (F0 m 23 ls1 [])) : W p l e room_1 s m #[Value.ref b] below meth c H locs cells slots Q (F0 m 845 ls []) := by
  obtain ⟨hO, hG, ⟨th, hM⟩, fo, hout⟩ := hI
  obtain ⟨hn8, hn60, hn6, -⟩ := id hO
  refine lv_aload_n hx hb dL_law_845 rfl (lv_at hl 1 rfl) ?_
  refine lv_aload_n hx hb dL_law_846 rfl (lv_at hl 0 rfl) ?_
  refine lv_iload hx hb dL_law_847 (lv_at hl 4 rfl) ?_
  refine lv_iconst (v := nI 1) hx hb dL_law_849 (by decide) ?_
  refine hN_iadd hx hb dL_law_850 ?_
  refine va_sld hx hb hX hbl hbA hS (nI_in (by omega) (by omega)) dL_law_851 ?_
  refine hv_eqi (y := xs (i + 1)) (by rw [nI_clamp (by omega)]) ?_
  refine lv_aload_n hx hb dL_law_852 rfl (lv_at hl 3 rfl) ?_
  refine hv_calli (vx_runSW (hh := [(0, 9, 12, 19)]) (As := [.ref (ad (0)), .int (xs (i + 1)), .ref (ad (64))]) (rest := []) ⟨hx, hb, hml, hown, hts⟩ (c_L_where l D N0 ad ct hfl hG hO ((xs (i + 1))) hout) (vx_cwSW (hh := [(0, 9, 12, 19)]) 3 hts gL_law_L_where rfl rfl rfl (by decide +kernel) ⟨Nat.le_of_ble_eq_true rfl, Nat.le_of_ble_eq_true rfl⟩) (hv_preS hKs hV hS) rfl rfl hl.1 rfl (lv_room (Nat.le_of_ble_eq_true rfl)) dL_law_853 ⟨(show cells + 1 ≤ 601024 by omega), (show slots + 6 ≤ 7293033 by omega)⟩) hS (fun r9 u9 H locs hq hV hS => ?_)
  obtain ⟨ad, ct⟩ := u9
  obtain ⟨hz9, hw0, hw1, hwf⟩ := hq
  dsimp only at hw0 hw1 hwf
  have hV : hv D N0 ad ct H := hV
  have hna := fun (q : Nat) (q1 : q % 16 = 0) => (hwf q q1).1
  have hl : lv_has ls 9 [(0, .ref (b)), (1, .ref (ad (0))), (2, .ref (ad (80))), (3, .ref (ad (64))), (4, .int (nI (i)))] := by rw [hna (0) (by omega), hna (80) (by omega), hna (64) (by omega)]; exact hl
  obtain ⟨kv, hkv⟩ : ∃ z, z = k_where σ (xs (i + 1)) := ⟨_, rfl⟩
  rw [← hkv] at hz9 hw0 hw1
  have hkb : kv ≤ 3 := by rw [hkv]; unfold k_where; (repeat' split) <;> omega
  refine hv_eqi (y := nI kv) hz9 ?_
  obtain ⟨σ1, hσ1⟩ : ∃ z, z = (if kv = 0 then σ else σ) := ⟨_, rfl⟩
  have hG1 : gX D σ1 ad ct := by
    rw [hσ1]
    by_cases hk0 : kv = 0
    · rw [if_pos hk0]; exact (hw0 hk0).1
    · rw [if_neg hk0]; exact (hw1 hk0).1
  have hO1 : okS σ1 := by
    rw [hσ1]
    by_cases hk0 : kv = 0
    · rw [if_pos hk0]; exact hO
    · rw [if_neg hk0]; exact hO
  obtain ⟨fo, hout, hfo⟩ : ∃ fo : Nat → Int64, ct 64 = some (eL D 1 fo) ∧ (kv = 0 → fo 0 = (eyv (sEy σ (xs (i + 1)).toInt.toNat)).toInt64) := by
    by_cases hk0 : kv = 0
    · obtain ⟨f, h8, h9⟩ := (hw0 hk0).2
      exact ⟨f, h8, fun _ => h9⟩
    · obtain ⟨f, h8⟩ := (hw1 hk0).2
      exact ⟨f, h8, fun h => absurd h hk0⟩
  have hM1 : gM D σ th ad ct := hM.wP (u := (ad, ct)) hwf
  obtain ⟨f1, f2, f3, f4, f5, f6, f7, f8, f9, ⟨hm0, hm1, hm2, hm3, hm4, hm5, hm6, hm7, hm8, hm9⟩, hme⟩ := id hM1
  obtain ⟨em1, em2, em3, em4, em5, em6, em7, em8, em9⟩ := id hme
  refine lv_istore (lv' := [(5, .int (nI (kv))), (0, .ref (b)), (1, .ref (ad (0))), (2, .ref (ad (80))), (3, .ref (ad (64))), (4, .int (nI (i)))]) hx hb dL_law_856 hl (by decide) rfl (fun ls hl => ?_)
  refine lv_aload_n hx hb dL_law_858 rfl (lv_at hl 3 rfl) ?_
  refine lv_aload_n hx hb dL_law_859 rfl (lv_at hl 1 rfl) ?_
  refine lv_iload hx hb dL_law_860 (lv_at hl 5 rfl) ?_
  refine lv_iconst (v := nI 1) hx hb dL_law_862 (by decide) ?_
  refine hN_iadd hx hb dL_law_863 ?_
  refine va_sld hx hb hX hbl hbA hS (nI_in (by omega) (by omega)) dL_law_864 ?_
  refine hv_eqi (y := xs (i + 1)) (by rw [nI_clamp (by omega)]) ?_
  refine hv_calli (va_runV (As := [.int (xs (i + 1))]) (rest := []) ⟨hx, hb, hml, hown, hts⟩ (c_X4_where l D N0 ad ct hM1 hO ((xs (i + 1)))) (cwV 1 hts gL_law_X4_where rfl rfl rfl (by decide +kernel) ⟨Nat.le_of_ble_eq_true rfl, Nat.le_of_ble_eq_true rfl⟩) (hv_preV (r := (RX4, TX4, 15)) hKs hV hS hm0 rfl) rfl rfl hl.1 rfl (lv_room (Nat.le_of_ble_eq_true rfl)) dL_law_865 ⟨(show cells + 1 + 0 ≤ 601024 by omega), (show slots + 6 + 0 ≤ 7293033 by omega)⟩) hS (fun r9 u9 H locs hq hV hS => ?_)
  obtain ⟨ad, ct⟩ := u9
  dsimp only at hq
  obtain ⟨hz8, hM2, hfm⟩ := hq
  have hV : hv D N0 ad ct H := hV
  rw [← hkv] at hz8 hM2
  have hna := fun (q : Nat) (q1 : q ≠ 1) => (hfm q q1).1
  dsimp only at hna
  have hl : lv_has ls 9 [(5, .int (nI (kv))), (0, .ref (b)), (1, .ref (ad (0))), (2, .ref (ad (80))), (3, .ref (ad (64))), (4, .int (nI (i)))] := by rw [hna (0) (by omega), hna (80) (by omega), hna (64) (by omega)]; exact hl
  have hM2 : gM D σ1 kv ad ct := by
    rw [hσ1, ite_self]
    exact hM2
  have hzz := hz8
  have hG1 : gX D σ1 ad ct := hG1.hFm (u := (ad, ct)) hfm
  have hout := ((hfm 64 (by omega)).2 (by omega)).trans hout
  obtain ⟨f1, f2, f3, f4, f5, f6, f7, f8, f9, ⟨hm0, hmr⟩, hme⟩ := id hM2
  refine lv_istore (lv' := [(6, .int (r9)), (5, .int (nI (kv))), (0, .ref (b)), (1, .ref (ad (0))), (2, .ref (ad (80))), (3, .ref (ad (64))), (4, .int (nI (i)))]) hx hb dL_law_868 hl (by decide) rfl (fun ls hl => ?_)
  refine lv_aload_n hx hb dL_law_870 rfl (lv_at hl 4 rfl) ?_
  refine hv_calli (va_runV (As := []) (rest := []) ⟨hx, hb, hml, hown, hts⟩ (c_X4_thrown l D N0 ad ct hM2 hO1) (cwV 0 hts gL_law_X4_thrown rfl rfl rfl (by decide +kernel) ⟨Nat.le_of_ble_eq_true rfl, Nat.le_of_ble_eq_true rfl⟩) (hv_preV (r := (RX4, TX4, 15)) hKs hV hS hm0 rfl) rfl rfl hl.1 rfl (lv_room (Nat.le_of_ble_eq_true rfl)) dL_law_871 ⟨(show cells + 1 + 0 ≤ 601024 by omega), (show slots + 6 + 0 ≤ 7293033 by omega)⟩) hS (fun r9 u9 H locs hq hV hS => ?_)
  obtain ⟨rfl, rfl⟩ := hq
  have hV : hv D N0 ad ct H := hV
  refine lv_iload hx hb dL_law_874 (lv_at hl 1 rfl) ?_
  refine hN_icmp_eq (tgt := 881) hx hb (by omega) (by omega) dL_law_876 (by decide) (fun c876 => ?_) (fun c876 => by exact absurd rfl c876)
  refine lv_iload hx hb dL_law_881 (lv_at hl 1 rfl) ?_
  refine hN_if_ne (tgt := 898) hx hb (by omega) dL_law_883 (by decide) (fun c883 => ?_) (fun c883 => ?_)
  · refine lv_goto (tgt := 1568) hx hb dL_law_898 (by decide) ?_
    refine lv_iinc (v := nI (i + 6)) (lv' := [(4, .int (nI (i + 6))), (6, .int (r9)), (5, .int (nI (kv))), (0, .ref (b)), (1, .ref (ad (0))), (2, .ref (ad (80))), (3, .ref (ad (64)))]) hx hb dL_law_1568 hl (k := 6) rfl (nI_add (i) 6) (by decide) rfl (fun ls hl => ?_)
    refine lv_goto (tgt := 23) hx hb dL_law_1571 (by decide) ?_
    refine W.widen (k := cells + 64) (n := slots + 400) (by omega) (by omega) ?_
    exact K _ _ _ _ _ ls ⟨hO1, hG1, ⟨_, hM2⟩, _, hout⟩ hV hS (lv_sub hl [3, 4, 5, 6, 0] rfl)
  · refine lv_aload_n hx hb dL_law_886 rfl (lv_at hl 5 rfl) ?_
    refine lv_iconst (v := nI 0) hx hb dL_law_887 (by decide) ?_
    refine hv_lald hx hb hKs hV hout (by omega) (by decide) dL_law_888 ?_
    refine lv_iload hx hb dL_law_889 (lv_at hl 0 rfl) ?_
    refine lv_i2l hx hb dL_law_891 rfl ?_
    refine W.lcmp hx hb dL_law_892 ?_
    refine hv_eqi (y := nI 0) (by rw [hfo c883, hzz c883]; exact lcmp_self _) ?_
    refine hN_if_eq (tgt := 898) hx hb (by omega) dL_law_893 (by decide) (fun c893 => ?_) (fun c893 => by exact absurd c893 (by omega))
    refine lv_goto (tgt := 1568) hx hb dL_law_898 (by decide) ?_
    refine lv_iinc (v := nI (i + 6)) (lv' := [(4, .int (nI (i + 6))), (6, .int (r9)), (5, .int (nI (kv))), (0, .ref (b)), (1, .ref (ad (0))), (2, .ref (ad (80))), (3, .ref (ad (64)))]) hx hb dL_law_1568 hl (k := 6) rfl (nI_add (i) 6) (by decide) rfl (fun ls hl => ?_)
    refine lv_goto (tgt := 23) hx hb dL_law_1571 (by decide) ?_
    refine W.widen (k := cells + 64) (n := slots + 400) (by omega) (by omega) ?_
    exact K _ _ _ _ _ ls ⟨hO1, hG1, ⟨_, hM2⟩, _, hout⟩ hV hS (lv_sub hl [3, 4, 5, 6, 0] rfl)

set_option maxHeartbeats 4000000 in
set_option maxRecDepth 100000 in
theorem L_bead {p : Program} {l : Launch} {e : Env} {s : State} {m : MethodId} {below : List Frame} {meth : Method} {c : Code} {b L N0 : Nat} {xs : Nat → Int32} {Q : State → Prop} (hfl : l.stackTraces = false) (hts : ∀ w ∈ wsL_law, w.before #[Value.ref b] s = true) (hx : p.tables.exec = Jvm.exec) (hb : c.code = code) (hml : c.maxLocals = 9) (hown : s.vm.findClass RL = some m.cls) (hX : va_X b L xs s s.heap) (hbl : b < s.heap.size) (hbA : ¬ hA N0 b) (hL : L ≤ 3072) {D : hG} (hKs : hK D N0 s)
    {σ : gS} {ad : Nat → Nat} {ct : hC} (hI : gL D σ ad ct) {H : Heap} {locs : List Loc} {cells slots i : Nat} (hV : hv D N0 ad ct H) (hS : va_S (hA N0) s.heap H locs) {ls : Array Slot} (hi : i + 6 ≤ L) (hl : lv_has ls 9 [(0, .ref b), (1, .ref (ad 0)), (2, .ref (ad 80)), (3, .ref (ad 64)), (4, .int (nI i))]) (hr1 : cells + 64 ≤ 601024) (hr2 : slots + 400 ≤ 7293033)
    (K : ∀ (σ1 : gS) (ad1 : Nat → Nat) (ct1 : hC) (H1 : Heap) (locs1 : List Loc) (ls1 : Array Slot), gL D σ1 ad1 ct1 → hv D N0 ad1 ct1 H1 → va_S (hA N0) s.heap H1 locs1 → lv_has ls1 9 [(0, .ref b), (1, .ref (ad1 0)), (2, .ref (ad1 80)), (3, .ref (ad1 64)), (4, .int (nI (i + 6)))] → W p l e room_1 s m #[Value.ref b] below meth c H1 locs1 (cells + 64) (slots + 400) Q (F0 m 23 ls1 [])) : W p l e room_1 s m #[Value.ref b] below meth c H locs cells slots Q (F0 m 901 ls []) := by
  obtain ⟨hO, hG, ⟨th, hM⟩, fo, hout⟩ := hI
  obtain ⟨hn8, hn60, hn6, -⟩ := id hO
  refine lv_aload_n hx hb dL_law_901 rfl (lv_at hl 1 rfl) ?_
  refine lv_aload_n hx hb dL_law_902 rfl (lv_at hl 3 rfl) ?_
  refine hv_calli (vx_runSW (hh := [(0, 8, 11, 13)]) (As := [.ref (ad (0)), .ref (ad (64))]) (rest := []) ⟨hx, hb, hml, hown, hts⟩ (c_L_bead l D N0 ad ct hfl hG hO  hout) (vx_cwSW (hh := [(0, 8, 11, 13)]) 2 hts gL_law_L_bead rfl rfl rfl (by decide +kernel) ⟨Nat.le_of_ble_eq_true rfl, Nat.le_of_ble_eq_true rfl⟩) (hv_preS hKs hV hS) rfl rfl hl.1 rfl (lv_room (Nat.le_of_ble_eq_true rfl)) dL_law_903 ⟨(show cells + 1 ≤ 601024 by omega), (show slots + 6 ≤ 7293033 by omega)⟩) hS (fun r9 u9 H locs hq hV hS => ?_)
  obtain ⟨ad, ct⟩ := u9
  obtain ⟨hz9, hw0, hw1, hwf⟩ := hq
  dsimp only at hw0 hw1 hwf
  have hV : hv D N0 ad ct H := hV
  have hna := fun (q : Nat) (q1 : q % 16 = 0) => (hwf q q1).1
  have hl : lv_has ls 9 [(0, .ref (b)), (1, .ref (ad (0))), (2, .ref (ad (80))), (3, .ref (ad (64))), (4, .int (nI (i)))] := by rw [hna (0) (by omega), hna (80) (by omega), hna (64) (by omega)]; exact hl
  obtain ⟨kv, hkv⟩ : ∃ z, z = k_bead σ := ⟨_, rfl⟩
  rw [← hkv] at hz9 hw0 hw1
  have hkb : kv ≤ 3 := by rw [hkv]; unfold k_bead; (repeat' split) <;> omega
  refine hv_eqi (y := nI kv) hz9 ?_
  obtain ⟨σ1, hσ1⟩ : ∃ z, z = (if kv = 0 then uObj σ (gNB σ + 1) (gFu σ) (gMi σ) else σ) := ⟨_, rfl⟩
  have hG1 : gX D σ1 ad ct := by
    rw [hσ1]
    by_cases hk0 : kv = 0
    · rw [if_pos hk0]; exact (hw0 hk0).1
    · rw [if_neg hk0]; exact (hw1 hk0).1
  have hO1 : okS σ1 := by
    rw [hσ1]
    by_cases hk0 : kv = 0
    · rw [if_pos hk0]; exact okk_bead hO (by rw [← hkv]; exact hk0)
    · rw [if_neg hk0]; exact hO
  obtain ⟨fo, hout, hfo⟩ : ∃ fo : Nat → Int64, ct 64 = some (eL D 1 fo) ∧ (kv = 0 → fo 0 = (nI (gNB σ)).toInt64) := by
    by_cases hk0 : kv = 0
    · obtain ⟨f, h8, h9⟩ := (hw0 hk0).2
      exact ⟨f, h8, fun _ => h9⟩
    · obtain ⟨f, h8⟩ := (hw1 hk0).2
      exact ⟨f, h8, fun h => absurd h hk0⟩
  have hM1 : gM D σ th ad ct := hM.wP (u := (ad, ct)) hwf
  obtain ⟨f1, f2, f3, f4, f5, f6, f7, f8, f9, ⟨hm0, hm1, hm2, hm3, hm4, hm5, hm6, hm7, hm8, hm9⟩, hme⟩ := id hM1
  obtain ⟨em1, em2, em3, em4, em5, em6, em7, em8, em9⟩ := id hme
  refine lv_istore (lv' := [(5, .int (nI (kv))), (0, .ref (b)), (1, .ref (ad (0))), (2, .ref (ad (80))), (3, .ref (ad (64))), (4, .int (nI (i)))]) hx hb dL_law_906 hl (by decide) rfl (fun ls hl => ?_)
  refine lv_aload_n hx hb dL_law_908 rfl (lv_at hl 3 rfl) ?_
  refine hv_calli (va_runV (As := []) (rest := []) ⟨hx, hb, hml, hown, hts⟩ (c_X4_bead l D N0 ad ct hM1 hO ) (cwV 0 hts gL_law_X4_bead rfl rfl rfl (by decide +kernel) ⟨Nat.le_of_ble_eq_true rfl, Nat.le_of_ble_eq_true rfl⟩) (hv_preV (r := (RX4, TX4, 15)) hKs hV hS hm0 rfl) rfl rfl hl.1 rfl (lv_room (Nat.le_of_ble_eq_true rfl)) dL_law_909 ⟨(show cells + 1 + 0 ≤ 601024 by omega), (show slots + 6 + 0 ≤ 7293033 by omega)⟩) hS (fun r9 u9 H locs hq hV hS => ?_)
  obtain ⟨ad, ct⟩ := u9
  dsimp only at hq
  obtain ⟨hz8, hz7, hfm⟩ := hq
  have hV : hv D N0 ad ct H := hV
  rw [← hkv] at hz8 hz7
  have hna := fun (q : Nat) (q1 : q ≠ 1) => (hfm q q1).1
  dsimp only at hna
  have hl : lv_has ls 9 [(5, .int (nI (kv))), (0, .ref (b)), (1, .ref (ad (0))), (2, .ref (ad (80))), (3, .ref (ad (64))), (4, .int (nI (i)))] := by rw [hna (0) (by omega), hna (80) (by omega), hna (64) (by omega)]; exact hl
  have hM2 : gM D σ1 kv ad ct := by
    rw [hσ1]
    by_cases hk0 : kv = 0
    · rw [if_pos hk0]; have h9 := (hz8 hk0).2; rw [hk0]; exact h9
    · rw [if_neg hk0]; exact hz7 hk0
  have hzz : kv = 0 → r9 = nI (gNB σ) := fun h => (hz8 h).1
  have hG1 : gX D σ1 ad ct := hG1.hFm (u := (ad, ct)) hfm
  have hout := ((hfm 64 (by omega)).2 (by omega)).trans hout
  obtain ⟨f1, f2, f3, f4, f5, f6, f7, f8, f9, ⟨hm0, hmr⟩, hme⟩ := id hM2
  refine lv_istore (lv' := [(6, .int (r9)), (5, .int (nI (kv))), (0, .ref (b)), (1, .ref (ad (0))), (2, .ref (ad (80))), (3, .ref (ad (64))), (4, .int (nI (i)))]) hx hb dL_law_912 hl (by decide) rfl (fun ls hl => ?_)
  refine lv_aload_n hx hb dL_law_914 rfl (lv_at hl 4 rfl) ?_
  refine hv_calli (va_runV (As := []) (rest := []) ⟨hx, hb, hml, hown, hts⟩ (c_X4_thrown l D N0 ad ct hM2 hO1) (cwV 0 hts gL_law_X4_thrown rfl rfl rfl (by decide +kernel) ⟨Nat.le_of_ble_eq_true rfl, Nat.le_of_ble_eq_true rfl⟩) (hv_preV (r := (RX4, TX4, 15)) hKs hV hS hm0 rfl) rfl rfl hl.1 rfl (lv_room (Nat.le_of_ble_eq_true rfl)) dL_law_915 ⟨(show cells + 1 + 0 ≤ 601024 by omega), (show slots + 6 + 0 ≤ 7293033 by omega)⟩) hS (fun r9 u9 H locs hq hV hS => ?_)
  obtain ⟨rfl, rfl⟩ := hq
  have hV : hv D N0 ad ct H := hV
  refine lv_iload hx hb dL_law_918 (lv_at hl 1 rfl) ?_
  refine hN_icmp_eq (tgt := 925) hx hb (by omega) (by omega) dL_law_920 (by decide) (fun c920 => ?_) (fun c920 => by exact absurd rfl c920)
  refine lv_iload hx hb dL_law_925 (lv_at hl 1 rfl) ?_
  refine hN_if_ne (tgt := 942) hx hb (by omega) dL_law_927 (by decide) (fun c927 => ?_) (fun c927 => ?_)
  · refine lv_goto (tgt := 1568) hx hb dL_law_942 (by decide) ?_
    refine lv_iinc (v := nI (i + 6)) (lv' := [(4, .int (nI (i + 6))), (6, .int (r9)), (5, .int (nI (kv))), (0, .ref (b)), (1, .ref (ad (0))), (2, .ref (ad (80))), (3, .ref (ad (64)))]) hx hb dL_law_1568 hl (k := 6) rfl (nI_add (i) 6) (by decide) rfl (fun ls hl => ?_)
    refine lv_goto (tgt := 23) hx hb dL_law_1571 (by decide) ?_
    refine W.widen (k := cells + 64) (n := slots + 400) (by omega) (by omega) ?_
    exact K _ _ _ _ _ ls ⟨hO1, hG1, ⟨_, hM2⟩, _, hout⟩ hV hS (lv_sub hl [3, 4, 5, 6, 0] rfl)
  · refine lv_aload_n hx hb dL_law_930 rfl (lv_at hl 5 rfl) ?_
    refine lv_iconst (v := nI 0) hx hb dL_law_931 (by decide) ?_
    refine hv_lald hx hb hKs hV hout (by omega) (by decide) dL_law_932 ?_
    refine lv_iload hx hb dL_law_933 (lv_at hl 0 rfl) ?_
    refine lv_i2l hx hb dL_law_935 rfl ?_
    refine W.lcmp hx hb dL_law_936 ?_
    refine hv_eqi (y := nI 0) (by rw [hfo c927, hzz c927]; exact lcmp_self _) ?_
    refine hN_if_eq (tgt := 942) hx hb (by omega) dL_law_937 (by decide) (fun c937 => ?_) (fun c937 => by exact absurd c937 (by omega))
    refine lv_goto (tgt := 1568) hx hb dL_law_942 (by decide) ?_
    refine lv_iinc (v := nI (i + 6)) (lv' := [(4, .int (nI (i + 6))), (6, .int (r9)), (5, .int (nI (kv))), (0, .ref (b)), (1, .ref (ad (0))), (2, .ref (ad (80))), (3, .ref (ad (64)))]) hx hb dL_law_1568 hl (k := 6) rfl (nI_add (i) 6) (by decide) rfl (fun ls hl => ?_)
    refine lv_goto (tgt := 23) hx hb dL_law_1571 (by decide) ?_
    refine W.widen (k := cells + 64) (n := slots + 400) (by omega) (by omega) ?_
    exact K _ _ _ _ _ ls ⟨hO1, hG1, ⟨_, hM2⟩, _, hout⟩ hV hS (lv_sub hl [3, 4, 5, 6, 0] rfl)

set_option maxHeartbeats 4000000 in
set_option maxRecDepth 100000 in
theorem L_set {p : Program} {l : Launch} {e : Env} {s : State} {m : MethodId} {below : List Frame} {meth : Method} {c : Code} {b L N0 : Nat} {xs : Nat → Int32} {Q : State → Prop} (hfl : l.stackTraces = false) (hts : ∀ w ∈ wsL_law, w.before #[Value.ref b] s = true) (hx : p.tables.exec = Jvm.exec) (hb : c.code = code) (hml : c.maxLocals = 9) (hown : s.vm.findClass RL = some m.cls) (hX : va_X b L xs s s.heap) (hbl : b < s.heap.size) (hbA : ¬ hA N0 b) (hL : L ≤ 3072) {D : hG} (hKs : hK D N0 s)
    {σ : gS} {ad : Nat → Nat} {ct : hC} (hI : gL D σ ad ct) {H : Heap} {locs : List Loc} {cells slots i : Nat} (hV : hv D N0 ad ct H) (hS : va_S (hA N0) s.heap H locs) {ls : Array Slot} (hi : i + 6 ≤ L) (hl : lv_has ls 9 [(0, .ref b), (1, .ref (ad 0)), (2, .ref (ad 80)), (3, .ref (ad 64)), (4, .int (nI i))]) (hr1 : cells + 64 ≤ 601024) (hr2 : slots + 400 ≤ 7293033)
    (K : ∀ (σ1 : gS) (ad1 : Nat → Nat) (ct1 : hC) (H1 : Heap) (locs1 : List Loc) (ls1 : Array Slot), gL D σ1 ad1 ct1 → hv D N0 ad1 ct1 H1 → va_S (hA N0) s.heap H1 locs1 → lv_has ls1 9 [(0, .ref b), (1, .ref (ad1 0)), (2, .ref (ad1 80)), (3, .ref (ad1 64)), (4, .int (nI (i + 6)))] → W p l e room_1 s m #[Value.ref b] below meth c H1 locs1 (cells + 64) (slots + 400) Q (F0 m 23 ls1 [])) : W p l e room_1 s m #[Value.ref b] below meth c H locs cells slots Q (F0 m 945 ls []) := by
  obtain ⟨hO, hG, ⟨th, hM⟩, fo, hout⟩ := hI
  obtain ⟨hn8, hn60, hn6, -⟩ := id hO
  refine lv_aload_n hx hb dL_law_945 rfl (lv_at hl 1 rfl) ?_
  refine lv_aload_n hx hb dL_law_946 rfl (lv_at hl 0 rfl) ?_
  refine lv_iload hx hb dL_law_947 (lv_at hl 4 rfl) ?_
  refine lv_iconst (v := nI 1) hx hb dL_law_949 (by decide) ?_
  refine hN_iadd hx hb dL_law_950 ?_
  refine va_sld hx hb hX hbl hbA hS (nI_in (by omega) (by omega)) dL_law_951 ?_
  refine hv_eqi (y := xs (i + 1)) (by rw [nI_clamp (by omega)]) ?_
  refine lv_aload_n hx hb dL_law_952 rfl (lv_at hl 0 rfl) ?_
  refine lv_iload hx hb dL_law_953 (lv_at hl 4 rfl) ?_
  refine lv_iconst (v := nI 2) hx hb dL_law_955 (by decide) ?_
  refine hN_iadd hx hb dL_law_956 ?_
  refine va_sld hx hb hX hbl hbA hS (nI_in (by omega) (by omega)) dL_law_957 ?_
  refine hv_eqi (y := xs (i + 2)) (by rw [nI_clamp (by omega)]) ?_
  refine lv_aload_n hx hb dL_law_958 rfl (lv_at hl 0 rfl) ?_
  refine lv_iload hx hb dL_law_959 (lv_at hl 4 rfl) ?_
  refine lv_iconst (v := nI 3) hx hb dL_law_961 (by decide) ?_
  refine hN_iadd hx hb dL_law_962 ?_
  refine va_sld hx hb hX hbl hbA hS (nI_in (by omega) (by omega)) dL_law_963 ?_
  refine hv_eqi (y := xs (i + 3)) (by rw [nI_clamp (by omega)]) ?_
  refine lv_aload_n hx hb dL_law_964 rfl (lv_at hl 0 rfl) ?_
  refine lv_iload hx hb dL_law_965 (lv_at hl 4 rfl) ?_
  refine lv_iconst (v := nI 4) hx hb dL_law_967 (by decide) ?_
  refine hN_iadd hx hb dL_law_968 ?_
  refine va_sld hx hb hX hbl hbA hS (nI_in (by omega) (by omega)) dL_law_969 ?_
  refine hv_eqi (y := xs (i + 4)) (by rw [nI_clamp (by omega)]) ?_
  refine lv_aload_n hx hb dL_law_970 rfl (lv_at hl 3 rfl) ?_
  refine hv_calli (vx_runSW (hh := [(0, 14, 17, 19), (0, 14, 21, 21), (0, 14, 25, 13)]) (As := [.ref (ad (0)), .int (xs (i + 1)), .int (xs (i + 2)), .int (xs (i + 3)), .int (xs (i + 4)), .ref (ad (64))]) (rest := []) ⟨hx, hb, hml, hown, hts⟩ (c_L_set l D N0 ad ct hfl hG hO ((xs (i + 1))) ((xs (i + 2))) ((xs (i + 3))) ((xs (i + 4))) hout) (vx_cwSW (hh := [(0, 14, 17, 19), (0, 14, 21, 21), (0, 14, 25, 13)]) 6 hts gL_law_L_set rfl rfl rfl (by decide +kernel) ⟨Nat.le_of_ble_eq_true rfl, Nat.le_of_ble_eq_true rfl⟩) (hv_preS hKs hV hS) rfl rfl hl.1 rfl (lv_room (Nat.le_of_ble_eq_true rfl)) dL_law_971 ⟨(show cells + 1 ≤ 601024 by omega), (show slots + 6 ≤ 7293033 by omega)⟩) hS (fun r9 u9 H locs hq hV hS => ?_)
  obtain ⟨ad, ct⟩ := u9
  obtain ⟨hz9, hw0, hw1, hwf⟩ := hq
  dsimp only at hw0 hw1 hwf
  have hV : hv D N0 ad ct H := hV
  have hna := fun (q : Nat) (q1 : q % 16 = 0) => (hwf q q1).1
  have hl : lv_has ls 9 [(0, .ref (b)), (1, .ref (ad (0))), (2, .ref (ad (80))), (3, .ref (ad (64))), (4, .int (nI (i)))] := by rw [hna (0) (by omega), hna (80) (by omega), hna (64) (by omega)]; exact hl
  obtain ⟨kv, hkv⟩ : ∃ z, z = k_set σ (xs (i + 1)) (xs (i + 2)) (xs (i + 3)) (xs (i + 4)) := ⟨_, rfl⟩
  rw [← hkv] at hz9 hw0 hw1
  have hkb : kv ≤ 3 := by rw [hkv]; unfold k_set; (repeat' split) <;> omega
  refine hv_eqi (y := nI kv) hz9 ?_
  obtain ⟨σ1, hσ1⟩ : ∃ z, z = (if kv = 0 then s_set σ (4 * (xs (i + 1)).toInt.toNat + (xs (i + 2)).toInt.toNat) (xs (i + 3)).toInt.toNat (xs (i + 4)).toInt.toNat else σ) := ⟨_, rfl⟩
  have hG1 : gX D σ1 ad ct := by
    rw [hσ1]
    by_cases hk0 : kv = 0
    · rw [if_pos hk0]; exact (hw0 hk0).1
    · rw [if_neg hk0]; exact (hw1 hk0).1
  have hO1 : okS σ1 := by
    rw [hσ1]
    by_cases hk0 : kv = 0
    · rw [if_pos hk0]; exact okk_set hO (by rw [← hkv]; exact hk0)
    · rw [if_neg hk0]; exact hO
  obtain ⟨fo, hout, hfo⟩ : ∃ fo : Nat → Int64, ct 64 = some (eL D 1 fo) ∧ (kv = 0 → fo 0 = (nI (nsm (fun k => ie (s_set σ (4 * (xs (i + 1)).toInt.toNat + (xs (i + 2)).toInt.toNat) (xs (i + 3)).toInt.toNat (xs (i + 4)).toInt.toNat) (4 * (xs (i + 1)).toInt.toNat + k)) 4)).toInt64) := by
    by_cases hk0 : kv = 0
    · obtain ⟨f, h8, h9⟩ := (hw0 hk0).2
      exact ⟨f, h8, fun _ => h9⟩
    · obtain ⟨f, h8⟩ := (hw1 hk0).2
      exact ⟨f, h8, fun h => absurd h hk0⟩
  have hM1 : gM D σ th ad ct := hM.wP (u := (ad, ct)) hwf
  obtain ⟨f1, f2, f3, f4, f5, f6, f7, f8, f9, ⟨hm0, hm1, hm2, hm3, hm4, hm5, hm6, hm7, hm8, hm9⟩, hme⟩ := id hM1
  obtain ⟨em1, em2, em3, em4, em5, em6, em7, em8, em9⟩ := id hme
  refine lv_istore (lv' := [(5, .int (nI (kv))), (0, .ref (b)), (1, .ref (ad (0))), (2, .ref (ad (80))), (3, .ref (ad (64))), (4, .int (nI (i)))]) hx hb dL_law_974 hl (by decide) rfl (fun ls hl => ?_)
  refine lv_aload_n hx hb dL_law_976 rfl (lv_at hl 3 rfl) ?_
  refine lv_aload_n hx hb dL_law_977 rfl (lv_at hl 1 rfl) ?_
  refine lv_iload hx hb dL_law_978 (lv_at hl 5 rfl) ?_
  refine lv_iconst (v := nI 1) hx hb dL_law_980 (by decide) ?_
  refine hN_iadd hx hb dL_law_981 ?_
  refine va_sld hx hb hX hbl hbA hS (nI_in (by omega) (by omega)) dL_law_982 ?_
  refine hv_eqi (y := xs (i + 1)) (by rw [nI_clamp (by omega)]) ?_
  refine lv_aload_n hx hb dL_law_983 rfl (lv_at hl 1 rfl) ?_
  refine lv_iload hx hb dL_law_984 (lv_at hl 5 rfl) ?_
  refine lv_iconst (v := nI 2) hx hb dL_law_986 (by decide) ?_
  refine hN_iadd hx hb dL_law_987 ?_
  refine va_sld hx hb hX hbl hbA hS (nI_in (by omega) (by omega)) dL_law_988 ?_
  refine hv_eqi (y := xs (i + 2)) (by rw [nI_clamp (by omega)]) ?_
  refine lv_aload_n hx hb dL_law_989 rfl (lv_at hl 1 rfl) ?_
  refine lv_iload hx hb dL_law_990 (lv_at hl 5 rfl) ?_
  refine lv_iconst (v := nI 3) hx hb dL_law_992 (by decide) ?_
  refine hN_iadd hx hb dL_law_993 ?_
  refine va_sld hx hb hX hbl hbA hS (nI_in (by omega) (by omega)) dL_law_994 ?_
  refine hv_eqi (y := xs (i + 3)) (by rw [nI_clamp (by omega)]) ?_
  refine lv_aload_n hx hb dL_law_995 rfl (lv_at hl 1 rfl) ?_
  refine lv_iload hx hb dL_law_996 (lv_at hl 5 rfl) ?_
  refine lv_iconst (v := nI 4) hx hb dL_law_998 (by decide) ?_
  refine hN_iadd hx hb dL_law_999 ?_
  refine va_sld hx hb hX hbl hbA hS (nI_in (by omega) (by omega)) dL_law_1000 ?_
  refine hv_eqi (y := xs (i + 4)) (by rw [nI_clamp (by omega)]) ?_
  refine hv_calli (va_runV (As := [.int (xs (i + 1)), .int (xs (i + 2)), .int (xs (i + 3)), .int (xs (i + 4))]) (rest := []) ⟨hx, hb, hml, hown, hts⟩ (c_X4_set l D N0 ad ct hM1 hO ((xs (i + 1))) ((xs (i + 2))) ((xs (i + 3))) ((xs (i + 4)))) (cwV 4 hts gL_law_X4_set rfl rfl rfl (by decide +kernel) ⟨Nat.le_of_ble_eq_true rfl, Nat.le_of_ble_eq_true rfl⟩) (hv_preV (r := (RX4, TX4, 15)) hKs hV hS hm0 rfl) rfl rfl hl.1 rfl (lv_room (Nat.le_of_ble_eq_true rfl)) dL_law_1001 ⟨(show cells + 1 + 0 ≤ 601024 by omega), (show slots + 6 + 0 ≤ 7293033 by omega)⟩) hS (fun r9 u9 H locs hq hV hS => ?_)
  obtain ⟨ad, ct⟩ := u9
  dsimp only at hq
  obtain ⟨hz8, hz7, hfm⟩ := hq
  have hV : hv D N0 ad ct H := hV
  rw [← hkv] at hz8 hz7
  have hna := fun (q : Nat) (q1 : q ≠ 1) => (hfm q q1).1
  dsimp only at hna
  have hl : lv_has ls 9 [(5, .int (nI (kv))), (0, .ref (b)), (1, .ref (ad (0))), (2, .ref (ad (80))), (3, .ref (ad (64))), (4, .int (nI (i)))] := by rw [hna (0) (by omega), hna (80) (by omega), hna (64) (by omega)]; exact hl
  have hM2 : gM D σ1 kv ad ct := by
    rw [hσ1]
    by_cases hk0 : kv = 0
    · rw [if_pos hk0]; have h9 := (hz8 hk0).2; rw [hk0]; exact h9
    · rw [if_neg hk0]; exact hz7 hk0
  have hzz : kv = 0 → r9 = nI (nsm (fun k => ie (s_set σ (4 * (xs (i + 1)).toInt.toNat + (xs (i + 2)).toInt.toNat) (xs (i + 3)).toInt.toNat (xs (i + 4)).toInt.toNat) (4 * (xs (i + 1)).toInt.toNat + k)) 4) := fun h => (hz8 h).1
  have hG1 : gX D σ1 ad ct := hG1.hFm (u := (ad, ct)) hfm
  have hout := ((hfm 64 (by omega)).2 (by omega)).trans hout
  obtain ⟨f1, f2, f3, f4, f5, f6, f7, f8, f9, ⟨hm0, hmr⟩, hme⟩ := id hM2
  refine lv_istore (lv' := [(6, .int (r9)), (5, .int (nI (kv))), (0, .ref (b)), (1, .ref (ad (0))), (2, .ref (ad (80))), (3, .ref (ad (64))), (4, .int (nI (i)))]) hx hb dL_law_1004 hl (by decide) rfl (fun ls hl => ?_)
  refine lv_aload_n hx hb dL_law_1006 rfl (lv_at hl 4 rfl) ?_
  refine hv_calli (va_runV (As := []) (rest := []) ⟨hx, hb, hml, hown, hts⟩ (c_X4_thrown l D N0 ad ct hM2 hO1) (cwV 0 hts gL_law_X4_thrown rfl rfl rfl (by decide +kernel) ⟨Nat.le_of_ble_eq_true rfl, Nat.le_of_ble_eq_true rfl⟩) (hv_preV (r := (RX4, TX4, 15)) hKs hV hS hm0 rfl) rfl rfl hl.1 rfl (lv_room (Nat.le_of_ble_eq_true rfl)) dL_law_1007 ⟨(show cells + 1 + 0 ≤ 601024 by omega), (show slots + 6 + 0 ≤ 7293033 by omega)⟩) hS (fun r9 u9 H locs hq hV hS => ?_)
  obtain ⟨rfl, rfl⟩ := hq
  have hV : hv D N0 ad ct H := hV
  refine lv_iload hx hb dL_law_1010 (lv_at hl 1 rfl) ?_
  refine hN_icmp_eq (tgt := 1017) hx hb (by omega) (by omega) dL_law_1012 (by decide) (fun c1012 => ?_) (fun c1012 => by exact absurd rfl c1012)
  refine lv_iload hx hb dL_law_1017 (lv_at hl 1 rfl) ?_
  refine hN_if_ne (tgt := 1034) hx hb (by omega) dL_law_1019 (by decide) (fun c1019 => ?_) (fun c1019 => ?_)
  · refine lv_goto (tgt := 1568) hx hb dL_law_1034 (by decide) ?_
    refine lv_iinc (v := nI (i + 6)) (lv' := [(4, .int (nI (i + 6))), (6, .int (r9)), (5, .int (nI (kv))), (0, .ref (b)), (1, .ref (ad (0))), (2, .ref (ad (80))), (3, .ref (ad (64)))]) hx hb dL_law_1568 hl (k := 6) rfl (nI_add (i) 6) (by decide) rfl (fun ls hl => ?_)
    refine lv_goto (tgt := 23) hx hb dL_law_1571 (by decide) ?_
    refine W.widen (k := cells + 64) (n := slots + 400) (by omega) (by omega) ?_
    exact K _ _ _ _ _ ls ⟨hO1, hG1, ⟨_, hM2⟩, _, hout⟩ hV hS (lv_sub hl [3, 4, 5, 6, 0] rfl)
  · refine lv_aload_n hx hb dL_law_1022 rfl (lv_at hl 5 rfl) ?_
    refine lv_iconst (v := nI 0) hx hb dL_law_1023 (by decide) ?_
    refine hv_lald hx hb hKs hV hout (by omega) (by decide) dL_law_1024 ?_
    refine lv_iload hx hb dL_law_1025 (lv_at hl 0 rfl) ?_
    refine lv_i2l hx hb dL_law_1027 rfl ?_
    refine W.lcmp hx hb dL_law_1028 ?_
    refine hv_eqi (y := nI 0) (by rw [hfo c1019, hzz c1019]; exact lcmp_self _) ?_
    refine hN_if_eq (tgt := 1034) hx hb (by omega) dL_law_1029 (by decide) (fun c1029 => ?_) (fun c1029 => by exact absurd c1029 (by omega))
    refine lv_goto (tgt := 1568) hx hb dL_law_1034 (by decide) ?_
    refine lv_iinc (v := nI (i + 6)) (lv' := [(4, .int (nI (i + 6))), (6, .int (r9)), (5, .int (nI (kv))), (0, .ref (b)), (1, .ref (ad (0))), (2, .ref (ad (80))), (3, .ref (ad (64)))]) hx hb dL_law_1568 hl (k := 6) rfl (nI_add (i) 6) (by decide) rfl (fun ls hl => ?_)
    refine lv_goto (tgt := 23) hx hb dL_law_1571 (by decide) ?_
    refine W.widen (k := cells + 64) (n := slots + 400) (by omega) (by omega) ?_
    exact K _ _ _ _ _ ls ⟨hO1, hG1, ⟨_, hM2⟩, _, hout⟩ hV hS (lv_sub hl [3, 4, 5, 6, 0] rfl)

set_option maxHeartbeats 4000000 in
set_option maxRecDepth 100000 in
theorem L_drop {p : Program} {l : Launch} {e : Env} {s : State} {m : MethodId} {below : List Frame} {meth : Method} {c : Code} {b L N0 : Nat} {xs : Nat → Int32} {Q : State → Prop} (hfl : l.stackTraces = false) (hts : ∀ w ∈ wsL_law, w.before #[Value.ref b] s = true) (hx : p.tables.exec = Jvm.exec) (hb : c.code = code) (hml : c.maxLocals = 9) (hown : s.vm.findClass RL = some m.cls) (hX : va_X b L xs s s.heap) (hbl : b < s.heap.size) (hbA : ¬ hA N0 b) (hL : L ≤ 3072) {D : hG} (hKs : hK D N0 s)
    {σ : gS} {ad : Nat → Nat} {ct : hC} (hI : gL D σ ad ct) {H : Heap} {locs : List Loc} {cells slots i : Nat} (hV : hv D N0 ad ct H) (hS : va_S (hA N0) s.heap H locs) {ls : Array Slot} (hi : i + 6 ≤ L) (hl : lv_has ls 9 [(0, .ref b), (1, .ref (ad 0)), (2, .ref (ad 80)), (3, .ref (ad 64)), (4, .int (nI i))]) (hr1 : cells + 64 ≤ 601024) (hr2 : slots + 400 ≤ 7293033)
    (K : ∀ (σ1 : gS) (ad1 : Nat → Nat) (ct1 : hC) (H1 : Heap) (locs1 : List Loc) (ls1 : Array Slot), gL D σ1 ad1 ct1 → hv D N0 ad1 ct1 H1 → va_S (hA N0) s.heap H1 locs1 → lv_has ls1 9 [(0, .ref b), (1, .ref (ad1 0)), (2, .ref (ad1 80)), (3, .ref (ad1 64)), (4, .int (nI (i + 6)))] → W p l e room_1 s m #[Value.ref b] below meth c H1 locs1 (cells + 64) (slots + 400) Q (F0 m 23 ls1 [])) : W p l e room_1 s m #[Value.ref b] below meth c H locs cells slots Q (F0 m 1037 ls []) := by
  obtain ⟨hO, hG, ⟨th, hM⟩, fo, hout⟩ := hI
  obtain ⟨hn8, hn60, hn6, -⟩ := id hO
  refine lv_aload_n hx hb dL_law_1037 rfl (lv_at hl 1 rfl) ?_
  refine lv_aload_n hx hb dL_law_1038 rfl (lv_at hl 0 rfl) ?_
  refine lv_iload hx hb dL_law_1039 (lv_at hl 4 rfl) ?_
  refine lv_iconst (v := nI 1) hx hb dL_law_1041 (by decide) ?_
  refine hN_iadd hx hb dL_law_1042 ?_
  refine va_sld hx hb hX hbl hbA hS (nI_in (by omega) (by omega)) dL_law_1043 ?_
  refine hv_eqi (y := xs (i + 1)) (by rw [nI_clamp (by omega)]) ?_
  refine lv_aload_n hx hb dL_law_1044 rfl (lv_at hl 0 rfl) ?_
  refine lv_iload hx hb dL_law_1045 (lv_at hl 4 rfl) ?_
  refine lv_iconst (v := nI 2) hx hb dL_law_1047 (by decide) ?_
  refine hN_iadd hx hb dL_law_1048 ?_
  refine va_sld hx hb hX hbl hbA hS (nI_in (by omega) (by omega)) dL_law_1049 ?_
  refine hv_eqi (y := xs (i + 2)) (by rw [nI_clamp (by omega)]) ?_
  refine lv_aload_n hx hb dL_law_1050 rfl (lv_at hl 3 rfl) ?_
  refine hv_calli (vx_runSW (hh := [(0, 10, 13, 19), (0, 10, 17, 13)]) (As := [.ref (ad (0)), .int (xs (i + 1)), .int (xs (i + 2)), .ref (ad (64))]) (rest := []) ⟨hx, hb, hml, hown, hts⟩ (c_L_drop l D N0 ad ct hfl hG hO ((xs (i + 1))) ((xs (i + 2))) hout) (vx_cwSW (hh := [(0, 10, 13, 19), (0, 10, 17, 13)]) 4 hts gL_law_L_drop rfl rfl rfl (by decide +kernel) ⟨Nat.le_of_ble_eq_true rfl, Nat.le_of_ble_eq_true rfl⟩) (hv_preS hKs hV hS) rfl rfl hl.1 rfl (lv_room (Nat.le_of_ble_eq_true rfl)) dL_law_1051 ⟨(show cells + 1 ≤ 601024 by omega), (show slots + 6 ≤ 7293033 by omega)⟩) hS (fun r9 u9 H locs hq hV hS => ?_)
  obtain ⟨ad, ct⟩ := u9
  obtain ⟨hz9, hw0, hw1, hwf⟩ := hq
  dsimp only at hw0 hw1 hwf
  have hV : hv D N0 ad ct H := hV
  have hna := fun (q : Nat) (q1 : q % 16 = 0) => (hwf q q1).1
  have hl : lv_has ls 9 [(0, .ref (b)), (1, .ref (ad (0))), (2, .ref (ad (80))), (3, .ref (ad (64))), (4, .int (nI (i)))] := by rw [hna (0) (by omega), hna (80) (by omega), hna (64) (by omega)]; exact hl
  obtain ⟨kv, hkv⟩ : ∃ z, z = k_drop σ (xs (i + 1)) (xs (i + 2)) := ⟨_, rfl⟩
  rw [← hkv] at hz9 hw0 hw1
  have hkb : kv ≤ 3 := by rw [hkv]; unfold k_drop; (repeat' split) <;> omega
  refine hv_eqi (y := nI kv) hz9 ?_
  obtain ⟨σ1, hσ1⟩ : ∃ z, z = (if kv = 0 then s_drop σ (4 * (xs (i + 1)).toInt.toNat + (xs (i + 2)).toInt.toNat) else σ) := ⟨_, rfl⟩
  have hG1 : gX D σ1 ad ct := by
    rw [hσ1]
    by_cases hk0 : kv = 0
    · rw [if_pos hk0]; exact (hw0 hk0).1
    · rw [if_neg hk0]; exact (hw1 hk0).1
  have hO1 : okS σ1 := by
    rw [hσ1]
    by_cases hk0 : kv = 0
    · rw [if_pos hk0]; exact okk_drop hO (by rw [← hkv]; exact hk0)
    · rw [if_neg hk0]; exact hO
  obtain ⟨fo, hout, hfo⟩ : ∃ fo : Nat → Int64, ct 64 = some (eL D 1 fo) ∧ (kv = 0 → fo 0 = (esl σ (4 * (xs (i + 1)).toInt.toNat + (xs (i + 2)).toInt.toNat)).toInt64) := by
    by_cases hk0 : kv = 0
    · obtain ⟨f, h8, h9⟩ := (hw0 hk0).2
      exact ⟨f, h8, fun _ => h9⟩
    · obtain ⟨f, h8⟩ := (hw1 hk0).2
      exact ⟨f, h8, fun h => absurd h hk0⟩
  have hM1 : gM D σ th ad ct := hM.wP (u := (ad, ct)) hwf
  obtain ⟨f1, f2, f3, f4, f5, f6, f7, f8, f9, ⟨hm0, hm1, hm2, hm3, hm4, hm5, hm6, hm7, hm8, hm9⟩, hme⟩ := id hM1
  obtain ⟨em1, em2, em3, em4, em5, em6, em7, em8, em9⟩ := id hme
  refine lv_istore (lv' := [(5, .int (nI (kv))), (0, .ref (b)), (1, .ref (ad (0))), (2, .ref (ad (80))), (3, .ref (ad (64))), (4, .int (nI (i)))]) hx hb dL_law_1054 hl (by decide) rfl (fun ls hl => ?_)
  refine lv_aload_n hx hb dL_law_1056 rfl (lv_at hl 3 rfl) ?_
  refine lv_aload_n hx hb dL_law_1057 rfl (lv_at hl 1 rfl) ?_
  refine lv_iload hx hb dL_law_1058 (lv_at hl 5 rfl) ?_
  refine lv_iconst (v := nI 1) hx hb dL_law_1060 (by decide) ?_
  refine hN_iadd hx hb dL_law_1061 ?_
  refine va_sld hx hb hX hbl hbA hS (nI_in (by omega) (by omega)) dL_law_1062 ?_
  refine hv_eqi (y := xs (i + 1)) (by rw [nI_clamp (by omega)]) ?_
  refine lv_aload_n hx hb dL_law_1063 rfl (lv_at hl 1 rfl) ?_
  refine lv_iload hx hb dL_law_1064 (lv_at hl 5 rfl) ?_
  refine lv_iconst (v := nI 2) hx hb dL_law_1066 (by decide) ?_
  refine hN_iadd hx hb dL_law_1067 ?_
  refine va_sld hx hb hX hbl hbA hS (nI_in (by omega) (by omega)) dL_law_1068 ?_
  refine hv_eqi (y := xs (i + 2)) (by rw [nI_clamp (by omega)]) ?_
  refine hv_calli (va_runV (As := [.int (xs (i + 1)), .int (xs (i + 2))]) (rest := []) ⟨hx, hb, hml, hown, hts⟩ (c_X4_drop l D N0 ad ct hM1 hO ((xs (i + 1))) ((xs (i + 2)))) (cwV 2 hts gL_law_X4_drop rfl rfl rfl (by decide +kernel) ⟨Nat.le_of_ble_eq_true rfl, Nat.le_of_ble_eq_true rfl⟩) (hv_preV (r := (RX4, TX4, 15)) hKs hV hS hm0 rfl) rfl rfl hl.1 rfl (lv_room (Nat.le_of_ble_eq_true rfl)) dL_law_1069 ⟨(show cells + 1 + 0 ≤ 601024 by omega), (show slots + 6 + 0 ≤ 7293033 by omega)⟩) hS (fun r9 u9 H locs hq hV hS => ?_)
  obtain ⟨ad, ct⟩ := u9
  dsimp only at hq
  obtain ⟨hz8, hz7, hfm⟩ := hq
  have hV : hv D N0 ad ct H := hV
  rw [← hkv] at hz8 hz7
  have hna := fun (q : Nat) (q1 : q ≠ 1) => (hfm q q1).1
  dsimp only at hna
  have hl : lv_has ls 9 [(5, .int (nI (kv))), (0, .ref (b)), (1, .ref (ad (0))), (2, .ref (ad (80))), (3, .ref (ad (64))), (4, .int (nI (i)))] := by rw [hna (0) (by omega), hna (80) (by omega), hna (64) (by omega)]; exact hl
  have hM2 : gM D σ1 kv ad ct := by
    rw [hσ1]
    by_cases hk0 : kv = 0
    · rw [if_pos hk0]; have h9 := (hz8 hk0).2; rw [hk0]; exact h9
    · rw [if_neg hk0]; exact hz7 hk0
  have hzz : kv = 0 → r9 = esl σ (4 * (xs (i + 1)).toInt.toNat + (xs (i + 2)).toInt.toNat) := fun h => (hz8 h).1
  have hG1 : gX D σ1 ad ct := hG1.hFm (u := (ad, ct)) hfm
  have hout := ((hfm 64 (by omega)).2 (by omega)).trans hout
  obtain ⟨f1, f2, f3, f4, f5, f6, f7, f8, f9, ⟨hm0, hmr⟩, hme⟩ := id hM2
  refine lv_istore (lv' := [(6, .int (r9)), (5, .int (nI (kv))), (0, .ref (b)), (1, .ref (ad (0))), (2, .ref (ad (80))), (3, .ref (ad (64))), (4, .int (nI (i)))]) hx hb dL_law_1072 hl (by decide) rfl (fun ls hl => ?_)
  refine lv_aload_n hx hb dL_law_1074 rfl (lv_at hl 4 rfl) ?_
  refine hv_calli (va_runV (As := []) (rest := []) ⟨hx, hb, hml, hown, hts⟩ (c_X4_thrown l D N0 ad ct hM2 hO1) (cwV 0 hts gL_law_X4_thrown rfl rfl rfl (by decide +kernel) ⟨Nat.le_of_ble_eq_true rfl, Nat.le_of_ble_eq_true rfl⟩) (hv_preV (r := (RX4, TX4, 15)) hKs hV hS hm0 rfl) rfl rfl hl.1 rfl (lv_room (Nat.le_of_ble_eq_true rfl)) dL_law_1075 ⟨(show cells + 1 + 0 ≤ 601024 by omega), (show slots + 6 + 0 ≤ 7293033 by omega)⟩) hS (fun r9 u9 H locs hq hV hS => ?_)
  obtain ⟨rfl, rfl⟩ := hq
  have hV : hv D N0 ad ct H := hV
  refine lv_iload hx hb dL_law_1078 (lv_at hl 1 rfl) ?_
  refine hN_icmp_eq (tgt := 1085) hx hb (by omega) (by omega) dL_law_1080 (by decide) (fun c1080 => ?_) (fun c1080 => by exact absurd rfl c1080)
  refine lv_iload hx hb dL_law_1085 (lv_at hl 1 rfl) ?_
  refine hN_if_ne (tgt := 1102) hx hb (by omega) dL_law_1087 (by decide) (fun c1087 => ?_) (fun c1087 => ?_)
  · refine lv_goto (tgt := 1568) hx hb dL_law_1102 (by decide) ?_
    refine lv_iinc (v := nI (i + 6)) (lv' := [(4, .int (nI (i + 6))), (6, .int (r9)), (5, .int (nI (kv))), (0, .ref (b)), (1, .ref (ad (0))), (2, .ref (ad (80))), (3, .ref (ad (64)))]) hx hb dL_law_1568 hl (k := 6) rfl (nI_add (i) 6) (by decide) rfl (fun ls hl => ?_)
    refine lv_goto (tgt := 23) hx hb dL_law_1571 (by decide) ?_
    refine W.widen (k := cells + 64) (n := slots + 400) (by omega) (by omega) ?_
    exact K _ _ _ _ _ ls ⟨hO1, hG1, ⟨_, hM2⟩, _, hout⟩ hV hS (lv_sub hl [3, 4, 5, 6, 0] rfl)
  · refine lv_aload_n hx hb dL_law_1090 rfl (lv_at hl 5 rfl) ?_
    refine lv_iconst (v := nI 0) hx hb dL_law_1091 (by decide) ?_
    refine hv_lald hx hb hKs hV hout (by omega) (by decide) dL_law_1092 ?_
    refine lv_iload hx hb dL_law_1093 (lv_at hl 0 rfl) ?_
    refine lv_i2l hx hb dL_law_1095 rfl ?_
    refine W.lcmp hx hb dL_law_1096 ?_
    refine hv_eqi (y := nI 0) (by rw [hfo c1087, hzz c1087]; exact lcmp_self _) ?_
    refine hN_if_eq (tgt := 1102) hx hb (by omega) dL_law_1097 (by decide) (fun c1097 => ?_) (fun c1097 => by exact absurd c1097 (by omega))
    refine lv_goto (tgt := 1568) hx hb dL_law_1102 (by decide) ?_
    refine lv_iinc (v := nI (i + 6)) (lv' := [(4, .int (nI (i + 6))), (6, .int (r9)), (5, .int (nI (kv))), (0, .ref (b)), (1, .ref (ad (0))), (2, .ref (ad (80))), (3, .ref (ad (64)))]) hx hb dL_law_1568 hl (k := 6) rfl (nI_add (i) 6) (by decide) rfl (fun ls hl => ?_)
    refine lv_goto (tgt := 23) hx hb dL_law_1571 (by decide) ?_
    refine W.widen (k := cells + 64) (n := slots + 400) (by omega) (by omega) ?_
    exact K _ _ _ _ _ ls ⟨hO1, hG1, ⟨_, hM2⟩, _, hout⟩ hV hS (lv_sub hl [3, 4, 5, 6, 0] rfl)

set_option maxHeartbeats 4000000 in
set_option maxRecDepth 100000 in
theorem L_seen {p : Program} {l : Launch} {e : Env} {s : State} {m : MethodId} {below : List Frame} {meth : Method} {c : Code} {b L N0 : Nat} {xs : Nat → Int32} {Q : State → Prop} (hfl : l.stackTraces = false) (hts : ∀ w ∈ wsL_law, w.before #[Value.ref b] s = true) (hx : p.tables.exec = Jvm.exec) (hb : c.code = code) (hml : c.maxLocals = 9) (hown : s.vm.findClass RL = some m.cls) (hX : va_X b L xs s s.heap) (hbl : b < s.heap.size) (hbA : ¬ hA N0 b) (hL : L ≤ 3072) {D : hG} (hKs : hK D N0 s)
    {σ : gS} {ad : Nat → Nat} {ct : hC} (hI : gL D σ ad ct) {H : Heap} {locs : List Loc} {cells slots i : Nat} (hV : hv D N0 ad ct H) (hS : va_S (hA N0) s.heap H locs) {ls : Array Slot} (hi : i + 6 ≤ L) (hl : lv_has ls 9 [(0, .ref b), (1, .ref (ad 0)), (2, .ref (ad 80)), (3, .ref (ad 64)), (4, .int (nI i))]) (hr1 : cells + 64 ≤ 601024) (hr2 : slots + 400 ≤ 7293033)
    (K : ∀ (σ1 : gS) (ad1 : Nat → Nat) (ct1 : hC) (H1 : Heap) (locs1 : List Loc) (ls1 : Array Slot), gL D σ1 ad1 ct1 → hv D N0 ad1 ct1 H1 → va_S (hA N0) s.heap H1 locs1 → lv_has ls1 9 [(0, .ref b), (1, .ref (ad1 0)), (2, .ref (ad1 80)), (3, .ref (ad1 64)), (4, .int (nI (i + 6)))] → W p l e room_1 s m #[Value.ref b] below meth c H1 locs1 (cells + 64) (slots + 400) Q (F0 m 23 ls1 [])) : W p l e room_1 s m #[Value.ref b] below meth c H locs cells slots Q (F0 m 1105 ls []) := by
  obtain ⟨hO, hG, ⟨th, hM⟩, fo, hout⟩ := hI
  obtain ⟨hn8, hn60, hn6, -⟩ := id hO
  refine lv_aload_n hx hb dL_law_1105 rfl (lv_at hl 1 rfl) ?_
  refine lv_aload_n hx hb dL_law_1106 rfl (lv_at hl 0 rfl) ?_
  refine lv_iload hx hb dL_law_1107 (lv_at hl 4 rfl) ?_
  refine lv_iconst (v := nI 1) hx hb dL_law_1109 (by decide) ?_
  refine hN_iadd hx hb dL_law_1110 ?_
  refine va_sld hx hb hX hbl hbA hS (nI_in (by omega) (by omega)) dL_law_1111 ?_
  refine hv_eqi (y := xs (i + 1)) (by rw [nI_clamp (by omega)]) ?_
  refine lv_aload_n hx hb dL_law_1112 rfl (lv_at hl 0 rfl) ?_
  refine lv_iload hx hb dL_law_1113 (lv_at hl 4 rfl) ?_
  refine lv_iconst (v := nI 2) hx hb dL_law_1115 (by decide) ?_
  refine hN_iadd hx hb dL_law_1116 ?_
  refine va_sld hx hb hX hbl hbA hS (nI_in (by omega) (by omega)) dL_law_1117 ?_
  refine hv_eqi (y := xs (i + 2)) (by rw [nI_clamp (by omega)]) ?_
  refine lv_aload_n hx hb dL_law_1118 rfl (lv_at hl 0 rfl) ?_
  refine lv_iload hx hb dL_law_1119 (lv_at hl 4 rfl) ?_
  refine lv_iconst (v := nI 3) hx hb dL_law_1121 (by decide) ?_
  refine hN_iadd hx hb dL_law_1122 ?_
  refine va_sld hx hb hX hbl hbA hS (nI_in (by omega) (by omega)) dL_law_1123 ?_
  refine hv_eqi (y := xs (i + 3)) (by rw [nI_clamp (by omega)]) ?_
  refine lv_aload_n hx hb dL_law_1124 rfl (lv_at hl 0 rfl) ?_
  refine lv_iload hx hb dL_law_1125 (lv_at hl 4 rfl) ?_
  refine lv_iconst (v := nI 4) hx hb dL_law_1127 (by decide) ?_
  refine hN_iadd hx hb dL_law_1128 ?_
  refine va_sld hx hb hX hbl hbA hS (nI_in (by omega) (by omega)) dL_law_1129 ?_
  refine hv_eqi (y := xs (i + 4)) (by rw [nI_clamp (by omega)]) ?_
  refine lv_aload_n hx hb dL_law_1130 rfl (lv_at hl 3 rfl) ?_
  refine hv_calli (vx_runSW (hh := [(0, 14, 17, 19)]) (As := [.ref (ad (0)), .int (xs (i + 1)), .int (xs (i + 2)), .int (xs (i + 3)), .int (xs (i + 4)), .ref (ad (64))]) (rest := []) ⟨hx, hb, hml, hown, hts⟩ (c_L_seen l D N0 ad ct hfl hG hO ((xs (i + 1))) ((xs (i + 2))) ((xs (i + 3))) ((xs (i + 4))) hout) (vx_cwSW (hh := [(0, 14, 17, 19)]) 6 hts gL_law_L_seen rfl rfl rfl (by decide +kernel) ⟨Nat.le_of_ble_eq_true rfl, Nat.le_of_ble_eq_true rfl⟩) (hv_preS hKs hV hS) rfl rfl hl.1 rfl (lv_room (Nat.le_of_ble_eq_true rfl)) dL_law_1131 ⟨(show cells + 1 ≤ 601024 by omega), (show slots + 6 ≤ 7293033 by omega)⟩) hS (fun r9 u9 H locs hq hV hS => ?_)
  obtain ⟨ad, ct⟩ := u9
  obtain ⟨hz9, hw0, hw1, hwf⟩ := hq
  dsimp only at hw0 hw1 hwf
  have hV : hv D N0 ad ct H := hV
  have hna := fun (q : Nat) (q1 : q % 16 = 0) => (hwf q q1).1
  have hl : lv_has ls 9 [(0, .ref (b)), (1, .ref (ad (0))), (2, .ref (ad (80))), (3, .ref (ad (64))), (4, .int (nI (i)))] := by rw [hna (0) (by omega), hna (80) (by omega), hna (64) (by omega)]; exact hl
  obtain ⟨kv, hkv⟩ : ∃ z, z = k_seen σ (xs (i + 1)) (xs (i + 2)) (xs (i + 3)) (xs (i + 4)) := ⟨_, rfl⟩
  rw [← hkv] at hz9 hw0 hw1
  have hkb : kv ≤ 3 := by rw [hkv]; unfold k_seen; (repeat' split) <;> omega
  refine hv_eqi (y := nI kv) hz9 ?_
  obtain ⟨σ1, hσ1⟩ : ∃ z, z = (if kv = 0 then σ else σ) := ⟨_, rfl⟩
  have hG1 : gX D σ1 ad ct := by
    rw [hσ1]
    by_cases hk0 : kv = 0
    · rw [if_pos hk0]; exact (hw0 hk0).1
    · rw [if_neg hk0]; exact (hw1 hk0).1
  have hO1 : okS σ1 := by
    rw [hσ1]
    by_cases hk0 : kv = 0
    · rw [if_pos hk0]; exact hO
    · rw [if_neg hk0]; exact hO
  obtain ⟨fo, hout, hfo⟩ : ∃ fo : Nat → Int64, ct 64 = some (eL D 1 fo) ∧ (kv = 0 → fo 0 = (r_seen σ (4 * (xs (i + 1)).toInt.toNat + (xs (i + 2)).toInt.toNat) (8 * (xs (i + 3)).toInt.toNat + (xs (i + 4)).toInt.toNat)).toInt64) := by
    by_cases hk0 : kv = 0
    · obtain ⟨f, h8, h9⟩ := (hw0 hk0).2
      exact ⟨f, h8, fun _ => h9⟩
    · obtain ⟨f, h8⟩ := (hw1 hk0).2
      exact ⟨f, h8, fun h => absurd h hk0⟩
  have hM1 : gM D σ th ad ct := hM.wP (u := (ad, ct)) hwf
  obtain ⟨f1, f2, f3, f4, f5, f6, f7, f8, f9, ⟨hm0, hm1, hm2, hm3, hm4, hm5, hm6, hm7, hm8, hm9⟩, hme⟩ := id hM1
  obtain ⟨em1, em2, em3, em4, em5, em6, em7, em8, em9⟩ := id hme
  refine lv_istore (lv' := [(5, .int (nI (kv))), (0, .ref (b)), (1, .ref (ad (0))), (2, .ref (ad (80))), (3, .ref (ad (64))), (4, .int (nI (i)))]) hx hb dL_law_1134 hl (by decide) rfl (fun ls hl => ?_)
  refine lv_aload_n hx hb dL_law_1136 rfl (lv_at hl 3 rfl) ?_
  refine lv_aload_n hx hb dL_law_1137 rfl (lv_at hl 1 rfl) ?_
  refine lv_iload hx hb dL_law_1138 (lv_at hl 5 rfl) ?_
  refine lv_iconst (v := nI 1) hx hb dL_law_1140 (by decide) ?_
  refine hN_iadd hx hb dL_law_1141 ?_
  refine va_sld hx hb hX hbl hbA hS (nI_in (by omega) (by omega)) dL_law_1142 ?_
  refine hv_eqi (y := xs (i + 1)) (by rw [nI_clamp (by omega)]) ?_
  refine lv_aload_n hx hb dL_law_1143 rfl (lv_at hl 1 rfl) ?_
  refine lv_iload hx hb dL_law_1144 (lv_at hl 5 rfl) ?_
  refine lv_iconst (v := nI 2) hx hb dL_law_1146 (by decide) ?_
  refine hN_iadd hx hb dL_law_1147 ?_
  refine va_sld hx hb hX hbl hbA hS (nI_in (by omega) (by omega)) dL_law_1148 ?_
  refine hv_eqi (y := xs (i + 2)) (by rw [nI_clamp (by omega)]) ?_
  refine lv_aload_n hx hb dL_law_1149 rfl (lv_at hl 1 rfl) ?_
  refine lv_iload hx hb dL_law_1150 (lv_at hl 5 rfl) ?_
  refine lv_iconst (v := nI 3) hx hb dL_law_1152 (by decide) ?_
  refine hN_iadd hx hb dL_law_1153 ?_
  refine va_sld hx hb hX hbl hbA hS (nI_in (by omega) (by omega)) dL_law_1154 ?_
  refine hv_eqi (y := xs (i + 3)) (by rw [nI_clamp (by omega)]) ?_
  refine lv_aload_n hx hb dL_law_1155 rfl (lv_at hl 1 rfl) ?_
  refine lv_iload hx hb dL_law_1156 (lv_at hl 5 rfl) ?_
  refine lv_iconst (v := nI 4) hx hb dL_law_1158 (by decide) ?_
  refine hN_iadd hx hb dL_law_1159 ?_
  refine va_sld hx hb hX hbl hbA hS (nI_in (by omega) (by omega)) dL_law_1160 ?_
  refine hv_eqi (y := xs (i + 4)) (by rw [nI_clamp (by omega)]) ?_
  refine hv_calli (va_runV (As := [.int (xs (i + 1)), .int (xs (i + 2)), .int (xs (i + 3)), .int (xs (i + 4))]) (rest := []) ⟨hx, hb, hml, hown, hts⟩ (c_X4_seen l D N0 ad ct hM1 hO ((xs (i + 1))) ((xs (i + 2))) ((xs (i + 3))) ((xs (i + 4)))) (cwV 4 hts gL_law_X4_seen rfl rfl rfl (by decide +kernel) ⟨Nat.le_of_ble_eq_true rfl, Nat.le_of_ble_eq_true rfl⟩) (hv_preV (r := (RX4, TX4, 15)) hKs hV hS hm0 rfl) rfl rfl hl.1 rfl (lv_room (Nat.le_of_ble_eq_true rfl)) dL_law_1161 ⟨(show cells + 1 + 0 ≤ 601024 by omega), (show slots + 6 + 0 ≤ 7293033 by omega)⟩) hS (fun r9 u9 H locs hq hV hS => ?_)
  obtain ⟨ad, ct⟩ := u9
  dsimp only at hq
  obtain ⟨hz8, hM2, hfm⟩ := hq
  have hV : hv D N0 ad ct H := hV
  rw [← hkv] at hz8 hM2
  have hna := fun (q : Nat) (q1 : q ≠ 1) => (hfm q q1).1
  dsimp only at hna
  have hl : lv_has ls 9 [(5, .int (nI (kv))), (0, .ref (b)), (1, .ref (ad (0))), (2, .ref (ad (80))), (3, .ref (ad (64))), (4, .int (nI (i)))] := by rw [hna (0) (by omega), hna (80) (by omega), hna (64) (by omega)]; exact hl
  have hM2 : gM D σ1 kv ad ct := by
    rw [hσ1, ite_self]
    exact hM2
  have hzz := hz8
  have hG1 : gX D σ1 ad ct := hG1.hFm (u := (ad, ct)) hfm
  have hout := ((hfm 64 (by omega)).2 (by omega)).trans hout
  obtain ⟨f1, f2, f3, f4, f5, f6, f7, f8, f9, ⟨hm0, hmr⟩, hme⟩ := id hM2
  refine lv_istore (lv' := [(6, .int (r9)), (5, .int (nI (kv))), (0, .ref (b)), (1, .ref (ad (0))), (2, .ref (ad (80))), (3, .ref (ad (64))), (4, .int (nI (i)))]) hx hb dL_law_1164 hl (by decide) rfl (fun ls hl => ?_)
  refine lv_aload_n hx hb dL_law_1166 rfl (lv_at hl 4 rfl) ?_
  refine hv_calli (va_runV (As := []) (rest := []) ⟨hx, hb, hml, hown, hts⟩ (c_X4_thrown l D N0 ad ct hM2 hO1) (cwV 0 hts gL_law_X4_thrown rfl rfl rfl (by decide +kernel) ⟨Nat.le_of_ble_eq_true rfl, Nat.le_of_ble_eq_true rfl⟩) (hv_preV (r := (RX4, TX4, 15)) hKs hV hS hm0 rfl) rfl rfl hl.1 rfl (lv_room (Nat.le_of_ble_eq_true rfl)) dL_law_1167 ⟨(show cells + 1 + 0 ≤ 601024 by omega), (show slots + 6 + 0 ≤ 7293033 by omega)⟩) hS (fun r9 u9 H locs hq hV hS => ?_)
  obtain ⟨rfl, rfl⟩ := hq
  have hV : hv D N0 ad ct H := hV
  refine lv_iload hx hb dL_law_1170 (lv_at hl 1 rfl) ?_
  refine hN_icmp_eq (tgt := 1177) hx hb (by omega) (by omega) dL_law_1172 (by decide) (fun c1172 => ?_) (fun c1172 => by exact absurd rfl c1172)
  refine lv_iload hx hb dL_law_1177 (lv_at hl 1 rfl) ?_
  refine hN_if_ne (tgt := 1194) hx hb (by omega) dL_law_1179 (by decide) (fun c1179 => ?_) (fun c1179 => ?_)
  · refine lv_goto (tgt := 1568) hx hb dL_law_1194 (by decide) ?_
    refine lv_iinc (v := nI (i + 6)) (lv' := [(4, .int (nI (i + 6))), (6, .int (r9)), (5, .int (nI (kv))), (0, .ref (b)), (1, .ref (ad (0))), (2, .ref (ad (80))), (3, .ref (ad (64)))]) hx hb dL_law_1568 hl (k := 6) rfl (nI_add (i) 6) (by decide) rfl (fun ls hl => ?_)
    refine lv_goto (tgt := 23) hx hb dL_law_1571 (by decide) ?_
    refine W.widen (k := cells + 64) (n := slots + 400) (by omega) (by omega) ?_
    exact K _ _ _ _ _ ls ⟨hO1, hG1, ⟨_, hM2⟩, _, hout⟩ hV hS (lv_sub hl [3, 4, 5, 6, 0] rfl)
  · refine lv_aload_n hx hb dL_law_1182 rfl (lv_at hl 5 rfl) ?_
    refine lv_iconst (v := nI 0) hx hb dL_law_1183 (by decide) ?_
    refine hv_lald hx hb hKs hV hout (by omega) (by decide) dL_law_1184 ?_
    refine lv_iload hx hb dL_law_1185 (lv_at hl 0 rfl) ?_
    refine lv_i2l hx hb dL_law_1187 rfl ?_
    refine W.lcmp hx hb dL_law_1188 ?_
    refine hv_eqi (y := nI 0) (by rw [hfo c1179, hzz c1179]; exact lcmp_self _) ?_
    refine hN_if_eq (tgt := 1194) hx hb (by omega) dL_law_1189 (by decide) (fun c1189 => ?_) (fun c1189 => by exact absurd c1189 (by omega))
    refine lv_goto (tgt := 1568) hx hb dL_law_1194 (by decide) ?_
    refine lv_iinc (v := nI (i + 6)) (lv' := [(4, .int (nI (i + 6))), (6, .int (r9)), (5, .int (nI (kv))), (0, .ref (b)), (1, .ref (ad (0))), (2, .ref (ad (80))), (3, .ref (ad (64)))]) hx hb dL_law_1568 hl (k := 6) rfl (nI_add (i) 6) (by decide) rfl (fun ls hl => ?_)
    refine lv_goto (tgt := 23) hx hb dL_law_1571 (by decide) ?_
    refine W.widen (k := cells + 64) (n := slots + 400) (by omega) (by omega) ?_
    exact K _ _ _ _ _ ls ⟨hO1, hG1, ⟨_, hM2⟩, _, hout⟩ hV hS (lv_sub hl [3, 4, 5, 6, 0] rfl)

set_option maxHeartbeats 4000000 in
set_option maxRecDepth 100000 in
theorem L_count {p : Program} {l : Launch} {e : Env} {s : State} {m : MethodId} {below : List Frame} {meth : Method} {c : Code} {b L N0 : Nat} {xs : Nat → Int32} {Q : State → Prop} (hfl : l.stackTraces = false) (hts : ∀ w ∈ wsL_law, w.before #[Value.ref b] s = true) (hx : p.tables.exec = Jvm.exec) (hb : c.code = code) (hml : c.maxLocals = 9) (hown : s.vm.findClass RL = some m.cls) (hX : va_X b L xs s s.heap) (hbl : b < s.heap.size) (hbA : ¬ hA N0 b) (hL : L ≤ 3072) {D : hG} (hKs : hK D N0 s)
    {σ : gS} {ad : Nat → Nat} {ct : hC} (hI : gL D σ ad ct) {H : Heap} {locs : List Loc} {cells slots i : Nat} (hV : hv D N0 ad ct H) (hS : va_S (hA N0) s.heap H locs) {ls : Array Slot} (hi : i + 6 ≤ L) (hl : lv_has ls 9 [(0, .ref b), (1, .ref (ad 0)), (2, .ref (ad 80)), (3, .ref (ad 64)), (4, .int (nI i))]) (hr1 : cells + 64 ≤ 601024) (hr2 : slots + 400 ≤ 7293033)
    (K : ∀ (σ1 : gS) (ad1 : Nat → Nat) (ct1 : hC) (H1 : Heap) (locs1 : List Loc) (ls1 : Array Slot), gL D σ1 ad1 ct1 → hv D N0 ad1 ct1 H1 → va_S (hA N0) s.heap H1 locs1 → lv_has ls1 9 [(0, .ref b), (1, .ref (ad1 0)), (2, .ref (ad1 80)), (3, .ref (ad1 64)), (4, .int (nI (i + 6)))] → W p l e room_1 s m #[Value.ref b] below meth c H1 locs1 (cells + 64) (slots + 400) Q (F0 m 23 ls1 [])) : W p l e room_1 s m #[Value.ref b] below meth c H locs cells slots Q (F0 m 1197 ls []) := by
  obtain ⟨hO, hG, ⟨th, hM⟩, fo, hout⟩ := hI
  obtain ⟨hn8, hn60, hn6, -⟩ := id hO
  refine lv_aload_n hx hb dL_law_1197 rfl (lv_at hl 1 rfl) ?_
  refine lv_aload_n hx hb dL_law_1198 rfl (lv_at hl 0 rfl) ?_
  refine lv_iload hx hb dL_law_1199 (lv_at hl 4 rfl) ?_
  refine lv_iconst (v := nI 1) hx hb dL_law_1201 (by decide) ?_
  refine hN_iadd hx hb dL_law_1202 ?_
  refine va_sld hx hb hX hbl hbA hS (nI_in (by omega) (by omega)) dL_law_1203 ?_
  refine hv_eqi (y := xs (i + 1)) (by rw [nI_clamp (by omega)]) ?_
  refine lv_aload_n hx hb dL_law_1204 rfl (lv_at hl 3 rfl) ?_
  refine hv_calli (vx_runSW (hh := [(0, 9, 12, 19)]) (As := [.ref (ad (0)), .int (xs (i + 1)), .ref (ad (64))]) (rest := []) ⟨hx, hb, hml, hown, hts⟩ (c_L_count l D N0 ad ct hfl hG hO ((xs (i + 1))) hout) (vx_cwSW (hh := [(0, 9, 12, 19)]) 3 hts gL_law_L_count rfl rfl rfl (by decide +kernel) ⟨Nat.le_of_ble_eq_true rfl, Nat.le_of_ble_eq_true rfl⟩) (hv_preS hKs hV hS) rfl rfl hl.1 rfl (lv_room (Nat.le_of_ble_eq_true rfl)) dL_law_1205 ⟨(show cells + 1 ≤ 601024 by omega), (show slots + 6 ≤ 7293033 by omega)⟩) hS (fun r9 u9 H locs hq hV hS => ?_)
  obtain ⟨ad, ct⟩ := u9
  obtain ⟨hz9, hw0, hw1, hwf⟩ := hq
  dsimp only at hw0 hw1 hwf
  have hV : hv D N0 ad ct H := hV
  have hna := fun (q : Nat) (q1 : q % 16 = 0) => (hwf q q1).1
  have hl : lv_has ls 9 [(0, .ref (b)), (1, .ref (ad (0))), (2, .ref (ad (80))), (3, .ref (ad (64))), (4, .int (nI (i)))] := by rw [hna (0) (by omega), hna (80) (by omega), hna (64) (by omega)]; exact hl
  obtain ⟨kv, hkv⟩ : ∃ z, z = k_count (xs (i + 1)) := ⟨_, rfl⟩
  rw [← hkv] at hz9 hw0 hw1
  have hkb : kv ≤ 3 := by rw [hkv]; unfold k_count; (repeat' split) <;> omega
  refine hv_eqi (y := nI kv) hz9 ?_
  obtain ⟨σ1, hσ1⟩ : ∃ z, z = (if kv = 0 then σ else σ) := ⟨_, rfl⟩
  have hG1 : gX D σ1 ad ct := by
    rw [hσ1]
    by_cases hk0 : kv = 0
    · rw [if_pos hk0]; exact (hw0 hk0).1
    · rw [if_neg hk0]; exact (hw1 hk0).1
  have hO1 : okS σ1 := by
    rw [hσ1]
    by_cases hk0 : kv = 0
    · rw [if_pos hk0]; exact hO
    · rw [if_neg hk0]; exact hO
  obtain ⟨fo, hout, hfo⟩ : ∃ fo : Nat → Int64, ct 64 = some (eL D 1 fo) ∧ (kv = 0 → fo 0 = (tal σ (xs (i + 1)).toInt.toNat).toInt64) := by
    by_cases hk0 : kv = 0
    · obtain ⟨f, h8, h9⟩ := (hw0 hk0).2
      exact ⟨f, h8, fun _ => h9⟩
    · obtain ⟨f, h8⟩ := (hw1 hk0).2
      exact ⟨f, h8, fun h => absurd h hk0⟩
  have hM1 : gM D σ th ad ct := hM.wP (u := (ad, ct)) hwf
  obtain ⟨f1, f2, f3, f4, f5, f6, f7, f8, f9, ⟨hm0, hm1, hm2, hm3, hm4, hm5, hm6, hm7, hm8, hm9⟩, hme⟩ := id hM1
  obtain ⟨em1, em2, em3, em4, em5, em6, em7, em8, em9⟩ := id hme
  refine lv_istore (lv' := [(5, .int (nI (kv))), (0, .ref (b)), (1, .ref (ad (0))), (2, .ref (ad (80))), (3, .ref (ad (64))), (4, .int (nI (i)))]) hx hb dL_law_1208 hl (by decide) rfl (fun ls hl => ?_)
  refine lv_aload_n hx hb dL_law_1210 rfl (lv_at hl 3 rfl) ?_
  refine lv_aload_n hx hb dL_law_1211 rfl (lv_at hl 1 rfl) ?_
  refine lv_iload hx hb dL_law_1212 (lv_at hl 5 rfl) ?_
  refine lv_iconst (v := nI 1) hx hb dL_law_1214 (by decide) ?_
  refine hN_iadd hx hb dL_law_1215 ?_
  refine va_sld hx hb hX hbl hbA hS (nI_in (by omega) (by omega)) dL_law_1216 ?_
  refine hv_eqi (y := xs (i + 1)) (by rw [nI_clamp (by omega)]) ?_
  refine hv_calli (va_runV (As := [.int (xs (i + 1))]) (rest := []) ⟨hx, hb, hml, hown, hts⟩ (c_X4_count l D N0 ad ct hM1 hO ((xs (i + 1)))) (cwV 1 hts gL_law_X4_count rfl rfl rfl (by decide +kernel) ⟨Nat.le_of_ble_eq_true rfl, Nat.le_of_ble_eq_true rfl⟩) (hv_preV (r := (RX4, TX4, 15)) hKs hV hS hm0 rfl) rfl rfl hl.1 rfl (lv_room (Nat.le_of_ble_eq_true rfl)) dL_law_1217 ⟨(show cells + 1 + 1 ≤ 601024 by omega), (show slots + 6 + 8 ≤ 7293033 by omega)⟩) hS (fun r9 u9 H locs hq hV hS => ?_)
  obtain ⟨ad, ct⟩ := u9
  dsimp only at hq
  obtain ⟨hz8, hM2, hfm⟩ := hq
  have hV : hv D N0 ad ct H := hV
  rw [← hkv] at hz8 hM2
  have hna := fun (q : Nat) (q1 : q ≠ 1) => (hfm q q1).1
  dsimp only at hna
  have hl : lv_has ls 9 [(5, .int (nI (kv))), (0, .ref (b)), (1, .ref (ad (0))), (2, .ref (ad (80))), (3, .ref (ad (64))), (4, .int (nI (i)))] := by rw [hna (0) (by omega), hna (80) (by omega), hna (64) (by omega)]; exact hl
  have hM2 : gM D σ1 kv ad ct := by
    rw [hσ1, ite_self]
    exact hM2
  have hzz := hz8
  have hG1 : gX D σ1 ad ct := hG1.hFm (u := (ad, ct)) hfm
  have hout := ((hfm 64 (by omega)).2 (by omega)).trans hout
  obtain ⟨f1, f2, f3, f4, f5, f6, f7, f8, f9, ⟨hm0, hmr⟩, hme⟩ := id hM2
  refine lv_istore (lv' := [(6, .int (r9)), (5, .int (nI (kv))), (0, .ref (b)), (1, .ref (ad (0))), (2, .ref (ad (80))), (3, .ref (ad (64))), (4, .int (nI (i)))]) hx hb dL_law_1220 hl (by decide) rfl (fun ls hl => ?_)
  refine lv_aload_n hx hb dL_law_1222 rfl (lv_at hl 4 rfl) ?_
  refine hv_calli (va_runV (As := []) (rest := []) ⟨hx, hb, hml, hown, hts⟩ (c_X4_thrown l D N0 ad ct hM2 hO1) (cwV 0 hts gL_law_X4_thrown rfl rfl rfl (by decide +kernel) ⟨Nat.le_of_ble_eq_true rfl, Nat.le_of_ble_eq_true rfl⟩) (hv_preV (r := (RX4, TX4, 15)) hKs hV hS hm0 rfl) rfl rfl hl.1 rfl (lv_room (Nat.le_of_ble_eq_true rfl)) dL_law_1223 ⟨(show cells + 1 + 1 + 0 ≤ 601024 by omega), (show slots + 6 + 8 + 0 ≤ 7293033 by omega)⟩) hS (fun r9 u9 H locs hq hV hS => ?_)
  obtain ⟨rfl, rfl⟩ := hq
  have hV : hv D N0 ad ct H := hV
  refine lv_iload hx hb dL_law_1226 (lv_at hl 1 rfl) ?_
  refine hN_icmp_eq (tgt := 1233) hx hb (by omega) (by omega) dL_law_1228 (by decide) (fun c1228 => ?_) (fun c1228 => by exact absurd rfl c1228)
  refine lv_iload hx hb dL_law_1233 (lv_at hl 1 rfl) ?_
  refine hN_if_ne (tgt := 1250) hx hb (by omega) dL_law_1235 (by decide) (fun c1235 => ?_) (fun c1235 => ?_)
  · refine lv_goto (tgt := 1568) hx hb dL_law_1250 (by decide) ?_
    refine lv_iinc (v := nI (i + 6)) (lv' := [(4, .int (nI (i + 6))), (6, .int (r9)), (5, .int (nI (kv))), (0, .ref (b)), (1, .ref (ad (0))), (2, .ref (ad (80))), (3, .ref (ad (64)))]) hx hb dL_law_1568 hl (k := 6) rfl (nI_add (i) 6) (by decide) rfl (fun ls hl => ?_)
    refine lv_goto (tgt := 23) hx hb dL_law_1571 (by decide) ?_
    refine W.widen (k := cells + 64) (n := slots + 400) (by omega) (by omega) ?_
    exact K _ _ _ _ _ ls ⟨hO1, hG1, ⟨_, hM2⟩, _, hout⟩ hV hS (lv_sub hl [3, 4, 5, 6, 0] rfl)
  · refine lv_aload_n hx hb dL_law_1238 rfl (lv_at hl 5 rfl) ?_
    refine lv_iconst (v := nI 0) hx hb dL_law_1239 (by decide) ?_
    refine hv_lald hx hb hKs hV hout (by omega) (by decide) dL_law_1240 ?_
    refine lv_iload hx hb dL_law_1241 (lv_at hl 0 rfl) ?_
    refine lv_i2l hx hb dL_law_1243 rfl ?_
    refine W.lcmp hx hb dL_law_1244 ?_
    refine hv_eqi (y := nI 0) (by rw [hfo c1235, hzz c1235]; exact lcmp_self _) ?_
    refine hN_if_eq (tgt := 1250) hx hb (by omega) dL_law_1245 (by decide) (fun c1245 => ?_) (fun c1245 => by exact absurd c1245 (by omega))
    refine lv_goto (tgt := 1568) hx hb dL_law_1250 (by decide) ?_
    refine lv_iinc (v := nI (i + 6)) (lv' := [(4, .int (nI (i + 6))), (6, .int (r9)), (5, .int (nI (kv))), (0, .ref (b)), (1, .ref (ad (0))), (2, .ref (ad (80))), (3, .ref (ad (64)))]) hx hb dL_law_1568 hl (k := 6) rfl (nI_add (i) 6) (by decide) rfl (fun ls hl => ?_)
    refine lv_goto (tgt := 23) hx hb dL_law_1571 (by decide) ?_
    refine W.widen (k := cells + 64) (n := slots + 400) (by omega) (by omega) ?_
    exact K _ _ _ _ _ ls ⟨hO1, hG1, ⟨_, hM2⟩, _, hout⟩ hV hS (lv_sub hl [3, 4, 5, 6, 0] rfl)

set_option maxHeartbeats 4000000 in
set_option maxRecDepth 100000 in
theorem L_again {p : Program} {l : Launch} {e : Env} {s : State} {m : MethodId} {below : List Frame} {meth : Method} {c : Code} {b L N0 : Nat} {xs : Nat → Int32} {Q : State → Prop} (hfl : l.stackTraces = false) (hts : ∀ w ∈ wsL_law, w.before #[Value.ref b] s = true) (hx : p.tables.exec = Jvm.exec) (hb : c.code = code) (hml : c.maxLocals = 9) (hown : s.vm.findClass RL = some m.cls) (hX : va_X b L xs s s.heap) (hbl : b < s.heap.size) (hbA : ¬ hA N0 b) (hL : L ≤ 3072) {D : hG} (hKs : hK D N0 s)
    {σ : gS} {ad : Nat → Nat} {ct : hC} (hI : gL D σ ad ct) {H : Heap} {locs : List Loc} {cells slots i : Nat} (hV : hv D N0 ad ct H) (hS : va_S (hA N0) s.heap H locs) {ls : Array Slot} (hi : i + 6 ≤ L) (hl : lv_has ls 9 [(0, .ref b), (1, .ref (ad 0)), (2, .ref (ad 80)), (3, .ref (ad 64)), (4, .int (nI i))]) (hr1 : cells + 64 ≤ 601024) (hr2 : slots + 400 ≤ 7293033)
    (K : ∀ (σ1 : gS) (ad1 : Nat → Nat) (ct1 : hC) (H1 : Heap) (locs1 : List Loc) (ls1 : Array Slot), gL D σ1 ad1 ct1 → hv D N0 ad1 ct1 H1 → va_S (hA N0) s.heap H1 locs1 → lv_has ls1 9 [(0, .ref b), (1, .ref (ad1 0)), (2, .ref (ad1 80)), (3, .ref (ad1 64)), (4, .int (nI (i + 6)))] → W p l e room_1 s m #[Value.ref b] below meth c H1 locs1 (cells + 64) (slots + 400) Q (F0 m 23 ls1 [])) : W p l e room_1 s m #[Value.ref b] below meth c H locs cells slots Q (F0 m 1253 ls []) := by
  obtain ⟨hO, hG, ⟨th, hM⟩, fo, hout⟩ := hI
  obtain ⟨hn8, hn60, hn6, -⟩ := id hO
  refine lv_aload_n hx hb dL_law_1253 rfl (lv_at hl 1 rfl) ?_
  refine lv_aload_n hx hb dL_law_1254 rfl (lv_at hl 0 rfl) ?_
  refine lv_iload hx hb dL_law_1255 (lv_at hl 4 rfl) ?_
  refine lv_iconst (v := nI 1) hx hb dL_law_1257 (by decide) ?_
  refine hN_iadd hx hb dL_law_1258 ?_
  refine va_sld hx hb hX hbl hbA hS (nI_in (by omega) (by omega)) dL_law_1259 ?_
  refine hv_eqi (y := xs (i + 1)) (by rw [nI_clamp (by omega)]) ?_
  refine lv_aload_n hx hb dL_law_1260 rfl (lv_at hl 0 rfl) ?_
  refine lv_iload hx hb dL_law_1261 (lv_at hl 4 rfl) ?_
  refine lv_iconst (v := nI 2) hx hb dL_law_1263 (by decide) ?_
  refine hN_iadd hx hb dL_law_1264 ?_
  refine va_sld hx hb hX hbl hbA hS (nI_in (by omega) (by omega)) dL_law_1265 ?_
  refine hv_eqi (y := xs (i + 2)) (by rw [nI_clamp (by omega)]) ?_
  refine lv_aload_n hx hb dL_law_1266 rfl (lv_at hl 3 rfl) ?_
  refine hv_calli (vx_runSW (hh := [(0, 10, 13, 19)]) (As := [.ref (ad (0)), .int (xs (i + 1)), .int (xs (i + 2)), .ref (ad (64))]) (rest := []) ⟨hx, hb, hml, hown, hts⟩ (c_L_again l D N0 ad ct hfl hG hO ((xs (i + 1))) ((xs (i + 2))) hout) (vx_cwSW (hh := [(0, 10, 13, 19)]) 4 hts gL_law_L_again rfl rfl rfl (by decide +kernel) ⟨Nat.le_of_ble_eq_true rfl, Nat.le_of_ble_eq_true rfl⟩) (hv_preS hKs hV hS) rfl rfl hl.1 rfl (lv_room (Nat.le_of_ble_eq_true rfl)) dL_law_1267 ⟨(show cells + 1 ≤ 601024 by omega), (show slots + 6 ≤ 7293033 by omega)⟩) hS (fun r9 u9 H locs hq hV hS => ?_)
  obtain ⟨ad, ct⟩ := u9
  obtain ⟨hz9, hw0, hw1, hwf⟩ := hq
  dsimp only at hw0 hw1 hwf
  have hV : hv D N0 ad ct H := hV
  have hna := fun (q : Nat) (q1 : q % 16 = 0) => (hwf q q1).1
  have hl : lv_has ls 9 [(0, .ref (b)), (1, .ref (ad (0))), (2, .ref (ad (80))), (3, .ref (ad (64))), (4, .int (nI (i)))] := by rw [hna (0) (by omega), hna (80) (by omega), hna (64) (by omega)]; exact hl
  obtain ⟨kv, hkv⟩ : ∃ z, z = k_again σ (xs (i + 1)) (xs (i + 2)) := ⟨_, rfl⟩
  rw [← hkv] at hz9 hw0 hw1
  have hkb : kv ≤ 3 := by rw [hkv]; unfold k_again; (repeat' split) <;> omega
  refine hv_eqi (y := nI kv) hz9 ?_
  obtain ⟨σ1, hσ1⟩ : ∃ z, z = (if kv = 0 then σ else σ) := ⟨_, rfl⟩
  have hG1 : gX D σ1 ad ct := by
    rw [hσ1]
    by_cases hk0 : kv = 0
    · rw [if_pos hk0]; exact (hw0 hk0).1
    · rw [if_neg hk0]; exact (hw1 hk0).1
  have hO1 : okS σ1 := by
    rw [hσ1]
    by_cases hk0 : kv = 0
    · rw [if_pos hk0]; exact hO
    · rw [if_neg hk0]; exact hO
  obtain ⟨fo, hout, hfo⟩ : ∃ fo : Nat → Int64, ct 64 = some (eL D 1 fo) ∧ (kv = 0 → fo 0 = (r_again σ (xs (i + 1)).toInt.toNat (xs (i + 2)).toInt.toNat).toInt64) := by
    by_cases hk0 : kv = 0
    · obtain ⟨f, h8, h9⟩ := (hw0 hk0).2
      exact ⟨f, h8, fun _ => h9⟩
    · obtain ⟨f, h8⟩ := (hw1 hk0).2
      exact ⟨f, h8, fun h => absurd h hk0⟩
  have hM1 : gM D σ th ad ct := hM.wP (u := (ad, ct)) hwf
  obtain ⟨f1, f2, f3, f4, f5, f6, f7, f8, f9, ⟨hm0, hm1, hm2, hm3, hm4, hm5, hm6, hm7, hm8, hm9⟩, hme⟩ := id hM1
  obtain ⟨em1, em2, em3, em4, em5, em6, em7, em8, em9⟩ := id hme
  refine lv_istore (lv' := [(5, .int (nI (kv))), (0, .ref (b)), (1, .ref (ad (0))), (2, .ref (ad (80))), (3, .ref (ad (64))), (4, .int (nI (i)))]) hx hb dL_law_1270 hl (by decide) rfl (fun ls hl => ?_)
  refine lv_aload_n hx hb dL_law_1272 rfl (lv_at hl 3 rfl) ?_
  refine lv_aload_n hx hb dL_law_1273 rfl (lv_at hl 1 rfl) ?_
  refine lv_iload hx hb dL_law_1274 (lv_at hl 5 rfl) ?_
  refine lv_iconst (v := nI 1) hx hb dL_law_1276 (by decide) ?_
  refine hN_iadd hx hb dL_law_1277 ?_
  refine va_sld hx hb hX hbl hbA hS (nI_in (by omega) (by omega)) dL_law_1278 ?_
  refine hv_eqi (y := xs (i + 1)) (by rw [nI_clamp (by omega)]) ?_
  refine lv_aload_n hx hb dL_law_1279 rfl (lv_at hl 1 rfl) ?_
  refine lv_iload hx hb dL_law_1280 (lv_at hl 5 rfl) ?_
  refine lv_iconst (v := nI 2) hx hb dL_law_1282 (by decide) ?_
  refine hN_iadd hx hb dL_law_1283 ?_
  refine va_sld hx hb hX hbl hbA hS (nI_in (by omega) (by omega)) dL_law_1284 ?_
  refine hv_eqi (y := xs (i + 2)) (by rw [nI_clamp (by omega)]) ?_
  refine hv_calli (va_runV (As := [.int (xs (i + 1)), .int (xs (i + 2))]) (rest := []) ⟨hx, hb, hml, hown, hts⟩ (c_X4_again l D N0 ad ct hM1 hO ((xs (i + 1))) ((xs (i + 2)))) (cwV 2 hts gL_law_X4_again rfl rfl rfl (by decide +kernel) ⟨Nat.le_of_ble_eq_true rfl, Nat.le_of_ble_eq_true rfl⟩) (hv_preV (r := (RX4, TX4, 15)) hKs hV hS hm0 rfl) rfl rfl hl.1 rfl (lv_room (Nat.le_of_ble_eq_true rfl)) dL_law_1285 ⟨(show cells + 1 + 0 ≤ 601024 by omega), (show slots + 6 + 0 ≤ 7293033 by omega)⟩) hS (fun r9 u9 H locs hq hV hS => ?_)
  obtain ⟨ad, ct⟩ := u9
  dsimp only at hq
  obtain ⟨hz8, hM2, hfm⟩ := hq
  have hV : hv D N0 ad ct H := hV
  rw [← hkv] at hz8 hM2
  have hna := fun (q : Nat) (q1 : q ≠ 1) => (hfm q q1).1
  dsimp only at hna
  have hl : lv_has ls 9 [(5, .int (nI (kv))), (0, .ref (b)), (1, .ref (ad (0))), (2, .ref (ad (80))), (3, .ref (ad (64))), (4, .int (nI (i)))] := by rw [hna (0) (by omega), hna (80) (by omega), hna (64) (by omega)]; exact hl
  have hM2 : gM D σ1 kv ad ct := by
    rw [hσ1, ite_self]
    exact hM2
  have hzz := hz8
  have hG1 : gX D σ1 ad ct := hG1.hFm (u := (ad, ct)) hfm
  have hout := ((hfm 64 (by omega)).2 (by omega)).trans hout
  obtain ⟨f1, f2, f3, f4, f5, f6, f7, f8, f9, ⟨hm0, hmr⟩, hme⟩ := id hM2
  refine lv_istore (lv' := [(6, .int (r9)), (5, .int (nI (kv))), (0, .ref (b)), (1, .ref (ad (0))), (2, .ref (ad (80))), (3, .ref (ad (64))), (4, .int (nI (i)))]) hx hb dL_law_1288 hl (by decide) rfl (fun ls hl => ?_)
  refine lv_aload_n hx hb dL_law_1290 rfl (lv_at hl 4 rfl) ?_
  refine hv_calli (va_runV (As := []) (rest := []) ⟨hx, hb, hml, hown, hts⟩ (c_X4_thrown l D N0 ad ct hM2 hO1) (cwV 0 hts gL_law_X4_thrown rfl rfl rfl (by decide +kernel) ⟨Nat.le_of_ble_eq_true rfl, Nat.le_of_ble_eq_true rfl⟩) (hv_preV (r := (RX4, TX4, 15)) hKs hV hS hm0 rfl) rfl rfl hl.1 rfl (lv_room (Nat.le_of_ble_eq_true rfl)) dL_law_1291 ⟨(show cells + 1 + 0 ≤ 601024 by omega), (show slots + 6 + 0 ≤ 7293033 by omega)⟩) hS (fun r9 u9 H locs hq hV hS => ?_)
  obtain ⟨rfl, rfl⟩ := hq
  have hV : hv D N0 ad ct H := hV
  refine lv_iload hx hb dL_law_1294 (lv_at hl 1 rfl) ?_
  refine hN_icmp_eq (tgt := 1301) hx hb (by omega) (by omega) dL_law_1296 (by decide) (fun c1296 => ?_) (fun c1296 => by exact absurd rfl c1296)
  refine lv_iload hx hb dL_law_1301 (lv_at hl 1 rfl) ?_
  refine hN_if_ne (tgt := 1318) hx hb (by omega) dL_law_1303 (by decide) (fun c1303 => ?_) (fun c1303 => ?_)
  · refine lv_goto (tgt := 1568) hx hb dL_law_1318 (by decide) ?_
    refine lv_iinc (v := nI (i + 6)) (lv' := [(4, .int (nI (i + 6))), (6, .int (r9)), (5, .int (nI (kv))), (0, .ref (b)), (1, .ref (ad (0))), (2, .ref (ad (80))), (3, .ref (ad (64)))]) hx hb dL_law_1568 hl (k := 6) rfl (nI_add (i) 6) (by decide) rfl (fun ls hl => ?_)
    refine lv_goto (tgt := 23) hx hb dL_law_1571 (by decide) ?_
    refine W.widen (k := cells + 64) (n := slots + 400) (by omega) (by omega) ?_
    exact K _ _ _ _ _ ls ⟨hO1, hG1, ⟨_, hM2⟩, _, hout⟩ hV hS (lv_sub hl [3, 4, 5, 6, 0] rfl)
  · refine lv_aload_n hx hb dL_law_1306 rfl (lv_at hl 5 rfl) ?_
    refine lv_iconst (v := nI 0) hx hb dL_law_1307 (by decide) ?_
    refine hv_lald hx hb hKs hV hout (by omega) (by decide) dL_law_1308 ?_
    refine lv_iload hx hb dL_law_1309 (lv_at hl 0 rfl) ?_
    refine lv_i2l hx hb dL_law_1311 rfl ?_
    refine W.lcmp hx hb dL_law_1312 ?_
    refine hv_eqi (y := nI 0) (by rw [hfo c1303, hzz c1303]; exact lcmp_self _) ?_
    refine hN_if_eq (tgt := 1318) hx hb (by omega) dL_law_1313 (by decide) (fun c1313 => ?_) (fun c1313 => by exact absurd c1313 (by omega))
    refine lv_goto (tgt := 1568) hx hb dL_law_1318 (by decide) ?_
    refine lv_iinc (v := nI (i + 6)) (lv' := [(4, .int (nI (i + 6))), (6, .int (r9)), (5, .int (nI (kv))), (0, .ref (b)), (1, .ref (ad (0))), (2, .ref (ad (80))), (3, .ref (ad (64)))]) hx hb dL_law_1568 hl (k := 6) rfl (nI_add (i) 6) (by decide) rfl (fun ls hl => ?_)
    refine lv_goto (tgt := 23) hx hb dL_law_1571 (by decide) ?_
    refine W.widen (k := cells + 64) (n := slots + 400) (by omega) (by omega) ?_
    exact K _ _ _ _ _ ls ⟨hO1, hG1, ⟨_, hM2⟩, _, hout⟩ hV hS (lv_sub hl [3, 4, 5, 6, 0] rfl)

set_option maxHeartbeats 4000000 in
set_option maxRecDepth 100000 in
theorem L_turn {p : Program} {l : Launch} {e : Env} {s : State} {m : MethodId} {below : List Frame} {meth : Method} {c : Code} {b L N0 : Nat} {xs : Nat → Int32} {Q : State → Prop} (hfl : l.stackTraces = false) (hts : ∀ w ∈ wsL_law, w.before #[Value.ref b] s = true) (hx : p.tables.exec = Jvm.exec) (hb : c.code = code) (hml : c.maxLocals = 9) (hown : s.vm.findClass RL = some m.cls) (hX : va_X b L xs s s.heap) (hbl : b < s.heap.size) (hbA : ¬ hA N0 b) (hL : L ≤ 3072) {D : hG} (hKs : hK D N0 s)
    {σ : gS} {ad : Nat → Nat} {ct : hC} (hI : gL D σ ad ct) {H : Heap} {locs : List Loc} {cells slots i : Nat} (hV : hv D N0 ad ct H) (hS : va_S (hA N0) s.heap H locs) {ls : Array Slot} (hi : i + 6 ≤ L) (hl : lv_has ls 9 [(0, .ref b), (1, .ref (ad 0)), (2, .ref (ad 80)), (3, .ref (ad 64)), (4, .int (nI i))]) (hr1 : cells + 64 ≤ 601024) (hr2 : slots + 400 ≤ 7293033)
    (K : ∀ (σ1 : gS) (ad1 : Nat → Nat) (ct1 : hC) (H1 : Heap) (locs1 : List Loc) (ls1 : Array Slot), gL D σ1 ad1 ct1 → hv D N0 ad1 ct1 H1 → va_S (hA N0) s.heap H1 locs1 → lv_has ls1 9 [(0, .ref b), (1, .ref (ad1 0)), (2, .ref (ad1 80)), (3, .ref (ad1 64)), (4, .int (nI (i + 6)))] → W p l e room_1 s m #[Value.ref b] below meth c H1 locs1 (cells + 64) (slots + 400) Q (F0 m 23 ls1 [])) : W p l e room_1 s m #[Value.ref b] below meth c H locs cells slots Q (F0 m 1321 ls []) := by
  obtain ⟨hO, hG, ⟨th, hM⟩, fo, hout⟩ := hI
  obtain ⟨hn8, hn60, hn6, -⟩ := id hO
  refine lv_aload_n hx hb dL_law_1321 rfl (lv_at hl 1 rfl) ?_
  refine lv_aload_n hx hb dL_law_1322 rfl (lv_at hl 0 rfl) ?_
  refine lv_iload hx hb dL_law_1323 (lv_at hl 4 rfl) ?_
  refine lv_iconst (v := nI 1) hx hb dL_law_1325 (by decide) ?_
  refine hN_iadd hx hb dL_law_1326 ?_
  refine va_sld hx hb hX hbl hbA hS (nI_in (by omega) (by omega)) dL_law_1327 ?_
  refine hv_eqi (y := xs (i + 1)) (by rw [nI_clamp (by omega)]) ?_
  refine lv_aload_n hx hb dL_law_1328 rfl (lv_at hl 0 rfl) ?_
  refine lv_iload hx hb dL_law_1329 (lv_at hl 4 rfl) ?_
  refine lv_iconst (v := nI 2) hx hb dL_law_1331 (by decide) ?_
  refine hN_iadd hx hb dL_law_1332 ?_
  refine va_sld hx hb hX hbl hbA hS (nI_in (by omega) (by omega)) dL_law_1333 ?_
  refine hv_eqi (y := xs (i + 2)) (by rw [nI_clamp (by omega)]) ?_
  refine lv_aload_n hx hb dL_law_1334 rfl (lv_at hl 3 rfl) ?_
  refine hv_calli (vx_runSW (hh := [(0, 10, 13, 19)]) (As := [.ref (ad (0)), .int (xs (i + 1)), .int (xs (i + 2)), .ref (ad (64))]) (rest := []) ⟨hx, hb, hml, hown, hts⟩ (c_L_turn l D N0 ad ct hfl hG hO ((xs (i + 1))) ((xs (i + 2))) hout) (vx_cwSW (hh := [(0, 10, 13, 19)]) 4 hts gL_law_L_turn rfl rfl rfl (by decide +kernel) ⟨Nat.le_of_ble_eq_true rfl, Nat.le_of_ble_eq_true rfl⟩) (hv_preS hKs hV hS) rfl rfl hl.1 rfl (lv_room (Nat.le_of_ble_eq_true rfl)) dL_law_1335 ⟨(show cells + 1 ≤ 601024 by omega), (show slots + 6 ≤ 7293033 by omega)⟩) hS (fun r9 u9 H locs hq hV hS => ?_)
  obtain ⟨ad, ct⟩ := u9
  obtain ⟨hz9, hw0, hw1, hwf⟩ := hq
  dsimp only at hw0 hw1 hwf
  have hV : hv D N0 ad ct H := hV
  have hna := fun (q : Nat) (q1 : q % 16 = 0) => (hwf q q1).1
  have hl : lv_has ls 9 [(0, .ref (b)), (1, .ref (ad (0))), (2, .ref (ad (80))), (3, .ref (ad (64))), (4, .int (nI (i)))] := by rw [hna (0) (by omega), hna (80) (by omega), hna (64) (by omega)]; exact hl
  obtain ⟨kv, hkv⟩ : ∃ z, z = k_turn σ (xs (i + 1)) (xs (i + 2)) := ⟨_, rfl⟩
  rw [← hkv] at hz9 hw0 hw1
  have hkb : kv ≤ 3 := by rw [hkv]; unfold k_turn; (repeat' split) <;> omega
  refine hv_eqi (y := nI kv) hz9 ?_
  obtain ⟨σ1, hσ1⟩ : ∃ z, z = (if kv = 0 then σ else σ) := ⟨_, rfl⟩
  have hG1 : gX D σ1 ad ct := by
    rw [hσ1]
    by_cases hk0 : kv = 0
    · rw [if_pos hk0]; exact (hw0 hk0).1
    · rw [if_neg hk0]; exact (hw1 hk0).1
  have hO1 : okS σ1 := by
    rw [hσ1]
    by_cases hk0 : kv = 0
    · rw [if_pos hk0]; exact hO
    · rw [if_neg hk0]; exact hO
  obtain ⟨fo, hout, hfo⟩ : ∃ fo : Nat → Int64, ct 64 = some (eL D 1 fo) ∧ (kv = 0 → fo 0 = (plc 8 (lturn (sPt σ (xs (i + 1)).toInt.toNat) (sPt σ (xs (i + 2)).toInt.toNat))).toInt64) := by
    by_cases hk0 : kv = 0
    · obtain ⟨f, h8, h9⟩ := (hw0 hk0).2
      exact ⟨f, h8, fun _ => h9⟩
    · obtain ⟨f, h8⟩ := (hw1 hk0).2
      exact ⟨f, h8, fun h => absurd h hk0⟩
  have hM1 : gM D σ th ad ct := hM.wP (u := (ad, ct)) hwf
  obtain ⟨f1, f2, f3, f4, f5, f6, f7, f8, f9, ⟨hm0, hm1, hm2, hm3, hm4, hm5, hm6, hm7, hm8, hm9⟩, hme⟩ := id hM1
  obtain ⟨em1, em2, em3, em4, em5, em6, em7, em8, em9⟩ := id hme
  refine lv_istore (lv' := [(5, .int (nI (kv))), (0, .ref (b)), (1, .ref (ad (0))), (2, .ref (ad (80))), (3, .ref (ad (64))), (4, .int (nI (i)))]) hx hb dL_law_1338 hl (by decide) rfl (fun ls hl => ?_)
  refine lv_aload_n hx hb dL_law_1340 rfl (lv_at hl 3 rfl) ?_
  refine lv_aload_n hx hb dL_law_1341 rfl (lv_at hl 1 rfl) ?_
  refine lv_iload hx hb dL_law_1342 (lv_at hl 5 rfl) ?_
  refine lv_iconst (v := nI 1) hx hb dL_law_1344 (by decide) ?_
  refine hN_iadd hx hb dL_law_1345 ?_
  refine va_sld hx hb hX hbl hbA hS (nI_in (by omega) (by omega)) dL_law_1346 ?_
  refine hv_eqi (y := xs (i + 1)) (by rw [nI_clamp (by omega)]) ?_
  refine lv_aload_n hx hb dL_law_1347 rfl (lv_at hl 1 rfl) ?_
  refine lv_iload hx hb dL_law_1348 (lv_at hl 5 rfl) ?_
  refine lv_iconst (v := nI 2) hx hb dL_law_1350 (by decide) ?_
  refine hN_iadd hx hb dL_law_1351 ?_
  refine va_sld hx hb hX hbl hbA hS (nI_in (by omega) (by omega)) dL_law_1352 ?_
  refine hv_eqi (y := xs (i + 2)) (by rw [nI_clamp (by omega)]) ?_
  refine hv_calli (va_runV (As := [.int (xs (i + 1)), .int (xs (i + 2))]) (rest := []) ⟨hx, hb, hml, hown, hts⟩ (c_X4_turn l D N0 ad ct hM1 hO ((xs (i + 1))) ((xs (i + 2)))) (cwV 2 hts gL_law_X4_turn rfl rfl rfl (by decide +kernel) ⟨Nat.le_of_ble_eq_true rfl, Nat.le_of_ble_eq_true rfl⟩) (hv_preV (r := (RX4, TX4, 15)) hKs hV hS hm0 rfl) rfl rfl hl.1 rfl (lv_room (Nat.le_of_ble_eq_true rfl)) dL_law_1353 ⟨(show cells + 1 + 0 ≤ 601024 by omega), (show slots + 6 + 0 ≤ 7293033 by omega)⟩) hS (fun r9 u9 H locs hq hV hS => ?_)
  obtain ⟨ad, ct⟩ := u9
  dsimp only at hq
  obtain ⟨hz8, hM2, hfm⟩ := hq
  have hV : hv D N0 ad ct H := hV
  rw [← hkv] at hz8 hM2
  have hna := fun (q : Nat) (q1 : q ≠ 1) => (hfm q q1).1
  dsimp only at hna
  have hl : lv_has ls 9 [(5, .int (nI (kv))), (0, .ref (b)), (1, .ref (ad (0))), (2, .ref (ad (80))), (3, .ref (ad (64))), (4, .int (nI (i)))] := by rw [hna (0) (by omega), hna (80) (by omega), hna (64) (by omega)]; exact hl
  have hM2 : gM D σ1 kv ad ct := by
    rw [hσ1, ite_self]
    exact hM2
  have hzz := hz8
  have hG1 : gX D σ1 ad ct := hG1.hFm (u := (ad, ct)) hfm
  have hout := ((hfm 64 (by omega)).2 (by omega)).trans hout
  obtain ⟨f1, f2, f3, f4, f5, f6, f7, f8, f9, ⟨hm0, hmr⟩, hme⟩ := id hM2
  refine lv_istore (lv' := [(6, .int (r9)), (5, .int (nI (kv))), (0, .ref (b)), (1, .ref (ad (0))), (2, .ref (ad (80))), (3, .ref (ad (64))), (4, .int (nI (i)))]) hx hb dL_law_1356 hl (by decide) rfl (fun ls hl => ?_)
  refine lv_aload_n hx hb dL_law_1358 rfl (lv_at hl 4 rfl) ?_
  refine hv_calli (va_runV (As := []) (rest := []) ⟨hx, hb, hml, hown, hts⟩ (c_X4_thrown l D N0 ad ct hM2 hO1) (cwV 0 hts gL_law_X4_thrown rfl rfl rfl (by decide +kernel) ⟨Nat.le_of_ble_eq_true rfl, Nat.le_of_ble_eq_true rfl⟩) (hv_preV (r := (RX4, TX4, 15)) hKs hV hS hm0 rfl) rfl rfl hl.1 rfl (lv_room (Nat.le_of_ble_eq_true rfl)) dL_law_1359 ⟨(show cells + 1 + 0 ≤ 601024 by omega), (show slots + 6 + 0 ≤ 7293033 by omega)⟩) hS (fun r9 u9 H locs hq hV hS => ?_)
  obtain ⟨rfl, rfl⟩ := hq
  have hV : hv D N0 ad ct H := hV
  refine lv_iload hx hb dL_law_1362 (lv_at hl 1 rfl) ?_
  refine hN_icmp_eq (tgt := 1369) hx hb (by omega) (by omega) dL_law_1364 (by decide) (fun c1364 => ?_) (fun c1364 => by exact absurd rfl c1364)
  refine lv_iload hx hb dL_law_1369 (lv_at hl 1 rfl) ?_
  refine hN_if_ne (tgt := 1386) hx hb (by omega) dL_law_1371 (by decide) (fun c1371 => ?_) (fun c1371 => ?_)
  · refine lv_goto (tgt := 1568) hx hb dL_law_1386 (by decide) ?_
    refine lv_iinc (v := nI (i + 6)) (lv' := [(4, .int (nI (i + 6))), (6, .int (r9)), (5, .int (nI (kv))), (0, .ref (b)), (1, .ref (ad (0))), (2, .ref (ad (80))), (3, .ref (ad (64)))]) hx hb dL_law_1568 hl (k := 6) rfl (nI_add (i) 6) (by decide) rfl (fun ls hl => ?_)
    refine lv_goto (tgt := 23) hx hb dL_law_1571 (by decide) ?_
    refine W.widen (k := cells + 64) (n := slots + 400) (by omega) (by omega) ?_
    exact K _ _ _ _ _ ls ⟨hO1, hG1, ⟨_, hM2⟩, _, hout⟩ hV hS (lv_sub hl [3, 4, 5, 6, 0] rfl)
  · refine lv_aload_n hx hb dL_law_1374 rfl (lv_at hl 5 rfl) ?_
    refine lv_iconst (v := nI 0) hx hb dL_law_1375 (by decide) ?_
    refine hv_lald hx hb hKs hV hout (by omega) (by decide) dL_law_1376 ?_
    refine lv_iload hx hb dL_law_1377 (lv_at hl 0 rfl) ?_
    refine lv_i2l hx hb dL_law_1379 rfl ?_
    refine W.lcmp hx hb dL_law_1380 ?_
    refine hv_eqi (y := nI 0) (by rw [hfo c1371, hzz c1371]; exact lcmp_self _) ?_
    refine hN_if_eq (tgt := 1386) hx hb (by omega) dL_law_1381 (by decide) (fun c1381 => ?_) (fun c1381 => by exact absurd c1381 (by omega))
    refine lv_goto (tgt := 1568) hx hb dL_law_1386 (by decide) ?_
    refine lv_iinc (v := nI (i + 6)) (lv' := [(4, .int (nI (i + 6))), (6, .int (r9)), (5, .int (nI (kv))), (0, .ref (b)), (1, .ref (ad (0))), (2, .ref (ad (80))), (3, .ref (ad (64)))]) hx hb dL_law_1568 hl (k := 6) rfl (nI_add (i) 6) (by decide) rfl (fun ls hl => ?_)
    refine lv_goto (tgt := 23) hx hb dL_law_1571 (by decide) ?_
    refine W.widen (k := cells + 64) (n := slots + 400) (by omega) (by omega) ?_
    exact K _ _ _ _ _ ls ⟨hO1, hG1, ⟨_, hM2⟩, _, hout⟩ hV hS (lv_sub hl [3, 4, 5, 6, 0] rfl)

set_option maxHeartbeats 4000000 in
set_option maxRecDepth 100000 in
theorem L_cuts {p : Program} {l : Launch} {e : Env} {s : State} {m : MethodId} {below : List Frame} {meth : Method} {c : Code} {b L N0 : Nat} {xs : Nat → Int32} {Q : State → Prop} (hfl : l.stackTraces = false) (hts : ∀ w ∈ wsL_law, w.before #[Value.ref b] s = true) (hx : p.tables.exec = Jvm.exec) (hb : c.code = code) (hml : c.maxLocals = 9) (hown : s.vm.findClass RL = some m.cls) (hX : va_X b L xs s s.heap) (hbl : b < s.heap.size) (hbA : ¬ hA N0 b) (hL : L ≤ 3072) {D : hG} (hKs : hK D N0 s)
    {σ : gS} {ad : Nat → Nat} {ct : hC} (hI : gL D σ ad ct) {H : Heap} {locs : List Loc} {cells slots i : Nat} (hV : hv D N0 ad ct H) (hS : va_S (hA N0) s.heap H locs) {ls : Array Slot} (hi : i + 6 ≤ L) (hl : lv_has ls 9 [(0, .ref b), (1, .ref (ad 0)), (2, .ref (ad 80)), (3, .ref (ad 64)), (4, .int (nI i))]) (hr1 : cells + 64 ≤ 601024) (hr2 : slots + 400 ≤ 7293033)
    (K : ∀ (σ1 : gS) (ad1 : Nat → Nat) (ct1 : hC) (H1 : Heap) (locs1 : List Loc) (ls1 : Array Slot), gL D σ1 ad1 ct1 → hv D N0 ad1 ct1 H1 → va_S (hA N0) s.heap H1 locs1 → lv_has ls1 9 [(0, .ref b), (1, .ref (ad1 0)), (2, .ref (ad1 80)), (3, .ref (ad1 64)), (4, .int (nI (i + 6)))] → W p l e room_1 s m #[Value.ref b] below meth c H1 locs1 (cells + 64) (slots + 400) Q (F0 m 23 ls1 [])) : W p l e room_1 s m #[Value.ref b] below meth c H locs cells slots Q (F0 m 1389 ls []) := by
  obtain ⟨hO, hG, ⟨th, hM⟩, fo, hout⟩ := hI
  obtain ⟨hn8, hn60, hn6, -⟩ := id hO
  refine lv_aload_n hx hb dL_law_1389 rfl (lv_at hl 1 rfl) ?_
  refine lv_aload_n hx hb dL_law_1390 rfl (lv_at hl 0 rfl) ?_
  refine lv_iload hx hb dL_law_1391 (lv_at hl 4 rfl) ?_
  refine lv_iconst (v := nI 1) hx hb dL_law_1393 (by decide) ?_
  refine hN_iadd hx hb dL_law_1394 ?_
  refine va_sld hx hb hX hbl hbA hS (nI_in (by omega) (by omega)) dL_law_1395 ?_
  refine hv_eqi (y := xs (i + 1)) (by rw [nI_clamp (by omega)]) ?_
  refine lv_aload_n hx hb dL_law_1396 rfl (lv_at hl 0 rfl) ?_
  refine lv_iload hx hb dL_law_1397 (lv_at hl 4 rfl) ?_
  refine lv_iconst (v := nI 2) hx hb dL_law_1399 (by decide) ?_
  refine hN_iadd hx hb dL_law_1400 ?_
  refine va_sld hx hb hX hbl hbA hS (nI_in (by omega) (by omega)) dL_law_1401 ?_
  refine hv_eqi (y := xs (i + 2)) (by rw [nI_clamp (by omega)]) ?_
  refine lv_aload_n hx hb dL_law_1402 rfl (lv_at hl 3 rfl) ?_
  refine hv_calli (vx_runSW (hh := [(0, 10, 13, 19)]) (As := [.ref (ad (0)), .int (xs (i + 1)), .int (xs (i + 2)), .ref (ad (64))]) (rest := []) ⟨hx, hb, hml, hown, hts⟩ (c_L_cuts l D N0 ad ct hfl hG hO ((xs (i + 1))) ((xs (i + 2))) hout) (vx_cwSW (hh := [(0, 10, 13, 19)]) 4 hts gL_law_L_cuts rfl rfl rfl (by decide +kernel) ⟨Nat.le_of_ble_eq_true rfl, Nat.le_of_ble_eq_true rfl⟩) (hv_preS hKs hV hS) rfl rfl hl.1 rfl (lv_room (Nat.le_of_ble_eq_true rfl)) dL_law_1403 ⟨(show cells + 1 ≤ 601024 by omega), (show slots + 6 ≤ 7293033 by omega)⟩) hS (fun r9 u9 H locs hq hV hS => ?_)
  obtain ⟨ad, ct⟩ := u9
  obtain ⟨hz9, hw0, hw1, hwf⟩ := hq
  dsimp only at hw0 hw1 hwf
  have hV : hv D N0 ad ct H := hV
  have hna := fun (q : Nat) (q1 : q % 16 = 0) => (hwf q q1).1
  have hl : lv_has ls 9 [(0, .ref (b)), (1, .ref (ad (0))), (2, .ref (ad (80))), (3, .ref (ad (64))), (4, .int (nI (i)))] := by rw [hna (0) (by omega), hna (80) (by omega), hna (64) (by omega)]; exact hl
  obtain ⟨kv, hkv⟩ : ∃ z, z = k_cuts σ (xs (i + 1)) (xs (i + 2)) := ⟨_, rfl⟩
  rw [← hkv] at hz9 hw0 hw1
  have hkb : kv ≤ 3 := by rw [hkv]; unfold k_cuts; (repeat' split) <;> omega
  refine hv_eqi (y := nI kv) hz9 ?_
  obtain ⟨σ1, hσ1⟩ : ∃ z, z = (if kv = 0 then σ else σ) := ⟨_, rfl⟩
  have hG1 : gX D σ1 ad ct := by
    rw [hσ1]
    by_cases hk0 : kv = 0
    · rw [if_pos hk0]; exact (hw0 hk0).1
    · rw [if_neg hk0]; exact (hw1 hk0).1
  have hO1 : okS σ1 := by
    rw [hσ1]
    by_cases hk0 : kv = 0
    · rw [if_pos hk0]; exact hO
    · rw [if_neg hk0]; exact hO
  obtain ⟨fo, hout, hfo⟩ : ∃ fo : Nat → Int64, ct 64 = some (eL D 1 fo) ∧ (kv = 0 → fo 0 = (r_cuts σ (xs (i + 1)).toInt.toNat (xs (i + 2)).toInt.toNat).toInt64) := by
    by_cases hk0 : kv = 0
    · obtain ⟨f, h8, h9⟩ := (hw0 hk0).2
      exact ⟨f, h8, fun _ => h9⟩
    · obtain ⟨f, h8⟩ := (hw1 hk0).2
      exact ⟨f, h8, fun h => absurd h hk0⟩
  have hM1 : gM D σ th ad ct := hM.wP (u := (ad, ct)) hwf
  obtain ⟨f1, f2, f3, f4, f5, f6, f7, f8, f9, ⟨hm0, hm1, hm2, hm3, hm4, hm5, hm6, hm7, hm8, hm9⟩, hme⟩ := id hM1
  obtain ⟨em1, em2, em3, em4, em5, em6, em7, em8, em9⟩ := id hme
  refine lv_istore (lv' := [(5, .int (nI (kv))), (0, .ref (b)), (1, .ref (ad (0))), (2, .ref (ad (80))), (3, .ref (ad (64))), (4, .int (nI (i)))]) hx hb dL_law_1406 hl (by decide) rfl (fun ls hl => ?_)
  refine lv_aload_n hx hb dL_law_1408 rfl (lv_at hl 3 rfl) ?_
  refine lv_aload_n hx hb dL_law_1409 rfl (lv_at hl 1 rfl) ?_
  refine lv_iload hx hb dL_law_1410 (lv_at hl 5 rfl) ?_
  refine lv_iconst (v := nI 1) hx hb dL_law_1412 (by decide) ?_
  refine hN_iadd hx hb dL_law_1413 ?_
  refine va_sld hx hb hX hbl hbA hS (nI_in (by omega) (by omega)) dL_law_1414 ?_
  refine hv_eqi (y := xs (i + 1)) (by rw [nI_clamp (by omega)]) ?_
  refine lv_aload_n hx hb dL_law_1415 rfl (lv_at hl 1 rfl) ?_
  refine lv_iload hx hb dL_law_1416 (lv_at hl 5 rfl) ?_
  refine lv_iconst (v := nI 2) hx hb dL_law_1418 (by decide) ?_
  refine hN_iadd hx hb dL_law_1419 ?_
  refine va_sld hx hb hX hbl hbA hS (nI_in (by omega) (by omega)) dL_law_1420 ?_
  refine hv_eqi (y := xs (i + 2)) (by rw [nI_clamp (by omega)]) ?_
  refine hv_calli (va_runV (As := [.int (xs (i + 1)), .int (xs (i + 2))]) (rest := []) ⟨hx, hb, hml, hown, hts⟩ (c_X4_cuts l D N0 ad ct hM1 hO ((xs (i + 1))) ((xs (i + 2)))) (cwV 2 hts gL_law_X4_cuts rfl rfl rfl (by decide +kernel) ⟨Nat.le_of_ble_eq_true rfl, Nat.le_of_ble_eq_true rfl⟩) (hv_preV (r := (RX4, TX4, 15)) hKs hV hS hm0 rfl) rfl rfl hl.1 rfl (lv_room (Nat.le_of_ble_eq_true rfl)) dL_law_1421 ⟨(show cells + 1 + 0 ≤ 601024 by omega), (show slots + 6 + 0 ≤ 7293033 by omega)⟩) hS (fun r9 u9 H locs hq hV hS => ?_)
  obtain ⟨ad, ct⟩ := u9
  dsimp only at hq
  obtain ⟨hz8, hM2, hfm⟩ := hq
  have hV : hv D N0 ad ct H := hV
  rw [← hkv] at hz8 hM2
  have hna := fun (q : Nat) (q1 : q ≠ 1) => (hfm q q1).1
  dsimp only at hna
  have hl : lv_has ls 9 [(5, .int (nI (kv))), (0, .ref (b)), (1, .ref (ad (0))), (2, .ref (ad (80))), (3, .ref (ad (64))), (4, .int (nI (i)))] := by rw [hna (0) (by omega), hna (80) (by omega), hna (64) (by omega)]; exact hl
  have hM2 : gM D σ1 kv ad ct := by
    rw [hσ1, ite_self]
    exact hM2
  have hzz := hz8
  have hG1 : gX D σ1 ad ct := hG1.hFm (u := (ad, ct)) hfm
  have hout := ((hfm 64 (by omega)).2 (by omega)).trans hout
  obtain ⟨f1, f2, f3, f4, f5, f6, f7, f8, f9, ⟨hm0, hmr⟩, hme⟩ := id hM2
  refine lv_istore (lv' := [(6, .int (r9)), (5, .int (nI (kv))), (0, .ref (b)), (1, .ref (ad (0))), (2, .ref (ad (80))), (3, .ref (ad (64))), (4, .int (nI (i)))]) hx hb dL_law_1424 hl (by decide) rfl (fun ls hl => ?_)
  refine lv_aload_n hx hb dL_law_1426 rfl (lv_at hl 4 rfl) ?_
  refine hv_calli (va_runV (As := []) (rest := []) ⟨hx, hb, hml, hown, hts⟩ (c_X4_thrown l D N0 ad ct hM2 hO1) (cwV 0 hts gL_law_X4_thrown rfl rfl rfl (by decide +kernel) ⟨Nat.le_of_ble_eq_true rfl, Nat.le_of_ble_eq_true rfl⟩) (hv_preV (r := (RX4, TX4, 15)) hKs hV hS hm0 rfl) rfl rfl hl.1 rfl (lv_room (Nat.le_of_ble_eq_true rfl)) dL_law_1427 ⟨(show cells + 1 + 0 ≤ 601024 by omega), (show slots + 6 + 0 ≤ 7293033 by omega)⟩) hS (fun r9 u9 H locs hq hV hS => ?_)
  obtain ⟨rfl, rfl⟩ := hq
  have hV : hv D N0 ad ct H := hV
  refine lv_iload hx hb dL_law_1430 (lv_at hl 1 rfl) ?_
  refine hN_icmp_eq (tgt := 1437) hx hb (by omega) (by omega) dL_law_1432 (by decide) (fun c1432 => ?_) (fun c1432 => by exact absurd rfl c1432)
  refine lv_iload hx hb dL_law_1437 (lv_at hl 1 rfl) ?_
  refine hN_if_ne (tgt := 1454) hx hb (by omega) dL_law_1439 (by decide) (fun c1439 => ?_) (fun c1439 => ?_)
  · refine lv_goto (tgt := 1568) hx hb dL_law_1454 (by decide) ?_
    refine lv_iinc (v := nI (i + 6)) (lv' := [(4, .int (nI (i + 6))), (6, .int (r9)), (5, .int (nI (kv))), (0, .ref (b)), (1, .ref (ad (0))), (2, .ref (ad (80))), (3, .ref (ad (64)))]) hx hb dL_law_1568 hl (k := 6) rfl (nI_add (i) 6) (by decide) rfl (fun ls hl => ?_)
    refine lv_goto (tgt := 23) hx hb dL_law_1571 (by decide) ?_
    refine W.widen (k := cells + 64) (n := slots + 400) (by omega) (by omega) ?_
    exact K _ _ _ _ _ ls ⟨hO1, hG1, ⟨_, hM2⟩, _, hout⟩ hV hS (lv_sub hl [3, 4, 5, 6, 0] rfl)
  · refine lv_aload_n hx hb dL_law_1442 rfl (lv_at hl 5 rfl) ?_
    refine lv_iconst (v := nI 0) hx hb dL_law_1443 (by decide) ?_
    refine hv_lald hx hb hKs hV hout (by omega) (by decide) dL_law_1444 ?_
    refine lv_iload hx hb dL_law_1445 (lv_at hl 0 rfl) ?_
    refine lv_i2l hx hb dL_law_1447 rfl ?_
    refine W.lcmp hx hb dL_law_1448 ?_
    refine hv_eqi (y := nI 0) (by rw [hfo c1439, hzz c1439]; exact lcmp_self _) ?_
    refine hN_if_eq (tgt := 1454) hx hb (by omega) dL_law_1449 (by decide) (fun c1449 => ?_) (fun c1449 => by exact absurd c1449 (by omega))
    refine lv_goto (tgt := 1568) hx hb dL_law_1454 (by decide) ?_
    refine lv_iinc (v := nI (i + 6)) (lv' := [(4, .int (nI (i + 6))), (6, .int (r9)), (5, .int (nI (kv))), (0, .ref (b)), (1, .ref (ad (0))), (2, .ref (ad (80))), (3, .ref (ad (64)))]) hx hb dL_law_1568 hl (k := 6) rfl (nI_add (i) 6) (by decide) rfl (fun ls hl => ?_)
    refine lv_goto (tgt := 23) hx hb dL_law_1571 (by decide) ?_
    refine W.widen (k := cells + 64) (n := slots + 400) (by omega) (by omega) ?_
    exact K _ _ _ _ _ ls ⟨hO1, hG1, ⟨_, hM2⟩, _, hout⟩ hV hS (lv_sub hl [3, 4, 5, 6, 0] rfl)

set_option maxHeartbeats 4000000 in
set_option maxRecDepth 100000 in
theorem L_mends {p : Program} {l : Launch} {e : Env} {s : State} {m : MethodId} {below : List Frame} {meth : Method} {c : Code} {b L N0 : Nat} {xs : Nat → Int32} {Q : State → Prop} (hfl : l.stackTraces = false) (hts : ∀ w ∈ wsL_law, w.before #[Value.ref b] s = true) (hx : p.tables.exec = Jvm.exec) (hb : c.code = code) (hml : c.maxLocals = 9) (hown : s.vm.findClass RL = some m.cls) (hX : va_X b L xs s s.heap) (hbl : b < s.heap.size) (hbA : ¬ hA N0 b) (hL : L ≤ 3072) {D : hG} (hKs : hK D N0 s)
    {σ : gS} {ad : Nat → Nat} {ct : hC} (hI : gL D σ ad ct) {H : Heap} {locs : List Loc} {cells slots i : Nat} (hV : hv D N0 ad ct H) (hS : va_S (hA N0) s.heap H locs) {ls : Array Slot} (hi : i + 6 ≤ L) (hl : lv_has ls 9 [(0, .ref b), (1, .ref (ad 0)), (2, .ref (ad 80)), (3, .ref (ad 64)), (4, .int (nI i))]) (hr1 : cells + 64 ≤ 601024) (hr2 : slots + 400 ≤ 7293033)
    (K : ∀ (σ1 : gS) (ad1 : Nat → Nat) (ct1 : hC) (H1 : Heap) (locs1 : List Loc) (ls1 : Array Slot), gL D σ1 ad1 ct1 → hv D N0 ad1 ct1 H1 → va_S (hA N0) s.heap H1 locs1 → lv_has ls1 9 [(0, .ref b), (1, .ref (ad1 0)), (2, .ref (ad1 80)), (3, .ref (ad1 64)), (4, .int (nI (i + 6)))] → W p l e room_1 s m #[Value.ref b] below meth c H1 locs1 (cells + 64) (slots + 400) Q (F0 m 23 ls1 [])) : W p l e room_1 s m #[Value.ref b] below meth c H locs cells slots Q (F0 m 1457 ls []) := by
  obtain ⟨hO, hG, ⟨th, hM⟩, fo, hout⟩ := hI
  obtain ⟨hn8, hn60, hn6, -⟩ := id hO
  refine lv_aload_n hx hb dL_law_1457 rfl (lv_at hl 1 rfl) ?_
  refine lv_aload_n hx hb dL_law_1458 rfl (lv_at hl 0 rfl) ?_
  refine lv_iload hx hb dL_law_1459 (lv_at hl 4 rfl) ?_
  refine lv_iconst (v := nI 1) hx hb dL_law_1461 (by decide) ?_
  refine hN_iadd hx hb dL_law_1462 ?_
  refine va_sld hx hb hX hbl hbA hS (nI_in (by omega) (by omega)) dL_law_1463 ?_
  refine hv_eqi (y := xs (i + 1)) (by rw [nI_clamp (by omega)]) ?_
  refine lv_aload_n hx hb dL_law_1464 rfl (lv_at hl 3 rfl) ?_
  refine hv_calli (vx_runSW (hh := [(0, 9, 12, 19)]) (As := [.ref (ad (0)), .int (xs (i + 1)), .ref (ad (64))]) (rest := []) ⟨hx, hb, hml, hown, hts⟩ (c_L_mends l D N0 ad ct hfl hG hO ((xs (i + 1))) hout) (vx_cwSW (hh := [(0, 9, 12, 19)]) 3 hts gL_law_L_mends rfl rfl rfl (by decide +kernel) ⟨Nat.le_of_ble_eq_true rfl, Nat.le_of_ble_eq_true rfl⟩) (hv_preS hKs hV hS) rfl rfl hl.1 rfl (lv_room (Nat.le_of_ble_eq_true rfl)) dL_law_1465 ⟨(show cells + 1 ≤ 601024 by omega), (show slots + 6 ≤ 7293033 by omega)⟩) hS (fun r9 u9 H locs hq hV hS => ?_)
  obtain ⟨ad, ct⟩ := u9
  obtain ⟨hz9, hw0, hw1, hwf⟩ := hq
  dsimp only at hw0 hw1 hwf
  have hV : hv D N0 ad ct H := hV
  have hna := fun (q : Nat) (q1 : q % 16 = 0) => (hwf q q1).1
  have hl : lv_has ls 9 [(0, .ref (b)), (1, .ref (ad (0))), (2, .ref (ad (80))), (3, .ref (ad (64))), (4, .int (nI (i)))] := by rw [hna (0) (by omega), hna (80) (by omega), hna (64) (by omega)]; exact hl
  obtain ⟨kv, hkv⟩ : ∃ z, z = k_mends σ (xs (i + 1)) := ⟨_, rfl⟩
  rw [← hkv] at hz9 hw0 hw1
  have hkb : kv ≤ 3 := by rw [hkv]; unfold k_mends; (repeat' split) <;> omega
  refine hv_eqi (y := nI kv) hz9 ?_
  obtain ⟨σ1, hσ1⟩ : ∃ z, z = (if kv = 0 then σ else σ) := ⟨_, rfl⟩
  have hG1 : gX D σ1 ad ct := by
    rw [hσ1]
    by_cases hk0 : kv = 0
    · rw [if_pos hk0]; exact (hw0 hk0).1
    · rw [if_neg hk0]; exact (hw1 hk0).1
  have hO1 : okS σ1 := by
    rw [hσ1]
    by_cases hk0 : kv = 0
    · rw [if_pos hk0]; exact hO
    · rw [if_neg hk0]; exact hO
  obtain ⟨fo, hout, hfo⟩ : ∃ fo : Nat → Int64, ct 64 = some (eL D 1 fo) ∧ (kv = 0 → fo 0 = (r_mends σ (xs (i + 1)).toInt.toNat).toInt64) := by
    by_cases hk0 : kv = 0
    · obtain ⟨f, h8, h9⟩ := (hw0 hk0).2
      exact ⟨f, h8, fun _ => h9⟩
    · obtain ⟨f, h8⟩ := (hw1 hk0).2
      exact ⟨f, h8, fun h => absurd h hk0⟩
  have hM1 : gM D σ th ad ct := hM.wP (u := (ad, ct)) hwf
  obtain ⟨f1, f2, f3, f4, f5, f6, f7, f8, f9, ⟨hm0, hm1, hm2, hm3, hm4, hm5, hm6, hm7, hm8, hm9⟩, hme⟩ := id hM1
  obtain ⟨em1, em2, em3, em4, em5, em6, em7, em8, em9⟩ := id hme
  refine lv_istore (lv' := [(5, .int (nI (kv))), (0, .ref (b)), (1, .ref (ad (0))), (2, .ref (ad (80))), (3, .ref (ad (64))), (4, .int (nI (i)))]) hx hb dL_law_1468 hl (by decide) rfl (fun ls hl => ?_)
  refine lv_aload_n hx hb dL_law_1470 rfl (lv_at hl 3 rfl) ?_
  refine lv_aload_n hx hb dL_law_1471 rfl (lv_at hl 1 rfl) ?_
  refine lv_iload hx hb dL_law_1472 (lv_at hl 5 rfl) ?_
  refine lv_iconst (v := nI 1) hx hb dL_law_1474 (by decide) ?_
  refine hN_iadd hx hb dL_law_1475 ?_
  refine va_sld hx hb hX hbl hbA hS (nI_in (by omega) (by omega)) dL_law_1476 ?_
  refine hv_eqi (y := xs (i + 1)) (by rw [nI_clamp (by omega)]) ?_
  refine hv_calli (va_runV (As := [.int (xs (i + 1))]) (rest := []) ⟨hx, hb, hml, hown, hts⟩ (c_X4_mends l D N0 ad ct hM1 hO ((xs (i + 1)))) (cwV 1 hts gL_law_X4_mends rfl rfl rfl (by decide +kernel) ⟨Nat.le_of_ble_eq_true rfl, Nat.le_of_ble_eq_true rfl⟩) (hv_preV (r := (RX4, TX4, 15)) hKs hV hS hm0 rfl) rfl rfl hl.1 rfl (lv_room (Nat.le_of_ble_eq_true rfl)) dL_law_1477 ⟨(show cells + 1 + 0 ≤ 601024 by omega), (show slots + 6 + 0 ≤ 7293033 by omega)⟩) hS (fun r9 u9 H locs hq hV hS => ?_)
  obtain ⟨ad, ct⟩ := u9
  dsimp only at hq
  obtain ⟨hz8, hM2, hfm⟩ := hq
  have hV : hv D N0 ad ct H := hV
  rw [← hkv] at hz8 hM2
  have hna := fun (q : Nat) (q1 : q ≠ 1) => (hfm q q1).1
  dsimp only at hna
  have hl : lv_has ls 9 [(5, .int (nI (kv))), (0, .ref (b)), (1, .ref (ad (0))), (2, .ref (ad (80))), (3, .ref (ad (64))), (4, .int (nI (i)))] := by rw [hna (0) (by omega), hna (80) (by omega), hna (64) (by omega)]; exact hl
  have hM2 : gM D σ1 kv ad ct := by
    rw [hσ1, ite_self]
    exact hM2
  have hzz := hz8
  have hG1 : gX D σ1 ad ct := hG1.hFm (u := (ad, ct)) hfm
  have hout := ((hfm 64 (by omega)).2 (by omega)).trans hout
  obtain ⟨f1, f2, f3, f4, f5, f6, f7, f8, f9, ⟨hm0, hmr⟩, hme⟩ := id hM2
  refine lv_istore (lv' := [(6, .int (r9)), (5, .int (nI (kv))), (0, .ref (b)), (1, .ref (ad (0))), (2, .ref (ad (80))), (3, .ref (ad (64))), (4, .int (nI (i)))]) hx hb dL_law_1480 hl (by decide) rfl (fun ls hl => ?_)
  refine lv_aload_n hx hb dL_law_1482 rfl (lv_at hl 4 rfl) ?_
  refine hv_calli (va_runV (As := []) (rest := []) ⟨hx, hb, hml, hown, hts⟩ (c_X4_thrown l D N0 ad ct hM2 hO1) (cwV 0 hts gL_law_X4_thrown rfl rfl rfl (by decide +kernel) ⟨Nat.le_of_ble_eq_true rfl, Nat.le_of_ble_eq_true rfl⟩) (hv_preV (r := (RX4, TX4, 15)) hKs hV hS hm0 rfl) rfl rfl hl.1 rfl (lv_room (Nat.le_of_ble_eq_true rfl)) dL_law_1483 ⟨(show cells + 1 + 0 ≤ 601024 by omega), (show slots + 6 + 0 ≤ 7293033 by omega)⟩) hS (fun r9 u9 H locs hq hV hS => ?_)
  obtain ⟨rfl, rfl⟩ := hq
  have hV : hv D N0 ad ct H := hV
  refine lv_iload hx hb dL_law_1486 (lv_at hl 1 rfl) ?_
  refine hN_icmp_eq (tgt := 1493) hx hb (by omega) (by omega) dL_law_1488 (by decide) (fun c1488 => ?_) (fun c1488 => by exact absurd rfl c1488)
  refine lv_iload hx hb dL_law_1493 (lv_at hl 1 rfl) ?_
  refine hN_if_ne (tgt := 1510) hx hb (by omega) dL_law_1495 (by decide) (fun c1495 => ?_) (fun c1495 => ?_)
  · refine lv_goto (tgt := 1568) hx hb dL_law_1510 (by decide) ?_
    refine lv_iinc (v := nI (i + 6)) (lv' := [(4, .int (nI (i + 6))), (6, .int (r9)), (5, .int (nI (kv))), (0, .ref (b)), (1, .ref (ad (0))), (2, .ref (ad (80))), (3, .ref (ad (64)))]) hx hb dL_law_1568 hl (k := 6) rfl (nI_add (i) 6) (by decide) rfl (fun ls hl => ?_)
    refine lv_goto (tgt := 23) hx hb dL_law_1571 (by decide) ?_
    refine W.widen (k := cells + 64) (n := slots + 400) (by omega) (by omega) ?_
    exact K _ _ _ _ _ ls ⟨hO1, hG1, ⟨_, hM2⟩, _, hout⟩ hV hS (lv_sub hl [3, 4, 5, 6, 0] rfl)
  · refine lv_aload_n hx hb dL_law_1498 rfl (lv_at hl 5 rfl) ?_
    refine lv_iconst (v := nI 0) hx hb dL_law_1499 (by decide) ?_
    refine hv_lald hx hb hKs hV hout (by omega) (by decide) dL_law_1500 ?_
    refine lv_iload hx hb dL_law_1501 (lv_at hl 0 rfl) ?_
    refine lv_i2l hx hb dL_law_1503 rfl ?_
    refine W.lcmp hx hb dL_law_1504 ?_
    refine hv_eqi (y := nI 0) (by rw [hfo c1495, hzz c1495]; exact lcmp_self _) ?_
    refine hN_if_eq (tgt := 1510) hx hb (by omega) dL_law_1505 (by decide) (fun c1505 => ?_) (fun c1505 => by exact absurd c1505 (by omega))
    refine lv_goto (tgt := 1568) hx hb dL_law_1510 (by decide) ?_
    refine lv_iinc (v := nI (i + 6)) (lv' := [(4, .int (nI (i + 6))), (6, .int (r9)), (5, .int (nI (kv))), (0, .ref (b)), (1, .ref (ad (0))), (2, .ref (ad (80))), (3, .ref (ad (64)))]) hx hb dL_law_1568 hl (k := 6) rfl (nI_add (i) 6) (by decide) rfl (fun ls hl => ?_)
    refine lv_goto (tgt := 23) hx hb dL_law_1571 (by decide) ?_
    refine W.widen (k := cells + 64) (n := slots + 400) (by omega) (by omega) ?_
    exact K _ _ _ _ _ ls ⟨hO1, hG1, ⟨_, hM2⟩, _, hout⟩ hV hS (lv_sub hl [3, 4, 5, 6, 0] rfl)
