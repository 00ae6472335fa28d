set_option maxHeartbeats 4000000 in
set_option maxRecDepth 100000 in
/-- floorMod(x, 8) -/
theorem c_J9_floorMod_7cf53 (l : Launch) (D : hG) (N0 : Nat) (ad : Nat → Nat) (ct : hC) (x : Int32) : Met l yJ9_floorMod_7cf53 wsJ9_floorMod_7cf53 ({ frames := 0, cells := 0, slots := 0, locals := 0 }) (hPc D N0 ad ct [.int (x), .int (nI (8))]) (va_Qi (fun (r : Int32) (u : hU) => r = nI (m8 x) ∧ u = (ad, ct)) (hB D N0) (hA N0)) 0 0 (hA N0) := by
  refine Met.ofW (cc := cJ9_floorMod_7cf53) (maxL := 3) (ret := (some .int)) (by decide) rfl ?_
  intro p e s m args below meth c s₁ B hml hv0
  obtain ⟨hargs, hKs, hV⟩ := hv0
  have hx := B.exec
  have hb := B.bytes
  have hr := B.returns
  have hts := atoms_spec (ws := wsJ9_floorMod_7cf53) B.pre
  have hown : s.vm.findClass RJ9 = some m.cls := findClass_of_methodNamed B.named
  have hlocks := B.notSynchronized
  have hS : va_S (hA N0) s.heap s.heap [] := va_S.rf
  have hl := lv_entry ([.int (x), .int (nI (8))]) (n := 3) (Nat.le_of_ble_eq_true rfl)
  have hE : entryFrame m args 3 = entryFrame m ([.int (x), .int (nI (8))] : List Value).toArray 3 := by rw [hargs]
  rw [hE, lg_entry_eq]
  generalize (lg_sl ([.int (x), .int (nI (8))]) ++ List.replicate (3 - (lg_sl ([.int (x), .int (nI (8))])).length) Slot.unset).toArray = ls at hl ⊢
  have hl : lv_has ls 3 [(0, .int (x)), (1, .int (nI (8)))] := hl
  refine lv_iload_n hx hb dJ9_floorMod_7cf53_0 rfl (lv_at hl 0 rfl) ?_
  refine lv_iload_n hx hb dJ9_floorMod_7cf53_1 rfl (lv_at hl 1 rfl) ?_
  refine lv_irem hx hb dJ9_floorMod_7cf53_2 (by decide) ?_
  refine lv_istore_n (lv' := [(2, .int ((x) - (x) / nI (8) * nI (8))), (0, .int (x)), (1, .int (nI (8)))]) hx hb dJ9_floorMod_7cf53_3 rfl hl (by decide) rfl (fun ls hl => ?_)
  refine lv_iload_n hx hb dJ9_floorMod_7cf53_4 rfl (lv_at hl 1 rfl) ?_
  refine lv_iload_n hx hb dJ9_floorMod_7cf53_5 rfl (lv_at hl 2 rfl) ?_
  refine lv_ixor hx hb dJ9_floorMod_7cf53_6 ?_
  refine hI_if_ge (tgt := 18) hx hb dJ9_floorMod_7cf53_7 (by decide) (fun c7 => ?_) (fun c7 => ?_)
  · refine lv_iload_n hx hb dJ9_floorMod_7cf53_18 rfl (lv_at hl 0 rfl) ?_
    exact hv_iret (v := ((x) - (x) / nI (8) * nI (8))) (u := (ad, ct)) hx hb hr ⟨fm_pos c7, rfl⟩ hV hS dJ9_floorMod_7cf53_19 hlocks
  · refine lv_iload_n hx hb dJ9_floorMod_7cf53_10 rfl (lv_at hl 0 rfl) ?_
    refine hI_if_eq (tgt := 18) hx hb dJ9_floorMod_7cf53_11 (by decide) (fun c11 => ?_) (fun c11 => ?_)
    · refine lv_iload_n hx hb dJ9_floorMod_7cf53_18 rfl (lv_at hl 0 rfl) ?_
      exact hv_iret (v := ((x) - (x) / nI (8) * nI (8))) (u := (ad, ct)) hx hb hr ⟨fm_zero c11, rfl⟩ hV hS dJ9_floorMod_7cf53_19 hlocks
    · refine lv_iload_n hx hb dJ9_floorMod_7cf53_14 rfl (lv_at hl 0 rfl) ?_
      refine lv_iload_n hx hb dJ9_floorMod_7cf53_15 rfl (lv_at hl 2 rfl) ?_
      refine lv_iadd hx hb dJ9_floorMod_7cf53_16 ?_
      exact hv_iret (v := (((x) - (x) / nI (8) * nI (8)) + nI (8))) (u := (ad, ct)) hx hb hr ⟨fm_neg c7 c11, rfl⟩ hV hS dJ9_floorMod_7cf53_17 hlocks

set_option maxHeartbeats 4000000 in
set_option maxRecDepth 100000 in
theorem c_X1_indexOf (l : Launch) (D : hG) (N0 : Nat) (ad : Nat → Nat) (ct : hC) (r : Nat) (hr3 : r < 3) (x : Int32) : Met l yX1_indexOf wsX1_indexOf ({ frames := 1, cells := 0, slots := 0, locals := 22 }) (hPc D N0 ad ct [.int (nI (r)), .int (x)]) (va_Qi (fun (z : Int32) (u : hU) => z = nI (8 * r + m8 x) ∧ u = (ad, ct)) (hB D N0) (hA N0)) 0 0 (hA N0) := by
  refine Met.ofW (cc := cX1_indexOf) (maxL := 2) (ret := (some .int)) (by decide) rfl ?_
  intro p e s m args below meth c s₁ B hml hv0
  obtain ⟨hargs, hKs, hV⟩ := hv0
  have hx := B.exec
  have hb := B.bytes
  have hr := B.returns
  have hts := atoms_spec (ws := wsX1_indexOf) B.pre
  have hown : s.vm.findClass RX1 = some m.cls := findClass_of_methodNamed B.named
  have hlocks := B.notSynchronized
  have hS : va_S (hA N0) s.heap s.heap [] := va_S.rf
  have hl := lv_entry ([.int (nI (r)), .int (x)]) (n := 2) (Nat.le_of_ble_eq_true rfl)
  have hE : entryFrame m args 2 = entryFrame m ([.int (nI (r)), .int (x)] : List Value).toArray 2 := by rw [hargs]
  rw [hE, lg_entry_eq]
  generalize (lg_sl ([.int (nI (r)), .int (x)]) ++ List.replicate (2 - (lg_sl ([.int (nI (r)), .int (x)])).length) Slot.unset).toArray = ls at hl ⊢
  have hl : lv_has ls 2 [(0, .int (nI (r))), (1, .int (x))] := hl
  refine lv_bipush (v := nI 8) hx hb dX1_indexOf_0 (by decide) ?_
  refine lv_iload_n hx hb dX1_indexOf_2 rfl (lv_at hl 0 rfl) ?_
  refine hN_imul hx hb dX1_indexOf_3 ?_
  refine lv_iload_n hx hb dX1_indexOf_4 rfl (lv_at hl 1 rfl) ?_
  refine lv_bipush (v := nI 8) hx hb dX1_indexOf_5 (by decide) ?_
  refine hv_calli (va_runS (As := [.int (x), .int (nI (8))]) (rest := [.int (nI ((8) * (r)))]) ⟨hx, hb, hml, hown, hts⟩ (c_J9_floorMod_7cf53 l D N0 ad ct ((x))) (va_cwS 2 hts gX1_indexOf_J9_floorMod_7cf53 rfl rfl rfl (by decide +kernel) ⟨Nat.le_of_ble_eq_true rfl, Nat.le_of_ble_eq_true rfl⟩) (hv_preS hKs hV hS) rfl rfl hl.1 rfl (lv_room (Nat.le_of_ble_eq_true rfl)) dX1_indexOf_7 ⟨by omega, by omega⟩) hS (fun r9 u9 H locs hq hV hS => ?_)
  obtain ⟨rfl, rfl⟩ := hq
  have hV : hv D N0 ad ct H := hV
  refine hN_iadd hx hb dX1_indexOf_10 ?_
  exact hv_iret (v := nI ((8) * (r) + m8 ((x)))) (u := (ad, ct)) hx hb hr ⟨rfl, rfl⟩ hV hS dX1_indexOf_11 hlocks

set_option maxHeartbeats 4000000 in
set_option maxRecDepth 100000 in
/-- the colour at ring r, sector sc, of the pattern turned by x -/
theorem c_X1_colourAt (l : Launch) (D : hG) (N0 : Nat) (ad : Nat → Nat) (ct : hC) {t : Nat} {P : Nat → Nat} (hp : hPat D ad ct t P) (r : Nat) (hr3 : r < 3) (sc : Nat) (hs8 : sc < 8) (x : Int32) : Met l yX1_colourAt wsX1_colourAt ({ frames := 2, cells := 0, slots := 0, locals := 43 }) (hPc D N0 ad ct [.ref (ad (t)), .int (nI (r)), .int (nI (sc)), .int (x)]) (va_Qi (fun (z : Int32) (u : hU) => z = nI (P (8 * r + (sc + 8 - m8 x) % 8)) ∧ u = (ad, ct)) (hB D N0) (hA N0)) 0 0 (hA N0) := by
  refine Met.ofW (cc := cX1_colourAt) (maxL := 4) (ret := (some .int)) (by decide) rfl ?_
  intro p e s m args below meth c s₁ B hml hv0
  obtain ⟨hargs, hKs, hV⟩ := hv0
  have hx := B.exec
  have hb := B.bytes
  have hr := B.returns
  have hts := atoms_spec (ws := wsX1_colourAt) B.pre
  have hown : s.vm.findClass RX1 = some m.cls := findClass_of_methodNamed B.named
  have hlocks := B.notSynchronized
  have hS : va_S (hA N0) s.heap s.heap [] := va_S.rf
  have hiX1 : ∀ w ∈ u_ws RX1 TX1 1, w ∈ wsX1_colourAt := by decide +kernel
  have k9 := hts (.fieldLink RX1 9 "CaneSlices$Pattern" "colours" "[I") (by decide +kernel)
  have hl := lv_entry ([.ref (ad (t)), .int (nI (r)), .int (nI (sc)), .int (x)]) (n := 4) (Nat.le_of_ble_eq_true rfl)
  have hE : entryFrame m args 4 = entryFrame m ([.ref (ad (t)), .int (nI (r)), .int (nI (sc)), .int (x)] : List Value).toArray 4 := by rw [hargs]
  rw [hE, lg_entry_eq]
  generalize (lg_sl ([.ref (ad (t)), .int (nI (r)), .int (nI (sc)), .int (x)]) ++ List.replicate (4 - (lg_sl ([.ref (ad (t)), .int (nI (r)), .int (nI (sc)), .int (x)])).length) Slot.unset).toArray = ls at hl ⊢
  have hl : lv_has ls 4 [(0, .ref (ad (t))), (1, .int (nI (r))), (2, .int (nI (sc))), (3, .int (x))] := hl
  obtain ⟨hp1, F, hp2, hF, hP8⟩ := hp
  refine lv_aload_n hx hb dX1_colourAt_0 rfl (lv_at hl 0 rfl) ?_
  refine hv_get (C := RX1) (T := TX1) (N := 1) hx hb hts hiX1 hown hKs hV hp1 0 rfl (by decide) k9 (fun _ h9 => h9) rfl dX1_colourAt_1 ?_
  refine lv_iload_n hx hb dX1_colourAt_4 rfl (lv_at hl 1 rfl) ?_
  refine lv_iload_n hx hb dX1_colourAt_5 rfl (lv_at hl 2 rfl) ?_
  refine lv_iload_n hx hb dX1_colourAt_6 rfl (lv_at hl 3 rfl) ?_
  refine lv_isub hx hb dX1_colourAt_7 ?_
  refine hv_calli (va_runS (As := [.int (nI (r)), .int (nI (sc) - (x))]) (rest := [.ref (ad (t + 1))]) ⟨hx, hb, hml, hown, hts⟩ (c_X1_indexOf l D N0 ad ct (r) (by omega) ((nI (sc) - (x)))) (va_cwS 2 hts gX1_colourAt_X1_indexOf rfl rfl rfl (by decide +kernel) ⟨Nat.le_of_ble_eq_true rfl, Nat.le_of_ble_eq_true rfl⟩) (hv_preS hKs hV hS) rfl rfl hl.1 rfl (lv_room (Nat.le_of_ble_eq_true rfl)) dX1_colourAt_8 ⟨by omega, by omega⟩) hS (fun r9 u9 H locs hq hV hS => ?_)
  obtain ⟨rfl, rfl⟩ := hq
  have hV : hv D N0 ad ct H := hV
  have hm := m8_lt (nI sc - x)
  refine hv_iald hx hb hKs hV hp2 (by omega) (by decide) dX1_colourAt_11 ?_
  refine hv_eqi (hF (8 * (r) + m8 ((nI (sc) - (x)))) (by omega)) ?_
  exact hv_iret (v := nI (P (8 * (r) + m8 ((nI (sc) - (x)))))) (u := (ad, ct)) hx hb hr ⟨by rw [m8_sub hs8], rfl⟩ hV hS dX1_colourAt_12 hlocks
