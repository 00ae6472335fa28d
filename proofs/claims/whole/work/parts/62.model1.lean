set_option maxHeartbeats 4000000 in
set_option maxRecDepth 100000 in
theorem c_X4_isIn (l : Launch) (D : hG) (N0 : Nat) (ad : Nat → Nat) (ct : hC) (v lo hi : Int32) : Met l yX4_isIn wsX4_isIn ({ frames := 0, cells := 0, slots := 0, locals := 0 }) (hPc D N0 ad ct [.int (v), .int (lo), .int (hi)]) (va_Qi (fun (z : Int32) (u : hU) => z = hbv (inI v lo hi) ∧ u = (ad, ct)) (hB D N0) (hA N0)) 0 0 (hA N0) := by
  refine Met.ofW (cc := cX4_isIn) (maxL := 3) (ret := (some .boolean)) (by decide) rfl ?_
  intro p e s m args below meth c s₁ B hml hv0
  obtain ⟨hargs, hKs, hV⟩ := hv0
  have hx := B.exec
  have hb := B.bytes
  have hr := B.returns
  have hts := atoms_spec (ws := wsX4_isIn) B.pre
  have hown : s.vm.findClass RX4 = some m.cls := findClass_of_methodNamed B.named
  have hlocks := B.notSynchronized
  have hS : va_S (hA N0) s.heap s.heap [] := va_S.rf
  have hl := lv_entry ([.int (v), .int (lo), .int (hi)]) (n := 3) (Nat.le_of_ble_eq_true rfl)
  have hE : entryFrame m args 3 = entryFrame m ([.int (v), .int (lo), .int (hi)] : List Value).toArray 3 := by rw [hargs]
  rw [hE, lg_entry_eq]
  generalize (lg_sl ([.int (v), .int (lo), .int (hi)]) ++ List.replicate (3 - (lg_sl ([.int (v), .int (lo), .int (hi)])).length) Slot.unset).toArray = ls at hl ⊢
  have hl : lv_has ls 3 [(0, .int (v)), (1, .int (lo)), (2, .int (hi))] := hl
  refine lv_iload_n hx hb dX4_isIn_0 rfl (lv_at hl 0 rfl) ?_
  refine lv_iload_n hx hb dX4_isIn_1 rfl (lv_at hl 1 rfl) ?_
  refine hI_icmp_lt (tgt := 14) hx hb dX4_isIn_2 (by decide) (fun c2 => ?_) (fun c2 => ?_)
  · refine lv_iconst (v := nI 0) hx hb dX4_isIn_14 (by decide) ?_
    exact hv_zret (v := nI (0)) (u := (ad, ct)) hx hb hr (by decide +kernel) ⟨hb_0 (inI_0 (Or.inl c2)), rfl⟩ hV hS dX4_isIn_15 hlocks
  · refine lv_iload_n hx hb dX4_isIn_5 rfl (lv_at hl 0 rfl) ?_
    refine lv_iload_n hx hb dX4_isIn_6 rfl (lv_at hl 2 rfl) ?_
    refine hI_icmp_gt (tgt := 14) hx hb dX4_isIn_7 (by decide) (fun c7 => ?_) (fun c7 => ?_)
    · refine lv_iconst (v := nI 0) hx hb dX4_isIn_14 (by decide) ?_
      exact hv_zret (v := nI (0)) (u := (ad, ct)) hx hb hr (by decide +kernel) ⟨hb_0 (inI_0 (Or.inr c7)), rfl⟩ hV hS dX4_isIn_15 hlocks
    · refine lv_iconst (v := nI 1) hx hb dX4_isIn_10 (by decide) ?_
      refine lv_goto (tgt := 15) hx hb dX4_isIn_11 (by decide) ?_
      exact hv_zret (v := nI (1)) (u := (ad, ct)) hx hb hr (by decide +kernel) ⟨hb_1 (inI_1 c2 c7), rfl⟩ hV hS dX4_isIn_15 hlocks

set_option maxHeartbeats 4000000 in
set_option maxRecDepth 100000 in
theorem c_X4_isCane (l : Launch) (D : hG) (N0 : Nat) (ad : Nat → Nat) (ct : hC) {σ : gS} {th : Nat} (hM : gM D σ th ad ct) (hO : okS σ) (x : Int32) : Met l yX4_isCane wsX4_isCane ({ frames := 1, cells := 0, slots := 0, locals := 22 }) (hPc D N0 ad ct [.ref (ad (80)), .int (x)]) (va_Qi (fun (z : Int32) (u : hU) => z = hbv (inR x (gNC σ)) ∧ u = (ad, ct)) (hB D N0) (hA N0)) 0 0 (hA N0) := by
  refine Met.ofW (cc := cX4_isCane) (maxL := 2) (ret := (some .boolean)) (by decide) rfl ?_
  intro p e s m args below meth c s₁ B hml hv0
  obtain ⟨hargs, hKs, hV⟩ := hv0
  have hx := B.exec
  have hb := B.bytes
  have hr := B.returns
  have hts := atoms_spec (ws := wsX4_isCane) B.pre
  have hown : s.vm.findClass RX4 = some m.cls := findClass_of_methodNamed B.named
  have hlocks := B.notSynchronized
  have hS : va_S (hA N0) s.heap s.heap [] := va_S.rf
  have hiX4 : ∀ w ∈ u_ws RX4 TX4 15, w ∈ wsX4_isCane := by decide +kernel
  have lk44 := hts (.fieldLink RX4 44 "CaneSlicesModel" "canes" "I") (by decide +kernel)
  have hl := lv_entry ([.ref (ad (80)), .int (x)]) (n := 2) (Nat.le_of_ble_eq_true rfl)
  have hE : entryFrame m args 2 = entryFrame m ([.ref (ad (80)), .int (x)] : List Value).toArray 2 := by rw [hargs]
  rw [hE, lg_entry_eq]
  generalize (lg_sl ([.ref (ad (80)), .int (x)]) ++ List.replicate (2 - (lg_sl ([.ref (ad (80)), .int (x)])).length) Slot.unset).toArray = ls at hl ⊢
  have hl : lv_has ls 2 [(0, .ref (ad (80))), (1, .int (x))] := hl
  obtain ⟨hn8, hn60, hn6, -⟩ := id hO
  obtain ⟨f1, f2, f3, f4, f5, f6, f7, f8, f9, ⟨hm0, hm1, hm2, hm3, hm4, hm5, hm6, hm7, hm8, hm9⟩, hme⟩ := id hM
  obtain ⟨em1, em2, em3, em4, em5, em6, em7, em8, em9⟩ := id hme
  refine lv_iload_n hx hb dX4_isCane_0 rfl (lv_at hl 1 rfl) ?_
  refine lv_iconst (v := nI 0) hx hb dX4_isCane_1 (by decide) ?_
  refine lv_aload_n hx hb dX4_isCane_2 rfl (lv_at hl 0 rfl) ?_
  refine hv_get (C := RX4) (T := TX4) (N := 15) hx hb hts hiX4 hown hKs hV hm0 3 rfl (by decide) lk44 (fun _ h9 => h9) rfl dX4_isCane_3 ?_
  refine lv_iconst (v := nI 1) hx hb dX4_isCane_6 (by decide) ?_
  refine lv_isub hx hb dX4_isCane_7 ?_
  refine hv_calli (va_runS (As := [.int (x), .int (nI (0)), .int (nI (gNC σ) - nI (1))]) (rest := []) ⟨hx, hb, hml, hown, hts⟩ (c_X4_isIn l D N0 ad ct ((x)) (nI (0)) ((nI (gNC σ) - nI (1)))) (va_cwS 3 hts gX4_isCane_X4_isIn rfl rfl rfl (by decide +kernel) ⟨Nat.le_of_ble_eq_true rfl, Nat.le_of_ble_eq_true rfl⟩) (hv_preS hKs hV hS) rfl rfl hl.1 rfl (lv_room (Nat.le_of_ble_eq_true rfl)) dX4_isCane_8 ⟨(Nat.le_of_ble_eq_true rfl), (Nat.le_of_ble_eq_true rfl)⟩) hS (fun r9 u9 H locs hq hV hS => ?_)
  obtain ⟨rfl, rfl⟩ := hq
  have hV : hv D N0 ad ct H := hV
  refine hv_eqi (y := hbv (inR ((x)) (gNC σ))) (congrArg hbv (inI_n (by omega))) ?_
  exact hv_zret (v := hbv (inR ((x)) (gNC σ))) (u := (ad, ct)) hx hb hr (hb_nar _) ⟨rfl, rfl⟩ hV hS dX4_isCane_11 hlocks

set_option maxHeartbeats 4000000 in
set_option maxRecDepth 100000 in
theorem c_X4_isSlice (l : Launch) (D : hG) (N0 : Nat) (ad : Nat → Nat) (ct : hC) {σ : gS} {th : Nat} (hM : gM D σ th ad ct) (hO : okS σ) (x : Int32) : Met l yX4_isSlice wsX4_isSlice ({ frames := 1, cells := 0, slots := 0, locals := 22 }) (hPc D N0 ad ct [.ref (ad (80)), .int (x)]) (va_Qi (fun (z : Int32) (u : hU) => z = hbv (inR x (gNS σ)) ∧ u = (ad, ct)) (hB D N0) (hA N0)) 0 0 (hA N0) := by
  refine Met.ofW (cc := cX4_isSlice) (maxL := 2) (ret := (some .boolean)) (by decide) rfl ?_
  intro p e s m args below meth c s₁ B hml hv0
  obtain ⟨hargs, hKs, hV⟩ := hv0
  have hx := B.exec
  have hb := B.bytes
  have hr := B.returns
  have hts := atoms_spec (ws := wsX4_isSlice) B.pre
  have hown : s.vm.findClass RX4 = some m.cls := findClass_of_methodNamed B.named
  have hlocks := B.notSynchronized
  have hS : va_S (hA N0) s.heap s.heap [] := va_S.rf
  have hiX4 : ∀ w ∈ u_ws RX4 TX4 15, w ∈ wsX4_isSlice := by decide +kernel
  have lk51 := hts (.fieldLink RX4 51 "CaneSlicesModel" "slices" "I") (by decide +kernel)
  have hl := lv_entry ([.ref (ad (80)), .int (x)]) (n := 2) (Nat.le_of_ble_eq_true rfl)
  have hE : entryFrame m args 2 = entryFrame m ([.ref (ad (80)), .int (x)] : List Value).toArray 2 := by rw [hargs]
  rw [hE, lg_entry_eq]
  generalize (lg_sl ([.ref (ad (80)), .int (x)]) ++ List.replicate (2 - (lg_sl ([.ref (ad (80)), .int (x)])).length) Slot.unset).toArray = ls at hl ⊢
  have hl : lv_has ls 2 [(0, .ref (ad (80))), (1, .int (x))] := hl
  obtain ⟨hn8, hn60, hn6, -⟩ := id hO
  obtain ⟨f1, f2, f3, f4, f5, f6, f7, f8, f9, ⟨hm0, hm1, hm2, hm3, hm4, hm5, hm6, hm7, hm8, hm9⟩, hme⟩ := id hM
  obtain ⟨em1, em2, em3, em4, em5, em6, em7, em8, em9⟩ := id hme
  refine lv_iload_n hx hb dX4_isSlice_0 rfl (lv_at hl 1 rfl) ?_
  refine lv_iconst (v := nI 0) hx hb dX4_isSlice_1 (by decide) ?_
  refine lv_aload_n hx hb dX4_isSlice_2 rfl (lv_at hl 0 rfl) ?_
  refine hv_get (C := RX4) (T := TX4) (N := 15) hx hb hts hiX4 hown hKs hV hm0 9 rfl (by decide) lk51 (fun _ h9 => h9) rfl dX4_isSlice_3 ?_
  refine lv_iconst (v := nI 1) hx hb dX4_isSlice_6 (by decide) ?_
  refine lv_isub hx hb dX4_isSlice_7 ?_
  refine hv_calli (va_runS (As := [.int (x), .int (nI (0)), .int (nI (gNS σ) - nI (1))]) (rest := []) ⟨hx, hb, hml, hown, hts⟩ (c_X4_isIn l D N0 ad ct ((x)) (nI (0)) ((nI (gNS σ) - nI (1)))) (va_cwS 3 hts gX4_isSlice_X4_isIn rfl rfl rfl (by decide +kernel) ⟨Nat.le_of_ble_eq_true rfl, Nat.le_of_ble_eq_true rfl⟩) (hv_preS hKs hV hS) rfl rfl hl.1 rfl (lv_room (Nat.le_of_ble_eq_true rfl)) dX4_isSlice_8 ⟨(Nat.le_of_ble_eq_true rfl), (Nat.le_of_ble_eq_true rfl)⟩) hS (fun r9 u9 H locs hq hV hS => ?_)
  obtain ⟨rfl, rfl⟩ := hq
  have hV : hv D N0 ad ct H := hV
  refine hv_eqi (y := hbv (inR ((x)) (gNS σ))) (congrArg hbv (inI_n (by omega))) ?_
  exact hv_zret (v := hbv (inR ((x)) (gNS σ))) (u := (ad, ct)) hx hb hr (hb_nar _) ⟨rfl, rfl⟩ hV hS dX4_isSlice_11 hlocks

set_option maxHeartbeats 4000000 in
set_option maxRecDepth 100000 in
theorem c_X4_isEye (l : Launch) (D : hG) (N0 : Nat) (ad : Nat → Nat) (ct : hC) {σ : gS} {th : Nat} (hM : gM D σ th ad ct) (hO : okS σ) (x y : Int32) : Met l yX4_isEye wsX4_isEye ({ frames := 1, cells := 0, slots := 0, locals := 22 }) (hPc D N0 ad ct [.ref (ad (80)), .int (x), .int (y)]) (va_Qi (fun (z : Int32) (u : hU) => z = hbv (inR x (gNB σ) && inR y 4) ∧ u = (ad, ct)) (hB D N0) (hA N0)) 0 0 (hA N0) := by
  refine Met.ofW (cc := cX4_isEye) (maxL := 3) (ret := (some .boolean)) (by decide) rfl ?_
  intro p e s m args below meth c s₁ B hml hv0
  obtain ⟨hargs, hKs, hV⟩ := hv0
  have hx := B.exec
  have hb := B.bytes
  have hr := B.returns
  have hts := atoms_spec (ws := wsX4_isEye) B.pre
  have hown : s.vm.findClass RX4 = some m.cls := findClass_of_methodNamed B.named
  have hlocks := B.notSynchronized
  have hS : va_S (hA N0) s.heap s.heap [] := va_S.rf
  have hiX4 : ∀ w ∈ u_ws RX4 TX4 15, w ∈ wsX4_isEye := by decide +kernel
  have lk54 := hts (.fieldLink RX4 54 "CaneSlicesModel" "beads" "I") (by decide +kernel)
  have hl := lv_entry ([.ref (ad (80)), .int (x), .int (y)]) (n := 3) (Nat.le_of_ble_eq_true rfl)
  have hE : entryFrame m args 3 = entryFrame m ([.ref (ad (80)), .int (x), .int (y)] : List Value).toArray 3 := by rw [hargs]
  rw [hE, lg_entry_eq]
  generalize (lg_sl ([.ref (ad (80)), .int (x), .int (y)]) ++ List.replicate (3 - (lg_sl ([.ref (ad (80)), .int (x), .int (y)])).length) Slot.unset).toArray = ls at hl ⊢
  have hl : lv_has ls 3 [(0, .ref (ad (80))), (1, .int (x)), (2, .int (y))] := hl
  obtain ⟨hn8, hn60, hn6, -⟩ := id hO
  obtain ⟨f1, f2, f3, f4, f5, f6, f7, f8, f9, ⟨hm0, hm1, hm2, hm3, hm4, hm5, hm6, hm7, hm8, hm9⟩, hme⟩ := id hM
  obtain ⟨em1, em2, em3, em4, em5, em6, em7, em8, em9⟩ := id hme
  refine lv_iload_n hx hb dX4_isEye_0 rfl (lv_at hl 1 rfl) ?_
  refine lv_iconst (v := nI 0) hx hb dX4_isEye_1 (by decide) ?_
  refine lv_aload_n hx hb dX4_isEye_2 rfl (lv_at hl 0 rfl) ?_
  refine hv_get (C := RX4) (T := TX4) (N := 15) hx hb hts hiX4 hown hKs hV hm0 12 rfl (by decide) lk54 (fun _ h9 => h9) rfl dX4_isEye_3 ?_
  refine lv_iconst (v := nI 1) hx hb dX4_isEye_6 (by decide) ?_
  refine lv_isub hx hb dX4_isEye_7 ?_
  refine hv_calli (va_runS (As := [.int (x), .int (nI (0)), .int (nI (gNB σ) - nI (1))]) (rest := []) ⟨hx, hb, hml, hown, hts⟩ (c_X4_isIn l D N0 ad ct ((x)) (nI (0)) ((nI (gNB σ) - nI (1)))) (va_cwS 3 hts gX4_isEye_X4_isIn rfl rfl rfl (by decide +kernel) ⟨Nat.le_of_ble_eq_true rfl, Nat.le_of_ble_eq_true rfl⟩) (hv_preS hKs hV hS) rfl rfl hl.1 rfl (lv_room (Nat.le_of_ble_eq_true rfl)) dX4_isEye_8 ⟨(Nat.le_of_ble_eq_true rfl), (Nat.le_of_ble_eq_true rfl)⟩) hS (fun r9 u9 H locs hq hV hS => ?_)
  obtain ⟨rfl, rfl⟩ := hq
  have hV : hv D N0 ad ct H := hV
  refine hv_eqi (y := hbv (inR ((x)) (gNB σ))) (congrArg hbv (inI_n (by omega))) ?_
  refine hB_if_eq (tgt := 27) hx hb dX4_isEye_11 (by decide) (fun c11 => ?_) (fun c11 => ?_)
  · refine lv_iconst (v := nI 0) hx hb dX4_isEye_27 (by decide) ?_
    exact hv_zret (v := nI (0)) (u := (ad, ct)) hx hb hr (by decide +kernel) ⟨hb_0 (by rw [c11]; rfl), rfl⟩ hV hS dX4_isEye_28 hlocks
  · refine lv_iload_n hx hb dX4_isEye_14 rfl (lv_at hl 2 rfl) ?_
    refine lv_iconst (v := nI 0) hx hb dX4_isEye_15 (by decide) ?_
    refine lv_iconst (v := nI 3) hx hb dX4_isEye_16 (by decide) ?_
    refine hv_calli (va_runS (As := [.int (y), .int (nI (0)), .int (nI (3))]) (rest := []) ⟨hx, hb, hml, hown, hts⟩ (c_X4_isIn l D N0 ad ct ((y)) (nI (0)) (nI (3))) (va_cwS 3 hts gX4_isEye_X4_isIn rfl rfl rfl (by decide +kernel) ⟨Nat.le_of_ble_eq_true rfl, Nat.le_of_ble_eq_true rfl⟩) (hv_preS hKs hV hS) rfl rfl hl.1 rfl (lv_room (Nat.le_of_ble_eq_true rfl)) dX4_isEye_17 ⟨(Nat.le_of_ble_eq_true rfl), (Nat.le_of_ble_eq_true rfl)⟩) hS (fun r9 u9 H locs hq hV hS => ?_)
    obtain ⟨rfl, rfl⟩ := hq
    have hV : hv D N0 ad ct H := hV
    refine hv_eqi (y := hbv (inR ((y)) 4)) (congrArg hbv (inI_k (n := 4) (by omega) rfl)) ?_
    refine hB_if_eq (tgt := 27) hx hb dX4_isEye_20 (by decide) (fun c20 => ?_) (fun c20 => ?_)
    · refine lv_iconst (v := nI 0) hx hb dX4_isEye_27 (by decide) ?_
      exact hv_zret (v := nI (0)) (u := (ad, ct)) hx hb hr (by decide +kernel) ⟨hb_0 (by rw [c11, c20]; rfl), rfl⟩ hV hS dX4_isEye_28 hlocks
    · refine lv_iconst (v := nI 1) hx hb dX4_isEye_23 (by decide) ?_
      refine lv_goto (tgt := 28) hx hb dX4_isEye_24 (by decide) ?_
      exact hv_zret (v := nI (1)) (u := (ad, ct)) hx hb hr (by decide +kernel) ⟨hb_1 (by rw [c11, c20]; rfl), rfl⟩ hV hS dX4_isEye_28 hlocks

set_option maxHeartbeats 4000000 in
set_option maxRecDepth 100000 in
theorem c_X4_isSpot (l : Launch) (D : hG) (N0 : Nat) (ad : Nat → Nat) (ct : hC) (x y : Int32) : Met l yX4_isSpot wsX4_isSpot ({ frames := 1, cells := 0, slots := 0, locals := 22 }) (hPc D N0 ad ct [.int (x), .int (y)]) (va_Qi (fun (z : Int32) (u : hU) => z = hbv (inR x 3 && inR y 8) ∧ u = (ad, ct)) (hB D N0) (hA N0)) 0 0 (hA N0) := by
  refine Met.ofW (cc := cX4_isSpot) (maxL := 2) (ret := (some .boolean)) (by decide) rfl ?_
  intro p e s m args below meth c s₁ B hml hv0
  obtain ⟨hargs, hKs, hV⟩ := hv0
  have hx := B.exec
  have hb := B.bytes
  have hr := B.returns
  have hts := atoms_spec (ws := wsX4_isSpot) B.pre
  have hown : s.vm.findClass RX4 = some m.cls := findClass_of_methodNamed B.named
  have hlocks := B.notSynchronized
  have hS : va_S (hA N0) s.heap s.heap [] := va_S.rf
  have hl := lv_entry ([.int (x), .int (y)]) (n := 2) (Nat.le_of_ble_eq_true rfl)
  have hE : entryFrame m args 2 = entryFrame m ([.int (x), .int (y)] : List Value).toArray 2 := by rw [hargs]
  rw [hE, lg_entry_eq]
  generalize (lg_sl ([.int (x), .int (y)]) ++ List.replicate (2 - (lg_sl ([.int (x), .int (y)])).length) Slot.unset).toArray = ls at hl ⊢
  have hl : lv_has ls 2 [(0, .int (x)), (1, .int (y))] := hl
  refine lv_iload_n hx hb dX4_isSpot_0 rfl (lv_at hl 0 rfl) ?_
  refine lv_iconst (v := nI 0) hx hb dX4_isSpot_1 (by decide) ?_
  refine lv_iconst (v := nI 2) hx hb dX4_isSpot_2 (by decide) ?_
  refine hv_calli (va_runS (As := [.int (x), .int (nI (0)), .int (nI (2))]) (rest := []) ⟨hx, hb, hml, hown, hts⟩ (c_X4_isIn l D N0 ad ct ((x)) (nI (0)) (nI (2))) (va_cwS 3 hts gX4_isSpot_X4_isIn rfl rfl rfl (by decide +kernel) ⟨Nat.le_of_ble_eq_true rfl, Nat.le_of_ble_eq_true rfl⟩) (hv_preS hKs hV hS) rfl rfl hl.1 rfl (lv_room (Nat.le_of_ble_eq_true rfl)) dX4_isSpot_3 ⟨(Nat.le_of_ble_eq_true rfl), (Nat.le_of_ble_eq_true rfl)⟩) hS (fun r9 u9 H locs hq hV hS => ?_)
  obtain ⟨rfl, rfl⟩ := hq
  have hV : hv D N0 ad ct H := hV
  refine hv_eqi (y := hbv (inR ((x)) 3)) (congrArg hbv (inI_k (n := 3) (by omega) rfl)) ?_
  refine hB_if_eq (tgt := 23) hx hb dX4_isSpot_6 (by decide) (fun c6 => ?_) (fun c6 => ?_)
  · refine lv_iconst (v := nI 0) hx hb dX4_isSpot_23 (by decide) ?_
    exact hv_zret (v := nI (0)) (u := (ad, ct)) hx hb hr (by decide +kernel) ⟨hb_0 (by rw [c6]; rfl), rfl⟩ hV hS dX4_isSpot_24 hlocks
  · refine lv_iload_n hx hb dX4_isSpot_9 rfl (lv_at hl 1 rfl) ?_
    refine lv_iconst (v := nI 0) hx hb dX4_isSpot_10 (by decide) ?_
    refine lv_bipush (v := nI 7) hx hb dX4_isSpot_11 (by decide) ?_
    refine hv_calli (va_runS (As := [.int (y), .int (nI (0)), .int (nI (7))]) (rest := []) ⟨hx, hb, hml, hown, hts⟩ (c_X4_isIn l D N0 ad ct ((y)) (nI (0)) (nI (7))) (va_cwS 3 hts gX4_isSpot_X4_isIn rfl rfl rfl (by decide +kernel) ⟨Nat.le_of_ble_eq_true rfl, Nat.le_of_ble_eq_true rfl⟩) (hv_preS hKs hV hS) rfl rfl hl.1 rfl (lv_room (Nat.le_of_ble_eq_true rfl)) dX4_isSpot_13 ⟨(Nat.le_of_ble_eq_true rfl), (Nat.le_of_ble_eq_true rfl)⟩) hS (fun r9 u9 H locs hq hV hS => ?_)
    obtain ⟨rfl, rfl⟩ := hq
    have hV : hv D N0 ad ct H := hV
    refine hv_eqi (y := hbv (inR ((y)) 8)) (congrArg hbv (inI_k (n := 8) (by omega) rfl)) ?_
    refine hB_if_eq (tgt := 23) hx hb dX4_isSpot_16 (by decide) (fun c16 => ?_) (fun c16 => ?_)
    · refine lv_iconst (v := nI 0) hx hb dX4_isSpot_23 (by decide) ?_
      exact hv_zret (v := nI (0)) (u := (ad, ct)) hx hb hr (by decide +kernel) ⟨hb_0 (by rw [c6, c16]; rfl), rfl⟩ hV hS dX4_isSpot_24 hlocks
    · refine lv_iconst (v := nI 1) hx hb dX4_isSpot_19 (by decide) ?_
      refine lv_goto (tgt := 24) hx hb dX4_isSpot_20 (by decide) ?_
      exact hv_zret (v := nI (1)) (u := (ad, ct)) hx hb hr (by decide +kernel) ⟨hb_1 (by rw [c6, c16]; rfl), rfl⟩ hV hS dX4_isSpot_24 hlocks

set_option maxHeartbeats 4000000 in
set_option maxRecDepth 100000 in
theorem c_X4_rotated (l : Launch) (D : hG) (N0 : Nat) (ad : Nat → Nat) (ct : hC) {f : Nat → Nat} (hf : dg8 f) (x : Int32) : Met l yX4_rotated wsX4_rotated ({ frames := 1, cells := 0, slots := 0, locals := 22 }) (hPc D N0 ad ct [.int (nI (pkR f)), .int (x)]) (va_Qi (fun (z : Int32) (u : hU) => z = nI (pkR (rtF (m8 x) f)) ∧ u = (ad, ct)) (hB D N0) (hA N0)) 0 0 (hA N0) := by
  refine Met.ofW (cc := cX4_rotated) (maxL := 3) (ret := (some .int)) (by decide) rfl ?_
  intro p e s m args below meth c s₁ B hml hv0
  obtain ⟨hargs, hKs, hV⟩ := hv0
  have hx := B.exec
  have hb := B.bytes
  have hr := B.returns
  have hts := atoms_spec (ws := wsX4_rotated) B.pre
  have hown : s.vm.findClass RX4 = some m.cls := findClass_of_methodNamed B.named
  have hlocks := B.notSynchronized
  have hS : va_S (hA N0) s.heap s.heap [] := va_S.rf
  have lk63 := hts (.constant RX4 63 (16777215)) (by decide +kernel)
  have hl := lv_entry ([.int (nI (pkR f)), .int (x)]) (n := 3) (Nat.le_of_ble_eq_true rfl)
  have hE : entryFrame m args 3 = entryFrame m ([.int (nI (pkR f)), .int (x)] : List Value).toArray 3 := by rw [hargs]
  rw [hE, lg_entry_eq]
  generalize (lg_sl ([.int (nI (pkR f)), .int (x)]) ++ List.replicate (3 - (lg_sl ([.int (nI (pkR f)), .int (x)])).length) Slot.unset).toArray = ls at hl ⊢
  have hl : lv_has ls 3 [(0, .int (nI (pkR f))), (1, .int (x))] := hl
  have hm8 := m8_lt x
  refine lv_iconst (v := nI 3) hx hb dX4_rotated_0 (by decide) ?_
  refine lv_iload_n hx hb dX4_rotated_1 rfl (lv_at hl 1 rfl) ?_
  refine lv_bipush (v := nI 8) hx hb dX4_rotated_2 (by decide) ?_
  refine hv_calli (va_runS (As := [.int (x), .int (nI (8))]) (rest := [.int (nI (3))]) ⟨hx, hb, hml, hown, hts⟩ (c_J9_floorMod_7cf53 l D N0 ad ct ((x))) (va_cwS 2 hts gX4_rotated_J9_floorMod_7cf53 rfl rfl rfl (by decide +kernel) ⟨Nat.le_of_ble_eq_true rfl, Nat.le_of_ble_eq_true rfl⟩) (hv_preS hKs hV hS) rfl rfl hl.1 rfl (lv_room (Nat.le_of_ble_eq_true rfl)) dX4_rotated_4 ⟨(Nat.le_of_ble_eq_true rfl), (Nat.le_of_ble_eq_true rfl)⟩) hS (fun r9 u9 H locs hq hV hS => ?_)
  obtain ⟨rfl, rfl⟩ := hq
  have hV : hv D N0 ad ct H := hV
  refine hN_imul hx hb dX4_rotated_7 ?_
  refine lv_istore_n (lv' := [(2, .int (nI ((3) * (m8 ((x)))))), (0, .int (nI (pkR f))), (1, .int (x))]) hx hb dX4_rotated_8 rfl hl (by decide) rfl (fun ls hl => ?_)
  refine lv_iload_n hx hb dX4_rotated_9 rfl (lv_at hl 1 rfl) ?_
  refine lv_iload_n hx hb dX4_rotated_10 rfl (lv_at hl 0 rfl) ?_
  refine lv_ishl hx hb dX4_rotated_11 ?_
  refine lv_iload_n hx hb dX4_rotated_12 rfl (lv_at hl 1 rfl) ?_
  refine lv_bipush (v := nI 24) hx hb dX4_rotated_13 (by decide) ?_
  refine lv_iload_n hx hb dX4_rotated_15 rfl (lv_at hl 0 rfl) ?_
  refine hN_isub hx hb (by omega) dX4_rotated_16 ?_
  refine lv_iushr hx hb dX4_rotated_17 rfl ?_
  refine lv_ior hx hb dX4_rotated_18 ?_
  refine lv_ldc (v := 16777215) hx hb hown lk63 dX4_rotated_19 ?_
  refine lv_iand hx hb dX4_rotated_21 ?_
  exact hv_iret (v := (((nI (pkR f) <<< (nI ((3) * (m8 ((x)))) &&& 31)) ||| (((nI (pkR f)).toUInt32 >>> ((nI (24 - ((3) * (m8 ((x)))))).toUInt32 &&& Int32.toUInt32 31)).toInt32)) &&& (16777215))) (u := (ad, ct)) hx hb hr ⟨rot_ring hf hm8, rfl⟩ hV hS dX4_rotated_22 hlocks

set_option maxHeartbeats 4000000 in
set_option maxRecDepth 100000 in
theorem c_X4_colourOf (l : Launch) (D : hG) (N0 : Nat) (ad : Nat → Nat) (ct : hC) {f : Nat → Nat} (hf : dg8 f) (s9 : Nat) (hs8 : s9 < 8) : Met l yX4_colourOf wsX4_colourOf ({ frames := 0, cells := 0, slots := 0, locals := 0 }) (hPc D N0 ad ct [.int (nI (pkR f)), .int (nI (s9))]) (va_Qi (fun (z : Int32) (u : hU) => z = nI (f s9) ∧ u = (ad, ct)) (hB D N0) (hA N0)) 0 0 (hA N0) := by
  refine Met.ofW (cc := cX4_colourOf) (maxL := 2) (ret := (some .int)) (by decide) rfl ?_
  intro p e s m args below meth c s₁ B hml hv0
  obtain ⟨hargs, hKs, hV⟩ := hv0
  have hx := B.exec
  have hb := B.bytes
  have hr := B.returns
  have hts := atoms_spec (ws := wsX4_colourOf) B.pre
  have hown : s.vm.findClass RX4 = some m.cls := findClass_of_methodNamed B.named
  have hlocks := B.notSynchronized
  have hS : va_S (hA N0) s.heap s.heap [] := va_S.rf
  have hl := lv_entry ([.int (nI (pkR f)), .int (nI (s9))]) (n := 2) (Nat.le_of_ble_eq_true rfl)
  have hE : entryFrame m args 2 = entryFrame m ([.int (nI (pkR f)), .int (nI (s9))] : List Value).toArray 2 := by rw [hargs]
  rw [hE, lg_entry_eq]
  generalize (lg_sl ([.int (nI (pkR f)), .int (nI (s9))]) ++ List.replicate (2 - (lg_sl ([.int (nI (pkR f)), .int (nI (s9))])).length) Slot.unset).toArray = ls at hl ⊢
  have hl : lv_has ls 2 [(0, .int (nI (pkR f))), (1, .int (nI (s9)))] := hl
  refine lv_iload_n hx hb dX4_colourOf_0 rfl (lv_at hl 0 rfl) ?_
  refine lv_iconst (v := nI 3) hx hb dX4_colourOf_1 (by decide) ?_
  refine lv_iload_n hx hb dX4_colourOf_2 rfl (lv_at hl 1 rfl) ?_
  refine hN_imul hx hb dX4_colourOf_3 ?_
  refine lv_ishr hx hb dX4_colourOf_4 ?_
  refine lv_bipush (v := nI 7) hx hb dX4_colourOf_5 (by decide) ?_
  refine lv_iand hx hb dX4_colourOf_7 ?_
  exact hv_iret (v := ((nI (pkR f) >>> (nI ((3) * (s9)) &&& 31)) &&& nI (7))) (u := (ad, ct)) hx hb hr ⟨col_ring hf hs8, rfl⟩ hV hS dX4_colourOf_8 hlocks

theorem al_z {p : Nat → Prop} : true = true ↔ ∀ r, r < 0 → p r := ⟨fun _ r hr => absurd hr (Nat.not_lt_zero r), fun _ => rfl⟩
theorem al_1 {b : Bool} {p : Nat → Prop} {i : Nat} (h : b = true ↔ ∀ r, r < i → p r) (hp : p i) : b = true ↔ ∀ r, r < i + 1 → p r :=
  ⟨fun q r hr => (Nat.lt_or_ge r i).elim (h.mp q r) (fun z => by have e9 : r = i := (by omega); subst e9; exact hp), fun q => h.mpr fun r hr => q r (by omega)⟩
theorem al_0 {p : Nat → Prop} {i : Nat} (hp : ¬ p i) : false = true ↔ ∀ r, r < i + 1 → p r := ⟨fun q => (by cases q), fun q => absurd (q i (Nat.lt_succ_self i)) hp⟩

set_option maxHeartbeats 4000000 in
set_option maxRecDepth 100000 in
theorem c_X4_areAlike (l : Launch) (D : hG) (N0 : Nat) (ad : Nat → Nat) (ct : hC) {ta tb n1 n2 : Nat} {g1 g2 : Nat → Int32} (ha1 : ct ta = some (eI D n1 g1)) (ha2 : ct tb = some (eI D n2 g2)) (hn1 : n1 < 2 ^ 31) (hn2 : n2 < 2 ^ 31) (k1 k2 : Nat) (hk1 : 3 * k1 + 3 ≤ n1) (hk2 : 3 * k2 + 3 ≤ n2) (x : Int32) {P1 P2 : Nat → Nat} (hP1 : ok24 P1) (hP2 : ok24 P2) (hg1 : ∀ r, r < 3 → g1 (3 * k1 + r) = nI (rgP P1 r)) (hg2 : ∀ r, r < 3 → g2 (3 * k2 + r) = nI (rgP P2 r)) : Met l yX4_areAlike wsX4_areAlike ({ frames := 2, cells := 0, slots := 0, locals := 44 }) (hPc D N0 ad ct [.ref (ad (ta)), .int (nI (k1)), .int (x), .ref (ad (tb)), .int (nI (k2))]) (va_Qi (fun (z : Int32) (u : hU) => z = hbv (like P1 x P2) ∧ u = (ad, ct)) (hB D N0) (hA N0)) 0 0 (hA N0) := by
  refine Met.ofW (cc := cX4_areAlike) (maxL := 7) (ret := (some .boolean)) (by decide) rfl ?_
  intro p e s m args below meth c s₁ B hml hv0
  obtain ⟨hargs, hKs, hV⟩ := hv0
  have hx := B.exec
  have hb := B.bytes
  have hr := B.returns
  have hts := atoms_spec (ws := wsX4_areAlike) B.pre
  have hown : s.vm.findClass RX4 = some m.cls := findClass_of_methodNamed B.named
  have hlocks := B.notSynchronized
  have hS : va_S (hA N0) s.heap s.heap [] := va_S.rf
  have hl := lv_entry ([.ref (ad (ta)), .int (nI (k1)), .int (x), .ref (ad (tb)), .int (nI (k2))]) (n := 7) (Nat.le_of_ble_eq_true rfl)
  have hE : entryFrame m args 7 = entryFrame m ([.ref (ad (ta)), .int (nI (k1)), .int (x), .ref (ad (tb)), .int (nI (k2))] : List Value).toArray 7 := by rw [hargs]
  rw [hE, lg_entry_eq]
  generalize (lg_sl ([.ref (ad (ta)), .int (nI (k1)), .int (x), .ref (ad (tb)), .int (nI (k2))]) ++ List.replicate (7 - (lg_sl ([.ref (ad (ta)), .int (nI (k1)), .int (x), .ref (ad (tb)), .int (nI (k2))])).length) Slot.unset).toArray = ls at hl ⊢
  have hl : lv_has ls 7 [(0, .ref (ad (ta))), (1, .int (nI (k1))), (2, .int (x)), (3, .ref (ad (tb))), (4, .int (nI (k2)))] := hl
  refine lv_iconst (v := nI 1) hx hb dX4_areAlike_0 (by decide) ?_
  refine hv_eqi (y := hbv true) rfl ?_
  refine lv_istore (lv' := [(5, .int (hbv (true))), (0, .ref (ad (ta))), (1, .int (nI (k1))), (2, .int (x)), (3, .ref (ad (tb))), (4, .int (nI (k2)))]) hx hb dX4_areAlike_1 hl (by decide) rfl (fun ls hl => ?_)
  refine lv_iconst (v := nI 0) hx hb dX4_areAlike_3 (by decide) ?_
  refine lv_istore (lv' := [(6, .int (nI (0))), (5, .int (hbv (true))), (0, .ref (ad (ta))), (1, .int (nI (k1))), (2, .int (x)), (3, .ref (ad (tb))), (4, .int (nI (k2)))]) hx hb dX4_areAlike_4 hl (by decide) rfl (fun ls hl => ?_)
  have L6 : ∀ (n i : Nat) (b9 : Bool), i ≤ 3 → 3 < i + n → ∀ (H : Heap) (locs : List Loc), (b9 = true ↔ ∀ r, r < i → rgP (rot x P1) r = rgP P2 r) → hv D N0 ad ct H → va_S (hA N0) s.heap H locs → ∀ ls : Array Slot, lv_has ls 7 [(0, .ref (ad (ta))), (1, .int (nI (k1))), (2, .int (x)), (3, .ref (ad (tb))), (4, .int (nI (k2))), (5, .int (hbv (b9))), (6, .int (nI (i)))] → W p l e (headSpec wsX4_areAlike ({ frames := 2, cells := 0, slots := 0, locals := 44 })).room s m args below meth c H locs 0 0 (MQ below (va_Qi (fun (z : Int32) (u : hU) => z = hbv (like P1 x P2) ∧ u = (ad, ct)) (hB D N0) (hA N0)) args s 0 0 (hA N0)) (F0 m 6 ls []) := by
    intro n
    induction n with
    | zero => intro i b9 h1 h2; exact absurd h2 (by omega)
    | succ n ih6 =>
      intro i b9 hi6 hn6 H locs gi hV hS ls hl
      refine lv_iload hx hb dX4_areAlike_6 (lv_at hl 6 rfl) ?_
      refine lv_iconst (v := nI 3) hx hb dX4_areAlike_8 (by decide) ?_
      refine hN_icmp_ge (tgt := 52) hx hb (by omega) (by omega) dX4_areAlike_9 (by decide) (fun c9 => ?_) (fun c9 => ?_)
      · refine lv_iload hx hb dX4_areAlike_52 (lv_at hl 5 rfl) ?_
        exact hv_zret (v := hbv (b9)) (u := (ad, ct)) hx hb hr (hb_nar _) ⟨congrArg hbv (Bool.eq_iff_iff.mpr ((show i = 3 by omega) ▸ gi |>.trans (rgP_like hP1 hP2).symm)), rfl⟩ hV hS dX4_areAlike_54 hlocks
      · refine lv_iload hx hb dX4_areAlike_12 (lv_at hl 5 rfl) ?_
        refine lv_aload_n hx hb dX4_areAlike_14 rfl (lv_at hl 0 rfl) ?_
        refine lv_iconst (v := nI 3) hx hb dX4_areAlike_15 (by decide) ?_
        refine lv_iload_n hx hb dX4_areAlike_16 rfl (lv_at hl 1 rfl) ?_
        refine hN_imul hx hb dX4_areAlike_17 ?_
        refine lv_iload hx hb dX4_areAlike_18 (lv_at hl 6 rfl) ?_
        refine hN_iadd hx hb dX4_areAlike_20 ?_
        refine hv_iald hx hb hKs hV ha1 (by omega) hn1 dX4_areAlike_21 ?_
        refine hv_eqi (hg1 (i) (by omega)) ?_
        refine lv_iload_n hx hb dX4_areAlike_22 rfl (lv_at hl 2 rfl) ?_
        refine hv_calli (va_runS (As := [.int (nI (rgP (P1) (i))), .int (x)]) (rest := [.int (hbv (b9))]) ⟨hx, hb, hml, hown, hts⟩ (c_X4_rotated l D N0 ad ct (f := fun z => P1 (8 * (i) + z)) (ok24.dg (P := P1) hP1 (by omega)) ((x))) (va_cwS 2 hts gX4_areAlike_X4_rotated rfl rfl rfl (by decide +kernel) ⟨Nat.le_of_ble_eq_true rfl, Nat.le_of_ble_eq_true rfl⟩) (hv_preS hKs hV hS) rfl rfl hl.1 rfl (lv_room (Nat.le_of_ble_eq_true rfl)) dX4_areAlike_23 ⟨(Nat.le_of_ble_eq_true rfl), (Nat.le_of_ble_eq_true rfl)⟩) hS (fun r9 u9 H locs hq hV hS => ?_)
        obtain ⟨rfl, rfl⟩ := hq
        have hV : hv D N0 ad ct H := hV
        refine hv_eqi (y := nI (rgP (rot ((x)) (P1)) (i))) (congrArg nI rgP_rot) ?_
        refine lv_aload_n hx hb dX4_areAlike_26 rfl (lv_at hl 3 rfl) ?_
        refine lv_iconst (v := nI 3) hx hb dX4_areAlike_27 (by decide) ?_
        refine lv_iload hx hb dX4_areAlike_28 (lv_at hl 4 rfl) ?_
        refine hN_imul hx hb dX4_areAlike_30 ?_
        refine lv_iload hx hb dX4_areAlike_31 (lv_at hl 6 rfl) ?_
        refine hN_iadd hx hb dX4_areAlike_33 ?_
        refine hv_iald hx hb hKs hV ha2 (by omega) hn2 dX4_areAlike_34 ?_
        refine hv_eqi (hg2 (i) (by omega)) ?_
        have hb1 := rgP_lt (rot_8 hP1 : ok24 (rot x P1)) (r := i) (by omega)
        have hb2 := rgP_lt hP2 (r := i) (by omega)
        refine hN_icmp_ne (tgt := 42) hx hb (by omega) (by omega) dX4_areAlike_35 (by decide) (fun c35 => ?_) (fun c35 => ?_)
        · refine lv_iconst (v := nI 0) hx hb dX4_areAlike_42 (by decide) ?_
          refine lv_iand hx hb dX4_areAlike_43 ?_
          refine hv_eqi (y := hbv false) (by cases b9 <;> rfl) ?_
          refine lv_istore (lv' := [(5, .int (hbv (false))), (0, .ref (ad (ta))), (1, .int (nI (k1))), (2, .int (x)), (3, .ref (ad (tb))), (4, .int (nI (k2))), (6, .int (nI (i)))]) hx hb dX4_areAlike_44 hl (by decide) rfl (fun ls hl => ?_)
          refine lv_iinc (v := nI (i + 1)) (lv' := [(6, .int (nI (i + 1))), (5, .int (hbv (false))), (0, .ref (ad (ta))), (1, .int (nI (k1))), (2, .int (x)), (3, .ref (ad (tb))), (4, .int (nI (k2)))]) hx hb dX4_areAlike_46 hl (k := 6) rfl (nI_add (i) 1) (by decide) rfl (fun ls hl => ?_)
          refine lv_goto (tgt := 6) hx hb dX4_areAlike_49 (by decide) ?_
          exact ih6 (i + 1) (false) (by omega) (by omega) _ _ (al_0 c35) hV hS ls (lv_sub hl [2, 3, 4, 5, 6, 1, 0] rfl)
        · refine lv_iconst (v := nI 1) hx hb dX4_areAlike_38 (by decide) ?_
          refine lv_goto (tgt := 43) hx hb dX4_areAlike_39 (by decide) ?_
          refine lv_iand hx hb dX4_areAlike_43 ?_
          refine hv_eqi (y := hbv b9) (by cases b9 <;> rfl) ?_
          refine lv_istore (lv' := [(5, .int (hbv (b9))), (0, .ref (ad (ta))), (1, .int (nI (k1))), (2, .int (x)), (3, .ref (ad (tb))), (4, .int (nI (k2))), (6, .int (nI (i)))]) hx hb dX4_areAlike_44 hl (by decide) rfl (fun ls hl => ?_)
          refine lv_iinc (v := nI (i + 1)) (lv' := [(6, .int (nI (i + 1))), (5, .int (hbv (b9))), (0, .ref (ad (ta))), (1, .int (nI (k1))), (2, .int (x)), (3, .ref (ad (tb))), (4, .int (nI (k2)))]) hx hb dX4_areAlike_46 hl (k := 6) rfl (nI_add (i) 1) (by decide) rfl (fun ls hl => ?_)
          refine lv_goto (tgt := 6) hx hb dX4_areAlike_49 (by decide) ?_
          exact ih6 (i + 1) (b9) (by omega) (by omega) _ _ (al_1 gi c35) hV hS ls (lv_sub hl [2, 3, 4, 5, 6, 1, 0] rfl)
  exact L6 (3 + 1) (0) (true) (by omega) (by omega) _ _ (al_z) hV hS ls (lv_sub hl [2, 3, 4, 5, 6, 1, 0] rfl)

set_option maxHeartbeats 4000000 in
set_option maxRecDepth 100000 in
theorem c_X4_no (l : Launch) (D : hG) (N0 : Nat) (ad : Nat → Nat) (ct : hC) {v0 v1 v2 v3 v4 v5 v6 v7 v8 v9 v10 v11 v12 v13 v14 : Value} (h0 : ct 80 = some (eO 4 [v0, v1, v2, v3, v4, v5, v6, v7, v8, v9, v10, v11, v12, v13, v14])) (n9 : Nat) : Met l yX4_no wsX4_no ({ frames := 0, cells := 0, slots := 0, locals := 0 }) (hPc D N0 ad ct [.ref (ad (80)), .int (nI (n9))]) (va_Qi (fun (z : Int32) (u : hU) => z = nI 0 ∧ u.1 = ad ∧ u.2 80 = some (eO 4 [.int (nI n9), v1, v2, v3, v4, v5, v6, v7, v8, v9, v10, v11, v12, v13, v14]) ∧ ∀ q : Nat, q ≠ 80 → u.2 q = ct q) (hB D N0) (hA N0)) 0 0 (hA N0) := by
  refine Met.ofW (cc := cX4_no) (maxL := 2) (ret := (some .int)) (by decide) rfl ?_
  intro p e s m args below meth c s₁ B hml hv0
  obtain ⟨hargs, hKs, hV⟩ := hv0
  have hx := B.exec
  have hb := B.bytes
  have hr := B.returns
  have hts := atoms_spec (ws := wsX4_no) B.pre
  have hown : s.vm.findClass RX4 = some m.cls := findClass_of_methodNamed B.named
  have hlocks := B.notSynchronized
  have hS : va_S (hA N0) s.heap s.heap [] := va_S.rf
  have hiX4 : ∀ w ∈ u_ws RX4 TX4 15, w ∈ wsX4_no := by decide +kernel
  have lk41 := hts (.fieldLink RX4 41 "CaneSlicesModel" "thrown" "I") (by decide +kernel)
  have hl := lv_entry ([.ref (ad (80)), .int (nI (n9))]) (n := 2) (Nat.le_of_ble_eq_true rfl)
  have hE : entryFrame m args 2 = entryFrame m ([.ref (ad (80)), .int (nI (n9))] : List Value).toArray 2 := by rw [hargs]
  rw [hE, lg_entry_eq]
  generalize (lg_sl ([.ref (ad (80)), .int (nI (n9))]) ++ List.replicate (2 - (lg_sl ([.ref (ad (80)), .int (nI (n9))])).length) Slot.unset).toArray = ls at hl ⊢
  have hl : lv_has ls 2 [(0, .ref (ad (80))), (1, .int (nI (n9)))] := hl
  refine lv_aload_n hx hb dX4_no_0 rfl (lv_at hl 0 rfl) ?_
  refine lv_iload_n hx hb dX4_no_1 rfl (lv_at hl 1 rfl) ?_
  refine hv_put (ty := .int) (C := RX4) (T := TX4) (N := 15) hx hb hts hiX4 tyX4 tyX4_ok nmX4 hown hKs hV hS h0 0 rfl (by decide) lk41 (fun _ h9 => h9) (Or.inl (by decide +kernel)) (by decide +kernel) rfl rfl (Nat.le_of_ble_eq_true rfl) dX4_no_2 (fun ct H locs he hne hV hS => ?_)
  have h0 : ct (80) = some (eO 4 [.int (nI (n9)), v1, v2, v3, v4, v5, v6, v7, v8, v9, v10, v11, v12, v13, v14]) := he
  refine lv_iconst (v := nI 0) hx hb dX4_no_5 (by decide) ?_
  exact hv_iret (v := nI (0)) (u := (ad, ct)) hx hb hr ⟨rfl, rfl, h0, hne⟩ hV hS dX4_no_6 hlocks

set_option maxHeartbeats 4000000 in
set_option maxRecDepth 100000 in
theorem c_X4_allHeat (l : Launch) (D : hG) (N0 : Nat) (ad : Nat → Nat) (ct : hC) {σ : gS} {th : Nat} (hM : gM D σ th ad ct) (hO : okS σ) : Met l yX4_allHeat wsX4_allHeat ({ frames := 0, cells := 0, slots := 0, locals := 0 }) (hPc D N0 ad ct [.ref (ad (80))]) (va_Qi (fun (z : Int32) (u : hU) => z = nI (nsm (cHt σ) (gNC σ)) ∧ u = (ad, ct)) (hB D N0) (hA N0)) 0 0 (hA N0) := by
  refine Met.ofW (cc := cX4_allHeat) (maxL := 3) (ret := (some .int)) (by decide) rfl ?_
  intro p e s m args below meth c s₁ B hml hv0
  obtain ⟨hargs, hKs, hV⟩ := hv0
  have hx := B.exec
  have hb := B.bytes
  have hr := B.returns
  have hts := atoms_spec (ws := wsX4_allHeat) B.pre
  have hown : s.vm.findClass RX4 = some m.cls := findClass_of_methodNamed B.named
  have hlocks := B.notSynchronized
  have hS : va_S (hA N0) s.heap s.heap [] := va_S.rf
  have hiX4 : ∀ w ∈ u_ws RX4 TX4 15, w ∈ wsX4_allHeat := by decide +kernel
  have lk44 := hts (.fieldLink RX4 44 "CaneSlicesModel" "canes" "I") (by decide +kernel)
  have lk20 := hts (.fieldLink RX4 20 "CaneSlicesModel" "heat" "[I") (by decide +kernel)
  have hl := lv_entry ([.ref (ad (80))]) (n := 3) (Nat.le_of_ble_eq_true rfl)
  have hE : entryFrame m args 3 = entryFrame m ([.ref (ad (80))] : List Value).toArray 3 := by rw [hargs]
  rw [hE, lg_entry_eq]
  generalize (lg_sl ([.ref (ad (80))]) ++ List.replicate (3 - (lg_sl ([.ref (ad (80))])).length) Slot.unset).toArray = ls at hl ⊢
  have hl : lv_has ls 3 [(0, .ref (ad (80)))] := hl
  obtain ⟨hn8, hn60, hn6, -⟩ := id hO
  obtain ⟨f1, f2, f3, f4, f5, f6, f7, f8, f9, ⟨hm0, hm1, hm2, hm3, hm4, hm5, hm6, hm7, hm8, hm9⟩, hme⟩ := id hM
  obtain ⟨em1, em2, em3, em4, em5, em6, em7, em8, em9⟩ := id hme
  refine lv_iconst (v := nI 0) hx hb dX4_allHeat_0 (by decide) ?_
  refine lv_istore_n (lv' := [(1, .int (nI (0))), (0, .ref (ad (80)))]) hx hb dX4_allHeat_1 rfl hl (by decide) rfl (fun ls hl => ?_)
  refine lv_iconst (v := nI 0) hx hb dX4_allHeat_2 (by decide) ?_
  refine lv_istore_n (lv' := [(2, .int (nI (0))), (1, .int (nI (0))), (0, .ref (ad (80)))]) hx hb dX4_allHeat_3 rfl hl (by decide) rfl (fun ls hl => ?_)
  have L4 : ∀ (n i : Nat) (a9 : Nat), i ≤ gNC σ → gNC σ < i + n → ∀ (H : Heap) (locs : List Loc), (a9 = nsm (cHt σ) i) → hv D N0 ad ct H → va_S (hA N0) s.heap H locs → ∀ ls : Array Slot, lv_has ls 3 [(0, .ref (ad (80))), (1, .int (nI (a9))), (2, .int (nI (i)))] → W p l e (headSpec wsX4_allHeat ({ frames := 0, cells := 0, slots := 0, locals := 0 })).room s m args below meth c H locs 0 0 (MQ below (va_Qi (fun (z : Int32) (u : hU) => z = nI (nsm (cHt σ) (gNC σ)) ∧ u = (ad, ct)) (hB D N0) (hA N0)) args s 0 0 (hA N0)) (F0 m 4 ls []) := by
    intro n
    induction n with
    | zero => intro i a9 h1 h2; exact absurd h2 (by omega)
    | succ n ih4 =>
      intro i a9 hi4 hn4 H locs ga hV hS ls hl
      refine lv_iload_n hx hb dX4_allHeat_4 rfl (lv_at hl 2 rfl) ?_
      refine lv_aload_n hx hb dX4_allHeat_5 rfl (lv_at hl 0 rfl) ?_
      refine hv_get (C := RX4) (T := TX4) (N := 15) hx hb hts hiX4 hown hKs hV hm0 3 rfl (by decide) lk44 (fun _ h9 => h9) rfl dX4_allHeat_6 ?_
      refine hN_icmp_ge (tgt := 27) hx hb (by omega) (by omega) dX4_allHeat_9 (by decide) (fun c9 => ?_) (fun c9 => ?_)
      · refine lv_iload_n hx hb dX4_allHeat_27 rfl (lv_at hl 1 rfl) ?_
        exact hv_iret (v := nI (a9)) (u := (ad, ct)) hx hb hr ⟨by rw [ga, show i = gNC σ by omega], rfl⟩ hV hS dX4_allHeat_28 hlocks
      · refine lv_iload_n hx hb dX4_allHeat_12 rfl (lv_at hl 1 rfl) ?_
        refine lv_aload_n hx hb dX4_allHeat_13 rfl (lv_at hl 0 rfl) ?_
        refine hv_get (C := RX4) (T := TX4) (N := 15) hx hb hts hiX4 hown hKs hV hm0 6 rfl (by decide) lk20 (fun _ h9 => h9) rfl dX4_allHeat_14 ?_
        refine lv_iload_n hx hb dX4_allHeat_17 rfl (lv_at hl 2 rfl) ?_
        refine hv_iald hx hb hKs hV hm3 (by omega) (by decide) dX4_allHeat_18 ?_
        refine hv_eqi (em3 (i) (by omega)) ?_
        refine hN_iadd hx hb dX4_allHeat_19 ?_
        refine lv_istore_n (lv' := [(1, .int (nI (a9 + cHt σ (i)))), (0, .ref (ad (80))), (2, .int (nI (i)))]) hx hb dX4_allHeat_20 rfl hl (by decide) rfl (fun ls hl => ?_)
        refine lv_iinc (v := nI (i + 1)) (lv' := [(2, .int (nI (i + 1))), (1, .int (nI (a9 + cHt σ (i)))), (0, .ref (ad (80)))]) hx hb dX4_allHeat_21 hl (k := 2) rfl (nI_add (i) 1) (by decide) rfl (fun ls hl => ?_)
        refine lv_goto (tgt := 4) hx hb dX4_allHeat_24 (by decide) ?_
        exact ih4 (i + 1) (a9 + cHt σ (i)) (by omega) (by omega) _ _ (by rw [ga]; rfl) hV hS ls (lv_sub hl [2, 1, 0] rfl)
  exact L4 (gNC σ + 1) (0) (0) (by omega) (by omega) _ _ (rfl) hV hS ls (lv_sub hl [2, 1, 0] rfl)

set_option maxHeartbeats 4000000 in
set_option maxRecDepth 100000 in
theorem c_X4_filled (l : Launch) (D : hG) (N0 : Nat) (ad : Nat → Nat) (ct : hC) {σ : gS} {th : Nat} (hM : gM D σ th ad ct) (hO : okS σ) (b9 : Nat) (hb6 : b9 < gNB σ) : Met l yX4_filled wsX4_filled ({ frames := 0, cells := 0, slots := 0, locals := 0 }) (hPc D N0 ad ct [.ref (ad (80)), .int (nI (b9))]) (va_Qi (fun (z : Int32) (u : hU) => z = nI (nsm (fun k => ie σ (4 * b9 + k)) 4) ∧ u = (ad, ct)) (hB D N0) (hA N0)) 0 0 (hA N0) := by
  refine Met.ofW (cc := cX4_filled) (maxL := 4) (ret := (some .int)) (by decide) rfl ?_
  intro p e s m args below meth c s₁ B hml hv0
  obtain ⟨hargs, hKs, hV⟩ := hv0
  have hx := B.exec
  have hb := B.bytes
  have hr := B.returns
  have hts := atoms_spec (ws := wsX4_filled) B.pre
  have hown : s.vm.findClass RX4 = some m.cls := findClass_of_methodNamed B.named
  have hlocks := B.notSynchronized
  have hS : va_S (hA N0) s.heap s.heap [] := va_S.rf
  have hiX4 : ∀ w ∈ u_ws RX4 TX4 15, w ∈ wsX4_filled := by decide +kernel
  have lk35 := hts (.fieldLink RX4 35 "CaneSlicesModel" "eye" "[I") (by decide +kernel)
  have hl := lv_entry ([.ref (ad (80)), .int (nI (b9))]) (n := 4) (Nat.le_of_ble_eq_true rfl)
  have hE : entryFrame m args 4 = entryFrame m ([.ref (ad (80)), .int (nI (b9))] : List Value).toArray 4 := by rw [hargs]
  rw [hE, lg_entry_eq]
  generalize (lg_sl ([.ref (ad (80)), .int (nI (b9))]) ++ List.replicate (4 - (lg_sl ([.ref (ad (80)), .int (nI (b9))])).length) Slot.unset).toArray = ls at hl ⊢
  have hl : lv_has ls 4 [(0, .ref (ad (80))), (1, .int (nI (b9)))] := hl
  obtain ⟨hn8, hn60, hn6, -⟩ := id hO
  obtain ⟨f1, f2, f3, f4, f5, f6, f7, f8, f9, ⟨hm0, hm1, hm2, hm3, hm4, hm5, hm6, hm7, hm8, hm9⟩, hme⟩ := id hM
  obtain ⟨em1, em2, em3, em4, em5, em6, em7, em8, em9⟩ := id hme
  refine lv_iconst (v := nI 0) hx hb dX4_filled_0 (by decide) ?_
  refine lv_istore_n (lv' := [(2, .int (nI (0))), (0, .ref (ad (80))), (1, .int (nI (b9)))]) hx hb dX4_filled_1 rfl hl (by decide) rfl (fun ls hl => ?_)
  refine lv_iconst (v := nI 0) hx hb dX4_filled_2 (by decide) ?_
  refine lv_istore_n (lv' := [(3, .int (nI (0))), (2, .int (nI (0))), (0, .ref (ad (80))), (1, .int (nI (b9)))]) hx hb dX4_filled_3 rfl hl (by decide) rfl (fun ls hl => ?_)
  have L4 : ∀ (n i : Nat) (a9 : Nat), i ≤ 4 → 4 < i + n → ∀ (H : Heap) (locs : List Loc), (a9 = nsm (fun k => ie σ (4 * b9 + k)) i) → hv D N0 ad ct H → va_S (hA N0) s.heap H locs → ∀ ls : Array Slot, lv_has ls 4 [(0, .ref (ad (80))), (1, .int (nI (b9))), (2, .int (nI (a9))), (3, .int (nI (i)))] → W p l e (headSpec wsX4_filled ({ frames := 0, cells := 0, slots := 0, locals := 0 })).room s m args below meth c H locs 0 0 (MQ below (va_Qi (fun (z : Int32) (u : hU) => z = nI (nsm (fun k => ie σ (4 * b9 + k)) 4) ∧ u = (ad, ct)) (hB D N0) (hA N0)) args s 0 0 (hA N0)) (F0 m 4 ls []) := by
    intro n
    induction n with
    | zero => intro i a9 h1 h2; exact absurd h2 (by omega)
    | succ n ih4 =>
      intro i a9 hi4 hn4 H locs ga hV hS ls hl
      refine lv_iload_n hx hb dX4_filled_4 rfl (lv_at hl 3 rfl) ?_
      refine lv_iconst (v := nI 4) hx hb dX4_filled_5 (by decide) ?_
      refine hN_icmp_ge (tgt := 37) hx hb (by omega) (by omega) dX4_filled_6 (by decide) (fun c6 => ?_) (fun c6 => ?_)
      · refine lv_iload_n hx hb dX4_filled_37 rfl (lv_at hl 2 rfl) ?_
        exact hv_iret (v := nI (a9)) (u := (ad, ct)) hx hb hr ⟨by rw [ga, show i = 4 by omega], rfl⟩ hV hS dX4_filled_38 hlocks
      · refine lv_iload_n hx hb dX4_filled_9 rfl (lv_at hl 2 rfl) ?_
        refine lv_aload_n hx hb dX4_filled_10 rfl (lv_at hl 0 rfl) ?_
        refine hv_get (C := RX4) (T := TX4) (N := 15) hx hb hts hiX4 hown hKs hV hm0 13 rfl (by decide) lk35 (fun _ h9 => h9) rfl dX4_filled_11 ?_
        refine lv_iconst (v := nI 4) hx hb dX4_filled_14 (by decide) ?_
        refine lv_iload_n hx hb dX4_filled_15 rfl (lv_at hl 1 rfl) ?_
        refine hN_imul hx hb dX4_filled_16 ?_
        refine lv_iload_n hx hb dX4_filled_17 rfl (lv_at hl 3 rfl) ?_
        refine hN_iadd hx hb dX4_filled_18 ?_
        refine hv_iald hx hb hKs hV hm8 (by omega) (by decide) dX4_filled_19 ?_
        rcases hq19 : gEy σ ((4) * (b9) + i) with _ | ⟨s19, t19⟩
        · refine hv_eqi ((em8 ((4) * (b9) + i) (by omega)).trans (esl_0 hq19)) ?_
          refine lv_iconst (v := (-1)) hx hb dX4_filled_20 (by decide) ?_
          refine hI_icmp_ne (tgt := 28) hx hb dX4_filled_21 (by decide) (fun c21 => by exact absurd rfl c21) (fun c21 => ?_)
          refine lv_iconst (v := nI 0) hx hb dX4_filled_24 (by decide) ?_
          refine lv_goto (tgt := 29) hx hb dX4_filled_25 (by decide) ?_
          refine hN_iadd hx hb dX4_filled_29 ?_
          refine lv_istore_n (lv' := [(2, .int (nI (a9 + 0))), (0, .ref (ad (80))), (1, .int (nI (b9))), (3, .int (nI (i)))]) hx hb dX4_filled_30 rfl hl (by decide) rfl (fun ls hl => ?_)
          refine lv_iinc (v := nI (i + 1)) (lv' := [(3, .int (nI (i + 1))), (2, .int (nI (a9 + 0))), (0, .ref (ad (80))), (1, .int (nI (b9)))]) hx hb dX4_filled_31 hl (k := 3) rfl (nI_add (i) 1) (by decide) rfl (fun ls hl => ?_)
          refine lv_goto (tgt := 4) hx hb dX4_filled_34 (by decide) ?_
          exact ih4 (i + 1) (a9 + 0) (by omega) (by omega) _ _ (by rw [nsm, ga, ie_0 hq19]) hV hS ls (lv_sub hl [2, 3, 1, 0] rfl)
        · obtain ⟨he19, hs19, ht19, hy19⟩ := hO.2.2.2.2.2.1 _ _ _ hq19
          refine hv_eqi ((em8 ((4) * (b9) + i) (by omega)).trans (esl_1 hq19)) ?_
          refine lv_iconst (v := (-1)) hx hb dX4_filled_20 (by decide) ?_
          refine hL_icmp_ne (tgt := 28) hx hb (by omega) dX4_filled_21 (by decide) (fun c21 => ?_) (fun c21 => by exact absurd c21 (by rw [h_m1]; omega))
          refine lv_iconst (v := nI 1) hx hb dX4_filled_28 (by decide) ?_
          refine hN_iadd hx hb dX4_filled_29 ?_
          refine lv_istore_n (lv' := [(2, .int (nI (a9 + 1))), (0, .ref (ad (80))), (1, .int (nI (b9))), (3, .int (nI (i)))]) hx hb dX4_filled_30 rfl hl (by decide) rfl (fun ls hl => ?_)
          refine lv_iinc (v := nI (i + 1)) (lv' := [(3, .int (nI (i + 1))), (2, .int (nI (a9 + 1))), (0, .ref (ad (80))), (1, .int (nI (b9)))]) hx hb dX4_filled_31 hl (k := 3) rfl (nI_add (i) 1) (by decide) rfl (fun ls hl => ?_)
          refine lv_goto (tgt := 4) hx hb dX4_filled_34 (by decide) ?_
          exact ih4 (i + 1) (a9 + 1) (by omega) (by omega) _ _ (by rw [nsm, ga, ie_1 hq19]) hV hS ls (lv_sub hl [2, 3, 1, 0] rfl)
  exact L4 (4 + 1) (0) (0) (by omega) (by omega) _ _ (rfl) hV hS ls (lv_sub hl [2, 3, 1, 0] rfl)
