set_option maxHeartbeats 4000000 in
set_option maxRecDepth 100000 in
theorem c_X3_caneAt (l : Launch) (D : hG) (N0 : Nat) (ad : Nat → Nat) (ct : hC) {σ : gS} (hG : gX D σ ad ct) (hO : okS σ) (x : Int32) : Met l yX3_caneAt wsX3_caneAt ({ frames := 0, cells := 0, slots := 0, locals := 0 }) (hPc D N0 ad ct [.ref (ad (0)), .int (x)]) (va_Qq (fun (z : Option Nat) (u : hU) => z = (if inR x (gNC σ) = true then some (ad (16 * x.toInt.toNat + 3)) else none) ∧ u = (ad, ct)) (hB D N0) (hA N0)) 0 0 (hA N0) := by
  refine Met.ofW (cc := cX3_caneAt) (maxL := 2) (ret := (some (.object "CaneSlices$Cane"))) (by decide) rfl ?_
  intro p e s m args below meth c s₁ B hml hv0
  obtain ⟨hargs, hKs, hV⟩ := hv0
  have hx := B.exec
  have hb := B.bytes
  have hr := B.returns
  have hts := atoms_spec (ws := wsX3_caneAt) B.pre
  have hown : s.vm.findClass RX3 = some m.cls := findClass_of_methodNamed B.named
  have hlocks := B.notSynchronized
  have hS : va_S (hA N0) s.heap s.heap [] := va_S.rf
  have hiX3 : ∀ w ∈ u_ws RX3 TX3 8, w ∈ wsX3_caneAt := by decide +kernel
  have lk11 := hts (.fieldLink RX3 11 "CaneSlices" "canes" "[LCaneSlices$Cane;") (by decide +kernel)
  have hl := lv_entry ([.ref (ad (0)), .int (x)]) (n := 2) (Nat.le_of_ble_eq_true rfl)
  have hE : entryFrame m args 2 = entryFrame m ([.ref (ad (0)), .int (x)] : List Value).toArray 2 := by rw [hargs]
  rw [hE, lg_entry_eq]
  generalize (lg_sl ([.ref (ad (0)), .int (x)]) ++ List.replicate (2 - (lg_sl ([.ref (ad (0)), .int (x)])).length) Slot.unset).toArray = ls at hl ⊢
  have hl : lv_has ls 2 [(0, .ref (ad (0))), (1, .int (x))] := hl
  obtain ⟨hn8, hn60, hn6, -⟩ := id hO
  refine lv_iload_n hx hb dX3_caneAt_0 rfl (lv_at hl 1 rfl) ?_
  refine hI_if_lt (tgt := 19) hx hb dX3_caneAt_1 (by decide) (fun c1 => ?_) (fun c1 => ?_)
  · refine lv_null hx hb dX3_caneAt_19 ?_
    exact hv_qret (r := none) (u := (ad, ct)) hx hb hr ⟨(if_neg (inR_n (Or.inl c1))).symm, rfl⟩ hV hS dX3_caneAt_20 hlocks
  · refine lv_iload_n hx hb dX3_caneAt_4 rfl (lv_at hl 1 rfl) ?_
    refine lv_bipush (v := nI 8) hx hb dX3_caneAt_5 (by decide) ?_
    refine hR_icmp_ge (tgt := 19) hx hb (by omega) dX3_caneAt_7 (by decide) (fun c7 => ?_) (fun c7 => ?_)
    · refine lv_null hx hb dX3_caneAt_19 ?_
      exact hv_qret (r := none) (u := (ad, ct)) hx hb hr ⟨(if_neg (inR_n (Or.inr (by omega)))).symm, rfl⟩ hV hS dX3_caneAt_20 hlocks
    · obtain ⟨j, hj, rfl⟩ := hI_of c1 c7
      refine lv_aload_n hx hb dX3_caneAt_10 rfl (lv_at hl 0 rfl) ?_
      refine hv_get (C := RX3) (T := TX3) (N := 8) hx hb hts hiX3 hown hKs hV hG.1 0 rfl (by decide) lk11 (fun _ h9 => h9) rfl dX3_caneAt_11 ?_
      refine lv_iload_n hx hb dX3_caneAt_14 rfl (lv_at hl 1 rfl) ?_
      refine hv_aald hx hb hKs hV 1 hG.2.1 rfl (by omega) (by decide) dX3_caneAt_15 ?_
      refine hv_ifQ (fun cq15 => ?_) (fun cq15 => ?_)
      · refine lv_goto (tgt := 20) hx hb dX3_caneAt_16 (by decide) ?_
        exact hv_qret (r := some (ad (16 * (j) + 3))) (u := (ad, ct)) hx hb hr ⟨(by rw [if_pos (inR_j (by omega) cq15), toNat_nI (by omega)]), rfl⟩ hV hS dX3_caneAt_20 hlocks
      · refine lv_goto (tgt := 20) hx hb dX3_caneAt_16 (by decide) ?_
        exact hv_qret (r := none) (u := (ad, ct)) hx hb hr ⟨(if_neg (inR_n (Or.inr (by rw [nI_toInt (by omega)]; omega)))).symm, rfl⟩ hV hS dX3_caneAt_20 hlocks

set_option maxHeartbeats 4000000 in
set_option maxRecDepth 100000 in
theorem c_X3_sliceAt (l : Launch) (D : hG) (N0 : Nat) (ad : Nat → Nat) (ct : hC) {σ : gS} (hG : gX D σ ad ct) (hO : okS σ) (x : Int32) : Met l yX3_sliceAt wsX3_sliceAt ({ frames := 0, cells := 0, slots := 0, locals := 0 }) (hPc D N0 ad ct [.ref (ad (0)), .int (x)]) (va_Qq (fun (z : Option Nat) (u : hU) => z = (if inR x (gNS σ) = true then some (ad (16 * x.toInt.toNat + 6)) else none) ∧ u = (ad, ct)) (hB D N0) (hA N0)) 0 0 (hA N0) := by
  refine Met.ofW (cc := cX3_sliceAt) (maxL := 2) (ret := (some (.object "CaneSlices$Slice"))) (by decide) rfl ?_
  intro p e s m args below meth c s₁ B hml hv0
  obtain ⟨hargs, hKs, hV⟩ := hv0
  have hx := B.exec
  have hb := B.bytes
  have hr := B.returns
  have hts := atoms_spec (ws := wsX3_sliceAt) B.pre
  have hown : s.vm.findClass RX3 = some m.cls := findClass_of_methodNamed B.named
  have hlocks := B.notSynchronized
  have hS : va_S (hA N0) s.heap s.heap [] := va_S.rf
  have hiX3 : ∀ w ∈ u_ws RX3 TX3 8, w ∈ wsX3_sliceAt := by decide +kernel
  have lk17 := hts (.fieldLink RX3 17 "CaneSlices" "slices" "[LCaneSlices$Slice;") (by decide +kernel)
  have hl := lv_entry ([.ref (ad (0)), .int (x)]) (n := 2) (Nat.le_of_ble_eq_true rfl)
  have hE : entryFrame m args 2 = entryFrame m ([.ref (ad (0)), .int (x)] : List Value).toArray 2 := by rw [hargs]
  rw [hE, lg_entry_eq]
  generalize (lg_sl ([.ref (ad (0)), .int (x)]) ++ List.replicate (2 - (lg_sl ([.ref (ad (0)), .int (x)])).length) Slot.unset).toArray = ls at hl ⊢
  have hl : lv_has ls 2 [(0, .ref (ad (0))), (1, .int (x))] := hl
  obtain ⟨hn8, hn60, hn6, -⟩ := id hO
  refine lv_iload_n hx hb dX3_sliceAt_0 rfl (lv_at hl 1 rfl) ?_
  refine hI_if_lt (tgt := 19) hx hb dX3_sliceAt_1 (by decide) (fun c1 => ?_) (fun c1 => ?_)
  · refine lv_null hx hb dX3_sliceAt_19 ?_
    exact hv_qret (r := none) (u := (ad, ct)) hx hb hr ⟨(if_neg (inR_n (Or.inl c1))).symm, rfl⟩ hV hS dX3_sliceAt_20 hlocks
  · refine lv_iload_n hx hb dX3_sliceAt_4 rfl (lv_at hl 1 rfl) ?_
    refine lv_bipush (v := nI 60) hx hb dX3_sliceAt_5 (by decide) ?_
    refine hR_icmp_ge (tgt := 19) hx hb (by omega) dX3_sliceAt_7 (by decide) (fun c7 => ?_) (fun c7 => ?_)
    · refine lv_null hx hb dX3_sliceAt_19 ?_
      exact hv_qret (r := none) (u := (ad, ct)) hx hb hr ⟨(if_neg (inR_n (Or.inr (by omega)))).symm, rfl⟩ hV hS dX3_sliceAt_20 hlocks
    · obtain ⟨j, hj, rfl⟩ := hI_of c1 c7
      refine lv_aload_n hx hb dX3_sliceAt_10 rfl (lv_at hl 0 rfl) ?_
      refine hv_get (C := RX3) (T := TX3) (N := 8) hx hb hts hiX3 hown hKs hV hG.1 1 rfl (by decide) lk17 (fun _ h9 => h9) rfl dX3_sliceAt_11 ?_
      refine lv_iload_n hx hb dX3_sliceAt_14 rfl (lv_at hl 1 rfl) ?_
      refine hv_aald hx hb hKs hV 2 hG.2.2.1 rfl (by omega) (by decide) dX3_sliceAt_15 ?_
      refine hv_ifQ (fun cq15 => ?_) (fun cq15 => ?_)
      · refine lv_goto (tgt := 20) hx hb dX3_sliceAt_16 (by decide) ?_
        exact hv_qret (r := some (ad (16 * (j) + 6))) (u := (ad, ct)) hx hb hr ⟨(by rw [if_pos (inR_j (by omega) cq15), toNat_nI (by omega)]), rfl⟩ hV hS dX3_sliceAt_20 hlocks
      · refine lv_goto (tgt := 20) hx hb dX3_sliceAt_16 (by decide) ?_
        exact hv_qret (r := none) (u := (ad, ct)) hx hb hr ⟨(if_neg (inR_n (Or.inr (by rw [nI_toInt (by omega)]; omega)))).symm, rfl⟩ hV hS dX3_sliceAt_20 hlocks

set_option maxHeartbeats 4000000 in
set_option maxRecDepth 100000 in
theorem c_X3_isBead (l : Launch) (D : hG) (N0 : Nat) (ad : Nat → Nat) (ct : hC) {σ : gS} (hG : gX D σ ad ct) (hO : okS σ) (x : Int32) : Met l yX3_isBead wsX3_isBead ({ frames := 0, cells := 0, slots := 0, locals := 0 }) (hPc D N0 ad ct [.ref (ad (0)), .int (x)]) (va_Qi (fun (z : Int32) (u : hU) => z = hbv (inR x (gNB σ)) ∧ u = (ad, ct)) (hB D N0) (hA N0)) 0 0 (hA N0) := by
  refine Met.ofW (cc := cX3_isBead) (maxL := 2) (ret := (some .boolean)) (by decide) rfl ?_
  intro p e s m args below meth c s₁ B hml hv0
  obtain ⟨hargs, hKs, hV⟩ := hv0
  have hx := B.exec
  have hb := B.bytes
  have hr := B.returns
  have hts := atoms_spec (ws := wsX3_isBead) B.pre
  have hown : s.vm.findClass RX3 = some m.cls := findClass_of_methodNamed B.named
  have hlocks := B.notSynchronized
  have hS : va_S (hA N0) s.heap s.heap [] := va_S.rf
  have hiX3 : ∀ w ∈ u_ws RX3 TX3 8, w ∈ wsX3_isBead := by decide +kernel
  have lk158 := hts (.fieldLink RX3 158 "CaneSlices" "beadCount" "I") (by decide +kernel)
  have hl := lv_entry ([.ref (ad (0)), .int (x)]) (n := 2) (Nat.le_of_ble_eq_true rfl)
  have hE : entryFrame m args 2 = entryFrame m ([.ref (ad (0)), .int (x)] : List Value).toArray 2 := by rw [hargs]
  rw [hE, lg_entry_eq]
  generalize (lg_sl ([.ref (ad (0)), .int (x)]) ++ List.replicate (2 - (lg_sl ([.ref (ad (0)), .int (x)])).length) Slot.unset).toArray = ls at hl ⊢
  have hl : lv_has ls 2 [(0, .ref (ad (0))), (1, .int (x))] := hl
  obtain ⟨hn8, hn60, hn6, -⟩ := id hO
  refine lv_iload_n hx hb dX3_isBead_0 rfl (lv_at hl 1 rfl) ?_
  refine hI_if_lt (tgt := 16) hx hb dX3_isBead_1 (by decide) (fun c1 => ?_) (fun c1 => ?_)
  · refine lv_iconst (v := nI 0) hx hb dX3_isBead_16 (by decide) ?_
    exact hv_zret (v := nI (0)) (u := (ad, ct)) hx hb hr (by decide +kernel) ⟨hb_0 (inR_0 (Or.inl c1)), rfl⟩ hV hS dX3_isBead_17 hlocks
  · refine lv_iload_n hx hb dX3_isBead_4 rfl (lv_at hl 1 rfl) ?_
    refine lv_aload_n hx hb dX3_isBead_5 rfl (lv_at hl 0 rfl) ?_
    refine hv_get (C := RX3) (T := TX3) (N := 8) hx hb hts hiX3 hown hKs hV hG.1 5 rfl (by decide) lk158 (fun _ h9 => h9) rfl dX3_isBead_6 ?_
    refine hR_icmp_ge (tgt := 16) hx hb (by omega) dX3_isBead_9 (by decide) (fun c9 => ?_) (fun c9 => ?_)
    · refine lv_iconst (v := nI 0) hx hb dX3_isBead_16 (by decide) ?_
      exact hv_zret (v := nI (0)) (u := (ad, ct)) hx hb hr (by decide +kernel) ⟨hb_0 (inR_0 (Or.inr c9)), rfl⟩ hV hS dX3_isBead_17 hlocks
    · refine lv_iconst (v := nI 1) hx hb dX3_isBead_12 (by decide) ?_
      refine lv_goto (tgt := 17) hx hb dX3_isBead_13 (by decide) ?_
      exact hv_zret (v := nI (1)) (u := (ad, ct)) hx hb hr (by decide +kernel) ⟨hb_1 (inR_1 c1 c9), rfl⟩ hV hS dX3_isBead_17 hlocks

set_option maxHeartbeats 4000000 in
set_option maxRecDepth 100000 in
theorem c_X3_isEye (l : Launch) (D : hG) (N0 : Nat) (ad : Nat → Nat) (ct : hC) (x : Int32) : Met l yX3_isEye wsX3_isEye ({ frames := 0, cells := 0, slots := 0, locals := 0 }) (hPc D N0 ad ct [.int (x)]) (va_Qi (fun (z : Int32) (u : hU) => z = hbv (inR x 4) ∧ u = (ad, ct)) (hB D N0) (hA N0)) 0 0 (hA N0) := by
  refine Met.ofW (cc := cX3_isEye) (maxL := 1) (ret := (some .boolean)) (by decide) rfl ?_
  intro p e s m args below meth c s₁ B hml hv0
  obtain ⟨hargs, hKs, hV⟩ := hv0
  have hx := B.exec
  have hb := B.bytes
  have hr := B.returns
  have hts := atoms_spec (ws := wsX3_isEye) B.pre
  have hown : s.vm.findClass RX3 = some m.cls := findClass_of_methodNamed B.named
  have hlocks := B.notSynchronized
  have hS : va_S (hA N0) s.heap s.heap [] := va_S.rf
  have hl := lv_entry ([.int (x)]) (n := 1) (Nat.le_of_ble_eq_true rfl)
  have hE : entryFrame m args 1 = entryFrame m ([.int (x)] : List Value).toArray 1 := by rw [hargs]
  rw [hE, lg_entry_eq]
  generalize (lg_sl ([.int (x)]) ++ List.replicate (1 - (lg_sl ([.int (x)])).length) Slot.unset).toArray = ls at hl ⊢
  have hl : lv_has ls 1 [(0, .int (x))] := hl
  refine lv_iload_n hx hb dX3_isEye_0 rfl (lv_at hl 0 rfl) ?_
  refine hI_if_lt (tgt := 13) hx hb dX3_isEye_1 (by decide) (fun c1 => ?_) (fun c1 => ?_)
  · refine lv_iconst (v := nI 0) hx hb dX3_isEye_13 (by decide) ?_
    exact hv_zret (v := nI (0)) (u := (ad, ct)) hx hb hr (by decide +kernel) ⟨hb_0 (inR_0 (Or.inl c1)), rfl⟩ hV hS dX3_isEye_14 hlocks
  · refine lv_iload_n hx hb dX3_isEye_4 rfl (lv_at hl 0 rfl) ?_
    refine lv_iconst (v := nI 4) hx hb dX3_isEye_5 (by decide) ?_
    refine hR_icmp_ge (tgt := 13) hx hb (by omega) dX3_isEye_6 (by decide) (fun c6 => ?_) (fun c6 => ?_)
    · refine lv_iconst (v := nI 0) hx hb dX3_isEye_13 (by decide) ?_
      exact hv_zret (v := nI (0)) (u := (ad, ct)) hx hb hr (by decide +kernel) ⟨hb_0 (inR_0 (Or.inr c6)), rfl⟩ hV hS dX3_isEye_14 hlocks
    · refine lv_iconst (v := nI 1) hx hb dX3_isEye_9 (by decide) ?_
      refine lv_goto (tgt := 14) hx hb dX3_isEye_10 (by decide) ?_
      exact hv_zret (v := nI (1)) (u := (ad, ct)) hx hb hr (by decide +kernel) ⟨hb_1 (inR_1 c1 c6), rfl⟩ hV hS dX3_isEye_14 hlocks

set_option maxHeartbeats 4000000 in
set_option maxRecDepth 100000 in
theorem c_X3_isRing (l : Launch) (D : hG) (N0 : Nat) (ad : Nat → Nat) (ct : hC) (x : Int32) : Met l yX3_isRing wsX3_isRing ({ frames := 0, cells := 0, slots := 0, locals := 0 }) (hPc D N0 ad ct [.int (x)]) (va_Qi (fun (z : Int32) (u : hU) => z = hbv (inR x 3) ∧ u = (ad, ct)) (hB D N0) (hA N0)) 0 0 (hA N0) := by
  refine Met.ofW (cc := cX3_isRing) (maxL := 1) (ret := (some .boolean)) (by decide) rfl ?_
  intro p e s m args below meth c s₁ B hml hv0
  obtain ⟨hargs, hKs, hV⟩ := hv0
  have hx := B.exec
  have hb := B.bytes
  have hr := B.returns
  have hts := atoms_spec (ws := wsX3_isRing) B.pre
  have hown : s.vm.findClass RX3 = some m.cls := findClass_of_methodNamed B.named
  have hlocks := B.notSynchronized
  have hS : va_S (hA N0) s.heap s.heap [] := va_S.rf
  have hl := lv_entry ([.int (x)]) (n := 1) (Nat.le_of_ble_eq_true rfl)
  have hE : entryFrame m args 1 = entryFrame m ([.int (x)] : List Value).toArray 1 := by rw [hargs]
  rw [hE, lg_entry_eq]
  generalize (lg_sl ([.int (x)]) ++ List.replicate (1 - (lg_sl ([.int (x)])).length) Slot.unset).toArray = ls at hl ⊢
  have hl : lv_has ls 1 [(0, .int (x))] := hl
  refine lv_iload_n hx hb dX3_isRing_0 rfl (lv_at hl 0 rfl) ?_
  refine hI_if_lt (tgt := 13) hx hb dX3_isRing_1 (by decide) (fun c1 => ?_) (fun c1 => ?_)
  · refine lv_iconst (v := nI 0) hx hb dX3_isRing_13 (by decide) ?_
    exact hv_zret (v := nI (0)) (u := (ad, ct)) hx hb hr (by decide +kernel) ⟨hb_0 (inR_0 (Or.inl c1)), rfl⟩ hV hS dX3_isRing_14 hlocks
  · refine lv_iload_n hx hb dX3_isRing_4 rfl (lv_at hl 0 rfl) ?_
    refine lv_iconst (v := nI 3) hx hb dX3_isRing_5 (by decide) ?_
    refine hR_icmp_ge (tgt := 13) hx hb (by omega) dX3_isRing_6 (by decide) (fun c6 => ?_) (fun c6 => ?_)
    · refine lv_iconst (v := nI 0) hx hb dX3_isRing_13 (by decide) ?_
      exact hv_zret (v := nI (0)) (u := (ad, ct)) hx hb hr (by decide +kernel) ⟨hb_0 (inR_0 (Or.inr c6)), rfl⟩ hV hS dX3_isRing_14 hlocks
    · refine lv_iconst (v := nI 1) hx hb dX3_isRing_9 (by decide) ?_
      refine lv_goto (tgt := 14) hx hb dX3_isRing_10 (by decide) ?_
      exact hv_zret (v := nI (1)) (u := (ad, ct)) hx hb hr (by decide +kernel) ⟨hb_1 (inR_1 c1 c6), rfl⟩ hV hS dX3_isRing_14 hlocks

set_option maxHeartbeats 4000000 in
set_option maxRecDepth 100000 in
theorem c_X3_isSector (l : Launch) (D : hG) (N0 : Nat) (ad : Nat → Nat) (ct : hC) (x : Int32) : Met l yX3_isSector wsX3_isSector ({ frames := 0, cells := 0, slots := 0, locals := 0 }) (hPc D N0 ad ct [.int (x)]) (va_Qi (fun (z : Int32) (u : hU) => z = hbv (inR x 8) ∧ u = (ad, ct)) (hB D N0) (hA N0)) 0 0 (hA N0) := by
  refine Met.ofW (cc := cX3_isSector) (maxL := 1) (ret := (some .boolean)) (by decide) rfl ?_
  intro p e s m args below meth c s₁ B hml hv0
  obtain ⟨hargs, hKs, hV⟩ := hv0
  have hx := B.exec
  have hb := B.bytes
  have hr := B.returns
  have hts := atoms_spec (ws := wsX3_isSector) B.pre
  have hown : s.vm.findClass RX3 = some m.cls := findClass_of_methodNamed B.named
  have hlocks := B.notSynchronized
  have hS : va_S (hA N0) s.heap s.heap [] := va_S.rf
  have hl := lv_entry ([.int (x)]) (n := 1) (Nat.le_of_ble_eq_true rfl)
  have hE : entryFrame m args 1 = entryFrame m ([.int (x)] : List Value).toArray 1 := by rw [hargs]
  rw [hE, lg_entry_eq]
  generalize (lg_sl ([.int (x)]) ++ List.replicate (1 - (lg_sl ([.int (x)])).length) Slot.unset).toArray = ls at hl ⊢
  have hl : lv_has ls 1 [(0, .int (x))] := hl
  refine lv_iload_n hx hb dX3_isSector_0 rfl (lv_at hl 0 rfl) ?_
  refine hI_if_lt (tgt := 14) hx hb dX3_isSector_1 (by decide) (fun c1 => ?_) (fun c1 => ?_)
  · refine lv_iconst (v := nI 0) hx hb dX3_isSector_14 (by decide) ?_
    exact hv_zret (v := nI (0)) (u := (ad, ct)) hx hb hr (by decide +kernel) ⟨hb_0 (inR_0 (Or.inl c1)), rfl⟩ hV hS dX3_isSector_15 hlocks
  · refine lv_iload_n hx hb dX3_isSector_4 rfl (lv_at hl 0 rfl) ?_
    refine lv_bipush (v := nI 8) hx hb dX3_isSector_5 (by decide) ?_
    refine hR_icmp_ge (tgt := 14) hx hb (by omega) dX3_isSector_7 (by decide) (fun c7 => ?_) (fun c7 => ?_)
    · refine lv_iconst (v := nI 0) hx hb dX3_isSector_14 (by decide) ?_
      exact hv_zret (v := nI (0)) (u := (ad, ct)) hx hb hr (by decide +kernel) ⟨hb_0 (inR_0 (Or.inr c7)), rfl⟩ hV hS dX3_isSector_15 hlocks
    · refine lv_iconst (v := nI 1) hx hb dX3_isSector_10 (by decide) ?_
      refine lv_goto (tgt := 15) hx hb dX3_isSector_11 (by decide) ?_
      exact hv_zret (v := nI (1)) (u := (ad, ct)) hx hb hr (by decide +kernel) ⟨hb_1 (inR_1 c1 c7), rfl⟩ hV hS dX3_isSector_15 hlocks

set_option maxHeartbeats 4000000 in
set_option maxRecDepth 100000 in
theorem c_X3_isTwist (l : Launch) (D : hG) (N0 : Nat) (ad : Nat → Nat) (ct : hC) (x : Int32) : Met l yX3_isTwist wsX3_isTwist ({ frames := 0, cells := 0, slots := 0, locals := 0 }) (hPc D N0 ad ct [.int (x)]) (va_Qi (fun (z : Int32) (u : hU) => z = hbv (inT x) ∧ u = (ad, ct)) (hB D N0) (hA N0)) 0 0 (hA N0) := by
  refine Met.ofW (cc := cX3_isTwist) (maxL := 1) (ret := (some .boolean)) (by decide) rfl ?_
  intro p e s m args below meth c s₁ B hml hv0
  obtain ⟨hargs, hKs, hV⟩ := hv0
  have hx := B.exec
  have hb := B.bytes
  have hr := B.returns
  have hts := atoms_spec (ws := wsX3_isTwist) B.pre
  have hown : s.vm.findClass RX3 = some m.cls := findClass_of_methodNamed B.named
  have hlocks := B.notSynchronized
  have hS : va_S (hA N0) s.heap s.heap [] := va_S.rf
  have hl := lv_entry ([.int (x)]) (n := 1) (Nat.le_of_ble_eq_true rfl)
  have hE : entryFrame m args 1 = entryFrame m ([.int (x)] : List Value).toArray 1 := by rw [hargs]
  rw [hE, lg_entry_eq]
  generalize (lg_sl ([.int (x)]) ++ List.replicate (1 - (lg_sl ([.int (x)])).length) Slot.unset).toArray = ls at hl ⊢
  have hl : lv_has ls 1 [(0, .int (x))] := hl
  refine lv_iload_n hx hb dX3_isTwist_0 rfl (lv_at hl 0 rfl) ?_
  refine lv_bipush (v := (-4)) hx hb dX3_isTwist_1 (by decide) ?_
  refine hI_icmp_lt (tgt := 15) hx hb dX3_isTwist_3 (by decide) (fun c3 => ?_) (fun c3 => ?_)
  · refine lv_iconst (v := nI 0) hx hb dX3_isTwist_15 (by decide) ?_
    exact hv_zret (v := nI (0)) (u := (ad, ct)) hx hb hr (by decide +kernel) ⟨hb_0 (inT_0 (Or.inl c3)), rfl⟩ hV hS dX3_isTwist_16 hlocks
  · refine lv_iload_n hx hb dX3_isTwist_6 rfl (lv_at hl 0 rfl) ?_
    refine lv_iconst (v := nI 4) hx hb dX3_isTwist_7 (by decide) ?_
    refine hR_icmp_gt (tgt := 15) hx hb (by omega) dX3_isTwist_8 (by decide) (fun c8 => ?_) (fun c8 => ?_)
    · refine lv_iconst (v := nI 0) hx hb dX3_isTwist_15 (by decide) ?_
      exact hv_zret (v := nI (0)) (u := (ad, ct)) hx hb hr (by decide +kernel) ⟨hb_0 (inT_0 (Or.inr c8)), rfl⟩ hV hS dX3_isTwist_16 hlocks
    · refine lv_iconst (v := nI 1) hx hb dX3_isTwist_11 (by decide) ?_
      refine lv_goto (tgt := 16) hx hb dX3_isTwist_12 (by decide) ?_
      exact hv_zret (v := nI (1)) (u := (ad, ct)) hx hb hr (by decide +kernel) ⟨hb_1 (inT_1 c3 c8), rfl⟩ hV hS dX3_isTwist_16 hlocks
