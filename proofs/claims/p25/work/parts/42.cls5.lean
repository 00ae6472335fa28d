set_option maxHeartbeats 4000000 in
set_option maxRecDepth 100000 in
theorem c_X3_where (l : Launch) (hfl : l.stackTraces = false) (D : hG) (N0 : Nat) (ad : Nat → Nat) (ct : hC) {σ : gS} (hG : gX D σ ad ct) (hO : okS σ) (y0q : Int32) : vx_Met l yX3_where wsX3_where ({ frames := 6, cells := 1, slots := 6, locals := 82 }) (hPc D N0 ad ct [.ref (ad (0)), .int (y0q)]) (va_Qi (fun (z : Int32) (u : hU) => (k_where σ y0q) = 0 ∧ z = eyv (sEy σ y0q.toInt.toNat) ∧ u = (ad, ct)) (hB D N0) (hA N0)) (hXC D N0 ad ct nmI (k_where σ y0q)) 1 6 (hA N0) := by
  refine vx_ofW (cc := cX3_where) (maxL := 3) (ret := (some .int)) (by decide) rfl ?_
  intro p e s m args below meth c s₁ B hml hnx hv0
  obtain ⟨hargs, hKs, hV⟩ := hv0
  have hx := B.exec
  have hb := B.bytes
  have hr := B.returns
  have hts := atoms_spec (ws := wsX3_where) B.pre
  have hown : s.vm.findClass RX3 = some m.cls := findClass_of_methodNamed B.named
  have hlocks := B.notSynchronized
  have hS : va_S (hA N0) s.heap s.heap [] := va_S.rf
  have hiX2 : ∀ w ∈ u_ws RX2 TX2 5, w ∈ wsX3_where := by decide +kernel
  have kn155 := hKs.2.1 (155, "CaneSlices$Slice", "eye", "I") (by decide +kernel)
  have kx1 := hts (.classLink RX3 43 "java/lang/IndexOutOfBoundsException") (by decide +kernel)
  have ky1 := hts (.initialized "java/lang/IndexOutOfBoundsException") (by decide +kernel)
  have ka1 := vx_hat (fun w h => hts w (List.mem_cons_of_mem _ (List.mem_append_right _ h))) xb1 (xB_of hKs (by decide))
  have hl := lv_entry ([.ref (ad (0)), .int (y0q)]) (n := 3) (Nat.le_of_ble_eq_true rfl)
  have hE : entryFrame m args 3 = entryFrame m ([.ref (ad (0)), .int (y0q)] : List Value).toArray 3 := by rw [hargs]
  rw [hE, lg_entry_eq]
  generalize (lg_sl ([.ref (ad (0)), .int (y0q)]) ++ List.replicate (3 - (lg_sl ([.ref (ad (0)), .int (y0q)])).length) Slot.unset).toArray = ls at hl ⊢
  have hl : lv_has ls 3 [(0, .ref (ad (0))), (1, .int (y0q))] := hl
  obtain ⟨hn8, hn60, hn6, -⟩ := id hO
  refine lv_aload_n hx hb dX3_where_0 rfl (lv_at hl 0 rfl) ?_
  refine lv_iload_n hx hb dX3_where_1 rfl (lv_at hl 1 rfl) ?_
  refine hv_callq (va_runV (As := [.int (y0q)]) (rest := []) ⟨hx, hb, hml, hown, hts⟩ (c_X3_sliceAt l D N0 ad ct hG hO (y0q)) (cwV 1 hts gX3_where_X3_sliceAt rfl rfl rfl (by decide +kernel) ⟨Nat.le_of_ble_eq_true rfl, Nat.le_of_ble_eq_true rfl⟩) (hv_preV (r := (RX3, TX3, 8)) hKs hV hS hG.1 rfl) rfl rfl hl.1 rfl (lv_room (Nat.le_of_ble_eq_true rfl)) dX3_where_2 ⟨(Nat.le_of_ble_eq_true rfl), (Nat.le_of_ble_eq_true rfl)⟩) hS (fun r9 u9 H locs hq hV hS => ?_)
  obtain ⟨rfl, rfl⟩ := hq
  have hV : hv D N0 ad ct H := hV
  refine hv_ifQ (fun cq2 => ?_) (fun cq2 => ?_)
  · obtain ⟨y0qn, hy0qn, rfl⟩ := inR_of cq2
    have e_y0q : (nI y0qn).toInt.toNat = y0qn := toNat_nI (by omega)
    refine hv_eq (w := .ref (ad (16 * (y0qn) + 6))) (by rw [toNat_nI (by omega)]) ?_
    refine lv_astore_n (lv' := [(2, .ref (ad (16 * (y0qn) + 6))), (0, .ref (ad (0))), (1, .int (nI (y0qn)))]) hx hb dX3_where_5 rfl hl (by decide) rfl (fun ls hl => ?_)
    refine lv_aload_n hx hb dX3_where_6 rfl (lv_at hl 0 rfl) ?_
    refine lv_ifnonnull (tgt := 20) hx hb dX3_where_7 (by decide) ?_
    refine lv_aload_n hx hb dX3_where_20 rfl (lv_at hl 0 rfl) ?_
    have hd1 := hG.2.2.2.2.2 (y0qn) (by omega)
    have hd1f : ct (16 * (y0qn) + 6) = some (eO 2 [.int (nI (y0qn)), .ref (ad (16 * (y0qn) + 7)), .int (nI (sKd σ (y0qn))), .int (eyv (sEy σ (y0qn))), .int (nI (trn σ (y0qn)))]) := hd1.1
    refine hv_getN (C := RX2) (T := TX2) (N := 5) hx hb hts hiX2 hown hKs hV hd1f 3 rfl (by decide) kn155 (fun _ h9 => h9) rfl dX3_where_21 ?_
    refine W.widen (k := 1) (n := 6) (by omega) (by omega) ?_
    refine vx_ret ?_
    exact hv_iret (v := (eyv (sEy σ (y0qn)))) (u := (ad, ct)) hx hb hr ⟨by simp [k_where, cq2, e_y0q], by rw [e_y0q], rfl⟩ hV hS dX3_where_24 hlocks
  · refine lv_astore_nN (lv' := [(2, .null), (0, .ref (ad (0))), (1, .int (y0q))]) hx hb dX3_where_5 rfl hl (by decide) rfl (fun ls hl => ?_)
    refine lv_aload_nN hx hb dX3_where_6 rfl (lv_at hl 0 rfl) ?_
    refine lv_ifnonnullN hx hb dX3_where_7 ?_
    exact hv_throw (text := "no such slice") hx hb hfl hown hKs hV hS (by decide +kernel) kx1 ky1 (by decide +kernel) ka1 xg1 (hl.1.trans hml.symm) dX3_where_10 dX3_where_13 dX3_where_14 dX3_where_16 dX3_where_19 hnx (Nat.le_of_ble_eq_true rfl) (Nat.le_of_ble_eq_true rfl) (Nat.le_of_ble_eq_true rfl) (Nat.le_of_ble_eq_true rfl) hlocks (by simp [k_where, cq2]) (j := 1) (by decide) rfl (Nat.le_of_ble_eq_true rfl) (Nat.le_of_ble_eq_true rfl)

set_option maxHeartbeats 4000000 in
set_option maxRecDepth 100000 in
theorem c_X3_colour (l : Launch) (hfl : l.stackTraces = false) (D : hG) (N0 : Nat) (ad : Nat → Nat) (ct : hC) {σ : gS} (hG : gX D σ ad ct) (hO : okS σ) (y0q y1q y2q : Int32) : vx_Met l yX3_colour wsX3_colour ({ frames := 6, cells := 1, slots := 6, locals := 82 }) (hPc D N0 ad ct [.ref (ad (0)), .int (y0q), .int (y1q), .int (y2q)]) (va_Qi (fun (z : Int32) (u : hU) => (k_colour σ y0q y1q y2q) = 0 ∧ z = nI (sPt σ y0q.toInt.toNat (8 * y1q.toInt.toNat + y2q.toInt.toNat)) ∧ u = (ad, ct)) (hB D N0) (hA N0)) (hXC D N0 ad ct nmI (k_colour σ y0q y1q y2q)) 1 6 (hA N0) := by
  refine vx_ofW (cc := cX3_colour) (maxL := 5) (ret := (some .int)) (by decide) rfl ?_
  intro p e s m args below meth c s₁ B hml hnx hv0
  obtain ⟨hargs, hKs, hV⟩ := hv0
  have hx := B.exec
  have hb := B.bytes
  have hr := B.returns
  have hts := atoms_spec (ws := wsX3_colour) B.pre
  have hown : s.vm.findClass RX3 = some m.cls := findClass_of_methodNamed B.named
  have hlocks := B.notSynchronized
  have hS : va_S (hA N0) s.heap s.heap [] := va_S.rf
  have hiX2 : ∀ w ∈ u_ws RX2 TX2 5, w ∈ wsX3_colour := by decide +kernel
  have kx1 := hts (.classLink RX3 43 "java/lang/IndexOutOfBoundsException") (by decide +kernel)
  have ky1 := hts (.initialized "java/lang/IndexOutOfBoundsException") (by decide +kernel)
  have ka1 := vx_hat (fun w h => hts w (List.mem_cons_of_mem _ (List.mem_append_right _ h))) xb1 (xB_of hKs (by decide))
  have kn152 := hKs.2.1 (152, "CaneSlices$Slice", "pattern", "LCaneSlices$Pattern;") (by decide +kernel)
  have hl := lv_entry ([.ref (ad (0)), .int (y0q), .int (y1q), .int (y2q)]) (n := 5) (Nat.le_of_ble_eq_true rfl)
  have hE : entryFrame m args 5 = entryFrame m ([.ref (ad (0)), .int (y0q), .int (y1q), .int (y2q)] : List Value).toArray 5 := by rw [hargs]
  rw [hE, lg_entry_eq]
  generalize (lg_sl ([.ref (ad (0)), .int (y0q), .int (y1q), .int (y2q)]) ++ List.replicate (5 - (lg_sl ([.ref (ad (0)), .int (y0q), .int (y1q), .int (y2q)])).length) Slot.unset).toArray = ls at hl ⊢
  have hl : lv_has ls 5 [(0, .ref (ad (0))), (1, .int (y0q)), (2, .int (y1q)), (3, .int (y2q))] := hl
  obtain ⟨hn8, hn60, hn6, -⟩ := id hO
  refine lv_aload_n hx hb dX3_colour_0 rfl (lv_at hl 0 rfl) ?_
  refine lv_iload_n hx hb dX3_colour_1 rfl (lv_at hl 1 rfl) ?_
  refine hv_callq (va_runV (As := [.int (y0q)]) (rest := []) ⟨hx, hb, hml, hown, hts⟩ (c_X3_sliceAt l D N0 ad ct hG hO (y0q)) (cwV 1 hts gX3_colour_X3_sliceAt rfl rfl rfl (by decide +kernel) ⟨Nat.le_of_ble_eq_true rfl, Nat.le_of_ble_eq_true rfl⟩) (hv_preV (r := (RX3, TX3, 8)) hKs hV hS hG.1 rfl) rfl rfl hl.1 rfl (lv_room (Nat.le_of_ble_eq_true rfl)) dX3_colour_2 ⟨(Nat.le_of_ble_eq_true rfl), (Nat.le_of_ble_eq_true rfl)⟩) hS (fun r9 u9 H locs hq hV hS => ?_)
  obtain ⟨rfl, rfl⟩ := hq
  have hV : hv D N0 ad ct H := hV
  refine hv_ifQ (fun cq2 => ?_) (fun cq2 => ?_)
  · obtain ⟨y0qn, hy0qn, rfl⟩ := inR_of cq2
    have e_y0q : (nI y0qn).toInt.toNat = y0qn := toNat_nI (by omega)
    refine hv_eq (w := .ref (ad (16 * (y0qn) + 6))) (by rw [toNat_nI (by omega)]) ?_
    refine lv_astore (lv' := [(4, .ref (ad (16 * (y0qn) + 6))), (0, .ref (ad (0))), (1, .int (nI (y0qn))), (2, .int (y1q)), (3, .int (y2q))]) hx hb dX3_colour_5 hl (by decide) rfl (fun ls hl => ?_)
    refine lv_aload hx hb dX3_colour_7 (lv_at hl 0 rfl) ?_
    refine lv_ifnull hx hb dX3_colour_9 ?_
    refine lv_iload_n hx hb dX3_colour_12 rfl (lv_at hl 3 rfl) ?_
    refine hv_calli (va_runS (As := [.int (y1q)]) (rest := []) ⟨hx, hb, hml, hown, hts⟩ (c_X3_isRing l D N0 ad ct ((y1q))) (va_cwS 1 hts gX3_colour_X3_isRing rfl rfl rfl (by decide +kernel) ⟨Nat.le_of_ble_eq_true rfl, Nat.le_of_ble_eq_true rfl⟩) (hv_preS hKs hV hS) rfl rfl hl.1 rfl (lv_room (Nat.le_of_ble_eq_true rfl)) dX3_colour_13 ⟨(Nat.le_of_ble_eq_true rfl), (Nat.le_of_ble_eq_true rfl)⟩) hS (fun r9 u9 H locs hq hV hS => ?_)
    obtain ⟨rfl, rfl⟩ := hq
    have hV : hv D N0 ad ct H := hV
    refine hB_if_eq (tgt := 26) hx hb dX3_colour_16 (by decide) (fun c16 => ?_) (fun c16 => ?_)
    · exact hv_throw (text := "no such slice, ring or sector") hx hb hfl hown hKs hV hS (by decide +kernel) kx1 ky1 (by decide +kernel) ka1 xg1 (hl.1.trans hml.symm) dX3_colour_26 dX3_colour_29 dX3_colour_30 dX3_colour_32 dX3_colour_35 hnx (Nat.le_of_ble_eq_true rfl) (Nat.le_of_ble_eq_true rfl) (Nat.le_of_ble_eq_true rfl) (Nat.le_of_ble_eq_true rfl) hlocks (by simp [k_colour, cq2, c16, e_y0q]) (j := 1) (by decide) rfl (Nat.le_of_ble_eq_true rfl) (Nat.le_of_ble_eq_true rfl)
    · obtain ⟨y1qn, hy1qn, rfl⟩ := inR_of c16
      have e_y1q : (nI y1qn).toInt.toNat = y1qn := toNat_nI (by omega)
      refine lv_iload_n hx hb dX3_colour_19 rfl (lv_at hl 4 rfl) ?_
      refine hv_calli (va_runS (As := [.int (y2q)]) (rest := []) ⟨hx, hb, hml, hown, hts⟩ (c_X3_isSector l D N0 ad ct ((y2q))) (va_cwS 1 hts gX3_colour_X3_isSector rfl rfl rfl (by decide +kernel) ⟨Nat.le_of_ble_eq_true rfl, Nat.le_of_ble_eq_true rfl⟩) (hv_preS hKs hV hS) rfl rfl hl.1 rfl (lv_room (Nat.le_of_ble_eq_true rfl)) dX3_colour_20 ⟨(Nat.le_of_ble_eq_true rfl), (Nat.le_of_ble_eq_true rfl)⟩) hS (fun r9 u9 H locs hq hV hS => ?_)
      obtain ⟨rfl, rfl⟩ := hq
      have hV : hv D N0 ad ct H := hV
      refine hB_if_ne (tgt := 36) hx hb dX3_colour_23 (by decide) (fun c23 => ?_) (fun c23 => ?_)
      · obtain ⟨y2qn, hy2qn, rfl⟩ := inR_of c23
        have e_y2q : (nI y2qn).toInt.toNat = y2qn := toNat_nI (by omega)
        refine lv_aload hx hb dX3_colour_36 (lv_at hl 0 rfl) ?_
        have hd1 := hG.2.2.2.2.2 (y0qn) (by omega)
        have hd1f : ct (16 * (y0qn) + 6) = some (eO 2 [.int (nI (y0qn)), .ref (ad (16 * (y0qn) + 7)), .int (nI (sKd σ (y0qn))), .int (eyv (sEy σ (y0qn))), .int (nI (trn σ (y0qn)))]) := hd1.1
        refine hv_getN (C := RX2) (T := TX2) (N := 5) hx hb hts hiX2 hown hKs hV hd1f 1 rfl (by decide) kn152 (fun _ h9 => h9) rfl dX3_colour_38 ?_
        refine lv_iload_n hx hb dX3_colour_41 rfl (lv_at hl 3 rfl) ?_
        refine lv_iload_n hx hb dX3_colour_42 rfl (lv_at hl 4 rfl) ?_
        refine lv_iconst (v := nI 0) hx hb dX3_colour_43 (by decide) ?_
        refine hv_calli (va_runV (As := [.int (nI (y1qn)), .int (nI (y2qn)), .int (nI (0))]) (rest := []) ⟨hx, hb, hml, hown, hts⟩ (c_X1_colourAt l D N0 ad ct hd1.2 (y1qn) (by omega) (y2qn) (by omega) (nI (0))) (cwV 3 hts gX3_colour_X1_colourAt rfl rfl rfl (by decide +kernel) ⟨Nat.le_of_ble_eq_true rfl, Nat.le_of_ble_eq_true rfl⟩) (hv_preV (r := (RX1, TX1, 1)) hKs hV hS hd1.2.1 rfl) rfl rfl hl.1 rfl (lv_room (Nat.le_of_ble_eq_true rfl)) dX3_colour_44 ⟨(Nat.le_of_ble_eq_true rfl), (Nat.le_of_ble_eq_true rfl)⟩) hS (fun r9 u9 H locs hq hV hS => ?_)
        obtain ⟨rfl, rfl⟩ := hq
        have hV : hv D N0 ad ct H := hV
        refine W.widen (k := 1) (n := 6) (by omega) (by omega) ?_
        refine vx_ret ?_
        exact hv_iret (v := nI (sPt σ (y0qn) (8 * (y1qn) + (y2qn + 8 - m8 (nI (0))) % 8))) (u := (ad, ct)) hx hb hr ⟨by simp [k_colour, cq2, c16, c23, e_y0q, e_y1q, e_y2q], by rw [e_y0q, e_y1q, e_y2q, m8_nI (by decide), show (y2qn + 8 - 0 % 8) % 8 = y2qn by omega], rfl⟩ hV hS dX3_colour_47 hlocks
      · exact hv_throw (text := "no such slice, ring or sector") hx hb hfl hown hKs hV hS (by decide +kernel) kx1 ky1 (by decide +kernel) ka1 xg1 (hl.1.trans hml.symm) dX3_colour_26 dX3_colour_29 dX3_colour_30 dX3_colour_32 dX3_colour_35 hnx (Nat.le_of_ble_eq_true rfl) (Nat.le_of_ble_eq_true rfl) (Nat.le_of_ble_eq_true rfl) (Nat.le_of_ble_eq_true rfl) hlocks (by simp [k_colour, cq2, c16, c23, e_y0q, e_y1q]) (j := 1) (by decide) rfl (Nat.le_of_ble_eq_true rfl) (Nat.le_of_ble_eq_true rfl)
  · refine lv_astoreN (lv' := [(4, .null), (0, .ref (ad (0))), (1, .int (y0q)), (2, .int (y1q)), (3, .int (y2q))]) hx hb dX3_colour_5 hl (by decide) rfl (fun ls hl => ?_)
    refine lv_aloadN hx hb dX3_colour_7 (lv_at hl 0 rfl) ?_
    refine lv_ifnullN (tgt := 26) hx hb dX3_colour_9 (by decide) ?_
    exact hv_throw (text := "no such slice, ring or sector") hx hb hfl hown hKs hV hS (by decide +kernel) kx1 ky1 (by decide +kernel) ka1 xg1 (hl.1.trans hml.symm) dX3_colour_26 dX3_colour_29 dX3_colour_30 dX3_colour_32 dX3_colour_35 hnx (Nat.le_of_ble_eq_true rfl) (Nat.le_of_ble_eq_true rfl) (Nat.le_of_ble_eq_true rfl) (Nat.le_of_ble_eq_true rfl) hlocks (by simp [k_colour, cq2]) (j := 1) (by decide) rfl (Nat.le_of_ble_eq_true rfl) (Nat.le_of_ble_eq_true rfl)

set_option maxHeartbeats 4000000 in
set_option maxRecDepth 100000 in
theorem c_X3_count (l : Launch) (hfl : l.stackTraces = false) (D : hG) (N0 : Nat) (ad : Nat → Nat) (ct : hC) {σ : gS} (hG : gX D σ ad ct) (hO : okS σ) (y0q : Int32) : vx_Met l yX3_count wsX3_count ({ frames := 7, cells := 1, slots := 6, locals := 159 }) (hPc D N0 ad ct [.ref (ad (0)), .int (y0q)]) (va_Qi (fun (z : Int32) (u : hU) => (k_count y0q) = 0 ∧ z = tal σ y0q.toInt.toNat ∧ u = (ad, ct)) (hB D N0) (hA N0)) (hXC D N0 ad ct nmI (k_count y0q)) 1 6 (hA N0) := by
  refine vx_ofW (cc := cX3_count) (maxL := 2) (ret := (some .int)) (by decide) rfl ?_
  intro p e s m args below meth c s₁ B hml hnx hv0
  obtain ⟨hargs, hKs, hV⟩ := hv0
  have hx := B.exec
  have hb := B.bytes
  have hr := B.returns
  have hts := atoms_spec (ws := wsX3_count) B.pre
  have hown : s.vm.findClass RX3 = some m.cls := findClass_of_methodNamed B.named
  have hlocks := B.notSynchronized
  have hS : va_S (hA N0) s.heap s.heap [] := va_S.rf
  have kx1 := hts (.classLink RX3 43 "java/lang/IndexOutOfBoundsException") (by decide +kernel)
  have ky1 := hts (.initialized "java/lang/IndexOutOfBoundsException") (by decide +kernel)
  have ka1 := vx_hat (fun w h => hts w (List.mem_cons_of_mem _ (List.mem_append_right _ h))) xb1 (xB_of hKs (by decide))
  have hl := lv_entry ([.ref (ad (0)), .int (y0q)]) (n := 2) (Nat.le_of_ble_eq_true rfl)
  have hE : entryFrame m args 2 = entryFrame m ([.ref (ad (0)), .int (y0q)] : List Value).toArray 2 := by rw [hargs]
  rw [hE, lg_entry_eq]
  generalize (lg_sl ([.ref (ad (0)), .int (y0q)]) ++ List.replicate (2 - (lg_sl ([.ref (ad (0)), .int (y0q)])).length) Slot.unset).toArray = ls at hl ⊢
  have hl : lv_has ls 2 [(0, .ref (ad (0))), (1, .int (y0q))] := hl
  obtain ⟨hn8, hn60, hn6, -⟩ := id hO
  refine lv_iload_n hx hb dX3_count_0 rfl (lv_at hl 1 rfl) ?_
  refine hI_if_lt (tgt := 10) hx hb dX3_count_1 (by decide) (fun c1 => ?_) (fun c1 => ?_)
  · exact hv_throw (text := "what is not 0 to 7") hx hb hfl hown hKs hV hS (by decide +kernel) kx1 ky1 (by decide +kernel) ka1 xg1 (hl.1.trans hml.symm) dX3_count_10 dX3_count_13 dX3_count_14 dX3_count_16 dX3_count_19 hnx (Nat.le_of_ble_eq_true rfl) (Nat.le_of_ble_eq_true rfl) (Nat.le_of_ble_eq_true rfl) (Nat.le_of_ble_eq_true rfl) hlocks (if_neg (inR_n (Or.inl c1))) (j := 1) (by decide) rfl (Nat.le_of_ble_eq_true rfl) (Nat.le_of_ble_eq_true rfl)
  · refine lv_iload_n hx hb dX3_count_4 rfl (lv_at hl 1 rfl) ?_
    refine lv_bipush (v := nI 8) hx hb dX3_count_5 (by decide) ?_
    refine hR_icmp_lt (tgt := 20) hx hb (by omega) dX3_count_7 (by decide) (fun c7 => ?_) (fun c7 => ?_)
    · obtain ⟨y0qn, hy0qn, rfl⟩ := hI_of c1 c7
      have e_y0q : (nI y0qn).toInt.toNat = y0qn := toNat_nI (by omega)
      refine lv_aload_n hx hb dX3_count_20 rfl (lv_at hl 0 rfl) ?_
      refine lv_iload_n hx hb dX3_count_21 rfl (lv_at hl 1 rfl) ?_
      refine hv_calli (va_runV (As := [.int (nI (y0qn))]) (rest := []) ⟨hx, hb, hml, hown, hts⟩ (c_X3_tally l D N0 ad ct hG hO (y0qn) (by omega)) (cwV 1 hts gX3_count_X3_tally rfl rfl rfl (by decide +kernel) ⟨Nat.le_of_ble_eq_true rfl, Nat.le_of_ble_eq_true rfl⟩) (hv_preV (r := (RX3, TX3, 8)) hKs hV hS hG.1 rfl) rfl rfl hl.1 rfl (lv_room (Nat.le_of_ble_eq_true rfl)) dX3_count_22 ⟨(Nat.le_of_ble_eq_true rfl), (Nat.le_of_ble_eq_true rfl)⟩) hS (fun r9 u9 H locs hq hV hS => ?_)
      obtain ⟨rfl, rfl⟩ := hq
      have hV : hv D N0 ad ct H := hV
      refine W.widen (k := 1) (n := 6) (by omega) (by omega) ?_
      refine vx_ret ?_
      exact hv_iret (v := (tal σ (y0qn))) (u := (ad, ct)) hx hb hr ⟨if_pos (inR_j (by omega) hy0qn), by rw [e_y0q], rfl⟩ hV hS dX3_count_25 hlocks
    · exact hv_throw (text := "what is not 0 to 7") hx hb hfl hown hKs hV hS (by decide +kernel) kx1 ky1 (by decide +kernel) ka1 xg1 (hl.1.trans hml.symm) dX3_count_10 dX3_count_13 dX3_count_14 dX3_count_16 dX3_count_19 hnx (Nat.le_of_ble_eq_true rfl) (Nat.le_of_ble_eq_true rfl) (Nat.le_of_ble_eq_true rfl) (Nat.le_of_ble_eq_true rfl) hlocks (if_neg (inR_n (Or.inr c7))) (j := 1) (by decide) rfl (Nat.le_of_ble_eq_true rfl) (Nat.le_of_ble_eq_true rfl)

set_option maxHeartbeats 4000000 in
set_option maxRecDepth 100000 in
theorem c_X3_cane (l : Launch) (hfl : l.stackTraces = false) (D : hG) (N0 : Nat) (ad : Nat → Nat) (ct : hC) {σ : gS} (hG : gX D σ ad ct) (hO : okS σ) (y0q y1q : Int32) : vx_Met l yX3_cane wsX3_cane ({ frames := 6, cells := 1, slots := 6, locals := 82 }) (hPc D N0 ad ct [.ref (ad (0)), .int (y0q), .int (y1q)]) (va_Qi (fun (z : Int32) (u : hU) => (k_cane σ y0q y1q) = 0 ∧ z = tel σ y0q.toInt.toNat y1q.toInt.toNat ∧ u = (ad, ct)) (hB D N0) (hA N0)) (hXC D N0 ad ct nmI (k_cane σ y0q y1q)) 1 6 (hA N0) := by
  refine vx_ofW (cc := cX3_cane) (maxL := 4) (ret := (some .int)) (by decide) rfl ?_
  intro p e s m args below meth c s₁ B hml hnx hv0
  obtain ⟨hargs, hKs, hV⟩ := hv0
  have hx := B.exec
  have hb := B.bytes
  have hr := B.returns
  have hts := atoms_spec (ws := wsX3_cane) B.pre
  have hown : s.vm.findClass RX3 = some m.cls := findClass_of_methodNamed B.named
  have hlocks := B.notSynchronized
  have hS : va_S (hA N0) s.heap s.heap [] := va_S.rf
  have hiX3 : ∀ w ∈ u_ws RX3 TX3 8, w ∈ wsX3_cane := by decide +kernel
  have kx1 := hts (.classLink RX3 43 "java/lang/IndexOutOfBoundsException") (by decide +kernel)
  have ky1 := hts (.initialized "java/lang/IndexOutOfBoundsException") (by decide +kernel)
  have ka1 := vx_hat (fun w h => hts w (List.mem_cons_of_mem _ (List.mem_append_right _ h))) xb1 (xB_of hKs (by decide))
  have lk24 := hts (.fieldLink RX3 24 "CaneSlices" "inFurnace" "I") (by decide +kernel)
  have hl := lv_entry ([.ref (ad (0)), .int (y0q), .int (y1q)]) (n := 4) (Nat.le_of_ble_eq_true rfl)
  have hE : entryFrame m args 4 = entryFrame m ([.ref (ad (0)), .int (y0q), .int (y1q)] : List Value).toArray 4 := by rw [hargs]
  rw [hE, lg_entry_eq]
  generalize (lg_sl ([.ref (ad (0)), .int (y0q), .int (y1q)]) ++ List.replicate (4 - (lg_sl ([.ref (ad (0)), .int (y0q), .int (y1q)])).length) Slot.unset).toArray = ls at hl ⊢
  have hl : lv_has ls 4 [(0, .ref (ad (0))), (1, .int (y0q)), (2, .int (y1q))] := hl
  obtain ⟨hn8, hn60, hn6, -⟩ := id hO
  refine lv_aload_n hx hb dX3_cane_0 rfl (lv_at hl 0 rfl) ?_
  refine lv_iload_n hx hb dX3_cane_1 rfl (lv_at hl 1 rfl) ?_
  refine hv_callq (va_runV (As := [.int (y0q)]) (rest := []) ⟨hx, hb, hml, hown, hts⟩ (c_X3_caneAt l D N0 ad ct hG hO (y0q)) (cwV 1 hts gX3_cane_X3_caneAt rfl rfl rfl (by decide +kernel) ⟨Nat.le_of_ble_eq_true rfl, Nat.le_of_ble_eq_true rfl⟩) (hv_preV (r := (RX3, TX3, 8)) hKs hV hS hG.1 rfl) rfl rfl hl.1 rfl (lv_room (Nat.le_of_ble_eq_true rfl)) dX3_cane_2 ⟨(Nat.le_of_ble_eq_true rfl), (Nat.le_of_ble_eq_true rfl)⟩) hS (fun r9 u9 H locs hq hV hS => ?_)
  obtain ⟨rfl, rfl⟩ := hq
  have hV : hv D N0 ad ct H := hV
  refine hv_ifQ (fun cq2 => ?_) (fun cq2 => ?_)
  · obtain ⟨y0qn, hy0qn, rfl⟩ := inR_of cq2
    have e_y0q : (nI y0qn).toInt.toNat = y0qn := toNat_nI (by omega)
    refine hv_eq (w := .ref (ad (16 * (y0qn) + 3))) (by rw [toNat_nI (by omega)]) ?_
    refine lv_astore_n (lv' := [(3, .ref (ad (16 * (y0qn) + 3))), (0, .ref (ad (0))), (1, .int (nI (y0qn))), (2, .int (y1q))]) hx hb dX3_cane_5 rfl hl (by decide) rfl (fun ls hl => ?_)
    refine lv_aload_n hx hb dX3_cane_6 rfl (lv_at hl 0 rfl) ?_
    refine lv_ifnull hx hb dX3_cane_7 ?_
    refine lv_iload_n hx hb dX3_cane_10 rfl (lv_at hl 3 rfl) ?_
    refine hI_if_lt (tgt := 19) hx hb dX3_cane_11 (by decide) (fun c11 => ?_) (fun c11 => ?_)
    · exact hv_throw (text := "no such cane, or what is not 0 to 4") hx hb hfl hown hKs hV hS (by decide +kernel) kx1 ky1 (by decide +kernel) ka1 xg1 (hl.1.trans hml.symm) dX3_cane_19 dX3_cane_22 dX3_cane_23 dX3_cane_25 dX3_cane_28 hnx (Nat.le_of_ble_eq_true rfl) (Nat.le_of_ble_eq_true rfl) (Nat.le_of_ble_eq_true rfl) (Nat.le_of_ble_eq_true rfl) hlocks (by simp [k_cane, inR_0 (Or.inl c11)]) (j := 1) (by decide) rfl (Nat.le_of_ble_eq_true rfl) (Nat.le_of_ble_eq_true rfl)
    · refine lv_iload_n hx hb dX3_cane_14 rfl (lv_at hl 3 rfl) ?_
      refine lv_iconst (v := nI 5) hx hb dX3_cane_15 (by decide) ?_
      refine hR_icmp_lt (tgt := 29) hx hb (by omega) dX3_cane_16 (by decide) (fun c16 => ?_) (fun c16 => ?_)
      · obtain ⟨y1qn, hy1qn, rfl⟩ := hI_of c11 c16
        have e_y1q : (nI y1qn).toInt.toNat = y1qn := toNat_nI (by omega)
        have h_y1q : inR (nI y1qn) 5 = true := inR_j (by omega) hy1qn
        refine lv_aload_n hx hb dX3_cane_29 rfl (lv_at hl 0 rfl) ?_
        refine lv_iload_n hx hb dX3_cane_30 rfl (lv_at hl 3 rfl) ?_
        refine lv_iload_n hx hb dX3_cane_31 rfl (lv_at hl 2 rfl) ?_
        refine lv_aload_n hx hb dX3_cane_32 rfl (lv_at hl 1 rfl) ?_
        refine hv_get (C := RX3) (T := TX3) (N := 8) hx hb hts hiX3 hown hKs hV hG.1 6 rfl (by decide) lk24 (fun _ h9 => h9) rfl dX3_cane_33 ?_
        refine hL_icmp_ne (tgt := 43) hx hb (by omega) dX3_cane_36 (by decide) (fun c36 => ?_) (fun c36 => ?_)
        · refine lv_iconst (v := nI 0) hx hb dX3_cane_43 (by decide) ?_
          have hc1 := hG.2.2.2.2.1 (y0qn) (by omega)
          have hc1b : cLen σ (y0qn) ≤ 60 ∧ cHt σ (y0qn) ≤ 10 := ⟨(hO.2.2.2.1 (y0qn) (by omega)).1, (hO.2.2.2.1 (y0qn) (by omega)).2.1⟩
          have hc1f : ct (16 * (y0qn) + 3) = some (eO 0 [.ref (ad (16 * (y0qn) + 4)), .int (nI (cLen σ (y0qn))), .int (cTw σ (y0qn)), .int (nI (cHt σ (y0qn))), .int (hbv (cCr σ (y0qn)))]) := hc1.1
          refine hv_calli (va_runV (As := [.int (nI (y1qn)), .int (nI (0))]) (rest := []) ⟨hx, hb, hml, hown, hts⟩ (c_X0_tell l D N0 ad ct hc1f (y1qn) (by omega) (false)) (cwV 2 hts gX3_cane_X0_tell rfl rfl rfl (by decide +kernel) ⟨Nat.le_of_ble_eq_true rfl, Nat.le_of_ble_eq_true rfl⟩) (hv_preV (r := (RX0, TX0, 5)) hKs hV hS hc1f rfl) rfl rfl hl.1 rfl (lv_room (Nat.le_of_ble_eq_true rfl)) dX3_cane_44 ⟨(Nat.le_of_ble_eq_true rfl), (Nat.le_of_ble_eq_true rfl)⟩) hS (fun r9 u9 H locs hq hV hS => ?_)
          obtain ⟨rfl, rfl⟩ := hq
          have hV : hv D N0 ad ct H := hV
          refine W.widen (k := 1) (n := 6) (by omega) (by omega) ?_
          refine vx_ret ?_
          exact hv_iret (v := (ctell (cLen σ (y0qn)) ((cTw σ (y0qn))) (cHt σ (y0qn)) (cCr σ (y0qn)) (false) (y1qn))) (u := (ad, ct)) hx hb hr ⟨by simp [k_cane, cq2, h_y1q], by rw [e_y0q, e_y1q]; exact tel_f (by omega) c36, rfl⟩ hV hS dX3_cane_47 hlocks
        · refine lv_iconst (v := nI 1) hx hb dX3_cane_39 (by decide) ?_
          refine lv_goto (tgt := 44) hx hb dX3_cane_40 (by decide) ?_
          have hc2 := hG.2.2.2.2.1 (y0qn) (by omega)
          have hc2b : cLen σ (y0qn) ≤ 60 ∧ cHt σ (y0qn) ≤ 10 := ⟨(hO.2.2.2.1 (y0qn) (by omega)).1, (hO.2.2.2.1 (y0qn) (by omega)).2.1⟩
          have hc2f : ct (16 * (y0qn) + 3) = some (eO 0 [.ref (ad (16 * (y0qn) + 4)), .int (nI (cLen σ (y0qn))), .int (cTw σ (y0qn)), .int (nI (cHt σ (y0qn))), .int (hbv (cCr σ (y0qn)))]) := hc2.1
          refine hv_calli (va_runV (As := [.int (nI (y1qn)), .int (nI (1))]) (rest := []) ⟨hx, hb, hml, hown, hts⟩ (c_X0_tell l D N0 ad ct hc2f (y1qn) (by omega) (true)) (cwV 2 hts gX3_cane_X0_tell rfl rfl rfl (by decide +kernel) ⟨Nat.le_of_ble_eq_true rfl, Nat.le_of_ble_eq_true rfl⟩) (hv_preV (r := (RX0, TX0, 5)) hKs hV hS hc2f rfl) rfl rfl hl.1 rfl (lv_room (Nat.le_of_ble_eq_true rfl)) dX3_cane_44 ⟨(Nat.le_of_ble_eq_true rfl), (Nat.le_of_ble_eq_true rfl)⟩) hS (fun r9 u9 H locs hq hV hS => ?_)
          obtain ⟨rfl, rfl⟩ := hq
          have hV : hv D N0 ad ct H := hV
          refine W.widen (k := 1) (n := 6) (by omega) (by omega) ?_
          refine vx_ret ?_
          exact hv_iret (v := (ctell (cLen σ (y0qn)) ((cTw σ (y0qn))) (cHt σ (y0qn)) (cCr σ (y0qn)) (true) (y1qn))) (u := (ad, ct)) hx hb hr ⟨by simp [k_cane, cq2, h_y1q], by rw [e_y0q, e_y1q]; exact tel_t (by omega) c36, rfl⟩ hV hS dX3_cane_47 hlocks
      · exact hv_throw (text := "no such cane, or what is not 0 to 4") hx hb hfl hown hKs hV hS (by decide +kernel) kx1 ky1 (by decide +kernel) ka1 xg1 (hl.1.trans hml.symm) dX3_cane_19 dX3_cane_22 dX3_cane_23 dX3_cane_25 dX3_cane_28 hnx (Nat.le_of_ble_eq_true rfl) (Nat.le_of_ble_eq_true rfl) (Nat.le_of_ble_eq_true rfl) (Nat.le_of_ble_eq_true rfl) hlocks (by simp [k_cane, inR_0 (Or.inr c16)]) (j := 1) (by decide) rfl (Nat.le_of_ble_eq_true rfl) (Nat.le_of_ble_eq_true rfl)
  · refine lv_astore_nN (lv' := [(3, .null), (0, .ref (ad (0))), (1, .int (y0q)), (2, .int (y1q))]) hx hb dX3_cane_5 rfl hl (by decide) rfl (fun ls hl => ?_)
    refine lv_aload_nN hx hb dX3_cane_6 rfl (lv_at hl 0 rfl) ?_
    refine lv_ifnullN (tgt := 19) hx hb dX3_cane_7 (by decide) ?_
    exact hv_throw (text := "no such cane, or what is not 0 to 4") hx hb hfl hown hKs hV hS (by decide +kernel) kx1 ky1 (by decide +kernel) ka1 xg1 (hl.1.trans hml.symm) dX3_cane_19 dX3_cane_22 dX3_cane_23 dX3_cane_25 dX3_cane_28 hnx (Nat.le_of_ble_eq_true rfl) (Nat.le_of_ble_eq_true rfl) (Nat.le_of_ble_eq_true rfl) (Nat.le_of_ble_eq_true rfl) hlocks (by simp [k_cane, cq2]) (j := 1) (by decide) rfl (Nat.le_of_ble_eq_true rfl) (Nat.le_of_ble_eq_true rfl)

set_option maxHeartbeats 4000000 in
set_option maxRecDepth 100000 in
theorem c_X3_shows (l : Launch) (hfl : l.stackTraces = false) (D : hG) (N0 : Nat) (ad : Nat → Nat) (ct : hC) {σ : gS} (hG : gX D σ ad ct) (hO : okS σ) (y0q y1q y2q y3q : Int32) : vx_Met l yX3_shows wsX3_shows ({ frames := 6, cells := 1, slots := 6, locals := 82 }) (hPc D N0 ad ct [.ref (ad (0)), .int (y0q), .int (y1q), .int (y2q), .int (y3q)]) (va_Qi (fun (z : Int32) (u : hU) => (k_shows σ y0q y1q y2q y3q) = 0 ∧ z = nI (rot (cTw σ y0q.toInt.toNat * nI y1q.toInt.toNat) (cPt σ y0q.toInt.toNat) (8 * y2q.toInt.toNat + y3q.toInt.toNat)) ∧ u = (ad, ct)) (hB D N0) (hA N0)) (hXC D N0 ad ct nmI (k_shows σ y0q y1q y2q y3q)) 1 6 (hA N0) := by
  refine vx_ofW (cc := cX3_shows) (maxL := 6) (ret := (some .int)) (by decide) rfl ?_
  intro p e s m args below meth c s₁ B hml hnx hv0
  obtain ⟨hargs, hKs, hV⟩ := hv0
  have hx := B.exec
  have hb := B.bytes
  have hr := B.returns
  have hts := atoms_spec (ws := wsX3_shows) B.pre
  have hown : s.vm.findClass RX3 = some m.cls := findClass_of_methodNamed B.named
  have hlocks := B.notSynchronized
  have hS : va_S (hA N0) s.heap s.heap [] := va_S.rf
  have hiX0 : ∀ w ∈ u_ws RX0 TX0 5, w ∈ wsX3_shows := by decide +kernel
  have kx1 := hts (.classLink RX3 43 "java/lang/IndexOutOfBoundsException") (by decide +kernel)
  have ky1 := hts (.initialized "java/lang/IndexOutOfBoundsException") (by decide +kernel)
  have ka1 := vx_hat (fun w h => hts w (List.mem_cons_of_mem _ (List.mem_append_right _ h))) xb1 (xB_of hKs (by decide))
  have kn71 := hKs.2.1 (71, "CaneSlices$Cane", "pattern", "LCaneSlices$Pattern;") (by decide +kernel)
  have hl := lv_entry ([.ref (ad (0)), .int (y0q), .int (y1q), .int (y2q), .int (y3q)]) (n := 6) (Nat.le_of_ble_eq_true rfl)
  have hE : entryFrame m args 6 = entryFrame m ([.ref (ad (0)), .int (y0q), .int (y1q), .int (y2q), .int (y3q)] : List Value).toArray 6 := by rw [hargs]
  rw [hE, lg_entry_eq]
  generalize (lg_sl ([.ref (ad (0)), .int (y0q), .int (y1q), .int (y2q), .int (y3q)]) ++ List.replicate (6 - (lg_sl ([.ref (ad (0)), .int (y0q), .int (y1q), .int (y2q), .int (y3q)])).length) Slot.unset).toArray = ls at hl ⊢
  have hl : lv_has ls 6 [(0, .ref (ad (0))), (1, .int (y0q)), (2, .int (y1q)), (3, .int (y2q)), (4, .int (y3q))] := hl
  obtain ⟨hn8, hn60, hn6, -⟩ := id hO
  refine lv_aload_n hx hb dX3_shows_0 rfl (lv_at hl 0 rfl) ?_
  refine lv_iload_n hx hb dX3_shows_1 rfl (lv_at hl 1 rfl) ?_
  refine hv_callq (va_runV (As := [.int (y0q)]) (rest := []) ⟨hx, hb, hml, hown, hts⟩ (c_X3_caneAt l D N0 ad ct hG hO (y0q)) (cwV 1 hts gX3_shows_X3_caneAt rfl rfl rfl (by decide +kernel) ⟨Nat.le_of_ble_eq_true rfl, Nat.le_of_ble_eq_true rfl⟩) (hv_preV (r := (RX3, TX3, 8)) hKs hV hS hG.1 rfl) rfl rfl hl.1 rfl (lv_room (Nat.le_of_ble_eq_true rfl)) dX3_shows_2 ⟨(Nat.le_of_ble_eq_true rfl), (Nat.le_of_ble_eq_true rfl)⟩) hS (fun r9 u9 H locs hq hV hS => ?_)
  obtain ⟨rfl, rfl⟩ := hq
  have hV : hv D N0 ad ct H := hV
  refine hv_ifQ (fun cq2 => ?_) (fun cq2 => ?_)
  · obtain ⟨y0qn, hy0qn, rfl⟩ := inR_of cq2
    have e_y0q : (nI y0qn).toInt.toNat = y0qn := toNat_nI (by omega)
    refine hv_eq (w := .ref (ad (16 * (y0qn) + 3))) (by rw [toNat_nI (by omega)]) ?_
    refine lv_astore (lv' := [(5, .ref (ad (16 * (y0qn) + 3))), (0, .ref (ad (0))), (1, .int (nI (y0qn))), (2, .int (y1q)), (3, .int (y2q)), (4, .int (y3q))]) hx hb dX3_shows_5 hl (by decide) rfl (fun ls hl => ?_)
    refine lv_aload hx hb dX3_shows_7 (lv_at hl 0 rfl) ?_
    refine lv_ifnull hx hb dX3_shows_9 ?_
    refine lv_aload hx hb dX3_shows_12 (lv_at hl 0 rfl) ?_
    refine lv_iload_n hx hb dX3_shows_14 rfl (lv_at hl 3 rfl) ?_
    have hc1 := hG.2.2.2.2.1 (y0qn) (by omega)
    have hc1b : cLen σ (y0qn) ≤ 60 ∧ cHt σ (y0qn) ≤ 10 := ⟨(hO.2.2.2.1 (y0qn) (by omega)).1, (hO.2.2.2.1 (y0qn) (by omega)).2.1⟩
    have hc1f : ct (16 * (y0qn) + 3) = some (eO 0 [.ref (ad (16 * (y0qn) + 4)), .int (nI (cLen σ (y0qn))), .int (cTw σ (y0qn)), .int (nI (cHt σ (y0qn))), .int (hbv (cCr σ (y0qn)))]) := hc1.1
    refine hv_calli (va_runV (As := [.int (y1q)]) (rest := []) ⟨hx, hb, hml, hown, hts⟩ (c_X0_hasPlace l D N0 ad ct hc1f (by omega) ((y1q))) (cwV 1 hts gX3_shows_X0_hasPlace rfl rfl rfl (by decide +kernel) ⟨Nat.le_of_ble_eq_true rfl, Nat.le_of_ble_eq_true rfl⟩) (hv_preV (r := (RX0, TX0, 5)) hKs hV hS hc1f rfl) rfl rfl hl.1 rfl (lv_room (Nat.le_of_ble_eq_true rfl)) dX3_shows_15 ⟨(Nat.le_of_ble_eq_true rfl), (Nat.le_of_ble_eq_true rfl)⟩) hS (fun r9 u9 H locs hq hV hS => ?_)
    obtain ⟨rfl, rfl⟩ := hq
    have hV : hv D N0 ad ct H := hV
    refine hB_if_eq (tgt := 36) hx hb dX3_shows_18 (by decide) (fun c18 => ?_) (fun c18 => ?_)
    · exact hv_throw (text := "no such cane, place, ring or sector") hx hb hfl hown hKs hV hS (by decide +kernel) kx1 ky1 (by decide +kernel) ka1 xg1 (hl.1.trans hml.symm) dX3_shows_36 dX3_shows_39 dX3_shows_40 dX3_shows_42 dX3_shows_45 hnx (Nat.le_of_ble_eq_true rfl) (Nat.le_of_ble_eq_true rfl) (Nat.le_of_ble_eq_true rfl) (Nat.le_of_ble_eq_true rfl) hlocks (by simp [k_shows, cq2, c18, e_y0q]) (j := 1) (by decide) rfl (Nat.le_of_ble_eq_true rfl) (Nat.le_of_ble_eq_true rfl)
    · obtain ⟨y1qn, hy1qn, rfl⟩ := inR_of c18
      have e_y1q : (nI y1qn).toInt.toNat = y1qn := toNat_nI (by omega)
      refine lv_iload_n hx hb dX3_shows_21 rfl (lv_at hl 4 rfl) ?_
      refine hv_calli (va_runS (As := [.int (y2q)]) (rest := []) ⟨hx, hb, hml, hown, hts⟩ (c_X3_isRing l D N0 ad ct ((y2q))) (va_cwS 1 hts gX3_shows_X3_isRing rfl rfl rfl (by decide +kernel) ⟨Nat.le_of_ble_eq_true rfl, Nat.le_of_ble_eq_true rfl⟩) (hv_preS hKs hV hS) rfl rfl hl.1 rfl (lv_room (Nat.le_of_ble_eq_true rfl)) dX3_shows_22 ⟨(Nat.le_of_ble_eq_true rfl), (Nat.le_of_ble_eq_true rfl)⟩) hS (fun r9 u9 H locs hq hV hS => ?_)
      obtain ⟨rfl, rfl⟩ := hq
      have hV : hv D N0 ad ct H := hV
      refine hB_if_eq (tgt := 36) hx hb dX3_shows_25 (by decide) (fun c25 => ?_) (fun c25 => ?_)
      · exact hv_throw (text := "no such cane, place, ring or sector") hx hb hfl hown hKs hV hS (by decide +kernel) kx1 ky1 (by decide +kernel) ka1 xg1 (hl.1.trans hml.symm) dX3_shows_36 dX3_shows_39 dX3_shows_40 dX3_shows_42 dX3_shows_45 hnx (Nat.le_of_ble_eq_true rfl) (Nat.le_of_ble_eq_true rfl) (Nat.le_of_ble_eq_true rfl) (Nat.le_of_ble_eq_true rfl) hlocks (by simp [k_shows, cq2, c18, c25, e_y0q, e_y1q]) (j := 1) (by decide) rfl (Nat.le_of_ble_eq_true rfl) (Nat.le_of_ble_eq_true rfl)
      · obtain ⟨y2qn, hy2qn, rfl⟩ := inR_of c25
        have e_y2q : (nI y2qn).toInt.toNat = y2qn := toNat_nI (by omega)
        refine lv_iload hx hb dX3_shows_28 (lv_at hl 5 rfl) ?_
        refine hv_calli (va_runS (As := [.int (y3q)]) (rest := []) ⟨hx, hb, hml, hown, hts⟩ (c_X3_isSector l D N0 ad ct ((y3q))) (va_cwS 1 hts gX3_shows_X3_isSector rfl rfl rfl (by decide +kernel) ⟨Nat.le_of_ble_eq_true rfl, Nat.le_of_ble_eq_true rfl⟩) (hv_preS hKs hV hS) rfl rfl hl.1 rfl (lv_room (Nat.le_of_ble_eq_true rfl)) dX3_shows_30 ⟨(Nat.le_of_ble_eq_true rfl), (Nat.le_of_ble_eq_true rfl)⟩) hS (fun r9 u9 H locs hq hV hS => ?_)
        obtain ⟨rfl, rfl⟩ := hq
        have hV : hv D N0 ad ct H := hV
        refine hB_if_ne (tgt := 46) hx hb dX3_shows_33 (by decide) (fun c33 => ?_) (fun c33 => ?_)
        · obtain ⟨y3qn, hy3qn, rfl⟩ := inR_of c33
          have e_y3q : (nI y3qn).toInt.toNat = y3qn := toNat_nI (by omega)
          refine lv_aload hx hb dX3_shows_46 (lv_at hl 0 rfl) ?_
          refine hv_getN (C := RX0) (T := TX0) (N := 5) hx hb hts hiX0 hown hKs hV hc1f 0 rfl (by decide) kn71 (fun _ h9 => h9) rfl dX3_shows_48 ?_
          refine lv_iload_n hx hb dX3_shows_51 rfl (lv_at hl 4 rfl) ?_
          refine lv_iload hx hb dX3_shows_52 (lv_at hl 5 rfl) ?_
          refine lv_aload hx hb dX3_shows_54 (lv_at hl 0 rfl) ?_
          refine lv_iload_n hx hb dX3_shows_56 rfl (lv_at hl 3 rfl) ?_
          refine hv_calli (va_runV (As := [.int (nI (y1qn))]) (rest := [.int (nI (y3qn)), .int (nI (y2qn)), .ref (ad (16 * (y0qn) + 4))]) ⟨hx, hb, hml, hown, hts⟩ (c_X0_turnAt l D N0 ad ct hc1f (nI (y1qn))) (cwV 1 hts gX3_shows_X0_turnAt rfl rfl rfl (by decide +kernel) ⟨Nat.le_of_ble_eq_true rfl, Nat.le_of_ble_eq_true rfl⟩) (hv_preV (r := (RX0, TX0, 5)) hKs hV hS hc1f rfl) rfl rfl hl.1 rfl (lv_room (Nat.le_of_ble_eq_true rfl)) dX3_shows_57 ⟨(Nat.le_of_ble_eq_true rfl), (Nat.le_of_ble_eq_true rfl)⟩) hS (fun r9 u9 H locs hq hV hS => ?_)
          obtain ⟨rfl, rfl⟩ := hq
          have hV : hv D N0 ad ct H := hV
          refine hv_calli (va_runV (As := [.int (nI (y2qn)), .int (nI (y3qn)), .int (cTw σ (y0qn) * nI (y1qn))]) (rest := []) ⟨hx, hb, hml, hown, hts⟩ (c_X1_colourAt l D N0 ad ct hc1.2 (y2qn) (by omega) (y3qn) (by omega) ((cTw σ (y0qn) * nI (y1qn)))) (cwV 3 hts gX3_shows_X1_colourAt rfl rfl rfl (by decide +kernel) ⟨Nat.le_of_ble_eq_true rfl, Nat.le_of_ble_eq_true rfl⟩) (hv_preV (r := (RX1, TX1, 1)) hKs hV hS hc1.2.1 rfl) rfl rfl hl.1 rfl (lv_room (Nat.le_of_ble_eq_true rfl)) dX3_shows_60 ⟨(Nat.le_of_ble_eq_true rfl), (Nat.le_of_ble_eq_true rfl)⟩) hS (fun r9 u9 H locs hq hV hS => ?_)
          obtain ⟨rfl, rfl⟩ := hq
          have hV : hv D N0 ad ct H := hV
          refine W.widen (k := 1) (n := 6) (by omega) (by omega) ?_
          refine vx_ret ?_
          exact hv_iret (v := nI (cPt σ (y0qn) (8 * (y2qn) + (y3qn + 8 - m8 ((cTw σ (y0qn) * nI (y1qn)))) % 8))) (u := (ad, ct)) hx hb hr ⟨by simp [k_shows, cq2, c18, c25, c33, e_y0q, e_y1q, e_y2q, e_y3q], by rw [e_y0q, e_y1q, e_y2q, e_y3q, rot_at (by omega)], rfl⟩ hV hS dX3_shows_63 hlocks
        · exact hv_throw (text := "no such cane, place, ring or sector") hx hb hfl hown hKs hV hS (by decide +kernel) kx1 ky1 (by decide +kernel) ka1 xg1 (hl.1.trans hml.symm) dX3_shows_36 dX3_shows_39 dX3_shows_40 dX3_shows_42 dX3_shows_45 hnx (Nat.le_of_ble_eq_true rfl) (Nat.le_of_ble_eq_true rfl) (Nat.le_of_ble_eq_true rfl) (Nat.le_of_ble_eq_true rfl) hlocks (by simp [k_shows, cq2, c18, c25, c33, e_y0q, e_y1q, e_y2q]) (j := 1) (by decide) rfl (Nat.le_of_ble_eq_true rfl) (Nat.le_of_ble_eq_true rfl)
  · refine lv_astoreN (lv' := [(5, .null), (0, .ref (ad (0))), (1, .int (y0q)), (2, .int (y1q)), (3, .int (y2q)), (4, .int (y3q))]) hx hb dX3_shows_5 hl (by decide) rfl (fun ls hl => ?_)
    refine lv_aloadN hx hb dX3_shows_7 (lv_at hl 0 rfl) ?_
    refine lv_ifnullN (tgt := 36) hx hb dX3_shows_9 (by decide) ?_
    exact hv_throw (text := "no such cane, place, ring or sector") hx hb hfl hown hKs hV hS (by decide +kernel) kx1 ky1 (by decide +kernel) ka1 xg1 (hl.1.trans hml.symm) dX3_shows_36 dX3_shows_39 dX3_shows_40 dX3_shows_42 dX3_shows_45 hnx (Nat.le_of_ble_eq_true rfl) (Nat.le_of_ble_eq_true rfl) (Nat.le_of_ble_eq_true rfl) (Nat.le_of_ble_eq_true rfl) hlocks (by simp [k_shows, cq2]) (j := 1) (by decide) rfl (Nat.le_of_ble_eq_true rfl) (Nat.le_of_ble_eq_true rfl)

set_option maxHeartbeats 4000000 in
set_option maxRecDepth 100000 in
theorem c_X3_turn (l : Launch) (hfl : l.stackTraces = false) (D : hG) (N0 : Nat) (ad : Nat → Nat) (ct : hC) {σ : gS} (hG : gX D σ ad ct) (hO : okS σ) (y0q y1q : Int32) : vx_Met l yX3_turn wsX3_turn ({ frames := 6, cells := 1, slots := 6, locals := 112 }) (hPc D N0 ad ct [.ref (ad (0)), .int (y0q), .int (y1q)]) (va_Qi (fun (z : Int32) (u : hU) => (k_turn σ y0q y1q) = 0 ∧ z = plc 8 (lturn (sPt σ y0q.toInt.toNat) (sPt σ y1q.toInt.toNat)) ∧ u = (ad, ct)) (hB D N0) (hA N0)) (hXC D N0 ad ct nmI (k_turn σ y0q y1q)) 1 6 (hA N0) := by
  refine vx_ofW (cc := cX3_turn) (maxL := 5) (ret := (some .int)) (by decide) rfl ?_
  intro p e s m args below meth c s₁ B hml hnx hv0
  obtain ⟨hargs, hKs, hV⟩ := hv0
  have hx := B.exec
  have hb := B.bytes
  have hr := B.returns
  have hts := atoms_spec (ws := wsX3_turn) B.pre
  have hown : s.vm.findClass RX3 = some m.cls := findClass_of_methodNamed B.named
  have hlocks := B.notSynchronized
  have hS : va_S (hA N0) s.heap s.heap [] := va_S.rf
  have hiX2 : ∀ w ∈ u_ws RX2 TX2 5, w ∈ wsX3_turn := by decide +kernel
  have kn152 := hKs.2.1 (152, "CaneSlices$Slice", "pattern", "LCaneSlices$Pattern;") (by decide +kernel)
  have kx1 := hts (.classLink RX3 43 "java/lang/IndexOutOfBoundsException") (by decide +kernel)
  have ky1 := hts (.initialized "java/lang/IndexOutOfBoundsException") (by decide +kernel)
  have ka1 := vx_hat (fun w h => hts w (List.mem_cons_of_mem _ (List.mem_append_right _ h))) xb1 (xB_of hKs (by decide))
  have hl := lv_entry ([.ref (ad (0)), .int (y0q), .int (y1q)]) (n := 5) (Nat.le_of_ble_eq_true rfl)
  have hE : entryFrame m args 5 = entryFrame m ([.ref (ad (0)), .int (y0q), .int (y1q)] : List Value).toArray 5 := by rw [hargs]
  rw [hE, lg_entry_eq]
  generalize (lg_sl ([.ref (ad (0)), .int (y0q), .int (y1q)]) ++ List.replicate (5 - (lg_sl ([.ref (ad (0)), .int (y0q), .int (y1q)])).length) Slot.unset).toArray = ls at hl ⊢
  have hl : lv_has ls 5 [(0, .ref (ad (0))), (1, .int (y0q)), (2, .int (y1q))] := hl
  obtain ⟨hn8, hn60, hn6, -⟩ := id hO
  refine lv_aload_n hx hb dX3_turn_0 rfl (lv_at hl 0 rfl) ?_
  refine lv_iload_n hx hb dX3_turn_1 rfl (lv_at hl 1 rfl) ?_
  refine hv_callq (va_runV (As := [.int (y0q)]) (rest := []) ⟨hx, hb, hml, hown, hts⟩ (c_X3_sliceAt l D N0 ad ct hG hO (y0q)) (cwV 1 hts gX3_turn_X3_sliceAt rfl rfl rfl (by decide +kernel) ⟨Nat.le_of_ble_eq_true rfl, Nat.le_of_ble_eq_true rfl⟩) (hv_preV (r := (RX3, TX3, 8)) hKs hV hS hG.1 rfl) rfl rfl hl.1 rfl (lv_room (Nat.le_of_ble_eq_true rfl)) dX3_turn_2 ⟨(Nat.le_of_ble_eq_true rfl), (Nat.le_of_ble_eq_true rfl)⟩) hS (fun r9 u9 H locs hq hV hS => ?_)
  obtain ⟨rfl, rfl⟩ := hq
  have hV : hv D N0 ad ct H := hV
  refine hv_ifQ (fun cq2 => ?_) (fun cq2 => ?_)
  · obtain ⟨y0qn, hy0qn, rfl⟩ := inR_of cq2
    have e_y0q : (nI y0qn).toInt.toNat = y0qn := toNat_nI (by omega)
    refine hv_eq (w := .ref (ad (16 * (y0qn) + 6))) (by rw [toNat_nI (by omega)]) ?_
    refine lv_astore_n (lv' := [(3, .ref (ad (16 * (y0qn) + 6))), (0, .ref (ad (0))), (1, .int (nI (y0qn))), (2, .int (y1q))]) hx hb dX3_turn_5 rfl hl (by decide) rfl (fun ls hl => ?_)
    refine lv_aload_n hx hb dX3_turn_6 rfl (lv_at hl 1 rfl) ?_
    refine lv_iload_n hx hb dX3_turn_7 rfl (lv_at hl 3 rfl) ?_
    refine hv_callq (va_runV (As := [.int (y1q)]) (rest := []) ⟨hx, hb, hml, hown, hts⟩ (c_X3_sliceAt l D N0 ad ct hG hO (y1q)) (cwV 1 hts gX3_turn_X3_sliceAt rfl rfl rfl (by decide +kernel) ⟨Nat.le_of_ble_eq_true rfl, Nat.le_of_ble_eq_true rfl⟩) (hv_preV (r := (RX3, TX3, 8)) hKs hV hS hG.1 rfl) rfl rfl hl.1 rfl (lv_room (Nat.le_of_ble_eq_true rfl)) dX3_turn_8 ⟨(Nat.le_of_ble_eq_true rfl), (Nat.le_of_ble_eq_true rfl)⟩) hS (fun r9 u9 H locs hq hV hS => ?_)
    obtain ⟨rfl, rfl⟩ := hq
    have hV : hv D N0 ad ct H := hV
    refine hv_ifQ (fun cq8 => ?_) (fun cq8 => ?_)
    · obtain ⟨y1qn, hy1qn, rfl⟩ := inR_of cq8
      have e_y1q : (nI y1qn).toInt.toNat = y1qn := toNat_nI (by omega)
      refine hv_eq (w := .ref (ad (16 * (y1qn) + 6))) (by rw [toNat_nI (by omega)]) ?_
      refine lv_astore (lv' := [(4, .ref (ad (16 * (y1qn) + 6))), (3, .ref (ad (16 * (y0qn) + 6))), (0, .ref (ad (0))), (1, .int (nI (y0qn))), (2, .int (nI (y1qn)))]) hx hb dX3_turn_11 hl (by decide) rfl (fun ls hl => ?_)
      refine lv_aload_n hx hb dX3_turn_13 rfl (lv_at hl 1 rfl) ?_
      refine lv_ifnull hx hb dX3_turn_14 ?_
      refine lv_aload hx hb dX3_turn_17 (lv_at hl 0 rfl) ?_
      refine lv_ifnonnull (tgt := 32) hx hb dX3_turn_19 (by decide) ?_
      refine lv_aload_n hx hb dX3_turn_32 rfl (lv_at hl 1 rfl) ?_
      have hd1 := hG.2.2.2.2.2 (y0qn) (by omega)
      have hd1f : ct (16 * (y0qn) + 6) = some (eO 2 [.int (nI (y0qn)), .ref (ad (16 * (y0qn) + 7)), .int (nI (sKd σ (y0qn))), .int (eyv (sEy σ (y0qn))), .int (nI (trn σ (y0qn)))]) := hd1.1
      refine hv_getN (C := RX2) (T := TX2) (N := 5) hx hb hts hiX2 hown hKs hV hd1f 1 rfl (by decide) kn152 (fun _ h9 => h9) rfl dX3_turn_33 ?_
      refine lv_aload hx hb dX3_turn_36 (lv_at hl 0 rfl) ?_
      have hd2 := hG.2.2.2.2.2 (y1qn) (by omega)
      have hd2f : ct (16 * (y1qn) + 6) = some (eO 2 [.int (nI (y1qn)), .ref (ad (16 * (y1qn) + 7)), .int (nI (sKd σ (y1qn))), .int (eyv (sEy σ (y1qn))), .int (nI (trn σ (y1qn)))]) := hd2.1
      refine hv_getN (C := RX2) (T := TX2) (N := 5) hx hb hts hiX2 hown hKs hV hd2f 1 rfl (by decide) kn152 (fun _ h9 => h9) rfl dX3_turn_38 ?_
      refine hv_calli (va_runV (As := [.ref (ad (16 * (y1qn) + 7))]) (rest := []) ⟨hx, hb, hml, hown, hts⟩ (c_X1_leastTurnTo l D N0 ad ct hd1.2 hd2.2) (cwV 1 hts gX3_turn_X1_leastTurnTo rfl rfl rfl (by decide +kernel) ⟨Nat.le_of_ble_eq_true rfl, Nat.le_of_ble_eq_true rfl⟩) (hv_preV (r := (RX1, TX1, 1)) hKs hV hS hd1.2.1 rfl) rfl rfl hl.1 rfl (lv_room (Nat.le_of_ble_eq_true rfl)) dX3_turn_41 ⟨(Nat.le_of_ble_eq_true rfl), (Nat.le_of_ble_eq_true rfl)⟩) hS (fun r9 u9 H locs hq hV hS => ?_)
      obtain ⟨rfl, rfl⟩ := hq
      have hV : hv D N0 ad ct H := hV
      refine W.widen (k := 1) (n := 6) (by omega) (by omega) ?_
      refine vx_ret ?_
      exact hv_iret (v := (plc 8 (lturn (sPt σ (y0qn)) (sPt σ (y1qn))))) (u := (ad, ct)) hx hb hr ⟨by simp [k_turn, cq2, cq8, e_y0q, e_y1q], by rw [e_y0q, e_y1q], rfl⟩ hV hS dX3_turn_44 hlocks
    · refine lv_astoreN (lv' := [(4, .null), (3, .ref (ad (16 * (y0qn) + 6))), (0, .ref (ad (0))), (1, .int (nI (y0qn))), (2, .int (y1q))]) hx hb dX3_turn_11 hl (by decide) rfl (fun ls hl => ?_)
      refine lv_aload_n hx hb dX3_turn_13 rfl (lv_at hl 1 rfl) ?_
      refine lv_ifnull hx hb dX3_turn_14 ?_
      refine lv_aloadN hx hb dX3_turn_17 (lv_at hl 0 rfl) ?_
      refine lv_ifnonnullN hx hb dX3_turn_19 ?_
      exact hv_throw (text := "no such slice") hx hb hfl hown hKs hV hS (by decide +kernel) kx1 ky1 (by decide +kernel) ka1 xg1 (hl.1.trans hml.symm) dX3_turn_22 dX3_turn_25 dX3_turn_26 dX3_turn_28 dX3_turn_31 hnx (Nat.le_of_ble_eq_true rfl) (Nat.le_of_ble_eq_true rfl) (Nat.le_of_ble_eq_true rfl) (Nat.le_of_ble_eq_true rfl) hlocks (by simp [k_turn, cq2, cq8, e_y0q]) (j := 1) (by decide) rfl (Nat.le_of_ble_eq_true rfl) (Nat.le_of_ble_eq_true rfl)
  · refine lv_astore_nN (lv' := [(3, .null), (0, .ref (ad (0))), (1, .int (y0q)), (2, .int (y1q))]) hx hb dX3_turn_5 rfl hl (by decide) rfl (fun ls hl => ?_)
    refine lv_aload_n hx hb dX3_turn_6 rfl (lv_at hl 1 rfl) ?_
    refine lv_iload_n hx hb dX3_turn_7 rfl (lv_at hl 3 rfl) ?_
    refine hv_callq (va_runV (As := [.int (y1q)]) (rest := []) ⟨hx, hb, hml, hown, hts⟩ (c_X3_sliceAt l D N0 ad ct hG hO (y1q)) (cwV 1 hts gX3_turn_X3_sliceAt rfl rfl rfl (by decide +kernel) ⟨Nat.le_of_ble_eq_true rfl, Nat.le_of_ble_eq_true rfl⟩) (hv_preV (r := (RX3, TX3, 8)) hKs hV hS hG.1 rfl) rfl rfl hl.1 rfl (lv_room (Nat.le_of_ble_eq_true rfl)) dX3_turn_8 ⟨(Nat.le_of_ble_eq_true rfl), (Nat.le_of_ble_eq_true rfl)⟩) hS (fun r9 u9 H locs hq hV hS => ?_)
    obtain ⟨rfl, rfl⟩ := hq
    have hV : hv D N0 ad ct H := hV
    refine hv_ifQ (fun cq8 => ?_) (fun cq8 => ?_)
    · obtain ⟨y1qn, hy1qn, rfl⟩ := inR_of cq8
      have e_y1q : (nI y1qn).toInt.toNat = y1qn := toNat_nI (by omega)
      refine hv_eq (w := .ref (ad (16 * (y1qn) + 6))) (by rw [toNat_nI (by omega)]) ?_
      refine lv_astore (lv' := [(4, .ref (ad (16 * (y1qn) + 6))), (3, .null), (0, .ref (ad (0))), (1, .int (y0q)), (2, .int (nI (y1qn)))]) hx hb dX3_turn_11 hl (by decide) rfl (fun ls hl => ?_)
      refine lv_aload_nN hx hb dX3_turn_13 rfl (lv_at hl 1 rfl) ?_
      refine lv_ifnullN (tgt := 22) hx hb dX3_turn_14 (by decide) ?_
      exact hv_throw (text := "no such slice") hx hb hfl hown hKs hV hS (by decide +kernel) kx1 ky1 (by decide +kernel) ka1 xg1 (hl.1.trans hml.symm) dX3_turn_22 dX3_turn_25 dX3_turn_26 dX3_turn_28 dX3_turn_31 hnx (Nat.le_of_ble_eq_true rfl) (Nat.le_of_ble_eq_true rfl) (Nat.le_of_ble_eq_true rfl) (Nat.le_of_ble_eq_true rfl) hlocks (by simp [k_turn, cq2, cq8, e_y1q]) (j := 1) (by decide) rfl (Nat.le_of_ble_eq_true rfl) (Nat.le_of_ble_eq_true rfl)
    · refine lv_astoreN (lv' := [(4, .null), (3, .null), (0, .ref (ad (0))), (1, .int (y0q)), (2, .int (y1q))]) hx hb dX3_turn_11 hl (by decide) rfl (fun ls hl => ?_)
      refine lv_aload_nN hx hb dX3_turn_13 rfl (lv_at hl 1 rfl) ?_
      refine lv_ifnullN (tgt := 22) hx hb dX3_turn_14 (by decide) ?_
      exact hv_throw (text := "no such slice") hx hb hfl hown hKs hV hS (by decide +kernel) kx1 ky1 (by decide +kernel) ka1 xg1 (hl.1.trans hml.symm) dX3_turn_22 dX3_turn_25 dX3_turn_26 dX3_turn_28 dX3_turn_31 hnx (Nat.le_of_ble_eq_true rfl) (Nat.le_of_ble_eq_true rfl) (Nat.le_of_ble_eq_true rfl) (Nat.le_of_ble_eq_true rfl) hlocks (by simp [k_turn, cq2, cq8]) (j := 1) (by decide) rfl (Nat.le_of_ble_eq_true rfl) (Nat.le_of_ble_eq_true rfl)

set_option maxHeartbeats 4000000 in
set_option maxRecDepth 100000 in
theorem c_X3_seen (l : Launch) (hfl : l.stackTraces = false) (D : hG) (N0 : Nat) (ad : Nat → Nat) (ct : hC) {σ : gS} (hG : gX D σ ad ct) (hO : okS σ) (y0q y1q y2q y3q : Int32) : vx_Met l yX3_seen wsX3_seen ({ frames := 6, cells := 1, slots := 6, locals := 82 }) (hPc D N0 ad ct [.ref (ad (0)), .int (y0q), .int (y1q), .int (y2q), .int (y3q)]) (va_Qi (fun (z : Int32) (u : hU) => (k_seen σ y0q y1q y2q y3q) = 0 ∧ z = r_seen σ (4 * y0q.toInt.toNat + y1q.toInt.toNat) (8 * y2q.toInt.toNat + y3q.toInt.toNat) ∧ u = (ad, ct)) (hB D N0) (hA N0)) (hXC D N0 ad ct nmI (k_seen σ y0q y1q y2q y3q)) 1 6 (hA N0) := by
  refine vx_ofW (cc := cX3_seen) (maxL := 6) (ret := (some .int)) (by decide) rfl ?_
  intro p e s m args below meth c s₁ B hml hnx hv0
  obtain ⟨hargs, hKs, hV⟩ := hv0
  have hx := B.exec
  have hb := B.bytes
  have hr := B.returns
  have hts := atoms_spec (ws := wsX3_seen) B.pre
  have hown : s.vm.findClass RX3 = some m.cls := findClass_of_methodNamed B.named
  have hlocks := B.notSynchronized
  have hS : va_S (hA N0) s.heap s.heap [] := va_S.rf
  have hiX2 : ∀ w ∈ u_ws RX2 TX2 5, w ∈ wsX3_seen := by decide +kernel
  have hiX3 : ∀ w ∈ u_ws RX3 TX3 8, w ∈ wsX3_seen := by decide +kernel
  have kx1 := hts (.classLink RX3 43 "java/lang/IndexOutOfBoundsException") (by decide +kernel)
  have ky1 := hts (.initialized "java/lang/IndexOutOfBoundsException") (by decide +kernel)
  have ka1 := vx_hat (fun w h => hts w (List.mem_cons_of_mem _ (List.mem_append_right _ h))) xb1 (xB_of hKs (by decide))
  have lk21 := hts (.fieldLink RX3 21 "CaneSlices" "eyes" "[LCaneSlices$Slice;") (by decide +kernel)
  have kn152 := hKs.2.1 (152, "CaneSlices$Slice", "pattern", "LCaneSlices$Pattern;") (by decide +kernel)
  have kn198 := hKs.2.1 (198, "CaneSlices$Slice", "turn", "I") (by decide +kernel)
  have hl := lv_entry ([.ref (ad (0)), .int (y0q), .int (y1q), .int (y2q), .int (y3q)]) (n := 6) (Nat.le_of_ble_eq_true rfl)
  have hE : entryFrame m args 6 = entryFrame m ([.ref (ad (0)), .int (y0q), .int (y1q), .int (y2q), .int (y3q)] : List Value).toArray 6 := by rw [hargs]
  rw [hE, lg_entry_eq]
  generalize (lg_sl ([.ref (ad (0)), .int (y0q), .int (y1q), .int (y2q), .int (y3q)]) ++ List.replicate (6 - (lg_sl ([.ref (ad (0)), .int (y0q), .int (y1q), .int (y2q), .int (y3q)])).length) Slot.unset).toArray = ls at hl ⊢
  have hl : lv_has ls 6 [(0, .ref (ad (0))), (1, .int (y0q)), (2, .int (y1q)), (3, .int (y2q)), (4, .int (y3q))] := hl
  obtain ⟨hn8, hn60, hn6, -⟩ := id hO
  refine lv_aload_n hx hb dX3_seen_0 rfl (lv_at hl 0 rfl) ?_
  refine lv_iload_n hx hb dX3_seen_1 rfl (lv_at hl 1 rfl) ?_
  refine hv_calli (va_runV (As := [.int (y0q)]) (rest := []) ⟨hx, hb, hml, hown, hts⟩ (c_X3_isBead l D N0 ad ct hG hO ((y0q))) (cwV 1 hts gX3_seen_X3_isBead rfl rfl rfl (by decide +kernel) ⟨Nat.le_of_ble_eq_true rfl, Nat.le_of_ble_eq_true rfl⟩) (hv_preV (r := (RX3, TX3, 8)) hKs hV hS hG.1 rfl) rfl rfl hl.1 rfl (lv_room (Nat.le_of_ble_eq_true rfl)) dX3_seen_2 ⟨(Nat.le_of_ble_eq_true rfl), (Nat.le_of_ble_eq_true rfl)⟩) hS (fun r9 u9 H locs hq hV hS => ?_)
  obtain ⟨rfl, rfl⟩ := hq
  have hV : hv D N0 ad ct H := hV
  refine hB_if_eq (tgt := 30) hx hb dX3_seen_5 (by decide) (fun c5 => ?_) (fun c5 => ?_)
  · exact hv_throw (text := "no such bead, eye, ring or sector") hx hb hfl hown hKs hV hS (by decide +kernel) kx1 ky1 (by decide +kernel) ka1 xg1 (hl.1.trans hml.symm) dX3_seen_30 dX3_seen_33 dX3_seen_34 dX3_seen_36 dX3_seen_39 hnx (Nat.le_of_ble_eq_true rfl) (Nat.le_of_ble_eq_true rfl) (Nat.le_of_ble_eq_true rfl) (Nat.le_of_ble_eq_true rfl) hlocks (by simp [k_seen, c5]) (j := 1) (by decide) rfl (Nat.le_of_ble_eq_true rfl) (Nat.le_of_ble_eq_true rfl)
  · obtain ⟨y0qn, hy0qn, rfl⟩ := inR_of c5
    have e_y0q : (nI y0qn).toInt.toNat = y0qn := toNat_nI (by omega)
    refine lv_iload_n hx hb dX3_seen_8 rfl (lv_at hl 2 rfl) ?_
    refine hv_calli (va_runS (As := [.int (y1q)]) (rest := []) ⟨hx, hb, hml, hown, hts⟩ (c_X3_isEye l D N0 ad ct ((y1q))) (va_cwS 1 hts gX3_seen_X3_isEye rfl rfl rfl (by decide +kernel) ⟨Nat.le_of_ble_eq_true rfl, Nat.le_of_ble_eq_true rfl⟩) (hv_preS hKs hV hS) rfl rfl hl.1 rfl (lv_room (Nat.le_of_ble_eq_true rfl)) dX3_seen_9 ⟨(Nat.le_of_ble_eq_true rfl), (Nat.le_of_ble_eq_true rfl)⟩) hS (fun r9 u9 H locs hq hV hS => ?_)
    obtain ⟨rfl, rfl⟩ := hq
    have hV : hv D N0 ad ct H := hV
    refine hB_if_eq (tgt := 30) hx hb dX3_seen_12 (by decide) (fun c12 => ?_) (fun c12 => ?_)
    · exact hv_throw (text := "no such bead, eye, ring or sector") hx hb hfl hown hKs hV hS (by decide +kernel) kx1 ky1 (by decide +kernel) ka1 xg1 (hl.1.trans hml.symm) dX3_seen_30 dX3_seen_33 dX3_seen_34 dX3_seen_36 dX3_seen_39 hnx (Nat.le_of_ble_eq_true rfl) (Nat.le_of_ble_eq_true rfl) (Nat.le_of_ble_eq_true rfl) (Nat.le_of_ble_eq_true rfl) hlocks (by simp [k_seen, c5, c12, e_y0q]) (j := 1) (by decide) rfl (Nat.le_of_ble_eq_true rfl) (Nat.le_of_ble_eq_true rfl)
    · obtain ⟨y1qn, hy1qn, rfl⟩ := inR_of c12
      have e_y1q : (nI y1qn).toInt.toNat = y1qn := toNat_nI (by omega)
      refine lv_iload_n hx hb dX3_seen_15 rfl (lv_at hl 3 rfl) ?_
      refine hv_calli (va_runS (As := [.int (y2q)]) (rest := []) ⟨hx, hb, hml, hown, hts⟩ (c_X3_isRing l D N0 ad ct ((y2q))) (va_cwS 1 hts gX3_seen_X3_isRing rfl rfl rfl (by decide +kernel) ⟨Nat.le_of_ble_eq_true rfl, Nat.le_of_ble_eq_true rfl⟩) (hv_preS hKs hV hS) rfl rfl hl.1 rfl (lv_room (Nat.le_of_ble_eq_true rfl)) dX3_seen_16 ⟨(Nat.le_of_ble_eq_true rfl), (Nat.le_of_ble_eq_true rfl)⟩) hS (fun r9 u9 H locs hq hV hS => ?_)
      obtain ⟨rfl, rfl⟩ := hq
      have hV : hv D N0 ad ct H := hV
      refine hB_if_eq (tgt := 30) hx hb dX3_seen_19 (by decide) (fun c19 => ?_) (fun c19 => ?_)
      · exact hv_throw (text := "no such bead, eye, ring or sector") hx hb hfl hown hKs hV hS (by decide +kernel) kx1 ky1 (by decide +kernel) ka1 xg1 (hl.1.trans hml.symm) dX3_seen_30 dX3_seen_33 dX3_seen_34 dX3_seen_36 dX3_seen_39 hnx (Nat.le_of_ble_eq_true rfl) (Nat.le_of_ble_eq_true rfl) (Nat.le_of_ble_eq_true rfl) (Nat.le_of_ble_eq_true rfl) hlocks (by simp [k_seen, c5, c12, c19, e_y0q, e_y1q]) (j := 1) (by decide) rfl (Nat.le_of_ble_eq_true rfl) (Nat.le_of_ble_eq_true rfl)
      · obtain ⟨y2qn, hy2qn, rfl⟩ := inR_of c19
        have e_y2q : (nI y2qn).toInt.toNat = y2qn := toNat_nI (by omega)
        refine lv_iload hx hb dX3_seen_22 (lv_at hl 4 rfl) ?_
        refine hv_calli (va_runS (As := [.int (y3q)]) (rest := []) ⟨hx, hb, hml, hown, hts⟩ (c_X3_isSector l D N0 ad ct ((y3q))) (va_cwS 1 hts gX3_seen_X3_isSector rfl rfl rfl (by decide +kernel) ⟨Nat.le_of_ble_eq_true rfl, Nat.le_of_ble_eq_true rfl⟩) (hv_preS hKs hV hS) rfl rfl hl.1 rfl (lv_room (Nat.le_of_ble_eq_true rfl)) dX3_seen_24 ⟨(Nat.le_of_ble_eq_true rfl), (Nat.le_of_ble_eq_true rfl)⟩) hS (fun r9 u9 H locs hq hV hS => ?_)
        obtain ⟨rfl, rfl⟩ := hq
        have hV : hv D N0 ad ct H := hV
        refine hB_if_ne (tgt := 40) hx hb dX3_seen_27 (by decide) (fun c27 => ?_) (fun c27 => ?_)
        · obtain ⟨y3qn, hy3qn, rfl⟩ := inR_of c27
          have e_y3q : (nI y3qn).toInt.toNat = y3qn := toNat_nI (by omega)
          refine lv_aload_n hx hb dX3_seen_40 rfl (lv_at hl 0 rfl) ?_
          refine hv_get (C := RX3) (T := TX3) (N := 8) hx hb hts hiX3 hown hKs hV hG.1 2 rfl (by decide) lk21 (fun _ h9 => h9) rfl dX3_seen_41 ?_
          refine lv_iconst (v := nI 4) hx hb dX3_seen_44 (by decide) ?_
          refine lv_iload_n hx hb dX3_seen_45 rfl (lv_at hl 1 rfl) ?_
          refine hN_imul hx hb dX3_seen_46 ?_
          refine lv_iload_n hx hb dX3_seen_47 rfl (lv_at hl 2 rfl) ?_
          refine hN_iadd hx hb dX3_seen_48 ?_
          refine hv_aald hx hb hKs hV 2 hG.2.2.2.1 rfl (by omega) (by decide) dX3_seen_49 ?_
          rcases hq49 : gEy σ ((4) * (y0qn) + y1qn) with _ | ⟨s49, t49⟩
          · refine hv_eq (w := .null) rfl ?_
            refine lv_astoreN (lv' := [(5, .null), (0, .ref (ad (0))), (1, .int (nI (y0qn))), (2, .int (nI (y1qn))), (3, .int (nI (y2qn))), (4, .int (nI (y3qn)))]) hx hb dX3_seen_50 hl (by decide) rfl (fun ls hl => ?_)
            refine lv_aloadN hx hb dX3_seen_52 (lv_at hl 0 rfl) ?_
            refine lv_ifnonnullN hx hb dX3_seen_54 ?_
            refine lv_iconst (v := (-1)) hx hb dX3_seen_57 (by decide) ?_
            refine lv_goto (tgt := 77) hx hb dX3_seen_58 (by decide) ?_
            refine W.widen (k := 1) (n := 6) (by omega) (by omega) ?_
            refine vx_ret ?_
            exact hv_iret (v := ((-1))) (u := (ad, ct)) hx hb hr ⟨by simp [k_seen, c5, c12, c19, c27], by rw [e_y0q, e_y1q, e_y2q, e_y3q]; unfold r_seen; rw [hq49], rfl⟩ hV hS dX3_seen_77 hlocks
          · obtain ⟨he49, hs49, ht49, hy49⟩ := hO.2.2.2.2.2.1 _ _ _ hq49
            refine hv_eq (w := .ref (ad (16 * (s49) + 6))) rfl ?_
            refine lv_astore (lv' := [(5, .ref (ad (16 * (s49) + 6))), (0, .ref (ad (0))), (1, .int (nI (y0qn))), (2, .int (nI (y1qn))), (3, .int (nI (y2qn))), (4, .int (nI (y3qn)))]) hx hb dX3_seen_50 hl (by decide) rfl (fun ls hl => ?_)
            refine lv_aload hx hb dX3_seen_52 (lv_at hl 0 rfl) ?_
            refine lv_ifnonnull (tgt := 61) hx hb dX3_seen_54 (by decide) ?_
            refine lv_aload hx hb dX3_seen_61 (lv_at hl 0 rfl) ?_
            have hd1 := hG.2.2.2.2.2 (s49) (by omega)
            have hd1f : ct (16 * (s49) + 6) = some (eO 2 [.int (nI (s49)), .ref (ad (16 * (s49) + 7)), .int (nI (sKd σ (s49))), .int (eyv (sEy σ (s49))), .int (nI (trn σ (s49)))]) := hd1.1
            refine hv_getN (C := RX2) (T := TX2) (N := 5) hx hb hts hiX2 hown hKs hV hd1f 1 rfl (by decide) kn152 (fun _ h9 => h9) rfl dX3_seen_63 ?_
            refine lv_iload_n hx hb dX3_seen_66 rfl (lv_at hl 4 rfl) ?_
            refine lv_iload hx hb dX3_seen_67 (lv_at hl 5 rfl) ?_
            refine lv_aload hx hb dX3_seen_69 (lv_at hl 0 rfl) ?_
            refine hv_getN (C := RX2) (T := TX2) (N := 5) hx hb hts hiX2 hown hKs hV hd1f 4 rfl (by decide) kn198 (fun _ h9 => h9) rfl dX3_seen_71 ?_
            refine hv_calli (va_runV (As := [.int (nI (y2qn)), .int (nI (y3qn)), .int (nI (trn σ (s49)))]) (rest := []) ⟨hx, hb, hml, hown, hts⟩ (c_X1_colourAt l D N0 ad ct hd1.2 (y2qn) (by omega) (y3qn) (by omega) (nI (trn σ (s49)))) (cwV 3 hts gX3_seen_X1_colourAt rfl rfl rfl (by decide +kernel) ⟨Nat.le_of_ble_eq_true rfl, Nat.le_of_ble_eq_true rfl⟩) (hv_preV (r := (RX1, TX1, 1)) hKs hV hS hd1.2.1 rfl) rfl rfl hl.1 rfl (lv_room (Nat.le_of_ble_eq_true rfl)) dX3_seen_74 ⟨(Nat.le_of_ble_eq_true rfl), (Nat.le_of_ble_eq_true rfl)⟩) hS (fun r9 u9 H locs hq hV hS => ?_)
            obtain ⟨rfl, rfl⟩ := hq
            have hV : hv D N0 ad ct H := hV
            refine W.widen (k := 1) (n := 6) (by omega) (by omega) ?_
            refine vx_ret ?_
            exact hv_iret (v := nI (sPt σ (s49) (8 * (y2qn) + (y3qn + 8 - m8 (nI (trn σ (s49)))) % 8))) (u := (ad, ct)) hx hb hr ⟨by simp [k_seen, c5, c12, c19, c27], by rw [e_y0q, e_y1q, e_y2q, e_y3q]; unfold r_seen; rw [hq49]; show _ = nI (rot _ _ _); rw [rot_at (by omega), trn_of hO hq49], rfl⟩ hV hS dX3_seen_77 hlocks
        · exact hv_throw (text := "no such bead, eye, ring or sector") hx hb hfl hown hKs hV hS (by decide +kernel) kx1 ky1 (by decide +kernel) ka1 xg1 (hl.1.trans hml.symm) dX3_seen_30 dX3_seen_33 dX3_seen_34 dX3_seen_36 dX3_seen_39 hnx (Nat.le_of_ble_eq_true rfl) (Nat.le_of_ble_eq_true rfl) (Nat.le_of_ble_eq_true rfl) (Nat.le_of_ble_eq_true rfl) hlocks (by simp [k_seen, c5, c12, c19, c27, e_y0q, e_y1q, e_y2q]) (j := 1) (by decide) rfl (Nat.le_of_ble_eq_true rfl) (Nat.le_of_ble_eq_true rfl)
