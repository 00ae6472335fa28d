set_option maxHeartbeats 4000000 in
set_option maxRecDepth 100000 in
theorem c_X4_where (l : Launch) (D : hG) (N0 : Nat) (ad : Nat → Nat) (ct : hC) {σ : gS} {th : Nat} (hM : gM D σ th ad ct) (hO : okS σ) (y0q : Int32) : Met l yX4_where wsX4_where ({ frames := 2, cells := 0, slots := 0, locals := 43 }) (hPc D N0 ad ct [.ref (ad (80)), .int (y0q)]) (va_Qi (fun (z : Int32) (u : hU) => ((k_where σ y0q) = 0 → z = eyv (sEy σ y0q.toInt.toNat)) ∧ gM D σ (k_where σ y0q) u.1 u.2 ∧ hFm ad ct u) (hB D N0) (hA N0)) 0 0 (hA N0) := by
  refine Met.ofW (cc := cX4_where) (maxL := 2) (ret := (some .int)) (by decide) rfl ?_
  intro p e s m args below meth c s₁ B hml hv0
  obtain ⟨hargs, hKs, hV⟩ := hv0
  have hx := B.exec
  have hb := B.bytes
  have hr := B.returns
  have hts := atoms_spec (ws := wsX4_where) B.pre
  have hown : s.vm.findClass RX4 = some m.cls := findClass_of_methodNamed B.named
  have hlocks := B.notSynchronized
  have hS : va_S (hA N0) s.heap s.heap [] := va_S.rf
  have hiX4 : ∀ w ∈ u_ws RX4 TX4 15, w ∈ wsX4_where := by decide +kernel
  have lk41 := hts (.fieldLink RX4 41 "CaneSlicesModel" "thrown" "I") (by decide +kernel)
  have lk32 := hts (.fieldLink RX4 32 "CaneSlicesModel" "place" "[I") (by decide +kernel)
  have hl := lv_entry ([.ref (ad (80)), .int (y0q)]) (n := 2) (Nat.le_of_ble_eq_true rfl)
  have hE : entryFrame m args 2 = entryFrame m ([.ref (ad (80)), .int (y0q)] : List Value).toArray 2 := by rw [hargs]
  rw [hE, lg_entry_eq]
  generalize (lg_sl ([.ref (ad (80)), .int (y0q)]) ++ List.replicate (2 - (lg_sl ([.ref (ad (80)), .int (y0q)])).length) Slot.unset).toArray = ls at hl ⊢
  have hl : lv_has ls 2 [(0, .ref (ad (80))), (1, .int (y0q))] := hl
  obtain ⟨hn8, hn60, hn6, -⟩ := id hO
  obtain ⟨f1, f2, f3, f4, f5, f6, f7, f8, f9, ⟨hm0, hm1, hm2, hm3, hm4, hm5, hm6, hm7, hm8, hm9⟩, hme⟩ := id hM
  obtain ⟨em1, em2, em3, em4, em5, em6, em7, em8, em9⟩ := id hme
  obtain ⟨ad0, had0⟩ : ∃ z, z = ad := ⟨ad, rfl⟩
  obtain ⟨ct0, hct0⟩ : ∃ z, z = ct := ⟨ct, rfl⟩
  have hfr : ∀ q : Nat, (q ≠ 1 ∧ (q % 16 ≠ 0 ∨ q < 80)) → ct q = ct0 q := fun q _ => by rw [hct0]
  have hfa : ∀ q : Nat, q ≠ 1 → ad q = ad0 q := fun q _ => by rw [had0]
  refine lv_aload_n hx hb dX4_where_0 rfl (lv_at hl 0 rfl) ?_
  refine lv_iconst (v := nI 0) hx hb dX4_where_1 (by decide) ?_
  refine hv_put (ty := .int) (C := RX4) (T := TX4) (N := 15) hx hb hts hiX4 tyX4 tyX4_ok nmX4 hown hKs hV hS hm0 0 rfl (by decide) lk41 (fun _ h9 => h9) (Or.inl (by decide +kernel)) (by decide +kernel) rfl rfl (Nat.le_of_ble_eq_true rfl) dX4_where_2 (fun ct H locs he hne hV hS => ?_)
  have hm1 := (hne (96) (by omega)).trans hm1
  have hm2 := (hne (112) (by omega)).trans hm2
  have hm3 := (hne (128) (by omega)).trans hm3
  have hm4 := (hne (144) (by omega)).trans hm4
  have hm5 := (hne (160) (by omega)).trans hm5
  have hm6 := (hne (176) (by omega)).trans hm6
  have hm7 := (hne (192) (by omega)).trans hm7
  have hm8 := (hne (208) (by omega)).trans hm8
  have hm9 := (hne (224) (by omega)).trans hm9
  have hm0 : ct (80) = some (eO 4 [.int (nI (0)), .int (gMi σ), .int (gFu σ), .int (nI (gNC σ)), .ref (ad (96)), .ref (ad (112)), .ref (ad (128)), .ref (ad (144)), .ref (ad (160)), .int (nI (gNS σ)), .ref (ad (176)), .ref (ad (192)), .int (nI (gNB σ)), .ref (ad (208)), .ref (ad (224))]) := he
  have hfr := fun (q : Nat) (q1 : q ≠ 1 ∧ (q % 16 ≠ 0 ∨ q < 80)) => (hne q (by omega)).trans (hfr q q1)
  refine lv_aload_n hx hb dX4_where_5 rfl (lv_at hl 0 rfl) ?_
  refine lv_iload_n hx hb dX4_where_6 rfl (lv_at hl 1 rfl) ?_
  refine hv_calli (va_runV (As := [.int (y0q)]) (rest := []) ⟨hx, hb, hml, hown, hts⟩ (c_X4_isSlice l D N0 ad ct (show gM D σ _ ad ct from ⟨f1, f2, f3, f4, f5, f6, f7, f8, f9, ⟨hm0, hm1, hm2, hm3, hm4, hm5, hm6, hm7, hm8, hm9⟩, hme⟩) hO ((y0q))) (cwV 1 hts gX4_where_X4_isSlice rfl rfl rfl (by decide +kernel) ⟨Nat.le_of_ble_eq_true rfl, Nat.le_of_ble_eq_true rfl⟩) (hv_preV (r := (RX4, TX4, 15)) hKs hV hS hm0 rfl) rfl rfl hl.1 rfl (lv_room (Nat.le_of_ble_eq_true rfl)) dX4_where_7 ⟨(Nat.le_of_ble_eq_true rfl), (Nat.le_of_ble_eq_true rfl)⟩) hS (fun r9 u9 H locs hq hV hS => ?_)
  obtain ⟨rfl, rfl⟩ := hq
  have hV : hv D N0 ad ct H := hV
  refine hB_if_eq (tgt := 22) hx hb dX4_where_10 (by decide) (fun c10 => ?_) (fun c10 => ?_)
  · refine lv_aload_n hx hb dX4_where_22 rfl (lv_at hl 0 rfl) ?_
    refine lv_iconst (v := nI 1) hx hb dX4_where_23 (by decide) ?_
    refine hv_calli (va_runV (As := [.int (nI (1))]) (rest := []) ⟨hx, hb, hml, hown, hts⟩ (c_X4_no l D N0 ad ct hm0 (1)) (cwV 1 hts gX4_where_X4_no rfl rfl rfl (by decide +kernel) ⟨Nat.le_of_ble_eq_true rfl, Nat.le_of_ble_eq_true rfl⟩) (hv_preV (r := (RX4, TX4, 15)) hKs hV hS hm0 rfl) rfl rfl hl.1 rfl (lv_room (Nat.le_of_ble_eq_true rfl)) dX4_where_24 ⟨(Nat.le_of_ble_eq_true rfl), (Nat.le_of_ble_eq_true rfl)⟩) hS (fun r9 u9 H locs hq hV hS => ?_)
    obtain ⟨ad9, ct⟩ := u9
    dsimp only at hq
    obtain ⟨rfl, ha9, he, hne⟩ := hq
    have ha9 := ha9.symm
    subst ha9
    have hV : hv D N0 ad ct H := hV
    have hm1 := (hne (96) (by omega)).trans hm1
    have hm2 := (hne (112) (by omega)).trans hm2
    have hm3 := (hne (128) (by omega)).trans hm3
    have hm4 := (hne (144) (by omega)).trans hm4
    have hm5 := (hne (160) (by omega)).trans hm5
    have hm6 := (hne (176) (by omega)).trans hm6
    have hm7 := (hne (192) (by omega)).trans hm7
    have hm8 := (hne (208) (by omega)).trans hm8
    have hm9 := (hne (224) (by omega)).trans hm9
    have hm0 : ct (80) = some (eO 4 [.int (nI (1)), .int (gMi σ), .int (gFu σ), .int (nI (gNC σ)), .ref (ad (96)), .ref (ad (112)), .ref (ad (128)), .ref (ad (144)), .ref (ad (160)), .int (nI (gNS σ)), .ref (ad (176)), .ref (ad (192)), .int (nI (gNB σ)), .ref (ad (208)), .ref (ad (224))]) := he
    have hfr := fun (q : Nat) (q1 : q ≠ 1 ∧ (q % 16 ≠ 0 ∨ q < 80)) => (hne q (by omega)).trans (hfr q q1)
    have hkn : (k_where σ y0q) = 1 := by simp [k_where, c10]
    exact hv_iret (v := nI (0)) (u := (ad, ct)) hx hb hr ⟨fun h9 => absurd (hkn.symm.trans h9) (by decide), by rw [hkn]; exact ⟨f1, f2, f3, f4, f5, f6, f7, f8, f9, ⟨hm0, hm1, hm2, hm3, hm4, hm5, hm6, hm7, hm8, hm9⟩, hme⟩, fun q q1 => ⟨(hfa q q1).trans (by rw [had0]), fun q2 => (hfr q ⟨q1, q2⟩).trans (by rw [hct0])⟩⟩ hV hS dX4_where_27 hlocks
  · obtain ⟨y0qn, hy0qn, rfl⟩ := inR_of c10
    have e_y0q : (nI y0qn).toInt.toNat = y0qn := toNat_nI (by omega)
    refine lv_aload_n hx hb dX4_where_13 rfl (lv_at hl 0 rfl) ?_
    refine hv_get (C := RX4) (T := TX4) (N := 15) hx hb hts hiX4 hown hKs hV hm0 11 rfl (by decide) lk32 (fun _ h9 => h9) rfl dX4_where_14 ?_
    refine lv_iload_n hx hb dX4_where_17 rfl (lv_at hl 1 rfl) ?_
    refine hv_iald hx hb hKs hV hm7 (by omega) (by decide) dX4_where_18 ?_
    refine hv_eqi (em7 (y0qn) (by omega)) ?_
    refine lv_goto (tgt := 27) hx hb dX4_where_19 (by decide) ?_
    have hkn : (k_where σ (nI y0qn)) = 0 := by simp [k_where, c10, e_y0q]
    exact hv_iret (v := (eyv (sEy σ (y0qn)))) (u := (ad, ct)) hx hb hr ⟨fun _ => by rw [e_y0q], by rw [hkn]; exact ⟨f1, f2, f3, f4, f5, f6, f7, f8, f9, ⟨hm0, hm1, hm2, hm3, hm4, hm5, hm6, hm7, hm8, hm9⟩, hme⟩, fun q q1 => ⟨(hfa q q1).trans (by rw [had0]), fun q2 => (hfr q ⟨q1, q2⟩).trans (by rw [hct0])⟩⟩ hV hS dX4_where_27 hlocks

set_option maxHeartbeats 4000000 in
set_option maxRecDepth 100000 in
theorem c_X4_colour (l : Launch) (D : hG) (N0 : Nat) (ad : Nat → Nat) (ct : hC) {σ : gS} {th : Nat} (hM : gM D σ th ad ct) (hO : okS σ) (y0q y1q y2q : Int32) : Met l yX4_colour wsX4_colour ({ frames := 2, cells := 0, slots := 0, locals := 43 }) (hPc D N0 ad ct [.ref (ad (80)), .int (y0q), .int (y1q), .int (y2q)]) (va_Qi (fun (z : Int32) (u : hU) => ((k_colour σ y0q y1q y2q) = 0 → z = nI (sPt σ y0q.toInt.toNat (8 * y1q.toInt.toNat + y2q.toInt.toNat))) ∧ gM D σ (k_colour σ y0q y1q y2q) u.1 u.2 ∧ hFm ad ct u) (hB D N0) (hA N0)) 0 0 (hA N0) := by
  refine Met.ofW (cc := cX4_colour) (maxL := 4) (ret := (some .int)) (by decide) rfl ?_
  intro p e s m args below meth c s₁ B hml hv0
  obtain ⟨hargs, hKs, hV⟩ := hv0
  have hx := B.exec
  have hb := B.bytes
  have hr := B.returns
  have hts := atoms_spec (ws := wsX4_colour) B.pre
  have hown : s.vm.findClass RX4 = some m.cls := findClass_of_methodNamed B.named
  have hlocks := B.notSynchronized
  have hS : va_S (hA N0) s.heap s.heap [] := va_S.rf
  have hiX4 : ∀ w ∈ u_ws RX4 TX4 15, w ∈ wsX4_colour := by decide +kernel
  have lk41 := hts (.fieldLink RX4 41 "CaneSlicesModel" "thrown" "I") (by decide +kernel)
  have lk29 := hts (.fieldLink RX4 29 "CaneSlicesModel" "look" "[I") (by decide +kernel)
  have hl := lv_entry ([.ref (ad (80)), .int (y0q), .int (y1q), .int (y2q)]) (n := 4) (Nat.le_of_ble_eq_true rfl)
  have hE : entryFrame m args 4 = entryFrame m ([.ref (ad (80)), .int (y0q), .int (y1q), .int (y2q)] : List Value).toArray 4 := by rw [hargs]
  rw [hE, lg_entry_eq]
  generalize (lg_sl ([.ref (ad (80)), .int (y0q), .int (y1q), .int (y2q)]) ++ List.replicate (4 - (lg_sl ([.ref (ad (80)), .int (y0q), .int (y1q), .int (y2q)])).length) Slot.unset).toArray = ls at hl ⊢
  have hl : lv_has ls 4 [(0, .ref (ad (80))), (1, .int (y0q)), (2, .int (y1q)), (3, .int (y2q))] := hl
  obtain ⟨hn8, hn60, hn6, -⟩ := id hO
  obtain ⟨f1, f2, f3, f4, f5, f6, f7, f8, f9, ⟨hm0, hm1, hm2, hm3, hm4, hm5, hm6, hm7, hm8, hm9⟩, hme⟩ := id hM
  obtain ⟨em1, em2, em3, em4, em5, em6, em7, em8, em9⟩ := id hme
  obtain ⟨ad0, had0⟩ : ∃ z, z = ad := ⟨ad, rfl⟩
  obtain ⟨ct0, hct0⟩ : ∃ z, z = ct := ⟨ct, rfl⟩
  have hfr : ∀ q : Nat, (q ≠ 1 ∧ (q % 16 ≠ 0 ∨ q < 80)) → ct q = ct0 q := fun q _ => by rw [hct0]
  have hfa : ∀ q : Nat, q ≠ 1 → ad q = ad0 q := fun q _ => by rw [had0]
  refine lv_aload_n hx hb dX4_colour_0 rfl (lv_at hl 0 rfl) ?_
  refine lv_iconst (v := nI 0) hx hb dX4_colour_1 (by decide) ?_
  refine hv_put (ty := .int) (C := RX4) (T := TX4) (N := 15) hx hb hts hiX4 tyX4 tyX4_ok nmX4 hown hKs hV hS hm0 0 rfl (by decide) lk41 (fun _ h9 => h9) (Or.inl (by decide +kernel)) (by decide +kernel) rfl rfl (Nat.le_of_ble_eq_true rfl) dX4_colour_2 (fun ct H locs he hne hV hS => ?_)
  have hm1 := (hne (96) (by omega)).trans hm1
  have hm2 := (hne (112) (by omega)).trans hm2
  have hm3 := (hne (128) (by omega)).trans hm3
  have hm4 := (hne (144) (by omega)).trans hm4
  have hm5 := (hne (160) (by omega)).trans hm5
  have hm6 := (hne (176) (by omega)).trans hm6
  have hm7 := (hne (192) (by omega)).trans hm7
  have hm8 := (hne (208) (by omega)).trans hm8
  have hm9 := (hne (224) (by omega)).trans hm9
  have hm0 : ct (80) = some (eO 4 [.int (nI (0)), .int (gMi σ), .int (gFu σ), .int (nI (gNC σ)), .ref (ad (96)), .ref (ad (112)), .ref (ad (128)), .ref (ad (144)), .ref (ad (160)), .int (nI (gNS σ)), .ref (ad (176)), .ref (ad (192)), .int (nI (gNB σ)), .ref (ad (208)), .ref (ad (224))]) := he
  have hfr := fun (q : Nat) (q1 : q ≠ 1 ∧ (q % 16 ≠ 0 ∨ q < 80)) => (hne q (by omega)).trans (hfr q q1)
  refine lv_aload_n hx hb dX4_colour_5 rfl (lv_at hl 0 rfl) ?_
  refine lv_iload_n hx hb dX4_colour_6 rfl (lv_at hl 1 rfl) ?_
  refine hv_calli (va_runV (As := [.int (y0q)]) (rest := []) ⟨hx, hb, hml, hown, hts⟩ (c_X4_isSlice l D N0 ad ct (show gM D σ _ ad ct from ⟨f1, f2, f3, f4, f5, f6, f7, f8, f9, ⟨hm0, hm1, hm2, hm3, hm4, hm5, hm6, hm7, hm8, hm9⟩, hme⟩) hO ((y0q))) (cwV 1 hts gX4_colour_X4_isSlice rfl rfl rfl (by decide +kernel) ⟨Nat.le_of_ble_eq_true rfl, Nat.le_of_ble_eq_true rfl⟩) (hv_preV (r := (RX4, TX4, 15)) hKs hV hS hm0 rfl) rfl rfl hl.1 rfl (lv_room (Nat.le_of_ble_eq_true rfl)) dX4_colour_7 ⟨(Nat.le_of_ble_eq_true rfl), (Nat.le_of_ble_eq_true rfl)⟩) hS (fun r9 u9 H locs hq hV hS => ?_)
  obtain ⟨rfl, rfl⟩ := hq
  have hV : hv D N0 ad ct H := hV
  refine hB_if_eq (tgt := 38) hx hb dX4_colour_10 (by decide) (fun c10 => ?_) (fun c10 => ?_)
  · refine lv_aload_n hx hb dX4_colour_38 rfl (lv_at hl 0 rfl) ?_
    refine lv_iconst (v := nI 1) hx hb dX4_colour_39 (by decide) ?_
    refine hv_calli (va_runV (As := [.int (nI (1))]) (rest := []) ⟨hx, hb, hml, hown, hts⟩ (c_X4_no l D N0 ad ct hm0 (1)) (cwV 1 hts gX4_colour_X4_no rfl rfl rfl (by decide +kernel) ⟨Nat.le_of_ble_eq_true rfl, Nat.le_of_ble_eq_true rfl⟩) (hv_preV (r := (RX4, TX4, 15)) hKs hV hS hm0 rfl) rfl rfl hl.1 rfl (lv_room (Nat.le_of_ble_eq_true rfl)) dX4_colour_40 ⟨(Nat.le_of_ble_eq_true rfl), (Nat.le_of_ble_eq_true rfl)⟩) hS (fun r9 u9 H locs hq hV hS => ?_)
    obtain ⟨ad9, ct⟩ := u9
    dsimp only at hq
    obtain ⟨rfl, ha9, he, hne⟩ := hq
    have ha9 := ha9.symm
    subst ha9
    have hV : hv D N0 ad ct H := hV
    have hm1 := (hne (96) (by omega)).trans hm1
    have hm2 := (hne (112) (by omega)).trans hm2
    have hm3 := (hne (128) (by omega)).trans hm3
    have hm4 := (hne (144) (by omega)).trans hm4
    have hm5 := (hne (160) (by omega)).trans hm5
    have hm6 := (hne (176) (by omega)).trans hm6
    have hm7 := (hne (192) (by omega)).trans hm7
    have hm8 := (hne (208) (by omega)).trans hm8
    have hm9 := (hne (224) (by omega)).trans hm9
    have hm0 : ct (80) = some (eO 4 [.int (nI (1)), .int (gMi σ), .int (gFu σ), .int (nI (gNC σ)), .ref (ad (96)), .ref (ad (112)), .ref (ad (128)), .ref (ad (144)), .ref (ad (160)), .int (nI (gNS σ)), .ref (ad (176)), .ref (ad (192)), .int (nI (gNB σ)), .ref (ad (208)), .ref (ad (224))]) := he
    have hfr := fun (q : Nat) (q1 : q ≠ 1 ∧ (q % 16 ≠ 0 ∨ q < 80)) => (hne q (by omega)).trans (hfr q q1)
    have hkn : (k_colour σ y0q y1q y2q) = 1 := by simp [k_colour, c10]
    exact hv_iret (v := nI (0)) (u := (ad, ct)) hx hb hr ⟨fun h9 => absurd (hkn.symm.trans h9) (by decide), by rw [hkn]; exact ⟨f1, f2, f3, f4, f5, f6, f7, f8, f9, ⟨hm0, hm1, hm2, hm3, hm4, hm5, hm6, hm7, hm8, hm9⟩, hme⟩, fun q q1 => ⟨(hfa q q1).trans (by rw [had0]), fun q2 => (hfr q ⟨q1, q2⟩).trans (by rw [hct0])⟩⟩ hV hS dX4_colour_43 hlocks
  · obtain ⟨y0qn, hy0qn, rfl⟩ := inR_of c10
    have e_y0q : (nI y0qn).toInt.toNat = y0qn := toNat_nI (by omega)
    refine lv_iload_n hx hb dX4_colour_13 rfl (lv_at hl 2 rfl) ?_
    refine lv_iload_n hx hb dX4_colour_14 rfl (lv_at hl 3 rfl) ?_
    refine hv_calli (va_runS (As := [.int (y1q), .int (y2q)]) (rest := []) ⟨hx, hb, hml, hown, hts⟩ (c_X4_isSpot l D N0 ad ct ((y1q)) ((y2q))) (va_cwS 2 hts gX4_colour_X4_isSpot rfl rfl rfl (by decide +kernel) ⟨Nat.le_of_ble_eq_true rfl, Nat.le_of_ble_eq_true rfl⟩) (hv_preS hKs hV hS) rfl rfl hl.1 rfl (lv_room (Nat.le_of_ble_eq_true rfl)) dX4_colour_15 ⟨(Nat.le_of_ble_eq_true rfl), (Nat.le_of_ble_eq_true rfl)⟩) hS (fun r9 u9 H locs hq hV hS => ?_)
    obtain ⟨rfl, rfl⟩ := hq
    have hV : hv D N0 ad ct H := hV
    refine hB_if_eq (tgt := 38) hx hb dX4_colour_18 (by decide) (fun c18 => ?_) (fun c18 => ?_)
    · have c18f := Bool.and_eq_false_iff.mp c18
      refine lv_aload_n hx hb dX4_colour_38 rfl (lv_at hl 0 rfl) ?_
      refine lv_iconst (v := nI 1) hx hb dX4_colour_39 (by decide) ?_
      refine hv_calli (va_runV (As := [.int (nI (1))]) (rest := []) ⟨hx, hb, hml, hown, hts⟩ (c_X4_no l D N0 ad ct hm0 (1)) (cwV 1 hts gX4_colour_X4_no rfl rfl rfl (by decide +kernel) ⟨Nat.le_of_ble_eq_true rfl, Nat.le_of_ble_eq_true rfl⟩) (hv_preV (r := (RX4, TX4, 15)) hKs hV hS hm0 rfl) rfl rfl hl.1 rfl (lv_room (Nat.le_of_ble_eq_true rfl)) dX4_colour_40 ⟨(Nat.le_of_ble_eq_true rfl), (Nat.le_of_ble_eq_true rfl)⟩) hS (fun r9 u9 H locs hq hV hS => ?_)
      obtain ⟨ad9, ct⟩ := u9
      dsimp only at hq
      obtain ⟨rfl, ha9, he, hne⟩ := hq
      have ha9 := ha9.symm
      subst ha9
      have hV : hv D N0 ad ct H := hV
      have hm1 := (hne (96) (by omega)).trans hm1
      have hm2 := (hne (112) (by omega)).trans hm2
      have hm3 := (hne (128) (by omega)).trans hm3
      have hm4 := (hne (144) (by omega)).trans hm4
      have hm5 := (hne (160) (by omega)).trans hm5
      have hm6 := (hne (176) (by omega)).trans hm6
      have hm7 := (hne (192) (by omega)).trans hm7
      have hm8 := (hne (208) (by omega)).trans hm8
      have hm9 := (hne (224) (by omega)).trans hm9
      have hm0 : ct (80) = some (eO 4 [.int (nI (1)), .int (gMi σ), .int (gFu σ), .int (nI (gNC σ)), .ref (ad (96)), .ref (ad (112)), .ref (ad (128)), .ref (ad (144)), .ref (ad (160)), .int (nI (gNS σ)), .ref (ad (176)), .ref (ad (192)), .int (nI (gNB σ)), .ref (ad (208)), .ref (ad (224))]) := he
      have hfr := fun (q : Nat) (q1 : q ≠ 1 ∧ (q % 16 ≠ 0 ∨ q < 80)) => (hne q (by omega)).trans (hfr q q1)
      have hkn : (k_colour σ (nI y0qn) y1q y2q) = 1 := by rcases c18f with h9 | h9 <;> simp [k_colour, h9, c10, e_y0q]
      exact hv_iret (v := nI (0)) (u := (ad, ct)) hx hb hr ⟨fun h9 => absurd (hkn.symm.trans h9) (by decide), by rw [hkn]; exact ⟨f1, f2, f3, f4, f5, f6, f7, f8, f9, ⟨hm0, hm1, hm2, hm3, hm4, hm5, hm6, hm7, hm8, hm9⟩, hme⟩, fun q q1 => ⟨(hfa q q1).trans (by rw [had0]), fun q2 => (hfr q ⟨q1, q2⟩).trans (by rw [hct0])⟩⟩ hV hS dX4_colour_43 hlocks
    · obtain ⟨c18a, c18b⟩ := Bool.and_eq_true_iff.mp c18
      obtain ⟨y1qn, hy1qn, rfl⟩ := inR_of c18a
      have e_y1q : (nI y1qn).toInt.toNat = y1qn := toNat_nI (by omega)
      obtain ⟨y2qn, hy2qn, rfl⟩ := inR_of c18b
      have e_y2q : (nI y2qn).toInt.toNat = y2qn := toNat_nI (by omega)
      refine lv_aload_n hx hb dX4_colour_21 rfl (lv_at hl 0 rfl) ?_
      refine hv_get (C := RX4) (T := TX4) (N := 15) hx hb hts hiX4 hown hKs hV hm0 10 rfl (by decide) lk29 (fun _ h9 => h9) rfl dX4_colour_22 ?_
      refine lv_iconst (v := nI 3) hx hb dX4_colour_25 (by decide) ?_
      refine lv_iload_n hx hb dX4_colour_26 rfl (lv_at hl 1 rfl) ?_
      refine hN_imul hx hb dX4_colour_27 ?_
      refine lv_iload_n hx hb dX4_colour_28 rfl (lv_at hl 2 rfl) ?_
      refine hN_iadd hx hb dX4_colour_29 ?_
      refine hv_iald hx hb hKs hV hm6 (by omega) (by decide) dX4_colour_30 ?_
      refine hv_eqi (em6 (y0qn) (by omega) (y1qn) (by omega)) ?_
      refine lv_iload_n hx hb dX4_colour_31 rfl (lv_at hl 3 rfl) ?_
      refine hv_calli (va_runS (As := [.int (nI (rgP (sPt σ (y0qn)) (y1qn))), .int (nI (y2qn))]) (rest := []) ⟨hx, hb, hml, hown, hts⟩ (c_X4_colourOf l D N0 ad ct (f := fun z => sPt σ (y0qn) (8 * (y1qn) + z)) (ok24.dg (P := sPt σ (y0qn)) (hO.2.2.2.2.1 (y0qn) (by omega)).1 (by omega)) (y2qn) (by omega)) (va_cwS 2 hts gX4_colour_X4_colourOf rfl rfl rfl (by decide +kernel) ⟨Nat.le_of_ble_eq_true rfl, Nat.le_of_ble_eq_true rfl⟩) (hv_preS hKs hV hS) rfl rfl hl.1 rfl (lv_room (Nat.le_of_ble_eq_true rfl)) dX4_colour_32 ⟨(Nat.le_of_ble_eq_true rfl), (Nat.le_of_ble_eq_true rfl)⟩) hS (fun r9 u9 H locs hq hV hS => ?_)
      obtain ⟨rfl, rfl⟩ := hq
      have hV : hv D N0 ad ct H := hV
      refine lv_goto (tgt := 43) hx hb dX4_colour_35 (by decide) ?_
      have hkn : (k_colour σ (nI y0qn) (nI y1qn) (nI y2qn)) = 0 := by simp [k_colour, c10, c18, c18a, c18b, e_y0q, e_y1q, e_y2q]
      exact hv_iret (v := nI (sPt σ (y0qn) (8 * (y1qn) + (y2qn)))) (u := (ad, ct)) hx hb hr ⟨fun _ => by rw [e_y0q, e_y1q, e_y2q], by rw [hkn]; exact ⟨f1, f2, f3, f4, f5, f6, f7, f8, f9, ⟨hm0, hm1, hm2, hm3, hm4, hm5, hm6, hm7, hm8, hm9⟩, hme⟩, fun q q1 => ⟨(hfa q q1).trans (by rw [had0]), fun q2 => (hfr q ⟨q1, q2⟩).trans (by rw [hct0])⟩⟩ hV hS dX4_colour_43 hlocks

set_option maxHeartbeats 4000000 in
set_option maxRecDepth 100000 in
theorem c_X4_cane (l : Launch) (D : hG) (N0 : Nat) (ad : Nat → Nat) (ct : hC) {σ : gS} {th : Nat} (hM : gM D σ th ad ct) (hO : okS σ) (y0q y1q : Int32) : Met l yX4_cane wsX4_cane ({ frames := 2, cells := 1, slots := 5, locals := 43 }) (hPc D N0 ad ct [.ref (ad (80)), .int (y0q), .int (y1q)]) (va_Qi (fun (z : Int32) (u : hU) => ((k_cane σ y0q y1q) = 0 → z = tel σ y0q.toInt.toNat y1q.toInt.toNat) ∧ gM D σ (k_cane σ y0q y1q) u.1 u.2 ∧ hFm ad ct u) (hB D N0) (hA N0)) 1 5 (hA N0) := by
  refine Met.ofW (cc := cX4_cane) (maxL := 3) (ret := (some .int)) (by decide) rfl ?_
  intro p e s m args below meth c s₁ B hml hv0
  obtain ⟨hargs, hKs, hV⟩ := hv0
  have hx := B.exec
  have hb := B.bytes
  have hr := B.returns
  have hts := atoms_spec (ws := wsX4_cane) B.pre
  have hown : s.vm.findClass RX4 = some m.cls := findClass_of_methodNamed B.named
  have hlocks := B.notSynchronized
  have hS : va_S (hA N0) s.heap s.heap [] := va_S.rf
  have hiX4 : ∀ w ∈ u_ws RX4 TX4 15, w ∈ wsX4_cane := by decide +kernel
  have lk41 := hts (.fieldLink RX4 41 "CaneSlicesModel" "thrown" "I") (by decide +kernel)
  have hl := lv_entry ([.ref (ad (80)), .int (y0q), .int (y1q)]) (n := 3) (Nat.le_of_ble_eq_true rfl)
  have hE : entryFrame m args 3 = entryFrame m ([.ref (ad (80)), .int (y0q), .int (y1q)] : List Value).toArray 3 := by rw [hargs]
  rw [hE, lg_entry_eq]
  generalize (lg_sl ([.ref (ad (80)), .int (y0q), .int (y1q)]) ++ List.replicate (3 - (lg_sl ([.ref (ad (80)), .int (y0q), .int (y1q)])).length) Slot.unset).toArray = ls at hl ⊢
  have hl : lv_has ls 3 [(0, .ref (ad (80))), (1, .int (y0q)), (2, .int (y1q))] := hl
  obtain ⟨hn8, hn60, hn6, -⟩ := id hO
  obtain ⟨f1, f2, f3, f4, f5, f6, f7, f8, f9, ⟨hm0, hm1, hm2, hm3, hm4, hm5, hm6, hm7, hm8, hm9⟩, hme⟩ := id hM
  obtain ⟨em1, em2, em3, em4, em5, em6, em7, em8, em9⟩ := id hme
  obtain ⟨ad0, had0⟩ : ∃ z, z = ad := ⟨ad, rfl⟩
  obtain ⟨ct0, hct0⟩ : ∃ z, z = ct := ⟨ct, rfl⟩
  have hfr : ∀ q : Nat, (q ≠ 1 ∧ (q % 16 ≠ 0 ∨ q < 80)) → ct q = ct0 q := fun q _ => by rw [hct0]
  have hfa : ∀ q : Nat, q ≠ 1 → ad q = ad0 q := fun q _ => by rw [had0]
  refine lv_aload_n hx hb dX4_cane_0 rfl (lv_at hl 0 rfl) ?_
  refine lv_iconst (v := nI 0) hx hb dX4_cane_1 (by decide) ?_
  refine hv_put (ty := .int) (C := RX4) (T := TX4) (N := 15) hx hb hts hiX4 tyX4 tyX4_ok nmX4 hown hKs hV hS hm0 0 rfl (by decide) lk41 (fun _ h9 => h9) (Or.inl (by decide +kernel)) (by decide +kernel) rfl rfl (Nat.le_of_ble_eq_true rfl) dX4_cane_2 (fun ct H locs he hne hV hS => ?_)
  have hm1 := (hne (96) (by omega)).trans hm1
  have hm2 := (hne (112) (by omega)).trans hm2
  have hm3 := (hne (128) (by omega)).trans hm3
  have hm4 := (hne (144) (by omega)).trans hm4
  have hm5 := (hne (160) (by omega)).trans hm5
  have hm6 := (hne (176) (by omega)).trans hm6
  have hm7 := (hne (192) (by omega)).trans hm7
  have hm8 := (hne (208) (by omega)).trans hm8
  have hm9 := (hne (224) (by omega)).trans hm9
  have hm0 : ct (80) = some (eO 4 [.int (nI (0)), .int (gMi σ), .int (gFu σ), .int (nI (gNC σ)), .ref (ad (96)), .ref (ad (112)), .ref (ad (128)), .ref (ad (144)), .ref (ad (160)), .int (nI (gNS σ)), .ref (ad (176)), .ref (ad (192)), .int (nI (gNB σ)), .ref (ad (208)), .ref (ad (224))]) := he
  have hfr := fun (q : Nat) (q1 : q ≠ 1 ∧ (q % 16 ≠ 0 ∨ q < 80)) => (hne q (by omega)).trans (hfr q q1)
  refine lv_aload_n hx hb dX4_cane_5 rfl (lv_at hl 0 rfl) ?_
  refine lv_iload_n hx hb dX4_cane_6 rfl (lv_at hl 1 rfl) ?_
  refine hv_calli (va_runV (As := [.int (y0q)]) (rest := []) ⟨hx, hb, hml, hown, hts⟩ (c_X4_isCane l D N0 ad ct (show gM D σ _ ad ct from ⟨f1, f2, f3, f4, f5, f6, f7, f8, f9, ⟨hm0, hm1, hm2, hm3, hm4, hm5, hm6, hm7, hm8, hm9⟩, hme⟩) hO ((y0q))) (cwV 1 hts gX4_cane_X4_isCane rfl rfl rfl (by decide +kernel) ⟨Nat.le_of_ble_eq_true rfl, Nat.le_of_ble_eq_true rfl⟩) (hv_preV (r := (RX4, TX4, 15)) hKs hV hS hm0 rfl) rfl rfl hl.1 rfl (lv_room (Nat.le_of_ble_eq_true rfl)) dX4_cane_7 ⟨(Nat.le_of_ble_eq_true rfl), (Nat.le_of_ble_eq_true rfl)⟩) hS (fun r9 u9 H locs hq hV hS => ?_)
  obtain ⟨rfl, rfl⟩ := hq
  have hV : hv D N0 ad ct H := hV
  refine hB_if_eq (tgt := 31) hx hb dX4_cane_10 (by decide) (fun c10 => ?_) (fun c10 => ?_)
  · refine lv_aload_n hx hb dX4_cane_31 rfl (lv_at hl 0 rfl) ?_
    refine lv_iconst (v := nI 1) hx hb dX4_cane_32 (by decide) ?_
    refine hv_calli (va_runV (As := [.int (nI (1))]) (rest := []) ⟨hx, hb, hml, hown, hts⟩ (c_X4_no l D N0 ad ct hm0 (1)) (cwV 1 hts gX4_cane_X4_no rfl rfl rfl (by decide +kernel) ⟨Nat.le_of_ble_eq_true rfl, Nat.le_of_ble_eq_true rfl⟩) (hv_preV (r := (RX4, TX4, 15)) hKs hV hS hm0 rfl) rfl rfl hl.1 rfl (lv_room (Nat.le_of_ble_eq_true rfl)) dX4_cane_33 ⟨(Nat.le_of_ble_eq_true rfl), (Nat.le_of_ble_eq_true rfl)⟩) hS (fun r9 u9 H locs hq hV hS => ?_)
    obtain ⟨ad9, ct⟩ := u9
    dsimp only at hq
    obtain ⟨rfl, ha9, he, hne⟩ := hq
    have ha9 := ha9.symm
    subst ha9
    have hV : hv D N0 ad ct H := hV
    have hm1 := (hne (96) (by omega)).trans hm1
    have hm2 := (hne (112) (by omega)).trans hm2
    have hm3 := (hne (128) (by omega)).trans hm3
    have hm4 := (hne (144) (by omega)).trans hm4
    have hm5 := (hne (160) (by omega)).trans hm5
    have hm6 := (hne (176) (by omega)).trans hm6
    have hm7 := (hne (192) (by omega)).trans hm7
    have hm8 := (hne (208) (by omega)).trans hm8
    have hm9 := (hne (224) (by omega)).trans hm9
    have hm0 : ct (80) = some (eO 4 [.int (nI (1)), .int (gMi σ), .int (gFu σ), .int (nI (gNC σ)), .ref (ad (96)), .ref (ad (112)), .ref (ad (128)), .ref (ad (144)), .ref (ad (160)), .int (nI (gNS σ)), .ref (ad (176)), .ref (ad (192)), .int (nI (gNB σ)), .ref (ad (208)), .ref (ad (224))]) := he
    have hfr := fun (q : Nat) (q1 : q ≠ 1 ∧ (q % 16 ≠ 0 ∨ q < 80)) => (hne q (by omega)).trans (hfr q q1)
    have hkn : (k_cane σ y0q y1q) = 1 := by simp [k_cane, c10]
    refine W.widen (k := 1) (n := 5) (by omega) (by omega) ?_
    exact hv_iret (v := nI (0)) (u := (ad, ct)) hx hb hr ⟨fun h9 => absurd (hkn.symm.trans h9) (by decide), by rw [hkn]; exact ⟨f1, f2, f3, f4, f5, f6, f7, f8, f9, ⟨hm0, hm1, hm2, hm3, hm4, hm5, hm6, hm7, hm8, hm9⟩, hme⟩, fun q q1 => ⟨(hfa q q1).trans (by rw [had0]), fun q2 => (hfr q ⟨q1, q2⟩).trans (by rw [hct0])⟩⟩ hV hS dX4_cane_36 hlocks
  · obtain ⟨y0qn, hy0qn, rfl⟩ := inR_of c10
    have e_y0q : (nI y0qn).toInt.toNat = y0qn := toNat_nI (by omega)
    refine lv_iload_n hx hb dX4_cane_13 rfl (lv_at hl 2 rfl) ?_
    refine lv_iconst (v := nI 0) hx hb dX4_cane_14 (by decide) ?_
    refine lv_iconst (v := nI 4) hx hb dX4_cane_15 (by decide) ?_
    refine hv_calli (va_runS (As := [.int (y1q), .int (nI (0)), .int (nI (4))]) (rest := []) ⟨hx, hb, hml, hown, hts⟩ (c_X4_isIn l D N0 ad ct ((y1q)) (nI (0)) (nI (4))) (va_cwS 3 hts gX4_cane_X4_isIn rfl rfl rfl (by decide +kernel) ⟨Nat.le_of_ble_eq_true rfl, Nat.le_of_ble_eq_true rfl⟩) (hv_preS hKs hV hS) rfl rfl hl.1 rfl (lv_room (Nat.le_of_ble_eq_true rfl)) dX4_cane_16 ⟨(Nat.le_of_ble_eq_true rfl), (Nat.le_of_ble_eq_true rfl)⟩) hS (fun r9 u9 H locs hq hV hS => ?_)
    obtain ⟨rfl, rfl⟩ := hq
    have hV : hv D N0 ad ct H := hV
    refine hv_eqi (y := hbv (inR ((y1q)) 5)) (congrArg hbv (inI_k (n := 5) (by omega) rfl)) ?_
    refine hB_if_eq (tgt := 31) hx hb dX4_cane_19 (by decide) (fun c19 => ?_) (fun c19 => ?_)
    · refine lv_aload_n hx hb dX4_cane_31 rfl (lv_at hl 0 rfl) ?_
      refine lv_iconst (v := nI 1) hx hb dX4_cane_32 (by decide) ?_
      refine hv_calli (va_runV (As := [.int (nI (1))]) (rest := []) ⟨hx, hb, hml, hown, hts⟩ (c_X4_no l D N0 ad ct hm0 (1)) (cwV 1 hts gX4_cane_X4_no rfl rfl rfl (by decide +kernel) ⟨Nat.le_of_ble_eq_true rfl, Nat.le_of_ble_eq_true rfl⟩) (hv_preV (r := (RX4, TX4, 15)) hKs hV hS hm0 rfl) rfl rfl hl.1 rfl (lv_room (Nat.le_of_ble_eq_true rfl)) dX4_cane_33 ⟨(Nat.le_of_ble_eq_true rfl), (Nat.le_of_ble_eq_true rfl)⟩) hS (fun r9 u9 H locs hq hV hS => ?_)
      obtain ⟨ad9, ct⟩ := u9
      dsimp only at hq
      obtain ⟨rfl, ha9, he, hne⟩ := hq
      have ha9 := ha9.symm
      subst ha9
      have hV : hv D N0 ad ct H := hV
      have hm1 := (hne (96) (by omega)).trans hm1
      have hm2 := (hne (112) (by omega)).trans hm2
      have hm3 := (hne (128) (by omega)).trans hm3
      have hm4 := (hne (144) (by omega)).trans hm4
      have hm5 := (hne (160) (by omega)).trans hm5
      have hm6 := (hne (176) (by omega)).trans hm6
      have hm7 := (hne (192) (by omega)).trans hm7
      have hm8 := (hne (208) (by omega)).trans hm8
      have hm9 := (hne (224) (by omega)).trans hm9
      have hm0 : ct (80) = some (eO 4 [.int (nI (1)), .int (gMi σ), .int (gFu σ), .int (nI (gNC σ)), .ref (ad (96)), .ref (ad (112)), .ref (ad (128)), .ref (ad (144)), .ref (ad (160)), .int (nI (gNS σ)), .ref (ad (176)), .ref (ad (192)), .int (nI (gNB σ)), .ref (ad (208)), .ref (ad (224))]) := he
      have hfr := fun (q : Nat) (q1 : q ≠ 1 ∧ (q % 16 ≠ 0 ∨ q < 80)) => (hne q (by omega)).trans (hfr q q1)
      have hkn : (k_cane σ (nI y0qn) y1q) = 1 := by simp [k_cane, c10, c19, e_y0q]
      refine W.widen (k := 1) (n := 5) (by omega) (by omega) ?_
      exact hv_iret (v := nI (0)) (u := (ad, ct)) hx hb hr ⟨fun h9 => absurd (hkn.symm.trans h9) (by decide), by rw [hkn]; exact ⟨f1, f2, f3, f4, f5, f6, f7, f8, f9, ⟨hm0, hm1, hm2, hm3, hm4, hm5, hm6, hm7, hm8, hm9⟩, hme⟩, fun q q1 => ⟨(hfa q q1).trans (by rw [had0]), fun q2 => (hfr q ⟨q1, q2⟩).trans (by rw [hct0])⟩⟩ hV hS dX4_cane_36 hlocks
    · obtain ⟨y1qn, hy1qn, rfl⟩ := inR_of c19
      have e_y1q : (nI y1qn).toInt.toNat = y1qn := toNat_nI (by omega)
      refine lv_aload_n hx hb dX4_cane_22 rfl (lv_at hl 0 rfl) ?_
      refine lv_iload_n hx hb dX4_cane_23 rfl (lv_at hl 1 rfl) ?_
      refine lv_iload_n hx hb dX4_cane_24 rfl (lv_at hl 2 rfl) ?_
      refine hv_calli (va_runV (As := [.int (nI (y0qn)), .int (nI (y1qn))]) (rest := []) ⟨hx, hb, hml, hown, hts⟩ (c_X4_caneTold l D N0 ad ct (show gM D σ _ ad ct from ⟨f1, f2, f3, f4, f5, f6, f7, f8, f9, ⟨hm0, hm1, hm2, hm3, hm4, hm5, hm6, hm7, hm8, hm9⟩, hme⟩) hO (y0qn) (y1qn) (by omega) (by omega)) (cwV 2 hts gX4_cane_X4_caneTold rfl rfl rfl (by decide +kernel) ⟨Nat.le_of_ble_eq_true rfl, Nat.le_of_ble_eq_true rfl⟩) (hv_preV (r := (RX4, TX4, 15)) hKs hV hS hm0 rfl) rfl rfl hl.1 rfl (lv_room (Nat.le_of_ble_eq_true rfl)) dX4_cane_25 ⟨(Nat.le_of_ble_eq_true rfl), (Nat.le_of_ble_eq_true rfl)⟩) hS (fun r9 u9 H locs hq hV hS => ?_)
      obtain ⟨ad, ct⟩ := u9
      dsimp only at hq
      obtain ⟨rfl, hna1, hne1⟩ := hq
      have hV : hv D N0 ad ct H := hV
      have hne := fun (q : Nat) (q1 : q ≠ 1) => hne1 q q1
      have hna := fun (q : Nat) (q1 : q ≠ 1) => hna1 q q1
      have hl : lv_has ls 3 [(0, .ref (ad (80))), (1, .int (nI (y0qn))), (2, .int (nI (y1qn)))] := by rw [hna (80) (by omega)]; exact hl
      have hm1 := (hne (96) (by omega)).trans hm1
      have hm2 := (hne (112) (by omega)).trans hm2
      have hm3 := (hne (128) (by omega)).trans hm3
      have hm4 := (hne (144) (by omega)).trans hm4
      have hm5 := (hne (160) (by omega)).trans hm5
      have hm6 := (hne (176) (by omega)).trans hm6
      have hm7 := (hne (192) (by omega)).trans hm7
      have hm8 := (hne (208) (by omega)).trans hm8
      have hm9 := (hne (224) (by omega)).trans hm9
      have hm0 : ct (80) = some (eO 4 [.int (nI (0)), .int (gMi σ), .int (gFu σ), .int (nI (gNC σ)), .ref (ad (96)), .ref (ad (112)), .ref (ad (128)), .ref (ad (144)), .ref (ad (160)), .int (nI (gNS σ)), .ref (ad (176)), .ref (ad (192)), .int (nI (gNB σ)), .ref (ad (208)), .ref (ad (224))]) := by rw [hne (80) (by omega), hna (96) (by omega), hna (112) (by omega), hna (128) (by omega), hna (144) (by omega), hna (160) (by omega), hna (176) (by omega), hna (192) (by omega), hna (208) (by omega), hna (224) (by omega)]; exact hm0
      have hfr := fun (q : Nat) (q1 : q ≠ 1 ∧ (q % 16 ≠ 0 ∨ q < 80)) => (hne q q1.1).trans (hfr q q1)
      have hfa := fun (q : Nat) (q1 : q ≠ 1) => (hna q q1).trans (hfa q q1)
      refine lv_goto (tgt := 36) hx hb dX4_cane_28 (by decide) ?_
      have hkn : (k_cane σ (nI y0qn) (nI y1qn)) = 0 := by simp [k_cane, c10, c19, e_y0q, e_y1q]
      refine W.widen (k := 1) (n := 5) (by omega) (by omega) ?_
      exact hv_iret (v := (tel σ (y0qn) (y1qn))) (u := (ad, ct)) hx hb hr ⟨fun _ => by rw [e_y0q, e_y1q], by rw [hkn]; exact ⟨f1, f2, f3, f4, f5, f6, f7, f8, f9, ⟨hm0, hm1, hm2, hm3, hm4, hm5, hm6, hm7, hm8, hm9⟩, hme⟩, fun q q1 => ⟨(hfa q q1).trans (by rw [had0]), fun q2 => (hfr q ⟨q1, q2⟩).trans (by rw [hct0])⟩⟩ hV hS dX4_cane_36 hlocks

set_option maxHeartbeats 4000000 in
set_option maxRecDepth 100000 in
theorem c_X4_shows (l : Launch) (D : hG) (N0 : Nat) (ad : Nat → Nat) (ct : hC) {σ : gS} {th : Nat} (hM : gM D σ th ad ct) (hO : okS σ) (y0q y1q y2q y3q : Int32) : Met l yX4_shows wsX4_shows ({ frames := 2, cells := 0, slots := 0, locals := 44 }) (hPc D N0 ad ct [.ref (ad (80)), .int (y0q), .int (y1q), .int (y2q), .int (y3q)]) (va_Qi (fun (z : Int32) (u : hU) => ((k_shows σ y0q y1q y2q y3q) = 0 → z = nI (rot (cTw σ y0q.toInt.toNat * nI y1q.toInt.toNat) (cPt σ y0q.toInt.toNat) (8 * y2q.toInt.toNat + y3q.toInt.toNat))) ∧ gM D σ (k_shows σ y0q y1q y2q y3q) u.1 u.2 ∧ hFm ad ct u) (hB D N0) (hA N0)) 0 0 (hA N0) := by
  refine Met.ofW (cc := cX4_shows) (maxL := 5) (ret := (some .int)) (by decide) rfl ?_
  intro p e s m args below meth c s₁ B hml hv0
  obtain ⟨hargs, hKs, hV⟩ := hv0
  have hx := B.exec
  have hb := B.bytes
  have hr := B.returns
  have hts := atoms_spec (ws := wsX4_shows) B.pre
  have hown : s.vm.findClass RX4 = some m.cls := findClass_of_methodNamed B.named
  have hlocks := B.notSynchronized
  have hS : va_S (hA N0) s.heap s.heap [] := va_S.rf
  have hiX4 : ∀ w ∈ u_ws RX4 TX4 15, w ∈ wsX4_shows := by decide +kernel
  have lk41 := hts (.fieldLink RX4 41 "CaneSlicesModel" "thrown" "I") (by decide +kernel)
  have lk13 := hts (.fieldLink RX4 13 "CaneSlicesModel" "length" "[I") (by decide +kernel)
  have lk26 := hts (.fieldLink RX4 26 "CaneSlicesModel" "pattern" "[I") (by decide +kernel)
  have lk17 := hts (.fieldLink RX4 17 "CaneSlicesModel" "twist" "[I") (by decide +kernel)
  have hl := lv_entry ([.ref (ad (80)), .int (y0q), .int (y1q), .int (y2q), .int (y3q)]) (n := 5) (Nat.le_of_ble_eq_true rfl)
  have hE : entryFrame m args 5 = entryFrame m ([.ref (ad (80)), .int (y0q), .int (y1q), .int (y2q), .int (y3q)] : List Value).toArray 5 := by rw [hargs]
  rw [hE, lg_entry_eq]
  generalize (lg_sl ([.ref (ad (80)), .int (y0q), .int (y1q), .int (y2q), .int (y3q)]) ++ List.replicate (5 - (lg_sl ([.ref (ad (80)), .int (y0q), .int (y1q), .int (y2q), .int (y3q)])).length) Slot.unset).toArray = ls at hl ⊢
  have hl : lv_has ls 5 [(0, .ref (ad (80))), (1, .int (y0q)), (2, .int (y1q)), (3, .int (y2q)), (4, .int (y3q))] := hl
  obtain ⟨hn8, hn60, hn6, -⟩ := id hO
  obtain ⟨f1, f2, f3, f4, f5, f6, f7, f8, f9, ⟨hm0, hm1, hm2, hm3, hm4, hm5, hm6, hm7, hm8, hm9⟩, hme⟩ := id hM
  obtain ⟨em1, em2, em3, em4, em5, em6, em7, em8, em9⟩ := id hme
  obtain ⟨ad0, had0⟩ : ∃ z, z = ad := ⟨ad, rfl⟩
  obtain ⟨ct0, hct0⟩ : ∃ z, z = ct := ⟨ct, rfl⟩
  have hfr : ∀ q : Nat, (q ≠ 1 ∧ (q % 16 ≠ 0 ∨ q < 80)) → ct q = ct0 q := fun q _ => by rw [hct0]
  have hfa : ∀ q : Nat, q ≠ 1 → ad q = ad0 q := fun q _ => by rw [had0]
  refine lv_aload_n hx hb dX4_shows_0 rfl (lv_at hl 0 rfl) ?_
  refine lv_iconst (v := nI 0) hx hb dX4_shows_1 (by decide) ?_
  refine hv_put (ty := .int) (C := RX4) (T := TX4) (N := 15) hx hb hts hiX4 tyX4 tyX4_ok nmX4 hown hKs hV hS hm0 0 rfl (by decide) lk41 (fun _ h9 => h9) (Or.inl (by decide +kernel)) (by decide +kernel) rfl rfl (Nat.le_of_ble_eq_true rfl) dX4_shows_2 (fun ct H locs he hne hV hS => ?_)
  have hm1 := (hne (96) (by omega)).trans hm1
  have hm2 := (hne (112) (by omega)).trans hm2
  have hm3 := (hne (128) (by omega)).trans hm3
  have hm4 := (hne (144) (by omega)).trans hm4
  have hm5 := (hne (160) (by omega)).trans hm5
  have hm6 := (hne (176) (by omega)).trans hm6
  have hm7 := (hne (192) (by omega)).trans hm7
  have hm8 := (hne (208) (by omega)).trans hm8
  have hm9 := (hne (224) (by omega)).trans hm9
  have hm0 : ct (80) = some (eO 4 [.int (nI (0)), .int (gMi σ), .int (gFu σ), .int (nI (gNC σ)), .ref (ad (96)), .ref (ad (112)), .ref (ad (128)), .ref (ad (144)), .ref (ad (160)), .int (nI (gNS σ)), .ref (ad (176)), .ref (ad (192)), .int (nI (gNB σ)), .ref (ad (208)), .ref (ad (224))]) := he
  have hfr := fun (q : Nat) (q1 : q ≠ 1 ∧ (q % 16 ≠ 0 ∨ q < 80)) => (hne q (by omega)).trans (hfr q q1)
  refine lv_aload_n hx hb dX4_shows_5 rfl (lv_at hl 0 rfl) ?_
  refine lv_iload_n hx hb dX4_shows_6 rfl (lv_at hl 1 rfl) ?_
  refine hv_calli (va_runV (As := [.int (y0q)]) (rest := []) ⟨hx, hb, hml, hown, hts⟩ (c_X4_isCane l D N0 ad ct (show gM D σ _ ad ct from ⟨f1, f2, f3, f4, f5, f6, f7, f8, f9, ⟨hm0, hm1, hm2, hm3, hm4, hm5, hm6, hm7, hm8, hm9⟩, hme⟩) hO ((y0q))) (cwV 1 hts gX4_shows_X4_isCane rfl rfl rfl (by decide +kernel) ⟨Nat.le_of_ble_eq_true rfl, Nat.le_of_ble_eq_true rfl⟩) (hv_preV (r := (RX4, TX4, 15)) hKs hV hS hm0 rfl) rfl rfl hl.1 rfl (lv_room (Nat.le_of_ble_eq_true rfl)) dX4_shows_7 ⟨(Nat.le_of_ble_eq_true rfl), (Nat.le_of_ble_eq_true rfl)⟩) hS (fun r9 u9 H locs hq hV hS => ?_)
  obtain ⟨rfl, rfl⟩ := hq
  have hV : hv D N0 ad ct H := hV
  refine hB_if_eq (tgt := 38) hx hb dX4_shows_10 (by decide) (fun c10 => ?_) (fun c10 => ?_)
  · refine lv_aload_n hx hb dX4_shows_38 rfl (lv_at hl 0 rfl) ?_
    refine lv_iconst (v := nI 1) hx hb dX4_shows_39 (by decide) ?_
    refine hv_calli (va_runV (As := [.int (nI (1))]) (rest := []) ⟨hx, hb, hml, hown, hts⟩ (c_X4_no l D N0 ad ct hm0 (1)) (cwV 1 hts gX4_shows_X4_no rfl rfl rfl (by decide +kernel) ⟨Nat.le_of_ble_eq_true rfl, Nat.le_of_ble_eq_true rfl⟩) (hv_preV (r := (RX4, TX4, 15)) hKs hV hS hm0 rfl) rfl rfl hl.1 rfl (lv_room (Nat.le_of_ble_eq_true rfl)) dX4_shows_40 ⟨(Nat.le_of_ble_eq_true rfl), (Nat.le_of_ble_eq_true rfl)⟩) hS (fun r9 u9 H locs hq hV hS => ?_)
    obtain ⟨ad9, ct⟩ := u9
    dsimp only at hq
    obtain ⟨rfl, ha9, he, hne⟩ := hq
    have ha9 := ha9.symm
    subst ha9
    have hV : hv D N0 ad ct H := hV
    have hm1 := (hne (96) (by omega)).trans hm1
    have hm2 := (hne (112) (by omega)).trans hm2
    have hm3 := (hne (128) (by omega)).trans hm3
    have hm4 := (hne (144) (by omega)).trans hm4
    have hm5 := (hne (160) (by omega)).trans hm5
    have hm6 := (hne (176) (by omega)).trans hm6
    have hm7 := (hne (192) (by omega)).trans hm7
    have hm8 := (hne (208) (by omega)).trans hm8
    have hm9 := (hne (224) (by omega)).trans hm9
    have hm0 : ct (80) = some (eO 4 [.int (nI (1)), .int (gMi σ), .int (gFu σ), .int (nI (gNC σ)), .ref (ad (96)), .ref (ad (112)), .ref (ad (128)), .ref (ad (144)), .ref (ad (160)), .int (nI (gNS σ)), .ref (ad (176)), .ref (ad (192)), .int (nI (gNB σ)), .ref (ad (208)), .ref (ad (224))]) := he
    have hfr := fun (q : Nat) (q1 : q ≠ 1 ∧ (q % 16 ≠ 0 ∨ q < 80)) => (hne q (by omega)).trans (hfr q q1)
    have hkn : (k_shows σ y0q y1q y2q y3q) = 1 := by simp [k_shows, c10]
    exact hv_iret (v := nI (0)) (u := (ad, ct)) hx hb hr ⟨fun h9 => absurd (hkn.symm.trans h9) (by decide), by rw [hkn]; exact ⟨f1, f2, f3, f4, f5, f6, f7, f8, f9, ⟨hm0, hm1, hm2, hm3, hm4, hm5, hm6, hm7, hm8, hm9⟩, hme⟩, fun q q1 => ⟨(hfa q q1).trans (by rw [had0]), fun q2 => (hfr q ⟨q1, q2⟩).trans (by rw [hct0])⟩⟩ hV hS dX4_shows_43 hlocks
  · obtain ⟨y0qn, hy0qn, rfl⟩ := inR_of c10
    have e_y0q : (nI y0qn).toInt.toNat = y0qn := toNat_nI (by omega)
    refine lv_iload_n hx hb dX4_shows_13 rfl (lv_at hl 2 rfl) ?_
    refine lv_iconst (v := nI 0) hx hb dX4_shows_14 (by decide) ?_
    refine lv_aload_n hx hb dX4_shows_15 rfl (lv_at hl 0 rfl) ?_
    refine hv_get (C := RX4) (T := TX4) (N := 15) hx hb hts hiX4 hown hKs hV hm0 4 rfl (by decide) lk13 (fun _ h9 => h9) rfl dX4_shows_16 ?_
    refine lv_iload_n hx hb dX4_shows_19 rfl (lv_at hl 1 rfl) ?_
    refine hv_iald hx hb hKs hV hm1 (by omega) (by decide) dX4_shows_20 ?_
    have hcb := (hO.2.2.2.1 (y0qn) (by omega))
    have hcb1 := hcb.1
    have hcb2 := hcb.2.1
    refine hv_eqi (em1 (y0qn) (by omega)) ?_
    refine lv_iconst (v := nI 1) hx hb dX4_shows_21 (by decide) ?_
    refine lv_isub hx hb dX4_shows_22 ?_
    refine hv_calli (va_runS (As := [.int (y1q), .int (nI (0)), .int (nI (cLen σ (y0qn)) - nI (1))]) (rest := []) ⟨hx, hb, hml, hown, hts⟩ (c_X4_isIn l D N0 ad ct ((y1q)) (nI (0)) ((nI (cLen σ (y0qn)) - nI (1)))) (va_cwS 3 hts gX4_shows_X4_isIn rfl rfl rfl (by decide +kernel) ⟨Nat.le_of_ble_eq_true rfl, Nat.le_of_ble_eq_true rfl⟩) (hv_preS hKs hV hS) rfl rfl hl.1 rfl (lv_room (Nat.le_of_ble_eq_true rfl)) dX4_shows_23 ⟨(Nat.le_of_ble_eq_true rfl), (Nat.le_of_ble_eq_true rfl)⟩) hS (fun r9 u9 H locs hq hV hS => ?_)
    obtain ⟨rfl, rfl⟩ := hq
    have hV : hv D N0 ad ct H := hV
    refine hv_eqi (y := hbv (inR ((y1q)) (cLen σ (y0qn)))) (congrArg hbv (inI_n (by omega))) ?_
    refine hB_if_eq (tgt := 38) hx hb dX4_shows_26 (by decide) (fun c26 => ?_) (fun c26 => ?_)
    · refine lv_aload_n hx hb dX4_shows_38 rfl (lv_at hl 0 rfl) ?_
      refine lv_iconst (v := nI 1) hx hb dX4_shows_39 (by decide) ?_
      refine hv_calli (va_runV (As := [.int (nI (1))]) (rest := []) ⟨hx, hb, hml, hown, hts⟩ (c_X4_no l D N0 ad ct hm0 (1)) (cwV 1 hts gX4_shows_X4_no rfl rfl rfl (by decide +kernel) ⟨Nat.le_of_ble_eq_true rfl, Nat.le_of_ble_eq_true rfl⟩) (hv_preV (r := (RX4, TX4, 15)) hKs hV hS hm0 rfl) rfl rfl hl.1 rfl (lv_room (Nat.le_of_ble_eq_true rfl)) dX4_shows_40 ⟨(Nat.le_of_ble_eq_true rfl), (Nat.le_of_ble_eq_true rfl)⟩) hS (fun r9 u9 H locs hq hV hS => ?_)
      obtain ⟨ad9, ct⟩ := u9
      dsimp only at hq
      obtain ⟨rfl, ha9, he, hne⟩ := hq
      have ha9 := ha9.symm
      subst ha9
      have hV : hv D N0 ad ct H := hV
      have hm1 := (hne (96) (by omega)).trans hm1
      have hm2 := (hne (112) (by omega)).trans hm2
      have hm3 := (hne (128) (by omega)).trans hm3
      have hm4 := (hne (144) (by omega)).trans hm4
      have hm5 := (hne (160) (by omega)).trans hm5
      have hm6 := (hne (176) (by omega)).trans hm6
      have hm7 := (hne (192) (by omega)).trans hm7
      have hm8 := (hne (208) (by omega)).trans hm8
      have hm9 := (hne (224) (by omega)).trans hm9
      have hm0 : ct (80) = some (eO 4 [.int (nI (1)), .int (gMi σ), .int (gFu σ), .int (nI (gNC σ)), .ref (ad (96)), .ref (ad (112)), .ref (ad (128)), .ref (ad (144)), .ref (ad (160)), .int (nI (gNS σ)), .ref (ad (176)), .ref (ad (192)), .int (nI (gNB σ)), .ref (ad (208)), .ref (ad (224))]) := he
      have hfr := fun (q : Nat) (q1 : q ≠ 1 ∧ (q % 16 ≠ 0 ∨ q < 80)) => (hne q (by omega)).trans (hfr q q1)
      have hkn : (k_shows σ (nI y0qn) y1q y2q y3q) = 1 := by simp [k_shows, c10, c26, e_y0q]
      exact hv_iret (v := nI (0)) (u := (ad, ct)) hx hb hr ⟨fun h9 => absurd (hkn.symm.trans h9) (by decide), by rw [hkn]; exact ⟨f1, f2, f3, f4, f5, f6, f7, f8, f9, ⟨hm0, hm1, hm2, hm3, hm4, hm5, hm6, hm7, hm8, hm9⟩, hme⟩, fun q q1 => ⟨(hfa q q1).trans (by rw [had0]), fun q2 => (hfr q ⟨q1, q2⟩).trans (by rw [hct0])⟩⟩ hV hS dX4_shows_43 hlocks
    · obtain ⟨y1qn, hy1qn, rfl⟩ := inR_of c26
      have e_y1q : (nI y1qn).toInt.toNat = y1qn := toNat_nI (by omega)
      refine lv_iload_n hx hb dX4_shows_29 rfl (lv_at hl 3 rfl) ?_
      refine lv_iload hx hb dX4_shows_30 (lv_at hl 4 rfl) ?_
      refine hv_calli (va_runS (As := [.int (y2q), .int (y3q)]) (rest := []) ⟨hx, hb, hml, hown, hts⟩ (c_X4_isSpot l D N0 ad ct ((y2q)) ((y3q))) (va_cwS 2 hts gX4_shows_X4_isSpot rfl rfl rfl (by decide +kernel) ⟨Nat.le_of_ble_eq_true rfl, Nat.le_of_ble_eq_true rfl⟩) (hv_preS hKs hV hS) rfl rfl hl.1 rfl (lv_room (Nat.le_of_ble_eq_true rfl)) dX4_shows_32 ⟨(Nat.le_of_ble_eq_true rfl), (Nat.le_of_ble_eq_true rfl)⟩) hS (fun r9 u9 H locs hq hV hS => ?_)
      obtain ⟨rfl, rfl⟩ := hq
      have hV : hv D N0 ad ct H := hV
      refine hB_if_ne (tgt := 44) hx hb dX4_shows_35 (by decide) (fun c35 => ?_) (fun c35 => ?_)
      · obtain ⟨c35a, c35b⟩ := Bool.and_eq_true_iff.mp c35
        obtain ⟨y2qn, hy2qn, rfl⟩ := inR_of c35a
        have e_y2q : (nI y2qn).toInt.toNat = y2qn := toNat_nI (by omega)
        obtain ⟨y3qn, hy3qn, rfl⟩ := inR_of c35b
        have e_y3q : (nI y3qn).toInt.toNat = y3qn := toNat_nI (by omega)
        refine lv_aload_n hx hb dX4_shows_44 rfl (lv_at hl 0 rfl) ?_
        refine hv_get (C := RX4) (T := TX4) (N := 15) hx hb hts hiX4 hown hKs hV hm0 8 rfl (by decide) lk26 (fun _ h9 => h9) rfl dX4_shows_45 ?_
        refine lv_iconst (v := nI 3) hx hb dX4_shows_48 (by decide) ?_
        refine lv_iload_n hx hb dX4_shows_49 rfl (lv_at hl 1 rfl) ?_
        refine hN_imul hx hb dX4_shows_50 ?_
        refine lv_iload_n hx hb dX4_shows_51 rfl (lv_at hl 3 rfl) ?_
        refine hN_iadd hx hb dX4_shows_52 ?_
        refine hv_iald hx hb hKs hV hm5 (by omega) (by decide) dX4_shows_53 ?_
        refine hv_eqi ((em5 (y0qn) (by omega) (y2qn) (by omega)).trans (congrArg nI (if_pos (by omega)))) ?_
        refine lv_aload_n hx hb dX4_shows_54 rfl (lv_at hl 0 rfl) ?_
        refine hv_get (C := RX4) (T := TX4) (N := 15) hx hb hts hiX4 hown hKs hV hm0 5 rfl (by decide) lk17 (fun _ h9 => h9) rfl dX4_shows_55 ?_
        refine lv_iload_n hx hb dX4_shows_58 rfl (lv_at hl 1 rfl) ?_
        refine hv_iald hx hb hKs hV hm2 (by omega) (by decide) dX4_shows_59 ?_
        refine hv_eqi ((em2 (y0qn) (by omega)).trans (if_pos (by omega))) ?_
        refine lv_iload_n hx hb dX4_shows_60 rfl (lv_at hl 2 rfl) ?_
        refine lv_imul hx hb dX4_shows_61 ?_
        refine hv_calli (va_runS (As := [.int (nI (rgP (cPt σ (y0qn)) (y2qn))), .int ((cTw σ (y0qn)) * nI (y1qn))]) (rest := []) ⟨hx, hb, hml, hown, hts⟩ (c_X4_rotated l D N0 ad ct (f := fun z => cPt σ (y0qn) (8 * (y2qn) + z)) (ok24.dg (P := cPt σ (y0qn)) (hO.2.2.2.1 (y0qn) (by omega)).2.2 (by omega)) (((cTw σ (y0qn)) * nI (y1qn)))) (va_cwS 2 hts gX4_shows_X4_rotated rfl rfl rfl (by decide +kernel) ⟨Nat.le_of_ble_eq_true rfl, Nat.le_of_ble_eq_true rfl⟩) (hv_preS hKs hV hS) rfl rfl hl.1 rfl (lv_room (Nat.le_of_ble_eq_true rfl)) dX4_shows_62 ⟨(Nat.le_of_ble_eq_true rfl), (Nat.le_of_ble_eq_true rfl)⟩) hS (fun r9 u9 H locs hq hV hS => ?_)
        obtain ⟨rfl, rfl⟩ := hq
        have hV : hv D N0 ad ct H := hV
        refine hv_eqi (y := nI (rgP (rot (((cTw σ (y0qn)) * nI (y1qn))) (cPt σ (y0qn))) (y2qn))) (congrArg nI rgP_rot) ?_
        refine lv_iload hx hb dX4_shows_65 (lv_at hl 4 rfl) ?_
        refine hv_calli (va_runS (As := [.int (nI (rgP (rot (((cTw σ (y0qn)) * nI (y1qn))) (cPt σ (y0qn))) (y2qn))), .int (nI (y3qn))]) (rest := []) ⟨hx, hb, hml, hown, hts⟩ (c_X4_colourOf l D N0 ad ct (f := fun z => rot (((cTw σ (y0qn)) * nI (y1qn))) (cPt σ (y0qn)) (8 * (y2qn) + z)) (ok24.dg (P := rot (((cTw σ (y0qn)) * nI (y1qn))) (cPt σ (y0qn))) (rot_8 (hO.2.2.2.1 (y0qn) (by omega)).2.2) (by omega)) (y3qn) (by omega)) (va_cwS 2 hts gX4_shows_X4_colourOf rfl rfl rfl (by decide +kernel) ⟨Nat.le_of_ble_eq_true rfl, Nat.le_of_ble_eq_true rfl⟩) (hv_preS hKs hV hS) rfl rfl hl.1 rfl (lv_room (Nat.le_of_ble_eq_true rfl)) dX4_shows_67 ⟨(Nat.le_of_ble_eq_true rfl), (Nat.le_of_ble_eq_true rfl)⟩) hS (fun r9 u9 H locs hq hV hS => ?_)
        obtain ⟨rfl, rfl⟩ := hq
        have hV : hv D N0 ad ct H := hV
        have hkn : (k_shows σ (nI y0qn) (nI y1qn) (nI y2qn) (nI y3qn)) = 0 := by simp [k_shows, c10, c26, c35, c35a, c35b, e_y0q, e_y1q, e_y2q, e_y3q]
        exact hv_iret (v := nI (rot (((cTw σ (y0qn)) * nI (y1qn))) (cPt σ (y0qn)) (8 * (y2qn) + (y3qn)))) (u := (ad, ct)) hx hb hr ⟨fun _ => by rw [e_y0q, e_y1q, e_y2q, e_y3q], by rw [hkn]; exact ⟨f1, f2, f3, f4, f5, f6, f7, f8, f9, ⟨hm0, hm1, hm2, hm3, hm4, hm5, hm6, hm7, hm8, hm9⟩, hme⟩, fun q q1 => ⟨(hfa q q1).trans (by rw [had0]), fun q2 => (hfr q ⟨q1, q2⟩).trans (by rw [hct0])⟩⟩ hV hS dX4_shows_70 hlocks
      · have c35f := Bool.and_eq_false_iff.mp c35
        refine lv_aload_n hx hb dX4_shows_38 rfl (lv_at hl 0 rfl) ?_
        refine lv_iconst (v := nI 1) hx hb dX4_shows_39 (by decide) ?_
        refine hv_calli (va_runV (As := [.int (nI (1))]) (rest := []) ⟨hx, hb, hml, hown, hts⟩ (c_X4_no l D N0 ad ct hm0 (1)) (cwV 1 hts gX4_shows_X4_no rfl rfl rfl (by decide +kernel) ⟨Nat.le_of_ble_eq_true rfl, Nat.le_of_ble_eq_true rfl⟩) (hv_preV (r := (RX4, TX4, 15)) hKs hV hS hm0 rfl) rfl rfl hl.1 rfl (lv_room (Nat.le_of_ble_eq_true rfl)) dX4_shows_40 ⟨(Nat.le_of_ble_eq_true rfl), (Nat.le_of_ble_eq_true rfl)⟩) hS (fun r9 u9 H locs hq hV hS => ?_)
        obtain ⟨ad9, ct⟩ := u9
        dsimp only at hq
        obtain ⟨rfl, ha9, he, hne⟩ := hq
        have ha9 := ha9.symm
        subst ha9
        have hV : hv D N0 ad ct H := hV
        have hm1 := (hne (96) (by omega)).trans hm1
        have hm2 := (hne (112) (by omega)).trans hm2
        have hm3 := (hne (128) (by omega)).trans hm3
        have hm4 := (hne (144) (by omega)).trans hm4
        have hm5 := (hne (160) (by omega)).trans hm5
        have hm6 := (hne (176) (by omega)).trans hm6
        have hm7 := (hne (192) (by omega)).trans hm7
        have hm8 := (hne (208) (by omega)).trans hm8
        have hm9 := (hne (224) (by omega)).trans hm9
        have hm0 : ct (80) = some (eO 4 [.int (nI (1)), .int (gMi σ), .int (gFu σ), .int (nI (gNC σ)), .ref (ad (96)), .ref (ad (112)), .ref (ad (128)), .ref (ad (144)), .ref (ad (160)), .int (nI (gNS σ)), .ref (ad (176)), .ref (ad (192)), .int (nI (gNB σ)), .ref (ad (208)), .ref (ad (224))]) := he
        have hfr := fun (q : Nat) (q1 : q ≠ 1 ∧ (q % 16 ≠ 0 ∨ q < 80)) => (hne q (by omega)).trans (hfr q q1)
        have hkn : (k_shows σ (nI y0qn) (nI y1qn) y2q y3q) = 1 := by rcases c35f with h9 | h9 <;> simp [k_shows, h9, c10, c26, e_y0q, e_y1q]
        exact hv_iret (v := nI (0)) (u := (ad, ct)) hx hb hr ⟨fun h9 => absurd (hkn.symm.trans h9) (by decide), by rw [hkn]; exact ⟨f1, f2, f3, f4, f5, f6, f7, f8, f9, ⟨hm0, hm1, hm2, hm3, hm4, hm5, hm6, hm7, hm8, hm9⟩, hme⟩, fun q q1 => ⟨(hfa q q1).trans (by rw [had0]), fun q2 => (hfr q ⟨q1, q2⟩).trans (by rw [hct0])⟩⟩ hV hS dX4_shows_43 hlocks

set_option maxHeartbeats 4000000 in
set_option maxRecDepth 100000 in
theorem c_X4_count (l : Launch) (D : hG) (N0 : Nat) (ad : Nat → Nat) (ct : hC) {σ : gS} {th : Nat} (hM : gM D σ th ad ct) (hO : okS σ) (y0q : Int32) : Met l yX4_count wsX4_count ({ frames := 6, cells := 1, slots := 8, locals := 142 }) (hPc D N0 ad ct [.ref (ad (80)), .int (y0q)]) (va_Qi (fun (z : Int32) (u : hU) => ((k_count y0q) = 0 → z = tal σ y0q.toInt.toNat) ∧ gM D σ (k_count y0q) u.1 u.2 ∧ hFm ad ct u) (hB D N0) (hA N0)) 1 8 (hA N0) := by
  refine Met.ofW (cc := cX4_count) (maxL := 2) (ret := (some .int)) (by decide) rfl ?_
  intro p e s m args below meth c s₁ B hml hv0
  obtain ⟨hargs, hKs, hV⟩ := hv0
  have hx := B.exec
  have hb := B.bytes
  have hr := B.returns
  have hts := atoms_spec (ws := wsX4_count) B.pre
  have hown : s.vm.findClass RX4 = some m.cls := findClass_of_methodNamed B.named
  have hlocks := B.notSynchronized
  have hS : va_S (hA N0) s.heap s.heap [] := va_S.rf
  have hiX4 : ∀ w ∈ u_ws RX4 TX4 15, w ∈ wsX4_count := by decide +kernel
  have lk41 := hts (.fieldLink RX4 41 "CaneSlicesModel" "thrown" "I") (by decide +kernel)
  have hl := lv_entry ([.ref (ad (80)), .int (y0q)]) (n := 2) (Nat.le_of_ble_eq_true rfl)
  have hE : entryFrame m args 2 = entryFrame m ([.ref (ad (80)), .int (y0q)] : List Value).toArray 2 := by rw [hargs]
  rw [hE, lg_entry_eq]
  generalize (lg_sl ([.ref (ad (80)), .int (y0q)]) ++ List.replicate (2 - (lg_sl ([.ref (ad (80)), .int (y0q)])).length) Slot.unset).toArray = ls at hl ⊢
  have hl : lv_has ls 2 [(0, .ref (ad (80))), (1, .int (y0q))] := hl
  obtain ⟨hn8, hn60, hn6, -⟩ := id hO
  obtain ⟨f1, f2, f3, f4, f5, f6, f7, f8, f9, ⟨hm0, hm1, hm2, hm3, hm4, hm5, hm6, hm7, hm8, hm9⟩, hme⟩ := id hM
  obtain ⟨em1, em2, em3, em4, em5, em6, em7, em8, em9⟩ := id hme
  obtain ⟨ad0, had0⟩ : ∃ z, z = ad := ⟨ad, rfl⟩
  obtain ⟨ct0, hct0⟩ : ∃ z, z = ct := ⟨ct, rfl⟩
  have hfr : ∀ q : Nat, (q ≠ 1 ∧ (q % 16 ≠ 0 ∨ q < 80)) → ct q = ct0 q := fun q _ => by rw [hct0]
  have hfa : ∀ q : Nat, q ≠ 1 → ad q = ad0 q := fun q _ => by rw [had0]
  refine lv_aload_n hx hb dX4_count_0 rfl (lv_at hl 0 rfl) ?_
  refine lv_iconst (v := nI 0) hx hb dX4_count_1 (by decide) ?_
  refine hv_put (ty := .int) (C := RX4) (T := TX4) (N := 15) hx hb hts hiX4 tyX4 tyX4_ok nmX4 hown hKs hV hS hm0 0 rfl (by decide) lk41 (fun _ h9 => h9) (Or.inl (by decide +kernel)) (by decide +kernel) rfl rfl (Nat.le_of_ble_eq_true rfl) dX4_count_2 (fun ct H locs he hne hV hS => ?_)
  have hm1 := (hne (96) (by omega)).trans hm1
  have hm2 := (hne (112) (by omega)).trans hm2
  have hm3 := (hne (128) (by omega)).trans hm3
  have hm4 := (hne (144) (by omega)).trans hm4
  have hm5 := (hne (160) (by omega)).trans hm5
  have hm6 := (hne (176) (by omega)).trans hm6
  have hm7 := (hne (192) (by omega)).trans hm7
  have hm8 := (hne (208) (by omega)).trans hm8
  have hm9 := (hne (224) (by omega)).trans hm9
  have hm0 : ct (80) = some (eO 4 [.int (nI (0)), .int (gMi σ), .int (gFu σ), .int (nI (gNC σ)), .ref (ad (96)), .ref (ad (112)), .ref (ad (128)), .ref (ad (144)), .ref (ad (160)), .int (nI (gNS σ)), .ref (ad (176)), .ref (ad (192)), .int (nI (gNB σ)), .ref (ad (208)), .ref (ad (224))]) := he
  have hfr := fun (q : Nat) (q1 : q ≠ 1 ∧ (q % 16 ≠ 0 ∨ q < 80)) => (hne q (by omega)).trans (hfr q q1)
  refine lv_iload_n hx hb dX4_count_5 rfl (lv_at hl 1 rfl) ?_
  refine lv_iconst (v := nI 0) hx hb dX4_count_6 (by decide) ?_
  refine lv_bipush (v := nI 7) hx hb dX4_count_7 (by decide) ?_
  refine hv_calli (va_runS (As := [.int (y0q), .int (nI (0)), .int (nI (7))]) (rest := []) ⟨hx, hb, hml, hown, hts⟩ (c_X4_isIn l D N0 ad ct ((y0q)) (nI (0)) (nI (7))) (va_cwS 3 hts gX4_count_X4_isIn rfl rfl rfl (by decide +kernel) ⟨Nat.le_of_ble_eq_true rfl, Nat.le_of_ble_eq_true rfl⟩) (hv_preS hKs hV hS) rfl rfl hl.1 rfl (lv_room (Nat.le_of_ble_eq_true rfl)) dX4_count_9 ⟨(Nat.le_of_ble_eq_true rfl), (Nat.le_of_ble_eq_true rfl)⟩) hS (fun r9 u9 H locs hq hV hS => ?_)
  obtain ⟨rfl, rfl⟩ := hq
  have hV : hv D N0 ad ct H := hV
  refine hv_eqi (y := hbv (inR ((y0q)) 8)) (congrArg hbv (inI_k (n := 8) (by omega) rfl)) ?_
  refine hB_if_eq (tgt := 23) hx hb dX4_count_12 (by decide) (fun c12 => ?_) (fun c12 => ?_)
  · refine lv_aload_n hx hb dX4_count_23 rfl (lv_at hl 0 rfl) ?_
    refine lv_iconst (v := nI 1) hx hb dX4_count_24 (by decide) ?_
    refine hv_calli (va_runV (As := [.int (nI (1))]) (rest := []) ⟨hx, hb, hml, hown, hts⟩ (c_X4_no l D N0 ad ct hm0 (1)) (cwV 1 hts gX4_count_X4_no rfl rfl rfl (by decide +kernel) ⟨Nat.le_of_ble_eq_true rfl, Nat.le_of_ble_eq_true rfl⟩) (hv_preV (r := (RX4, TX4, 15)) hKs hV hS hm0 rfl) rfl rfl hl.1 rfl (lv_room (Nat.le_of_ble_eq_true rfl)) dX4_count_25 ⟨(Nat.le_of_ble_eq_true rfl), (Nat.le_of_ble_eq_true rfl)⟩) hS (fun r9 u9 H locs hq hV hS => ?_)
    obtain ⟨ad9, ct⟩ := u9
    dsimp only at hq
    obtain ⟨rfl, ha9, he, hne⟩ := hq
    have ha9 := ha9.symm
    subst ha9
    have hV : hv D N0 ad ct H := hV
    have hm1 := (hne (96) (by omega)).trans hm1
    have hm2 := (hne (112) (by omega)).trans hm2
    have hm3 := (hne (128) (by omega)).trans hm3
    have hm4 := (hne (144) (by omega)).trans hm4
    have hm5 := (hne (160) (by omega)).trans hm5
    have hm6 := (hne (176) (by omega)).trans hm6
    have hm7 := (hne (192) (by omega)).trans hm7
    have hm8 := (hne (208) (by omega)).trans hm8
    have hm9 := (hne (224) (by omega)).trans hm9
    have hm0 : ct (80) = some (eO 4 [.int (nI (1)), .int (gMi σ), .int (gFu σ), .int (nI (gNC σ)), .ref (ad (96)), .ref (ad (112)), .ref (ad (128)), .ref (ad (144)), .ref (ad (160)), .int (nI (gNS σ)), .ref (ad (176)), .ref (ad (192)), .int (nI (gNB σ)), .ref (ad (208)), .ref (ad (224))]) := he
    have hfr := fun (q : Nat) (q1 : q ≠ 1 ∧ (q % 16 ≠ 0 ∨ q < 80)) => (hne q (by omega)).trans (hfr q q1)
    have hkn : (k_count y0q) = 1 := by simp [k_count, c12]
    refine W.widen (k := 1) (n := 8) (by omega) (by omega) ?_
    exact hv_iret (v := nI (0)) (u := (ad, ct)) hx hb hr ⟨fun h9 => absurd (hkn.symm.trans h9) (by decide), by rw [hkn]; exact ⟨f1, f2, f3, f4, f5, f6, f7, f8, f9, ⟨hm0, hm1, hm2, hm3, hm4, hm5, hm6, hm7, hm8, hm9⟩, hme⟩, fun q q1 => ⟨(hfa q q1).trans (by rw [had0]), fun q2 => (hfr q ⟨q1, q2⟩).trans (by rw [hct0])⟩⟩ hV hS dX4_count_28 hlocks
  · obtain ⟨y0qn, hy0qn, rfl⟩ := inR_of c12
    have e_y0q : (nI y0qn).toInt.toNat = y0qn := toNat_nI (by omega)
    refine lv_aload_n hx hb dX4_count_15 rfl (lv_at hl 0 rfl) ?_
    refine lv_iload_n hx hb dX4_count_16 rfl (lv_at hl 1 rfl) ?_
    refine hv_calli (va_runV (As := [.int (nI (y0qn))]) (rest := []) ⟨hx, hb, hml, hown, hts⟩ (c_X4_counted l D N0 ad ct (show gM D σ _ ad ct from ⟨f1, f2, f3, f4, f5, f6, f7, f8, f9, ⟨hm0, hm1, hm2, hm3, hm4, hm5, hm6, hm7, hm8, hm9⟩, hme⟩) hO (y0qn) (by omega)) (cwV 1 hts gX4_count_X4_counted rfl rfl rfl (by decide +kernel) ⟨Nat.le_of_ble_eq_true rfl, Nat.le_of_ble_eq_true rfl⟩) (hv_preV (r := (RX4, TX4, 15)) hKs hV hS hm0 rfl) rfl rfl hl.1 rfl (lv_room (Nat.le_of_ble_eq_true rfl)) dX4_count_17 ⟨(Nat.le_of_ble_eq_true rfl), (Nat.le_of_ble_eq_true rfl)⟩) hS (fun r9 u9 H locs hq hV hS => ?_)
    obtain ⟨ad, ct⟩ := u9
    dsimp only at hq
    obtain ⟨rfl, hna1, hne1⟩ := hq
    have hV : hv D N0 ad ct H := hV
    have hne := fun (q : Nat) (q1 : q ≠ 1) => hne1 q q1
    have hna := fun (q : Nat) (q1 : q ≠ 1) => hna1 q q1
    have hl : lv_has ls 2 [(0, .ref (ad (80))), (1, .int (nI (y0qn)))] := by rw [hna (80) (by omega)]; exact hl
    have hm1 := (hne (96) (by omega)).trans hm1
    have hm2 := (hne (112) (by omega)).trans hm2
    have hm3 := (hne (128) (by omega)).trans hm3
    have hm4 := (hne (144) (by omega)).trans hm4
    have hm5 := (hne (160) (by omega)).trans hm5
    have hm6 := (hne (176) (by omega)).trans hm6
    have hm7 := (hne (192) (by omega)).trans hm7
    have hm8 := (hne (208) (by omega)).trans hm8
    have hm9 := (hne (224) (by omega)).trans hm9
    have hm0 : ct (80) = some (eO 4 [.int (nI (0)), .int (gMi σ), .int (gFu σ), .int (nI (gNC σ)), .ref (ad (96)), .ref (ad (112)), .ref (ad (128)), .ref (ad (144)), .ref (ad (160)), .int (nI (gNS σ)), .ref (ad (176)), .ref (ad (192)), .int (nI (gNB σ)), .ref (ad (208)), .ref (ad (224))]) := by rw [hne (80) (by omega), hna (96) (by omega), hna (112) (by omega), hna (128) (by omega), hna (144) (by omega), hna (160) (by omega), hna (176) (by omega), hna (192) (by omega), hna (208) (by omega), hna (224) (by omega)]; exact hm0
    have hfr := fun (q : Nat) (q1 : q ≠ 1 ∧ (q % 16 ≠ 0 ∨ q < 80)) => (hne q q1.1).trans (hfr q q1)
    have hfa := fun (q : Nat) (q1 : q ≠ 1) => (hna q q1).trans (hfa q q1)
    refine lv_goto (tgt := 28) hx hb dX4_count_20 (by decide) ?_
    have hkn : (k_count (nI y0qn)) = 0 := by simp [k_count, c12, e_y0q]
    refine W.widen (k := 1) (n := 8) (by omega) (by omega) ?_
    exact hv_iret (v := (tal σ (y0qn))) (u := (ad, ct)) hx hb hr ⟨fun _ => by rw [e_y0q], by rw [hkn]; exact ⟨f1, f2, f3, f4, f5, f6, f7, f8, f9, ⟨hm0, hm1, hm2, hm3, hm4, hm5, hm6, hm7, hm8, hm9⟩, hme⟩, fun q q1 => ⟨(hfa q q1).trans (by rw [had0]), fun q2 => (hfr q ⟨q1, q2⟩).trans (by rw [hct0])⟩⟩ hV hS dX4_count_28 hlocks

set_option maxHeartbeats 4000000 in
set_option maxRecDepth 100000 in
theorem c_X4_turn (l : Launch) (D : hG) (N0 : Nat) (ad : Nat → Nat) (ct : hC) {σ : gS} {th : Nat} (hM : gM D σ th ad ct) (hO : okS σ) (y0q y1q : Int32) : Met l yX4_turn wsX4_turn ({ frames := 4, cells := 0, slots := 0, locals := 93 }) (hPc D N0 ad ct [.ref (ad (80)), .int (y0q), .int (y1q)]) (va_Qi (fun (z : Int32) (u : hU) => ((k_turn σ y0q y1q) = 0 → z = plc 8 (lturn (sPt σ y0q.toInt.toNat) (sPt σ y1q.toInt.toNat))) ∧ gM D σ (k_turn σ y0q y1q) u.1 u.2 ∧ hFm ad ct u) (hB D N0) (hA N0)) 0 0 (hA N0) := by
  refine Met.ofW (cc := cX4_turn) (maxL := 3) (ret := (some .int)) (by decide) rfl ?_
  intro p e s m args below meth c s₁ B hml hv0
  obtain ⟨hargs, hKs, hV⟩ := hv0
  have hx := B.exec
  have hb := B.bytes
  have hr := B.returns
  have hts := atoms_spec (ws := wsX4_turn) B.pre
  have hown : s.vm.findClass RX4 = some m.cls := findClass_of_methodNamed B.named
  have hlocks := B.notSynchronized
  have hS : va_S (hA N0) s.heap s.heap [] := va_S.rf
  have hiX4 : ∀ w ∈ u_ws RX4 TX4 15, w ∈ wsX4_turn := by decide +kernel
  have lk41 := hts (.fieldLink RX4 41 "CaneSlicesModel" "thrown" "I") (by decide +kernel)
  have hl := lv_entry ([.ref (ad (80)), .int (y0q), .int (y1q)]) (n := 3) (Nat.le_of_ble_eq_true rfl)
  have hE : entryFrame m args 3 = entryFrame m ([.ref (ad (80)), .int (y0q), .int (y1q)] : List Value).toArray 3 := by rw [hargs]
  rw [hE, lg_entry_eq]
  generalize (lg_sl ([.ref (ad (80)), .int (y0q), .int (y1q)]) ++ List.replicate (3 - (lg_sl ([.ref (ad (80)), .int (y0q), .int (y1q)])).length) Slot.unset).toArray = ls at hl ⊢
  have hl : lv_has ls 3 [(0, .ref (ad (80))), (1, .int (y0q)), (2, .int (y1q))] := hl
  obtain ⟨hn8, hn60, hn6, -⟩ := id hO
  obtain ⟨f1, f2, f3, f4, f5, f6, f7, f8, f9, ⟨hm0, hm1, hm2, hm3, hm4, hm5, hm6, hm7, hm8, hm9⟩, hme⟩ := id hM
  obtain ⟨em1, em2, em3, em4, em5, em6, em7, em8, em9⟩ := id hme
  obtain ⟨ad0, had0⟩ : ∃ z, z = ad := ⟨ad, rfl⟩
  obtain ⟨ct0, hct0⟩ : ∃ z, z = ct := ⟨ct, rfl⟩
  have hfr : ∀ q : Nat, (q ≠ 1 ∧ (q % 16 ≠ 0 ∨ q < 80)) → ct q = ct0 q := fun q _ => by rw [hct0]
  have hfa : ∀ q : Nat, q ≠ 1 → ad q = ad0 q := fun q _ => by rw [had0]
  refine lv_aload_n hx hb dX4_turn_0 rfl (lv_at hl 0 rfl) ?_
  refine lv_iconst (v := nI 0) hx hb dX4_turn_1 (by decide) ?_
  refine hv_put (ty := .int) (C := RX4) (T := TX4) (N := 15) hx hb hts hiX4 tyX4 tyX4_ok nmX4 hown hKs hV hS hm0 0 rfl (by decide) lk41 (fun _ h9 => h9) (Or.inl (by decide +kernel)) (by decide +kernel) rfl rfl (Nat.le_of_ble_eq_true rfl) dX4_turn_2 (fun ct H locs he hne hV hS => ?_)
  have hm1 := (hne (96) (by omega)).trans hm1
  have hm2 := (hne (112) (by omega)).trans hm2
  have hm3 := (hne (128) (by omega)).trans hm3
  have hm4 := (hne (144) (by omega)).trans hm4
  have hm5 := (hne (160) (by omega)).trans hm5
  have hm6 := (hne (176) (by omega)).trans hm6
  have hm7 := (hne (192) (by omega)).trans hm7
  have hm8 := (hne (208) (by omega)).trans hm8
  have hm9 := (hne (224) (by omega)).trans hm9
  have hm0 : ct (80) = some (eO 4 [.int (nI (0)), .int (gMi σ), .int (gFu σ), .int (nI (gNC σ)), .ref (ad (96)), .ref (ad (112)), .ref (ad (128)), .ref (ad (144)), .ref (ad (160)), .int (nI (gNS σ)), .ref (ad (176)), .ref (ad (192)), .int (nI (gNB σ)), .ref (ad (208)), .ref (ad (224))]) := he
  have hfr := fun (q : Nat) (q1 : q ≠ 1 ∧ (q % 16 ≠ 0 ∨ q < 80)) => (hne q (by omega)).trans (hfr q q1)
  refine lv_aload_n hx hb dX4_turn_5 rfl (lv_at hl 0 rfl) ?_
  refine lv_iload_n hx hb dX4_turn_6 rfl (lv_at hl 1 rfl) ?_
  refine hv_calli (va_runV (As := [.int (y0q)]) (rest := []) ⟨hx, hb, hml, hown, hts⟩ (c_X4_isSlice l D N0 ad ct (show gM D σ _ ad ct from ⟨f1, f2, f3, f4, f5, f6, f7, f8, f9, ⟨hm0, hm1, hm2, hm3, hm4, hm5, hm6, hm7, hm8, hm9⟩, hme⟩) hO ((y0q))) (cwV 1 hts gX4_turn_X4_isSlice rfl rfl rfl (by decide +kernel) ⟨Nat.le_of_ble_eq_true rfl, Nat.le_of_ble_eq_true rfl⟩) (hv_preV (r := (RX4, TX4, 15)) hKs hV hS hm0 rfl) rfl rfl hl.1 rfl (lv_room (Nat.le_of_ble_eq_true rfl)) dX4_turn_7 ⟨(Nat.le_of_ble_eq_true rfl), (Nat.le_of_ble_eq_true rfl)⟩) hS (fun r9 u9 H locs hq hV hS => ?_)
  obtain ⟨rfl, rfl⟩ := hq
  have hV : hv D N0 ad ct H := hV
  refine hB_if_eq (tgt := 30) hx hb dX4_turn_10 (by decide) (fun c10 => ?_) (fun c10 => ?_)
  · refine lv_aload_n hx hb dX4_turn_30 rfl (lv_at hl 0 rfl) ?_
    refine lv_iconst (v := nI 1) hx hb dX4_turn_31 (by decide) ?_
    refine hv_calli (va_runV (As := [.int (nI (1))]) (rest := []) ⟨hx, hb, hml, hown, hts⟩ (c_X4_no l D N0 ad ct hm0 (1)) (cwV 1 hts gX4_turn_X4_no rfl rfl rfl (by decide +kernel) ⟨Nat.le_of_ble_eq_true rfl, Nat.le_of_ble_eq_true rfl⟩) (hv_preV (r := (RX4, TX4, 15)) hKs hV hS hm0 rfl) rfl rfl hl.1 rfl (lv_room (Nat.le_of_ble_eq_true rfl)) dX4_turn_32 ⟨(Nat.le_of_ble_eq_true rfl), (Nat.le_of_ble_eq_true rfl)⟩) hS (fun r9 u9 H locs hq hV hS => ?_)
    obtain ⟨ad9, ct⟩ := u9
    dsimp only at hq
    obtain ⟨rfl, ha9, he, hne⟩ := hq
    have ha9 := ha9.symm
    subst ha9
    have hV : hv D N0 ad ct H := hV
    have hm1 := (hne (96) (by omega)).trans hm1
    have hm2 := (hne (112) (by omega)).trans hm2
    have hm3 := (hne (128) (by omega)).trans hm3
    have hm4 := (hne (144) (by omega)).trans hm4
    have hm5 := (hne (160) (by omega)).trans hm5
    have hm6 := (hne (176) (by omega)).trans hm6
    have hm7 := (hne (192) (by omega)).trans hm7
    have hm8 := (hne (208) (by omega)).trans hm8
    have hm9 := (hne (224) (by omega)).trans hm9
    have hm0 : ct (80) = some (eO 4 [.int (nI (1)), .int (gMi σ), .int (gFu σ), .int (nI (gNC σ)), .ref (ad (96)), .ref (ad (112)), .ref (ad (128)), .ref (ad (144)), .ref (ad (160)), .int (nI (gNS σ)), .ref (ad (176)), .ref (ad (192)), .int (nI (gNB σ)), .ref (ad (208)), .ref (ad (224))]) := he
    have hfr := fun (q : Nat) (q1 : q ≠ 1 ∧ (q % 16 ≠ 0 ∨ q < 80)) => (hne q (by omega)).trans (hfr q q1)
    have hkn : (k_turn σ y0q y1q) = 1 := by simp [k_turn, c10]
    exact hv_iret (v := nI (0)) (u := (ad, ct)) hx hb hr ⟨fun h9 => absurd (hkn.symm.trans h9) (by decide), by rw [hkn]; exact ⟨f1, f2, f3, f4, f5, f6, f7, f8, f9, ⟨hm0, hm1, hm2, hm3, hm4, hm5, hm6, hm7, hm8, hm9⟩, hme⟩, fun q q1 => ⟨(hfa q q1).trans (by rw [had0]), fun q2 => (hfr q ⟨q1, q2⟩).trans (by rw [hct0])⟩⟩ hV hS dX4_turn_35 hlocks
  · obtain ⟨y0qn, hy0qn, rfl⟩ := inR_of c10
    have e_y0q : (nI y0qn).toInt.toNat = y0qn := toNat_nI (by omega)
    refine lv_aload_n hx hb dX4_turn_13 rfl (lv_at hl 0 rfl) ?_
    refine lv_iload_n hx hb dX4_turn_14 rfl (lv_at hl 2 rfl) ?_
    refine hv_calli (va_runV (As := [.int (y1q)]) (rest := []) ⟨hx, hb, hml, hown, hts⟩ (c_X4_isSlice l D N0 ad ct (show gM D σ _ ad ct from ⟨f1, f2, f3, f4, f5, f6, f7, f8, f9, ⟨hm0, hm1, hm2, hm3, hm4, hm5, hm6, hm7, hm8, hm9⟩, hme⟩) hO ((y1q))) (cwV 1 hts gX4_turn_X4_isSlice rfl rfl rfl (by decide +kernel) ⟨Nat.le_of_ble_eq_true rfl, Nat.le_of_ble_eq_true rfl⟩) (hv_preV (r := (RX4, TX4, 15)) hKs hV hS hm0 rfl) rfl rfl hl.1 rfl (lv_room (Nat.le_of_ble_eq_true rfl)) dX4_turn_15 ⟨(Nat.le_of_ble_eq_true rfl), (Nat.le_of_ble_eq_true rfl)⟩) hS (fun r9 u9 H locs hq hV hS => ?_)
    obtain ⟨rfl, rfl⟩ := hq
    have hV : hv D N0 ad ct H := hV
    refine hB_if_eq (tgt := 30) hx hb dX4_turn_18 (by decide) (fun c18 => ?_) (fun c18 => ?_)
    · refine lv_aload_n hx hb dX4_turn_30 rfl (lv_at hl 0 rfl) ?_
      refine lv_iconst (v := nI 1) hx hb dX4_turn_31 (by decide) ?_
      refine hv_calli (va_runV (As := [.int (nI (1))]) (rest := []) ⟨hx, hb, hml, hown, hts⟩ (c_X4_no l D N0 ad ct hm0 (1)) (cwV 1 hts gX4_turn_X4_no rfl rfl rfl (by decide +kernel) ⟨Nat.le_of_ble_eq_true rfl, Nat.le_of_ble_eq_true rfl⟩) (hv_preV (r := (RX4, TX4, 15)) hKs hV hS hm0 rfl) rfl rfl hl.1 rfl (lv_room (Nat.le_of_ble_eq_true rfl)) dX4_turn_32 ⟨(Nat.le_of_ble_eq_true rfl), (Nat.le_of_ble_eq_true rfl)⟩) hS (fun r9 u9 H locs hq hV hS => ?_)
      obtain ⟨ad9, ct⟩ := u9
      dsimp only at hq
      obtain ⟨rfl, ha9, he, hne⟩ := hq
      have ha9 := ha9.symm
      subst ha9
      have hV : hv D N0 ad ct H := hV
      have hm1 := (hne (96) (by omega)).trans hm1
      have hm2 := (hne (112) (by omega)).trans hm2
      have hm3 := (hne (128) (by omega)).trans hm3
      have hm4 := (hne (144) (by omega)).trans hm4
      have hm5 := (hne (160) (by omega)).trans hm5
      have hm6 := (hne (176) (by omega)).trans hm6
      have hm7 := (hne (192) (by omega)).trans hm7
      have hm8 := (hne (208) (by omega)).trans hm8
      have hm9 := (hne (224) (by omega)).trans hm9
      have hm0 : ct (80) = some (eO 4 [.int (nI (1)), .int (gMi σ), .int (gFu σ), .int (nI (gNC σ)), .ref (ad (96)), .ref (ad (112)), .ref (ad (128)), .ref (ad (144)), .ref (ad (160)), .int (nI (gNS σ)), .ref (ad (176)), .ref (ad (192)), .int (nI (gNB σ)), .ref (ad (208)), .ref (ad (224))]) := he
      have hfr := fun (q : Nat) (q1 : q ≠ 1 ∧ (q % 16 ≠ 0 ∨ q < 80)) => (hne q (by omega)).trans (hfr q q1)
      have hkn : (k_turn σ (nI y0qn) y1q) = 1 := by simp [k_turn, c10, c18, e_y0q]
      exact hv_iret (v := nI (0)) (u := (ad, ct)) hx hb hr ⟨fun h9 => absurd (hkn.symm.trans h9) (by decide), by rw [hkn]; exact ⟨f1, f2, f3, f4, f5, f6, f7, f8, f9, ⟨hm0, hm1, hm2, hm3, hm4, hm5, hm6, hm7, hm8, hm9⟩, hme⟩, fun q q1 => ⟨(hfa q q1).trans (by rw [had0]), fun q2 => (hfr q ⟨q1, q2⟩).trans (by rw [hct0])⟩⟩ hV hS dX4_turn_35 hlocks
    · obtain ⟨y1qn, hy1qn, rfl⟩ := inR_of c18
      have e_y1q : (nI y1qn).toInt.toNat = y1qn := toNat_nI (by omega)
      refine lv_aload_n hx hb dX4_turn_21 rfl (lv_at hl 0 rfl) ?_
      refine lv_iload_n hx hb dX4_turn_22 rfl (lv_at hl 1 rfl) ?_
      refine lv_iload_n hx hb dX4_turn_23 rfl (lv_at hl 2 rfl) ?_
      refine hv_calli (va_runV (As := [.int (nI (y0qn)), .int (nI (y1qn))]) (rest := []) ⟨hx, hb, hml, hown, hts⟩ (c_X4_turnTo l D N0 ad ct (show gM D σ _ ad ct from ⟨f1, f2, f3, f4, f5, f6, f7, f8, f9, ⟨hm0, hm1, hm2, hm3, hm4, hm5, hm6, hm7, hm8, hm9⟩, hme⟩) hO (y0qn) (y1qn) (by omega) (by omega)) (cwV 2 hts gX4_turn_X4_turnTo rfl rfl rfl (by decide +kernel) ⟨Nat.le_of_ble_eq_true rfl, Nat.le_of_ble_eq_true rfl⟩) (hv_preV (r := (RX4, TX4, 15)) hKs hV hS hm0 rfl) rfl rfl hl.1 rfl (lv_room (Nat.le_of_ble_eq_true rfl)) dX4_turn_24 ⟨(Nat.le_of_ble_eq_true rfl), (Nat.le_of_ble_eq_true rfl)⟩) hS (fun r9 u9 H locs hq hV hS => ?_)
      obtain ⟨rfl, rfl⟩ := hq
      have hV : hv D N0 ad ct H := hV
      refine lv_goto (tgt := 35) hx hb dX4_turn_27 (by decide) ?_
      have hkn : (k_turn σ (nI y0qn) (nI y1qn)) = 0 := by simp [k_turn, c10, c18, e_y0q, e_y1q]
      exact hv_iret (v := (plc 8 (lturn (sPt σ (y0qn)) (sPt σ (y1qn))))) (u := (ad, ct)) hx hb hr ⟨fun _ => by rw [e_y0q, e_y1q], by rw [hkn]; exact ⟨f1, f2, f3, f4, f5, f6, f7, f8, f9, ⟨hm0, hm1, hm2, hm3, hm4, hm5, hm6, hm7, hm8, hm9⟩, hme⟩, fun q q1 => ⟨(hfa q q1).trans (by rw [had0]), fun q2 => (hfr q ⟨q1, q2⟩).trans (by rw [hct0])⟩⟩ hV hS dX4_turn_35 hlocks

set_option maxHeartbeats 4000000 in
set_option maxRecDepth 100000 in
theorem c_X4_seen (l : Launch) (D : hG) (N0 : Nat) (ad : Nat → Nat) (ct : hC) {σ : gS} {th : Nat} (hM : gM D σ th ad ct) (hO : okS σ) (y0q y1q y2q y3q : Int32) : Met l yX4_seen wsX4_seen ({ frames := 2, cells := 0, slots := 0, locals := 44 }) (hPc D N0 ad ct [.ref (ad (80)), .int (y0q), .int (y1q), .int (y2q), .int (y3q)]) (va_Qi (fun (z : Int32) (u : hU) => ((k_seen σ y0q y1q y2q y3q) = 0 → z = r_seen σ (4 * y0q.toInt.toNat + y1q.toInt.toNat) (8 * y2q.toInt.toNat + y3q.toInt.toNat)) ∧ gM D σ (k_seen σ y0q y1q y2q y3q) u.1 u.2 ∧ hFm ad ct u) (hB D N0) (hA N0)) 0 0 (hA N0) := by
  refine Met.ofW (cc := cX4_seen) (maxL := 6) (ret := (some .int)) (by decide) rfl ?_
  intro p e s m args below meth c s₁ B hml hv0
  obtain ⟨hargs, hKs, hV⟩ := hv0
  have hx := B.exec
  have hb := B.bytes
  have hr := B.returns
  have hts := atoms_spec (ws := wsX4_seen) B.pre
  have hown : s.vm.findClass RX4 = some m.cls := findClass_of_methodNamed B.named
  have hlocks := B.notSynchronized
  have hS : va_S (hA N0) s.heap s.heap [] := va_S.rf
  have hiX4 : ∀ w ∈ u_ws RX4 TX4 15, w ∈ wsX4_seen := by decide +kernel
  have lk41 := hts (.fieldLink RX4 41 "CaneSlicesModel" "thrown" "I") (by decide +kernel)
  have lk35 := hts (.fieldLink RX4 35 "CaneSlicesModel" "eye" "[I") (by decide +kernel)
  have lk29 := hts (.fieldLink RX4 29 "CaneSlicesModel" "look" "[I") (by decide +kernel)
  have lk38 := hts (.fieldLink RX4 38 "CaneSlicesModel" "turned" "[I") (by decide +kernel)
  have hl := lv_entry ([.ref (ad (80)), .int (y0q), .int (y1q), .int (y2q), .int (y3q)]) (n := 6) (Nat.le_of_ble_eq_true rfl)
  have hE : entryFrame m args 6 = entryFrame m ([.ref (ad (80)), .int (y0q), .int (y1q), .int (y2q), .int (y3q)] : List Value).toArray 6 := by rw [hargs]
  rw [hE, lg_entry_eq]
  generalize (lg_sl ([.ref (ad (80)), .int (y0q), .int (y1q), .int (y2q), .int (y3q)]) ++ List.replicate (6 - (lg_sl ([.ref (ad (80)), .int (y0q), .int (y1q), .int (y2q), .int (y3q)])).length) Slot.unset).toArray = ls at hl ⊢
  have hl : lv_has ls 6 [(0, .ref (ad (80))), (1, .int (y0q)), (2, .int (y1q)), (3, .int (y2q)), (4, .int (y3q))] := hl
  obtain ⟨hn8, hn60, hn6, -⟩ := id hO
  obtain ⟨f1, f2, f3, f4, f5, f6, f7, f8, f9, ⟨hm0, hm1, hm2, hm3, hm4, hm5, hm6, hm7, hm8, hm9⟩, hme⟩ := id hM
  obtain ⟨em1, em2, em3, em4, em5, em6, em7, em8, em9⟩ := id hme
  obtain ⟨ad0, had0⟩ : ∃ z, z = ad := ⟨ad, rfl⟩
  obtain ⟨ct0, hct0⟩ : ∃ z, z = ct := ⟨ct, rfl⟩
  have hfr : ∀ q : Nat, (q ≠ 1 ∧ (q % 16 ≠ 0 ∨ q < 80)) → ct q = ct0 q := fun q _ => by rw [hct0]
  have hfa : ∀ q : Nat, q ≠ 1 → ad q = ad0 q := fun q _ => by rw [had0]
  refine lv_aload_n hx hb dX4_seen_0 rfl (lv_at hl 0 rfl) ?_
  refine lv_iconst (v := nI 0) hx hb dX4_seen_1 (by decide) ?_
  refine hv_put (ty := .int) (C := RX4) (T := TX4) (N := 15) hx hb hts hiX4 tyX4 tyX4_ok nmX4 hown hKs hV hS hm0 0 rfl (by decide) lk41 (fun _ h9 => h9) (Or.inl (by decide +kernel)) (by decide +kernel) rfl rfl (Nat.le_of_ble_eq_true rfl) dX4_seen_2 (fun ct H locs he hne hV hS => ?_)
  have hm1 := (hne (96) (by omega)).trans hm1
  have hm2 := (hne (112) (by omega)).trans hm2
  have hm3 := (hne (128) (by omega)).trans hm3
  have hm4 := (hne (144) (by omega)).trans hm4
  have hm5 := (hne (160) (by omega)).trans hm5
  have hm6 := (hne (176) (by omega)).trans hm6
  have hm7 := (hne (192) (by omega)).trans hm7
  have hm8 := (hne (208) (by omega)).trans hm8
  have hm9 := (hne (224) (by omega)).trans hm9
  have hm0 : ct (80) = some (eO 4 [.int (nI (0)), .int (gMi σ), .int (gFu σ), .int (nI (gNC σ)), .ref (ad (96)), .ref (ad (112)), .ref (ad (128)), .ref (ad (144)), .ref (ad (160)), .int (nI (gNS σ)), .ref (ad (176)), .ref (ad (192)), .int (nI (gNB σ)), .ref (ad (208)), .ref (ad (224))]) := he
  have hfr := fun (q : Nat) (q1 : q ≠ 1 ∧ (q % 16 ≠ 0 ∨ q < 80)) => (hne q (by omega)).trans (hfr q q1)
  refine lv_aload_n hx hb dX4_seen_5 rfl (lv_at hl 0 rfl) ?_
  refine lv_iload_n hx hb dX4_seen_6 rfl (lv_at hl 1 rfl) ?_
  refine lv_iload_n hx hb dX4_seen_7 rfl (lv_at hl 2 rfl) ?_
  refine hv_calli (va_runV (As := [.int (y0q), .int (y1q)]) (rest := []) ⟨hx, hb, hml, hown, hts⟩ (c_X4_isEye l D N0 ad ct (show gM D σ _ ad ct from ⟨f1, f2, f3, f4, f5, f6, f7, f8, f9, ⟨hm0, hm1, hm2, hm3, hm4, hm5, hm6, hm7, hm8, hm9⟩, hme⟩) hO ((y0q)) ((y1q))) (cwV 2 hts gX4_seen_X4_isEye rfl rfl rfl (by decide +kernel) ⟨Nat.le_of_ble_eq_true rfl, Nat.le_of_ble_eq_true rfl⟩) (hv_preV (r := (RX4, TX4, 15)) hKs hV hS hm0 rfl) rfl rfl hl.1 rfl (lv_room (Nat.le_of_ble_eq_true rfl)) dX4_seen_8 ⟨(Nat.le_of_ble_eq_true rfl), (Nat.le_of_ble_eq_true rfl)⟩) hS (fun r9 u9 H locs hq hV hS => ?_)
  obtain ⟨rfl, rfl⟩ := hq
  have hV : hv D N0 ad ct H := hV
  refine hB_if_eq (tgt := 23) hx hb dX4_seen_11 (by decide) (fun c11 => ?_) (fun c11 => ?_)
  · have c11f := Bool.and_eq_false_iff.mp c11
    refine lv_aload_n hx hb dX4_seen_23 rfl (lv_at hl 0 rfl) ?_
    refine lv_iconst (v := nI 1) hx hb dX4_seen_24 (by decide) ?_
    refine hv_calli (va_runV (As := [.int (nI (1))]) (rest := []) ⟨hx, hb, hml, hown, hts⟩ (c_X4_no l D N0 ad ct hm0 (1)) (cwV 1 hts gX4_seen_X4_no rfl rfl rfl (by decide +kernel) ⟨Nat.le_of_ble_eq_true rfl, Nat.le_of_ble_eq_true rfl⟩) (hv_preV (r := (RX4, TX4, 15)) hKs hV hS hm0 rfl) rfl rfl hl.1 rfl (lv_room (Nat.le_of_ble_eq_true rfl)) dX4_seen_25 ⟨(Nat.le_of_ble_eq_true rfl), (Nat.le_of_ble_eq_true rfl)⟩) hS (fun r9 u9 H locs hq hV hS => ?_)
    obtain ⟨ad9, ct⟩ := u9
    dsimp only at hq
    obtain ⟨rfl, ha9, he, hne⟩ := hq
    have ha9 := ha9.symm
    subst ha9
    have hV : hv D N0 ad ct H := hV
    have hm1 := (hne (96) (by omega)).trans hm1
    have hm2 := (hne (112) (by omega)).trans hm2
    have hm3 := (hne (128) (by omega)).trans hm3
    have hm4 := (hne (144) (by omega)).trans hm4
    have hm5 := (hne (160) (by omega)).trans hm5
    have hm6 := (hne (176) (by omega)).trans hm6
    have hm7 := (hne (192) (by omega)).trans hm7
    have hm8 := (hne (208) (by omega)).trans hm8
    have hm9 := (hne (224) (by omega)).trans hm9
    have hm0 : ct (80) = some (eO 4 [.int (nI (1)), .int (gMi σ), .int (gFu σ), .int (nI (gNC σ)), .ref (ad (96)), .ref (ad (112)), .ref (ad (128)), .ref (ad (144)), .ref (ad (160)), .int (nI (gNS σ)), .ref (ad (176)), .ref (ad (192)), .int (nI (gNB σ)), .ref (ad (208)), .ref (ad (224))]) := he
    have hfr := fun (q : Nat) (q1 : q ≠ 1 ∧ (q % 16 ≠ 0 ∨ q < 80)) => (hne q (by omega)).trans (hfr q q1)
    have hkn : (k_seen σ y0q y1q y2q y3q) = 1 := by rcases c11f with h9 | h9 <;> simp [k_seen, h9]
    exact hv_iret (v := nI (0)) (u := (ad, ct)) hx hb hr ⟨fun h9 => absurd (hkn.symm.trans h9) (by decide), by rw [hkn]; exact ⟨f1, f2, f3, f4, f5, f6, f7, f8, f9, ⟨hm0, hm1, hm2, hm3, hm4, hm5, hm6, hm7, hm8, hm9⟩, hme⟩, fun q q1 => ⟨(hfa q q1).trans (by rw [had0]), fun q2 => (hfr q ⟨q1, q2⟩).trans (by rw [hct0])⟩⟩ hV hS dX4_seen_28 hlocks
  · obtain ⟨c11a, c11b⟩ := Bool.and_eq_true_iff.mp c11
    obtain ⟨y0qn, hy0qn, rfl⟩ := inR_of c11a
    have e_y0q : (nI y0qn).toInt.toNat = y0qn := toNat_nI (by omega)
    obtain ⟨y1qn, hy1qn, rfl⟩ := inR_of c11b
    have e_y1q : (nI y1qn).toInt.toNat = y1qn := toNat_nI (by omega)
    refine lv_iload_n hx hb dX4_seen_14 rfl (lv_at hl 3 rfl) ?_
    refine lv_iload hx hb dX4_seen_15 (lv_at hl 4 rfl) ?_
    refine hv_calli (va_runS (As := [.int (y2q), .int (y3q)]) (rest := []) ⟨hx, hb, hml, hown, hts⟩ (c_X4_isSpot l D N0 ad ct ((y2q)) ((y3q))) (va_cwS 2 hts gX4_seen_X4_isSpot rfl rfl rfl (by decide +kernel) ⟨Nat.le_of_ble_eq_true rfl, Nat.le_of_ble_eq_true rfl⟩) (hv_preS hKs hV hS) rfl rfl hl.1 rfl (lv_room (Nat.le_of_ble_eq_true rfl)) dX4_seen_17 ⟨(Nat.le_of_ble_eq_true rfl), (Nat.le_of_ble_eq_true rfl)⟩) hS (fun r9 u9 H locs hq hV hS => ?_)
    obtain ⟨rfl, rfl⟩ := hq
    have hV : hv D N0 ad ct H := hV
    refine hB_if_ne (tgt := 29) hx hb dX4_seen_20 (by decide) (fun c20 => ?_) (fun c20 => ?_)
    · obtain ⟨c20a, c20b⟩ := Bool.and_eq_true_iff.mp c20
      obtain ⟨y2qn, hy2qn, rfl⟩ := inR_of c20a
      have e_y2q : (nI y2qn).toInt.toNat = y2qn := toNat_nI (by omega)
      obtain ⟨y3qn, hy3qn, rfl⟩ := inR_of c20b
      have e_y3q : (nI y3qn).toInt.toNat = y3qn := toNat_nI (by omega)
      refine lv_iconst (v := nI 4) hx hb dX4_seen_29 (by decide) ?_
      refine lv_iload_n hx hb dX4_seen_30 rfl (lv_at hl 1 rfl) ?_
      refine hN_imul hx hb dX4_seen_31 ?_
      refine lv_iload_n hx hb dX4_seen_32 rfl (lv_at hl 2 rfl) ?_
      refine hN_iadd hx hb dX4_seen_33 ?_
      refine lv_istore (lv' := [(5, .int (nI ((4) * (y0qn) + y1qn))), (0, .ref (ad (80))), (1, .int (nI (y0qn))), (2, .int (nI (y1qn))), (3, .int (nI (y2qn))), (4, .int (nI (y3qn)))]) hx hb dX4_seen_34 hl (by decide) rfl (fun ls hl => ?_)
      refine lv_aload_n hx hb dX4_seen_36 rfl (lv_at hl 1 rfl) ?_
      refine hv_get (C := RX4) (T := TX4) (N := 15) hx hb hts hiX4 hown hKs hV hm0 13 rfl (by decide) lk35 (fun _ h9 => h9) rfl dX4_seen_37 ?_
      refine lv_iload hx hb dX4_seen_40 (lv_at hl 0 rfl) ?_
      refine hv_iald hx hb hKs hV hm8 (by omega) (by decide) dX4_seen_42 ?_
      rcases hq42 : gEy σ ((4) * (y0qn) + y1qn) with _ | ⟨s42, t42⟩
      · refine hv_eqi ((em8 ((4) * (y0qn) + y1qn) (by omega)).trans (esl_0 hq42)) ?_
        refine lv_iconst (v := (-1)) hx hb dX4_seen_43 (by decide) ?_
        refine hI_icmp_ne (tgt := 51) hx hb dX4_seen_44 (by decide) (fun c44 => by exact absurd rfl c44) (fun c44 => ?_)
        refine lv_iconst (v := (-1)) hx hb dX4_seen_47 (by decide) ?_
        refine lv_goto (tgt := 82) hx hb dX4_seen_48 (by decide) ?_
        have hkn : (k_seen σ (nI y0qn) (nI y1qn) (nI y2qn) (nI y3qn)) = 0 := by simp [k_seen, c11a, c11b, c20a, c20b, e_y0q, e_y1q, e_y2q, e_y3q]
        exact hv_iret (v := ((-1))) (u := (ad, ct)) hx hb hr ⟨fun _ => by rw [e_y0q, e_y1q, e_y2q, e_y3q]; unfold r_seen; rw [hq42], by rw [hkn]; exact ⟨f1, f2, f3, f4, f5, f6, f7, f8, f9, ⟨hm0, hm1, hm2, hm3, hm4, hm5, hm6, hm7, hm8, hm9⟩, hme⟩, fun q q1 => ⟨(hfa q q1).trans (by rw [had0]), fun q2 => (hfr q ⟨q1, q2⟩).trans (by rw [hct0])⟩⟩ hV hS dX4_seen_82 hlocks
      · obtain ⟨he42, hs42, ht42, hy42⟩ := hO.2.2.2.2.2.1 _ _ _ hq42
        refine hv_eqi ((em8 ((4) * (y0qn) + y1qn) (by omega)).trans (esl_1 hq42)) ?_
        refine lv_iconst (v := (-1)) hx hb dX4_seen_43 (by decide) ?_
        refine hL_icmp_ne (tgt := 51) hx hb (by omega) dX4_seen_44 (by decide) (fun c44 => ?_) (fun c44 => by exact absurd c44 (by rw [h_m1]; omega))
        refine lv_aload_n hx hb dX4_seen_51 rfl (lv_at hl 1 rfl) ?_
        refine hv_get (C := RX4) (T := TX4) (N := 15) hx hb hts hiX4 hown hKs hV hm0 10 rfl (by decide) lk29 (fun _ h9 => h9) rfl dX4_seen_52 ?_
        refine lv_iconst (v := nI 3) hx hb dX4_seen_55 (by decide) ?_
        refine lv_aload_n hx hb dX4_seen_56 rfl (lv_at hl 1 rfl) ?_
        refine hv_get (C := RX4) (T := TX4) (N := 15) hx hb hts hiX4 hown hKs hV hm0 13 rfl (by decide) lk35 (fun _ h9 => h9) rfl dX4_seen_57 ?_
        refine lv_iload hx hb dX4_seen_60 (lv_at hl 0 rfl) ?_
        refine hv_iald hx hb hKs hV hm8 (by omega) (by decide) dX4_seen_62 ?_
        refine hv_eqi ((em8 ((4) * (y0qn) + y1qn) (by omega)).trans (esl_1 hq42)) ?_
        refine hN_imul hx hb dX4_seen_63 ?_
        refine lv_iload_n hx hb dX4_seen_64 rfl (lv_at hl 4 rfl) ?_
        refine hN_iadd hx hb dX4_seen_65 ?_
        refine hv_iald hx hb hKs hV hm6 (by omega) (by decide) dX4_seen_66 ?_
        refine hv_eqi (em6 (s42) (by omega) (y2qn) (by omega)) ?_
        refine lv_aload_n hx hb dX4_seen_67 rfl (lv_at hl 1 rfl) ?_
        refine hv_get (C := RX4) (T := TX4) (N := 15) hx hb hts hiX4 hown hKs hV hm0 14 rfl (by decide) lk38 (fun _ h9 => h9) rfl dX4_seen_68 ?_
        refine lv_iload hx hb dX4_seen_71 (lv_at hl 0 rfl) ?_
        refine hv_iald hx hb hKs hV hm9 (by omega) (by decide) dX4_seen_73 ?_
        refine hv_eqi ((em9 ((4) * (y0qn) + y1qn) (by omega)).trans (etn_1 hq42)) ?_
        refine hv_calli (va_runS (As := [.int (nI (rgP (sPt σ (s42)) (y2qn))), .int (nI (t42))]) (rest := []) ⟨hx, hb, hml, hown, hts⟩ (c_X4_rotated l D N0 ad ct (f := fun z => sPt σ (s42) (8 * (y2qn) + z)) (ok24.dg (P := sPt σ (s42)) (hO.2.2.2.2.1 (s42) (by omega)).1 (by omega)) (nI (t42))) (va_cwS 2 hts gX4_seen_X4_rotated rfl rfl rfl (by decide +kernel) ⟨Nat.le_of_ble_eq_true rfl, Nat.le_of_ble_eq_true rfl⟩) (hv_preS hKs hV hS) rfl rfl hl.1 rfl (lv_room (Nat.le_of_ble_eq_true rfl)) dX4_seen_74 ⟨(Nat.le_of_ble_eq_true rfl), (Nat.le_of_ble_eq_true rfl)⟩) hS (fun r9 u9 H locs hq hV hS => ?_)
        obtain ⟨rfl, rfl⟩ := hq
        have hV : hv D N0 ad ct H := hV
        refine hv_eqi (y := nI (rgP (rot (nI (t42)) (sPt σ (s42))) (y2qn))) (congrArg nI rgP_rot) ?_
        refine lv_iload hx hb dX4_seen_77 (lv_at hl 5 rfl) ?_
        refine hv_calli (va_runS (As := [.int (nI (rgP (rot (nI (t42)) (sPt σ (s42))) (y2qn))), .int (nI (y3qn))]) (rest := []) ⟨hx, hb, hml, hown, hts⟩ (c_X4_colourOf l D N0 ad ct (f := fun z => rot (nI (t42)) (sPt σ (s42)) (8 * (y2qn) + z)) (ok24.dg (P := rot (nI (t42)) (sPt σ (s42))) (rot_8 (hO.2.2.2.2.1 (s42) (by omega)).1) (by omega)) (y3qn) (by omega)) (va_cwS 2 hts gX4_seen_X4_colourOf rfl rfl rfl (by decide +kernel) ⟨Nat.le_of_ble_eq_true rfl, Nat.le_of_ble_eq_true rfl⟩) (hv_preS hKs hV hS) rfl rfl hl.1 rfl (lv_room (Nat.le_of_ble_eq_true rfl)) dX4_seen_79 ⟨(Nat.le_of_ble_eq_true rfl), (Nat.le_of_ble_eq_true rfl)⟩) hS (fun r9 u9 H locs hq hV hS => ?_)
        obtain ⟨rfl, rfl⟩ := hq
        have hV : hv D N0 ad ct H := hV
        have hkn : (k_seen σ (nI y0qn) (nI y1qn) (nI y2qn) (nI y3qn)) = 0 := by simp [k_seen, c11a, c11b, c20a, c20b, e_y0q, e_y1q, e_y2q, e_y3q]
        exact hv_iret (v := nI (rot (nI (t42)) (sPt σ (s42)) (8 * (y2qn) + (y3qn)))) (u := (ad, ct)) hx hb hr ⟨fun _ => by rw [e_y0q, e_y1q, e_y2q, e_y3q]; unfold r_seen; rw [hq42], by rw [hkn]; exact ⟨f1, f2, f3, f4, f5, f6, f7, f8, f9, ⟨hm0, hm1, hm2, hm3, hm4, hm5, hm6, hm7, hm8, hm9⟩, hme⟩, fun q q1 => ⟨(hfa q q1).trans (by rw [had0]), fun q2 => (hfr q ⟨q1, q2⟩).trans (by rw [hct0])⟩⟩ hV hS dX4_seen_82 hlocks
    · have c20f := Bool.and_eq_false_iff.mp c20
      refine lv_aload_n hx hb dX4_seen_23 rfl (lv_at hl 0 rfl) ?_
      refine lv_iconst (v := nI 1) hx hb dX4_seen_24 (by decide) ?_
      refine hv_calli (va_runV (As := [.int (nI (1))]) (rest := []) ⟨hx, hb, hml, hown, hts⟩ (c_X4_no l D N0 ad ct hm0 (1)) (cwV 1 hts gX4_seen_X4_no rfl rfl rfl (by decide +kernel) ⟨Nat.le_of_ble_eq_true rfl, Nat.le_of_ble_eq_true rfl⟩) (hv_preV (r := (RX4, TX4, 15)) hKs hV hS hm0 rfl) rfl rfl hl.1 rfl (lv_room (Nat.le_of_ble_eq_true rfl)) dX4_seen_25 ⟨(Nat.le_of_ble_eq_true rfl), (Nat.le_of_ble_eq_true rfl)⟩) hS (fun r9 u9 H locs hq hV hS => ?_)
      obtain ⟨ad9, ct⟩ := u9
      dsimp only at hq
      obtain ⟨rfl, ha9, he, hne⟩ := hq
      have ha9 := ha9.symm
      subst ha9
      have hV : hv D N0 ad ct H := hV
      have hm1 := (hne (96) (by omega)).trans hm1
      have hm2 := (hne (112) (by omega)).trans hm2
      have hm3 := (hne (128) (by omega)).trans hm3
      have hm4 := (hne (144) (by omega)).trans hm4
      have hm5 := (hne (160) (by omega)).trans hm5
      have hm6 := (hne (176) (by omega)).trans hm6
      have hm7 := (hne (192) (by omega)).trans hm7
      have hm8 := (hne (208) (by omega)).trans hm8
      have hm9 := (hne (224) (by omega)).trans hm9
      have hm0 : ct (80) = some (eO 4 [.int (nI (1)), .int (gMi σ), .int (gFu σ), .int (nI (gNC σ)), .ref (ad (96)), .ref (ad (112)), .ref (ad (128)), .ref (ad (144)), .ref (ad (160)), .int (nI (gNS σ)), .ref (ad (176)), .ref (ad (192)), .int (nI (gNB σ)), .ref (ad (208)), .ref (ad (224))]) := he
      have hfr := fun (q : Nat) (q1 : q ≠ 1 ∧ (q % 16 ≠ 0 ∨ q < 80)) => (hne q (by omega)).trans (hfr q q1)
      have hkn : (k_seen σ (nI y0qn) (nI y1qn) y2q y3q) = 1 := by rcases c20f with h9 | h9 <;> simp [k_seen, h9, c11, c11a, c11b, e_y0q, e_y1q]
      exact hv_iret (v := nI (0)) (u := (ad, ct)) hx hb hr ⟨fun h9 => absurd (hkn.symm.trans h9) (by decide), by rw [hkn]; exact ⟨f1, f2, f3, f4, f5, f6, f7, f8, f9, ⟨hm0, hm1, hm2, hm3, hm4, hm5, hm6, hm7, hm8, hm9⟩, hme⟩, fun q q1 => ⟨(hfa q q1).trans (by rw [had0]), fun q2 => (hfr q ⟨q1, q2⟩).trans (by rw [hct0])⟩⟩ hV hS dX4_seen_28 hlocks

set_option maxHeartbeats 4000000 in
set_option maxRecDepth 100000 in
theorem c_X4_again (l : Launch) (D : hG) (N0 : Nat) (ad : Nat → Nat) (ct : hC) {σ : gS} {th : Nat} (hM : gM D σ th ad ct) (hO : okS σ) (y0q y1q : Int32) : Met l yX4_again wsX4_again ({ frames := 3, cells := 0, slots := 0, locals := 70 }) (hPc D N0 ad ct [.ref (ad (80)), .int (y0q), .int (y1q)]) (va_Qi (fun (z : Int32) (u : hU) => ((k_again σ y0q y1q) = 0 → z = r_again σ y0q.toInt.toNat y1q.toInt.toNat) ∧ gM D σ (k_again σ y0q y1q) u.1 u.2 ∧ hFm ad ct u) (hB D N0) (hA N0)) 0 0 (hA N0) := by
  refine Met.ofW (cc := cX4_again) (maxL := 4) (ret := (some .int)) (by decide) rfl ?_
  intro p e s m args below meth c s₁ B hml hv0
  obtain ⟨hargs, hKs, hV⟩ := hv0
  have hx := B.exec
  have hb := B.bytes
  have hr := B.returns
  have hts := atoms_spec (ws := wsX4_again) B.pre
  have hown : s.vm.findClass RX4 = some m.cls := findClass_of_methodNamed B.named
  have hlocks := B.notSynchronized
  have hS : va_S (hA N0) s.heap s.heap [] := va_S.rf
  have hiX4 : ∀ w ∈ u_ws RX4 TX4 15, w ∈ wsX4_again := by decide +kernel
  have lk41 := hts (.fieldLink RX4 41 "CaneSlicesModel" "thrown" "I") (by decide +kernel)
  have lk13 := hts (.fieldLink RX4 13 "CaneSlicesModel" "length" "[I") (by decide +kernel)
  have lk26 := hts (.fieldLink RX4 26 "CaneSlicesModel" "pattern" "[I") (by decide +kernel)
  have lk17 := hts (.fieldLink RX4 17 "CaneSlicesModel" "twist" "[I") (by decide +kernel)
  have hl := lv_entry ([.ref (ad (80)), .int (y0q), .int (y1q)]) (n := 4) (Nat.le_of_ble_eq_true rfl)
  have hE : entryFrame m args 4 = entryFrame m ([.ref (ad (80)), .int (y0q), .int (y1q)] : List Value).toArray 4 := by rw [hargs]
  rw [hE, lg_entry_eq]
  generalize (lg_sl ([.ref (ad (80)), .int (y0q), .int (y1q)]) ++ List.replicate (4 - (lg_sl ([.ref (ad (80)), .int (y0q), .int (y1q)])).length) Slot.unset).toArray = ls at hl ⊢
  have hl : lv_has ls 4 [(0, .ref (ad (80))), (1, .int (y0q)), (2, .int (y1q))] := hl
  obtain ⟨Qz, hQz⟩ : ∃ z : State → Prop, z = (MQ below (va_Qi (fun (z : Int32) (u : hU) => ((k_again σ y0q y1q) = 0 → z = r_again σ y0q.toInt.toNat y1q.toInt.toNat) ∧ gM D σ (k_again σ y0q y1q) u.1 u.2 ∧ hFm ad ct u) (hB D N0) (hA N0)) args s 0 0 (hA N0)) := ⟨_, rfl⟩
  rw [← hQz]
  obtain ⟨hn8, hn60, hn6, -⟩ := id hO
  obtain ⟨f1, f2, f3, f4, f5, f6, f7, f8, f9, ⟨hm0, hm1, hm2, hm3, hm4, hm5, hm6, hm7, hm8, hm9⟩, hme⟩ := id hM
  obtain ⟨em1, em2, em3, em4, em5, em6, em7, em8, em9⟩ := id hme
  obtain ⟨ad0, had0⟩ : ∃ z, z = ad := ⟨ad, rfl⟩
  obtain ⟨ct0, hct0⟩ : ∃ z, z = ct := ⟨ct, rfl⟩
  have hfr : ∀ q : Nat, (q ≠ 1 ∧ (q % 16 ≠ 0 ∨ q < 80)) → ct q = ct0 q := fun q _ => by rw [hct0]
  have hfa : ∀ q : Nat, q ≠ 1 → ad q = ad0 q := fun q _ => by rw [had0]
  refine lv_aload_n hx hb dX4_again_0 rfl (lv_at hl 0 rfl) ?_
  refine lv_iconst (v := nI 0) hx hb dX4_again_1 (by decide) ?_
  refine hv_put (ty := .int) (C := RX4) (T := TX4) (N := 15) hx hb hts hiX4 tyX4 tyX4_ok nmX4 hown hKs hV hS hm0 0 rfl (by decide) lk41 (fun _ h9 => h9) (Or.inl (by decide +kernel)) (by decide +kernel) rfl rfl (Nat.le_of_ble_eq_true rfl) dX4_again_2 (fun ct H locs he hne hV hS => ?_)
  have hm1 := (hne (96) (by omega)).trans hm1
  have hm2 := (hne (112) (by omega)).trans hm2
  have hm3 := (hne (128) (by omega)).trans hm3
  have hm4 := (hne (144) (by omega)).trans hm4
  have hm5 := (hne (160) (by omega)).trans hm5
  have hm6 := (hne (176) (by omega)).trans hm6
  have hm7 := (hne (192) (by omega)).trans hm7
  have hm8 := (hne (208) (by omega)).trans hm8
  have hm9 := (hne (224) (by omega)).trans hm9
  have hm0 : ct (80) = some (eO 4 [.int (nI (0)), .int (gMi σ), .int (gFu σ), .int (nI (gNC σ)), .ref (ad (96)), .ref (ad (112)), .ref (ad (128)), .ref (ad (144)), .ref (ad (160)), .int (nI (gNS σ)), .ref (ad (176)), .ref (ad (192)), .int (nI (gNB σ)), .ref (ad (208)), .ref (ad (224))]) := he
  have hfr := fun (q : Nat) (q1 : q ≠ 1 ∧ (q % 16 ≠ 0 ∨ q < 80)) => (hne q (by omega)).trans (hfr q q1)
  refine lv_aload_n hx hb dX4_again_5 rfl (lv_at hl 0 rfl) ?_
  refine lv_iload_n hx hb dX4_again_6 rfl (lv_at hl 1 rfl) ?_
  refine hv_calli (va_runV (As := [.int (y0q)]) (rest := []) ⟨hx, hb, hml, hown, hts⟩ (c_X4_isCane l D N0 ad ct (show gM D σ _ ad ct from ⟨f1, f2, f3, f4, f5, f6, f7, f8, f9, ⟨hm0, hm1, hm2, hm3, hm4, hm5, hm6, hm7, hm8, hm9⟩, hme⟩) hO ((y0q))) (cwV 1 hts gX4_again_X4_isCane rfl rfl rfl (by decide +kernel) ⟨Nat.le_of_ble_eq_true rfl, Nat.le_of_ble_eq_true rfl⟩) (hv_preV (r := (RX4, TX4, 15)) hKs hV hS hm0 rfl) rfl rfl hl.1 rfl (lv_room (Nat.le_of_ble_eq_true rfl)) dX4_again_7 ⟨(Nat.le_of_ble_eq_true rfl), (Nat.le_of_ble_eq_true rfl)⟩) hS (fun r9 u9 H locs hq hV hS => ?_)
  obtain ⟨rfl, rfl⟩ := hq
  have hV : hv D N0 ad ct H := hV
  refine hB_if_eq (tgt := 29) hx hb dX4_again_10 (by decide) (fun c10 => ?_) (fun c10 => ?_)
  · refine lv_aload_n hx hb dX4_again_29 rfl (lv_at hl 0 rfl) ?_
    refine lv_iconst (v := nI 1) hx hb dX4_again_30 (by decide) ?_
    refine hv_calli (va_runV (As := [.int (nI (1))]) (rest := []) ⟨hx, hb, hml, hown, hts⟩ (c_X4_no l D N0 ad ct hm0 (1)) (cwV 1 hts gX4_again_X4_no rfl rfl rfl (by decide +kernel) ⟨Nat.le_of_ble_eq_true rfl, Nat.le_of_ble_eq_true rfl⟩) (hv_preV (r := (RX4, TX4, 15)) hKs hV hS hm0 rfl) rfl rfl hl.1 rfl (lv_room (Nat.le_of_ble_eq_true rfl)) dX4_again_31 ⟨(Nat.le_of_ble_eq_true rfl), (Nat.le_of_ble_eq_true rfl)⟩) hS (fun r9 u9 H locs hq hV hS => ?_)
    obtain ⟨ad9, ct⟩ := u9
    dsimp only at hq
    obtain ⟨rfl, ha9, he, hne⟩ := hq
    have ha9 := ha9.symm
    subst ha9
    have hV : hv D N0 ad ct H := hV
    have hm1 := (hne (96) (by omega)).trans hm1
    have hm2 := (hne (112) (by omega)).trans hm2
    have hm3 := (hne (128) (by omega)).trans hm3
    have hm4 := (hne (144) (by omega)).trans hm4
    have hm5 := (hne (160) (by omega)).trans hm5
    have hm6 := (hne (176) (by omega)).trans hm6
    have hm7 := (hne (192) (by omega)).trans hm7
    have hm8 := (hne (208) (by omega)).trans hm8
    have hm9 := (hne (224) (by omega)).trans hm9
    have hm0 : ct (80) = some (eO 4 [.int (nI (1)), .int (gMi σ), .int (gFu σ), .int (nI (gNC σ)), .ref (ad (96)), .ref (ad (112)), .ref (ad (128)), .ref (ad (144)), .ref (ad (160)), .int (nI (gNS σ)), .ref (ad (176)), .ref (ad (192)), .int (nI (gNB σ)), .ref (ad (208)), .ref (ad (224))]) := he
    have hfr := fun (q : Nat) (q1 : q ≠ 1 ∧ (q % 16 ≠ 0 ∨ q < 80)) => (hne q (by omega)).trans (hfr q q1)
    have hkn : (k_again σ y0q y1q) = 1 := by simp [k_again, c10]
    rw [hQz]
    exact hv_iret (v := nI (0)) (u := (ad, ct)) hx hb hr ⟨fun h9 => absurd (hkn.symm.trans h9) (by decide), by rw [hkn]; exact ⟨f1, f2, f3, f4, f5, f6, f7, f8, f9, ⟨hm0, hm1, hm2, hm3, hm4, hm5, hm6, hm7, hm8, hm9⟩, hme⟩, fun q q1 => ⟨(hfa q q1).trans (by rw [had0]), fun q2 => (hfr q ⟨q1, q2⟩).trans (by rw [hct0])⟩⟩ hV hS dX4_again_34 hlocks
  · obtain ⟨y0qn, hy0qn, rfl⟩ := inR_of c10
    have e_y0q : (nI y0qn).toInt.toNat = y0qn := toNat_nI (by omega)
    refine lv_iload_n hx hb dX4_again_13 rfl (lv_at hl 2 rfl) ?_
    refine lv_iconst (v := nI 0) hx hb dX4_again_14 (by decide) ?_
    refine lv_aload_n hx hb dX4_again_15 rfl (lv_at hl 0 rfl) ?_
    refine hv_get (C := RX4) (T := TX4) (N := 15) hx hb hts hiX4 hown hKs hV hm0 4 rfl (by decide) lk13 (fun _ h9 => h9) rfl dX4_again_16 ?_
    refine lv_iload_n hx hb dX4_again_19 rfl (lv_at hl 1 rfl) ?_
    refine hv_iald hx hb hKs hV hm1 (by omega) (by decide) dX4_again_20 ?_
    have hcb := (hO.2.2.2.1 (y0qn) (by omega))
    have hcb1 := hcb.1
    have hcb2 := hcb.2.1
    refine hv_eqi (em1 (y0qn) (by omega)) ?_
    refine lv_iconst (v := nI 1) hx hb dX4_again_21 (by decide) ?_
    refine lv_isub hx hb dX4_again_22 ?_
    refine hv_calli (va_runS (As := [.int (y1q), .int (nI (0)), .int (nI (cLen σ (y0qn)) - nI (1))]) (rest := []) ⟨hx, hb, hml, hown, hts⟩ (c_X4_isIn l D N0 ad ct ((y1q)) (nI (0)) ((nI (cLen σ (y0qn)) - nI (1)))) (va_cwS 3 hts gX4_again_X4_isIn rfl rfl rfl (by decide +kernel) ⟨Nat.le_of_ble_eq_true rfl, Nat.le_of_ble_eq_true rfl⟩) (hv_preS hKs hV hS) rfl rfl hl.1 rfl (lv_room (Nat.le_of_ble_eq_true rfl)) dX4_again_23 ⟨(Nat.le_of_ble_eq_true rfl), (Nat.le_of_ble_eq_true rfl)⟩) hS (fun r9 u9 H locs hq hV hS => ?_)
    obtain ⟨rfl, rfl⟩ := hq
    have hV : hv D N0 ad ct H := hV
    refine hv_eqi (y := hbv (inR ((y1q)) (cLen σ (y0qn)))) (congrArg hbv (inI_n (by omega))) ?_
    refine hB_if_ne (tgt := 35) hx hb dX4_again_26 (by decide) (fun c26 => ?_) (fun c26 => ?_)
    · obtain ⟨y1qn, hy1qn, rfl⟩ := inR_of c26
      have e_y1q : (nI y1qn).toInt.toNat = y1qn := toNat_nI (by omega)
      refine lv_iload_n hx hb dX4_again_35 rfl (lv_at hl 2 rfl) ?_
      refine lv_iconst (v := nI 1) hx hb dX4_again_36 (by decide) ?_
      refine hN_iadd hx hb dX4_again_37 ?_
      refine lv_istore_n (lv' := [(3, .int (nI (y1qn + 1))), (0, .ref (ad (80))), (1, .int (nI (y0qn))), (2, .int (nI (y1qn)))]) hx hb dX4_again_38 rfl hl (by decide) rfl (fun ls hl => ?_)
      have L39 : ∀ (n i : Nat), i ≤ cLen σ (y0qn) → cLen σ (y0qn) < i + n → ∀ (H : Heap) (locs : List Loc), (y1qn + 1 ≤ i) → (∀ d, y1qn + 1 + d < i → like (cPt σ y0qn) (cTw σ y0qn * nI (d + 1)) (cPt σ y0qn) = false) → hv D N0 ad ct H → va_S (hA N0) s.heap H locs → ∀ ls : Array Slot, lv_has ls 4 [(0, .ref (ad (80))), (1, .int (nI (y0qn))), (2, .int (nI (y1qn))), (3, .int (nI (i)))] → W p l e (headSpec wsX4_again ({ frames := 3, cells := 0, slots := 0, locals := 70 })).room s m args below meth c H locs 0 0 Qz (F0 m 39 ls []) := by
        intro n
        induction n with
        | zero => intro i h1 h2; exact absurd h2 (by omega)
        | succ n ih39 =>
          intro i hi39 hn39 H locs hp gi hV hS ls hl
          refine lv_iload_n hx hb dX4_again_39 rfl (lv_at hl 3 rfl) ?_
          refine lv_aload_n hx hb dX4_again_40 rfl (lv_at hl 0 rfl) ?_
          refine hv_get (C := RX4) (T := TX4) (N := 15) hx hb hts hiX4 hown hKs hV hm0 4 rfl (by decide) lk13 (fun _ h9 => h9) rfl dX4_again_41 ?_
          refine lv_iload_n hx hb dX4_again_44 rfl (lv_at hl 1 rfl) ?_
          refine hv_iald hx hb hKs hV hm1 (by omega) (by decide) dX4_again_45 ?_
          refine hv_eqi (em1 (y0qn) (by omega)) ?_
          refine hN_icmp_ge (tgt := 83) hx hb (by omega) (by omega) dX4_again_46 (by decide) (fun c46 => ?_) (fun c46 => ?_)
          · refine lv_iconst (v := (-1)) hx hb dX4_again_83 (by decide) ?_
            have hkn : (k_again σ (nI y0qn) (nI y1qn)) = 0 := by simp [k_again, c10, c26, e_y0q, e_y1q]
            rw [hQz]
            exact hv_iret (v := ((-1))) (u := (ad, ct)) hx hb hr ⟨fun _ => by rw [e_y0q, e_y1q]; unfold r_again; rw [show d_again σ y0qn y1qn = cLen σ y0qn - (y1qn + 1) from frst_is (Nat.le_refl _) (fun d hd => gi d (by omega)) (fun q => absurd q (Nat.lt_irrefl _)), if_neg (Nat.lt_irrefl _)], by rw [hkn]; exact ⟨f1, f2, f3, f4, f5, f6, f7, f8, f9, ⟨hm0, hm1, hm2, hm3, hm4, hm5, hm6, hm7, hm8, hm9⟩, hme⟩, fun q q1 => ⟨(hfa q q1).trans (by rw [had0]), fun q2 => (hfr q ⟨q1, q2⟩).trans (by rw [hct0])⟩⟩ hV hS dX4_again_84 hlocks
          · refine lv_aload_n hx hb dX4_again_49 rfl (lv_at hl 0 rfl) ?_
            refine hv_get (C := RX4) (T := TX4) (N := 15) hx hb hts hiX4 hown hKs hV hm0 8 rfl (by decide) lk26 (fun _ h9 => h9) rfl dX4_again_50 ?_
            refine lv_iload_n hx hb dX4_again_53 rfl (lv_at hl 1 rfl) ?_
            refine lv_aload_n hx hb dX4_again_54 rfl (lv_at hl 0 rfl) ?_
            refine hv_get (C := RX4) (T := TX4) (N := 15) hx hb hts hiX4 hown hKs hV hm0 5 rfl (by decide) lk17 (fun _ h9 => h9) rfl dX4_again_55 ?_
            refine lv_iload_n hx hb dX4_again_58 rfl (lv_at hl 1 rfl) ?_
            refine hv_iald hx hb hKs hV hm2 (by omega) (by decide) dX4_again_59 ?_
            refine hv_eqi ((em2 (y0qn) (by omega)).trans (if_pos (by omega))) ?_
            refine lv_iload_n hx hb dX4_again_60 rfl (lv_at hl 3 rfl) ?_
            refine lv_iload_n hx hb dX4_again_61 rfl (lv_at hl 2 rfl) ?_
            refine hN_isub hx hb (by omega) dX4_again_62 ?_
            refine lv_imul hx hb dX4_again_63 ?_
            refine lv_aload_n hx hb dX4_again_64 rfl (lv_at hl 0 rfl) ?_
            refine hv_get (C := RX4) (T := TX4) (N := 15) hx hb hts hiX4 hown hKs hV hm0 8 rfl (by decide) lk26 (fun _ h9 => h9) rfl dX4_again_65 ?_
            refine lv_iload_n hx hb dX4_again_68 rfl (lv_at hl 1 rfl) ?_
            refine hv_calli (va_runS (As := [.ref (ad (160)), .int (nI (y0qn)), .int ((cTw σ (y0qn)) * nI (i - (y1qn))), .ref (ad (160)), .int (nI (y0qn))]) (rest := []) ⟨hx, hb, hml, hown, hts⟩ (c_X4_areAlike l D N0 ad ct hm5 hm5 (by decide) (by decide) (y0qn) (y0qn) (by omega) (by omega) (((cTw σ (y0qn)) * nI (i - (y1qn)))) (P1 := cPt σ (y0qn)) (P2 := cPt σ (y0qn)) (hO.2.2.2.1 (y0qn) (by omega)).2.2 (hO.2.2.2.1 (y0qn) (by omega)).2.2 (hme.pt (by omega) (show y0qn < gNC σ by omega)) (hme.pt (by omega) (show y0qn < gNC σ by omega))) (va_cwS 5 hts gX4_again_X4_areAlike rfl rfl rfl (by decide +kernel) ⟨Nat.le_of_ble_eq_true rfl, Nat.le_of_ble_eq_true rfl⟩) (hv_preS hKs hV hS) rfl rfl hl.1 rfl (lv_room (Nat.le_of_ble_eq_true rfl)) dX4_again_69 ⟨(Nat.le_of_ble_eq_true rfl), (Nat.le_of_ble_eq_true rfl)⟩) hS (fun r9 u9 H locs hq hV hS => ?_)
            obtain ⟨rfl, rfl⟩ := hq
            have hV : hv D N0 ad ct H := hV
            refine hB_if_eq (tgt := 77) hx hb dX4_again_72 (by decide) (fun c72 => ?_) (fun c72 => ?_)
            · refine lv_iinc (v := nI (i + 1)) (lv' := [(3, .int (nI (i + 1))), (0, .ref (ad (80))), (1, .int (nI (y0qn))), (2, .int (nI (y1qn)))]) hx hb dX4_again_77 hl (k := 3) rfl (nI_add (i) 1) (by decide) rfl (fun ls hl => ?_)
              refine lv_goto (tgt := 39) hx hb dX4_again_80 (by decide) ?_
              exact ih39 (i + 1)  (by omega) (by omega) _ _ (by omega) (fun d hd => (Nat.lt_or_ge (y1qn + 1 + d) i).elim (gi d) (fun q => by have e9 : i - y1qn = d + 1 := (by omega); rw [e9] at c72; exact c72)) hV hS ls (lv_sub hl [1, 2, 3, 0] rfl)
            · refine lv_iload_n hx hb dX4_again_75 rfl (lv_at hl 3 rfl) ?_
              have hkn : (k_again σ (nI y0qn) (nI y1qn)) = 0 := by simp [k_again, c10, c26, e_y0q, e_y1q]
              rw [hQz]
              exact hv_iret (v := nI (i)) (u := (ad, ct)) hx hb hr ⟨fun _ => by rw [e_y0q, e_y1q]; unfold r_again; rw [show d_again σ y0qn y1qn = i - (y1qn + 1) from frst_is (by omega) (fun d hd => gi d (by omega)) (fun _ => by rw [show i - (y1qn + 1) + 1 = i - y1qn by omega]; exact c72), if_pos (by omega), show y1qn + 1 + (i - (y1qn + 1)) = i by omega], by rw [hkn]; exact ⟨f1, f2, f3, f4, f5, f6, f7, f8, f9, ⟨hm0, hm1, hm2, hm3, hm4, hm5, hm6, hm7, hm8, hm9⟩, hme⟩, fun q q1 => ⟨(hfa q q1).trans (by rw [had0]), fun q2 => (hfr q ⟨q1, q2⟩).trans (by rw [hct0])⟩⟩ hV hS dX4_again_76 hlocks
      exact L39 (cLen σ (y0qn) + 1) (y1qn + 1)  (by omega) (by omega) _ _ (Nat.le_refl _) (fun d hd => absurd hd (by omega)) hV hS ls (lv_sub hl [1, 2, 3, 0] rfl)
    · refine lv_aload_n hx hb dX4_again_29 rfl (lv_at hl 0 rfl) ?_
      refine lv_iconst (v := nI 1) hx hb dX4_again_30 (by decide) ?_
      refine hv_calli (va_runV (As := [.int (nI (1))]) (rest := []) ⟨hx, hb, hml, hown, hts⟩ (c_X4_no l D N0 ad ct hm0 (1)) (cwV 1 hts gX4_again_X4_no rfl rfl rfl (by decide +kernel) ⟨Nat.le_of_ble_eq_true rfl, Nat.le_of_ble_eq_true rfl⟩) (hv_preV (r := (RX4, TX4, 15)) hKs hV hS hm0 rfl) rfl rfl hl.1 rfl (lv_room (Nat.le_of_ble_eq_true rfl)) dX4_again_31 ⟨(Nat.le_of_ble_eq_true rfl), (Nat.le_of_ble_eq_true rfl)⟩) hS (fun r9 u9 H locs hq hV hS => ?_)
      obtain ⟨ad9, ct⟩ := u9
      dsimp only at hq
      obtain ⟨rfl, ha9, he, hne⟩ := hq
      have ha9 := ha9.symm
      subst ha9
      have hV : hv D N0 ad ct H := hV
      have hm1 := (hne (96) (by omega)).trans hm1
      have hm2 := (hne (112) (by omega)).trans hm2
      have hm3 := (hne (128) (by omega)).trans hm3
      have hm4 := (hne (144) (by omega)).trans hm4
      have hm5 := (hne (160) (by omega)).trans hm5
      have hm6 := (hne (176) (by omega)).trans hm6
      have hm7 := (hne (192) (by omega)).trans hm7
      have hm8 := (hne (208) (by omega)).trans hm8
      have hm9 := (hne (224) (by omega)).trans hm9
      have hm0 : ct (80) = some (eO 4 [.int (nI (1)), .int (gMi σ), .int (gFu σ), .int (nI (gNC σ)), .ref (ad (96)), .ref (ad (112)), .ref (ad (128)), .ref (ad (144)), .ref (ad (160)), .int (nI (gNS σ)), .ref (ad (176)), .ref (ad (192)), .int (nI (gNB σ)), .ref (ad (208)), .ref (ad (224))]) := he
      have hfr := fun (q : Nat) (q1 : q ≠ 1 ∧ (q % 16 ≠ 0 ∨ q < 80)) => (hne q (by omega)).trans (hfr q q1)
      have hkn : (k_again σ (nI y0qn) y1q) = 1 := by simp [k_again, c10, c26, e_y0q]
      rw [hQz]
      exact hv_iret (v := nI (0)) (u := (ad, ct)) hx hb hr ⟨fun h9 => absurd (hkn.symm.trans h9) (by decide), by rw [hkn]; exact ⟨f1, f2, f3, f4, f5, f6, f7, f8, f9, ⟨hm0, hm1, hm2, hm3, hm4, hm5, hm6, hm7, hm8, hm9⟩, hme⟩, fun q q1 => ⟨(hfa q q1).trans (by rw [had0]), fun q2 => (hfr q ⟨q1, q2⟩).trans (by rw [hct0])⟩⟩ hV hS dX4_again_34 hlocks

theorem dec_sub (a : Nat) : nI a + Int32.ofInt (-1) = nI a - nI 1 := by
  rw [Int32.sub_eq_add_neg]
  rfl
theorem cut_loc {a i : Nat} (h : i < a) : nI (a - i) - nI 1 = nI (a - (i + 1)) := by rw [pk_sub (by omega), Nat.sub_sub]
theorem cut_end {a i : Nat} (hi : i ≤ a) (ha : a < 2 ^ 31) (h : (nI (a - i) - nI 1).toInt < 0) : i = a := by
  rw [sub1_int (by omega)] at h
  omega
theorem cut_go {a i : Nat} (hi : i ≤ a) (ha : a < 2 ^ 31) (h : 0 ≤ (nI (a - i) - nI 1).toInt) : i < a := by
  rw [sub1_int (by omega)] at h
  omega

set_option maxHeartbeats 4000000 in
set_option maxRecDepth 100000 in
theorem c_X4_cuts (l : Launch) (D : hG) (N0 : Nat) (ad : Nat → Nat) (ct : hC) {σ : gS} {th : Nat} (hM : gM D σ th ad ct) (hO : okS σ) (y0q y1q : Int32) : Met l yX4_cuts wsX4_cuts ({ frames := 3, cells := 0, slots := 0, locals := 70 }) (hPc D N0 ad ct [.ref (ad (80)), .int (y0q), .int (y1q)]) (va_Qi (fun (z : Int32) (u : hU) => ((k_cuts σ y0q y1q) = 0 → z = r_cuts σ y0q.toInt.toNat y1q.toInt.toNat) ∧ gM D σ (k_cuts σ y0q y1q) u.1 u.2 ∧ hFm ad ct u) (hB D N0) (hA N0)) 0 0 (hA N0) := by
  refine Met.ofW (cc := cX4_cuts) (maxL := 4) (ret := (some .int)) (by decide) rfl ?_
  intro p e s m args below meth c s₁ B hml hv0
  obtain ⟨hargs, hKs, hV⟩ := hv0
  have hx := B.exec
  have hb := B.bytes
  have hr := B.returns
  have hts := atoms_spec (ws := wsX4_cuts) B.pre
  have hown : s.vm.findClass RX4 = some m.cls := findClass_of_methodNamed B.named
  have hlocks := B.notSynchronized
  have hS : va_S (hA N0) s.heap s.heap [] := va_S.rf
  have hiX4 : ∀ w ∈ u_ws RX4 TX4 15, w ∈ wsX4_cuts := by decide +kernel
  have lk41 := hts (.fieldLink RX4 41 "CaneSlicesModel" "thrown" "I") (by decide +kernel)
  have lk13 := hts (.fieldLink RX4 13 "CaneSlicesModel" "length" "[I") (by decide +kernel)
  have lk26 := hts (.fieldLink RX4 26 "CaneSlicesModel" "pattern" "[I") (by decide +kernel)
  have lk17 := hts (.fieldLink RX4 17 "CaneSlicesModel" "twist" "[I") (by decide +kernel)
  have lk29 := hts (.fieldLink RX4 29 "CaneSlicesModel" "look" "[I") (by decide +kernel)
  have hl := lv_entry ([.ref (ad (80)), .int (y0q), .int (y1q)]) (n := 4) (Nat.le_of_ble_eq_true rfl)
  have hE : entryFrame m args 4 = entryFrame m ([.ref (ad (80)), .int (y0q), .int (y1q)] : List Value).toArray 4 := by rw [hargs]
  rw [hE, lg_entry_eq]
  generalize (lg_sl ([.ref (ad (80)), .int (y0q), .int (y1q)]) ++ List.replicate (4 - (lg_sl ([.ref (ad (80)), .int (y0q), .int (y1q)])).length) Slot.unset).toArray = ls at hl ⊢
  have hl : lv_has ls 4 [(0, .ref (ad (80))), (1, .int (y0q)), (2, .int (y1q))] := hl
  obtain ⟨Qz, hQz⟩ : ∃ z : State → Prop, z = (MQ below (va_Qi (fun (z : Int32) (u : hU) => ((k_cuts σ y0q y1q) = 0 → z = r_cuts σ y0q.toInt.toNat y1q.toInt.toNat) ∧ gM D σ (k_cuts σ y0q y1q) u.1 u.2 ∧ hFm ad ct u) (hB D N0) (hA N0)) args s 0 0 (hA N0)) := ⟨_, rfl⟩
  rw [← hQz]
  obtain ⟨hn8, hn60, hn6, -⟩ := id hO
  obtain ⟨f1, f2, f3, f4, f5, f6, f7, f8, f9, ⟨hm0, hm1, hm2, hm3, hm4, hm5, hm6, hm7, hm8, hm9⟩, hme⟩ := id hM
  obtain ⟨em1, em2, em3, em4, em5, em6, em7, em8, em9⟩ := id hme
  obtain ⟨ad0, had0⟩ : ∃ z, z = ad := ⟨ad, rfl⟩
  obtain ⟨ct0, hct0⟩ : ∃ z, z = ct := ⟨ct, rfl⟩
  have hfr : ∀ q : Nat, (q ≠ 1 ∧ (q % 16 ≠ 0 ∨ q < 80)) → ct q = ct0 q := fun q _ => by rw [hct0]
  have hfa : ∀ q : Nat, q ≠ 1 → ad q = ad0 q := fun q _ => by rw [had0]
  refine lv_aload_n hx hb dX4_cuts_0 rfl (lv_at hl 0 rfl) ?_
  refine lv_iconst (v := nI 0) hx hb dX4_cuts_1 (by decide) ?_
  refine hv_put (ty := .int) (C := RX4) (T := TX4) (N := 15) hx hb hts hiX4 tyX4 tyX4_ok nmX4 hown hKs hV hS hm0 0 rfl (by decide) lk41 (fun _ h9 => h9) (Or.inl (by decide +kernel)) (by decide +kernel) rfl rfl (Nat.le_of_ble_eq_true rfl) dX4_cuts_2 (fun ct H locs he hne hV hS => ?_)
  have hm1 := (hne (96) (by omega)).trans hm1
  have hm2 := (hne (112) (by omega)).trans hm2
  have hm3 := (hne (128) (by omega)).trans hm3
  have hm4 := (hne (144) (by omega)).trans hm4
  have hm5 := (hne (160) (by omega)).trans hm5
  have hm6 := (hne (176) (by omega)).trans hm6
  have hm7 := (hne (192) (by omega)).trans hm7
  have hm8 := (hne (208) (by omega)).trans hm8
  have hm9 := (hne (224) (by omega)).trans hm9
  have hm0 : ct (80) = some (eO 4 [.int (nI (0)), .int (gMi σ), .int (gFu σ), .int (nI (gNC σ)), .ref (ad (96)), .ref (ad (112)), .ref (ad (128)), .ref (ad (144)), .ref (ad (160)), .int (nI (gNS σ)), .ref (ad (176)), .ref (ad (192)), .int (nI (gNB σ)), .ref (ad (208)), .ref (ad (224))]) := he
  have hfr := fun (q : Nat) (q1 : q ≠ 1 ∧ (q % 16 ≠ 0 ∨ q < 80)) => (hne q (by omega)).trans (hfr q q1)
  refine lv_aload_n hx hb dX4_cuts_5 rfl (lv_at hl 0 rfl) ?_
  refine lv_iload_n hx hb dX4_cuts_6 rfl (lv_at hl 1 rfl) ?_
  refine hv_calli (va_runV (As := [.int (y0q)]) (rest := []) ⟨hx, hb, hml, hown, hts⟩ (c_X4_isCane l D N0 ad ct (show gM D σ _ ad ct from ⟨f1, f2, f3, f4, f5, f6, f7, f8, f9, ⟨hm0, hm1, hm2, hm3, hm4, hm5, hm6, hm7, hm8, hm9⟩, hme⟩) hO ((y0q))) (cwV 1 hts gX4_cuts_X4_isCane rfl rfl rfl (by decide +kernel) ⟨Nat.le_of_ble_eq_true rfl, Nat.le_of_ble_eq_true rfl⟩) (hv_preV (r := (RX4, TX4, 15)) hKs hV hS hm0 rfl) rfl rfl hl.1 rfl (lv_room (Nat.le_of_ble_eq_true rfl)) dX4_cuts_7 ⟨(Nat.le_of_ble_eq_true rfl), (Nat.le_of_ble_eq_true rfl)⟩) hS (fun r9 u9 H locs hq hV hS => ?_)
  obtain ⟨rfl, rfl⟩ := hq
  have hV : hv D N0 ad ct H := hV
  refine hB_if_eq (tgt := 21) hx hb dX4_cuts_10 (by decide) (fun c10 => ?_) (fun c10 => ?_)
  · refine lv_aload_n hx hb dX4_cuts_21 rfl (lv_at hl 0 rfl) ?_
    refine lv_iconst (v := nI 1) hx hb dX4_cuts_22 (by decide) ?_
    refine hv_calli (va_runV (As := [.int (nI (1))]) (rest := []) ⟨hx, hb, hml, hown, hts⟩ (c_X4_no l D N0 ad ct hm0 (1)) (cwV 1 hts gX4_cuts_X4_no rfl rfl rfl (by decide +kernel) ⟨Nat.le_of_ble_eq_true rfl, Nat.le_of_ble_eq_true rfl⟩) (hv_preV (r := (RX4, TX4, 15)) hKs hV hS hm0 rfl) rfl rfl hl.1 rfl (lv_room (Nat.le_of_ble_eq_true rfl)) dX4_cuts_23 ⟨(Nat.le_of_ble_eq_true rfl), (Nat.le_of_ble_eq_true rfl)⟩) hS (fun r9 u9 H locs hq hV hS => ?_)
    obtain ⟨ad9, ct⟩ := u9
    dsimp only at hq
    obtain ⟨rfl, ha9, he, hne⟩ := hq
    have ha9 := ha9.symm
    subst ha9
    have hV : hv D N0 ad ct H := hV
    have hm1 := (hne (96) (by omega)).trans hm1
    have hm2 := (hne (112) (by omega)).trans hm2
    have hm3 := (hne (128) (by omega)).trans hm3
    have hm4 := (hne (144) (by omega)).trans hm4
    have hm5 := (hne (160) (by omega)).trans hm5
    have hm6 := (hne (176) (by omega)).trans hm6
    have hm7 := (hne (192) (by omega)).trans hm7
    have hm8 := (hne (208) (by omega)).trans hm8
    have hm9 := (hne (224) (by omega)).trans hm9
    have hm0 : ct (80) = some (eO 4 [.int (nI (1)), .int (gMi σ), .int (gFu σ), .int (nI (gNC σ)), .ref (ad (96)), .ref (ad (112)), .ref (ad (128)), .ref (ad (144)), .ref (ad (160)), .int (nI (gNS σ)), .ref (ad (176)), .ref (ad (192)), .int (nI (gNB σ)), .ref (ad (208)), .ref (ad (224))]) := he
    have hfr := fun (q : Nat) (q1 : q ≠ 1 ∧ (q % 16 ≠ 0 ∨ q < 80)) => (hne q (by omega)).trans (hfr q q1)
    have hkn : (k_cuts σ y0q y1q) = 1 := by simp [k_cuts, c10]
    rw [hQz]
    exact hv_iret (v := nI (0)) (u := (ad, ct)) hx hb hr ⟨fun h9 => absurd (hkn.symm.trans h9) (by decide), by rw [hkn]; exact ⟨f1, f2, f3, f4, f5, f6, f7, f8, f9, ⟨hm0, hm1, hm2, hm3, hm4, hm5, hm6, hm7, hm8, hm9⟩, hme⟩, fun q q1 => ⟨(hfa q q1).trans (by rw [had0]), fun q2 => (hfr q ⟨q1, q2⟩).trans (by rw [hct0])⟩⟩ hV hS dX4_cuts_26 hlocks
  · obtain ⟨y0qn, hy0qn, rfl⟩ := inR_of c10
    have e_y0q : (nI y0qn).toInt.toNat = y0qn := toNat_nI (by omega)
    refine lv_aload_n hx hb dX4_cuts_13 rfl (lv_at hl 0 rfl) ?_
    refine lv_iload_n hx hb dX4_cuts_14 rfl (lv_at hl 2 rfl) ?_
    refine hv_calli (va_runV (As := [.int (y1q)]) (rest := []) ⟨hx, hb, hml, hown, hts⟩ (c_X4_isSlice l D N0 ad ct (show gM D σ _ ad ct from ⟨f1, f2, f3, f4, f5, f6, f7, f8, f9, ⟨hm0, hm1, hm2, hm3, hm4, hm5, hm6, hm7, hm8, hm9⟩, hme⟩) hO ((y1q))) (cwV 1 hts gX4_cuts_X4_isSlice rfl rfl rfl (by decide +kernel) ⟨Nat.le_of_ble_eq_true rfl, Nat.le_of_ble_eq_true rfl⟩) (hv_preV (r := (RX4, TX4, 15)) hKs hV hS hm0 rfl) rfl rfl hl.1 rfl (lv_room (Nat.le_of_ble_eq_true rfl)) dX4_cuts_15 ⟨(Nat.le_of_ble_eq_true rfl), (Nat.le_of_ble_eq_true rfl)⟩) hS (fun r9 u9 H locs hq hV hS => ?_)
    obtain ⟨rfl, rfl⟩ := hq
    have hV : hv D N0 ad ct H := hV
    refine hB_if_ne (tgt := 27) hx hb dX4_cuts_18 (by decide) (fun c18 => ?_) (fun c18 => ?_)
    · obtain ⟨y1qn, hy1qn, rfl⟩ := inR_of c18
      have e_y1q : (nI y1qn).toInt.toNat = y1qn := toNat_nI (by omega)
      refine lv_aload_n hx hb dX4_cuts_27 rfl (lv_at hl 0 rfl) ?_
      refine hv_get (C := RX4) (T := TX4) (N := 15) hx hb hts hiX4 hown hKs hV hm0 4 rfl (by decide) lk13 (fun _ h9 => h9) rfl dX4_cuts_28 ?_
      refine lv_iload_n hx hb dX4_cuts_31 rfl (lv_at hl 1 rfl) ?_
      refine hv_iald hx hb hKs hV hm1 (by omega) (by decide) dX4_cuts_32 ?_
      have hcb := (hO.2.2.2.1 (y0qn) (by omega))
      have hcb1 := hcb.1
      have hcb2 := hcb.2.1
      refine hv_eqi (em1 (y0qn) (by omega)) ?_
      refine lv_iconst (v := nI 1) hx hb dX4_cuts_33 (by decide) ?_
      refine lv_isub hx hb dX4_cuts_34 ?_
      refine lv_istore_n (lv' := [(3, .int (nI (cLen σ (y0qn)) - nI (1))), (0, .ref (ad (80))), (1, .int (nI (y0qn))), (2, .int (nI (y1qn)))]) hx hb dX4_cuts_35 rfl hl (by decide) rfl (fun ls hl => ?_)
      have L36 : ∀ (n i : Nat), i ≤ cLen σ (y0qn) → cLen σ (y0qn) < i + n → ∀ (H : Heap) (locs : List Loc), (∀ d, d < i → like (cPt σ y0qn) (cTw σ y0qn * nI (cLen σ y0qn - (d + 1))) (sPt σ y1qn) = false) → hv D N0 ad ct H → va_S (hA N0) s.heap H locs → ∀ ls : Array Slot, lv_has ls 4 [(0, .ref (ad (80))), (1, .int (nI (y0qn))), (2, .int (nI (y1qn))), (3, .int (nI (cLen σ (y0qn) - i) - nI 1))] → W p l e (headSpec wsX4_cuts ({ frames := 3, cells := 0, slots := 0, locals := 70 })).room s m args below meth c H locs 0 0 Qz (F0 m 36 ls []) := by
        intro n
        induction n with
        | zero => intro i h1 h2; exact absurd h2 (by omega)
        | succ n ih36 =>
          intro i hi36 hn36 H locs gi hV hS ls hl
          refine lv_iload_n hx hb dX4_cuts_36 rfl (lv_at hl 3 rfl) ?_
          refine hI_if_lt (tgt := 79) hx hb dX4_cuts_37 (by decide) (fun c37 => ?_) (fun c37 => ?_)
          · refine lv_iconst (v := (-1)) hx hb dX4_cuts_79 (by decide) ?_
            have hkn : (k_cuts σ (nI y0qn) (nI y1qn)) = 0 := by simp [k_cuts, c10, c18]
            rw [hQz]
            exact hv_iret (v := ((-1))) (u := (ad, ct)) hx hb hr ⟨fun _ => by rw [e_y0q, e_y1q]; unfold r_cuts; rw [show d_cuts σ y0qn y1qn = cLen σ y0qn from frst_is (Nat.le_refl _) (fun d hd => gi d (by have := cut_end (a := cLen σ y0qn) (by omega) (by omega) c37; omega)) (fun q => absurd q (Nat.lt_irrefl _)), if_neg (Nat.lt_irrefl _)], by rw [hkn]; exact ⟨f1, f2, f3, f4, f5, f6, f7, f8, f9, ⟨hm0, hm1, hm2, hm3, hm4, hm5, hm6, hm7, hm8, hm9⟩, hme⟩, fun q q1 => ⟨(hfa q q1).trans (by rw [had0]), fun q2 => (hfr q ⟨q1, q2⟩).trans (by rw [hct0])⟩⟩ hV hS dX4_cuts_80 hlocks
          · have hil := cut_go (a := cLen σ y0qn) (by omega) (by omega) c37
            rw [cut_loc (a := cLen σ y0qn) hil] at hl
            refine lv_aload_n hx hb dX4_cuts_40 rfl (lv_at hl 0 rfl) ?_
            refine hv_get (C := RX4) (T := TX4) (N := 15) hx hb hts hiX4 hown hKs hV hm0 8 rfl (by decide) lk26 (fun _ h9 => h9) rfl dX4_cuts_41 ?_
            refine lv_iload_n hx hb dX4_cuts_44 rfl (lv_at hl 1 rfl) ?_
            refine lv_aload_n hx hb dX4_cuts_45 rfl (lv_at hl 0 rfl) ?_
            refine hv_get (C := RX4) (T := TX4) (N := 15) hx hb hts hiX4 hown hKs hV hm0 5 rfl (by decide) lk17 (fun _ h9 => h9) rfl dX4_cuts_46 ?_
            refine lv_iload_n hx hb dX4_cuts_49 rfl (lv_at hl 1 rfl) ?_
            refine hv_iald hx hb hKs hV hm2 (by omega) (by decide) dX4_cuts_50 ?_
            refine hv_eqi ((em2 (y0qn) (by omega)).trans (if_pos (by omega))) ?_
            refine lv_iload_n hx hb dX4_cuts_51 rfl (lv_at hl 3 rfl) ?_
            refine lv_imul hx hb dX4_cuts_52 ?_
            refine lv_aload_n hx hb dX4_cuts_53 rfl (lv_at hl 0 rfl) ?_
            refine hv_get (C := RX4) (T := TX4) (N := 15) hx hb hts hiX4 hown hKs hV hm0 10 rfl (by decide) lk29 (fun _ h9 => h9) rfl dX4_cuts_54 ?_
            refine lv_iload_n hx hb dX4_cuts_57 rfl (lv_at hl 2 rfl) ?_
            refine hv_calli (va_runS (As := [.ref (ad (160)), .int (nI (y0qn)), .int ((cTw σ (y0qn)) * nI (cLen σ (y0qn) - (i + 1))), .ref (ad (176)), .int (nI (y1qn))]) (rest := []) ⟨hx, hb, hml, hown, hts⟩ (c_X4_areAlike l D N0 ad ct hm5 hm6 (by decide) (by decide) (y0qn) (y1qn) (by omega) (by omega) (((cTw σ (y0qn)) * nI (cLen σ (y0qn) - (i + 1)))) (P1 := cPt σ (y0qn)) (P2 := sPt σ (y1qn)) (hO.2.2.2.1 (y0qn) (by omega)).2.2 (hO.2.2.2.2.1 (y1qn) (by omega)).1 (hme.pt (by omega) (show y0qn < gNC σ by omega)) (em6 (y1qn) (by omega))) (va_cwS 5 hts gX4_cuts_X4_areAlike rfl rfl rfl (by decide +kernel) ⟨Nat.le_of_ble_eq_true rfl, Nat.le_of_ble_eq_true rfl⟩) (hv_preS hKs hV hS) rfl rfl hl.1 rfl (lv_room (Nat.le_of_ble_eq_true rfl)) dX4_cuts_58 ⟨(Nat.le_of_ble_eq_true rfl), (Nat.le_of_ble_eq_true rfl)⟩) hS (fun r9 u9 H locs hq hV hS => ?_)
            obtain ⟨rfl, rfl⟩ := hq
            have hV : hv D N0 ad ct H := hV
            refine hB_if_eq (tgt := 73) hx hb dX4_cuts_61 (by decide) (fun c61 => ?_) (fun c61 => ?_)
            · refine lv_iinc (v := nI (cLen σ (y0qn) - (i + 1)) - nI 1) (lv' := [(3, .int (nI (cLen σ (y0qn) - (i + 1)) - nI 1)), (0, .ref (ad (80))), (1, .int (nI (y0qn))), (2, .int (nI (y1qn)))]) hx hb dX4_cuts_73 hl (k := 3) rfl (dec_sub _) (by decide) rfl (fun ls hl => ?_)
              refine lv_goto (tgt := 36) hx hb dX4_cuts_76 (by decide) ?_
              exact ih36 (i + 1)  (by omega) (by omega) _ _ (fun d hd => (Nat.lt_or_ge d i).elim (gi d) (fun q => by have e9 : i = d := (by omega); subst e9; exact c61)) hV hS ls (lv_sub hl [1, 2, 3, 0] rfl)
            · refine lv_aload_n hx hb dX4_cuts_64 rfl (lv_at hl 0 rfl) ?_
              refine hv_get (C := RX4) (T := TX4) (N := 15) hx hb hts hiX4 hown hKs hV hm0 4 rfl (by decide) lk13 (fun _ h9 => h9) rfl dX4_cuts_65 ?_
              refine lv_iload_n hx hb dX4_cuts_68 rfl (lv_at hl 1 rfl) ?_
              refine hv_iald hx hb hKs hV hm1 (by omega) (by decide) dX4_cuts_69 ?_
              refine hv_eqi (em1 (y0qn) (by omega)) ?_
              refine lv_iload_n hx hb dX4_cuts_70 rfl (lv_at hl 3 rfl) ?_
              refine hN_isub hx hb (by omega) dX4_cuts_71 ?_
              have hkn : (k_cuts σ (nI y0qn) (nI y1qn)) = 0 := by simp [k_cuts, c10, c18]
              rw [hQz]
              exact hv_iret (v := nI (cLen σ (y0qn) - (cLen σ (y0qn) - (i + 1)))) (u := (ad, ct)) hx hb hr ⟨fun _ => by rw [e_y0q, e_y1q]; unfold r_cuts; rw [show d_cuts σ y0qn y1qn = i from frst_is (by omega) (fun d hd => gi d hd) (fun _ => c61), if_pos (by omega), show cLen σ y0qn - (cLen σ y0qn - (i + 1)) = i + 1 by omega], by rw [hkn]; exact ⟨f1, f2, f3, f4, f5, f6, f7, f8, f9, ⟨hm0, hm1, hm2, hm3, hm4, hm5, hm6, hm7, hm8, hm9⟩, hme⟩, fun q q1 => ⟨(hfa q q1).trans (by rw [had0]), fun q2 => (hfr q ⟨q1, q2⟩).trans (by rw [hct0])⟩⟩ hV hS dX4_cuts_72 hlocks
      exact L36 (cLen σ (y0qn) + 1) (0)  (by omega) (by omega) _ _ (fun d hd => absurd hd (Nat.not_lt_zero d)) hV hS ls (lv_sub hl [1, 2, 3, 0] rfl)
    · refine lv_aload_n hx hb dX4_cuts_21 rfl (lv_at hl 0 rfl) ?_
      refine lv_iconst (v := nI 1) hx hb dX4_cuts_22 (by decide) ?_
      refine hv_calli (va_runV (As := [.int (nI (1))]) (rest := []) ⟨hx, hb, hml, hown, hts⟩ (c_X4_no l D N0 ad ct hm0 (1)) (cwV 1 hts gX4_cuts_X4_no rfl rfl rfl (by decide +kernel) ⟨Nat.le_of_ble_eq_true rfl, Nat.le_of_ble_eq_true rfl⟩) (hv_preV (r := (RX4, TX4, 15)) hKs hV hS hm0 rfl) rfl rfl hl.1 rfl (lv_room (Nat.le_of_ble_eq_true rfl)) dX4_cuts_23 ⟨(Nat.le_of_ble_eq_true rfl), (Nat.le_of_ble_eq_true rfl)⟩) hS (fun r9 u9 H locs hq hV hS => ?_)
      obtain ⟨ad9, ct⟩ := u9
      dsimp only at hq
      obtain ⟨rfl, ha9, he, hne⟩ := hq
      have ha9 := ha9.symm
      subst ha9
      have hV : hv D N0 ad ct H := hV
      have hm1 := (hne (96) (by omega)).trans hm1
      have hm2 := (hne (112) (by omega)).trans hm2
      have hm3 := (hne (128) (by omega)).trans hm3
      have hm4 := (hne (144) (by omega)).trans hm4
      have hm5 := (hne (160) (by omega)).trans hm5
      have hm6 := (hne (176) (by omega)).trans hm6
      have hm7 := (hne (192) (by omega)).trans hm7
      have hm8 := (hne (208) (by omega)).trans hm8
      have hm9 := (hne (224) (by omega)).trans hm9
      have hm0 : ct (80) = some (eO 4 [.int (nI (1)), .int (gMi σ), .int (gFu σ), .int (nI (gNC σ)), .ref (ad (96)), .ref (ad (112)), .ref (ad (128)), .ref (ad (144)), .ref (ad (160)), .int (nI (gNS σ)), .ref (ad (176)), .ref (ad (192)), .int (nI (gNB σ)), .ref (ad (208)), .ref (ad (224))]) := he
      have hfr := fun (q : Nat) (q1 : q ≠ 1 ∧ (q % 16 ≠ 0 ∨ q < 80)) => (hne q (by omega)).trans (hfr q q1)
      have hkn : (k_cuts σ (nI y0qn) y1q) = 1 := by simp [k_cuts, c10, c18, e_y0q]
      rw [hQz]
      exact hv_iret (v := nI (0)) (u := (ad, ct)) hx hb hr ⟨fun h9 => absurd (hkn.symm.trans h9) (by decide), by rw [hkn]; exact ⟨f1, f2, f3, f4, f5, f6, f7, f8, f9, ⟨hm0, hm1, hm2, hm3, hm4, hm5, hm6, hm7, hm8, hm9⟩, hme⟩, fun q q1 => ⟨(hfa q q1).trans (by rw [had0]), fun q2 => (hfr q ⟨q1, q2⟩).trans (by rw [hct0])⟩⟩ hV hS dX4_cuts_26 hlocks

set_option maxHeartbeats 4000000 in
set_option maxRecDepth 100000 in
theorem c_X4_thrown (l : Launch) (D : hG) (N0 : Nat) (ad : Nat → Nat) (ct : hC) {σ : gS} {th : Nat} (hM : gM D σ th ad ct) (hO : okS σ) : Met l yX4_thrown wsX4_thrown ({ frames := 0, cells := 0, slots := 0, locals := 0 }) (hPc D N0 ad ct [.ref (ad (80))]) (va_Qi (fun (z : Int32) (u : hU) => z = nI th ∧ u = (ad, ct)) (hB D N0) (hA N0)) 0 0 (hA N0) := by
  refine Met.ofW (cc := cX4_thrown) (maxL := 1) (ret := (some .int)) (by decide) rfl ?_
  intro p e s m args below meth c s₁ B hml hv0
  obtain ⟨hargs, hKs, hV⟩ := hv0
  have hx := B.exec
  have hb := B.bytes
  have hr := B.returns
  have hts := atoms_spec (ws := wsX4_thrown) B.pre
  have hown : s.vm.findClass RX4 = some m.cls := findClass_of_methodNamed B.named
  have hlocks := B.notSynchronized
  have hS : va_S (hA N0) s.heap s.heap [] := va_S.rf
  have hiX4 : ∀ w ∈ u_ws RX4 TX4 15, w ∈ wsX4_thrown := by decide +kernel
  have lk41 := hts (.fieldLink RX4 41 "CaneSlicesModel" "thrown" "I") (by decide +kernel)
  have hl := lv_entry ([.ref (ad (80))]) (n := 1) (Nat.le_of_ble_eq_true rfl)
  have hE : entryFrame m args 1 = entryFrame m ([.ref (ad (80))] : List Value).toArray 1 := by rw [hargs]
  rw [hE, lg_entry_eq]
  generalize (lg_sl ([.ref (ad (80))]) ++ List.replicate (1 - (lg_sl ([.ref (ad (80))])).length) Slot.unset).toArray = ls at hl ⊢
  have hl : lv_has ls 1 [(0, .ref (ad (80)))] := hl
  obtain ⟨f1, f2, f3, f4, f5, f6, f7, f8, f9, ⟨hm0, hm1, hm2, hm3, hm4, hm5, hm6, hm7, hm8, hm9⟩, hme⟩ := id hM
  obtain ⟨em1, em2, em3, em4, em5, em6, em7, em8, em9⟩ := id hme
  refine lv_aload_n hx hb dX4_thrown_0 rfl (lv_at hl 0 rfl) ?_
  refine hv_get (C := RX4) (T := TX4) (N := 15) hx hb hts hiX4 hown hKs hV hm0 0 rfl (by decide) lk41 (fun _ h9 => h9) rfl dX4_thrown_1 ?_
  exact hv_iret (v := nI (th)) (u := (ad, ct)) hx hb hr ⟨rfl, rfl⟩ hV hS dX4_thrown_4 hlocks

set_option maxHeartbeats 4000000 in
set_option maxRecDepth 100000 in
theorem c_X4_mean (l : Launch) (D : hG) (N0 : Nat) (ad : Nat → Nat) (ct : hC) {σ : gS} {th : Nat} (hM : gM D σ th ad ct) (hO : okS σ) : Met l yX4_mean wsX4_mean ({ frames := 1, cells := 0, slots := 0, locals := 22 }) (hPc D N0 ad ct [.ref (ad (80))]) (va_Qd (fun (z : UInt64) (u : hU) => z = r_mean σ ∧ gM D σ 0 u.1 u.2 ∧ hFm ad ct u) (hB D N0) (hA N0)) 0 0 (hA N0) := by
  refine Met.ofW (cc := cX4_mean) (maxL := 1) (ret := (some .double)) (by decide) rfl ?_
  intro p e s m args below meth c s₁ B hml hv0
  obtain ⟨hargs, hKs, hV⟩ := hv0
  have hx := B.exec
  have hb := B.bytes
  have hr := B.returns
  have hts := atoms_spec (ws := wsX4_mean) B.pre
  have hown : s.vm.findClass RX4 = some m.cls := findClass_of_methodNamed B.named
  have hlocks := B.notSynchronized
  have hS : va_S (hA N0) s.heap s.heap [] := va_S.rf
  have hiX4 : ∀ w ∈ u_ws RX4 TX4 15, w ∈ wsX4_mean := by decide +kernel
  have lk41 := hts (.fieldLink RX4 41 "CaneSlicesModel" "thrown" "I") (by decide +kernel)
  have lk44 := hts (.fieldLink RX4 44 "CaneSlicesModel" "canes" "I") (by decide +kernel)
  have hl := lv_entry ([.ref (ad (80))]) (n := 1) (Nat.le_of_ble_eq_true rfl)
  have hE : entryFrame m args 1 = entryFrame m ([.ref (ad (80))] : List Value).toArray 1 := by rw [hargs]
  rw [hE, lg_entry_eq]
  generalize (lg_sl ([.ref (ad (80))]) ++ List.replicate (1 - (lg_sl ([.ref (ad (80))])).length) Slot.unset).toArray = ls at hl ⊢
  have hl : lv_has ls 1 [(0, .ref (ad (80)))] := hl
  obtain ⟨hn8, hn60, hn6, -⟩ := id hO
  have hs80 := nsm_le (f := cHt σ) (c := 10) (n := gNC σ) (fun k hk => (hO.2.2.2.1 k hk).2.1)
  obtain ⟨f1, f2, f3, f4, f5, f6, f7, f8, f9, ⟨hm0, hm1, hm2, hm3, hm4, hm5, hm6, hm7, hm8, hm9⟩, hme⟩ := id hM
  obtain ⟨em1, em2, em3, em4, em5, em6, em7, em8, em9⟩ := id hme
  obtain ⟨ad0, had0⟩ : ∃ z, z = ad := ⟨ad, rfl⟩
  obtain ⟨ct0, hct0⟩ : ∃ z, z = ct := ⟨ct, rfl⟩
  have hfr : ∀ q : Nat, (q ≠ 1 ∧ (q % 16 ≠ 0 ∨ q < 80)) → ct q = ct0 q := fun q _ => by rw [hct0]
  have hfa : ∀ q : Nat, q ≠ 1 → ad q = ad0 q := fun q _ => by rw [had0]
  refine lv_aload_n hx hb dX4_mean_0 rfl (lv_at hl 0 rfl) ?_
  refine lv_iconst (v := nI 0) hx hb dX4_mean_1 (by decide) ?_
  refine hv_put (ty := .int) (C := RX4) (T := TX4) (N := 15) hx hb hts hiX4 tyX4 tyX4_ok nmX4 hown hKs hV hS hm0 0 rfl (by decide) lk41 (fun _ h9 => h9) (Or.inl (by decide +kernel)) (by decide +kernel) rfl rfl (Nat.le_of_ble_eq_true rfl) dX4_mean_2 (fun ct H locs he hne hV hS => ?_)
  have hm1 := (hne (96) (by omega)).trans hm1
  have hm2 := (hne (112) (by omega)).trans hm2
  have hm3 := (hne (128) (by omega)).trans hm3
  have hm4 := (hne (144) (by omega)).trans hm4
  have hm5 := (hne (160) (by omega)).trans hm5
  have hm6 := (hne (176) (by omega)).trans hm6
  have hm7 := (hne (192) (by omega)).trans hm7
  have hm8 := (hne (208) (by omega)).trans hm8
  have hm9 := (hne (224) (by omega)).trans hm9
  have hm0 : ct (80) = some (eO 4 [.int (nI (0)), .int (gMi σ), .int (gFu σ), .int (nI (gNC σ)), .ref (ad (96)), .ref (ad (112)), .ref (ad (128)), .ref (ad (144)), .ref (ad (160)), .int (nI (gNS σ)), .ref (ad (176)), .ref (ad (192)), .int (nI (gNB σ)), .ref (ad (208)), .ref (ad (224))]) := he
  have hfr := fun (q : Nat) (q1 : q ≠ 1 ∧ (q % 16 ≠ 0 ∨ q < 80)) => (hne q (by omega)).trans (hfr q q1)
  refine lv_aload_n hx hb dX4_mean_5 rfl (lv_at hl 0 rfl) ?_
  refine hv_get (C := RX4) (T := TX4) (N := 15) hx hb hts hiX4 hown hKs hV hm0 3 rfl (by decide) lk44 (fun _ h9 => h9) rfl dX4_mean_6 ?_
  refine hN_if_ne (tgt := 16) hx hb (by omega) dX4_mean_9 (by decide) (fun c9 => ?_) (fun c9 => ?_)
  · refine lv_aload_n hx hb dX4_mean_16 rfl (lv_at hl 0 rfl) ?_
    refine hv_calli (va_runV (As := []) (rest := []) ⟨hx, hb, hml, hown, hts⟩ (c_X4_allHeat l D N0 ad ct (show gM D σ _ ad ct from ⟨f1, f2, f3, f4, f5, f6, f7, f8, f9, ⟨hm0, hm1, hm2, hm3, hm4, hm5, hm6, hm7, hm8, hm9⟩, hme⟩) hO) (cwV 0 hts gX4_mean_X4_allHeat rfl rfl rfl (by decide +kernel) ⟨Nat.le_of_ble_eq_true rfl, Nat.le_of_ble_eq_true rfl⟩) (hv_preV (r := (RX4, TX4, 15)) hKs hV hS hm0 rfl) rfl rfl hl.1 rfl (lv_room (Nat.le_of_ble_eq_true rfl)) dX4_mean_17 ⟨(Nat.le_of_ble_eq_true rfl), (Nat.le_of_ble_eq_true rfl)⟩) hS (fun r9 u9 H locs hq hV hS => ?_)
    obtain ⟨rfl, rfl⟩ := hq
    have hV : hv D N0 ad ct H := hV
    refine lv_i2d hx hb dX4_mean_20 ?_
    refine lv_aload_n hx hb dX4_mean_21 rfl (lv_at hl 0 rfl) ?_
    refine hv_get (C := RX4) (T := TX4) (N := 15) hx hb hts hiX4 hown hKs hV hm0 3 rfl (by decide) lk44 (fun _ h9 => h9) rfl dX4_mean_22 ?_
    refine lv_i2d hx hb dX4_mean_25 ?_
    refine lv_ddiv hx hb dX4_mean_26 (mean_n (by omega) (Nat.ne_of_gt c9) (by omega)) ?_
    exact hv_dret (v := FP.ddiv (FP.i2d (nI (nsm (cHt σ) (gNC σ)))) (FP.i2d (nI (gNC σ)))) (u := (ad, ct)) hx hb hr ⟨(if_neg (Nat.ne_of_gt c9)).symm, ⟨f1, f2, f3, f4, f5, f6, f7, f8, f9, ⟨hm0, hm1, hm2, hm3, hm4, hm5, hm6, hm7, hm8, hm9⟩, hme⟩, fun q q1 => ⟨(hfa q q1).trans (by rw [had0]), fun q2 => (hfr q ⟨q1, q2⟩).trans (by rw [hct0])⟩⟩ hV hS dX4_mean_27 hlocks
  · refine lv_dconst0 hx hb dX4_mean_12 ?_
    refine lv_goto (tgt := 27) hx hb dX4_mean_13 (by decide) ?_
    exact hv_dret (v := FP.dconst0) (u := (ad, ct)) hx hb hr ⟨(if_pos c9).symm, ⟨f1, f2, f3, f4, f5, f6, f7, f8, f9, ⟨hm0, hm1, hm2, hm3, hm4, hm5, hm6, hm7, hm8, hm9⟩, hme⟩, fun q q1 => ⟨(hfa q q1).trans (by rw [had0]), fun q2 => (hfr q ⟨q1, q2⟩).trans (by rw [hct0])⟩⟩ hV hS dX4_mean_27 hlocks
