set_option maxHeartbeats 4000000 in
set_option maxRecDepth 100000 in
theorem c_X3_init (l : Launch) (D : hG) (N0 : Nat) (ad : Nat → Nat) (ct : hC) (h0 : ct 0 = some (eO 3 [.null, .null, .null, .int (nI (0)), .int (nI (0)), .int (nI (0)), .int (nI (0)), .int (nI (0))])) : Met l yX3_init wsX3_init ({ frames := 1, cells := 3, slots := 92, locals := 12 }) (hPcO D N0 ad ct [.ref (ad (0))]) (va_Qv (fun (u : hU) => gX D s_0 u.1 u.2 ∧ (∀ q : Nat, q ≠ 16 → q ≠ 32 → q ≠ 48 → u.1 q = ad q) ∧ ∀ q : Nat, q ≠ 0 → q ≠ 16 → q ≠ 32 → q ≠ 48 → u.2 q = ct q) (hB D N0) (hA N0)) 3 92 (hA N0) := by
  refine Met.ofW (cc := cX3_init) (maxL := 1) (ret := none) (by decide) rfl ?_
  intro p e s m args below meth c s₁ B hml hv0
  obtain ⟨hargs, ⟨hAOX0, hAOX2⟩, hKs, hV⟩ := hv0
  have hx := B.exec
  have hb := B.bytes
  have hr := B.returns
  have hts := atoms_spec (ws := wsX3_init) B.pre
  have hown : s.vm.findClass RX3 = some m.cls := findClass_of_methodNamed B.named
  have hlocks := B.notSynchronized
  have hS : va_S (hA N0) s.heap s.heap [] := va_S.rf
  have hin0 : meth.name = "<init>" := (name_of_methodNamed B.named B.method).1
  have hiX3 : ∀ w ∈ u_ws RX3 TX3 8, w ∈ wsX3_init := by decide +kernel
  have lk1 := hts (.methodLink RX3 1 objectInit) (by decide +kernel)
  have kc9 := hts (.classLink RX3 9 RX0) (by decide +kernel)
  have lk11 := hts (.fieldLink RX3 11 "CaneSlices" "canes" "[LCaneSlices$Cane;") (by decide +kernel)
  have kc15 := hts (.classLink RX3 15 RX2) (by decide +kernel)
  have lk17 := hts (.fieldLink RX3 17 "CaneSlices" "slices" "[LCaneSlices$Slice;") (by decide +kernel)
  have lk21 := hts (.fieldLink RX3 21 "CaneSlices" "eyes" "[LCaneSlices$Slice;") (by decide +kernel)
  have lk24 := hts (.fieldLink RX3 24 "CaneSlices" "inFurnace" "I") (by decide +kernel)
  have hl := lv_entry ([.ref (ad (0))]) (n := 1) (Nat.le_of_ble_eq_true rfl)
  have hE : entryFrame m args 1 = entryFrame m ([.ref (ad (0))] : List Value).toArray 1 := by rw [hargs]
  rw [hE, lg_entry_eq]
  generalize (lg_sl ([.ref (ad (0))]) ++ List.replicate (1 - (lg_sl ([.ref (ad (0))])).length) Slot.unset).toArray = ls at hl ⊢
  have hl : lv_has ls 1 [(0, .ref (ad (0)))] := hl
  refine lv_aload_n hx hb dX3_init_0 rfl (lv_at hl 0 rfl) ?_
  refine W.objInit hx hb hown lk1 (hts (.instanceMethod objectInit) (by decide +kernel)) (hts (.code objectInit ⟨#[0xb1]⟩ 1 none) (by decide +kernel)) rfl (by rw [hml]; exact hl.1) rfl dX3_init_1 (Nat.le_of_ble_eq_true rfl) (Nat.le_of_ble_eq_true rfl) ?_
  refine W.eq (g2 := F0 m 4 ls []) rfl ?_
  refine lv_aload_n hx hb dX3_init_4 rfl (lv_at hl 0 rfl) ?_
  refine lv_bipush (v := nI 8) hx hb dX3_init_5 (by decide) ?_
  refine hv_newq hx hb hown kc9 hAOX0 hKs hV hS (16) 1 rfl (n := 8) (by decide) (Nat.le_of_ble_eq_true rfl) (Nat.le_of_ble_eq_true rfl) dX3_init_7 (fun ad ct H he hne hna hV hS => ?_)
  refine hv_stk (st' := [.ref (ad (16)), .ref (ad (0))]) (by rw [hna (0) (by omega)]) ?_
  have hl : lv_has ls 1 [(0, .ref (ad (0)))] := by rw [hna (0) (by omega)]; exact hl
  have h0 : ct (0) = some (eO 3 [.null, .null, .null, .int (nI (0)), .int (nI (0)), .int (nI (0)), .int (nI (0)), .int (nI (0))]) := by rw [hne (0) (by omega)]; exact h0
  have hn1 := he
  have hneN16 := hne
  have hnaN16 := hna
  refine hv_put (ty := .array (.object "CaneSlices$Cane")) (C := RX3) (T := TX3) (N := 8) hx hb hts hiX3 tyX3 tyX3_ok nmX3 hown hKs hV hS h0 0 rfl (by decide) lk11 (fun _ h9 => h9) (Or.inr ⟨hin0, rfl⟩) (by decide +kernel) rfl rfl (Nat.le_of_ble_eq_true rfl) dX3_init_10 (fun ct H locs he hne hV hS => ?_)
  have hn1 := (hne (16) (by omega)).trans hn1
  have h0 : ct (0) = some (eO 3 [.ref (ad (16)), .null, .null, .int (nI (0)), .int (nI (0)), .int (nI (0)), .int (nI (0)), .int (nI (0))]) := he
  have hnePcanes := hne
  refine lv_aload_n hx hb dX3_init_13 rfl (lv_at hl 0 rfl) ?_
  refine lv_bipush (v := nI 60) hx hb dX3_init_14 (by decide) ?_
  refine hv_newq hx hb hown kc15 hAOX2 hKs hV hS (32) 2 rfl (n := 60) (by decide) (Nat.le_of_ble_eq_true rfl) (Nat.le_of_ble_eq_true rfl) dX3_init_16 (fun ad ct H he hne hna hV hS => ?_)
  refine hv_stk (st' := [.ref (ad (32)), .ref (ad (0))]) (by rw [hna (0) (by omega)]) ?_
  have hl : lv_has ls 1 [(0, .ref (ad (0)))] := by rw [hna (0) (by omega)]; exact hl
  have hn1 := (hne (16) (by omega)).trans hn1
  have h0 : ct (0) = some (eO 3 [.ref (ad (16)), .null, .null, .int (nI (0)), .int (nI (0)), .int (nI (0)), .int (nI (0)), .int (nI (0))]) := by rw [hne (0) (by omega), hna (16) (by omega)]; exact h0
  have hn2 := he
  have hneN32 := hne
  have hnaN32 := hna
  refine hv_put (ty := .array (.object "CaneSlices$Slice")) (C := RX3) (T := TX3) (N := 8) hx hb hts hiX3 tyX3 tyX3_ok nmX3 hown hKs hV hS h0 1 rfl (by decide) lk17 (fun _ h9 => h9) (Or.inr ⟨hin0, rfl⟩) (by decide +kernel) rfl rfl (Nat.le_of_ble_eq_true rfl) dX3_init_19 (fun ct H locs he hne hV hS => ?_)
  have hn1 := (hne (16) (by omega)).trans hn1
  have hn2 := (hne (32) (by omega)).trans hn2
  have h0 : ct (0) = some (eO 3 [.ref (ad (16)), .ref (ad (32)), .null, .int (nI (0)), .int (nI (0)), .int (nI (0)), .int (nI (0)), .int (nI (0))]) := he
  have hnePslices := hne
  refine lv_aload_n hx hb dX3_init_22 rfl (lv_at hl 0 rfl) ?_
  refine lv_bipush (v := nI 24) hx hb dX3_init_23 (by decide) ?_
  refine hv_newq hx hb hown kc15 hAOX2 hKs hV hS (48) 2 rfl (n := 24) (by decide) (Nat.le_of_ble_eq_true rfl) (Nat.le_of_ble_eq_true rfl) dX3_init_25 (fun ad ct H he hne hna hV hS => ?_)
  refine hv_stk (st' := [.ref (ad (48)), .ref (ad (0))]) (by rw [hna (0) (by omega)]) ?_
  have hl : lv_has ls 1 [(0, .ref (ad (0)))] := by rw [hna (0) (by omega)]; exact hl
  have hn1 := (hne (16) (by omega)).trans hn1
  have hn2 := (hne (32) (by omega)).trans hn2
  have h0 : ct (0) = some (eO 3 [.ref (ad (16)), .ref (ad (32)), .null, .int (nI (0)), .int (nI (0)), .int (nI (0)), .int (nI (0)), .int (nI (0))]) := by rw [hne (0) (by omega), hna (16) (by omega), hna (32) (by omega)]; exact h0
  have hn3 := he
  have hneN48 := hne
  have hnaN48 := hna
  refine hv_put (ty := .array (.object "CaneSlices$Slice")) (C := RX3) (T := TX3) (N := 8) hx hb hts hiX3 tyX3 tyX3_ok nmX3 hown hKs hV hS h0 2 rfl (by decide) lk21 (fun _ h9 => h9) (Or.inr ⟨hin0, rfl⟩) (by decide +kernel) rfl rfl (Nat.le_of_ble_eq_true rfl) dX3_init_28 (fun ct H locs he hne hV hS => ?_)
  have hn1 := (hne (16) (by omega)).trans hn1
  have hn2 := (hne (32) (by omega)).trans hn2
  have hn3 := (hne (48) (by omega)).trans hn3
  have h0 : ct (0) = some (eO 3 [.ref (ad (16)), .ref (ad (32)), .ref (ad (48)), .int (nI (0)), .int (nI (0)), .int (nI (0)), .int (nI (0)), .int (nI (0))]) := he
  have hnePeyes := hne
  refine lv_aload_n hx hb dX3_init_31 rfl (lv_at hl 0 rfl) ?_
  refine lv_iconst (v := (-1)) hx hb dX3_init_32 (by decide) ?_
  refine hv_put (ty := .int) (C := RX3) (T := TX3) (N := 8) hx hb hts hiX3 tyX3 tyX3_ok nmX3 hown hKs hV hS h0 6 rfl (by decide) lk24 (fun _ h9 => h9) (Or.inl (by decide +kernel)) (by decide +kernel) rfl rfl (Nat.le_of_ble_eq_true rfl) dX3_init_33 (fun ct H locs he hne hV hS => ?_)
  have hn1 := (hne (16) (by omega)).trans hn1
  have hn2 := (hne (32) (by omega)).trans hn2
  have hn3 := (hne (48) (by omega)).trans hn3
  have h0 : ct (0) = some (eO 3 [.ref (ad (16)), .ref (ad (32)), .ref (ad (48)), .int (nI (0)), .int (nI (0)), .int (nI (0)), .int ((-1)), .int (nI (0))]) := he
  have hnePinFurnace := hne
  refine W.widen (k := 3) (n := 92) (by omega) (by omega) ?_
  exact hv_vret (u := (ad, ct)) hx hb hr ⟨gX_0 h0 hn1 hn2 hn3, fun q q1 q2 q3 => (hnaN48 q q3).trans ((hnaN32 q q2).trans (hnaN16 q q1)), fun q q0 q1 q2 q3 => (hnePinFurnace q q0).trans ((hnePeyes q q0).trans ((hneN48 q q3).trans ((hnePslices q q0).trans ((hneN32 q q2).trans ((hnePcanes q q0).trans (hneN16 q q1))))))⟩ hV hS dX3_init_36 hlocks
