set_option maxHeartbeats 4000000 in
set_option maxRecDepth 100000 in
theorem c_X3_begin (l : Launch) (hfl : l.stackTraces = false) (D : hG) (N0 : Nat) (ad : Nat → Nat) (ct : hC) {σ : gS} (hG : gX D σ ad ct) (hO : okS σ) : vx_Met l yX3_begin wsX3_begin ({ frames := 6, cells := 3, slots := 30, locals := 82 }) (hPc D N0 ad ct [.ref (ad (0))]) (va_Qi (fun (z : Int32) (u : hU) => (k_begin σ) = 0 ∧ z = nI (gNC σ) ∧ gX D (s_begin σ) u.1 u.2 ∧ hFr ad ct u) (hB D N0) (hA N0)) (hXC D N0 ad ct nmS (k_begin σ)) 3 30 (hA N0) := by
  refine vx_ofW (cc := cX3_begin) (maxL := 2) (ret := (some .int)) (by decide) rfl ?_
  intro p e s m args below meth c s₁ B hml hnx hv0
  obtain ⟨hargs, hKs, hV⟩ := hv0
  have hx := B.exec
  have hb := B.bytes
  have hr := B.returns
  have hts := atoms_spec (ws := wsX3_begin) B.pre
  have hown : s.vm.findClass RX3 = some m.cls := findClass_of_methodNamed B.named
  have hlocks := B.notSynchronized
  have hS : va_S (hA N0) s.heap s.heap [] := va_S.rf
  have hiX0 : ∀ w ∈ u_ws RX0 TX0 5, w ∈ wsX3_begin := by decide +kernel
  have hiX3 : ∀ w ∈ u_ws RX3 TX3 8, w ∈ wsX3_begin := by decide +kernel
  have lk28 := hts (.fieldLink RX3 28 "CaneSlices" "caneCount" "I") (by decide +kernel)
  have lk11 := hts (.fieldLink RX3 11 "CaneSlices" "canes" "[LCaneSlices$Cane;") (by decide +kernel)
  have kc9 := hts (.classLink RX3 9 RX0) (by decide +kernel)
  have kiX0 := hts (.instantiable RX0 5) (by decide +kernel)
  have kjX0 := hts (.initialized RX0) (by decide +kernel)
  have lk38 := hts (.methodLink RX3 38 yX0_init) (by decide +kernel)
  have kx3 := hts (.classLink RX3 31 "java/lang/IllegalStateException") (by decide +kernel)
  have ky3 := hts (.initialized "java/lang/IllegalStateException") (by decide +kernel)
  have ka3 := vx_hat (fun w h => hts w (List.mem_cons_of_mem _ (List.mem_append_right _ h))) xb3 (xB_of hKs (by decide))
  have hl := lv_entry ([.ref (ad (0))]) (n := 2) (Nat.le_of_ble_eq_true rfl)
  have hE : entryFrame m args 2 = entryFrame m ([.ref (ad (0))] : List Value).toArray 2 := by rw [hargs]
  rw [hE, lg_entry_eq]
  generalize (lg_sl ([.ref (ad (0))]) ++ List.replicate (2 - (lg_sl ([.ref (ad (0))])).length) Slot.unset).toArray = ls at hl ⊢
  have hl : lv_has ls 2 [(0, .ref (ad (0)))] := hl
  obtain ⟨hn8, hn60, hn6, -⟩ := id hO
  have hz0 : ct (0) = some (eO 3 [.ref (ad (16)), .ref (ad (32)), .ref (ad (48)), .int (nI (gNC σ)), .int (nI (gNS σ)), .int (nI (gNB σ)), .int (gFu σ), .int (gMi σ)]) := hG.1
  have hz1 : ct (16) = some (eQ (D.2 1) 8 (fun i => if i < gNC σ then some (ad (16 * i + 3)) else none)) := hG.2.1
  have hz2 : ct (32) = some (eQ (D.2 2) 60 (fun i => if i < gNS σ then some (ad (16 * i + 6)) else none)) := hG.2.2.1
  have hz3 : ct (48) = some (eQ (D.2 2) 24 (fun e => (gEy σ e).map (fun q => ad (16 * q.1 + 6)))) := hG.2.2.2.1
  refine lv_aload_n hx hb dX3_begin_0 rfl (lv_at hl 0 rfl) ?_
  refine hv_get (C := RX3) (T := TX3) (N := 8) hx hb hts hiX3 hown hKs hV hz0 3 rfl (by decide) lk28 (fun _ h9 => h9) rfl dX3_begin_1 ?_
  refine lv_bipush (v := nI 8) hx hb dX3_begin_4 (by decide) ?_
  refine hN_icmp_lt (tgt := 19) hx hb (by omega) (by omega) dX3_begin_6 (by decide) (fun c6 => ?_) (fun c6 => ?_)
  · refine lv_aload_n hx hb dX3_begin_19 rfl (lv_at hl 0 rfl) ?_
    refine hv_get (C := RX3) (T := TX3) (N := 8) hx hb hts hiX3 hown hKs hV hz0 3 rfl (by decide) lk28 (fun _ h9 => h9) rfl dX3_begin_20 ?_
    refine lv_istore_n (lv' := [(1, .int (nI (gNC σ))), (0, .ref (ad (0)))]) hx hb dX3_begin_23 rfl hl (by decide) rfl (fun ls hl => ?_)
    refine lv_aload_n hx hb dX3_begin_24 rfl (lv_at hl 1 rfl) ?_
    refine hv_get (C := RX3) (T := TX3) (N := 8) hx hb hts hiX3 hown hKs hV hz0 0 rfl (by decide) lk11 (fun _ h9 => h9) rfl dX3_begin_25 ?_
    refine lv_iload_n hx hb dX3_begin_28 rfl (lv_at hl 0 rfl) ?_
    refine hv_new (C := RX0) (T := TX0) (N := 5) hx hb hts hiX0 tyX0 tyX0_ok hown kc9 kiX0 kjX0 hKs hV hS (16 * (gNC σ) + 3) (ci := 0) rfl dv_X0 (Nat.le_of_ble_eq_true rfl) (Nat.le_of_ble_eq_true rfl) dX3_begin_29 (fun ad ct H he hne hna hV hS => ?_)
    refine hv_stk (st' := [.ref (ad (16 * (gNC σ) + 3)), .int (nI (gNC σ)), .ref (ad (16))]) (by rw [hna (16) (by omega)]) ?_
    have hl : lv_has ls 2 [(1, .int (nI (gNC σ))), (0, .ref (ad (0)))] := by rw [hna (0) (by omega)]; exact hl
    have hz0 : ct (0) = some (eO 3 [.ref (ad (16)), .ref (ad (32)), .ref (ad (48)), .int (nI (gNC σ)), .int (nI (gNS σ)), .int (nI (gNB σ)), .int (gFu σ), .int (gMi σ)]) := by rw [hne (0) (by omega), hna (16) (by omega), hna (32) (by omega), hna (48) (by omega)]; exact hz0
    have hz1 := (hne (16) (by omega)).trans hz1
    have hz2 := (hne (32) (by omega)).trans hz2
    have hz3 := (hne (48) (by omega)).trans hz3
    have hn1 : ct (16 * (gNC σ) + 3) = some (eO 0 [.null, .int (nI (0)), .int (nI (0)), .int (nI (0)), .int (nI (0))]) := he
    have hnaN := hna
    have hneN := hne
    refine lv_dup hx hb dX3_begin_32 rfl ?_
    refine hv_callv (va_runI (As := []) (rest := [.ref (ad (16 * (gNC σ) + 3)), .int (nI (gNC σ)), .ref (ad (16))]) ⟨hx, hb, hml, hown, hts⟩ (c_X0_init l D N0 ad ct hn1) (cwI 0 hts gX3_begin_X0_init rfl rfl rfl (hts (.initialized RX0) (by decide +kernel)) lk38 (hts (.instanceMethod yX0_init) (by decide +kernel)) rfl (by decide +kernel) ⟨Nat.le_of_ble_eq_true rfl, Nat.le_of_ble_eq_true rfl⟩) (hv_preS hKs hV hS) rfl rfl hl.1 rfl (lv_room (Nat.le_of_ble_eq_true rfl)) dX3_begin_33 ⟨(Nat.le_of_ble_eq_true rfl), (Nat.le_of_ble_eq_true rfl)⟩) hS (fun u9 H locs hq hV hS => ?_)
    obtain ⟨ad, ct⟩ := u9
    dsimp only at hq
    obtain ⟨hna0, hne0, hcn, hcp⟩ := hq
    have hV : hv D N0 ad ct H := hV
    have hne := fun (q : Nat) (q1 : q ≠ 16 * (gNC σ) + 3 ∧ q ≠ 16 * (gNC σ) + 3 + 1 ∧ q ≠ 16 * (gNC σ) + 3 + 2) => hne0 q q1.1 q1.2.1 q1.2.2
    have hna := fun (q : Nat) (q1 : q ≠ 16 * (gNC σ) + 3 + 1 ∧ q ≠ 16 * (gNC σ) + 3 + 2) => hna0 q q1.1 q1.2
    refine hv_stk (st' := [.ref (ad (16 * (gNC σ) + 3)), .int (nI (gNC σ)), .ref (ad (16))]) (by rw [hna (16) (by omega), hna (16 * (gNC σ) + 3) (by omega)]) ?_
    have hl : lv_has ls 2 [(1, .int (nI (gNC σ))), (0, .ref (ad (0)))] := by rw [hna (0) (by omega)]; exact hl
    have hz0 : ct (0) = some (eO 3 [.ref (ad (16)), .ref (ad (32)), .ref (ad (48)), .int (nI (gNC σ)), .int (nI (gNS σ)), .int (nI (gNB σ)), .int (gFu σ), .int (gMi σ)]) := by rw [hne (0) (by omega), hna (16) (by omega), hna (32) (by omega), hna (48) (by omega)]; exact hz0
    have hz1 := (hne (16) (by omega)).trans hz1
    have hz2 := (hne (32) (by omega)).trans hz2
    have hz3 := (hne (48) (by omega)).trans hz3
    have hcn : ct (16 * (gNC σ) + 3) = some (eO 0 [.ref (ad (16 * (gNC σ) + 3 + 1)), .int (nI (8)), .int (nI (0)), .int (nI (10)), .int (nI (0))]) := hcn
    have hcp : hPat D ad ct (16 * (gNC σ) + 3 + 1) (fun _ => 0) := hcp
    have hnaI := hna0
    have hneI := hne0
    refine hv_aast hx hb hKs hV hS 1 (r := (RX0, TX0, 5)) hz1 rfl hcn rfl (by omega) (by decide) dX3_begin_36 (fun ct H locs he hne hV hS => ?_)
    have hz0 := (hne (0) (by omega)).trans hz0
    have hz2 := (hne (32) (by omega)).trans hz2
    have hz3 := (hne (48) (by omega)).trans hz3
    have hcn := (hne (16 * (gNC σ) + 3) (by omega)).trans hcn
    have hz1 := he
    have hneA := hne
    have hcp : hPat D ad ct (16 * (gNC σ) + 3 + 1) (fun _ => 0) := hcp.keep (hne _ (by omega)) (hne _ (by omega)) rfl
    refine lv_aload_n hx hb dX3_begin_37 rfl (lv_at hl 1 rfl) ?_
    refine lv_dup hx hb dX3_begin_38 rfl ?_
    refine hv_get (C := RX3) (T := TX3) (N := 8) hx hb hts hiX3 hown hKs hV hz0 3 rfl (by decide) lk28 (fun _ h9 => h9) rfl dX3_begin_39 ?_
    refine lv_iconst (v := nI 1) hx hb dX3_begin_42 (by decide) ?_
    refine hN_iadd hx hb dX3_begin_43 ?_
    refine hv_put (ty := .int) (C := RX3) (T := TX3) (N := 8) hx hb hts hiX3 tyX3 tyX3_ok nmX3 hown hKs hV hS hz0 3 rfl (by decide) lk28 (fun _ h9 => h9) (Or.inl (by decide +kernel)) (by decide +kernel) rfl rfl (Nat.le_of_ble_eq_true rfl) dX3_begin_44 (fun ct H locs he hne hV hS => ?_)
    have hz2 := (hne (32) (by omega)).trans hz2
    have hz3 := (hne (48) (by omega)).trans hz3
    have hcn := (hne (16 * (gNC σ) + 3) (by omega)).trans hcn
    have hz1 := (hne (16) (by omega)).trans hz1
    have hz0 : ct (0) = some (eO 3 [.ref (ad (16)), .ref (ad (32)), .ref (ad (48)), .int (nI (gNC σ + 1)), .int (nI (gNS σ)), .int (nI (gNB σ)), .int (gFu σ), .int (gMi σ)]) := he
    have hneC := hne
    have hcp : hPat D ad ct (16 * (gNC σ) + 4) (fun _ => 0) := hcp.keep (hne _ (by omega)) (hne _ (by omega)) rfl
    refine lv_iload_n hx hb dX3_begin_47 rfl (lv_at hl 0 rfl) ?_
    refine W.widen (k := 3) (n := 30) (by omega) (by omega) ?_
    refine vx_ret ?_
    exact hv_iret (v := nI (gNC σ)) (u := (ad, ct)) hx hb hr ⟨if_neg (by omega), rfl, gX.begin hG hz0 hz1 ⟨hcn, hcp⟩ (fun q q1 q2 q3 q4 q5 => (hneC q q1).trans ((hneA q q2).trans ((hneI q q3 q4 q5).trans (hneN q q3)))) (fun q q1 q2 q3 => (hnaI q q2 q3).trans (hnaN q q1)), fun q q1 => ⟨(hnaI q (by omega) (by omega)).trans (hnaN q (by omega)), fun q2 => (hneC q (by omega)).trans ((hneA q (by omega)).trans ((hneI q (by omega) (by omega) (by omega)).trans (hneN q (by omega))))⟩⟩ hV hS dX3_begin_48 hlocks
  · exact hv_throw (text := "there are 8 canes") hx hb hfl hown hKs hV hS (by decide +kernel) kx3 ky3 (by decide +kernel) ka3 xg3 (hl.1.trans hml.symm) dX3_begin_9 dX3_begin_12 dX3_begin_13 dX3_begin_15 dX3_begin_18 hnx (Nat.le_of_ble_eq_true rfl) (Nat.le_of_ble_eq_true rfl) (Nat.le_of_ble_eq_true rfl) (Nat.le_of_ble_eq_true rfl) hlocks (if_pos (by omega)) (j := 1) (by decide) rfl (Nat.le_of_ble_eq_true rfl) (Nat.le_of_ble_eq_true rfl)

set_option maxHeartbeats 4000000 in
set_option maxRecDepth 100000 in
theorem c_X3_set (l : Launch) (hfl : l.stackTraces = false) (D : hG) (N0 : Nat) (ad : Nat → Nat) (ct : hC) {σ : gS} (hG : gX D σ ad ct) (hO : okS σ) (y0q y1q y2q y3q : Int32) : vx_Met l yX3_set wsX3_set ({ frames := 6, cells := 1, slots := 6, locals := 82 }) (hPc D N0 ad ct [.ref (ad (0)), .int (y0q), .int (y1q), .int (y2q), .int (y3q)]) (va_Qi (fun (z : Int32) (u : hU) => (k_set σ y0q y1q y2q y3q) = 0 ∧ z = nI (nsm (fun k => ie (s_set σ (4 * y0q.toInt.toNat + y1q.toInt.toNat) y2q.toInt.toNat y3q.toInt.toNat) (4 * y0q.toInt.toNat + k)) 4) ∧ gX D (s_set σ (4 * y0q.toInt.toNat + y1q.toInt.toNat) y2q.toInt.toNat y3q.toInt.toNat) u.1 u.2 ∧ hFr ad ct u) (hB D N0) (hA N0)) (hXC D N0 ad ct nm3 (k_set σ y0q y1q y2q y3q)) 1 6 (hA N0) := by
  refine vx_ofW (cc := cX3_set) (maxL := 7) (ret := (some .int)) (by decide) rfl ?_
  intro p e s m args below meth c s₁ B hml hnx hv0
  obtain ⟨hargs, hKs, hV⟩ := hv0
  have hx := B.exec
  have hb := B.bytes
  have hr := B.returns
  have hts := atoms_spec (ws := wsX3_set) B.pre
  have hown : s.vm.findClass RX3 = some m.cls := findClass_of_methodNamed B.named
  have hlocks := B.notSynchronized
  have hS : va_S (hA N0) s.heap s.heap [] := va_S.rf
  have hiX3 : ∀ w ∈ u_ws RX3 TX3 8, w ∈ wsX3_set := by decide +kernel
  have kx1 := hts (.classLink RX3 43 "java/lang/IndexOutOfBoundsException") (by decide +kernel)
  have ky1 := hts (.initialized "java/lang/IndexOutOfBoundsException") (by decide +kernel)
  have ka1 := vx_hat (fun w h => hts w (List.mem_cons_of_mem _ (List.mem_append_left _ (List.mem_append_left _ (List.mem_append_right _ h))))) xb1 (xB_of hKs (by decide))
  have lk21 := hts (.fieldLink RX3 21 "CaneSlices" "eyes" "[LCaneSlices$Slice;") (by decide +kernel)
  have kx3 := hts (.classLink RX3 31 "java/lang/IllegalStateException") (by decide +kernel)
  have ky3 := hts (.initialized "java/lang/IllegalStateException") (by decide +kernel)
  have ka3 := vx_hat (fun w h => hts w (List.mem_cons_of_mem _ (List.mem_append_right _ h))) xb3 (xB_of hKs (by decide))
  have kx2 := hts (.classLink RX3 55 "java/lang/IllegalArgumentException") (by decide +kernel)
  have ky2 := hts (.initialized "java/lang/IllegalArgumentException") (by decide +kernel)
  have ka2 := vx_hat (fun w h => hts w (List.mem_cons_of_mem _ (List.mem_append_left _ (List.mem_append_right _ h)))) xb2 (xB_of hKs (by decide))
  have hl := lv_entry ([.ref (ad (0)), .int (y0q), .int (y1q), .int (y2q), .int (y3q)]) (n := 7) (Nat.le_of_ble_eq_true rfl)
  have hE : entryFrame m args 7 = entryFrame m ([.ref (ad (0)), .int (y0q), .int (y1q), .int (y2q), .int (y3q)] : List Value).toArray 7 := by rw [hargs]
  rw [hE, lg_entry_eq]
  generalize (lg_sl ([.ref (ad (0)), .int (y0q), .int (y1q), .int (y2q), .int (y3q)]) ++ List.replicate (7 - (lg_sl ([.ref (ad (0)), .int (y0q), .int (y1q), .int (y2q), .int (y3q)])).length) Slot.unset).toArray = ls at hl ⊢
  have hl : lv_has ls 7 [(0, .ref (ad (0))), (1, .int (y0q)), (2, .int (y1q)), (3, .int (y2q)), (4, .int (y3q))] := hl
  obtain ⟨hn8, hn60, hn6, -⟩ := id hO
  have hz0 : ct (0) = some (eO 3 [.ref (ad (16)), .ref (ad (32)), .ref (ad (48)), .int (nI (gNC σ)), .int (nI (gNS σ)), .int (nI (gNB σ)), .int (gFu σ), .int (gMi σ)]) := hG.1
  have hz1 : ct (16) = some (eQ (D.2 1) 8 (fun i => if i < gNC σ then some (ad (16 * i + 3)) else none)) := hG.2.1
  have hz2 : ct (32) = some (eQ (D.2 2) 60 (fun i => if i < gNS σ then some (ad (16 * i + 6)) else none)) := hG.2.2.1
  have hz3 : ct (48) = some (eQ (D.2 2) 24 (fun e => (gEy σ e).map (fun q => ad (16 * q.1 + 6)))) := hG.2.2.2.1
  refine lv_aload_n hx hb dX3_set_0 rfl (lv_at hl 0 rfl) ?_
  refine lv_iload_n hx hb dX3_set_1 rfl (lv_at hl 3 rfl) ?_
  refine hv_callq (va_runV (As := [.int (y2q)]) (rest := []) ⟨hx, hb, hml, hown, hts⟩ (c_X3_sliceAt l D N0 ad ct hG hO (y2q)) (cwV 1 hts gX3_set_X3_sliceAt rfl rfl rfl (by decide +kernel) ⟨Nat.le_of_ble_eq_true rfl, Nat.le_of_ble_eq_true rfl⟩) (hv_preV (r := (RX3, TX3, 8)) hKs hV hS hz0 rfl) rfl rfl hl.1 rfl (lv_room (Nat.le_of_ble_eq_true rfl)) dX3_set_2 ⟨(Nat.le_of_ble_eq_true rfl), (Nat.le_of_ble_eq_true rfl)⟩) hS (fun r9 u9 H locs hq hV hS => ?_)
  obtain ⟨rfl, rfl⟩ := hq
  have hV : hv D N0 ad ct H := hV
  refine hv_ifQ (fun cq2 => ?_) (fun cq2 => ?_)
  · obtain ⟨y2qn, hy2qn, rfl⟩ := inR_of cq2
    have e_y2q : (nI y2qn).toInt.toNat = y2qn := toNat_nI (by omega)
    refine hv_eq (w := .ref (ad (16 * (y2qn) + 6))) (by rw [toNat_nI (by omega)]) ?_
    refine lv_astore (lv' := [(5, .ref (ad (16 * (y2qn) + 6))), (0, .ref (ad (0))), (1, .int (y0q)), (2, .int (y1q)), (3, .int (nI (y2qn))), (4, .int (y3q))]) hx hb dX3_set_5 hl (by decide) rfl (fun ls hl => ?_)
    refine lv_aload_n hx hb dX3_set_7 rfl (lv_at hl 1 rfl) ?_
    refine lv_iload_n hx hb dX3_set_8 rfl (lv_at hl 2 rfl) ?_
    refine hv_calli (va_runV (As := [.int (y0q)]) (rest := []) ⟨hx, hb, hml, hown, hts⟩ (c_X3_isBead l D N0 ad ct hG hO ((y0q))) (cwV 1 hts gX3_set_X3_isBead rfl rfl rfl (by decide +kernel) ⟨Nat.le_of_ble_eq_true rfl, Nat.le_of_ble_eq_true rfl⟩) (hv_preV (r := (RX3, TX3, 8)) hKs hV hS hz0 rfl) rfl rfl hl.1 rfl (lv_room (Nat.le_of_ble_eq_true rfl)) dX3_set_9 ⟨(Nat.le_of_ble_eq_true rfl), (Nat.le_of_ble_eq_true rfl)⟩) hS (fun r9 u9 H locs hq hV hS => ?_)
    obtain ⟨rfl, rfl⟩ := hq
    have hV : hv D N0 ad ct H := hV
    refine hB_if_eq (tgt := 27) hx hb dX3_set_12 (by decide) (fun c12 => ?_) (fun c12 => ?_)
    · exact hv_throw (text := "no such bead, eye or slice") hx hb hfl hown hKs hV hS (by decide +kernel) kx1 ky1 (by decide +kernel) ka1 xg1 (hl.1.trans hml.symm) dX3_set_27 dX3_set_30 dX3_set_31 dX3_set_33 dX3_set_36 hnx (Nat.le_of_ble_eq_true rfl) (Nat.le_of_ble_eq_true rfl) (Nat.le_of_ble_eq_true rfl) (Nat.le_of_ble_eq_true rfl) hlocks (by simp [k_set, cq2, c12, e_y2q]) (j := 1) (by decide) rfl (Nat.le_of_ble_eq_true rfl) (Nat.le_of_ble_eq_true rfl)
    · obtain ⟨y0qn, hy0qn, rfl⟩ := inR_of c12
      have e_y0q : (nI y0qn).toInt.toNat = y0qn := toNat_nI (by omega)
      refine lv_iload_n hx hb dX3_set_15 rfl (lv_at hl 3 rfl) ?_
      refine hv_calli (va_runS (As := [.int (y1q)]) (rest := []) ⟨hx, hb, hml, hown, hts⟩ (c_X3_isEye l D N0 ad ct ((y1q))) (va_cwS 1 hts gX3_set_X3_isEye rfl rfl rfl (by decide +kernel) ⟨Nat.le_of_ble_eq_true rfl, Nat.le_of_ble_eq_true rfl⟩) (hv_preS hKs hV hS) rfl rfl hl.1 rfl (lv_room (Nat.le_of_ble_eq_true rfl)) dX3_set_16 ⟨(Nat.le_of_ble_eq_true rfl), (Nat.le_of_ble_eq_true rfl)⟩) hS (fun r9 u9 H locs hq hV hS => ?_)
      obtain ⟨rfl, rfl⟩ := hq
      have hV : hv D N0 ad ct H := hV
      refine hB_if_eq (tgt := 27) hx hb dX3_set_19 (by decide) (fun c19 => ?_) (fun c19 => ?_)
      · exact hv_throw (text := "no such bead, eye or slice") hx hb hfl hown hKs hV hS (by decide +kernel) kx1 ky1 (by decide +kernel) ka1 xg1 (hl.1.trans hml.symm) dX3_set_27 dX3_set_30 dX3_set_31 dX3_set_33 dX3_set_36 hnx (Nat.le_of_ble_eq_true rfl) (Nat.le_of_ble_eq_true rfl) (Nat.le_of_ble_eq_true rfl) (Nat.le_of_ble_eq_true rfl) hlocks (by simp [k_set, cq2, c12, c19, e_y0q, e_y2q]) (j := 1) (by decide) rfl (Nat.le_of_ble_eq_true rfl) (Nat.le_of_ble_eq_true rfl)
      · obtain ⟨y1qn, hy1qn, rfl⟩ := inR_of c19
        have e_y1q : (nI y1qn).toInt.toNat = y1qn := toNat_nI (by omega)
        refine lv_aload hx hb dX3_set_22 (lv_at hl 0 rfl) ?_
        refine lv_ifnonnull (tgt := 37) hx hb dX3_set_24 (by decide) ?_
        refine lv_iload hx hb dX3_set_37 (lv_at hl 5 rfl) ?_
        refine hv_calli (va_runS (As := [.int (y3q)]) (rest := []) ⟨hx, hb, hml, hown, hts⟩ (c_X3_isSector l D N0 ad ct ((y3q))) (va_cwS 1 hts gX3_set_X3_isSector rfl rfl rfl (by decide +kernel) ⟨Nat.le_of_ble_eq_true rfl, Nat.le_of_ble_eq_true rfl⟩) (hv_preS hKs hV hS) rfl rfl hl.1 rfl (lv_room (Nat.le_of_ble_eq_true rfl)) dX3_set_39 ⟨(Nat.le_of_ble_eq_true rfl), (Nat.le_of_ble_eq_true rfl)⟩) hS (fun r9 u9 H locs hq hV hS => ?_)
        obtain ⟨rfl, rfl⟩ := hq
        have hV : hv D N0 ad ct H := hV
        refine hB_if_ne (tgt := 55) hx hb dX3_set_42 (by decide) (fun c42 => ?_) (fun c42 => ?_)
        · obtain ⟨y3qn, hy3qn, rfl⟩ := inR_of c42
          have e_y3q : (nI y3qn).toInt.toNat = y3qn := toNat_nI (by omega)
          refine lv_iconst (v := nI 4) hx hb dX3_set_55 (by decide) ?_
          refine lv_iload_n hx hb dX3_set_56 rfl (lv_at hl 2 rfl) ?_
          refine hN_imul hx hb dX3_set_57 ?_
          refine lv_iload_n hx hb dX3_set_58 rfl (lv_at hl 3 rfl) ?_
          refine hN_iadd hx hb dX3_set_59 ?_
          refine lv_istore (lv' := [(6, .int (nI ((4) * (y0qn) + y1qn))), (5, .ref (ad (16 * (y2qn) + 6))), (0, .ref (ad (0))), (1, .int (nI (y0qn))), (2, .int (nI (y1qn))), (3, .int (nI (y2qn))), (4, .int (nI (y3qn)))]) hx hb dX3_set_60 hl (by decide) rfl (fun ls hl => ?_)
          refine lv_aload_n hx hb dX3_set_62 rfl (lv_at hl 2 rfl) ?_
          refine hv_get (C := RX3) (T := TX3) (N := 8) hx hb hts hiX3 hown hKs hV hz0 2 rfl (by decide) lk21 (fun _ h9 => h9) rfl dX3_set_63 ?_
          refine lv_iload hx hb dX3_set_66 (lv_at hl 0 rfl) ?_
          refine hv_aald hx hb hKs hV 2 hz3 rfl (by omega) (by decide) dX3_set_68 ?_
          rcases hq68 : gEy σ ((4) * (y0qn) + y1qn) with _ | ⟨s68, t68⟩
          · refine hv_eq (w := .null) rfl ?_
            refine lv_ifnonnullN hx hb dX3_set_69 ?_
            refine lv_aload hx hb dX3_set_72 (lv_at hl 1 rfl) ?_
            have hd1 := hG.2.2.2.2.2 (y2qn) (by omega)
            have hd1f : ct (16 * (y2qn) + 6) = some (eO 2 [.int (nI (y2qn)), .ref (ad (16 * (y2qn) + 7)), .int (nI (sKd σ (y2qn))), .int (eyv (sEy σ (y2qn))), .int (nI (trn σ (y2qn)))]) := hd1.1
            refine hv_calli (va_runV (As := []) (rest := []) ⟨hx, hb, hml, hown, hts⟩ (c_X2_isFree l D N0 ad ct hd1f) (cwV 0 hts gX3_set_X2_isFree rfl rfl rfl (by decide +kernel) ⟨Nat.le_of_ble_eq_true rfl, Nat.le_of_ble_eq_true rfl⟩) (hv_preV (r := (RX2, TX2, 5)) hKs hV hS hd1f rfl) rfl rfl hl.1 rfl (lv_room (Nat.le_of_ble_eq_true rfl)) dX3_set_74 ⟨(Nat.le_of_ble_eq_true rfl), (Nat.le_of_ble_eq_true rfl)⟩) hS (fun r9 u9 H locs hq hV hS => ?_)
            obtain ⟨rfl, rfl⟩ := hq
            have hV : hv D N0 ad ct H := hV
            refine hB_if_ne (tgt := 90) hx hb dX3_set_77 (by decide) (fun c77 => ?_) (fun c77 => ?_)
            · refine lv_aload_n hx hb dX3_set_90 rfl (lv_at hl 2 rfl) ?_
              refine hv_get (C := RX3) (T := TX3) (N := 8) hx hb hts hiX3 hown hKs hV hz0 2 rfl (by decide) lk21 (fun _ h9 => h9) rfl dX3_set_91 ?_
              refine lv_iload hx hb dX3_set_94 (lv_at hl 0 rfl) ?_
              refine lv_aload hx hb dX3_set_96 (lv_at hl 1 rfl) ?_
              have hsx : sEy σ y2qn = none := (eyv_none (fun k hk => ok_ey hO (by omega) hk)).mp c77
              refine hv_aast hx hb hKs hV hS 2 (r := (RX2, TX2, 5)) hz3 rfl hd1f rfl (by omega) (by decide) dX3_set_98 (fun ct H locs he hne hV hS => ?_)
              have hz0 := (hne (0) (by omega)).trans hz0
              have hz1 := (hne (16) (by omega)).trans hz1
              have hz2 := (hne (32) (by omega)).trans hz2
              have hd1f := (hne (16 * (y2qn) + 6) (by omega)).trans hd1f
              have hz3 := he
              have hneA := hne
              refine lv_aload hx hb dX3_set_99 (lv_at hl 1 rfl) ?_
              refine lv_iload hx hb dX3_set_101 (lv_at hl 0 rfl) ?_
              refine lv_iload hx hb dX3_set_103 (lv_at hl 6 rfl) ?_
              refine hv_callv (va_runV (As := [.int (nI ((4) * (y0qn) + y1qn)), .int (nI (y3qn))]) (rest := []) ⟨hx, hb, hml, hown, hts⟩ (c_X2_enter l D N0 ad ct hd1f ((4) * (y0qn) + y1qn) (y3qn)) (cwV 2 hts gX3_set_X2_enter rfl rfl rfl (by decide +kernel) ⟨Nat.le_of_ble_eq_true rfl, Nat.le_of_ble_eq_true rfl⟩) (hv_preV (r := (RX2, TX2, 5)) hKs hV hS hd1f rfl) rfl rfl hl.1 rfl (lv_room (Nat.le_of_ble_eq_true rfl)) dX3_set_105 ⟨(Nat.le_of_ble_eq_true rfl), (Nat.le_of_ble_eq_true rfl)⟩) hS (fun u9 H locs hq hV hS => ?_)
              obtain ⟨ad9, ct⟩ := u9
              dsimp only at hq
              obtain ⟨ha9, he, hne⟩ := hq
              have ha9 := ha9.symm
              subst ha9
              have hV : hv D N0 ad ct H := hV
              have hz0 := (hne (0) (by omega)).trans hz0
              have hz1 := (hne (16) (by omega)).trans hz1
              have hz2 := (hne (32) (by omega)).trans hz2
              have hz3 := (hne (48) (by omega)).trans hz3
              have hG1 : gX D (s_set σ ((4) * (y0qn) + y1qn) y2qn y3qn) ad ct := gX.eye (k := (4) * (y0qn) + y1qn) (v := some (y2qn, y3qn)) (w := some ((4) * (y0qn) + y1qn)) hG (show y2qn < gNS σ by omega) rfl hz3 he (fun q q1 q2 => (hne q q2).trans (hneA q q1)) rfl (trn_set hO hq68).1 (trn_set hO hq68).2
              have hO1 : okS (s_set σ ((4) * (y0qn) + y1qn) y2qn y3qn) := ok_set hO (show (4) * (y0qn) + y1qn < 4 * gNB σ by omega) (show y2qn < gNS σ by omega) (by omega) hq68 hsx
              refine lv_aload_n hx hb dX3_set_108 rfl (lv_at hl 2 rfl) ?_
              refine lv_iload_n hx hb dX3_set_109 rfl (lv_at hl 3 rfl) ?_
              refine hv_calli (va_runV (As := [.int (nI (y0qn))]) (rest := []) ⟨hx, hb, hml, hown, hts⟩ (c_X3_filledEyes l D N0 ad ct hG1 hO1 (y0qn) (by omega)) (cwV 1 hts gX3_set_X3_filledEyes rfl rfl rfl (by decide +kernel) ⟨Nat.le_of_ble_eq_true rfl, Nat.le_of_ble_eq_true rfl⟩) (hv_preV (r := (RX3, TX3, 8)) hKs hV hS hz0 rfl) rfl rfl hl.1 rfl (lv_room (Nat.le_of_ble_eq_true rfl)) dX3_set_110 ⟨(Nat.le_of_ble_eq_true rfl), (Nat.le_of_ble_eq_true rfl)⟩) hS (fun r9 u9 H locs hq hV hS => ?_)
              obtain ⟨rfl, rfl⟩ := hq
              have hV : hv D N0 ad ct H := hV
              refine W.widen (k := 1) (n := 6) (by omega) (by omega) ?_
              refine vx_ret ?_
              exact hv_iret (v := nI (nsm (fun k => ie (s_set σ ((4) * (y0qn) + y1qn) y2qn y3qn) (4 * (y0qn) + k)) 4)) (u := (ad, ct)) hx hb hr ⟨by simp [k_set, c12, c19, c42, cq2, e_y0q, e_y1q, e_y2q, hq68, c77], by rw [e_y0q, e_y1q, e_y2q, e_y3q], by rw [e_y0q, e_y1q, e_y2q, e_y3q]; exact hG1, fun q q1 => ⟨rfl, fun q2 => (hne q (by omega)).trans (hneA q (by omega))⟩⟩ hV hS dX3_set_113 hlocks
            · exact hv_throw (text := "the eye has a slice, or the slice is in an eye") hx hb hfl hown hKs hV hS (by decide +kernel) kx3 ky3 (by decide +kernel) ka3 xg3 (hl.1.trans hml.symm) dX3_set_80 dX3_set_83 dX3_set_84 dX3_set_86 dX3_set_89 hnx (Nat.le_of_ble_eq_true rfl) (Nat.le_of_ble_eq_true rfl) (Nat.le_of_ble_eq_true rfl) (Nat.le_of_ble_eq_true rfl) hlocks (by simp [k_set, c12, c19, c42, cq2, e_y0q, e_y1q, e_y2q, e_y3q, hq68, c77]) (j := 3) (by decide) rfl (Nat.le_of_ble_eq_true rfl) (Nat.le_of_ble_eq_true rfl)
          · obtain ⟨he68, hs68, ht68, hy68⟩ := hO.2.2.2.2.2.1 _ _ _ hq68
            refine hv_eq (w := .ref (ad (16 * (s68) + 6))) rfl ?_
            refine lv_ifnonnull (tgt := 80) hx hb dX3_set_69 (by decide) ?_
            exact hv_throw (text := "the eye has a slice, or the slice is in an eye") hx hb hfl hown hKs hV hS (by decide +kernel) kx3 ky3 (by decide +kernel) ka3 xg3 (hl.1.trans hml.symm) dX3_set_80 dX3_set_83 dX3_set_84 dX3_set_86 dX3_set_89 hnx (Nat.le_of_ble_eq_true rfl) (Nat.le_of_ble_eq_true rfl) (Nat.le_of_ble_eq_true rfl) (Nat.le_of_ble_eq_true rfl) hlocks (by simp [k_set, c12, c19, c42, cq2, e_y0q, e_y1q, e_y2q, e_y3q, hq68]) (j := 3) (by decide) rfl (Nat.le_of_ble_eq_true rfl) (Nat.le_of_ble_eq_true rfl)
        · exact hv_throw (text := "not turned by 0 to 7 sectors") hx hb hfl hown hKs hV hS (by decide +kernel) kx2 ky2 (by decide +kernel) ka2 xg2 (hl.1.trans hml.symm) dX3_set_45 dX3_set_48 dX3_set_49 dX3_set_51 dX3_set_54 hnx (Nat.le_of_ble_eq_true rfl) (Nat.le_of_ble_eq_true rfl) (Nat.le_of_ble_eq_true rfl) (Nat.le_of_ble_eq_true rfl) hlocks (by simp [k_set, cq2, c12, c19, c42, e_y0q, e_y1q, e_y2q]) (j := 2) (by decide) rfl (Nat.le_of_ble_eq_true rfl) (Nat.le_of_ble_eq_true rfl)
  · refine lv_astoreN (lv' := [(5, .null), (0, .ref (ad (0))), (1, .int (y0q)), (2, .int (y1q)), (3, .int (y2q)), (4, .int (y3q))]) hx hb dX3_set_5 hl (by decide) rfl (fun ls hl => ?_)
    refine lv_aload_n hx hb dX3_set_7 rfl (lv_at hl 1 rfl) ?_
    refine lv_iload_n hx hb dX3_set_8 rfl (lv_at hl 2 rfl) ?_
    refine hv_calli (va_runV (As := [.int (y0q)]) (rest := []) ⟨hx, hb, hml, hown, hts⟩ (c_X3_isBead l D N0 ad ct hG hO ((y0q))) (cwV 1 hts gX3_set_X3_isBead rfl rfl rfl (by decide +kernel) ⟨Nat.le_of_ble_eq_true rfl, Nat.le_of_ble_eq_true rfl⟩) (hv_preV (r := (RX3, TX3, 8)) hKs hV hS hz0 rfl) rfl rfl hl.1 rfl (lv_room (Nat.le_of_ble_eq_true rfl)) dX3_set_9 ⟨(Nat.le_of_ble_eq_true rfl), (Nat.le_of_ble_eq_true rfl)⟩) hS (fun r9 u9 H locs hq hV hS => ?_)
    obtain ⟨rfl, rfl⟩ := hq
    have hV : hv D N0 ad ct H := hV
    refine hB_if_eq (tgt := 27) hx hb dX3_set_12 (by decide) (fun c12 => ?_) (fun c12 => ?_)
    · exact hv_throw (text := "no such bead, eye or slice") hx hb hfl hown hKs hV hS (by decide +kernel) kx1 ky1 (by decide +kernel) ka1 xg1 (hl.1.trans hml.symm) dX3_set_27 dX3_set_30 dX3_set_31 dX3_set_33 dX3_set_36 hnx (Nat.le_of_ble_eq_true rfl) (Nat.le_of_ble_eq_true rfl) (Nat.le_of_ble_eq_true rfl) (Nat.le_of_ble_eq_true rfl) hlocks (by simp [k_set, cq2, c12]) (j := 1) (by decide) rfl (Nat.le_of_ble_eq_true rfl) (Nat.le_of_ble_eq_true rfl)
    · obtain ⟨y0qn, hy0qn, rfl⟩ := inR_of c12
      have e_y0q : (nI y0qn).toInt.toNat = y0qn := toNat_nI (by omega)
      refine lv_iload_n hx hb dX3_set_15 rfl (lv_at hl 3 rfl) ?_
      refine hv_calli (va_runS (As := [.int (y1q)]) (rest := []) ⟨hx, hb, hml, hown, hts⟩ (c_X3_isEye l D N0 ad ct ((y1q))) (va_cwS 1 hts gX3_set_X3_isEye rfl rfl rfl (by decide +kernel) ⟨Nat.le_of_ble_eq_true rfl, Nat.le_of_ble_eq_true rfl⟩) (hv_preS hKs hV hS) rfl rfl hl.1 rfl (lv_room (Nat.le_of_ble_eq_true rfl)) dX3_set_16 ⟨(Nat.le_of_ble_eq_true rfl), (Nat.le_of_ble_eq_true rfl)⟩) hS (fun r9 u9 H locs hq hV hS => ?_)
      obtain ⟨rfl, rfl⟩ := hq
      have hV : hv D N0 ad ct H := hV
      refine hB_if_eq (tgt := 27) hx hb dX3_set_19 (by decide) (fun c19 => ?_) (fun c19 => ?_)
      · exact hv_throw (text := "no such bead, eye or slice") hx hb hfl hown hKs hV hS (by decide +kernel) kx1 ky1 (by decide +kernel) ka1 xg1 (hl.1.trans hml.symm) dX3_set_27 dX3_set_30 dX3_set_31 dX3_set_33 dX3_set_36 hnx (Nat.le_of_ble_eq_true rfl) (Nat.le_of_ble_eq_true rfl) (Nat.le_of_ble_eq_true rfl) (Nat.le_of_ble_eq_true rfl) hlocks (by simp [k_set, cq2, c12, c19, e_y0q]) (j := 1) (by decide) rfl (Nat.le_of_ble_eq_true rfl) (Nat.le_of_ble_eq_true rfl)
      · obtain ⟨y1qn, hy1qn, rfl⟩ := inR_of c19
        have e_y1q : (nI y1qn).toInt.toNat = y1qn := toNat_nI (by omega)
        refine lv_aloadN hx hb dX3_set_22 (lv_at hl 0 rfl) ?_
        refine lv_ifnonnullN hx hb dX3_set_24 ?_
        exact hv_throw (text := "no such bead, eye or slice") hx hb hfl hown hKs hV hS (by decide +kernel) kx1 ky1 (by decide +kernel) ka1 xg1 (hl.1.trans hml.symm) dX3_set_27 dX3_set_30 dX3_set_31 dX3_set_33 dX3_set_36 hnx (Nat.le_of_ble_eq_true rfl) (Nat.le_of_ble_eq_true rfl) (Nat.le_of_ble_eq_true rfl) (Nat.le_of_ble_eq_true rfl) hlocks (by simp [k_set, cq2, c12, c19, e_y0q, e_y1q]) (j := 1) (by decide) rfl (Nat.le_of_ble_eq_true rfl) (Nat.le_of_ble_eq_true rfl)

set_option maxHeartbeats 4000000 in
set_option maxRecDepth 100000 in
theorem c_X3_mean (l : Launch) (D : hG) (N0 : Nat) (ad : Nat → Nat) (ct : hC) {σ : gS} (hG : gX D σ ad ct) (hO : okS σ) : Met l yX3_mean wsX3_mean ({ frames := 1, cells := 0, slots := 0, locals := 25 }) (hPc D N0 ad ct [.ref (ad (0))]) (va_Qd (fun (z : UInt64) (u : hU) => z = r_mean σ ∧ u = (ad, ct)) (hB D N0) (hA N0)) 0 0 (hA N0) := by
  refine Met.ofW (cc := cX3_mean) (maxL := 1) (ret := (some .double)) (by decide) rfl ?_
  intro p e s m args below meth c s₁ B hml hv0
  obtain ⟨hargs, hKs, hV⟩ := hv0
  have hx := B.exec
  have hb := B.bytes
  have hr := B.returns
  have hts := atoms_spec (ws := wsX3_mean) B.pre
  have hown : s.vm.findClass RX3 = some m.cls := findClass_of_methodNamed B.named
  have hlocks := B.notSynchronized
  have hS : va_S (hA N0) s.heap s.heap [] := va_S.rf
  have hiX3 : ∀ w ∈ u_ws RX3 TX3 8, w ∈ wsX3_mean := by decide +kernel
  have lk28 := hts (.fieldLink RX3 28 "CaneSlices" "caneCount" "I") (by decide +kernel)
  have hl := lv_entry ([.ref (ad (0))]) (n := 1) (Nat.le_of_ble_eq_true rfl)
  have hE : entryFrame m args 1 = entryFrame m ([.ref (ad (0))] : List Value).toArray 1 := by rw [hargs]
  rw [hE, lg_entry_eq]
  generalize (lg_sl ([.ref (ad (0))]) ++ List.replicate (1 - (lg_sl ([.ref (ad (0))])).length) Slot.unset).toArray = ls at hl ⊢
  have hl : lv_has ls 1 [(0, .ref (ad (0)))] := hl
  obtain ⟨hn8, hn60, hn6, -⟩ := id hO
  have hs80 := nsm_le (f := cHt σ) (c := 10) (n := gNC σ) (fun k hk => (hO.2.2.2.1 k hk).2.1)
  refine lv_aload_n hx hb dX3_mean_0 rfl (lv_at hl 0 rfl) ?_
  refine hv_get (C := RX3) (T := TX3) (N := 8) hx hb hts hiX3 hown hKs hV hG.1 3 rfl (by decide) lk28 (fun _ h9 => h9) rfl dX3_mean_1 ?_
  refine hN_if_ne (tgt := 11) hx hb (by omega) dX3_mean_4 (by decide) (fun c4 => ?_) (fun c4 => ?_)
  · refine lv_aload_n hx hb dX3_mean_11 rfl (lv_at hl 0 rfl) ?_
    refine hv_calli (va_runV (As := []) (rest := []) ⟨hx, hb, hml, hown, hts⟩ (c_X3_heatOfAll l D N0 ad ct hG hO) (cwV 0 hts gX3_mean_X3_heatOfAll rfl rfl rfl (by decide +kernel) ⟨Nat.le_of_ble_eq_true rfl, Nat.le_of_ble_eq_true rfl⟩) (hv_preV (r := (RX3, TX3, 8)) hKs hV hS hG.1 rfl) rfl rfl hl.1 rfl (lv_room (Nat.le_of_ble_eq_true rfl)) dX3_mean_12 ⟨(Nat.le_of_ble_eq_true rfl), (Nat.le_of_ble_eq_true rfl)⟩) hS (fun r9 u9 H locs hq hV hS => ?_)
    obtain ⟨rfl, rfl⟩ := hq
    have hV : hv D N0 ad ct H := hV
    refine lv_i2d hx hb dX3_mean_15 ?_
    refine lv_aload_n hx hb dX3_mean_16 rfl (lv_at hl 0 rfl) ?_
    refine hv_get (C := RX3) (T := TX3) (N := 8) hx hb hts hiX3 hown hKs hV hG.1 3 rfl (by decide) lk28 (fun _ h9 => h9) rfl dX3_mean_17 ?_
    refine lv_i2d hx hb dX3_mean_20 ?_
    refine lv_ddiv hx hb dX3_mean_21 (mean_n (by omega) (Nat.ne_of_gt c4) (by omega)) ?_
    exact hv_dret (v := FP.ddiv (FP.i2d (nI (nsm (cHt σ) (gNC σ)))) (FP.i2d (nI (gNC σ)))) (u := (ad, ct)) hx hb hr ⟨(if_neg (Nat.ne_of_gt c4)).symm, rfl⟩ hV hS dX3_mean_22 hlocks
  · refine lv_dconst0 hx hb dX3_mean_7 ?_
    refine lv_goto (tgt := 22) hx hb dX3_mean_8 (by decide) ?_
    exact hv_dret (v := FP.dconst0) (u := (ad, ct)) hx hb hr ⟨(if_pos c4).symm, rfl⟩ hV hS dX3_mean_22 hlocks
