set_option maxHeartbeats 4000000 in
set_option maxRecDepth 100000 in
theorem c_X3_bead (l : Launch) (hfl : l.stackTraces = false) (D : hG) (N0 : Nat) (ad : Nat → Nat) (ct : hC) {σ : gS} (hG : gX D σ ad ct) (hO : okS σ) : vx_Met l yX3_bead wsX3_bead ({ frames := 6, cells := 1, slots := 6, locals := 82 }) (hPc D N0 ad ct [.ref (ad (0))]) (va_Qi (fun (z : Int32) (u : hU) => (k_bead σ) = 0 ∧ z = nI (gNB σ) ∧ gX D (uObj σ (gNB σ + 1) (gFu σ) (gMi σ)) u.1 u.2 ∧ hFr ad ct u) (hB D N0) (hA N0)) (hXC D N0 ad ct nmS (k_bead σ)) 1 6 (hA N0) := by
  refine vx_ofW (cc := cX3_bead) (maxL := 2) (ret := (some .int)) (by decide) rfl ?_
  intro p e s m args below meth c s₁ B hml hnx hv0
  obtain ⟨hargs, hKs, hV⟩ := hv0
  have hx := B.exec
  have hb := B.bytes
  have hr := B.returns
  have hts := atoms_spec (ws := wsX3_bead) B.pre
  have hown : s.vm.findClass RX3 = some m.cls := findClass_of_methodNamed B.named
  have hlocks := B.notSynchronized
  have hS : va_S (hA N0) s.heap s.heap [] := va_S.rf
  have hiX3 : ∀ w ∈ u_ws RX3 TX3 8, w ∈ wsX3_bead := by decide +kernel
  have lk158 := hts (.fieldLink RX3 158 "CaneSlices" "beadCount" "I") (by decide +kernel)
  have kx3 := hts (.classLink RX3 31 "java/lang/IllegalStateException") (by decide +kernel)
  have ky3 := hts (.initialized "java/lang/IllegalStateException") (by decide +kernel)
  have ka3 := vx_hat (fun w h => hts w (List.mem_cons_of_mem _ (List.mem_append_right _ h))) xb3 (xB_of hKs (by decide))
  have hl := lv_entry ([.ref (ad (0))]) (n := 2) (Nat.le_of_ble_eq_true rfl)
  have hE : entryFrame m args 2 = entryFrame m ([.ref (ad (0))] : List Value).toArray 2 := by rw [hargs]
  rw [hE, lg_entry_eq]
  generalize (lg_sl ([.ref (ad (0))]) ++ List.replicate (2 - (lg_sl ([.ref (ad (0))])).length) Slot.unset).toArray = ls at hl ⊢
  have hl : lv_has ls 2 [(0, .ref (ad (0)))] := hl
  obtain ⟨hn8, hn60, hn6, -⟩ := id hO
  have hz0 : ct (0) = some (eO 3 [.ref (ad (16)), .ref (ad (32)), .ref (ad (48)), .int (nI (gNC σ)), .int (nI (gNS σ)), .int (nI (gNB σ)), .int (gFu σ), .int (gMi σ)]) := hG.1
  have hz1 : ct (16) = some (eQ (D.2 1) 8 (fun i => if i < gNC σ then some (ad (16 * i + 3)) else none)) := hG.2.1
  have hz2 : ct (32) = some (eQ (D.2 2) 60 (fun i => if i < gNS σ then some (ad (16 * i + 6)) else none)) := hG.2.2.1
  have hz3 : ct (48) = some (eQ (D.2 2) 24 (fun e => (gEy σ e).map (fun q => ad (16 * q.1 + 6)))) := hG.2.2.2.1
  refine lv_aload_n hx hb dX3_bead_0 rfl (lv_at hl 0 rfl) ?_
  refine hv_get (C := RX3) (T := TX3) (N := 8) hx hb hts hiX3 hown hKs hV hz0 5 rfl (by decide) lk158 (fun _ h9 => h9) rfl dX3_bead_1 ?_
  refine lv_bipush (v := nI 6) hx hb dX3_bead_4 (by decide) ?_
  refine hN_icmp_lt (tgt := 19) hx hb (by omega) (by omega) dX3_bead_6 (by decide) (fun c6 => ?_) (fun c6 => ?_)
  · refine lv_aload_n hx hb dX3_bead_19 rfl (lv_at hl 0 rfl) ?_
    refine hv_get (C := RX3) (T := TX3) (N := 8) hx hb hts hiX3 hown hKs hV hz0 5 rfl (by decide) lk158 (fun _ h9 => h9) rfl dX3_bead_20 ?_
    refine lv_istore_n (lv' := [(1, .int (nI (gNB σ))), (0, .ref (ad (0)))]) hx hb dX3_bead_23 rfl hl (by decide) rfl (fun ls hl => ?_)
    refine lv_aload_n hx hb dX3_bead_24 rfl (lv_at hl 1 rfl) ?_
    refine lv_dup hx hb dX3_bead_25 rfl ?_
    refine hv_get (C := RX3) (T := TX3) (N := 8) hx hb hts hiX3 hown hKs hV hz0 5 rfl (by decide) lk158 (fun _ h9 => h9) rfl dX3_bead_26 ?_
    refine lv_iconst (v := nI 1) hx hb dX3_bead_29 (by decide) ?_
    refine hN_iadd hx hb dX3_bead_30 ?_
    refine hv_put (ty := .int) (C := RX3) (T := TX3) (N := 8) hx hb hts hiX3 tyX3 tyX3_ok nmX3 hown hKs hV hS hz0 5 rfl (by decide) lk158 (fun _ h9 => h9) (Or.inl (by decide +kernel)) (by decide +kernel) rfl rfl (Nat.le_of_ble_eq_true rfl) dX3_bead_31 (fun ct H locs he hne hV hS => ?_)
    have hz1 := (hne (16) (by omega)).trans hz1
    have hz2 := (hne (32) (by omega)).trans hz2
    have hz3 := (hne (48) (by omega)).trans hz3
    have hz0 : ct (0) = some (eO 3 [.ref (ad (16)), .ref (ad (32)), .ref (ad (48)), .int (nI (gNC σ)), .int (nI (gNS σ)), .int (nI (gNB σ + 1)), .int (gFu σ), .int (gMi σ)]) := he
    refine lv_iload_n hx hb dX3_bead_34 rfl (lv_at hl 0 rfl) ?_
    refine W.widen (k := 1) (n := 6) (by omega) (by omega) ?_
    refine vx_ret ?_
    exact hv_iret (v := nI (gNB σ)) (u := (ad, ct)) hx hb hr ⟨if_neg (by omega), rfl, hG.obj he hne, fun q q1 => ⟨rfl, fun q2 => hne q (by omega)⟩⟩ hV hS dX3_bead_35 hlocks
  · exact hv_throw (text := "there are 6 beads") hx hb hfl hown hKs hV hS (by decide +kernel) kx3 ky3 (by decide +kernel) ka3 xg3 (hl.1.trans hml.symm) dX3_bead_9 dX3_bead_12 dX3_bead_13 dX3_bead_15 dX3_bead_18 hnx (Nat.le_of_ble_eq_true rfl) (Nat.le_of_ble_eq_true rfl) (Nat.le_of_ble_eq_true rfl) (Nat.le_of_ble_eq_true rfl) hlocks (if_pos (by omega)) (j := 1) (by decide) rfl (Nat.le_of_ble_eq_true rfl) (Nat.le_of_ble_eq_true rfl)

set_option maxHeartbeats 4000000 in
set_option maxRecDepth 100000 in
theorem c_X3_furnace (l : Launch) (hfl : l.stackTraces = false) (D : hG) (N0 : Nat) (ad : Nat → Nat) (ct : hC) {σ : gS} (hG : gX D σ ad ct) (hO : okS σ) (y0q : Int32) : vx_Met l yX3_furnace wsX3_furnace ({ frames := 6, cells := 1, slots := 6, locals := 82 }) (hPc D N0 ad ct [.ref (ad (0)), .int (y0q)]) (va_Qi (fun (z : Int32) (u : hU) => (k_furnace σ y0q) = 0 ∧ z = gFu σ ∧ gX D (uObj σ (gNB σ) y0q (gMi σ)) u.1 u.2 ∧ hFr ad ct u) (hB D N0) (hA N0)) (hXC D N0 ad ct nmI (k_furnace σ y0q)) 1 6 (hA N0) := by
  refine vx_ofW (cc := cX3_furnace) (maxL := 3) (ret := (some .int)) (by decide) rfl ?_
  intro p e s m args below meth c s₁ B hml hnx hv0
  obtain ⟨hargs, hKs, hV⟩ := hv0
  have hx := B.exec
  have hb := B.bytes
  have hr := B.returns
  have hts := atoms_spec (ws := wsX3_furnace) B.pre
  have hown : s.vm.findClass RX3 = some m.cls := findClass_of_methodNamed B.named
  have hlocks := B.notSynchronized
  have hS : va_S (hA N0) s.heap s.heap [] := va_S.rf
  have hiX3 : ∀ w ∈ u_ws RX3 TX3 8, w ∈ wsX3_furnace := by decide +kernel
  have lk24 := hts (.fieldLink RX3 24 "CaneSlices" "inFurnace" "I") (by decide +kernel)
  have kx1 := hts (.classLink RX3 43 "java/lang/IndexOutOfBoundsException") (by decide +kernel)
  have ky1 := hts (.initialized "java/lang/IndexOutOfBoundsException") (by decide +kernel)
  have ka1 := vx_hat (fun w h => hts w (List.mem_cons_of_mem _ (List.mem_append_right _ h))) xb1 (xB_of hKs (by decide))
  have hl := lv_entry ([.ref (ad (0)), .int (y0q)]) (n := 3) (Nat.le_of_ble_eq_true rfl)
  have hE : entryFrame m args 3 = entryFrame m ([.ref (ad (0)), .int (y0q)] : List Value).toArray 3 := by rw [hargs]
  rw [hE, lg_entry_eq]
  generalize (lg_sl ([.ref (ad (0)), .int (y0q)]) ++ List.replicate (3 - (lg_sl ([.ref (ad (0)), .int (y0q)])).length) Slot.unset).toArray = ls at hl ⊢
  have hl : lv_has ls 3 [(0, .ref (ad (0))), (1, .int (y0q))] := hl
  obtain ⟨hn8, hn60, hn6, -⟩ := id hO
  have hz0 : ct (0) = some (eO 3 [.ref (ad (16)), .ref (ad (32)), .ref (ad (48)), .int (nI (gNC σ)), .int (nI (gNS σ)), .int (nI (gNB σ)), .int (gFu σ), .int (gMi σ)]) := hG.1
  have hz1 : ct (16) = some (eQ (D.2 1) 8 (fun i => if i < gNC σ then some (ad (16 * i + 3)) else none)) := hG.2.1
  have hz2 : ct (32) = some (eQ (D.2 2) 60 (fun i => if i < gNS σ then some (ad (16 * i + 6)) else none)) := hG.2.2.1
  have hz3 : ct (48) = some (eQ (D.2 2) 24 (fun e => (gEy σ e).map (fun q => ad (16 * q.1 + 6)))) := hG.2.2.2.1
  refine lv_iload_n hx hb dX3_furnace_0 rfl (lv_at hl 1 rfl) ?_
  refine lv_iconst (v := (-1)) hx hb dX3_furnace_1 (by decide) ?_
  refine hI_icmp_eq (tgt := 23) hx hb dX3_furnace_2 (by decide) (fun c2 => ?_) (fun c2 => ?_)
  · refine lv_aload_n hx hb dX3_furnace_23 rfl (lv_at hl 0 rfl) ?_
    refine hv_get (C := RX3) (T := TX3) (N := 8) hx hb hts hiX3 hown hKs hV hz0 6 rfl (by decide) lk24 (fun _ h9 => h9) rfl dX3_furnace_24 ?_
    refine lv_istore_n (lv' := [(2, .int (gFu σ)), (0, .ref (ad (0))), (1, .int (y0q))]) hx hb dX3_furnace_27 rfl hl (by decide) rfl (fun ls hl => ?_)
    refine lv_aload_n hx hb dX3_furnace_28 rfl (lv_at hl 1 rfl) ?_
    refine lv_iload_n hx hb dX3_furnace_29 rfl (lv_at hl 2 rfl) ?_
    refine hv_put (ty := .int) (C := RX3) (T := TX3) (N := 8) hx hb hts hiX3 tyX3 tyX3_ok nmX3 hown hKs hV hS hz0 6 rfl (by decide) lk24 (fun _ h9 => h9) (Or.inl (by decide +kernel)) (by decide +kernel) rfl rfl (Nat.le_of_ble_eq_true rfl) dX3_furnace_30 (fun ct H locs he hne hV hS => ?_)
    have hz1 := (hne (16) (by omega)).trans hz1
    have hz2 := (hne (32) (by omega)).trans hz2
    have hz3 := (hne (48) (by omega)).trans hz3
    have hz0 : ct (0) = some (eO 3 [.ref (ad (16)), .ref (ad (32)), .ref (ad (48)), .int (nI (gNC σ)), .int (nI (gNS σ)), .int (nI (gNB σ)), .int (y0q), .int (gMi σ)]) := he
    refine lv_iload_n hx hb dX3_furnace_33 rfl (lv_at hl 0 rfl) ?_
    refine W.widen (k := 1) (n := 6) (by omega) (by omega) ?_
    refine vx_ret ?_
    exact hv_iret (v := (gFu σ)) (u := (ad, ct)) hx hb hr ⟨by unfold k_furnace; rw [decide_eq_true c2, Bool.true_or, if_pos rfl], rfl, hG.obj he hne, fun q q1 => ⟨rfl, fun q2 => hne q (by omega)⟩⟩ hV hS dX3_furnace_34 hlocks
  · refine lv_aload_n hx hb dX3_furnace_5 rfl (lv_at hl 0 rfl) ?_
    refine lv_iload_n hx hb dX3_furnace_6 rfl (lv_at hl 1 rfl) ?_
    refine hv_callq (va_runV (As := [.int (y0q)]) (rest := []) ⟨hx, hb, hml, hown, hts⟩ (c_X3_caneAt l D N0 ad ct hG hO (y0q)) (cwV 1 hts gX3_furnace_X3_caneAt rfl rfl rfl (by decide +kernel) ⟨Nat.le_of_ble_eq_true rfl, Nat.le_of_ble_eq_true rfl⟩) (hv_preV (r := (RX3, TX3, 8)) hKs hV hS hz0 rfl) rfl rfl hl.1 rfl (lv_room (Nat.le_of_ble_eq_true rfl)) dX3_furnace_7 ⟨(Nat.le_of_ble_eq_true rfl), (Nat.le_of_ble_eq_true rfl)⟩) hS (fun r9 u9 H locs hq hV hS => ?_)
    obtain ⟨rfl, rfl⟩ := hq
    have hV : hv D N0 ad ct H := hV
    refine hv_ifQ (fun cq7 => ?_) (fun cq7 => ?_)
    · obtain ⟨y0qn, hy0qn, rfl⟩ := inR_of cq7
      have e_y0q : (nI y0qn).toInt.toNat = y0qn := toNat_nI (by omega)
      refine hv_eq (w := .ref (ad (16 * (y0qn) + 3))) (by rw [toNat_nI (by omega)]) ?_
      refine lv_ifnonnull (tgt := 23) hx hb dX3_furnace_10 (by decide) ?_
      refine lv_aload_n hx hb dX3_furnace_23 rfl (lv_at hl 0 rfl) ?_
      refine hv_get (C := RX3) (T := TX3) (N := 8) hx hb hts hiX3 hown hKs hV hz0 6 rfl (by decide) lk24 (fun _ h9 => h9) rfl dX3_furnace_24 ?_
      refine lv_istore_n (lv' := [(2, .int (gFu σ)), (0, .ref (ad (0))), (1, .int (nI (y0qn)))]) hx hb dX3_furnace_27 rfl hl (by decide) rfl (fun ls hl => ?_)
      refine lv_aload_n hx hb dX3_furnace_28 rfl (lv_at hl 1 rfl) ?_
      refine lv_iload_n hx hb dX3_furnace_29 rfl (lv_at hl 2 rfl) ?_
      refine hv_put (ty := .int) (C := RX3) (T := TX3) (N := 8) hx hb hts hiX3 tyX3 tyX3_ok nmX3 hown hKs hV hS hz0 6 rfl (by decide) lk24 (fun _ h9 => h9) (Or.inl (by decide +kernel)) (by decide +kernel) rfl rfl (Nat.le_of_ble_eq_true rfl) dX3_furnace_30 (fun ct H locs he hne hV hS => ?_)
      have hz1 := (hne (16) (by omega)).trans hz1
      have hz2 := (hne (32) (by omega)).trans hz2
      have hz3 := (hne (48) (by omega)).trans hz3
      have hz0 : ct (0) = some (eO 3 [.ref (ad (16)), .ref (ad (32)), .ref (ad (48)), .int (nI (gNC σ)), .int (nI (gNS σ)), .int (nI (gNB σ)), .int (nI (y0qn)), .int (gMi σ)]) := he
      refine lv_iload_n hx hb dX3_furnace_33 rfl (lv_at hl 0 rfl) ?_
      refine W.widen (k := 1) (n := 6) (by omega) (by omega) ?_
      refine vx_ret ?_
      exact hv_iret (v := (gFu σ)) (u := (ad, ct)) hx hb hr ⟨by unfold k_furnace; rw [decide_eq_false c2, Bool.false_or, if_pos cq7], rfl, hG.obj he hne, fun q q1 => ⟨rfl, fun q2 => hne q (by omega)⟩⟩ hV hS dX3_furnace_34 hlocks
    · refine lv_ifnonnullN hx hb dX3_furnace_10 ?_
      exact hv_throw (text := "no such cane") hx hb hfl hown hKs hV hS (by decide +kernel) kx1 ky1 (by decide +kernel) ka1 xg1 (hl.1.trans hml.symm) dX3_furnace_13 dX3_furnace_16 dX3_furnace_17 dX3_furnace_19 dX3_furnace_22 hnx (Nat.le_of_ble_eq_true rfl) (Nat.le_of_ble_eq_true rfl) (Nat.le_of_ble_eq_true rfl) (Nat.le_of_ble_eq_true rfl) hlocks (by unfold k_furnace; rw [decide_eq_false c2, Bool.false_or, if_neg cq7]) (j := 1) (by decide) rfl (Nat.le_of_ble_eq_true rfl) (Nat.le_of_ble_eq_true rfl)

set_option maxHeartbeats 4000000 in
set_option maxRecDepth 100000 in
theorem c_X3_lay (l : Launch) (hfl : l.stackTraces = false) (D : hG) (N0 : Nat) (ad : Nat → Nat) (ct : hC) {σ : gS} (hG : gX D σ ad ct) (hO : okS σ) (y0q y1q y2q y3q y4q : Int32) : vx_Met l yX3_lay wsX3_lay ({ frames := 6, cells := 1, slots := 6, locals := 82 }) (hPc D N0 ad ct [.ref (ad (0)), .int (y0q), .int (y1q), .int (y2q), .int (y3q), .int (y4q)]) (va_Qi (fun (z : Int32) (u : hU) => (k_lay σ y0q y1q y2q y3q y4q) = 0 ∧ z = hbv (decide (2 ≤ cHt σ y0q.toInt.toNat)) ∧ gX D (sWk σ y0q.toInt.toNat 2 (q_lay σ y0q.toInt.toNat y1q.toInt.toNat y2q.toInt.toNat y3q.toInt.toNat y4q.toInt.toNat)) u.1 u.2 ∧ hFr ad ct u) (hB D N0) (hA N0)) (hXC D N0 ad ct nm3 (k_lay σ y0q y1q y2q y3q y4q)) 1 6 (hA N0) := by
  refine vx_ofW (cc := cX3_lay) (maxL := 8) (ret := (some .boolean)) (by decide) rfl ?_
  intro p e s m args below meth c s₁ B hml hnx hv0
  obtain ⟨hargs, hKs, hV⟩ := hv0
  have hx := B.exec
  have hb := B.bytes
  have hr := B.returns
  have hts := atoms_spec (ws := wsX3_lay) B.pre
  have hown : s.vm.findClass RX3 = some m.cls := findClass_of_methodNamed B.named
  have hlocks := B.notSynchronized
  have hS : va_S (hA N0) s.heap s.heap [] := va_S.rf
  have hiX0 : ∀ w ∈ u_ws RX0 TX0 5, w ∈ wsX3_lay := by decide +kernel
  have kx2 := hts (.classLink RX3 55 "java/lang/IllegalArgumentException") (by decide +kernel)
  have ky2 := hts (.initialized "java/lang/IllegalArgumentException") (by decide +kernel)
  have ka2 := vx_hat (fun w h => hts w (List.mem_cons_of_mem _ (List.mem_append_left _ (List.mem_append_right _ h)))) xb2 (xB_of hKs (by decide))
  have kn62 := hKs.2.1 (62, "CaneSlices$Cane", "cracked", "Z") (by decide +kernel)
  have kn71 := hKs.2.1 (71, "CaneSlices$Cane", "pattern", "LCaneSlices$Pattern;") (by decide +kernel)
  have kx3 := hts (.classLink RX3 31 "java/lang/IllegalStateException") (by decide +kernel)
  have ky3 := hts (.initialized "java/lang/IllegalStateException") (by decide +kernel)
  have ka3 := vx_hat (fun w h => hts w (List.mem_cons_of_mem _ (List.mem_append_right _ h))) xb3 (xB_of hKs (by decide))
  have kx1 := hts (.classLink RX3 43 "java/lang/IndexOutOfBoundsException") (by decide +kernel)
  have ky1 := hts (.initialized "java/lang/IndexOutOfBoundsException") (by decide +kernel)
  have ka1 := vx_hat (fun w h => hts w (List.mem_cons_of_mem _ (List.mem_append_left _ (List.mem_append_left _ (List.mem_append_right _ h))))) xb1 (xB_of hKs (by decide))
  have hl := lv_entry ([.ref (ad (0)), .int (y0q), .int (y1q), .int (y2q), .int (y3q), .int (y4q)]) (n := 8) (Nat.le_of_ble_eq_true rfl)
  have hE : entryFrame m args 8 = entryFrame m ([.ref (ad (0)), .int (y0q), .int (y1q), .int (y2q), .int (y3q), .int (y4q)] : List Value).toArray 8 := by rw [hargs]
  rw [hE, lg_entry_eq]
  generalize (lg_sl ([.ref (ad (0)), .int (y0q), .int (y1q), .int (y2q), .int (y3q), .int (y4q)]) ++ List.replicate (8 - (lg_sl ([.ref (ad (0)), .int (y0q), .int (y1q), .int (y2q), .int (y3q), .int (y4q)])).length) Slot.unset).toArray = ls at hl ⊢
  have hl : lv_has ls 8 [(0, .ref (ad (0))), (1, .int (y0q)), (2, .int (y1q)), (3, .int (y2q)), (4, .int (y3q)), (5, .int (y4q))] := hl
  obtain ⟨hn8, hn60, hn6, -⟩ := id hO
  have hz0 : ct (0) = some (eO 3 [.ref (ad (16)), .ref (ad (32)), .ref (ad (48)), .int (nI (gNC σ)), .int (nI (gNS σ)), .int (nI (gNB σ)), .int (gFu σ), .int (gMi σ)]) := hG.1
  have hz1 : ct (16) = some (eQ (D.2 1) 8 (fun i => if i < gNC σ then some (ad (16 * i + 3)) else none)) := hG.2.1
  have hz2 : ct (32) = some (eQ (D.2 2) 60 (fun i => if i < gNS σ then some (ad (16 * i + 6)) else none)) := hG.2.2.1
  have hz3 : ct (48) = some (eQ (D.2 2) 24 (fun e => (gEy σ e).map (fun q => ad (16 * q.1 + 6)))) := hG.2.2.2.1
  refine lv_aload_n hx hb dX3_lay_0 rfl (lv_at hl 0 rfl) ?_
  refine lv_iload_n hx hb dX3_lay_1 rfl (lv_at hl 1 rfl) ?_
  refine hv_callq (va_runV (As := [.int (y0q)]) (rest := []) ⟨hx, hb, hml, hown, hts⟩ (c_X3_caneAt l D N0 ad ct hG hO (y0q)) (cwV 1 hts gX3_lay_X3_caneAt rfl rfl rfl (by decide +kernel) ⟨Nat.le_of_ble_eq_true rfl, Nat.le_of_ble_eq_true rfl⟩) (hv_preV (r := (RX3, TX3, 8)) hKs hV hS hz0 rfl) rfl rfl hl.1 rfl (lv_room (Nat.le_of_ble_eq_true rfl)) dX3_lay_2 ⟨(Nat.le_of_ble_eq_true rfl), (Nat.le_of_ble_eq_true rfl)⟩) hS (fun r9 u9 H locs hq hV hS => ?_)
  obtain ⟨rfl, rfl⟩ := hq
  have hV : hv D N0 ad ct H := hV
  refine hv_ifQ (fun cq2 => ?_) (fun cq2 => ?_)
  · obtain ⟨y0qn, hy0qn, rfl⟩ := inR_of cq2
    have e_y0q : (nI y0qn).toInt.toNat = y0qn := toNat_nI (by omega)
    refine hv_eq (w := .ref (ad (16 * (y0qn) + 3))) (by rw [toNat_nI (by omega)]) ?_
    refine lv_astore (lv' := [(6, .ref (ad (16 * (y0qn) + 3))), (0, .ref (ad (0))), (1, .int (nI (y0qn))), (2, .int (y1q)), (3, .int (y2q)), (4, .int (y3q)), (5, .int (y4q))]) hx hb dX3_lay_5 hl (by decide) rfl (fun ls hl => ?_)
    refine lv_aload hx hb dX3_lay_7 (lv_at hl 0 rfl) ?_
    refine lv_ifnonnull (tgt := 22) hx hb dX3_lay_9 (by decide) ?_
    refine lv_iload_n hx hb dX3_lay_22 rfl (lv_at hl 3 rfl) ?_
    refine hv_calli (va_runS (As := [.int (y1q)]) (rest := []) ⟨hx, hb, hml, hown, hts⟩ (c_X3_isRing l D N0 ad ct ((y1q))) (va_cwS 1 hts gX3_lay_X3_isRing rfl rfl rfl (by decide +kernel) ⟨Nat.le_of_ble_eq_true rfl, Nat.le_of_ble_eq_true rfl⟩) (hv_preS hKs hV hS) rfl rfl hl.1 rfl (lv_room (Nat.le_of_ble_eq_true rfl)) dX3_lay_23 ⟨(Nat.le_of_ble_eq_true rfl), (Nat.le_of_ble_eq_true rfl)⟩) hS (fun r9 u9 H locs hq hV hS => ?_)
    obtain ⟨rfl, rfl⟩ := hq
    have hV : hv D N0 ad ct H := hV
    refine hB_if_eq (tgt := 36) hx hb dX3_lay_26 (by decide) (fun c26 => ?_) (fun c26 => ?_)
    · exact hv_throw (text := "no such ring or sector") hx hb hfl hown hKs hV hS (by decide +kernel) kx2 ky2 (by decide +kernel) ka2 xg2 (hl.1.trans hml.symm) dX3_lay_36 dX3_lay_39 dX3_lay_40 dX3_lay_42 dX3_lay_45 hnx (Nat.le_of_ble_eq_true rfl) (Nat.le_of_ble_eq_true rfl) (Nat.le_of_ble_eq_true rfl) (Nat.le_of_ble_eq_true rfl) hlocks (by simp [k_lay, cq2, c26]) (j := 2) (by decide) rfl (Nat.le_of_ble_eq_true rfl) (Nat.le_of_ble_eq_true rfl)
    · obtain ⟨y1qn, hy1qn, rfl⟩ := inR_of c26
      have e_y1q : (nI y1qn).toInt.toNat = y1qn := toNat_nI (by omega)
      refine lv_iload_n hx hb dX3_lay_29 rfl (lv_at hl 4 rfl) ?_
      refine hv_calli (va_runS (As := [.int (y2q)]) (rest := []) ⟨hx, hb, hml, hown, hts⟩ (c_X3_isSector l D N0 ad ct ((y2q))) (va_cwS 1 hts gX3_lay_X3_isSector rfl rfl rfl (by decide +kernel) ⟨Nat.le_of_ble_eq_true rfl, Nat.le_of_ble_eq_true rfl⟩) (hv_preS hKs hV hS) rfl rfl hl.1 rfl (lv_room (Nat.le_of_ble_eq_true rfl)) dX3_lay_30 ⟨(Nat.le_of_ble_eq_true rfl), (Nat.le_of_ble_eq_true rfl)⟩) hS (fun r9 u9 H locs hq hV hS => ?_)
      obtain ⟨rfl, rfl⟩ := hq
      have hV : hv D N0 ad ct H := hV
      refine hB_if_ne (tgt := 46) hx hb dX3_lay_33 (by decide) (fun c33 => ?_) (fun c33 => ?_)
      · obtain ⟨y2qn, hy2qn, rfl⟩ := inR_of c33
        have e_y2q : (nI y2qn).toInt.toNat = y2qn := toNat_nI (by omega)
        refine lv_iload hx hb dX3_lay_46 (lv_at hl 5 rfl) ?_
        refine lv_iconst (v := nI 1) hx hb dX3_lay_48 (by decide) ?_
        refine hR_icmp_lt (tgt := 71) hx hb (by omega) dX3_lay_49 (by decide) (fun c49 => ?_) (fun c49 => ?_)
        · exact hv_throw (text := "not 1 to 8 sectors, or no such colour") hx hb hfl hown hKs hV hS (by decide +kernel) kx2 ky2 (by decide +kernel) ka2 xg2 (hl.1.trans hml.symm) dX3_lay_71 dX3_lay_74 dX3_lay_75 dX3_lay_77 dX3_lay_80 hnx (Nat.le_of_ble_eq_true rfl) (Nat.le_of_ble_eq_true rfl) (Nat.le_of_ble_eq_true rfl) (Nat.le_of_ble_eq_true rfl) hlocks (by simp [k_lay, cq2, c26, c33, inB_0 (Or.inl c49)]) (j := 2) (by decide) rfl (Nat.le_of_ble_eq_true rfl) (Nat.le_of_ble_eq_true rfl)
        · refine lv_iload hx hb dX3_lay_52 (lv_at hl 5 rfl) ?_
          refine lv_bipush (v := nI 8) hx hb dX3_lay_54 (by decide) ?_
          refine hR_icmp_gt (tgt := 71) hx hb (by omega) dX3_lay_56 (by decide) (fun c56 => ?_) (fun c56 => ?_)
          · exact hv_throw (text := "not 1 to 8 sectors, or no such colour") hx hb hfl hown hKs hV hS (by decide +kernel) kx2 ky2 (by decide +kernel) ka2 xg2 (hl.1.trans hml.symm) dX3_lay_71 dX3_lay_74 dX3_lay_75 dX3_lay_77 dX3_lay_80 hnx (Nat.le_of_ble_eq_true rfl) (Nat.le_of_ble_eq_true rfl) (Nat.le_of_ble_eq_true rfl) (Nat.le_of_ble_eq_true rfl) hlocks (by simp [k_lay, cq2, c26, c33, inB_0 (Or.inr c56)]) (j := 2) (by decide) rfl (Nat.le_of_ble_eq_true rfl) (Nat.le_of_ble_eq_true rfl)
          · refine lv_iload hx hb dX3_lay_59 (lv_at hl 6 rfl) ?_
            refine hI_if_lt (tgt := 71) hx hb dX3_lay_61 (by decide) (fun c61 => ?_) (fun c61 => ?_)
            · exact hv_throw (text := "not 1 to 8 sectors, or no such colour") hx hb hfl hown hKs hV hS (by decide +kernel) kx2 ky2 (by decide +kernel) ka2 xg2 (hl.1.trans hml.symm) dX3_lay_71 dX3_lay_74 dX3_lay_75 dX3_lay_77 dX3_lay_80 hnx (Nat.le_of_ble_eq_true rfl) (Nat.le_of_ble_eq_true rfl) (Nat.le_of_ble_eq_true rfl) (Nat.le_of_ble_eq_true rfl) hlocks (by simp [k_lay, cq2, c26, c33, inR_0 (Or.inl c61)]) (j := 2) (by decide) rfl (Nat.le_of_ble_eq_true rfl) (Nat.le_of_ble_eq_true rfl)
            · refine lv_iload hx hb dX3_lay_64 (lv_at hl 6 rfl) ?_
              refine lv_bipush (v := nI 8) hx hb dX3_lay_66 (by decide) ?_
              refine hR_icmp_lt (tgt := 81) hx hb (by omega) dX3_lay_68 (by decide) (fun c68 => ?_) (fun c68 => ?_)
              · obtain ⟨y3qn, hy3qn, rfl⟩ := hI_of (x := y3q) (n := 9) (by omega) (by omega)
                obtain ⟨y4qn, hy4qn, rfl⟩ := hI_of (x := y4q) (n := 8) (by omega) (by omega)
                have h_y3q : inB (nI y3qn) 1 8 = true := inB_1 (by omega) (by omega)
                have h_y4q : inR (nI y4qn) 8 = true := inR_j (by omega) hy4qn
                have e_y3q : (nI y3qn).toInt.toNat = y3qn := toNat_nI (by omega)
                have e_y4q : (nI y4qn).toInt.toNat = y4qn := toNat_nI (by omega)
                rw [nI_toInt (by omega)] at c49
                refine lv_aload hx hb dX3_lay_81 (lv_at hl 0 rfl) ?_
                have hc1 := hG.2.2.2.2.1 (y0qn) (by omega)
                have hc1b : cLen σ (y0qn) ≤ 60 ∧ cHt σ (y0qn) ≤ 10 := ⟨(hO.2.2.2.1 (y0qn) (by omega)).1, (hO.2.2.2.1 (y0qn) (by omega)).2.1⟩
                have hc1f : ct (16 * (y0qn) + 3) = some (eO 0 [.ref (ad (16 * (y0qn) + 4)), .int (nI (cLen σ (y0qn))), .int (cTw σ (y0qn)), .int (nI (cHt σ (y0qn))), .int (hbv (cCr σ (y0qn)))]) := hc1.1
                refine hv_getN (C := RX0) (T := TX0) (N := 5) hx hb hts hiX0 hown hKs hV hc1f 4 rfl (by decide) kn62 (fun _ h9 => h9) rfl dX3_lay_83 ?_
                refine hB_if_eq (tgt := 99) hx hb dX3_lay_86 (by decide) (fun c86 => ?_) (fun c86 => ?_)
                · refine lv_aload hx hb dX3_lay_99 (lv_at hl 0 rfl) ?_
                  refine lv_iconst (v := nI 2) hx hb dX3_lay_101 (by decide) ?_
                  refine hv_calli (va_runV (As := [.int (nI (2))]) (rest := []) ⟨hx, hb, hml, hown, hts⟩ (c_X0_startWorking l D N0 ad ct hc1f hc1b.2 (2) (by decide) (by decide)) (cwV 1 hts gX3_lay_X0_startWorking rfl rfl rfl (by decide +kernel) ⟨Nat.le_of_ble_eq_true rfl, Nat.le_of_ble_eq_true rfl⟩) (hv_preV (r := (RX0, TX0, 5)) hKs hV hS hc1f rfl) rfl rfl hl.1 rfl (lv_room (Nat.le_of_ble_eq_true rfl)) dX3_lay_102 ⟨(Nat.le_of_ble_eq_true rfl), (Nat.le_of_ble_eq_true rfl)⟩) hS (fun r9 u9 H locs hq hV hS => ?_)
                  obtain ⟨ad9, ct⟩ := u9
                  dsimp only at hq
                  obtain ⟨hz, ha9, he, hne⟩ := hq
                  have ha9 := ha9.symm
                  subst ha9
                  have hV : hv D N0 ad ct H := hV
                  have hz0 := (hne (0) (by omega)).trans hz0
                  have hz1 := (hne (16) (by omega)).trans hz1
                  have hfr := fun (z : Nat) (z1 : z % 16 = 0) (z2 : 64 ≤ z) => hne z (by omega)
                  have hpk : hPat D ad ct (16 * (y0qn) + 4) (cPt σ (y0qn)) := hc1.2.keep (hne _ (by omega)) (hne _ (by omega)) rfl
                  rcases Nat.lt_or_ge (cHt σ (y0qn)) 2 with hk | hk
                  · have hst : ct (16 * (y0qn) + 3) = some (eO 0 [.ref (ad (16 * (y0qn) + 4)), .int (nI (cLen σ (y0qn))), .int (cTw σ (y0qn)), .int (nI (cHt σ (y0qn))), .int (hbv (true))]) := by rw [he, if_neg (by omega), if_neg (by omega)]
                    have hG1 : gX D (uCan σ (y0qn) (cLen σ (y0qn), cTw σ (y0qn), cHt σ (y0qn), true, cPt σ (y0qn))) ad ct := hG.can hst hpk (fun z h1 _ => hne z h1)
                    refine hv_eqi (y := nI 0) (by rw [hz, decide_eq_false (by omega)]; rfl) ?_
                    refine lv_istore (lv' := [(7, .int (nI (0))), (6, .ref (ad (16 * (y0qn) + 3))), (0, .ref (ad (0))), (1, .int (nI (y0qn))), (2, .int (nI (y1qn))), (3, .int (nI (y2qn))), (4, .int (nI (y3qn))), (5, .int (nI (y4qn)))]) hx hb dX3_lay_105 hl (by decide) rfl (fun ls hl => ?_)
                    refine lv_iload hx hb dX3_lay_107 (lv_at hl 0 rfl) ?_
                    refine hN_if_eq (tgt := 126) hx hb (by omega) dX3_lay_109 (by decide) (fun c109 => ?_) (fun c109 => by exact absurd c109 (by omega))
                    refine lv_aload_n hx hb dX3_lay_126 rfl (lv_at hl 2 rfl) ?_
                    refine hv_callv (va_runV (As := []) (rest := []) ⟨hx, hb, hml, hown, hts⟩ (c_X3_passMinute l D N0 ad ct hG1 (okH_can hO (by show cHt σ (y0qn) ≤ 10; omega))) (cwV 0 hts gX3_lay_X3_passMinute rfl rfl rfl (by decide +kernel) ⟨Nat.le_of_ble_eq_true rfl, Nat.le_of_ble_eq_true rfl⟩) (hv_preV (r := (RX3, TX3, 8)) hKs hV hS hz0 rfl) rfl rfl hl.1 rfl (lv_room (Nat.le_of_ble_eq_true rfl)) dX3_lay_127 ⟨(Nat.le_of_ble_eq_true rfl), (Nat.le_of_ble_eq_true rfl)⟩) hS (fun u9 H locs hq hV hS => ?_)
                    obtain ⟨ad9, ct⟩ := u9
                    dsimp only at hq
                    obtain ⟨ha9, hGp, hnp⟩ := hq
                    have ha9 := ha9.symm
                    subst ha9
                    have hV : hv D N0 ad ct H := hV
                    have hfr := fun (z : Nat) (z1 : z % 16 = 0) (z2 : 64 ≤ z) => (hnp z (by omega) (by omega)).trans (hfr z z1 z2)
                    refine lv_iload hx hb dX3_lay_130 (lv_at hl 0 rfl) ?_
                    refine W.widen (k := 1) (n := 6) (by omega) (by omega) ?_
                    refine vx_ret ?_
                    exact hv_zret (v := nI (0)) (u := (ad, ct)) hx hb hr (by decide +kernel) ⟨by simp [k_lay, cq2, c26, c33, h_y3q, h_y4q, e_y0q, c86], by rw [e_y0q]; exact hb_0 (decide_eq_false (by omega)), by rw [e_y0q, e_y1q, e_y2q, e_y3q, e_y4q]; unfold sWk; rw [if_neg (show ¬ 2 ≤ cHt σ y0qn by omega)]; exact hGp, fun q q1 => ⟨rfl, fun q2 => hfr q q1 q2⟩⟩ hV hS dX3_lay_132 hlocks
                  · have hst : ct (16 * (y0qn) + 3) = some (eO 0 [.ref (ad (16 * (y0qn) + 4)), .int (nI (cLen σ (y0qn))), .int (cTw σ (y0qn)), .int (nI (cHt σ (y0qn) - 1)), .int (hbv (cCr σ (y0qn)))]) := by rw [he, if_pos (by omega), if_pos (by omega)]
                    have hG1 : gX D (uCan σ (y0qn) (cLen σ (y0qn), cTw σ (y0qn), cHt σ (y0qn) - 1, cCr σ (y0qn), cPt σ (y0qn))) ad ct := hG.can hst hpk (fun z h1 _ => hne z h1)
                    refine hv_eqi (y := nI 1) (by rw [hz, decide_eq_true (by omega)]; rfl) ?_
                    refine lv_istore (lv' := [(7, .int (nI (1))), (6, .ref (ad (16 * (y0qn) + 3))), (0, .ref (ad (0))), (1, .int (nI (y0qn))), (2, .int (nI (y1qn))), (3, .int (nI (y2qn))), (4, .int (nI (y3qn))), (5, .int (nI (y4qn)))]) hx hb dX3_lay_105 hl (by decide) rfl (fun ls hl => ?_)
                    refine lv_iload hx hb dX3_lay_107 (lv_at hl 0 rfl) ?_
                    refine hN_if_eq (tgt := 126) hx hb (by omega) dX3_lay_109 (by decide) (fun c109 => by exact absurd c109 (by omega)) (fun c109 => ?_)
                    refine lv_aload hx hb dX3_lay_112 (lv_at hl 1 rfl) ?_
                    refine hv_getN (C := RX0) (T := TX0) (N := 5) hx hb hts hiX0 hown hKs hV hst 0 rfl (by decide) kn71 (fun _ h9 => h9) rfl dX3_lay_114 ?_
                    refine lv_iload_n hx hb dX3_lay_117 rfl (lv_at hl 4 rfl) ?_
                    refine lv_iload_n hx hb dX3_lay_118 rfl (lv_at hl 5 rfl) ?_
                    refine lv_iload hx hb dX3_lay_119 (lv_at hl 6 rfl) ?_
                    refine lv_iload hx hb dX3_lay_121 (lv_at hl 7 rfl) ?_
                    refine hv_callv (va_runV (As := [.int (nI (y1qn)), .int (nI (y2qn)), .int (nI (y3qn)), .int (nI (y4qn))]) (rest := []) ⟨hx, hb, hml, hown, hts⟩ (c_X1_paint l D N0 ad ct hpk (y1qn) (y2qn) (y3qn) (y4qn) (by omega) (by omega) (by omega) (by omega)) (cwV 4 hts gX3_lay_X1_paint rfl rfl rfl (by decide +kernel) ⟨Nat.le_of_ble_eq_true rfl, Nat.le_of_ble_eq_true rfl⟩) (hv_preV (r := (RX1, TX1, 1)) hKs hV hS hpk.1 rfl) rfl rfl hl.1 rfl (lv_room (Nat.le_of_ble_eq_true rfl)) dX3_lay_123 ⟨(Nat.le_of_ble_eq_true rfl), (Nat.le_of_ble_eq_true rfl)⟩) hS (fun u9 H locs hq hV hS => ?_)
                    obtain ⟨ad9, ct⟩ := u9
                    dsimp only at hq
                    obtain ⟨ha9, hp9, hne⟩ := hq
                    have ha9 := ha9.symm
                    subst ha9
                    have hV : hv D N0 ad ct H := hV
                    have hz0 := (hne (0) (by omega)).trans hz0
                    have hz1 := (hne (16) (by omega)).trans hz1
                    have hst := (hne (16 * (y0qn) + 3) (by omega)).trans hst
                    have hfr := fun (z : Nat) (z1 : z % 16 = 0) (z2 : 64 ≤ z) => (hne z (by omega)).trans (hfr z z1 z2)
                    have hG1 : gX D (uCan σ (y0qn) (q_lay σ (y0qn) (y1qn) (y2qn) (y3qn) (y4qn))) ad ct := by
                      have h9 := hG1.can (i := y0qn) (q := q_lay σ (y0qn) (y1qn) (y2qn) (y3qn) (y4qn)) hst hp9 (fun z _ h2 => hne z h2)
                      rw [uCan_2] at h9
                      exact h9
                    refine lv_aload_n hx hb dX3_lay_126 rfl (lv_at hl 2 rfl) ?_
                    refine hv_callv (va_runV (As := []) (rest := []) ⟨hx, hb, hml, hown, hts⟩ (c_X3_passMinute l D N0 ad ct hG1 (okH_can hO (by show cHt σ (y0qn) - 1 ≤ 10; omega))) (cwV 0 hts gX3_lay_X3_passMinute rfl rfl rfl (by decide +kernel) ⟨Nat.le_of_ble_eq_true rfl, Nat.le_of_ble_eq_true rfl⟩) (hv_preV (r := (RX3, TX3, 8)) hKs hV hS hz0 rfl) rfl rfl hl.1 rfl (lv_room (Nat.le_of_ble_eq_true rfl)) dX3_lay_127 ⟨(Nat.le_of_ble_eq_true rfl), (Nat.le_of_ble_eq_true rfl)⟩) hS (fun u9 H locs hq hV hS => ?_)
                    obtain ⟨ad9, ct⟩ := u9
                    dsimp only at hq
                    obtain ⟨ha9, hGp, hnp⟩ := hq
                    have ha9 := ha9.symm
                    subst ha9
                    have hV : hv D N0 ad ct H := hV
                    have hfr := fun (z : Nat) (z1 : z % 16 = 0) (z2 : 64 ≤ z) => (hnp z (by omega) (by omega)).trans (hfr z z1 z2)
                    refine lv_iload hx hb dX3_lay_130 (lv_at hl 0 rfl) ?_
                    refine W.widen (k := 1) (n := 6) (by omega) (by omega) ?_
                    refine vx_ret ?_
                    exact hv_zret (v := nI (1)) (u := (ad, ct)) hx hb hr (by decide +kernel) ⟨by simp [k_lay, cq2, c26, c33, h_y3q, h_y4q, e_y0q, c86], by rw [e_y0q]; exact hb_1 (decide_eq_true hk), by rw [e_y0q, e_y1q, e_y2q, e_y3q, e_y4q]; unfold sWk; rw [if_pos hk]; exact hGp, fun q q1 => ⟨rfl, fun q2 => hfr q q1 q2⟩⟩ hV hS dX3_lay_132 hlocks
                · exact hv_throw (text := "the cane is cracked") hx hb hfl hown hKs hV hS (by decide +kernel) kx3 ky3 (by decide +kernel) ka3 xg3 (hl.1.trans hml.symm) dX3_lay_89 dX3_lay_92 dX3_lay_93 dX3_lay_95 dX3_lay_98 hnx (Nat.le_of_ble_eq_true rfl) (Nat.le_of_ble_eq_true rfl) (Nat.le_of_ble_eq_true rfl) (Nat.le_of_ble_eq_true rfl) hlocks (by simp [k_lay, cq2, c26, c33, h_y3q, h_y4q, e_y0q, c86]) (j := 3) (by decide) rfl (Nat.le_of_ble_eq_true rfl) (Nat.le_of_ble_eq_true rfl)
              · exact hv_throw (text := "not 1 to 8 sectors, or no such colour") hx hb hfl hown hKs hV hS (by decide +kernel) kx2 ky2 (by decide +kernel) ka2 xg2 (hl.1.trans hml.symm) dX3_lay_71 dX3_lay_74 dX3_lay_75 dX3_lay_77 dX3_lay_80 hnx (Nat.le_of_ble_eq_true rfl) (Nat.le_of_ble_eq_true rfl) (Nat.le_of_ble_eq_true rfl) (Nat.le_of_ble_eq_true rfl) hlocks (by simp [k_lay, cq2, c26, c33, inR_0 (Or.inr c68)]) (j := 2) (by decide) rfl (Nat.le_of_ble_eq_true rfl) (Nat.le_of_ble_eq_true rfl)
      · exact hv_throw (text := "no such ring or sector") hx hb hfl hown hKs hV hS (by decide +kernel) kx2 ky2 (by decide +kernel) ka2 xg2 (hl.1.trans hml.symm) dX3_lay_36 dX3_lay_39 dX3_lay_40 dX3_lay_42 dX3_lay_45 hnx (Nat.le_of_ble_eq_true rfl) (Nat.le_of_ble_eq_true rfl) (Nat.le_of_ble_eq_true rfl) (Nat.le_of_ble_eq_true rfl) hlocks (by simp [k_lay, cq2, c26, c33]) (j := 2) (by decide) rfl (Nat.le_of_ble_eq_true rfl) (Nat.le_of_ble_eq_true rfl)
  · refine lv_astoreN (lv' := [(6, .null), (0, .ref (ad (0))), (1, .int (y0q)), (2, .int (y1q)), (3, .int (y2q)), (4, .int (y3q)), (5, .int (y4q))]) hx hb dX3_lay_5 hl (by decide) rfl (fun ls hl => ?_)
    refine lv_aloadN hx hb dX3_lay_7 (lv_at hl 0 rfl) ?_
    refine lv_ifnonnullN hx hb dX3_lay_9 ?_
    exact hv_throw (text := "no such cane") hx hb hfl hown hKs hV hS (by decide +kernel) kx1 ky1 (by decide +kernel) ka1 xg1 (hl.1.trans hml.symm) dX3_lay_12 dX3_lay_15 dX3_lay_16 dX3_lay_18 dX3_lay_21 hnx (Nat.le_of_ble_eq_true rfl) (Nat.le_of_ble_eq_true rfl) (Nat.le_of_ble_eq_true rfl) (Nat.le_of_ble_eq_true rfl) hlocks (by simp [k_lay, cq2]) (j := 1) (by decide) rfl (Nat.le_of_ble_eq_true rfl) (Nat.le_of_ble_eq_true rfl)

set_option maxHeartbeats 4000000 in
set_option maxRecDepth 100000 in
theorem c_X3_twist (l : Launch) (hfl : l.stackTraces = false) (D : hG) (N0 : Nat) (ad : Nat → Nat) (ct : hC) {σ : gS} (hG : gX D σ ad ct) (hO : okS σ) (y0q y1q : Int32) : vx_Met l yX3_twist wsX3_twist ({ frames := 6, cells := 1, slots := 6, locals := 82 }) (hPc D N0 ad ct [.ref (ad (0)), .int (y0q), .int (y1q)]) (va_Qi (fun (z : Int32) (u : hU) => (k_twist σ y0q y1q) = 0 ∧ z = hbv (decide (4 ≤ cHt σ y0q.toInt.toNat)) ∧ gX D (sWk σ y0q.toInt.toNat 4 (q_twist σ y0q.toInt.toNat y1q)) u.1 u.2 ∧ hFr ad ct u) (hB D N0) (hA N0)) (hXC D N0 ad ct nm3 (k_twist σ y0q y1q)) 1 6 (hA N0) := by
  refine vx_ofW (cc := cX3_twist) (maxL := 5) (ret := (some .boolean)) (by decide) rfl ?_
  intro p e s m args below meth c s₁ B hml hnx hv0
  obtain ⟨hargs, hKs, hV⟩ := hv0
  have hx := B.exec
  have hb := B.bytes
  have hr := B.returns
  have hts := atoms_spec (ws := wsX3_twist) B.pre
  have hown : s.vm.findClass RX3 = some m.cls := findClass_of_methodNamed B.named
  have hlocks := B.notSynchronized
  have hS : va_S (hA N0) s.heap s.heap [] := va_S.rf
  have hiX0 : ∀ w ∈ u_ws RX0 TX0 5, w ∈ wsX3_twist := by decide +kernel
  have kx2 := hts (.classLink RX3 55 "java/lang/IllegalArgumentException") (by decide +kernel)
  have ky2 := hts (.initialized "java/lang/IllegalArgumentException") (by decide +kernel)
  have ka2 := vx_hat (fun w h => hts w (List.mem_cons_of_mem _ (List.mem_append_left _ (List.mem_append_right _ h)))) xb2 (xB_of hKs (by decide))
  have kn62 := hKs.2.1 (62, "CaneSlices$Cane", "cracked", "Z") (by decide +kernel)
  have kx3 := hts (.classLink RX3 31 "java/lang/IllegalStateException") (by decide +kernel)
  have ky3 := hts (.initialized "java/lang/IllegalStateException") (by decide +kernel)
  have ka3 := vx_hat (fun w h => hts w (List.mem_cons_of_mem _ (List.mem_append_right _ h))) xb3 (xB_of hKs (by decide))
  have kn89 := hKs.2.1 (89, "CaneSlices$Cane", "twist", "I") (by decide +kernel)
  have kx1 := hts (.classLink RX3 43 "java/lang/IndexOutOfBoundsException") (by decide +kernel)
  have ky1 := hts (.initialized "java/lang/IndexOutOfBoundsException") (by decide +kernel)
  have ka1 := vx_hat (fun w h => hts w (List.mem_cons_of_mem _ (List.mem_append_left _ (List.mem_append_left _ (List.mem_append_right _ h))))) xb1 (xB_of hKs (by decide))
  have hl := lv_entry ([.ref (ad (0)), .int (y0q), .int (y1q)]) (n := 5) (Nat.le_of_ble_eq_true rfl)
  have hE : entryFrame m args 5 = entryFrame m ([.ref (ad (0)), .int (y0q), .int (y1q)] : List Value).toArray 5 := by rw [hargs]
  rw [hE, lg_entry_eq]
  generalize (lg_sl ([.ref (ad (0)), .int (y0q), .int (y1q)]) ++ List.replicate (5 - (lg_sl ([.ref (ad (0)), .int (y0q), .int (y1q)])).length) Slot.unset).toArray = ls at hl ⊢
  have hl : lv_has ls 5 [(0, .ref (ad (0))), (1, .int (y0q)), (2, .int (y1q))] := hl
  obtain ⟨hn8, hn60, hn6, -⟩ := id hO
  have hz0 : ct (0) = some (eO 3 [.ref (ad (16)), .ref (ad (32)), .ref (ad (48)), .int (nI (gNC σ)), .int (nI (gNS σ)), .int (nI (gNB σ)), .int (gFu σ), .int (gMi σ)]) := hG.1
  have hz1 : ct (16) = some (eQ (D.2 1) 8 (fun i => if i < gNC σ then some (ad (16 * i + 3)) else none)) := hG.2.1
  have hz2 : ct (32) = some (eQ (D.2 2) 60 (fun i => if i < gNS σ then some (ad (16 * i + 6)) else none)) := hG.2.2.1
  have hz3 : ct (48) = some (eQ (D.2 2) 24 (fun e => (gEy σ e).map (fun q => ad (16 * q.1 + 6)))) := hG.2.2.2.1
  refine lv_aload_n hx hb dX3_twist_0 rfl (lv_at hl 0 rfl) ?_
  refine lv_iload_n hx hb dX3_twist_1 rfl (lv_at hl 1 rfl) ?_
  refine hv_callq (va_runV (As := [.int (y0q)]) (rest := []) ⟨hx, hb, hml, hown, hts⟩ (c_X3_caneAt l D N0 ad ct hG hO (y0q)) (cwV 1 hts gX3_twist_X3_caneAt rfl rfl rfl (by decide +kernel) ⟨Nat.le_of_ble_eq_true rfl, Nat.le_of_ble_eq_true rfl⟩) (hv_preV (r := (RX3, TX3, 8)) hKs hV hS hz0 rfl) rfl rfl hl.1 rfl (lv_room (Nat.le_of_ble_eq_true rfl)) dX3_twist_2 ⟨(Nat.le_of_ble_eq_true rfl), (Nat.le_of_ble_eq_true rfl)⟩) hS (fun r9 u9 H locs hq hV hS => ?_)
  obtain ⟨rfl, rfl⟩ := hq
  have hV : hv D N0 ad ct H := hV
  refine hv_ifQ (fun cq2 => ?_) (fun cq2 => ?_)
  · obtain ⟨y0qn, hy0qn, rfl⟩ := inR_of cq2
    have e_y0q : (nI y0qn).toInt.toNat = y0qn := toNat_nI (by omega)
    refine hv_eq (w := .ref (ad (16 * (y0qn) + 3))) (by rw [toNat_nI (by omega)]) ?_
    refine lv_astore_n (lv' := [(3, .ref (ad (16 * (y0qn) + 3))), (0, .ref (ad (0))), (1, .int (nI (y0qn))), (2, .int (y1q))]) hx hb dX3_twist_5 rfl hl (by decide) rfl (fun ls hl => ?_)
    refine lv_aload_n hx hb dX3_twist_6 rfl (lv_at hl 0 rfl) ?_
    refine lv_ifnonnull (tgt := 20) hx hb dX3_twist_7 (by decide) ?_
    refine lv_iload_n hx hb dX3_twist_20 rfl (lv_at hl 3 rfl) ?_
    refine hI_if_eq (tgt := 31) hx hb dX3_twist_21 (by decide) (fun c21 => ?_) (fun c21 => ?_)
    · exact hv_throw (text := "by is 0, or not -4 to 4") hx hb hfl hown hKs hV hS (by decide +kernel) kx2 ky2 (by decide +kernel) ka2 xg2 (hl.1.trans hml.symm) dX3_twist_31 dX3_twist_34 dX3_twist_35 dX3_twist_37 dX3_twist_40 hnx (Nat.le_of_ble_eq_true rfl) (Nat.le_of_ble_eq_true rfl) (Nat.le_of_ble_eq_true rfl) (Nat.le_of_ble_eq_true rfl) hlocks (by unfold k_twist; rw [if_pos cq2, decide_eq_true c21]; rfl) (j := 2) (by decide) rfl (Nat.le_of_ble_eq_true rfl) (Nat.le_of_ble_eq_true rfl)
    · refine lv_iload_n hx hb dX3_twist_24 rfl (lv_at hl 3 rfl) ?_
      refine hv_calli (va_runS (As := [.int (y1q)]) (rest := []) ⟨hx, hb, hml, hown, hts⟩ (c_X3_isTwist l D N0 ad ct ((y1q))) (va_cwS 1 hts gX3_twist_X3_isTwist rfl rfl rfl (by decide +kernel) ⟨Nat.le_of_ble_eq_true rfl, Nat.le_of_ble_eq_true rfl⟩) (hv_preS hKs hV hS) rfl rfl hl.1 rfl (lv_room (Nat.le_of_ble_eq_true rfl)) dX3_twist_25 ⟨(Nat.le_of_ble_eq_true rfl), (Nat.le_of_ble_eq_true rfl)⟩) hS (fun r9 u9 H locs hq hV hS => ?_)
      obtain ⟨rfl, rfl⟩ := hq
      have hV : hv D N0 ad ct H := hV
      refine hB_if_ne (tgt := 41) hx hb dX3_twist_28 (by decide) (fun c28 => ?_) (fun c28 => ?_)
      · refine lv_aload_n hx hb dX3_twist_41 rfl (lv_at hl 0 rfl) ?_
        have hc1 := hG.2.2.2.2.1 (y0qn) (by omega)
        have hc1b : cLen σ (y0qn) ≤ 60 ∧ cHt σ (y0qn) ≤ 10 := ⟨(hO.2.2.2.1 (y0qn) (by omega)).1, (hO.2.2.2.1 (y0qn) (by omega)).2.1⟩
        have hc1f : ct (16 * (y0qn) + 3) = some (eO 0 [.ref (ad (16 * (y0qn) + 4)), .int (nI (cLen σ (y0qn))), .int (cTw σ (y0qn)), .int (nI (cHt σ (y0qn))), .int (hbv (cCr σ (y0qn)))]) := hc1.1
        refine hv_getN (C := RX0) (T := TX0) (N := 5) hx hb hts hiX0 hown hKs hV hc1f 4 rfl (by decide) kn62 (fun _ h9 => h9) rfl dX3_twist_42 ?_
        refine hB_if_ne (tgt := 60) hx hb dX3_twist_45 (by decide) (fun c45 => ?_) (fun c45 => ?_)
        · exact hv_throw (text := "the cane is cracked, or would be twisted too far") hx hb hfl hown hKs hV hS (by decide +kernel) kx3 ky3 (by decide +kernel) ka3 xg3 (hl.1.trans hml.symm) dX3_twist_60 dX3_twist_63 dX3_twist_64 dX3_twist_66 dX3_twist_69 hnx (Nat.le_of_ble_eq_true rfl) (Nat.le_of_ble_eq_true rfl) (Nat.le_of_ble_eq_true rfl) (Nat.le_of_ble_eq_true rfl) hlocks (by unfold k_twist; rw [if_pos cq2, decide_eq_false c21, c28, e_y0q, c45]; rfl) (j := 3) (by decide) rfl (Nat.le_of_ble_eq_true rfl) (Nat.le_of_ble_eq_true rfl)
        · refine lv_aload_n hx hb dX3_twist_48 rfl (lv_at hl 0 rfl) ?_
          refine hv_getN (C := RX0) (T := TX0) (N := 5) hx hb hts hiX0 hown hKs hV hc1f 2 rfl (by decide) kn89 (fun _ h9 => h9) rfl dX3_twist_49 ?_
          refine lv_iload_n hx hb dX3_twist_52 rfl (lv_at hl 3 rfl) ?_
          refine lv_iadd hx hb dX3_twist_53 ?_
          refine hv_calli (va_runS (As := [.int ((cTw σ (y0qn)) + (y1q))]) (rest := []) ⟨hx, hb, hml, hown, hts⟩ (c_X3_isTwist l D N0 ad ct (((cTw σ (y0qn)) + (y1q)))) (va_cwS 1 hts gX3_twist_X3_isTwist rfl rfl rfl (by decide +kernel) ⟨Nat.le_of_ble_eq_true rfl, Nat.le_of_ble_eq_true rfl⟩) (hv_preS hKs hV hS) rfl rfl hl.1 rfl (lv_room (Nat.le_of_ble_eq_true rfl)) dX3_twist_54 ⟨(Nat.le_of_ble_eq_true rfl), (Nat.le_of_ble_eq_true rfl)⟩) hS (fun r9 u9 H locs hq hV hS => ?_)
          obtain ⟨rfl, rfl⟩ := hq
          have hV : hv D N0 ad ct H := hV
          refine hB_if_ne (tgt := 70) hx hb dX3_twist_57 (by decide) (fun c57 => ?_) (fun c57 => ?_)
          · refine lv_aload_n hx hb dX3_twist_70 rfl (lv_at hl 0 rfl) ?_
            refine lv_iconst (v := nI 4) hx hb dX3_twist_71 (by decide) ?_
            refine hv_calli (va_runV (As := [.int (nI (4))]) (rest := []) ⟨hx, hb, hml, hown, hts⟩ (c_X0_startWorking l D N0 ad ct hc1f hc1b.2 (4) (by decide) (by decide)) (cwV 1 hts gX3_twist_X0_startWorking rfl rfl rfl (by decide +kernel) ⟨Nat.le_of_ble_eq_true rfl, Nat.le_of_ble_eq_true rfl⟩) (hv_preV (r := (RX0, TX0, 5)) hKs hV hS hc1f rfl) rfl rfl hl.1 rfl (lv_room (Nat.le_of_ble_eq_true rfl)) dX3_twist_72 ⟨(Nat.le_of_ble_eq_true rfl), (Nat.le_of_ble_eq_true rfl)⟩) hS (fun r9 u9 H locs hq hV hS => ?_)
            obtain ⟨ad9, ct⟩ := u9
            dsimp only at hq
            obtain ⟨hz, ha9, he, hne⟩ := hq
            have ha9 := ha9.symm
            subst ha9
            have hV : hv D N0 ad ct H := hV
            have hz0 := (hne (0) (by omega)).trans hz0
            have hz1 := (hne (16) (by omega)).trans hz1
            have hfr := fun (z : Nat) (z1 : z % 16 = 0) (z2 : 64 ≤ z) => hne z (by omega)
            have hpk : hPat D ad ct (16 * (y0qn) + 4) (cPt σ (y0qn)) := hc1.2.keep (hne _ (by omega)) (hne _ (by omega)) rfl
            rcases Nat.lt_or_ge (cHt σ (y0qn)) 4 with hk | hk
            · have hst : ct (16 * (y0qn) + 3) = some (eO 0 [.ref (ad (16 * (y0qn) + 4)), .int (nI (cLen σ (y0qn))), .int (cTw σ (y0qn)), .int (nI (cHt σ (y0qn))), .int (hbv (true))]) := by rw [he, if_neg (by omega), if_neg (by omega)]
              have hG1 : gX D (uCan σ (y0qn) (cLen σ (y0qn), cTw σ (y0qn), cHt σ (y0qn), true, cPt σ (y0qn))) ad ct := hG.can hst hpk (fun z h1 _ => hne z h1)
              refine hv_eqi (y := nI 0) (by rw [hz, decide_eq_false (by omega)]; rfl) ?_
              refine lv_istore (lv' := [(4, .int (nI (0))), (3, .ref (ad (16 * (y0qn) + 3))), (0, .ref (ad (0))), (1, .int (nI (y0qn))), (2, .int (y1q))]) hx hb dX3_twist_75 hl (by decide) rfl (fun ls hl => ?_)
              refine lv_iload hx hb dX3_twist_77 (lv_at hl 0 rfl) ?_
              refine hN_if_eq (tgt := 92) hx hb (by omega) dX3_twist_79 (by decide) (fun c79 => ?_) (fun c79 => by exact absurd c79 (by omega))
              refine lv_aload_n hx hb dX3_twist_92 rfl (lv_at hl 2 rfl) ?_
              refine hv_callv (va_runV (As := []) (rest := []) ⟨hx, hb, hml, hown, hts⟩ (c_X3_passMinute l D N0 ad ct hG1 (okH_can hO (by show cHt σ (y0qn) ≤ 10; omega))) (cwV 0 hts gX3_twist_X3_passMinute rfl rfl rfl (by decide +kernel) ⟨Nat.le_of_ble_eq_true rfl, Nat.le_of_ble_eq_true rfl⟩) (hv_preV (r := (RX3, TX3, 8)) hKs hV hS hz0 rfl) rfl rfl hl.1 rfl (lv_room (Nat.le_of_ble_eq_true rfl)) dX3_twist_93 ⟨(Nat.le_of_ble_eq_true rfl), (Nat.le_of_ble_eq_true rfl)⟩) hS (fun u9 H locs hq hV hS => ?_)
              obtain ⟨ad9, ct⟩ := u9
              dsimp only at hq
              obtain ⟨ha9, hGp, hnp⟩ := hq
              have ha9 := ha9.symm
              subst ha9
              have hV : hv D N0 ad ct H := hV
              have hfr := fun (z : Nat) (z1 : z % 16 = 0) (z2 : 64 ≤ z) => (hnp z (by omega) (by omega)).trans (hfr z z1 z2)
              refine lv_iload hx hb dX3_twist_96 (lv_at hl 0 rfl) ?_
              refine W.widen (k := 1) (n := 6) (by omega) (by omega) ?_
              refine vx_ret ?_
              exact hv_zret (v := nI (0)) (u := (ad, ct)) hx hb hr (by decide +kernel) ⟨by unfold k_twist; rw [if_pos cq2, decide_eq_false c21, c28, e_y0q, c45, c57]; rfl, by rw [e_y0q]; exact hb_0 (decide_eq_false (by omega)), by rw [e_y0q]; unfold sWk; rw [if_neg (show ¬ 4 ≤ cHt σ y0qn by omega)]; exact hGp, fun q q1 => ⟨rfl, fun q2 => hfr q q1 q2⟩⟩ hV hS dX3_twist_98 hlocks
            · have hst : ct (16 * (y0qn) + 3) = some (eO 0 [.ref (ad (16 * (y0qn) + 4)), .int (nI (cLen σ (y0qn))), .int (cTw σ (y0qn)), .int (nI (cHt σ (y0qn) - 1)), .int (hbv (cCr σ (y0qn)))]) := by rw [he, if_pos (by omega), if_pos (by omega)]
              have hG1 : gX D (uCan σ (y0qn) (cLen σ (y0qn), cTw σ (y0qn), cHt σ (y0qn) - 1, cCr σ (y0qn), cPt σ (y0qn))) ad ct := hG.can hst hpk (fun z h1 _ => hne z h1)
              refine hv_eqi (y := nI 1) (by rw [hz, decide_eq_true (by omega)]; rfl) ?_
              refine lv_istore (lv' := [(4, .int (nI (1))), (3, .ref (ad (16 * (y0qn) + 3))), (0, .ref (ad (0))), (1, .int (nI (y0qn))), (2, .int (y1q))]) hx hb dX3_twist_75 hl (by decide) rfl (fun ls hl => ?_)
              refine lv_iload hx hb dX3_twist_77 (lv_at hl 0 rfl) ?_
              refine hN_if_eq (tgt := 92) hx hb (by omega) dX3_twist_79 (by decide) (fun c79 => by exact absurd c79 (by omega)) (fun c79 => ?_)
              refine lv_aload_n hx hb dX3_twist_82 rfl (lv_at hl 1 rfl) ?_
              refine lv_dup hx hb dX3_twist_83 rfl ?_
              refine hv_getN (C := RX0) (T := TX0) (N := 5) hx hb hts hiX0 hown hKs hV hst 2 rfl (by decide) kn89 (fun _ h9 => h9) rfl dX3_twist_84 ?_
              refine lv_iload_n hx hb dX3_twist_87 rfl (lv_at hl 4 rfl) ?_
              refine lv_iadd hx hb dX3_twist_88 ?_
              refine hv_putN (ty := .int) (C := RX0) (T := TX0) (N := 5) hx hb hts hiX0 tyX0 tyX0_ok nmX0 hown hKs hV hS hst 2 rfl (by decide) kn89 (fun _ h9 => h9) (Or.inl (by decide +kernel)) (by decide +kernel) rfl rfl (Nat.le_of_ble_eq_true rfl) dX3_twist_89 (fun ct H locs he hne hV hS => ?_)
              have hz0 := (hne (0) (by omega)).trans hz0
              have hz1 := (hne (16) (by omega)).trans hz1
              have hst : ct (16 * (y0qn) + 3) = some (eO 0 [.ref (ad (16 * (y0qn) + 4)), .int (nI (cLen σ (y0qn))), .int ((cTw σ (y0qn)) + (y1q)), .int (nI (cHt σ (y0qn) - 1)), .int (hbv (cCr σ (y0qn)))]) := he
              have hpk : hPat D ad ct (16 * (y0qn) + 4) (cPt σ (y0qn)) := hpk.keep (hne _ (by omega)) (hne _ (by omega)) rfl
              have hfr := fun (z : Nat) (z1 : z % 16 = 0) (z2 : 64 ≤ z) => (hne z (by omega)).trans (hfr z z1 z2)
              have hG1 : gX D (uCan σ (y0qn) (q_twist σ (y0qn) y1q)) ad ct := by
                have h9 := hG1.can (i := y0qn) (q := q_twist σ (y0qn) y1q) hst hpk (fun z h1 _ => hne z h1)
                rw [uCan_2] at h9
                exact h9
              refine lv_aload_n hx hb dX3_twist_92 rfl (lv_at hl 2 rfl) ?_
              refine hv_callv (va_runV (As := []) (rest := []) ⟨hx, hb, hml, hown, hts⟩ (c_X3_passMinute l D N0 ad ct hG1 (okH_can hO (by show cHt σ (y0qn) - 1 ≤ 10; omega))) (cwV 0 hts gX3_twist_X3_passMinute rfl rfl rfl (by decide +kernel) ⟨Nat.le_of_ble_eq_true rfl, Nat.le_of_ble_eq_true rfl⟩) (hv_preV (r := (RX3, TX3, 8)) hKs hV hS hz0 rfl) rfl rfl hl.1 rfl (lv_room (Nat.le_of_ble_eq_true rfl)) dX3_twist_93 ⟨(Nat.le_of_ble_eq_true rfl), (Nat.le_of_ble_eq_true rfl)⟩) hS (fun u9 H locs hq hV hS => ?_)
              obtain ⟨ad9, ct⟩ := u9
              dsimp only at hq
              obtain ⟨ha9, hGp, hnp⟩ := hq
              have ha9 := ha9.symm
              subst ha9
              have hV : hv D N0 ad ct H := hV
              have hfr := fun (z : Nat) (z1 : z % 16 = 0) (z2 : 64 ≤ z) => (hnp z (by omega) (by omega)).trans (hfr z z1 z2)
              refine lv_iload hx hb dX3_twist_96 (lv_at hl 0 rfl) ?_
              refine W.widen (k := 1) (n := 6) (by omega) (by omega) ?_
              refine vx_ret ?_
              exact hv_zret (v := nI (1)) (u := (ad, ct)) hx hb hr (by decide +kernel) ⟨by unfold k_twist; rw [if_pos cq2, decide_eq_false c21, c28, e_y0q, c45, c57]; rfl, by rw [e_y0q]; exact hb_1 (decide_eq_true hk), by rw [e_y0q]; unfold sWk; rw [if_pos hk]; exact hGp, fun q q1 => ⟨rfl, fun q2 => hfr q q1 q2⟩⟩ hV hS dX3_twist_98 hlocks
          · exact hv_throw (text := "the cane is cracked, or would be twisted too far") hx hb hfl hown hKs hV hS (by decide +kernel) kx3 ky3 (by decide +kernel) ka3 xg3 (hl.1.trans hml.symm) dX3_twist_60 dX3_twist_63 dX3_twist_64 dX3_twist_66 dX3_twist_69 hnx (Nat.le_of_ble_eq_true rfl) (Nat.le_of_ble_eq_true rfl) (Nat.le_of_ble_eq_true rfl) (Nat.le_of_ble_eq_true rfl) hlocks (by unfold k_twist; rw [if_pos cq2, decide_eq_false c21, c28, e_y0q, c45, c57]; rfl) (j := 3) (by decide) rfl (Nat.le_of_ble_eq_true rfl) (Nat.le_of_ble_eq_true rfl)
      · exact hv_throw (text := "by is 0, or not -4 to 4") hx hb hfl hown hKs hV hS (by decide +kernel) kx2 ky2 (by decide +kernel) ka2 xg2 (hl.1.trans hml.symm) dX3_twist_31 dX3_twist_34 dX3_twist_35 dX3_twist_37 dX3_twist_40 hnx (Nat.le_of_ble_eq_true rfl) (Nat.le_of_ble_eq_true rfl) (Nat.le_of_ble_eq_true rfl) (Nat.le_of_ble_eq_true rfl) hlocks (by unfold k_twist; rw [if_pos cq2, decide_eq_false c21, c28]; rfl) (j := 2) (by decide) rfl (Nat.le_of_ble_eq_true rfl) (Nat.le_of_ble_eq_true rfl)
  · refine lv_astore_nN (lv' := [(3, .null), (0, .ref (ad (0))), (1, .int (y0q)), (2, .int (y1q))]) hx hb dX3_twist_5 rfl hl (by decide) rfl (fun ls hl => ?_)
    refine lv_aload_nN hx hb dX3_twist_6 rfl (lv_at hl 0 rfl) ?_
    refine lv_ifnonnullN hx hb dX3_twist_7 ?_
    exact hv_throw (text := "no such cane") hx hb hfl hown hKs hV hS (by decide +kernel) kx1 ky1 (by decide +kernel) ka1 xg1 (hl.1.trans hml.symm) dX3_twist_10 dX3_twist_13 dX3_twist_14 dX3_twist_16 dX3_twist_19 hnx (Nat.le_of_ble_eq_true rfl) (Nat.le_of_ble_eq_true rfl) (Nat.le_of_ble_eq_true rfl) (Nat.le_of_ble_eq_true rfl) hlocks (by simp [k_twist, cq2]) (j := 1) (by decide) rfl (Nat.le_of_ble_eq_true rfl) (Nat.le_of_ble_eq_true rfl)

set_option maxHeartbeats 4000000 in
set_option maxRecDepth 100000 in
theorem c_X3_pull (l : Launch) (hfl : l.stackTraces = false) (D : hG) (N0 : Nat) (ad : Nat → Nat) (ct : hC) {σ : gS} (hG : gX D σ ad ct) (hO : okS σ) (y0q : Int32) : vx_Met l yX3_pull wsX3_pull ({ frames := 6, cells := 1, slots := 6, locals := 82 }) (hPc D N0 ad ct [.ref (ad (0)), .int (y0q)]) (va_Qi (fun (z : Int32) (u : hU) => (k_pull σ y0q) = 0 ∧ z = hbv (decide (6 ≤ cHt σ y0q.toInt.toNat)) ∧ gX D (sWk σ y0q.toInt.toNat 6 (q_pull σ y0q.toInt.toNat)) u.1 u.2 ∧ hFr ad ct u) (hB D N0) (hA N0)) (hXC D N0 ad ct nm2 (k_pull σ y0q)) 1 6 (hA N0) := by
  refine vx_ofW (cc := cX3_pull) (maxL := 4) (ret := (some .boolean)) (by decide) rfl ?_
  intro p e s m args below meth c s₁ B hml hnx hv0
  obtain ⟨hargs, hKs, hV⟩ := hv0
  have hx := B.exec
  have hb := B.bytes
  have hr := B.returns
  have hts := atoms_spec (ws := wsX3_pull) B.pre
  have hown : s.vm.findClass RX3 = some m.cls := findClass_of_methodNamed B.named
  have hlocks := B.notSynchronized
  have hS : va_S (hA N0) s.heap s.heap [] := va_S.rf
  have hiX0 : ∀ w ∈ u_ws RX0 TX0 5, w ∈ wsX3_pull := by decide +kernel
  have kn62 := hKs.2.1 (62, "CaneSlices$Cane", "cracked", "Z") (by decide +kernel)
  have kx3 := hts (.classLink RX3 31 "java/lang/IllegalStateException") (by decide +kernel)
  have ky3 := hts (.initialized "java/lang/IllegalStateException") (by decide +kernel)
  have ka3 := vx_hat (fun w h => hts w (List.mem_cons_of_mem _ (List.mem_append_right _ h))) xb3 (xB_of hKs (by decide))
  have kx1 := hts (.classLink RX3 43 "java/lang/IndexOutOfBoundsException") (by decide +kernel)
  have ky1 := hts (.initialized "java/lang/IndexOutOfBoundsException") (by decide +kernel)
  have ka1 := vx_hat (fun w h => hts w (List.mem_cons_of_mem _ (List.mem_append_left _ (List.mem_append_right _ h)))) xb1 (xB_of hKs (by decide))
  have hl := lv_entry ([.ref (ad (0)), .int (y0q)]) (n := 4) (Nat.le_of_ble_eq_true rfl)
  have hE : entryFrame m args 4 = entryFrame m ([.ref (ad (0)), .int (y0q)] : List Value).toArray 4 := by rw [hargs]
  rw [hE, lg_entry_eq]
  generalize (lg_sl ([.ref (ad (0)), .int (y0q)]) ++ List.replicate (4 - (lg_sl ([.ref (ad (0)), .int (y0q)])).length) Slot.unset).toArray = ls at hl ⊢
  have hl : lv_has ls 4 [(0, .ref (ad (0))), (1, .int (y0q))] := hl
  obtain ⟨hn8, hn60, hn6, -⟩ := id hO
  have hz0 : ct (0) = some (eO 3 [.ref (ad (16)), .ref (ad (32)), .ref (ad (48)), .int (nI (gNC σ)), .int (nI (gNS σ)), .int (nI (gNB σ)), .int (gFu σ), .int (gMi σ)]) := hG.1
  have hz1 : ct (16) = some (eQ (D.2 1) 8 (fun i => if i < gNC σ then some (ad (16 * i + 3)) else none)) := hG.2.1
  have hz2 : ct (32) = some (eQ (D.2 2) 60 (fun i => if i < gNS σ then some (ad (16 * i + 6)) else none)) := hG.2.2.1
  have hz3 : ct (48) = some (eQ (D.2 2) 24 (fun e => (gEy σ e).map (fun q => ad (16 * q.1 + 6)))) := hG.2.2.2.1
  refine lv_aload_n hx hb dX3_pull_0 rfl (lv_at hl 0 rfl) ?_
  refine lv_iload_n hx hb dX3_pull_1 rfl (lv_at hl 1 rfl) ?_
  refine hv_callq (va_runV (As := [.int (y0q)]) (rest := []) ⟨hx, hb, hml, hown, hts⟩ (c_X3_caneAt l D N0 ad ct hG hO (y0q)) (cwV 1 hts gX3_pull_X3_caneAt rfl rfl rfl (by decide +kernel) ⟨Nat.le_of_ble_eq_true rfl, Nat.le_of_ble_eq_true rfl⟩) (hv_preV (r := (RX3, TX3, 8)) hKs hV hS hz0 rfl) rfl rfl hl.1 rfl (lv_room (Nat.le_of_ble_eq_true rfl)) dX3_pull_2 ⟨(Nat.le_of_ble_eq_true rfl), (Nat.le_of_ble_eq_true rfl)⟩) hS (fun r9 u9 H locs hq hV hS => ?_)
  obtain ⟨rfl, rfl⟩ := hq
  have hV : hv D N0 ad ct H := hV
  refine hv_ifQ (fun cq2 => ?_) (fun cq2 => ?_)
  · obtain ⟨y0qn, hy0qn, rfl⟩ := inR_of cq2
    have e_y0q : (nI y0qn).toInt.toNat = y0qn := toNat_nI (by omega)
    refine hv_eq (w := .ref (ad (16 * (y0qn) + 3))) (by rw [toNat_nI (by omega)]) ?_
    refine lv_astore_n (lv' := [(2, .ref (ad (16 * (y0qn) + 3))), (0, .ref (ad (0))), (1, .int (nI (y0qn)))]) hx hb dX3_pull_5 rfl hl (by decide) rfl (fun ls hl => ?_)
    refine lv_aload_n hx hb dX3_pull_6 rfl (lv_at hl 0 rfl) ?_
    refine lv_ifnonnull (tgt := 20) hx hb dX3_pull_7 (by decide) ?_
    refine lv_aload_n hx hb dX3_pull_20 rfl (lv_at hl 0 rfl) ?_
    have hc1 := hG.2.2.2.2.1 (y0qn) (by omega)
    have hc1b : cLen σ (y0qn) ≤ 60 ∧ cHt σ (y0qn) ≤ 10 := ⟨(hO.2.2.2.1 (y0qn) (by omega)).1, (hO.2.2.2.1 (y0qn) (by omega)).2.1⟩
    have hc1f : ct (16 * (y0qn) + 3) = some (eO 0 [.ref (ad (16 * (y0qn) + 4)), .int (nI (cLen σ (y0qn))), .int (cTw σ (y0qn)), .int (nI (cHt σ (y0qn))), .int (hbv (cCr σ (y0qn)))]) := hc1.1
    refine hv_getN (C := RX0) (T := TX0) (N := 5) hx hb hts hiX0 hown hKs hV hc1f 4 rfl (by decide) kn62 (fun _ h9 => h9) rfl dX3_pull_21 ?_
    refine hB_if_eq (tgt := 37) hx hb dX3_pull_24 (by decide) (fun c24 => ?_) (fun c24 => ?_)
    · refine lv_aload_n hx hb dX3_pull_37 rfl (lv_at hl 0 rfl) ?_
      refine lv_bipush (v := nI 6) hx hb dX3_pull_38 (by decide) ?_
      refine hv_calli (va_runV (As := [.int (nI (6))]) (rest := []) ⟨hx, hb, hml, hown, hts⟩ (c_X0_startWorking l D N0 ad ct hc1f hc1b.2 (6) (by decide) (by decide)) (cwV 1 hts gX3_pull_X0_startWorking rfl rfl rfl (by decide +kernel) ⟨Nat.le_of_ble_eq_true rfl, Nat.le_of_ble_eq_true rfl⟩) (hv_preV (r := (RX0, TX0, 5)) hKs hV hS hc1f rfl) rfl rfl hl.1 rfl (lv_room (Nat.le_of_ble_eq_true rfl)) dX3_pull_40 ⟨(Nat.le_of_ble_eq_true rfl), (Nat.le_of_ble_eq_true rfl)⟩) hS (fun r9 u9 H locs hq hV hS => ?_)
      obtain ⟨ad9, ct⟩ := u9
      dsimp only at hq
      obtain ⟨hz, ha9, he, hne⟩ := hq
      have ha9 := ha9.symm
      subst ha9
      have hV : hv D N0 ad ct H := hV
      have hz0 := (hne (0) (by omega)).trans hz0
      have hz1 := (hne (16) (by omega)).trans hz1
      have hfr := fun (z : Nat) (z1 : z % 16 = 0) (z2 : 64 ≤ z) => hne z (by omega)
      have hpk : hPat D ad ct (16 * (y0qn) + 4) (cPt σ (y0qn)) := hc1.2.keep (hne _ (by omega)) (hne _ (by omega)) rfl
      rcases Nat.lt_or_ge (cHt σ (y0qn)) 6 with hk | hk
      · have hst : ct (16 * (y0qn) + 3) = some (eO 0 [.ref (ad (16 * (y0qn) + 4)), .int (nI (cLen σ (y0qn))), .int (cTw σ (y0qn)), .int (nI (cHt σ (y0qn))), .int (hbv (true))]) := by rw [he, if_neg (by omega), if_neg (by omega)]
        have hG1 : gX D (uCan σ (y0qn) (cLen σ (y0qn), cTw σ (y0qn), cHt σ (y0qn), true, cPt σ (y0qn))) ad ct := hG.can hst hpk (fun z h1 _ => hne z h1)
        refine hv_eqi (y := nI 0) (by rw [hz, decide_eq_false (by omega)]; rfl) ?_
        refine lv_istore_n (lv' := [(3, .int (nI (0))), (2, .ref (ad (16 * (y0qn) + 3))), (0, .ref (ad (0))), (1, .int (nI (y0qn)))]) hx hb dX3_pull_43 rfl hl (by decide) rfl (fun ls hl => ?_)
        refine lv_iload_n hx hb dX3_pull_44 rfl (lv_at hl 0 rfl) ?_
        refine hN_if_eq (tgt := 52) hx hb (by omega) dX3_pull_45 (by decide) (fun c45 => ?_) (fun c45 => by exact absurd c45 (by omega))
        refine lv_aload_n hx hb dX3_pull_52 rfl (lv_at hl 2 rfl) ?_
        refine hv_callv (va_runV (As := []) (rest := []) ⟨hx, hb, hml, hown, hts⟩ (c_X3_passMinute l D N0 ad ct hG1 (okH_can hO (by show cHt σ (y0qn) ≤ 10; omega))) (cwV 0 hts gX3_pull_X3_passMinute rfl rfl rfl (by decide +kernel) ⟨Nat.le_of_ble_eq_true rfl, Nat.le_of_ble_eq_true rfl⟩) (hv_preV (r := (RX3, TX3, 8)) hKs hV hS hz0 rfl) rfl rfl hl.1 rfl (lv_room (Nat.le_of_ble_eq_true rfl)) dX3_pull_53 ⟨(Nat.le_of_ble_eq_true rfl), (Nat.le_of_ble_eq_true rfl)⟩) hS (fun u9 H locs hq hV hS => ?_)
        obtain ⟨ad9, ct⟩ := u9
        dsimp only at hq
        obtain ⟨ha9, hGp, hnp⟩ := hq
        have ha9 := ha9.symm
        subst ha9
        have hV : hv D N0 ad ct H := hV
        have hfr := fun (z : Nat) (z1 : z % 16 = 0) (z2 : 64 ≤ z) => (hnp z (by omega) (by omega)).trans (hfr z z1 z2)
        refine lv_iload_n hx hb dX3_pull_56 rfl (lv_at hl 0 rfl) ?_
        refine W.widen (k := 1) (n := 6) (by omega) (by omega) ?_
        refine vx_ret ?_
        exact hv_zret (v := nI (0)) (u := (ad, ct)) hx hb hr (by decide +kernel) ⟨by simp [k_pull, cq2, e_y0q, c24], by rw [e_y0q]; exact hb_0 (decide_eq_false (by omega)), by rw [e_y0q]; unfold sWk; rw [if_neg (show ¬ 6 ≤ cHt σ y0qn by omega)]; exact hGp, fun q q1 => ⟨rfl, fun q2 => hfr q q1 q2⟩⟩ hV hS dX3_pull_57 hlocks
      · have hst : ct (16 * (y0qn) + 3) = some (eO 0 [.ref (ad (16 * (y0qn) + 4)), .int (nI (cLen σ (y0qn))), .int (cTw σ (y0qn)), .int (nI (cHt σ (y0qn) - 1)), .int (hbv (cCr σ (y0qn)))]) := by rw [he, if_pos (by omega), if_pos (by omega)]
        have hG1 : gX D (uCan σ (y0qn) (cLen σ (y0qn), cTw σ (y0qn), cHt σ (y0qn) - 1, cCr σ (y0qn), cPt σ (y0qn))) ad ct := hG.can hst hpk (fun z h1 _ => hne z h1)
        refine hv_eqi (y := nI 1) (by rw [hz, decide_eq_true (by omega)]; rfl) ?_
        refine lv_istore_n (lv' := [(3, .int (nI (1))), (2, .ref (ad (16 * (y0qn) + 3))), (0, .ref (ad (0))), (1, .int (nI (y0qn)))]) hx hb dX3_pull_43 rfl hl (by decide) rfl (fun ls hl => ?_)
        refine lv_iload_n hx hb dX3_pull_44 rfl (lv_at hl 0 rfl) ?_
        refine hN_if_eq (tgt := 52) hx hb (by omega) dX3_pull_45 (by decide) (fun c45 => by exact absurd c45 (by omega)) (fun c45 => ?_)
        refine lv_aload_n hx hb dX3_pull_48 rfl (lv_at hl 1 rfl) ?_
        refine hv_callv (va_runV (As := []) (rest := []) ⟨hx, hb, hml, hown, hts⟩ (c_X0_stretch l D N0 ad ct hst (by omega)) (cwV 0 hts gX3_pull_X0_stretch rfl rfl rfl (by decide +kernel) ⟨Nat.le_of_ble_eq_true rfl, Nat.le_of_ble_eq_true rfl⟩) (hv_preV (r := (RX0, TX0, 5)) hKs hV hS hst rfl) rfl rfl hl.1 rfl (lv_room (Nat.le_of_ble_eq_true rfl)) dX3_pull_49 ⟨(Nat.le_of_ble_eq_true rfl), (Nat.le_of_ble_eq_true rfl)⟩) hS (fun u9 H locs hq hV hS => ?_)
        obtain ⟨ad9, ct⟩ := u9
        dsimp only at hq
        obtain ⟨ha9, he, hne⟩ := hq
        have ha9 := ha9.symm
        subst ha9
        have hV : hv D N0 ad ct H := hV
        have hz0 := (hne (0) (by omega)).trans hz0
        have hz1 := (hne (16) (by omega)).trans hz1
        have hpk : hPat D ad ct (16 * (y0qn) + 4) (cPt σ (y0qn)) := hpk.keep (hne _ (by omega)) (hne _ (by omega)) rfl
        have hfr := fun (z : Nat) (z1 : z % 16 = 0) (z2 : 64 ≤ z) => (hne z (by omega)).trans (hfr z z1 z2)
        have hG1 : gX D (uCan σ (y0qn) (q_pull σ (y0qn))) ad ct := by
          have h9 := hG1.can (i := y0qn) (q := q_pull σ (y0qn)) he hpk (fun z h1 _ => hne z h1)
          rw [uCan_2] at h9
          exact h9
        refine lv_aload_n hx hb dX3_pull_52 rfl (lv_at hl 2 rfl) ?_
        refine hv_callv (va_runV (As := []) (rest := []) ⟨hx, hb, hml, hown, hts⟩ (c_X3_passMinute l D N0 ad ct hG1 (okH_can hO (by show cHt σ (y0qn) - 1 ≤ 10; omega))) (cwV 0 hts gX3_pull_X3_passMinute rfl rfl rfl (by decide +kernel) ⟨Nat.le_of_ble_eq_true rfl, Nat.le_of_ble_eq_true rfl⟩) (hv_preV (r := (RX3, TX3, 8)) hKs hV hS hz0 rfl) rfl rfl hl.1 rfl (lv_room (Nat.le_of_ble_eq_true rfl)) dX3_pull_53 ⟨(Nat.le_of_ble_eq_true rfl), (Nat.le_of_ble_eq_true rfl)⟩) hS (fun u9 H locs hq hV hS => ?_)
        obtain ⟨ad9, ct⟩ := u9
        dsimp only at hq
        obtain ⟨ha9, hGp, hnp⟩ := hq
        have ha9 := ha9.symm
        subst ha9
        have hV : hv D N0 ad ct H := hV
        have hfr := fun (z : Nat) (z1 : z % 16 = 0) (z2 : 64 ≤ z) => (hnp z (by omega) (by omega)).trans (hfr z z1 z2)
        refine lv_iload_n hx hb dX3_pull_56 rfl (lv_at hl 0 rfl) ?_
        refine W.widen (k := 1) (n := 6) (by omega) (by omega) ?_
        refine vx_ret ?_
        exact hv_zret (v := nI (1)) (u := (ad, ct)) hx hb hr (by decide +kernel) ⟨by simp [k_pull, cq2, e_y0q, c24], by rw [e_y0q]; exact hb_1 (decide_eq_true hk), by rw [e_y0q]; unfold sWk; rw [if_pos hk]; exact hGp, fun q q1 => ⟨rfl, fun q2 => hfr q q1 q2⟩⟩ hV hS dX3_pull_57 hlocks
    · exact hv_throw (text := "the cane is cracked") hx hb hfl hown hKs hV hS (by decide +kernel) kx3 ky3 (by decide +kernel) ka3 xg3 (hl.1.trans hml.symm) dX3_pull_27 dX3_pull_30 dX3_pull_31 dX3_pull_33 dX3_pull_36 hnx (Nat.le_of_ble_eq_true rfl) (Nat.le_of_ble_eq_true rfl) (Nat.le_of_ble_eq_true rfl) (Nat.le_of_ble_eq_true rfl) hlocks (by simp [k_pull, cq2, e_y0q, c24]) (j := 2) (by decide) rfl (Nat.le_of_ble_eq_true rfl) (Nat.le_of_ble_eq_true rfl)
  · refine lv_astore_nN (lv' := [(2, .null), (0, .ref (ad (0))), (1, .int (y0q))]) hx hb dX3_pull_5 rfl hl (by decide) rfl (fun ls hl => ?_)
    refine lv_aload_nN hx hb dX3_pull_6 rfl (lv_at hl 0 rfl) ?_
    refine lv_ifnonnullN hx hb dX3_pull_7 ?_
    exact hv_throw (text := "no such cane") hx hb hfl hown hKs hV hS (by decide +kernel) kx1 ky1 (by decide +kernel) ka1 xg1 (hl.1.trans hml.symm) dX3_pull_10 dX3_pull_13 dX3_pull_14 dX3_pull_16 dX3_pull_19 hnx (Nat.le_of_ble_eq_true rfl) (Nat.le_of_ble_eq_true rfl) (Nat.le_of_ble_eq_true rfl) (Nat.le_of_ble_eq_true rfl) hlocks (by simp [k_pull, cq2]) (j := 1) (by decide) rfl (Nat.le_of_ble_eq_true rfl) (Nat.le_of_ble_eq_true rfl)
