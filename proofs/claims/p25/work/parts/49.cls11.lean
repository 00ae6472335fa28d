set_option maxHeartbeats 4000000 in
set_option maxRecDepth 100000 in
theorem c_X3_cut (l : Launch) (hfl : l.stackTraces = false) (D : hG) (N0 : Nat) (ad : Nat → Nat) (ct : hC) {σ : gS} (hG : gX D σ ad ct) (hO : okS σ) (y0q : Int32) : vx_Met l yX3_cut wsX3_cut ({ frames := 6, cells := 3, slots := 30, locals := 135 }) (hPc D N0 ad ct [.ref (ad (0)), .int (y0q)]) (va_Qi (fun (z : Int32) (u : hU) => (k_cut σ y0q) = 0 ∧ z = nI (gNS σ) ∧ gX D (s_cut σ y0q.toInt.toNat) u.1 u.2 ∧ hFr ad ct u) (hB D N0) (hA N0)) (hXC D N0 ad ct nm2 (k_cut σ y0q)) 3 30 (hA N0) := by
  refine vx_ofW (cc := cX3_cut) (maxL := 5) (ret := (some .int)) (by decide) rfl ?_
  intro p e s m args below meth c s₁ B hml hnx hv0
  obtain ⟨hargs, hKs, hV⟩ := hv0
  have hx := B.exec
  have hb := B.bytes
  have hr := B.returns
  have hts := atoms_spec (ws := wsX3_cut) B.pre
  have hown : s.vm.findClass RX3 = some m.cls := findClass_of_methodNamed B.named
  have hlocks := B.notSynchronized
  have hS : va_S (hA N0) s.heap s.heap [] := va_S.rf
  have hiX0 : ∀ w ∈ u_ws RX0 TX0 5, w ∈ wsX3_cut := by decide +kernel
  have hiX2 : ∀ w ∈ u_ws RX2 TX2 5, w ∈ wsX3_cut := by decide +kernel
  have hiX3 : ∀ w ∈ u_ws RX3 TX3 8, w ∈ wsX3_cut := by decide +kernel
  have kn103 := hKs.2.1 (103, "CaneSlices$Cane", "length", "I") (by decide +kernel)
  have kx3 := hts (.classLink RX3 31 "java/lang/IllegalStateException") (by decide +kernel)
  have ky3 := hts (.initialized "java/lang/IllegalStateException") (by decide +kernel)
  have ka3 := vx_hat (fun w h => hts w (List.mem_cons_of_mem _ (List.mem_append_right _ h))) xb3 (xB_of hKs (by decide))
  have kn106 := hKs.2.1 (106, "CaneSlices$Cane", "heat", "I") (by decide +kernel)
  have lk111 := hts (.fieldLink RX3 111 "CaneSlices" "sliceCount" "I") (by decide +kernel)
  have kn71 := hKs.2.1 (71, "CaneSlices$Cane", "pattern", "LCaneSlices$Pattern;") (by decide +kernel)
  have lk17 := hts (.fieldLink RX3 17 "CaneSlices" "slices" "[LCaneSlices$Slice;") (by decide +kernel)
  have kc15 := hts (.classLink RX3 15 RX2) (by decide +kernel)
  have kiX2 := hts (.instantiable RX2 5) (by decide +kernel)
  have kjX2 := hts (.initialized RX2) (by decide +kernel)
  have lk128 := hts (.methodLink RX3 128 yX2_init) (by decide +kernel)
  have kx1 := hts (.classLink RX3 43 "java/lang/IndexOutOfBoundsException") (by decide +kernel)
  have ky1 := hts (.initialized "java/lang/IndexOutOfBoundsException") (by decide +kernel)
  have ka1 := vx_hat (fun w h => hts w (List.mem_cons_of_mem _ (List.mem_append_left _ (List.mem_append_right _ h)))) xb1 (xB_of hKs (by decide))
  have hl := lv_entry ([.ref (ad (0)), .int (y0q)]) (n := 5) (Nat.le_of_ble_eq_true rfl)
  have hE : entryFrame m args 5 = entryFrame m ([.ref (ad (0)), .int (y0q)] : List Value).toArray 5 := by rw [hargs]
  rw [hE, lg_entry_eq]
  generalize (lg_sl ([.ref (ad (0)), .int (y0q)]) ++ List.replicate (5 - (lg_sl ([.ref (ad (0)), .int (y0q)])).length) Slot.unset).toArray = ls at hl ⊢
  have hl : lv_has ls 5 [(0, .ref (ad (0))), (1, .int (y0q))] := hl
  obtain ⟨hn8, hn60, hn6, -⟩ := id hO
  have hz0 : ct (0) = some (eO 3 [.ref (ad (16)), .ref (ad (32)), .ref (ad (48)), .int (nI (gNC σ)), .int (nI (gNS σ)), .int (nI (gNB σ)), .int (gFu σ), .int (gMi σ)]) := hG.1
  have hz1 : ct (16) = some (eQ (D.2 1) 8 (fun i => if i < gNC σ then some (ad (16 * i + 3)) else none)) := hG.2.1
  have hz2 : ct (32) = some (eQ (D.2 2) 60 (fun i => if i < gNS σ then some (ad (16 * i + 6)) else none)) := hG.2.2.1
  have hz3 : ct (48) = some (eQ (D.2 2) 24 (fun e => (gEy σ e).map (fun q => ad (16 * q.1 + 6)))) := hG.2.2.2.1
  refine lv_aload_n hx hb dX3_cut_0 rfl (lv_at hl 0 rfl) ?_
  refine lv_iload_n hx hb dX3_cut_1 rfl (lv_at hl 1 rfl) ?_
  refine hv_callq (va_runV (As := [.int (y0q)]) (rest := []) ⟨hx, hb, hml, hown, hts⟩ (c_X3_caneAt l D N0 ad ct hG hO (y0q)) (cwV 1 hts gX3_cut_X3_caneAt rfl rfl rfl (by decide +kernel) ⟨Nat.le_of_ble_eq_true rfl, Nat.le_of_ble_eq_true rfl⟩) (hv_preV (r := (RX3, TX3, 8)) hKs hV hS hz0 rfl) rfl rfl hl.1 rfl (lv_room (Nat.le_of_ble_eq_true rfl)) dX3_cut_2 ⟨(Nat.le_of_ble_eq_true rfl), (Nat.le_of_ble_eq_true rfl)⟩) hS (fun r9 u9 H locs hq hV hS => ?_)
  obtain ⟨rfl, rfl⟩ := hq
  have hV : hv D N0 ad ct H := hV
  refine hv_ifQ (fun cq2 => ?_) (fun cq2 => ?_)
  · obtain ⟨y0qn, hy0qn, rfl⟩ := inR_of cq2
    have e_y0q : (nI y0qn).toInt.toNat = y0qn := toNat_nI (by omega)
    refine hv_eq (w := .ref (ad (16 * (y0qn) + 3))) (by rw [toNat_nI (by omega)]) ?_
    refine lv_astore_n (lv' := [(2, .ref (ad (16 * (y0qn) + 3))), (0, .ref (ad (0))), (1, .int (nI (y0qn)))]) hx hb dX3_cut_5 rfl hl (by decide) rfl (fun ls hl => ?_)
    refine lv_aload_n hx hb dX3_cut_6 rfl (lv_at hl 0 rfl) ?_
    refine lv_ifnonnull (tgt := 20) hx hb dX3_cut_7 (by decide) ?_
    refine lv_aload_n hx hb dX3_cut_20 rfl (lv_at hl 0 rfl) ?_
    have hc1 := hG.2.2.2.2.1 (y0qn) (by omega)
    have hc1b : cLen σ (y0qn) ≤ 60 ∧ cHt σ (y0qn) ≤ 10 := ⟨(hO.2.2.2.1 (y0qn) (by omega)).1, (hO.2.2.2.1 (y0qn) (by omega)).2.1⟩
    have hc1f : ct (16 * (y0qn) + 3) = some (eO 0 [.ref (ad (16 * (y0qn) + 4)), .int (nI (cLen σ (y0qn))), .int (cTw σ (y0qn)), .int (nI (cHt σ (y0qn))), .int (hbv (cCr σ (y0qn)))]) := hc1.1
    refine hv_getN (C := RX0) (T := TX0) (N := 5) hx hb hts hiX0 hown hKs hV hc1f 1 rfl (by decide) kn103 (fun _ h9 => h9) rfl dX3_cut_21 ?_
    refine hN_if_eq (tgt := 35) hx hb (by omega) dX3_cut_24 (by decide) (fun c24 => ?_) (fun c24 => ?_)
    · exact hv_throw (text := "the cane is used up, or too hot") hx hb hfl hown hKs hV hS (by decide +kernel) kx3 ky3 (by decide +kernel) ka3 xg3 (hl.1.trans hml.symm) dX3_cut_35 dX3_cut_38 dX3_cut_39 dX3_cut_41 dX3_cut_44 hnx (Nat.le_of_ble_eq_true rfl) (Nat.le_of_ble_eq_true rfl) (Nat.le_of_ble_eq_true rfl) (Nat.le_of_ble_eq_true rfl) hlocks (by unfold k_cut; rw [if_pos cq2, e_y0q]; exact if_pos (by omega)) (j := 2) (by decide) rfl (Nat.le_of_ble_eq_true rfl) (Nat.le_of_ble_eq_true rfl)
    · refine lv_aload_n hx hb dX3_cut_27 rfl (lv_at hl 0 rfl) ?_
      refine hv_getN (C := RX0) (T := TX0) (N := 5) hx hb hts hiX0 hown hKs hV hc1f 3 rfl (by decide) kn106 (fun _ h9 => h9) rfl dX3_cut_28 ?_
      refine lv_iconst (v := nI 3) hx hb dX3_cut_31 (by decide) ?_
      refine hN_icmp_le (tgt := 45) hx hb (by omega) (by omega) dX3_cut_32 (by decide) (fun c32 => ?_) (fun c32 => ?_)
      · refine lv_aload_n hx hb dX3_cut_45 rfl (lv_at hl 1 rfl) ?_
        refine hv_get (C := RX3) (T := TX3) (N := 8) hx hb hts hiX3 hown hKs hV hz0 4 rfl (by decide) lk111 (fun _ h9 => h9) rfl dX3_cut_46 ?_
        refine lv_bipush (v := nI 60) hx hb dX3_cut_49 (by decide) ?_
        refine hN_icmp_lt (tgt := 64) hx hb (by omega) (by omega) dX3_cut_51 (by decide) (fun c51 => ?_) (fun c51 => ?_)
        · refine lv_aload_n hx hb dX3_cut_64 rfl (lv_at hl 1 rfl) ?_
          refine hv_get (C := RX3) (T := TX3) (N := 8) hx hb hts hiX3 hown hKs hV hz0 4 rfl (by decide) lk111 (fun _ h9 => h9) rfl dX3_cut_65 ?_
          refine lv_istore_n (lv' := [(3, .int (nI (gNS σ))), (2, .ref (ad (16 * (y0qn) + 3))), (0, .ref (ad (0))), (1, .int (nI (y0qn)))]) hx hb dX3_cut_68 rfl hl (by decide) rfl (fun ls hl => ?_)
          refine lv_aload_n hx hb dX3_cut_69 rfl (lv_at hl 1 rfl) ?_
          refine hv_getN (C := RX0) (T := TX0) (N := 5) hx hb hts hiX0 hown hKs hV hc1f 0 rfl (by decide) kn71 (fun _ h9 => h9) rfl dX3_cut_70 ?_
          refine lv_aload_n hx hb dX3_cut_73 rfl (lv_at hl 1 rfl) ?_
          refine lv_aload_n hx hb dX3_cut_74 rfl (lv_at hl 1 rfl) ?_
          refine hv_getN (C := RX0) (T := TX0) (N := 5) hx hb hts hiX0 hown hKs hV hc1f 1 rfl (by decide) kn103 (fun _ h9 => h9) rfl dX3_cut_75 ?_
          refine lv_iconst (v := nI 1) hx hb dX3_cut_78 (by decide) ?_
          refine hN_isub hx hb (by omega) dX3_cut_79 ?_
          refine hv_calli (va_runV (As := [.int (nI (cLen σ (y0qn) - (1)))]) (rest := [.ref (ad (16 * (y0qn) + 4))]) ⟨hx, hb, hml, hown, hts⟩ (c_X0_turnAt l D N0 ad ct hc1f (nI (cLen σ (y0qn) - (1)))) (cwV 1 hts gX3_cut_X0_turnAt rfl rfl rfl (by decide +kernel) ⟨Nat.le_of_ble_eq_true rfl, Nat.le_of_ble_eq_true rfl⟩) (hv_preV (r := (RX0, TX0, 5)) hKs hV hS hc1f rfl) rfl rfl hl.1 rfl (lv_room (Nat.le_of_ble_eq_true rfl)) dX3_cut_80 ⟨(Nat.le_of_ble_eq_true rfl), (Nat.le_of_ble_eq_true rfl)⟩) hS (fun r9 u9 H locs hq hV hS => ?_)
          obtain ⟨rfl, rfl⟩ := hq
          have hV : hv D N0 ad ct H := hV
          refine hv_callq (va_runV (As := [.int (cTw σ (y0qn) * nI (cLen σ (y0qn) - (1)))]) (rest := []) ⟨hx, hb, hml, hown, hts⟩ (c_X1_turned l D N0 ad ct hc1.2 (16 * (gNS σ) + 7) (by omega) (by omega) (by omega) ((cTw σ (y0qn) * nI (cLen σ (y0qn) - (1))))) (cwV 1 hts gX3_cut_X1_turned rfl rfl rfl (by decide +kernel) ⟨Nat.le_of_ble_eq_true rfl, Nat.le_of_ble_eq_true rfl⟩) (hv_preV (r := (RX1, TX1, 1)) hKs hV hS hc1.2.1 rfl) rfl rfl hl.1 rfl (lv_room (Nat.le_of_ble_eq_true rfl)) dX3_cut_83 ⟨(Nat.le_of_ble_eq_true rfl), (Nat.le_of_ble_eq_true rfl)⟩) hS (fun r9 u9 H locs hq hV hS => ?_)
          obtain ⟨ad, ct⟩ := u9
          dsimp only at hq
          obtain ⟨hz9, hna0, hne0, hpn⟩ := hq
          have hV : hv D N0 ad ct H := hV
          refine hv_eq (w := .ref (ad (16 * (gNS σ) + 7))) (by rw [hz9]; rfl) ?_
          have hne := fun (q : Nat) (q1 : q ≠ 16 * (gNS σ) + 7 ∧ q ≠ 16 * (gNS σ) + 7 + 1) => hne0 q q1.1 q1.2
          have hna := fun (q : Nat) (q1 : q ≠ 16 * (gNS σ) + 7 ∧ q ≠ 16 * (gNS σ) + 7 + 1) => hna0 q q1.1 q1.2
          have hl : lv_has ls 5 [(3, .int (nI (gNS σ))), (2, .ref (ad (16 * (y0qn) + 3))), (0, .ref (ad (0))), (1, .int (nI (y0qn)))] := by rw [hna (16 * (y0qn) + 3) (by omega), hna (0) (by omega)]; exact hl
          have hz0 : ct (0) = some (eO 3 [.ref (ad (16)), .ref (ad (32)), .ref (ad (48)), .int (nI (gNC σ)), .int (nI (gNS σ)), .int (nI (gNB σ)), .int (gFu σ), .int (gMi σ)]) := by rw [hne (0) (by omega), hna (16) (by omega), hna (32) (by omega), hna (48) (by omega)]; exact hz0
          have hz1 := (hne (16) (by omega)).trans hz1
          have hz2 := (hne (32) (by omega)).trans hz2
          have hz3 := (hne (48) (by omega)).trans hz3
          have hc1f : ct (16 * (y0qn) + 3) = some (eO 0 [.ref (ad (16 * (y0qn) + 4)), .int (nI (cLen σ (y0qn))), .int (cTw σ (y0qn)), .int (nI (cHt σ (y0qn))), .int (hbv (cCr σ (y0qn)))]) := by rw [hne (16 * (y0qn) + 3) (by omega), hna (16 * (y0qn) + 4) (by omega)]; exact hc1f
          have hpn : hPat D ad ct (16 * (gNS σ) + 7) (p_cut σ (y0qn)) := hpn
          have hnaT := hna0
          have hneT := hne0
          refine lv_astore (lv' := [(4, .ref (ad (16 * (gNS σ) + 7))), (3, .int (nI (gNS σ))), (2, .ref (ad (16 * (y0qn) + 3))), (0, .ref (ad (0))), (1, .int (nI (y0qn)))]) hx hb dX3_cut_86 hl (by decide) rfl (fun ls hl => ?_)
          refine lv_aload_n hx hb dX3_cut_88 rfl (lv_at hl 3 rfl) ?_
          refine hv_get (C := RX3) (T := TX3) (N := 8) hx hb hts hiX3 hown hKs hV hz0 1 rfl (by decide) lk17 (fun _ h9 => h9) rfl dX3_cut_89 ?_
          refine lv_iload_n hx hb dX3_cut_92 rfl (lv_at hl 1 rfl) ?_
          refine hv_new (C := RX2) (T := TX2) (N := 5) hx hb hts hiX2 tyX2 tyX2_ok hown kc15 kiX2 kjX2 hKs hV hS (16 * (gNS σ) + 6) (ci := 2) rfl dv_X2 (Nat.le_of_ble_eq_true rfl) (Nat.le_of_ble_eq_true rfl) dX3_cut_93 (fun ad ct H he hne hna hV hS => ?_)
          refine hv_stk (st' := [.ref (ad (16 * (gNS σ) + 6)), .int (nI (gNS σ)), .ref (ad (32))]) (by rw [hna (32) (by omega)]) ?_
          have hl : lv_has ls 5 [(4, .ref (ad (16 * (gNS σ) + 7))), (3, .int (nI (gNS σ))), (2, .ref (ad (16 * (y0qn) + 3))), (0, .ref (ad (0))), (1, .int (nI (y0qn)))] := by rw [hna (16 * (gNS σ) + 7) (by omega), hna (16 * (y0qn) + 3) (by omega), hna (0) (by omega)]; exact hl
          have hz0 : ct (0) = some (eO 3 [.ref (ad (16)), .ref (ad (32)), .ref (ad (48)), .int (nI (gNC σ)), .int (nI (gNS σ)), .int (nI (gNB σ)), .int (gFu σ), .int (gMi σ)]) := by rw [hne (0) (by omega), hna (16) (by omega), hna (32) (by omega), hna (48) (by omega)]; exact hz0
          have hz1 := (hne (16) (by omega)).trans hz1
          have hz2 := (hne (32) (by omega)).trans hz2
          have hz3 := (hne (48) (by omega)).trans hz3
          have hc1f : ct (16 * (y0qn) + 3) = some (eO 0 [.ref (ad (16 * (y0qn) + 4)), .int (nI (cLen σ (y0qn))), .int (cTw σ (y0qn)), .int (nI (cHt σ (y0qn))), .int (hbv (cCr σ (y0qn)))]) := by rw [hne (16 * (y0qn) + 3) (by omega), hna (16 * (y0qn) + 4) (by omega)]; exact hc1f
          have hn2 : ct (16 * (gNS σ) + 6) = some (eO 2 [.int (nI (0)), .null, .int (nI (0)), .int (nI (0)), .int (nI (0))]) := he
          have hnaN := hna
          have hneN := hne
          have hpk : hPat D ad ct (16 * (gNS σ) + 7) (p_cut σ y0qn) := hpn.keep (hne _ (by omega)) (hne _ (by omega)) (hna _ (by omega))
          have hGk : gX D σ ad ct := hG.keepN hO (fun z z1 z2 z3 => (hne z z1).trans (hneT z z2 z3)) (fun z z1 z2 z3 => (hna z z1).trans (hnaT z z2 z3))
          refine lv_dup hx hb dX3_cut_96 rfl ?_
          refine lv_iload_n hx hb dX3_cut_97 rfl (lv_at hl 1 rfl) ?_
          refine lv_aload hx hb dX3_cut_98 (lv_at hl 0 rfl) ?_
          refine lv_aload_n hx hb dX3_cut_100 rfl (lv_at hl 3 rfl) ?_
          refine lv_aload hx hb dX3_cut_101 (lv_at hl 0 rfl) ?_
          refine hv_calli (va_runV (As := [.ref (ad (16 * (gNS σ) + 7))]) (rest := [.ref (ad (16 * (gNS σ) + 7)), .int (nI (gNS σ)), .ref (ad (16 * (gNS σ) + 6)), .ref (ad (16 * (gNS σ) + 6)), .int (nI (gNS σ)), .ref (ad (32))]) ⟨hx, hb, hml, hown, hts⟩ (c_X3_kindOf l D N0 ad ct hGk hO hpk) (cwV 1 hts gX3_cut_X3_kindOf rfl rfl rfl (by decide +kernel) ⟨Nat.le_of_ble_eq_true rfl, Nat.le_of_ble_eq_true rfl⟩) (hv_preV (r := (RX3, TX3, 8)) hKs hV hS hz0 rfl) rfl rfl hl.1 rfl (lv_room (Nat.le_of_ble_eq_true rfl)) dX3_cut_103 ⟨(Nat.le_of_ble_eq_true rfl), (Nat.le_of_ble_eq_true rfl)⟩) hS (fun r9 u9 H locs hq hV hS => ?_)
          obtain ⟨rfl, rfl⟩ := hq
          have hV : hv D N0 ad ct H := hV
          refine hv_callv (va_runI (As := [.int (nI (gNS σ)), .ref (ad (16 * (gNS σ) + 7)), .int (nI (knd σ (p_cut σ y0qn) (gNS σ)))]) (rest := [.ref (ad (16 * (gNS σ) + 6)), .int (nI (gNS σ)), .ref (ad (32))]) ⟨hx, hb, hml, hown, hts⟩ (c_X2_init l D N0 ad ct hn2 (gNS σ) (knd σ (p_cut σ y0qn) (gNS σ))) (cwI 3 hts gX3_cut_X2_init rfl rfl rfl (hts (.initialized RX2) (by decide +kernel)) lk128 (hts (.instanceMethod yX2_init) (by decide +kernel)) rfl (by decide +kernel) ⟨Nat.le_of_ble_eq_true rfl, Nat.le_of_ble_eq_true rfl⟩) (hv_preS hKs hV hS) rfl rfl hl.1 rfl (lv_room (Nat.le_of_ble_eq_true rfl)) dX3_cut_106 ⟨(Nat.le_of_ble_eq_true rfl), (Nat.le_of_ble_eq_true rfl)⟩) hS (fun u9 H locs hq hV hS => ?_)
          obtain ⟨ad9, ct⟩ := u9
          dsimp only at hq
          obtain ⟨ha9, he, hne⟩ := hq
          have ha9 := ha9.symm
          subst ha9
          have hV : hv D N0 ad ct H := hV
          have hz0 := (hne (0) (by omega)).trans hz0
          have hz1 := (hne (16) (by omega)).trans hz1
          have hz2 := (hne (32) (by omega)).trans hz2
          have hz3 := (hne (48) (by omega)).trans hz3
          have hc1f := (hne (16 * (y0qn) + 3) (by omega)).trans hc1f
          have hneS := hne
          have hsl : ct (16 * (gNS σ) + 6) = some (eO 2 [.int (nI (gNS σ)), .ref (ad (16 * (gNS σ) + 7)), .int (nI (knd σ (p_cut σ y0qn) (gNS σ))), .int (-1), .int (nI (0))]) := he
          have hpk := hpk.keep (hne _ (by omega)) (hne _ (by omega)) (rfl : ad _ = ad _)
          refine hv_aast hx hb hKs hV hS 2 (r := (RX2, TX2, 5)) hz2 rfl hsl rfl (by omega) (by decide) dX3_cut_109 (fun ct H locs he hne hV hS => ?_)
          have hz0 := (hne (0) (by omega)).trans hz0
          have hz1 := (hne (16) (by omega)).trans hz1
          have hz3 := (hne (48) (by omega)).trans hz3
          have hc1f := (hne (16 * (y0qn) + 3) (by omega)).trans hc1f
          have hsl := (hne (16 * (gNS σ) + 6) (by omega)).trans hsl
          have hz2 := he
          have hneA := hne
          have hpk := hpk.keep (hne _ (by omega)) (hne _ (by omega)) (rfl : ad _ = ad _)
          refine lv_aload_n hx hb dX3_cut_110 rfl (lv_at hl 3 rfl) ?_
          refine lv_dup hx hb dX3_cut_111 rfl ?_
          refine hv_get (C := RX3) (T := TX3) (N := 8) hx hb hts hiX3 hown hKs hV hz0 4 rfl (by decide) lk111 (fun _ h9 => h9) rfl dX3_cut_112 ?_
          refine lv_iconst (v := nI 1) hx hb dX3_cut_115 (by decide) ?_
          refine hN_iadd hx hb dX3_cut_116 ?_
          refine hv_put (ty := .int) (C := RX3) (T := TX3) (N := 8) hx hb hts hiX3 tyX3 tyX3_ok nmX3 hown hKs hV hS hz0 4 rfl (by decide) lk111 (fun _ h9 => h9) (Or.inl (by decide +kernel)) (by decide +kernel) rfl rfl (Nat.le_of_ble_eq_true rfl) dX3_cut_117 (fun ct H locs he hne hV hS => ?_)
          have hz1 := (hne (16) (by omega)).trans hz1
          have hz3 := (hne (48) (by omega)).trans hz3
          have hc1f := (hne (16 * (y0qn) + 3) (by omega)).trans hc1f
          have hsl := (hne (16 * (gNS σ) + 6) (by omega)).trans hsl
          have hz2 := (hne (32) (by omega)).trans hz2
          have hz0 : ct (0) = some (eO 3 [.ref (ad (16)), .ref (ad (32)), .ref (ad (48)), .int (nI (gNC σ)), .int (nI (gNS σ + 1)), .int (nI (gNB σ)), .int (gFu σ), .int (gMi σ)]) := he
          have hneC := hne
          have hpk := hpk.keep (hne _ (by omega)) (hne _ (by omega)) (rfl : ad _ = ad _)
          refine lv_aload_n hx hb dX3_cut_120 rfl (lv_at hl 2 rfl) ?_
          refine lv_dup hx hb dX3_cut_121 rfl ?_
          refine hv_getN (C := RX0) (T := TX0) (N := 5) hx hb hts hiX0 hown hKs hV hc1f 1 rfl (by decide) kn103 (fun _ h9 => h9) rfl dX3_cut_122 ?_
          refine lv_iconst (v := nI 1) hx hb dX3_cut_125 (by decide) ?_
          refine hN_isub hx hb (by omega) dX3_cut_126 ?_
          refine hv_putN (ty := .int) (C := RX0) (T := TX0) (N := 5) hx hb hts hiX0 tyX0 tyX0_ok nmX0 hown hKs hV hS hc1f 1 rfl (by decide) kn103 (fun _ h9 => h9) (Or.inl (by decide +kernel)) (by decide +kernel) rfl rfl (Nat.le_of_ble_eq_true rfl) dX3_cut_127 (fun ct H locs he hne hV hS => ?_)
          have hz1 := (hne (16) (by omega)).trans hz1
          have hz3 := (hne (48) (by omega)).trans hz3
          have hsl := (hne (16 * (gNS σ) + 6) (by omega)).trans hsl
          have hz2 := (hne (32) (by omega)).trans hz2
          have hz0 := (hne (0) (by omega)).trans hz0
          have hc1f : ct (16 * (y0qn) + 3) = some (eO 0 [.ref (ad (16 * (y0qn) + 4)), .int (nI (cLen σ (y0qn) - (1))), .int (cTw σ (y0qn)), .int (nI (cHt σ (y0qn))), .int (hbv (cCr σ (y0qn)))]) := he
          have hneL := hne
          have hpk := hpk.keep (hne _ (by omega)) (hne _ (by omega)) (rfl : ad _ = ad _)
          refine lv_iload_n hx hb dX3_cut_130 rfl (lv_at hl 1 rfl) ?_
          refine W.widen (k := 3) (n := 30) (by omega) (by omega) ?_
          refine vx_ret ?_
          exact hv_iret (v := nI (gNS σ)) (u := (ad, ct)) hx hb hr ⟨by unfold k_cut; rw [if_pos cq2, e_y0q]; exact if_neg (by omega), rfl, by rw [e_y0q]; exact gX.cut hG hO (show y0qn < gNC σ by omega) hz0 hz2 hsl hpk hc1f (fun q q1 q2 q3 q4 q5 q6 => (hneL q (by omega)).trans ((hneC q (by omega)).trans ((hneA q (by omega)).trans ((hneS q (by omega)).trans ((hneN q (by omega)).trans (hneT q (by omega) (by omega))))))) (fun q q1 q2 q3 => (hnaN q (by omega)).trans (hnaT q (by omega) (by omega))), fun q q1 => ⟨(hnaN q (by omega)).trans (hnaT q (by omega) (by omega)), fun q2 => (hneL q (by omega)).trans ((hneC q (by omega)).trans ((hneA q (by omega)).trans ((hneS q (by omega)).trans ((hneN q (by omega)).trans (hneT q (by omega) (by omega))))))⟩⟩ hV hS dX3_cut_131 hlocks
        · exact hv_throw (text := "there are 60 slices") hx hb hfl hown hKs hV hS (by decide +kernel) kx3 ky3 (by decide +kernel) ka3 xg3 (hl.1.trans hml.symm) dX3_cut_54 dX3_cut_57 dX3_cut_58 dX3_cut_60 dX3_cut_63 hnx (Nat.le_of_ble_eq_true rfl) (Nat.le_of_ble_eq_true rfl) (Nat.le_of_ble_eq_true rfl) (Nat.le_of_ble_eq_true rfl) hlocks (by unfold k_cut; rw [if_pos cq2, e_y0q]; exact if_pos (by omega)) (j := 2) (by decide) rfl (Nat.le_of_ble_eq_true rfl) (Nat.le_of_ble_eq_true rfl)
      · exact hv_throw (text := "the cane is used up, or too hot") hx hb hfl hown hKs hV hS (by decide +kernel) kx3 ky3 (by decide +kernel) ka3 xg3 (hl.1.trans hml.symm) dX3_cut_35 dX3_cut_38 dX3_cut_39 dX3_cut_41 dX3_cut_44 hnx (Nat.le_of_ble_eq_true rfl) (Nat.le_of_ble_eq_true rfl) (Nat.le_of_ble_eq_true rfl) (Nat.le_of_ble_eq_true rfl) hlocks (by unfold k_cut; rw [if_pos cq2, e_y0q]; exact if_pos (by omega)) (j := 2) (by decide) rfl (Nat.le_of_ble_eq_true rfl) (Nat.le_of_ble_eq_true rfl)
  · refine lv_astore_nN (lv' := [(2, .null), (0, .ref (ad (0))), (1, .int (y0q))]) hx hb dX3_cut_5 rfl hl (by decide) rfl (fun ls hl => ?_)
    refine lv_aload_nN hx hb dX3_cut_6 rfl (lv_at hl 0 rfl) ?_
    refine lv_ifnonnullN hx hb dX3_cut_7 ?_
    exact hv_throw (text := "no such cane") hx hb hfl hown hKs hV hS (by decide +kernel) kx1 ky1 (by decide +kernel) ka1 xg1 (hl.1.trans hml.symm) dX3_cut_10 dX3_cut_13 dX3_cut_14 dX3_cut_16 dX3_cut_19 hnx (Nat.le_of_ble_eq_true rfl) (Nat.le_of_ble_eq_true rfl) (Nat.le_of_ble_eq_true rfl) (Nat.le_of_ble_eq_true rfl) hlocks (by simp [k_cut, cq2]) (j := 1) (by decide) rfl (Nat.le_of_ble_eq_true rfl) (Nat.le_of_ble_eq_true rfl)
