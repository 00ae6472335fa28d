
set_option maxHeartbeats 4000000 in
set_option maxRecDepth 100000 in
theorem c_X3_cuts (l : Launch) (hfl : l.stackTraces = false) (D : hG) (N0 : Nat) (ad : Nat → Nat) (ct : hC) {σ : gS} (hG : gX D σ ad ct) (hO : okS σ) (y0q y1q : Int32) : vx_Met l yX3_cuts wsX3_cuts ({ frames := 6, cells := 1, slots := 6, locals := 90 }) (hPc D N0 ad ct [.ref (ad (0)), .int (y0q), .int (y1q)]) (va_Qi (fun (z : Int32) (u : hU) => (k_cuts σ y0q y1q) = 0 ∧ z = r_cuts σ y0q.toInt.toNat y1q.toInt.toNat ∧ u = (ad, ct)) (hB D N0) (hA N0)) (hXC D N0 ad ct nmI (k_cuts σ y0q y1q)) 1 6 (hA N0) := by
  refine vx_ofW (cc := cX3_cuts) (maxL := 6) (ret := (some .int)) (by decide) rfl ?_
  intro p e s m args below meth c s₁ B hml hnx hv0
  obtain ⟨hargs, hKs, hV⟩ := hv0
  have hx := B.exec
  have hb := B.bytes
  have hr := B.returns
  have hts := atoms_spec (ws := wsX3_cuts) B.pre
  have hown : s.vm.findClass RX3 = some m.cls := findClass_of_methodNamed B.named
  have hlocks := B.notSynchronized
  have hS : va_S (hA N0) s.heap s.heap [] := va_S.rf
  have hiX0 : ∀ w ∈ u_ws RX0 TX0 5, w ∈ wsX3_cuts := by decide +kernel
  have hiX2 : ∀ w ∈ u_ws RX2 TX2 5, w ∈ wsX3_cuts := by decide +kernel
  have kn103 := hKs.2.1 (103, "CaneSlices$Cane", "length", "I") (by decide +kernel)
  have kn71 := hKs.2.1 (71, "CaneSlices$Cane", "pattern", "LCaneSlices$Pattern;") (by decide +kernel)
  have kn152 := hKs.2.1 (152, "CaneSlices$Slice", "pattern", "LCaneSlices$Pattern;") (by decide +kernel)
  have kx1 := hts (.classLink RX3 43 "java/lang/IndexOutOfBoundsException") (by decide +kernel)
  have ky1 := hts (.initialized "java/lang/IndexOutOfBoundsException") (by decide +kernel)
  have ka1 := vx_hat (fun w h => hts w (List.mem_cons_of_mem _ (List.mem_append_right _ h))) xb1 (xB_of hKs (by decide))
  have hl := lv_entry ([.ref (ad (0)), .int (y0q), .int (y1q)]) (n := 6) (Nat.le_of_ble_eq_true rfl)
  have hE : entryFrame m args 6 = entryFrame m ([.ref (ad (0)), .int (y0q), .int (y1q)] : List Value).toArray 6 := by rw [hargs]
  rw [hE, lg_entry_eq]
  generalize (lg_sl ([.ref (ad (0)), .int (y0q), .int (y1q)]) ++ List.replicate (6 - (lg_sl ([.ref (ad (0)), .int (y0q), .int (y1q)])).length) Slot.unset).toArray = ls at hl ⊢
  have hl : lv_has ls 6 [(0, .ref (ad (0))), (1, .int (y0q)), (2, .int (y1q))] := hl
  obtain ⟨Qz, hQz⟩ : ∃ z : State → Prop, z = (vx_MQ below (va_Qi (fun (z : Int32) (u : hU) => (k_cuts σ y0q y1q) = 0 ∧ z = r_cuts σ y0q.toInt.toNat y1q.toInt.toNat ∧ u = (ad, ct)) (hB D N0) (hA N0)) (hXC D N0 ad ct nmI (k_cuts σ y0q y1q)) args s 1 6 (hA N0)) := ⟨_, rfl⟩
  rw [← hQz]
  obtain ⟨hn8, hn60, hn6, -⟩ := id hO
  refine lv_aload_n hx hb dX3_cuts_0 rfl (lv_at hl 0 rfl) ?_
  refine lv_iload_n hx hb dX3_cuts_1 rfl (lv_at hl 1 rfl) ?_
  refine hv_callq (va_runV (As := [.int (y0q)]) (rest := []) ⟨hx, hb, hml, hown, hts⟩ (c_X3_caneAt l D N0 ad ct hG hO (y0q)) (cwV 1 hts gX3_cuts_X3_caneAt rfl rfl rfl (by decide +kernel) ⟨Nat.le_of_ble_eq_true rfl, Nat.le_of_ble_eq_true rfl⟩) (hv_preV (r := (RX3, TX3, 8)) hKs hV hS hG.1 rfl) rfl rfl hl.1 rfl (lv_room (Nat.le_of_ble_eq_true rfl)) dX3_cuts_2 ⟨(Nat.le_of_ble_eq_true rfl), (Nat.le_of_ble_eq_true rfl)⟩) hS (fun r9 u9 H locs hq hV hS => ?_)
  obtain ⟨rfl, rfl⟩ := hq
  have hV : hv D N0 ad ct H := hV
  refine hv_ifQ (fun cq2 => ?_) (fun cq2 => ?_)
  · obtain ⟨y0qn, hy0qn, rfl⟩ := inR_of cq2
    have e_y0q : (nI y0qn).toInt.toNat = y0qn := toNat_nI (by omega)
    refine hv_eq (w := .ref (ad (16 * (y0qn) + 3))) (by rw [toNat_nI (by omega)]) ?_
    refine lv_astore_n (lv' := [(3, .ref (ad (16 * (y0qn) + 3))), (0, .ref (ad (0))), (1, .int (nI (y0qn))), (2, .int (y1q))]) hx hb dX3_cuts_5 rfl hl (by decide) rfl (fun ls hl => ?_)
    refine lv_aload_n hx hb dX3_cuts_6 rfl (lv_at hl 1 rfl) ?_
    refine lv_iload_n hx hb dX3_cuts_7 rfl (lv_at hl 3 rfl) ?_
    refine hv_callq (va_runV (As := [.int (y1q)]) (rest := []) ⟨hx, hb, hml, hown, hts⟩ (c_X3_sliceAt l D N0 ad ct hG hO (y1q)) (cwV 1 hts gX3_cuts_X3_sliceAt rfl rfl rfl (by decide +kernel) ⟨Nat.le_of_ble_eq_true rfl, Nat.le_of_ble_eq_true rfl⟩) (hv_preV (r := (RX3, TX3, 8)) hKs hV hS hG.1 rfl) rfl rfl hl.1 rfl (lv_room (Nat.le_of_ble_eq_true rfl)) dX3_cuts_8 ⟨(Nat.le_of_ble_eq_true rfl), (Nat.le_of_ble_eq_true rfl)⟩) hS (fun r9 u9 H locs hq hV hS => ?_)
    obtain ⟨rfl, rfl⟩ := hq
    have hV : hv D N0 ad ct H := hV
    refine hv_ifQ (fun cq8 => ?_) (fun cq8 => ?_)
    · obtain ⟨y1qn, hy1qn, rfl⟩ := inR_of cq8
      have e_y1q : (nI y1qn).toInt.toNat = y1qn := toNat_nI (by omega)
      refine hv_eq (w := .ref (ad (16 * (y1qn) + 6))) (by rw [toNat_nI (by omega)]) ?_
      refine lv_astore (lv' := [(4, .ref (ad (16 * (y1qn) + 6))), (3, .ref (ad (16 * (y0qn) + 3))), (0, .ref (ad (0))), (1, .int (nI (y0qn))), (2, .int (nI (y1qn)))]) hx hb dX3_cuts_11 hl (by decide) rfl (fun ls hl => ?_)
      refine lv_aload_n hx hb dX3_cuts_13 rfl (lv_at hl 1 rfl) ?_
      refine lv_ifnull hx hb dX3_cuts_14 ?_
      refine lv_aload hx hb dX3_cuts_17 (lv_at hl 0 rfl) ?_
      refine lv_ifnonnull (tgt := 32) hx hb dX3_cuts_19 (by decide) ?_
      refine lv_iconst (v := nI 1) hx hb dX3_cuts_32 (by decide) ?_
      refine lv_istore (lv' := [(5, .int (nI (1))), (4, .ref (ad (16 * (y1qn) + 6))), (3, .ref (ad (16 * (y0qn) + 3))), (0, .ref (ad (0))), (1, .int (nI (y0qn))), (2, .int (nI (y1qn)))]) hx hb dX3_cuts_33 hl (by decide) rfl (fun ls hl => ?_)
      have L35 : ∀ (n i : Nat), i ≤ cLen σ (y0qn) + 1 → cLen σ (y0qn) + 1 < i + n → ∀ (H : Heap) (locs : List Loc), (1 ≤ i) → (∀ d, d + 1 < i → like (cPt σ y0qn) (cTw σ y0qn * nI (cLen σ y0qn - (d + 1))) (sPt σ y1qn) = false) → hv D N0 ad ct H → va_S (hA N0) s.heap H locs → ∀ ls : Array Slot, lv_has ls 6 [(0, .ref (ad (0))), (3, .ref (ad (16 * (y0qn) + 3))), (4, .ref (ad (16 * (y1qn) + 6))), (5, .int (nI (i)))] → W p l e (headSpec wsX3_cuts ({ frames := 6, cells := 1, slots := 6, locals := 90 })).room s m args below meth c H locs 0 0 Qz (F0 m 35 ls []) := by
        intro n
        induction n with
        | zero => intro i h1 h2; exact absurd h2 (by omega)
        | succ n ih35 =>
          intro i hi35 hn35 H locs hp gi hV hS ls hl
          refine lv_iload hx hb dX3_cuts_35 (lv_at hl 3 rfl) ?_
          refine lv_aload_n hx hb dX3_cuts_37 rfl (lv_at hl 1 rfl) ?_
          have hc1 := hG.2.2.2.2.1 (y0qn) (by omega)
          have hc1b : cLen σ (y0qn) ≤ 60 ∧ cHt σ (y0qn) ≤ 10 := ⟨(hO.2.2.2.1 (y0qn) (by omega)).1, (hO.2.2.2.1 (y0qn) (by omega)).2.1⟩
          have hc1f : ct (16 * (y0qn) + 3) = some (eO 0 [.ref (ad (16 * (y0qn) + 4)), .int (nI (cLen σ (y0qn))), .int (cTw σ (y0qn)), .int (nI (cHt σ (y0qn))), .int (hbv (cCr σ (y0qn)))]) := hc1.1
          refine hv_getN (C := RX0) (T := TX0) (N := 5) hx hb hts hiX0 hown hKs hV hc1f 1 rfl (by decide) kn103 (fun _ h9 => h9) rfl dX3_cuts_38 ?_
          refine hN_icmp_gt (tgt := 79) hx hb (by omega) (by omega) dX3_cuts_41 (by decide) (fun c41 => ?_) (fun c41 => ?_)
          · refine lv_iconst (v := (-1)) hx hb dX3_cuts_79 (by decide) ?_
            refine W.widen (k := 1) (n := 6) (by omega) (by omega) ?_
            rw [hQz]
            refine vx_ret ?_
            exact hv_iret (v := ((-1))) (u := (ad, ct)) hx hb hr ⟨by simp [k_cuts, cq2, cq8], by rw [e_y0q, e_y1q]; unfold r_cuts; rw [show d_cuts σ y0qn y1qn = cLen σ y0qn from frst_is (Nat.le_refl _) (fun d hd => gi d (by omega)) (fun q => absurd q (Nat.lt_irrefl _)), if_neg (Nat.lt_irrefl _)], rfl⟩ hV hS dX3_cuts_80 hlocks
          · refine lv_aload_n hx hb dX3_cuts_44 rfl (lv_at hl 1 rfl) ?_
            refine hv_getN (C := RX0) (T := TX0) (N := 5) hx hb hts hiX0 hown hKs hV hc1f 0 rfl (by decide) kn71 (fun _ h9 => h9) rfl dX3_cuts_45 ?_
            refine lv_aload hx hb dX3_cuts_48 (lv_at hl 2 rfl) ?_
            have hd2 := hG.2.2.2.2.2 (y1qn) (by omega)
            have hd2f : ct (16 * (y1qn) + 6) = some (eO 2 [.int (nI (y1qn)), .ref (ad (16 * (y1qn) + 7)), .int (nI (sKd σ (y1qn))), .int (eyv (sEy σ (y1qn))), .int (nI (trn σ (y1qn)))]) := hd2.1
            refine hv_getN (C := RX2) (T := TX2) (N := 5) hx hb hts hiX2 hown hKs hV hd2f 1 rfl (by decide) kn152 (fun _ h9 => h9) rfl dX3_cuts_50 ?_
            refine lv_aload_n hx hb dX3_cuts_53 rfl (lv_at hl 1 rfl) ?_
            refine lv_aload_n hx hb dX3_cuts_54 rfl (lv_at hl 1 rfl) ?_
            refine hv_getN (C := RX0) (T := TX0) (N := 5) hx hb hts hiX0 hown hKs hV hc1f 1 rfl (by decide) kn103 (fun _ h9 => h9) rfl dX3_cuts_55 ?_
            refine lv_iload hx hb dX3_cuts_58 (lv_at hl 3 rfl) ?_
            refine hN_isub hx hb (by omega) dX3_cuts_60 ?_
            refine hv_calli (va_runV (As := [.int (nI (cLen σ (y0qn) - (i)))]) (rest := [.ref (ad (16 * (y1qn) + 7)), .ref (ad (16 * (y0qn) + 4))]) ⟨hx, hb, hml, hown, hts⟩ (c_X0_turnAt l D N0 ad ct hc1f (nI (cLen σ (y0qn) - (i)))) (cwV 1 hts gX3_cuts_X0_turnAt rfl rfl rfl (by decide +kernel) ⟨Nat.le_of_ble_eq_true rfl, Nat.le_of_ble_eq_true rfl⟩) (hv_preV (r := (RX0, TX0, 5)) hKs hV hS hc1f rfl) rfl rfl hl.1 rfl (lv_room (Nat.le_of_ble_eq_true rfl)) dX3_cuts_61 ⟨(Nat.le_of_ble_eq_true rfl), (Nat.le_of_ble_eq_true rfl)⟩) hS (fun r9 u9 H locs hq hV hS => ?_)
            obtain ⟨rfl, rfl⟩ := hq
            have hV : hv D N0 ad ct H := hV
            refine hv_calli (va_runV (As := [.ref (ad (16 * (y1qn) + 7)), .int (cTw σ (y0qn) * nI (cLen σ (y0qn) - (i)))]) (rest := []) ⟨hx, hb, hml, hown, hts⟩ (c_X1_looksLike l D N0 ad ct hc1.2 hd2.2 ((cTw σ (y0qn) * nI (cLen σ (y0qn) - (i))))) (cwV 2 hts gX3_cuts_X1_looksLike rfl rfl rfl (by decide +kernel) ⟨Nat.le_of_ble_eq_true rfl, Nat.le_of_ble_eq_true rfl⟩) (hv_preV (r := (RX1, TX1, 1)) hKs hV hS hc1.2.1 rfl) rfl rfl hl.1 rfl (lv_room (Nat.le_of_ble_eq_true rfl)) dX3_cuts_64 ⟨(Nat.le_of_ble_eq_true rfl), (Nat.le_of_ble_eq_true rfl)⟩) hS (fun r9 u9 H locs hq hV hS => ?_)
            obtain ⟨rfl, rfl⟩ := hq
            have hV : hv D N0 ad ct H := hV
            refine hB_if_eq (tgt := 73) hx hb dX3_cuts_67 (by decide) (fun c67 => ?_) (fun c67 => ?_)
            · refine lv_iinc (v := nI (i + 1)) (lv' := [(5, .int (nI (i + 1))), (0, .ref (ad (0))), (3, .ref (ad (16 * (y0qn) + 3))), (4, .ref (ad (16 * (y1qn) + 6)))]) hx hb dX3_cuts_73 hl (k := 3) rfl (nI_add (i) 1) (by decide) rfl (fun ls hl => ?_)
              refine lv_goto (tgt := 35) hx hb dX3_cuts_76 (by decide) ?_
              exact ih35 (i + 1)  (by omega) (by omega) _ _ (by omega) (fun d hd => (Nat.lt_or_ge (d + 1) i).elim (gi d) (fun q => by have e9 : i = d + 1 := (by omega); subst e9; exact c67)) hV hS ls (lv_sub hl [1, 2, 3, 0] rfl)
            · refine lv_iload hx hb dX3_cuts_70 (lv_at hl 3 rfl) ?_
              refine W.widen (k := 1) (n := 6) (by omega) (by omega) ?_
              rw [hQz]
              refine vx_ret ?_
              exact hv_iret (v := nI (i)) (u := (ad, ct)) hx hb hr ⟨by simp [k_cuts, cq2, cq8], by rw [e_y0q, e_y1q]; unfold r_cuts; rw [show d_cuts σ y0qn y1qn = i - 1 from frst_is (by omega) (fun d hd => gi d (by omega)) (fun _ => by rw [show i - 1 + 1 = i by omega]; exact c67), if_pos (by omega), show i - 1 + 1 = i by omega], rfl⟩ hV hS dX3_cuts_72 hlocks
      exact L35 (cLen σ (y0qn) + 1 + 1) (1)  (by omega) (by omega) _ _ (Nat.le_refl _) (fun d hd => absurd hd (by omega)) hV hS ls (lv_sub hl [3, 2, 1, 0] rfl)
    · refine lv_astoreN (lv' := [(4, .null), (3, .ref (ad (16 * (y0qn) + 3))), (0, .ref (ad (0))), (1, .int (nI (y0qn))), (2, .int (y1q))]) hx hb dX3_cuts_11 hl (by decide) rfl (fun ls hl => ?_)
      refine lv_aload_n hx hb dX3_cuts_13 rfl (lv_at hl 1 rfl) ?_
      refine lv_ifnull hx hb dX3_cuts_14 ?_
      refine lv_aloadN hx hb dX3_cuts_17 (lv_at hl 0 rfl) ?_
      refine lv_ifnonnullN hx hb dX3_cuts_19 ?_
      rw [hQz]
      exact hv_throw (text := "no such cane or slice") hx hb hfl hown hKs hV hS (by decide +kernel) kx1 ky1 (by decide +kernel) ka1 xg1 (hl.1.trans hml.symm) dX3_cuts_22 dX3_cuts_25 dX3_cuts_26 dX3_cuts_28 dX3_cuts_31 hnx (Nat.le_of_ble_eq_true rfl) (Nat.le_of_ble_eq_true rfl) (Nat.le_of_ble_eq_true rfl) (Nat.le_of_ble_eq_true rfl) hlocks (by simp [k_cuts, cq2, cq8, e_y0q]) (j := 1) (by decide) rfl (Nat.le_of_ble_eq_true rfl) (Nat.le_of_ble_eq_true rfl)
  · refine lv_astore_nN (lv' := [(3, .null), (0, .ref (ad (0))), (1, .int (y0q)), (2, .int (y1q))]) hx hb dX3_cuts_5 rfl hl (by decide) rfl (fun ls hl => ?_)
    refine lv_aload_n hx hb dX3_cuts_6 rfl (lv_at hl 1 rfl) ?_
    refine lv_iload_n hx hb dX3_cuts_7 rfl (lv_at hl 3 rfl) ?_
    refine hv_callq (va_runV (As := [.int (y1q)]) (rest := []) ⟨hx, hb, hml, hown, hts⟩ (c_X3_sliceAt l D N0 ad ct hG hO (y1q)) (cwV 1 hts gX3_cuts_X3_sliceAt rfl rfl rfl (by decide +kernel) ⟨Nat.le_of_ble_eq_true rfl, Nat.le_of_ble_eq_true rfl⟩) (hv_preV (r := (RX3, TX3, 8)) hKs hV hS hG.1 rfl) rfl rfl hl.1 rfl (lv_room (Nat.le_of_ble_eq_true rfl)) dX3_cuts_8 ⟨(Nat.le_of_ble_eq_true rfl), (Nat.le_of_ble_eq_true rfl)⟩) hS (fun r9 u9 H locs hq hV hS => ?_)
    obtain ⟨rfl, rfl⟩ := hq
    have hV : hv D N0 ad ct H := hV
    refine hv_ifQ (fun cq8 => ?_) (fun cq8 => ?_)
    · obtain ⟨y1qn, hy1qn, rfl⟩ := inR_of cq8
      have e_y1q : (nI y1qn).toInt.toNat = y1qn := toNat_nI (by omega)
      refine hv_eq (w := .ref (ad (16 * (y1qn) + 6))) (by rw [toNat_nI (by omega)]) ?_
      refine lv_astore (lv' := [(4, .ref (ad (16 * (y1qn) + 6))), (3, .null), (0, .ref (ad (0))), (1, .int (y0q)), (2, .int (nI (y1qn)))]) hx hb dX3_cuts_11 hl (by decide) rfl (fun ls hl => ?_)
      refine lv_aload_nN hx hb dX3_cuts_13 rfl (lv_at hl 1 rfl) ?_
      refine lv_ifnullN (tgt := 22) hx hb dX3_cuts_14 (by decide) ?_
      rw [hQz]
      exact hv_throw (text := "no such cane or slice") hx hb hfl hown hKs hV hS (by decide +kernel) kx1 ky1 (by decide +kernel) ka1 xg1 (hl.1.trans hml.symm) dX3_cuts_22 dX3_cuts_25 dX3_cuts_26 dX3_cuts_28 dX3_cuts_31 hnx (Nat.le_of_ble_eq_true rfl) (Nat.le_of_ble_eq_true rfl) (Nat.le_of_ble_eq_true rfl) (Nat.le_of_ble_eq_true rfl) hlocks (by simp [k_cuts, cq2, cq8, e_y1q]) (j := 1) (by decide) rfl (Nat.le_of_ble_eq_true rfl) (Nat.le_of_ble_eq_true rfl)
    · refine lv_astoreN (lv' := [(4, .null), (3, .null), (0, .ref (ad (0))), (1, .int (y0q)), (2, .int (y1q))]) hx hb dX3_cuts_11 hl (by decide) rfl (fun ls hl => ?_)
      refine lv_aload_nN hx hb dX3_cuts_13 rfl (lv_at hl 1 rfl) ?_
      refine lv_ifnullN (tgt := 22) hx hb dX3_cuts_14 (by decide) ?_
      rw [hQz]
      exact hv_throw (text := "no such cane or slice") hx hb hfl hown hKs hV hS (by decide +kernel) kx1 ky1 (by decide +kernel) ka1 xg1 (hl.1.trans hml.symm) dX3_cuts_22 dX3_cuts_25 dX3_cuts_26 dX3_cuts_28 dX3_cuts_31 hnx (Nat.le_of_ble_eq_true rfl) (Nat.le_of_ble_eq_true rfl) (Nat.le_of_ble_eq_true rfl) (Nat.le_of_ble_eq_true rfl) hlocks (by simp [k_cuts, cq2, cq8]) (j := 1) (by decide) rfl (Nat.le_of_ble_eq_true rfl) (Nat.le_of_ble_eq_true rfl)

set_option maxHeartbeats 4000000 in
set_option maxRecDepth 100000 in
theorem c_X3_mends (l : Launch) (hfl : l.stackTraces = false) (D : hG) (N0 : Nat) (ad : Nat → Nat) (ct : hC) {σ : gS} (hG : gX D σ ad ct) (hO : okS σ) (y0q : Int32) : vx_Met l yX3_mends wsX3_mends ({ frames := 6, cells := 1, slots := 6, locals := 115 }) (hPc D N0 ad ct [.ref (ad (0)), .int (y0q)]) (va_Qi (fun (z : Int32) (u : hU) => (k_mends σ y0q) = 0 ∧ z = r_mends σ y0q.toInt.toNat ∧ u = (ad, ct)) (hB D N0) (hA N0)) (hXC D N0 ad ct nmI (k_mends σ y0q)) 1 6 (hA N0) := by
  refine vx_ofW (cc := cX3_mends) (maxL := 7) (ret := (some .int)) (by decide) rfl ?_
  intro p e s m args below meth c s₁ B hml hnx hv0
  obtain ⟨hargs, hKs, hV⟩ := hv0
  have hx := B.exec
  have hb := B.bytes
  have hr := B.returns
  have hts := atoms_spec (ws := wsX3_mends) B.pre
  have hown : s.vm.findClass RX3 = some m.cls := findClass_of_methodNamed B.named
  have hlocks := B.notSynchronized
  have hS : va_S (hA N0) s.heap s.heap [] := va_S.rf
  have hiX2 : ∀ w ∈ u_ws RX2 TX2 5, w ∈ wsX3_mends := by decide +kernel
  have hiX3 : ∀ w ∈ u_ws RX3 TX3 8, w ∈ wsX3_mends := by decide +kernel
  have lk21 := hts (.fieldLink RX3 21 "CaneSlices" "eyes" "[LCaneSlices$Slice;") (by decide +kernel)
  have kn226 := hKs.2.1 (226, "CaneSlices$Slice", "kind", "I") (by decide +kernel)
  have kx1 := hts (.classLink RX3 43 "java/lang/IndexOutOfBoundsException") (by decide +kernel)
  have ky1 := hts (.initialized "java/lang/IndexOutOfBoundsException") (by decide +kernel)
  have ka1 := vx_hat (fun w h => hts w (List.mem_cons_of_mem _ (List.mem_append_right _ h))) xb1 (xB_of hKs (by decide))
  have hl := lv_entry ([.ref (ad (0)), .int (y0q)]) (n := 7) (Nat.le_of_ble_eq_true rfl)
  have hE : entryFrame m args 7 = entryFrame m ([.ref (ad (0)), .int (y0q)] : List Value).toArray 7 := by rw [hargs]
  rw [hE, lg_entry_eq]
  generalize (lg_sl ([.ref (ad (0)), .int (y0q)]) ++ List.replicate (7 - (lg_sl ([.ref (ad (0)), .int (y0q)])).length) Slot.unset).toArray = ls at hl ⊢
  have hl : lv_has ls 7 [(0, .ref (ad (0))), (1, .int (y0q))] := hl
  obtain ⟨Qz, hQz⟩ : ∃ z : State → Prop, z = (vx_MQ below (va_Qi (fun (z : Int32) (u : hU) => (k_mends σ y0q) = 0 ∧ z = r_mends σ y0q.toInt.toNat ∧ u = (ad, ct)) (hB D N0) (hA N0)) (hXC D N0 ad ct nmI (k_mends σ y0q)) args s 1 6 (hA N0)) := ⟨_, rfl⟩
  rw [← hQz]
  obtain ⟨hn8, hn60, hn6, -⟩ := id hO
  refine lv_aload_n hx hb dX3_mends_0 rfl (lv_at hl 0 rfl) ?_
  refine lv_iload_n hx hb dX3_mends_1 rfl (lv_at hl 1 rfl) ?_
  refine hv_calli (va_runV (As := [.int (y0q)]) (rest := []) ⟨hx, hb, hml, hown, hts⟩ (c_X3_isBead l D N0 ad ct hG hO ((y0q))) (cwV 1 hts gX3_mends_X3_isBead rfl rfl rfl (by decide +kernel) ⟨Nat.le_of_ble_eq_true rfl, Nat.le_of_ble_eq_true rfl⟩) (hv_preV (r := (RX3, TX3, 8)) hKs hV hS hG.1 rfl) rfl rfl hl.1 rfl (lv_room (Nat.le_of_ble_eq_true rfl)) dX3_mends_2 ⟨(Nat.le_of_ble_eq_true rfl), (Nat.le_of_ble_eq_true rfl)⟩) hS (fun r9 u9 H locs hq hV hS => ?_)
  obtain ⟨rfl, rfl⟩ := hq
  have hV : hv D N0 ad ct H := hV
  refine hB_if_ne (tgt := 18) hx hb dX3_mends_5 (by decide) (fun c5 => ?_) (fun c5 => ?_)
  · obtain ⟨y0qn, hy0qn, rfl⟩ := inR_of c5
    have e_y0q : (nI y0qn).toInt.toNat = y0qn := toNat_nI (by omega)
    refine lv_aload_n hx hb dX3_mends_18 rfl (lv_at hl 0 rfl) ?_
    refine hv_calli (va_runV (As := []) (rest := []) ⟨hx, hb, hml, hown, hts⟩ (c_X3_canFillBead l D N0 ad ct hG hO) (cwV 0 hts gX3_mends_X3_canFillBead rfl rfl rfl (by decide +kernel) ⟨Nat.le_of_ble_eq_true rfl, Nat.le_of_ble_eq_true rfl⟩) (hv_preV (r := (RX3, TX3, 8)) hKs hV hS hG.1 rfl) rfl rfl hl.1 rfl (lv_room (Nat.le_of_ble_eq_true rfl)) dX3_mends_19 ⟨(Nat.le_of_ble_eq_true rfl), (Nat.le_of_ble_eq_true rfl)⟩) hS (fun r9 u9 H locs hq hV hS => ?_)
    obtain ⟨rfl, rfl⟩ := hq
    have hV : hv D N0 ad ct H := hV
    refine hB_if_eq (tgt := 29) hx hb dX3_mends_22 (by decide) (fun c22 => ?_) (fun c22 => ?_)
    · refine lv_iconst (v := (-1)) hx hb dX3_mends_29 (by decide) ?_
      refine hv_eqi (y := mval 5) rfl ?_
      refine lv_istore_n (lv' := [(2, .int (mval 5)), (0, .ref (ad (0))), (1, .int (nI (y0qn)))]) hx hb dX3_mends_30 rfl hl (by decide) rfl (fun ls hl => ?_)
      refine lv_iconst (v := nI 0) hx hb dX3_mends_31 (by decide) ?_
      refine lv_istore_n (lv' := [(3, .int (nI (0))), (2, .int (mval 5)), (0, .ref (ad (0))), (1, .int (nI (y0qn)))]) hx hb dX3_mends_32 rfl hl (by decide) rfl (fun ls hl => ?_)
      have L33 : ∀ (n i : Nat) (mm : Nat), i ≤ 4 → 4 < i + n → ∀ (H : Heap) (locs : List Loc), (mm = mnd σ y0qn i) → hv D N0 ad ct H → va_S (hA N0) s.heap H locs → ∀ ls : Array Slot, lv_has ls 7 [(0, .ref (ad (0))), (1, .int (nI (y0qn))), (2, .int (mval mm)), (3, .int (nI (i)))] → W p l e (headSpec wsX3_mends ({ frames := 6, cells := 1, slots := 6, locals := 115 })).room s m args below meth c H locs 0 0 Qz (F0 m 33 ls []) := by
        intro n
        induction n with
        | zero => intro i mm h1 h2; exact absurd h2 (by omega)
        | succ n ih33 =>
          intro i mm hi33 hn33 H locs hm hV hS ls hl
          refine lv_iload_n hx hb dX3_mends_33 rfl (lv_at hl 3 rfl) ?_
          refine lv_iconst (v := nI 4) hx hb dX3_mends_34 (by decide) ?_
          refine hN_icmp_ge (tgt := 112) hx hb (by omega) (by omega) dX3_mends_35 (by decide) (fun c35 => ?_) (fun c35 => ?_)
          · refine lv_iload_n hx hb dX3_mends_112 rfl (lv_at hl 2 rfl) ?_
            refine W.widen (k := 1) (n := 6) (by omega) (by omega) ?_
            rw [hQz]
            refine vx_ret ?_
            exact hv_iret (v := (mval mm)) (u := (ad, ct)) hx hb hr ⟨by simp [k_mends, c5], by rw [e_y0q, hm, show i = 4 by omega]; rfl, rfl⟩ hV hS dX3_mends_113 hlocks
          · refine lv_aload_n hx hb dX3_mends_38 rfl (lv_at hl 0 rfl) ?_
            refine hv_get (C := RX3) (T := TX3) (N := 8) hx hb hts hiX3 hown hKs hV hG.1 2 rfl (by decide) lk21 (fun _ h9 => h9) rfl dX3_mends_39 ?_
            refine lv_iconst (v := nI 4) hx hb dX3_mends_42 (by decide) ?_
            refine lv_iload_n hx hb dX3_mends_43 rfl (lv_at hl 1 rfl) ?_
            refine hN_imul hx hb dX3_mends_44 ?_
            refine lv_iload_n hx hb dX3_mends_45 rfl (lv_at hl 3 rfl) ?_
            refine hN_iadd hx hb dX3_mends_46 ?_
            refine hv_aald hx hb hKs hV 2 hG.2.2.2.1 rfl (by omega) (by decide) dX3_mends_47 ?_
            rcases hq47 : gEy σ ((4) * (y0qn) + i) with _ | ⟨s47, t47⟩
            · refine hv_eq (w := .null) rfl ?_
              refine lv_astoreN (lv' := [(4, .null), (0, .ref (ad (0))), (1, .int (nI (y0qn))), (2, .int (mval mm)), (3, .int (nI (i)))]) hx hb dX3_mends_48 hl (by decide) rfl (fun ls hl => ?_)
              refine lv_aloadN hx hb dX3_mends_50 (lv_at hl 0 rfl) ?_
              refine lv_ifnullN (tgt := 106) hx hb dX3_mends_52 (by decide) ?_
              refine lv_iinc (v := nI (i + 1)) (lv' := [(3, .int (nI (i + 1))), (4, .null), (0, .ref (ad (0))), (1, .int (nI (y0qn))), (2, .int (mval mm))]) hx hb dX3_mends_106 hl (k := 4) rfl (nI_add (i) 1) (by decide) rfl (fun ls hl => ?_)
              refine lv_goto (tgt := 33) hx hb dX3_mends_109 (by decide) ?_
              exact ih33 (i + 1) (mm) (by omega) (by omega) _ _ (by rw [hm, mnd_0 hq47]) hV hS ls (lv_sub hl [2, 3, 4, 0] rfl)
            · obtain ⟨he47, hs47, ht47, hy47⟩ := hO.2.2.2.2.2.1 _ _ _ hq47
              refine hv_eq (w := .ref (ad (16 * (s47) + 6))) rfl ?_
              refine lv_astore (lv' := [(4, .ref (ad (16 * (s47) + 6))), (0, .ref (ad (0))), (1, .int (nI (y0qn))), (2, .int (mval mm)), (3, .int (nI (i)))]) hx hb dX3_mends_48 hl (by decide) rfl (fun ls hl => ?_)
              refine lv_aload hx hb dX3_mends_50 (lv_at hl 0 rfl) ?_
              refine lv_ifnull hx hb dX3_mends_52 ?_
              refine lv_iconst (v := nI 4) hx hb dX3_mends_55 (by decide) ?_
              refine lv_aload_n hx hb dX3_mends_56 rfl (lv_at hl 1 rfl) ?_
              refine lv_iload_n hx hb dX3_mends_57 rfl (lv_at hl 2 rfl) ?_
              refine lv_aload hx hb dX3_mends_58 (lv_at hl 0 rfl) ?_
              refine hv_calli (va_runV (As := [.int (nI (y0qn)), .ref (ad (16 * (s47) + 6))]) (rest := [.int (nI (4))]) ⟨hx, hb, hml, hown, hts⟩ (c_X3_eyesLike l D N0 ad ct hG hO (y0qn) (by omega) (s47) (by omega)) (cwV 2 hts gX3_mends_X3_eyesLike rfl rfl rfl (by decide +kernel) ⟨Nat.le_of_ble_eq_true rfl, Nat.le_of_ble_eq_true rfl⟩) (hv_preV (r := (RX3, TX3, 8)) hKs hV hS hG.1 rfl) rfl rfl hl.1 rfl (lv_room (Nat.le_of_ble_eq_true rfl)) dX3_mends_60 ⟨(Nat.le_of_ble_eq_true rfl), (Nat.le_of_ble_eq_true rfl)⟩) hS (fun r9 u9 H locs hq hV hS => ?_)
              obtain ⟨rfl, rfl⟩ := hq
              have hV : hv D N0 ad ct H := hV
              have hf1 : nsm (el σ (y0qn) (s47)) 4 ≤ 4 := nsm_le (f := el σ (y0qn) (s47)) (c := 1) (n := 4) (fun _ _ => el_le)
              refine hN_isub hx hb (by omega) dX3_mends_63 ?_
              refine lv_istore (lv' := [(5, .int (nI (4 - (nsm (el σ (y0qn) (s47)) 4)))), (4, .ref (ad (16 * (s47) + 6))), (0, .ref (ad (0))), (1, .int (nI (y0qn))), (2, .int (mval mm)), (3, .int (nI (i)))]) hx hb dX3_mends_64 hl (by decide) rfl (fun ls hl => ?_)
              have hmv := mval_int (m := mm) (by rw [hm]; exact mnd_le)
              refine lv_iload_n hx hb dX3_mends_66 rfl (lv_at hl 4 rfl) ?_
              refine lv_iconst (v := (-1)) hx hb dX3_mends_67 (by decide) ?_
              refine hI_icmp_eq (tgt := 77) hx hb dX3_mends_68 (by decide) (fun c68 => ?_) (fun c68 => ?_)
              · refine lv_iconst (v := nI 1) hx hb dX3_mends_77 (by decide) ?_
                refine lv_goto (tgt := 82) hx hb dX3_mends_78 (by decide) ?_
                refine lv_istore (lv' := [(6, .int (nI (1))), (5, .int (nI (4 - (nsm (el σ (y0qn) (s47)) 4)))), (4, .ref (ad (16 * (s47) + 6))), (0, .ref (ad (0))), (1, .int (nI (y0qn))), (2, .int (mval mm)), (3, .int (nI (i)))]) hx hb dX3_mends_82 hl (by decide) rfl (fun ls hl => ?_)
                refine lv_iload hx hb dX3_mends_84 (lv_at hl 0 rfl) ?_
                refine hN_if_eq (tgt := 106) hx hb (by omega) dX3_mends_86 (by decide) (fun c86 => by exact absurd c86 (by omega)) (fun c86 => ?_)
                refine lv_iload hx hb dX3_mends_89 (lv_at hl 1 rfl) ?_
                refine lv_aload_n hx hb dX3_mends_91 rfl (lv_at hl 3 rfl) ?_
                refine lv_aload hx hb dX3_mends_92 (lv_at hl 2 rfl) ?_
                have hd2 := hG.2.2.2.2.2 (s47) (by omega)
                have hd2f : ct (16 * (s47) + 6) = some (eO 2 [.int (nI (s47)), .ref (ad (16 * (s47) + 7)), .int (nI (sKd σ (s47))), .int (eyv (sEy σ (s47))), .int (nI (trn σ (s47)))]) := hd2.1
                refine hv_getN (C := RX2) (T := TX2) (N := 5) hx hb hts hiX2 hown hKs hV hd2f 2 rfl (by decide) kn226 (fun _ h9 => h9) rfl dX3_mends_94 ?_
                have hkd := sKd_le hO (i := s47) (by omega)
                refine hv_calli (va_runV (As := [.int (nI (sKd σ (s47)))]) (rest := [.int (nI (4 - (nsm (el σ (y0qn) (s47)) 4)))]) ⟨hx, hb, hml, hown, hts⟩ (c_X3_freeSlicesOf l D N0 ad ct hG hO (sKd σ (s47)) (by omega)) (cwV 1 hts gX3_mends_X3_freeSlicesOf rfl rfl rfl (by decide +kernel) ⟨Nat.le_of_ble_eq_true rfl, Nat.le_of_ble_eq_true rfl⟩) (hv_preV (r := (RX3, TX3, 8)) hKs hV hS hG.1 rfl) rfl rfl hl.1 rfl (lv_room (Nat.le_of_ble_eq_true rfl)) dX3_mends_97 ⟨(Nat.le_of_ble_eq_true rfl), (Nat.le_of_ble_eq_true rfl)⟩) hS (fun r9 u9 H locs hq hV hS => ?_)
                obtain ⟨rfl, rfl⟩ := hq
                have hV : hv D N0 ad ct H := hV
                have hf3 : nsm (fr σ (sKd σ (s47))) (gNS σ) ≤ 60 := nsm_fr hO
                refine hN_icmp_gt (tgt := 106) hx hb (by omega) (by omega) dX3_mends_100 (by decide) (fun c100 => ?_) (fun c100 => ?_)
                · refine lv_iinc (v := nI (i + 1)) (lv' := [(3, .int (nI (i + 1))), (6, .int (nI (1))), (5, .int (nI (4 - (nsm (el σ (y0qn) (s47)) 4)))), (4, .ref (ad (16 * (s47) + 6))), (0, .ref (ad (0))), (1, .int (nI (y0qn))), (2, .int (mval mm))]) hx hb dX3_mends_106 hl (k := 6) rfl (nI_add (i) 1) (by decide) rfl (fun ls hl => ?_)
                  refine lv_goto (tgt := 33) hx hb dX3_mends_109 (by decide) ?_
                  exact ih33 (i + 1) (mm) (by omega) (by omega) _ _ (by rw [mnd_2 hq47 (by rw [← hm]; omega), hm]) hV hS ls (lv_sub hl [4, 5, 6, 0] rfl)
                · refine lv_iload hx hb dX3_mends_103 (lv_at hl 1 rfl) ?_
                  refine hv_eqi (y := mval (4 - (nsm (el σ (y0qn) (s47)) 4))) (mval_of (by omega)).symm ?_
                  refine lv_istore_n (lv' := [(2, .int (mval (4 - (nsm (el σ (y0qn) (s47)) 4)))), (6, .int (nI (1))), (5, .int (nI (4 - (nsm (el σ (y0qn) (s47)) 4)))), (4, .ref (ad (16 * (s47) + 6))), (0, .ref (ad (0))), (1, .int (nI (y0qn))), (3, .int (nI (i)))]) hx hb dX3_mends_105 rfl hl (by decide) rfl (fun ls hl => ?_)
                  refine lv_iinc (v := nI (i + 1)) (lv' := [(3, .int (nI (i + 1))), (2, .int (mval (4 - (nsm (el σ (y0qn) (s47)) 4)))), (6, .int (nI (1))), (5, .int (nI (4 - (nsm (el σ (y0qn) (s47)) 4)))), (4, .ref (ad (16 * (s47) + 6))), (0, .ref (ad (0))), (1, .int (nI (y0qn)))]) hx hb dX3_mends_106 hl (k := 6) rfl (nI_add (i) 1) (by decide) rfl (fun ls hl => ?_)
                  refine lv_goto (tgt := 33) hx hb dX3_mends_109 (by decide) ?_
                  exact ih33 (i + 1) (4 - (nsm (el σ (y0qn) (s47)) 4)) (by omega) (by omega) _ _ (by rw [mnd_1 hq47 (by rw [← hm]; omega)]) hV hS ls (lv_sub hl [5, 6, 1, 0] rfl)
              · refine lv_iload hx hb dX3_mends_71 (lv_at hl 0 rfl) ?_
                refine lv_iload_n hx hb dX3_mends_73 rfl (lv_at hl 4 rfl) ?_
                refine hL_icmp_ge (tgt := 81) hx hb (by omega) dX3_mends_74 (by decide) (fun c74 => ?_) (fun c74 => ?_)
                · refine lv_iconst (v := nI 0) hx hb dX3_mends_81 (by decide) ?_
                  refine lv_istore (lv' := [(6, .int (nI (0))), (5, .int (nI (4 - (nsm (el σ (y0qn) (s47)) 4)))), (4, .ref (ad (16 * (s47) + 6))), (0, .ref (ad (0))), (1, .int (nI (y0qn))), (2, .int (mval mm)), (3, .int (nI (i)))]) hx hb dX3_mends_82 hl (by decide) rfl (fun ls hl => ?_)
                  refine lv_iload hx hb dX3_mends_84 (lv_at hl 0 rfl) ?_
                  refine hN_if_eq (tgt := 106) hx hb (by omega) dX3_mends_86 (by decide) (fun c86 => ?_) (fun c86 => by exact absurd c86 (by omega))
                  refine lv_iinc (v := nI (i + 1)) (lv' := [(3, .int (nI (i + 1))), (6, .int (nI (0))), (5, .int (nI (4 - (nsm (el σ (y0qn) (s47)) 4)))), (4, .ref (ad (16 * (s47) + 6))), (0, .ref (ad (0))), (1, .int (nI (y0qn))), (2, .int (mval mm))]) hx hb dX3_mends_106 hl (k := 6) rfl (nI_add (i) 1) (by decide) rfl (fun ls hl => ?_)
                  refine lv_goto (tgt := 33) hx hb dX3_mends_109 (by decide) ?_
                  exact ih33 (i + 1) (mm) (by omega) (by omega) _ _ (by rw [mnd_2 hq47 (by rw [← hm]; omega), hm]) hV hS ls (lv_sub hl [4, 5, 6, 0] rfl)
                · refine lv_iconst (v := nI 1) hx hb dX3_mends_77 (by decide) ?_
                  refine lv_goto (tgt := 82) hx hb dX3_mends_78 (by decide) ?_
                  refine lv_istore (lv' := [(6, .int (nI (1))), (5, .int (nI (4 - (nsm (el σ (y0qn) (s47)) 4)))), (4, .ref (ad (16 * (s47) + 6))), (0, .ref (ad (0))), (1, .int (nI (y0qn))), (2, .int (mval mm)), (3, .int (nI (i)))]) hx hb dX3_mends_82 hl (by decide) rfl (fun ls hl => ?_)
                  refine lv_iload hx hb dX3_mends_84 (lv_at hl 0 rfl) ?_
                  refine hN_if_eq (tgt := 106) hx hb (by omega) dX3_mends_86 (by decide) (fun c86 => by exact absurd c86 (by omega)) (fun c86 => ?_)
                  refine lv_iload hx hb dX3_mends_89 (lv_at hl 1 rfl) ?_
                  refine lv_aload_n hx hb dX3_mends_91 rfl (lv_at hl 3 rfl) ?_
                  refine lv_aload hx hb dX3_mends_92 (lv_at hl 2 rfl) ?_
                  have hd4 := hG.2.2.2.2.2 (s47) (by omega)
                  have hd4f : ct (16 * (s47) + 6) = some (eO 2 [.int (nI (s47)), .ref (ad (16 * (s47) + 7)), .int (nI (sKd σ (s47))), .int (eyv (sEy σ (s47))), .int (nI (trn σ (s47)))]) := hd4.1
                  refine hv_getN (C := RX2) (T := TX2) (N := 5) hx hb hts hiX2 hown hKs hV hd4f 2 rfl (by decide) kn226 (fun _ h9 => h9) rfl dX3_mends_94 ?_
                  have hkd := sKd_le hO (i := s47) (by omega)
                  refine hv_calli (va_runV (As := [.int (nI (sKd σ (s47)))]) (rest := [.int (nI (4 - (nsm (el σ (y0qn) (s47)) 4)))]) ⟨hx, hb, hml, hown, hts⟩ (c_X3_freeSlicesOf l D N0 ad ct hG hO (sKd σ (s47)) (by omega)) (cwV 1 hts gX3_mends_X3_freeSlicesOf rfl rfl rfl (by decide +kernel) ⟨Nat.le_of_ble_eq_true rfl, Nat.le_of_ble_eq_true rfl⟩) (hv_preV (r := (RX3, TX3, 8)) hKs hV hS hG.1 rfl) rfl rfl hl.1 rfl (lv_room (Nat.le_of_ble_eq_true rfl)) dX3_mends_97 ⟨(Nat.le_of_ble_eq_true rfl), (Nat.le_of_ble_eq_true rfl)⟩) hS (fun r9 u9 H locs hq hV hS => ?_)
                  obtain ⟨rfl, rfl⟩ := hq
                  have hV : hv D N0 ad ct H := hV
                  have hf5 : nsm (fr σ (sKd σ (s47))) (gNS σ) ≤ 60 := nsm_fr hO
                  refine hN_icmp_gt (tgt := 106) hx hb (by omega) (by omega) dX3_mends_100 (by decide) (fun c100 => ?_) (fun c100 => ?_)
                  · refine lv_iinc (v := nI (i + 1)) (lv' := [(3, .int (nI (i + 1))), (6, .int (nI (1))), (5, .int (nI (4 - (nsm (el σ (y0qn) (s47)) 4)))), (4, .ref (ad (16 * (s47) + 6))), (0, .ref (ad (0))), (1, .int (nI (y0qn))), (2, .int (mval mm))]) hx hb dX3_mends_106 hl (k := 6) rfl (nI_add (i) 1) (by decide) rfl (fun ls hl => ?_)
                    refine lv_goto (tgt := 33) hx hb dX3_mends_109 (by decide) ?_
                    exact ih33 (i + 1) (mm) (by omega) (by omega) _ _ (by rw [mnd_2 hq47 (by rw [← hm]; omega), hm]) hV hS ls (lv_sub hl [4, 5, 6, 0] rfl)
                  · refine lv_iload hx hb dX3_mends_103 (lv_at hl 1 rfl) ?_
                    refine hv_eqi (y := mval (4 - (nsm (el σ (y0qn) (s47)) 4))) (mval_of (by omega)).symm ?_
                    refine lv_istore_n (lv' := [(2, .int (mval (4 - (nsm (el σ (y0qn) (s47)) 4)))), (6, .int (nI (1))), (5, .int (nI (4 - (nsm (el σ (y0qn) (s47)) 4)))), (4, .ref (ad (16 * (s47) + 6))), (0, .ref (ad (0))), (1, .int (nI (y0qn))), (3, .int (nI (i)))]) hx hb dX3_mends_105 rfl hl (by decide) rfl (fun ls hl => ?_)
                    refine lv_iinc (v := nI (i + 1)) (lv' := [(3, .int (nI (i + 1))), (2, .int (mval (4 - (nsm (el σ (y0qn) (s47)) 4)))), (6, .int (nI (1))), (5, .int (nI (4 - (nsm (el σ (y0qn) (s47)) 4)))), (4, .ref (ad (16 * (s47) + 6))), (0, .ref (ad (0))), (1, .int (nI (y0qn)))]) hx hb dX3_mends_106 hl (k := 6) rfl (nI_add (i) 1) (by decide) rfl (fun ls hl => ?_)
                    refine lv_goto (tgt := 33) hx hb dX3_mends_109 (by decide) ?_
                    exact ih33 (i + 1) (4 - (nsm (el σ (y0qn) (s47)) 4)) (by omega) (by omega) _ _ (by rw [mnd_1 hq47 (by rw [← hm]; omega)]) hV hS ls (lv_sub hl [5, 6, 1, 0] rfl)
      exact L33 (4 + 1) (0) (5) (by omega) (by omega) _ _ (by unfold mnd; rw [c22]; rfl) hV hS ls (lv_sub hl [2, 3, 1, 0] rfl)
    · refine lv_iconst (v := nI 4) hx hb dX3_mends_25 (by decide) ?_
      refine lv_goto (tgt := 30) hx hb dX3_mends_26 (by decide) ?_
      refine hv_eqi (y := mval 4) rfl ?_
      refine lv_istore_n (lv' := [(2, .int (mval 4)), (0, .ref (ad (0))), (1, .int (nI (y0qn)))]) hx hb dX3_mends_30 rfl hl (by decide) rfl (fun ls hl => ?_)
      refine lv_iconst (v := nI 0) hx hb dX3_mends_31 (by decide) ?_
      refine lv_istore_n (lv' := [(3, .int (nI (0))), (2, .int (mval 4)), (0, .ref (ad (0))), (1, .int (nI (y0qn)))]) hx hb dX3_mends_32 rfl hl (by decide) rfl (fun ls hl => ?_)
      have L33 : ∀ (n i : Nat) (mm : Nat), i ≤ 4 → 4 < i + n → ∀ (H : Heap) (locs : List Loc), (mm = mnd σ y0qn i) → hv D N0 ad ct H → va_S (hA N0) s.heap H locs → ∀ ls : Array Slot, lv_has ls 7 [(0, .ref (ad (0))), (1, .int (nI (y0qn))), (2, .int (mval mm)), (3, .int (nI (i)))] → W p l e (headSpec wsX3_mends ({ frames := 6, cells := 1, slots := 6, locals := 115 })).room s m args below meth c H locs 0 0 Qz (F0 m 33 ls []) := by
        intro n
        induction n with
        | zero => intro i mm h1 h2; exact absurd h2 (by omega)
        | succ n ih33 =>
          intro i mm hi33 hn33 H locs hm hV hS ls hl
          refine lv_iload_n hx hb dX3_mends_33 rfl (lv_at hl 3 rfl) ?_
          refine lv_iconst (v := nI 4) hx hb dX3_mends_34 (by decide) ?_
          refine hN_icmp_ge (tgt := 112) hx hb (by omega) (by omega) dX3_mends_35 (by decide) (fun c35 => ?_) (fun c35 => ?_)
          · refine lv_iload_n hx hb dX3_mends_112 rfl (lv_at hl 2 rfl) ?_
            refine W.widen (k := 1) (n := 6) (by omega) (by omega) ?_
            rw [hQz]
            refine vx_ret ?_
            exact hv_iret (v := (mval mm)) (u := (ad, ct)) hx hb hr ⟨by simp [k_mends, c5], by rw [e_y0q, hm, show i = 4 by omega]; rfl, rfl⟩ hV hS dX3_mends_113 hlocks
          · refine lv_aload_n hx hb dX3_mends_38 rfl (lv_at hl 0 rfl) ?_
            refine hv_get (C := RX3) (T := TX3) (N := 8) hx hb hts hiX3 hown hKs hV hG.1 2 rfl (by decide) lk21 (fun _ h9 => h9) rfl dX3_mends_39 ?_
            refine lv_iconst (v := nI 4) hx hb dX3_mends_42 (by decide) ?_
            refine lv_iload_n hx hb dX3_mends_43 rfl (lv_at hl 1 rfl) ?_
            refine hN_imul hx hb dX3_mends_44 ?_
            refine lv_iload_n hx hb dX3_mends_45 rfl (lv_at hl 3 rfl) ?_
            refine hN_iadd hx hb dX3_mends_46 ?_
            refine hv_aald hx hb hKs hV 2 hG.2.2.2.1 rfl (by omega) (by decide) dX3_mends_47 ?_
            rcases hq47 : gEy σ ((4) * (y0qn) + i) with _ | ⟨s47, t47⟩
            · refine hv_eq (w := .null) rfl ?_
              refine lv_astoreN (lv' := [(4, .null), (0, .ref (ad (0))), (1, .int (nI (y0qn))), (2, .int (mval mm)), (3, .int (nI (i)))]) hx hb dX3_mends_48 hl (by decide) rfl (fun ls hl => ?_)
              refine lv_aloadN hx hb dX3_mends_50 (lv_at hl 0 rfl) ?_
              refine lv_ifnullN (tgt := 106) hx hb dX3_mends_52 (by decide) ?_
              refine lv_iinc (v := nI (i + 1)) (lv' := [(3, .int (nI (i + 1))), (4, .null), (0, .ref (ad (0))), (1, .int (nI (y0qn))), (2, .int (mval mm))]) hx hb dX3_mends_106 hl (k := 4) rfl (nI_add (i) 1) (by decide) rfl (fun ls hl => ?_)
              refine lv_goto (tgt := 33) hx hb dX3_mends_109 (by decide) ?_
              exact ih33 (i + 1) (mm) (by omega) (by omega) _ _ (by rw [hm, mnd_0 hq47]) hV hS ls (lv_sub hl [2, 3, 4, 0] rfl)
            · obtain ⟨he47, hs47, ht47, hy47⟩ := hO.2.2.2.2.2.1 _ _ _ hq47
              refine hv_eq (w := .ref (ad (16 * (s47) + 6))) rfl ?_
              refine lv_astore (lv' := [(4, .ref (ad (16 * (s47) + 6))), (0, .ref (ad (0))), (1, .int (nI (y0qn))), (2, .int (mval mm)), (3, .int (nI (i)))]) hx hb dX3_mends_48 hl (by decide) rfl (fun ls hl => ?_)
              refine lv_aload hx hb dX3_mends_50 (lv_at hl 0 rfl) ?_
              refine lv_ifnull hx hb dX3_mends_52 ?_
              refine lv_iconst (v := nI 4) hx hb dX3_mends_55 (by decide) ?_
              refine lv_aload_n hx hb dX3_mends_56 rfl (lv_at hl 1 rfl) ?_
              refine lv_iload_n hx hb dX3_mends_57 rfl (lv_at hl 2 rfl) ?_
              refine lv_aload hx hb dX3_mends_58 (lv_at hl 0 rfl) ?_
              refine hv_calli (va_runV (As := [.int (nI (y0qn)), .ref (ad (16 * (s47) + 6))]) (rest := [.int (nI (4))]) ⟨hx, hb, hml, hown, hts⟩ (c_X3_eyesLike l D N0 ad ct hG hO (y0qn) (by omega) (s47) (by omega)) (cwV 2 hts gX3_mends_X3_eyesLike rfl rfl rfl (by decide +kernel) ⟨Nat.le_of_ble_eq_true rfl, Nat.le_of_ble_eq_true rfl⟩) (hv_preV (r := (RX3, TX3, 8)) hKs hV hS hG.1 rfl) rfl rfl hl.1 rfl (lv_room (Nat.le_of_ble_eq_true rfl)) dX3_mends_60 ⟨(Nat.le_of_ble_eq_true rfl), (Nat.le_of_ble_eq_true rfl)⟩) hS (fun r9 u9 H locs hq hV hS => ?_)
              obtain ⟨rfl, rfl⟩ := hq
              have hV : hv D N0 ad ct H := hV
              have hf6 : nsm (el σ (y0qn) (s47)) 4 ≤ 4 := nsm_le (f := el σ (y0qn) (s47)) (c := 1) (n := 4) (fun _ _ => el_le)
              refine hN_isub hx hb (by omega) dX3_mends_63 ?_
              refine lv_istore (lv' := [(5, .int (nI (4 - (nsm (el σ (y0qn) (s47)) 4)))), (4, .ref (ad (16 * (s47) + 6))), (0, .ref (ad (0))), (1, .int (nI (y0qn))), (2, .int (mval mm)), (3, .int (nI (i)))]) hx hb dX3_mends_64 hl (by decide) rfl (fun ls hl => ?_)
              have hmv := mval_int (m := mm) (by rw [hm]; exact mnd_le)
              refine lv_iload_n hx hb dX3_mends_66 rfl (lv_at hl 4 rfl) ?_
              refine lv_iconst (v := (-1)) hx hb dX3_mends_67 (by decide) ?_
              refine hI_icmp_eq (tgt := 77) hx hb dX3_mends_68 (by decide) (fun c68 => ?_) (fun c68 => ?_)
              · refine lv_iconst (v := nI 1) hx hb dX3_mends_77 (by decide) ?_
                refine lv_goto (tgt := 82) hx hb dX3_mends_78 (by decide) ?_
                refine lv_istore (lv' := [(6, .int (nI (1))), (5, .int (nI (4 - (nsm (el σ (y0qn) (s47)) 4)))), (4, .ref (ad (16 * (s47) + 6))), (0, .ref (ad (0))), (1, .int (nI (y0qn))), (2, .int (mval mm)), (3, .int (nI (i)))]) hx hb dX3_mends_82 hl (by decide) rfl (fun ls hl => ?_)
                refine lv_iload hx hb dX3_mends_84 (lv_at hl 0 rfl) ?_
                refine hN_if_eq (tgt := 106) hx hb (by omega) dX3_mends_86 (by decide) (fun c86 => by exact absurd c86 (by omega)) (fun c86 => ?_)
                refine lv_iload hx hb dX3_mends_89 (lv_at hl 1 rfl) ?_
                refine lv_aload_n hx hb dX3_mends_91 rfl (lv_at hl 3 rfl) ?_
                refine lv_aload hx hb dX3_mends_92 (lv_at hl 2 rfl) ?_
                have hd7 := hG.2.2.2.2.2 (s47) (by omega)
                have hd7f : ct (16 * (s47) + 6) = some (eO 2 [.int (nI (s47)), .ref (ad (16 * (s47) + 7)), .int (nI (sKd σ (s47))), .int (eyv (sEy σ (s47))), .int (nI (trn σ (s47)))]) := hd7.1
                refine hv_getN (C := RX2) (T := TX2) (N := 5) hx hb hts hiX2 hown hKs hV hd7f 2 rfl (by decide) kn226 (fun _ h9 => h9) rfl dX3_mends_94 ?_
                have hkd := sKd_le hO (i := s47) (by omega)
                refine hv_calli (va_runV (As := [.int (nI (sKd σ (s47)))]) (rest := [.int (nI (4 - (nsm (el σ (y0qn) (s47)) 4)))]) ⟨hx, hb, hml, hown, hts⟩ (c_X3_freeSlicesOf l D N0 ad ct hG hO (sKd σ (s47)) (by omega)) (cwV 1 hts gX3_mends_X3_freeSlicesOf rfl rfl rfl (by decide +kernel) ⟨Nat.le_of_ble_eq_true rfl, Nat.le_of_ble_eq_true rfl⟩) (hv_preV (r := (RX3, TX3, 8)) hKs hV hS hG.1 rfl) rfl rfl hl.1 rfl (lv_room (Nat.le_of_ble_eq_true rfl)) dX3_mends_97 ⟨(Nat.le_of_ble_eq_true rfl), (Nat.le_of_ble_eq_true rfl)⟩) hS (fun r9 u9 H locs hq hV hS => ?_)
                obtain ⟨rfl, rfl⟩ := hq
                have hV : hv D N0 ad ct H := hV
                have hf8 : nsm (fr σ (sKd σ (s47))) (gNS σ) ≤ 60 := nsm_fr hO
                refine hN_icmp_gt (tgt := 106) hx hb (by omega) (by omega) dX3_mends_100 (by decide) (fun c100 => ?_) (fun c100 => ?_)
                · refine lv_iinc (v := nI (i + 1)) (lv' := [(3, .int (nI (i + 1))), (6, .int (nI (1))), (5, .int (nI (4 - (nsm (el σ (y0qn) (s47)) 4)))), (4, .ref (ad (16 * (s47) + 6))), (0, .ref (ad (0))), (1, .int (nI (y0qn))), (2, .int (mval mm))]) hx hb dX3_mends_106 hl (k := 6) rfl (nI_add (i) 1) (by decide) rfl (fun ls hl => ?_)
                  refine lv_goto (tgt := 33) hx hb dX3_mends_109 (by decide) ?_
                  exact ih33 (i + 1) (mm) (by omega) (by omega) _ _ (by rw [mnd_2 hq47 (by rw [← hm]; omega), hm]) hV hS ls (lv_sub hl [4, 5, 6, 0] rfl)
                · refine lv_iload hx hb dX3_mends_103 (lv_at hl 1 rfl) ?_
                  refine hv_eqi (y := mval (4 - (nsm (el σ (y0qn) (s47)) 4))) (mval_of (by omega)).symm ?_
                  refine lv_istore_n (lv' := [(2, .int (mval (4 - (nsm (el σ (y0qn) (s47)) 4)))), (6, .int (nI (1))), (5, .int (nI (4 - (nsm (el σ (y0qn) (s47)) 4)))), (4, .ref (ad (16 * (s47) + 6))), (0, .ref (ad (0))), (1, .int (nI (y0qn))), (3, .int (nI (i)))]) hx hb dX3_mends_105 rfl hl (by decide) rfl (fun ls hl => ?_)
                  refine lv_iinc (v := nI (i + 1)) (lv' := [(3, .int (nI (i + 1))), (2, .int (mval (4 - (nsm (el σ (y0qn) (s47)) 4)))), (6, .int (nI (1))), (5, .int (nI (4 - (nsm (el σ (y0qn) (s47)) 4)))), (4, .ref (ad (16 * (s47) + 6))), (0, .ref (ad (0))), (1, .int (nI (y0qn)))]) hx hb dX3_mends_106 hl (k := 6) rfl (nI_add (i) 1) (by decide) rfl (fun ls hl => ?_)
                  refine lv_goto (tgt := 33) hx hb dX3_mends_109 (by decide) ?_
                  exact ih33 (i + 1) (4 - (nsm (el σ (y0qn) (s47)) 4)) (by omega) (by omega) _ _ (by rw [mnd_1 hq47 (by rw [← hm]; omega)]) hV hS ls (lv_sub hl [5, 6, 1, 0] rfl)
              · refine lv_iload hx hb dX3_mends_71 (lv_at hl 0 rfl) ?_
                refine lv_iload_n hx hb dX3_mends_73 rfl (lv_at hl 4 rfl) ?_
                refine hL_icmp_ge (tgt := 81) hx hb (by omega) dX3_mends_74 (by decide) (fun c74 => ?_) (fun c74 => ?_)
                · refine lv_iconst (v := nI 0) hx hb dX3_mends_81 (by decide) ?_
                  refine lv_istore (lv' := [(6, .int (nI (0))), (5, .int (nI (4 - (nsm (el σ (y0qn) (s47)) 4)))), (4, .ref (ad (16 * (s47) + 6))), (0, .ref (ad (0))), (1, .int (nI (y0qn))), (2, .int (mval mm)), (3, .int (nI (i)))]) hx hb dX3_mends_82 hl (by decide) rfl (fun ls hl => ?_)
                  refine lv_iload hx hb dX3_mends_84 (lv_at hl 0 rfl) ?_
                  refine hN_if_eq (tgt := 106) hx hb (by omega) dX3_mends_86 (by decide) (fun c86 => ?_) (fun c86 => by exact absurd c86 (by omega))
                  refine lv_iinc (v := nI (i + 1)) (lv' := [(3, .int (nI (i + 1))), (6, .int (nI (0))), (5, .int (nI (4 - (nsm (el σ (y0qn) (s47)) 4)))), (4, .ref (ad (16 * (s47) + 6))), (0, .ref (ad (0))), (1, .int (nI (y0qn))), (2, .int (mval mm))]) hx hb dX3_mends_106 hl (k := 6) rfl (nI_add (i) 1) (by decide) rfl (fun ls hl => ?_)
                  refine lv_goto (tgt := 33) hx hb dX3_mends_109 (by decide) ?_
                  exact ih33 (i + 1) (mm) (by omega) (by omega) _ _ (by rw [mnd_2 hq47 (by rw [← hm]; omega), hm]) hV hS ls (lv_sub hl [4, 5, 6, 0] rfl)
                · refine lv_iconst (v := nI 1) hx hb dX3_mends_77 (by decide) ?_
                  refine lv_goto (tgt := 82) hx hb dX3_mends_78 (by decide) ?_
                  refine lv_istore (lv' := [(6, .int (nI (1))), (5, .int (nI (4 - (nsm (el σ (y0qn) (s47)) 4)))), (4, .ref (ad (16 * (s47) + 6))), (0, .ref (ad (0))), (1, .int (nI (y0qn))), (2, .int (mval mm)), (3, .int (nI (i)))]) hx hb dX3_mends_82 hl (by decide) rfl (fun ls hl => ?_)
                  refine lv_iload hx hb dX3_mends_84 (lv_at hl 0 rfl) ?_
                  refine hN_if_eq (tgt := 106) hx hb (by omega) dX3_mends_86 (by decide) (fun c86 => by exact absurd c86 (by omega)) (fun c86 => ?_)
                  refine lv_iload hx hb dX3_mends_89 (lv_at hl 1 rfl) ?_
                  refine lv_aload_n hx hb dX3_mends_91 rfl (lv_at hl 3 rfl) ?_
                  refine lv_aload hx hb dX3_mends_92 (lv_at hl 2 rfl) ?_
                  have hd9 := hG.2.2.2.2.2 (s47) (by omega)
                  have hd9f : ct (16 * (s47) + 6) = some (eO 2 [.int (nI (s47)), .ref (ad (16 * (s47) + 7)), .int (nI (sKd σ (s47))), .int (eyv (sEy σ (s47))), .int (nI (trn σ (s47)))]) := hd9.1
                  refine hv_getN (C := RX2) (T := TX2) (N := 5) hx hb hts hiX2 hown hKs hV hd9f 2 rfl (by decide) kn226 (fun _ h9 => h9) rfl dX3_mends_94 ?_
                  have hkd := sKd_le hO (i := s47) (by omega)
                  refine hv_calli (va_runV (As := [.int (nI (sKd σ (s47)))]) (rest := [.int (nI (4 - (nsm (el σ (y0qn) (s47)) 4)))]) ⟨hx, hb, hml, hown, hts⟩ (c_X3_freeSlicesOf l D N0 ad ct hG hO (sKd σ (s47)) (by omega)) (cwV 1 hts gX3_mends_X3_freeSlicesOf rfl rfl rfl (by decide +kernel) ⟨Nat.le_of_ble_eq_true rfl, Nat.le_of_ble_eq_true rfl⟩) (hv_preV (r := (RX3, TX3, 8)) hKs hV hS hG.1 rfl) rfl rfl hl.1 rfl (lv_room (Nat.le_of_ble_eq_true rfl)) dX3_mends_97 ⟨(Nat.le_of_ble_eq_true rfl), (Nat.le_of_ble_eq_true rfl)⟩) hS (fun r9 u9 H locs hq hV hS => ?_)
                  obtain ⟨rfl, rfl⟩ := hq
                  have hV : hv D N0 ad ct H := hV
                  have hf10 : nsm (fr σ (sKd σ (s47))) (gNS σ) ≤ 60 := nsm_fr hO
                  refine hN_icmp_gt (tgt := 106) hx hb (by omega) (by omega) dX3_mends_100 (by decide) (fun c100 => ?_) (fun c100 => ?_)
                  · refine lv_iinc (v := nI (i + 1)) (lv' := [(3, .int (nI (i + 1))), (6, .int (nI (1))), (5, .int (nI (4 - (nsm (el σ (y0qn) (s47)) 4)))), (4, .ref (ad (16 * (s47) + 6))), (0, .ref (ad (0))), (1, .int (nI (y0qn))), (2, .int (mval mm))]) hx hb dX3_mends_106 hl (k := 6) rfl (nI_add (i) 1) (by decide) rfl (fun ls hl => ?_)
                    refine lv_goto (tgt := 33) hx hb dX3_mends_109 (by decide) ?_
                    exact ih33 (i + 1) (mm) (by omega) (by omega) _ _ (by rw [mnd_2 hq47 (by rw [← hm]; omega), hm]) hV hS ls (lv_sub hl [4, 5, 6, 0] rfl)
                  · refine lv_iload hx hb dX3_mends_103 (lv_at hl 1 rfl) ?_
                    refine hv_eqi (y := mval (4 - (nsm (el σ (y0qn) (s47)) 4))) (mval_of (by omega)).symm ?_
                    refine lv_istore_n (lv' := [(2, .int (mval (4 - (nsm (el σ (y0qn) (s47)) 4)))), (6, .int (nI (1))), (5, .int (nI (4 - (nsm (el σ (y0qn) (s47)) 4)))), (4, .ref (ad (16 * (s47) + 6))), (0, .ref (ad (0))), (1, .int (nI (y0qn))), (3, .int (nI (i)))]) hx hb dX3_mends_105 rfl hl (by decide) rfl (fun ls hl => ?_)
                    refine lv_iinc (v := nI (i + 1)) (lv' := [(3, .int (nI (i + 1))), (2, .int (mval (4 - (nsm (el σ (y0qn) (s47)) 4)))), (6, .int (nI (1))), (5, .int (nI (4 - (nsm (el σ (y0qn) (s47)) 4)))), (4, .ref (ad (16 * (s47) + 6))), (0, .ref (ad (0))), (1, .int (nI (y0qn)))]) hx hb dX3_mends_106 hl (k := 6) rfl (nI_add (i) 1) (by decide) rfl (fun ls hl => ?_)
                    refine lv_goto (tgt := 33) hx hb dX3_mends_109 (by decide) ?_
                    exact ih33 (i + 1) (4 - (nsm (el σ (y0qn) (s47)) 4)) (by omega) (by omega) _ _ (by rw [mnd_1 hq47 (by rw [← hm]; omega)]) hV hS ls (lv_sub hl [5, 6, 1, 0] rfl)
      exact L33 (4 + 1) (0) (4) (by omega) (by omega) _ _ (by unfold mnd; rw [c22]; rfl) hV hS ls (lv_sub hl [2, 3, 1, 0] rfl)
  · rw [hQz]
    exact hv_throw (text := "no such bead") hx hb hfl hown hKs hV hS (by decide +kernel) kx1 ky1 (by decide +kernel) ka1 xg1 (hl.1.trans hml.symm) dX3_mends_8 dX3_mends_11 dX3_mends_12 dX3_mends_14 dX3_mends_17 hnx (Nat.le_of_ble_eq_true rfl) (Nat.le_of_ble_eq_true rfl) (Nat.le_of_ble_eq_true rfl) (Nat.le_of_ble_eq_true rfl) hlocks (by simp [k_mends, c5]) (j := 1) (by decide) rfl (Nat.le_of_ble_eq_true rfl) (Nat.le_of_ble_eq_true rfl)
