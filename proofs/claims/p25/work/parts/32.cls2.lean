set_option maxHeartbeats 4000000 in
set_option maxRecDepth 100000 in
theorem c_X3_heatOfAll (l : Launch) (D : hG) (N0 : Nat) (ad : Nat → Nat) (ct : hC) {σ : gS} (hG : gX D σ ad ct) (hO : okS σ) : Met l yX3_heatOfAll wsX3_heatOfAll ({ frames := 0, cells := 0, slots := 0, locals := 0 }) (hPc D N0 ad ct [.ref (ad (0))]) (va_Qi (fun (z : Int32) (u : hU) => z = nI (nsm (cHt σ) (gNC σ)) ∧ u = (ad, ct)) (hB D N0) (hA N0)) 0 0 (hA N0) := by
  refine Met.ofW (cc := cX3_heatOfAll) (maxL := 6) (ret := (some .int)) (by decide) rfl ?_
  intro p e s m args below meth c s₁ B hml hv0
  obtain ⟨hargs, hKs, hV⟩ := hv0
  have hx := B.exec
  have hb := B.bytes
  have hr := B.returns
  have hts := atoms_spec (ws := wsX3_heatOfAll) B.pre
  have hown : s.vm.findClass RX3 = some m.cls := findClass_of_methodNamed B.named
  have hlocks := B.notSynchronized
  have hS : va_S (hA N0) s.heap s.heap [] := va_S.rf
  have hiX0 : ∀ w ∈ u_ws RX0 TX0 5, w ∈ wsX3_heatOfAll := by decide +kernel
  have hiX3 : ∀ w ∈ u_ws RX3 TX3 8, w ∈ wsX3_heatOfAll := by decide +kernel
  have lk11 := hts (.fieldLink RX3 11 "CaneSlices" "canes" "[LCaneSlices$Cane;") (by decide +kernel)
  have kn106 := hKs.2.1 (106, "CaneSlices$Cane", "heat", "I") (by decide +kernel)
  have hl := lv_entry ([.ref (ad (0))]) (n := 6) (Nat.le_of_ble_eq_true rfl)
  have hE : entryFrame m args 6 = entryFrame m ([.ref (ad (0))] : List Value).toArray 6 := by rw [hargs]
  rw [hE, lg_entry_eq]
  generalize (lg_sl ([.ref (ad (0))]) ++ List.replicate (6 - (lg_sl ([.ref (ad (0))])).length) Slot.unset).toArray = ls at hl ⊢
  have hl : lv_has ls 6 [(0, .ref (ad (0)))] := hl
  obtain ⟨hn8, hn60, hn6, -⟩ := id hO
  refine lv_iconst (v := nI 0) hx hb dX3_heatOfAll_0 (by decide) ?_
  refine lv_istore_n (lv' := [(1, .int (nI (0))), (0, .ref (ad (0)))]) hx hb dX3_heatOfAll_1 rfl hl (by decide) rfl (fun ls hl => ?_)
  refine lv_aload_n hx hb dX3_heatOfAll_2 rfl (lv_at hl 1 rfl) ?_
  refine hv_get (C := RX3) (T := TX3) (N := 8) hx hb hts hiX3 hown hKs hV hG.1 0 rfl (by decide) lk11 (fun _ h9 => h9) rfl dX3_heatOfAll_3 ?_
  refine lv_astore_n (lv' := [(2, .ref (ad (16))), (1, .int (nI (0))), (0, .ref (ad (0)))]) hx hb dX3_heatOfAll_6 rfl hl (by decide) rfl (fun ls hl => ?_)
  refine lv_aload_n hx hb dX3_heatOfAll_7 rfl (lv_at hl 0 rfl) ?_
  refine hv_alen hx hb hKs hV 1 hG.2.1 rfl dX3_heatOfAll_8 ?_
  refine lv_istore_n (lv' := [(3, .int (nI (8))), (2, .ref (ad (16))), (1, .int (nI (0))), (0, .ref (ad (0)))]) hx hb dX3_heatOfAll_9 rfl hl (by decide) rfl (fun ls hl => ?_)
  refine lv_iconst (v := nI 0) hx hb dX3_heatOfAll_10 (by decide) ?_
  refine lv_istore (lv' := [(4, .int (nI (0))), (3, .int (nI (8))), (2, .ref (ad (16))), (1, .int (nI (0))), (0, .ref (ad (0)))]) hx hb dX3_heatOfAll_11 hl (by decide) rfl (fun ls hl => ?_)
  have L13 : ∀ (n i : Nat) (a9 : Nat), i ≤ 8 → 8 < i + n → ∀ (H : Heap) (locs : List Loc), (a9 = nsm (cHt σ) (min i (gNC σ))) → hv D N0 ad ct H → va_S (hA N0) s.heap H locs → ∀ ls : Array Slot, lv_has ls 6 [(0, .ref (ad (0))), (1, .int (nI (a9))), (2, .ref (ad (16))), (3, .int (nI (8))), (4, .int (nI (i)))] → W p l e (headSpec wsX3_heatOfAll ({ frames := 0, cells := 0, slots := 0, locals := 0 })).room s m args below meth c H locs 0 0 (MQ below (va_Qi (fun (z : Int32) (u : hU) => z = nI (nsm (cHt σ) (gNC σ)) ∧ u = (ad, ct)) (hB D N0) (hA N0)) args s 0 0 (hA N0)) (F0 m 13 ls []) := by
    intro n
    induction n with
    | zero => intro i a9 h1 h2; exact absurd h2 (by omega)
    | succ n ih13 =>
      intro i a9 hi13 hn13 H locs ga hV hS ls hl
      refine lv_iload hx hb dX3_heatOfAll_13 (lv_at hl 4 rfl) ?_
      refine lv_iload_n hx hb dX3_heatOfAll_15 rfl (lv_at hl 3 rfl) ?_
      refine hN_icmp_ge (tgt := 44) hx hb (by omega) (by omega) dX3_heatOfAll_16 (by decide) (fun c16 => ?_) (fun c16 => ?_)
      · refine lv_iload_n hx hb dX3_heatOfAll_44 rfl (lv_at hl 1 rfl) ?_
        exact hv_iret (v := nI (a9)) (u := (ad, ct)) hx hb hr ⟨by rw [ga, Nat.min_eq_right (by omega)], rfl⟩ hV hS dX3_heatOfAll_45 hlocks
      · refine lv_aload_n hx hb dX3_heatOfAll_19 rfl (lv_at hl 2 rfl) ?_
        refine lv_iload hx hb dX3_heatOfAll_20 (lv_at hl 4 rfl) ?_
        refine hv_aald hx hb hKs hV 1 hG.2.1 rfl (by omega) (by decide) dX3_heatOfAll_22 ?_
        refine hv_ifQ (fun cq22 => ?_) (fun cq22 => ?_)
        · refine lv_astore (lv' := [(5, .ref (ad (16 * (i) + 3))), (0, .ref (ad (0))), (1, .int (nI (a9))), (2, .ref (ad (16))), (3, .int (nI (8))), (4, .int (nI (i)))]) hx hb dX3_heatOfAll_23 hl (by decide) rfl (fun ls hl => ?_)
          refine lv_aload hx hb dX3_heatOfAll_25 (lv_at hl 0 rfl) ?_
          refine lv_ifnull hx hb dX3_heatOfAll_27 ?_
          refine lv_iload_n hx hb dX3_heatOfAll_30 rfl (lv_at hl 2 rfl) ?_
          refine lv_aload hx hb dX3_heatOfAll_31 (lv_at hl 0 rfl) ?_
          have hc1 := hG.2.2.2.2.1 (i) (by omega)
          have hc1b : cLen σ (i) ≤ 60 ∧ cHt σ (i) ≤ 10 := ⟨(hO.2.2.2.1 (i) (by omega)).1, (hO.2.2.2.1 (i) (by omega)).2.1⟩
          have hc1f : ct (16 * (i) + 3) = some (eO 0 [.ref (ad (16 * (i) + 4)), .int (nI (cLen σ (i))), .int (cTw σ (i)), .int (nI (cHt σ (i))), .int (hbv (cCr σ (i)))]) := hc1.1
          refine hv_getN (C := RX0) (T := TX0) (N := 5) hx hb hts hiX0 hown hKs hV hc1f 3 rfl (by decide) kn106 (fun _ h9 => h9) rfl dX3_heatOfAll_33 ?_
          refine hN_iadd hx hb dX3_heatOfAll_36 ?_
          refine lv_istore_n (lv' := [(1, .int (nI (a9 + cHt σ (i)))), (5, .ref (ad (16 * (i) + 3))), (0, .ref (ad (0))), (2, .ref (ad (16))), (3, .int (nI (8))), (4, .int (nI (i)))]) hx hb dX3_heatOfAll_37 rfl hl (by decide) rfl (fun ls hl => ?_)
          refine lv_iinc (v := nI (i + 1)) (lv' := [(4, .int (nI (i + 1))), (1, .int (nI (a9 + cHt σ (i)))), (5, .ref (ad (16 * (i) + 3))), (0, .ref (ad (0))), (2, .ref (ad (16))), (3, .int (nI (8)))]) hx hb dX3_heatOfAll_38 hl (k := 5) rfl (nI_add (i) 1) (by decide) rfl (fun ls hl => ?_)
          refine lv_goto (tgt := 13) hx hb dX3_heatOfAll_41 (by decide) ?_
          exact ih13 (i + 1) (a9 + cHt σ (i)) (by omega) (by omega) _ _ (by rw [nsm_in cq22, ga]) hV hS ls (lv_sub hl [3, 1, 4, 5, 0] rfl)
        · refine lv_astoreN (lv' := [(5, .null), (0, .ref (ad (0))), (1, .int (nI (a9))), (2, .ref (ad (16))), (3, .int (nI (8))), (4, .int (nI (i)))]) hx hb dX3_heatOfAll_23 hl (by decide) rfl (fun ls hl => ?_)
          refine lv_aloadN hx hb dX3_heatOfAll_25 (lv_at hl 0 rfl) ?_
          refine lv_ifnullN (tgt := 38) hx hb dX3_heatOfAll_27 (by decide) ?_
          refine lv_iinc (v := nI (i + 1)) (lv' := [(4, .int (nI (i + 1))), (5, .null), (0, .ref (ad (0))), (1, .int (nI (a9))), (2, .ref (ad (16))), (3, .int (nI (8)))]) hx hb dX3_heatOfAll_38 hl (k := 5) rfl (nI_add (i) 1) (by decide) rfl (fun ls hl => ?_)
          refine lv_goto (tgt := 13) hx hb dX3_heatOfAll_41 (by decide) ?_
          exact ih13 (i + 1) (a9) (by omega) (by omega) _ _ (by rw [nsm_out (by omega), ga]) hV hS ls (lv_sub hl [2, 3, 4, 5, 0] rfl)
  exact L13 (8 + 1) (0) (0) (by omega) (by omega) _ _ (show 0 = nsm _ (min 0 _) by rw [Nat.zero_min]; rfl) hV hS ls (lv_sub hl [4, 3, 2, 1, 0] rfl)

set_option maxHeartbeats 4000000 in
set_option maxRecDepth 100000 in
theorem c_X3_lengthOfAll (l : Launch) (D : hG) (N0 : Nat) (ad : Nat → Nat) (ct : hC) {σ : gS} (hG : gX D σ ad ct) (hO : okS σ) : Met l yX3_lengthOfAll wsX3_lengthOfAll ({ frames := 0, cells := 0, slots := 0, locals := 0 }) (hPc D N0 ad ct [.ref (ad (0))]) (va_Qi (fun (z : Int32) (u : hU) => z = nI (nsm (cLen σ) (gNC σ)) ∧ u = (ad, ct)) (hB D N0) (hA N0)) 0 0 (hA N0) := by
  refine Met.ofW (cc := cX3_lengthOfAll) (maxL := 6) (ret := (some .int)) (by decide) rfl ?_
  intro p e s m args below meth c s₁ B hml hv0
  obtain ⟨hargs, hKs, hV⟩ := hv0
  have hx := B.exec
  have hb := B.bytes
  have hr := B.returns
  have hts := atoms_spec (ws := wsX3_lengthOfAll) B.pre
  have hown : s.vm.findClass RX3 = some m.cls := findClass_of_methodNamed B.named
  have hlocks := B.notSynchronized
  have hS : va_S (hA N0) s.heap s.heap [] := va_S.rf
  have hiX0 : ∀ w ∈ u_ws RX0 TX0 5, w ∈ wsX3_lengthOfAll := by decide +kernel
  have hiX3 : ∀ w ∈ u_ws RX3 TX3 8, w ∈ wsX3_lengthOfAll := by decide +kernel
  have lk11 := hts (.fieldLink RX3 11 "CaneSlices" "canes" "[LCaneSlices$Cane;") (by decide +kernel)
  have kn103 := hKs.2.1 (103, "CaneSlices$Cane", "length", "I") (by decide +kernel)
  have hl := lv_entry ([.ref (ad (0))]) (n := 6) (Nat.le_of_ble_eq_true rfl)
  have hE : entryFrame m args 6 = entryFrame m ([.ref (ad (0))] : List Value).toArray 6 := by rw [hargs]
  rw [hE, lg_entry_eq]
  generalize (lg_sl ([.ref (ad (0))]) ++ List.replicate (6 - (lg_sl ([.ref (ad (0))])).length) Slot.unset).toArray = ls at hl ⊢
  have hl : lv_has ls 6 [(0, .ref (ad (0)))] := hl
  obtain ⟨hn8, hn60, hn6, -⟩ := id hO
  refine lv_iconst (v := nI 0) hx hb dX3_lengthOfAll_0 (by decide) ?_
  refine lv_istore_n (lv' := [(1, .int (nI (0))), (0, .ref (ad (0)))]) hx hb dX3_lengthOfAll_1 rfl hl (by decide) rfl (fun ls hl => ?_)
  refine lv_aload_n hx hb dX3_lengthOfAll_2 rfl (lv_at hl 1 rfl) ?_
  refine hv_get (C := RX3) (T := TX3) (N := 8) hx hb hts hiX3 hown hKs hV hG.1 0 rfl (by decide) lk11 (fun _ h9 => h9) rfl dX3_lengthOfAll_3 ?_
  refine lv_astore_n (lv' := [(2, .ref (ad (16))), (1, .int (nI (0))), (0, .ref (ad (0)))]) hx hb dX3_lengthOfAll_6 rfl hl (by decide) rfl (fun ls hl => ?_)
  refine lv_aload_n hx hb dX3_lengthOfAll_7 rfl (lv_at hl 0 rfl) ?_
  refine hv_alen hx hb hKs hV 1 hG.2.1 rfl dX3_lengthOfAll_8 ?_
  refine lv_istore_n (lv' := [(3, .int (nI (8))), (2, .ref (ad (16))), (1, .int (nI (0))), (0, .ref (ad (0)))]) hx hb dX3_lengthOfAll_9 rfl hl (by decide) rfl (fun ls hl => ?_)
  refine lv_iconst (v := nI 0) hx hb dX3_lengthOfAll_10 (by decide) ?_
  refine lv_istore (lv' := [(4, .int (nI (0))), (3, .int (nI (8))), (2, .ref (ad (16))), (1, .int (nI (0))), (0, .ref (ad (0)))]) hx hb dX3_lengthOfAll_11 hl (by decide) rfl (fun ls hl => ?_)
  have L13 : ∀ (n i : Nat) (a9 : Nat), i ≤ 8 → 8 < i + n → ∀ (H : Heap) (locs : List Loc), (a9 = nsm (cLen σ) (min i (gNC σ))) → hv D N0 ad ct H → va_S (hA N0) s.heap H locs → ∀ ls : Array Slot, lv_has ls 6 [(0, .ref (ad (0))), (1, .int (nI (a9))), (2, .ref (ad (16))), (3, .int (nI (8))), (4, .int (nI (i)))] → W p l e (headSpec wsX3_lengthOfAll ({ frames := 0, cells := 0, slots := 0, locals := 0 })).room s m args below meth c H locs 0 0 (MQ below (va_Qi (fun (z : Int32) (u : hU) => z = nI (nsm (cLen σ) (gNC σ)) ∧ u = (ad, ct)) (hB D N0) (hA N0)) args s 0 0 (hA N0)) (F0 m 13 ls []) := by
    intro n
    induction n with
    | zero => intro i a9 h1 h2; exact absurd h2 (by omega)
    | succ n ih13 =>
      intro i a9 hi13 hn13 H locs ga hV hS ls hl
      refine lv_iload hx hb dX3_lengthOfAll_13 (lv_at hl 4 rfl) ?_
      refine lv_iload_n hx hb dX3_lengthOfAll_15 rfl (lv_at hl 3 rfl) ?_
      refine hN_icmp_ge (tgt := 44) hx hb (by omega) (by omega) dX3_lengthOfAll_16 (by decide) (fun c16 => ?_) (fun c16 => ?_)
      · refine lv_iload_n hx hb dX3_lengthOfAll_44 rfl (lv_at hl 1 rfl) ?_
        exact hv_iret (v := nI (a9)) (u := (ad, ct)) hx hb hr ⟨by rw [ga, Nat.min_eq_right (by omega)], rfl⟩ hV hS dX3_lengthOfAll_45 hlocks
      · refine lv_aload_n hx hb dX3_lengthOfAll_19 rfl (lv_at hl 2 rfl) ?_
        refine lv_iload hx hb dX3_lengthOfAll_20 (lv_at hl 4 rfl) ?_
        refine hv_aald hx hb hKs hV 1 hG.2.1 rfl (by omega) (by decide) dX3_lengthOfAll_22 ?_
        refine hv_ifQ (fun cq22 => ?_) (fun cq22 => ?_)
        · refine lv_astore (lv' := [(5, .ref (ad (16 * (i) + 3))), (0, .ref (ad (0))), (1, .int (nI (a9))), (2, .ref (ad (16))), (3, .int (nI (8))), (4, .int (nI (i)))]) hx hb dX3_lengthOfAll_23 hl (by decide) rfl (fun ls hl => ?_)
          refine lv_aload hx hb dX3_lengthOfAll_25 (lv_at hl 0 rfl) ?_
          refine lv_ifnull hx hb dX3_lengthOfAll_27 ?_
          refine lv_iload_n hx hb dX3_lengthOfAll_30 rfl (lv_at hl 2 rfl) ?_
          refine lv_aload hx hb dX3_lengthOfAll_31 (lv_at hl 0 rfl) ?_
          have hc1 := hG.2.2.2.2.1 (i) (by omega)
          have hc1b : cLen σ (i) ≤ 60 ∧ cHt σ (i) ≤ 10 := ⟨(hO.2.2.2.1 (i) (by omega)).1, (hO.2.2.2.1 (i) (by omega)).2.1⟩
          have hc1f : ct (16 * (i) + 3) = some (eO 0 [.ref (ad (16 * (i) + 4)), .int (nI (cLen σ (i))), .int (cTw σ (i)), .int (nI (cHt σ (i))), .int (hbv (cCr σ (i)))]) := hc1.1
          refine hv_getN (C := RX0) (T := TX0) (N := 5) hx hb hts hiX0 hown hKs hV hc1f 1 rfl (by decide) kn103 (fun _ h9 => h9) rfl dX3_lengthOfAll_33 ?_
          refine hN_iadd hx hb dX3_lengthOfAll_36 ?_
          refine lv_istore_n (lv' := [(1, .int (nI (a9 + cLen σ (i)))), (5, .ref (ad (16 * (i) + 3))), (0, .ref (ad (0))), (2, .ref (ad (16))), (3, .int (nI (8))), (4, .int (nI (i)))]) hx hb dX3_lengthOfAll_37 rfl hl (by decide) rfl (fun ls hl => ?_)
          refine lv_iinc (v := nI (i + 1)) (lv' := [(4, .int (nI (i + 1))), (1, .int (nI (a9 + cLen σ (i)))), (5, .ref (ad (16 * (i) + 3))), (0, .ref (ad (0))), (2, .ref (ad (16))), (3, .int (nI (8)))]) hx hb dX3_lengthOfAll_38 hl (k := 5) rfl (nI_add (i) 1) (by decide) rfl (fun ls hl => ?_)
          refine lv_goto (tgt := 13) hx hb dX3_lengthOfAll_41 (by decide) ?_
          exact ih13 (i + 1) (a9 + cLen σ (i)) (by omega) (by omega) _ _ (by rw [nsm_in cq22, ga]) hV hS ls (lv_sub hl [3, 1, 4, 5, 0] rfl)
        · refine lv_astoreN (lv' := [(5, .null), (0, .ref (ad (0))), (1, .int (nI (a9))), (2, .ref (ad (16))), (3, .int (nI (8))), (4, .int (nI (i)))]) hx hb dX3_lengthOfAll_23 hl (by decide) rfl (fun ls hl => ?_)
          refine lv_aloadN hx hb dX3_lengthOfAll_25 (lv_at hl 0 rfl) ?_
          refine lv_ifnullN (tgt := 38) hx hb dX3_lengthOfAll_27 (by decide) ?_
          refine lv_iinc (v := nI (i + 1)) (lv' := [(4, .int (nI (i + 1))), (5, .null), (0, .ref (ad (0))), (1, .int (nI (a9))), (2, .ref (ad (16))), (3, .int (nI (8)))]) hx hb dX3_lengthOfAll_38 hl (k := 5) rfl (nI_add (i) 1) (by decide) rfl (fun ls hl => ?_)
          refine lv_goto (tgt := 13) hx hb dX3_lengthOfAll_41 (by decide) ?_
          exact ih13 (i + 1) (a9) (by omega) (by omega) _ _ (by rw [nsm_out (by omega), ga]) hV hS ls (lv_sub hl [2, 3, 4, 5, 0] rfl)
  exact L13 (8 + 1) (0) (0) (by omega) (by omega) _ _ (show 0 = nsm _ (min 0 _) by rw [Nat.zero_min]; rfl) hV hS ls (lv_sub hl [4, 3, 2, 1, 0] rfl)

set_option maxHeartbeats 4000000 in
set_option maxRecDepth 100000 in
theorem c_X3_wholeCanes (l : Launch) (D : hG) (N0 : Nat) (ad : Nat → Nat) (ct : hC) {σ : gS} (hG : gX D σ ad ct) (hO : okS σ) : Met l yX3_wholeCanes wsX3_wholeCanes ({ frames := 0, cells := 0, slots := 0, locals := 0 }) (hPc D N0 ad ct [.ref (ad (0))]) (va_Qi (fun (z : Int32) (u : hU) => z = nI (nsm (wh σ) (gNC σ)) ∧ u = (ad, ct)) (hB D N0) (hA N0)) 0 0 (hA N0) := by
  refine Met.ofW (cc := cX3_wholeCanes) (maxL := 6) (ret := (some .int)) (by decide) rfl ?_
  intro p e s m args below meth c s₁ B hml hv0
  obtain ⟨hargs, hKs, hV⟩ := hv0
  have hx := B.exec
  have hb := B.bytes
  have hr := B.returns
  have hts := atoms_spec (ws := wsX3_wholeCanes) B.pre
  have hown : s.vm.findClass RX3 = some m.cls := findClass_of_methodNamed B.named
  have hlocks := B.notSynchronized
  have hS : va_S (hA N0) s.heap s.heap [] := va_S.rf
  have hiX0 : ∀ w ∈ u_ws RX0 TX0 5, w ∈ wsX3_wholeCanes := by decide +kernel
  have hiX3 : ∀ w ∈ u_ws RX3 TX3 8, w ∈ wsX3_wholeCanes := by decide +kernel
  have lk11 := hts (.fieldLink RX3 11 "CaneSlices" "canes" "[LCaneSlices$Cane;") (by decide +kernel)
  have kn62 := hKs.2.1 (62, "CaneSlices$Cane", "cracked", "Z") (by decide +kernel)
  have hl := lv_entry ([.ref (ad (0))]) (n := 6) (Nat.le_of_ble_eq_true rfl)
  have hE : entryFrame m args 6 = entryFrame m ([.ref (ad (0))] : List Value).toArray 6 := by rw [hargs]
  rw [hE, lg_entry_eq]
  generalize (lg_sl ([.ref (ad (0))]) ++ List.replicate (6 - (lg_sl ([.ref (ad (0))])).length) Slot.unset).toArray = ls at hl ⊢
  have hl : lv_has ls 6 [(0, .ref (ad (0)))] := hl
  obtain ⟨hn8, hn60, hn6, -⟩ := id hO
  refine lv_iconst (v := nI 0) hx hb dX3_wholeCanes_0 (by decide) ?_
  refine lv_istore_n (lv' := [(1, .int (nI (0))), (0, .ref (ad (0)))]) hx hb dX3_wholeCanes_1 rfl hl (by decide) rfl (fun ls hl => ?_)
  refine lv_aload_n hx hb dX3_wholeCanes_2 rfl (lv_at hl 1 rfl) ?_
  refine hv_get (C := RX3) (T := TX3) (N := 8) hx hb hts hiX3 hown hKs hV hG.1 0 rfl (by decide) lk11 (fun _ h9 => h9) rfl dX3_wholeCanes_3 ?_
  refine lv_astore_n (lv' := [(2, .ref (ad (16))), (1, .int (nI (0))), (0, .ref (ad (0)))]) hx hb dX3_wholeCanes_6 rfl hl (by decide) rfl (fun ls hl => ?_)
  refine lv_aload_n hx hb dX3_wholeCanes_7 rfl (lv_at hl 0 rfl) ?_
  refine hv_alen hx hb hKs hV 1 hG.2.1 rfl dX3_wholeCanes_8 ?_
  refine lv_istore_n (lv' := [(3, .int (nI (8))), (2, .ref (ad (16))), (1, .int (nI (0))), (0, .ref (ad (0)))]) hx hb dX3_wholeCanes_9 rfl hl (by decide) rfl (fun ls hl => ?_)
  refine lv_iconst (v := nI 0) hx hb dX3_wholeCanes_10 (by decide) ?_
  refine lv_istore (lv' := [(4, .int (nI (0))), (3, .int (nI (8))), (2, .ref (ad (16))), (1, .int (nI (0))), (0, .ref (ad (0)))]) hx hb dX3_wholeCanes_11 hl (by decide) rfl (fun ls hl => ?_)
  have L13 : ∀ (n i : Nat) (a9 : Nat), i ≤ 8 → 8 < i + n → ∀ (H : Heap) (locs : List Loc), (a9 = nsm (wh σ) (min i (gNC σ))) → hv D N0 ad ct H → va_S (hA N0) s.heap H locs → ∀ ls : Array Slot, lv_has ls 6 [(0, .ref (ad (0))), (1, .int (nI (a9))), (2, .ref (ad (16))), (3, .int (nI (8))), (4, .int (nI (i)))] → W p l e (headSpec wsX3_wholeCanes ({ frames := 0, cells := 0, slots := 0, locals := 0 })).room s m args below meth c H locs 0 0 (MQ below (va_Qi (fun (z : Int32) (u : hU) => z = nI (nsm (wh σ) (gNC σ)) ∧ u = (ad, ct)) (hB D N0) (hA N0)) args s 0 0 (hA N0)) (F0 m 13 ls []) := by
    intro n
    induction n with
    | zero => intro i a9 h1 h2; exact absurd h2 (by omega)
    | succ n ih13 =>
      intro i a9 hi13 hn13 H locs ga hV hS ls hl
      refine lv_iload hx hb dX3_wholeCanes_13 (lv_at hl 4 rfl) ?_
      refine lv_iload_n hx hb dX3_wholeCanes_15 rfl (lv_at hl 3 rfl) ?_
      refine hN_icmp_ge (tgt := 47) hx hb (by omega) (by omega) dX3_wholeCanes_16 (by decide) (fun c16 => ?_) (fun c16 => ?_)
      · refine lv_iload_n hx hb dX3_wholeCanes_47 rfl (lv_at hl 1 rfl) ?_
        exact hv_iret (v := nI (a9)) (u := (ad, ct)) hx hb hr ⟨by rw [ga, Nat.min_eq_right (by omega)], rfl⟩ hV hS dX3_wholeCanes_48 hlocks
      · refine lv_aload_n hx hb dX3_wholeCanes_19 rfl (lv_at hl 2 rfl) ?_
        refine lv_iload hx hb dX3_wholeCanes_20 (lv_at hl 4 rfl) ?_
        refine hv_aald hx hb hKs hV 1 hG.2.1 rfl (by omega) (by decide) dX3_wholeCanes_22 ?_
        refine hv_ifQ (fun cq22 => ?_) (fun cq22 => ?_)
        · refine lv_astore (lv' := [(5, .ref (ad (16 * (i) + 3))), (0, .ref (ad (0))), (1, .int (nI (a9))), (2, .ref (ad (16))), (3, .int (nI (8))), (4, .int (nI (i)))]) hx hb dX3_wholeCanes_23 hl (by decide) rfl (fun ls hl => ?_)
          refine lv_aload hx hb dX3_wholeCanes_25 (lv_at hl 0 rfl) ?_
          refine lv_ifnull hx hb dX3_wholeCanes_27 ?_
          refine lv_aload hx hb dX3_wholeCanes_30 (lv_at hl 0 rfl) ?_
          have hc1 := hG.2.2.2.2.1 (i) (by omega)
          have hc1b : cLen σ (i) ≤ 60 ∧ cHt σ (i) ≤ 10 := ⟨(hO.2.2.2.1 (i) (by omega)).1, (hO.2.2.2.1 (i) (by omega)).2.1⟩
          have hc1f : ct (16 * (i) + 3) = some (eO 0 [.ref (ad (16 * (i) + 4)), .int (nI (cLen σ (i))), .int (cTw σ (i)), .int (nI (cHt σ (i))), .int (hbv (cCr σ (i)))]) := hc1.1
          refine hv_getN (C := RX0) (T := TX0) (N := 5) hx hb hts hiX0 hown hKs hV hc1f 4 rfl (by decide) kn62 (fun _ h9 => h9) rfl dX3_wholeCanes_32 ?_
          refine hB_if_ne (tgt := 41) hx hb dX3_wholeCanes_35 (by decide) (fun c35 => ?_) (fun c35 => ?_)
          · refine lv_iinc (v := nI (i + 1)) (lv' := [(4, .int (nI (i + 1))), (5, .ref (ad (16 * (i) + 3))), (0, .ref (ad (0))), (1, .int (nI (a9))), (2, .ref (ad (16))), (3, .int (nI (8)))]) hx hb dX3_wholeCanes_41 hl (k := 5) rfl (nI_add (i) 1) (by decide) rfl (fun ls hl => ?_)
            refine lv_goto (tgt := 13) hx hb dX3_wholeCanes_44 (by decide) ?_
            exact ih13 (i + 1) (a9) (by omega) (by omega) _ _ (by rw [nsm_in cq22, ga, show wh σ i = 0 from if_pos c35]; rfl) hV hS ls (lv_sub hl [2, 3, 4, 5, 0] rfl)
          · refine lv_iinc (v := nI (a9 + 1)) (lv' := [(1, .int (nI (a9 + 1))), (5, .ref (ad (16 * (i) + 3))), (0, .ref (ad (0))), (2, .ref (ad (16))), (3, .int (nI (8))), (4, .int (nI (i)))]) hx hb dX3_wholeCanes_38 hl (k := 2) rfl (nI_add (a9) 1) (by decide) rfl (fun ls hl => ?_)
            refine lv_iinc (v := nI (i + 1)) (lv' := [(4, .int (nI (i + 1))), (1, .int (nI (a9 + 1))), (5, .ref (ad (16 * (i) + 3))), (0, .ref (ad (0))), (2, .ref (ad (16))), (3, .int (nI (8)))]) hx hb dX3_wholeCanes_41 hl (k := 5) rfl (nI_add (i) 1) (by decide) rfl (fun ls hl => ?_)
            refine lv_goto (tgt := 13) hx hb dX3_wholeCanes_44 (by decide) ?_
            exact ih13 (i + 1) (a9 + 1) (by omega) (by omega) _ _ (by rw [nsm_in cq22, ga, show wh σ i = 1 from if_neg (by rw [c35]; decide)]) hV hS ls (lv_sub hl [3, 1, 4, 5, 0] rfl)
        · refine lv_astoreN (lv' := [(5, .null), (0, .ref (ad (0))), (1, .int (nI (a9))), (2, .ref (ad (16))), (3, .int (nI (8))), (4, .int (nI (i)))]) hx hb dX3_wholeCanes_23 hl (by decide) rfl (fun ls hl => ?_)
          refine lv_aloadN hx hb dX3_wholeCanes_25 (lv_at hl 0 rfl) ?_
          refine lv_ifnullN (tgt := 41) hx hb dX3_wholeCanes_27 (by decide) ?_
          refine lv_iinc (v := nI (i + 1)) (lv' := [(4, .int (nI (i + 1))), (5, .null), (0, .ref (ad (0))), (1, .int (nI (a9))), (2, .ref (ad (16))), (3, .int (nI (8)))]) hx hb dX3_wholeCanes_41 hl (k := 5) rfl (nI_add (i) 1) (by decide) rfl (fun ls hl => ?_)
          refine lv_goto (tgt := 13) hx hb dX3_wholeCanes_44 (by decide) ?_
          exact ih13 (i + 1) (a9) (by omega) (by omega) _ _ (by rw [nsm_out (by omega), ga]) hV hS ls (lv_sub hl [2, 3, 4, 5, 0] rfl)
  exact L13 (8 + 1) (0) (0) (by omega) (by omega) _ _ (show 0 = nsm _ (min 0 _) by rw [Nat.zero_min]; rfl) hV hS ls (lv_sub hl [4, 3, 2, 1, 0] rfl)

set_option maxHeartbeats 4000000 in
set_option maxRecDepth 100000 in
theorem c_X3_slicesInEyes (l : Launch) (D : hG) (N0 : Nat) (ad : Nat → Nat) (ct : hC) {σ : gS} (hG : gX D σ ad ct) (hO : okS σ) : Met l yX3_slicesInEyes wsX3_slicesInEyes ({ frames := 0, cells := 0, slots := 0, locals := 0 }) (hPc D N0 ad ct [.ref (ad (0))]) (va_Qi (fun (z : Int32) (u : hU) => z = nI (nsm (ie σ) 24) ∧ u = (ad, ct)) (hB D N0) (hA N0)) 0 0 (hA N0) := by
  refine Met.ofW (cc := cX3_slicesInEyes) (maxL := 6) (ret := (some .int)) (by decide) rfl ?_
  intro p e s m args below meth c s₁ B hml hv0
  obtain ⟨hargs, hKs, hV⟩ := hv0
  have hx := B.exec
  have hb := B.bytes
  have hr := B.returns
  have hts := atoms_spec (ws := wsX3_slicesInEyes) B.pre
  have hown : s.vm.findClass RX3 = some m.cls := findClass_of_methodNamed B.named
  have hlocks := B.notSynchronized
  have hS : va_S (hA N0) s.heap s.heap [] := va_S.rf
  have hiX3 : ∀ w ∈ u_ws RX3 TX3 8, w ∈ wsX3_slicesInEyes := by decide +kernel
  have lk21 := hts (.fieldLink RX3 21 "CaneSlices" "eyes" "[LCaneSlices$Slice;") (by decide +kernel)
  have hl := lv_entry ([.ref (ad (0))]) (n := 6) (Nat.le_of_ble_eq_true rfl)
  have hE : entryFrame m args 6 = entryFrame m ([.ref (ad (0))] : List Value).toArray 6 := by rw [hargs]
  rw [hE, lg_entry_eq]
  generalize (lg_sl ([.ref (ad (0))]) ++ List.replicate (6 - (lg_sl ([.ref (ad (0))])).length) Slot.unset).toArray = ls at hl ⊢
  have hl : lv_has ls 6 [(0, .ref (ad (0)))] := hl
  obtain ⟨hn8, hn60, hn6, -⟩ := id hO
  refine lv_iconst (v := nI 0) hx hb dX3_slicesInEyes_0 (by decide) ?_
  refine lv_istore_n (lv' := [(1, .int (nI (0))), (0, .ref (ad (0)))]) hx hb dX3_slicesInEyes_1 rfl hl (by decide) rfl (fun ls hl => ?_)
  refine lv_aload_n hx hb dX3_slicesInEyes_2 rfl (lv_at hl 1 rfl) ?_
  refine hv_get (C := RX3) (T := TX3) (N := 8) hx hb hts hiX3 hown hKs hV hG.1 2 rfl (by decide) lk21 (fun _ h9 => h9) rfl dX3_slicesInEyes_3 ?_
  refine lv_astore_n (lv' := [(2, .ref (ad (48))), (1, .int (nI (0))), (0, .ref (ad (0)))]) hx hb dX3_slicesInEyes_6 rfl hl (by decide) rfl (fun ls hl => ?_)
  refine lv_aload_n hx hb dX3_slicesInEyes_7 rfl (lv_at hl 0 rfl) ?_
  refine hv_alen hx hb hKs hV 2 hG.2.2.2.1 rfl dX3_slicesInEyes_8 ?_
  refine lv_istore_n (lv' := [(3, .int (nI (24))), (2, .ref (ad (48))), (1, .int (nI (0))), (0, .ref (ad (0)))]) hx hb dX3_slicesInEyes_9 rfl hl (by decide) rfl (fun ls hl => ?_)
  refine lv_iconst (v := nI 0) hx hb dX3_slicesInEyes_10 (by decide) ?_
  refine lv_istore (lv' := [(4, .int (nI (0))), (3, .int (nI (24))), (2, .ref (ad (48))), (1, .int (nI (0))), (0, .ref (ad (0)))]) hx hb dX3_slicesInEyes_11 hl (by decide) rfl (fun ls hl => ?_)
  have L13 : ∀ (n i : Nat) (a9 : Nat), i ≤ 24 → 24 < i + n → ∀ (H : Heap) (locs : List Loc), (a9 = nsm (ie σ) (min i (24))) → hv D N0 ad ct H → va_S (hA N0) s.heap H locs → ∀ ls : Array Slot, lv_has ls 6 [(0, .ref (ad (0))), (1, .int (nI (a9))), (2, .ref (ad (48))), (3, .int (nI (24))), (4, .int (nI (i)))] → W p l e (headSpec wsX3_slicesInEyes ({ frames := 0, cells := 0, slots := 0, locals := 0 })).room s m args below meth c H locs 0 0 (MQ below (va_Qi (fun (z : Int32) (u : hU) => z = nI (nsm (ie σ) 24) ∧ u = (ad, ct)) (hB D N0) (hA N0)) args s 0 0 (hA N0)) (F0 m 13 ls []) := by
    intro n
    induction n with
    | zero => intro i a9 h1 h2; exact absurd h2 (by omega)
    | succ n ih13 =>
      intro i a9 hi13 hn13 H locs ga hV hS ls hl
      refine lv_iload hx hb dX3_slicesInEyes_13 (lv_at hl 4 rfl) ?_
      refine lv_iload_n hx hb dX3_slicesInEyes_15 rfl (lv_at hl 3 rfl) ?_
      refine hN_icmp_ge (tgt := 39) hx hb (by omega) (by omega) dX3_slicesInEyes_16 (by decide) (fun c16 => ?_) (fun c16 => ?_)
      · refine lv_iload_n hx hb dX3_slicesInEyes_39 rfl (lv_at hl 1 rfl) ?_
        exact hv_iret (v := nI (a9)) (u := (ad, ct)) hx hb hr ⟨by rw [ga, Nat.min_eq_right (by omega)], rfl⟩ hV hS dX3_slicesInEyes_40 hlocks
      · refine lv_aload_n hx hb dX3_slicesInEyes_19 rfl (lv_at hl 2 rfl) ?_
        refine lv_iload hx hb dX3_slicesInEyes_20 (lv_at hl 4 rfl) ?_
        refine hv_aald hx hb hKs hV 2 hG.2.2.2.1 rfl (by omega) (by decide) dX3_slicesInEyes_22 ?_
        rcases hq22 : gEy σ (i) with _ | ⟨s22, t22⟩
        · refine hv_eq (w := .null) rfl ?_
          refine lv_astoreN (lv' := [(5, .null), (0, .ref (ad (0))), (1, .int (nI (a9))), (2, .ref (ad (48))), (3, .int (nI (24))), (4, .int (nI (i)))]) hx hb dX3_slicesInEyes_23 hl (by decide) rfl (fun ls hl => ?_)
          refine lv_aloadN hx hb dX3_slicesInEyes_25 (lv_at hl 0 rfl) ?_
          refine lv_ifnullN (tgt := 33) hx hb dX3_slicesInEyes_27 (by decide) ?_
          refine lv_iinc (v := nI (i + 1)) (lv' := [(4, .int (nI (i + 1))), (5, .null), (0, .ref (ad (0))), (1, .int (nI (a9))), (2, .ref (ad (48))), (3, .int (nI (24)))]) hx hb dX3_slicesInEyes_33 hl (k := 5) rfl (nI_add (i) 1) (by decide) rfl (fun ls hl => ?_)
          refine lv_goto (tgt := 13) hx hb dX3_slicesInEyes_36 (by decide) ?_
          exact ih13 (i + 1) (a9) (by omega) (by omega) _ _ (by rw [nsm_in (by omega), ga, ie_0 hq22]; rfl) hV hS ls (lv_sub hl [2, 3, 4, 5, 0] rfl)
        · obtain ⟨he22, hs22, ht22, hy22⟩ := hO.2.2.2.2.2.1 _ _ _ hq22
          refine hv_eq (w := .ref (ad (16 * (s22) + 6))) rfl ?_
          refine lv_astore (lv' := [(5, .ref (ad (16 * (s22) + 6))), (0, .ref (ad (0))), (1, .int (nI (a9))), (2, .ref (ad (48))), (3, .int (nI (24))), (4, .int (nI (i)))]) hx hb dX3_slicesInEyes_23 hl (by decide) rfl (fun ls hl => ?_)
          refine lv_aload hx hb dX3_slicesInEyes_25 (lv_at hl 0 rfl) ?_
          refine lv_ifnull hx hb dX3_slicesInEyes_27 ?_
          refine lv_iinc (v := nI (a9 + 1)) (lv' := [(1, .int (nI (a9 + 1))), (5, .ref (ad (16 * (s22) + 6))), (0, .ref (ad (0))), (2, .ref (ad (48))), (3, .int (nI (24))), (4, .int (nI (i)))]) hx hb dX3_slicesInEyes_30 hl (k := 2) rfl (nI_add (a9) 1) (by decide) rfl (fun ls hl => ?_)
          refine lv_iinc (v := nI (i + 1)) (lv' := [(4, .int (nI (i + 1))), (1, .int (nI (a9 + 1))), (5, .ref (ad (16 * (s22) + 6))), (0, .ref (ad (0))), (2, .ref (ad (48))), (3, .int (nI (24)))]) hx hb dX3_slicesInEyes_33 hl (k := 5) rfl (nI_add (i) 1) (by decide) rfl (fun ls hl => ?_)
          refine lv_goto (tgt := 13) hx hb dX3_slicesInEyes_36 (by decide) ?_
          exact ih13 (i + 1) (a9 + 1) (by omega) (by omega) _ _ (by rw [nsm_in (by omega), ga, ie_1 hq22]) hV hS ls (lv_sub hl [3, 1, 4, 5, 0] rfl)
  exact L13 (24 + 1) (0) (0) (by omega) (by omega) _ _ (show 0 = nsm _ (min 0 _) by rw [Nat.zero_min]; rfl) hV hS ls (lv_sub hl [4, 3, 2, 1, 0] rfl)

set_option maxHeartbeats 4000000 in
set_option maxRecDepth 100000 in
theorem c_X3_filledEyes (l : Launch) (D : hG) (N0 : Nat) (ad : Nat → Nat) (ct : hC) {σ : gS} (hG : gX D σ ad ct) (hO : okS σ) (b9 : Nat) (hb6 : b9 < 6) : Met l yX3_filledEyes wsX3_filledEyes ({ frames := 0, cells := 0, slots := 0, locals := 0 }) (hPc D N0 ad ct [.ref (ad (0)), .int (nI (b9))]) (va_Qi (fun (z : Int32) (u : hU) => z = nI (nsm (fun k => ie σ (4 * b9 + k)) 4) ∧ u = (ad, ct)) (hB D N0) (hA N0)) 0 0 (hA N0) := by
  refine Met.ofW (cc := cX3_filledEyes) (maxL := 4) (ret := (some .int)) (by decide) rfl ?_
  intro p e s m args below meth c s₁ B hml hv0
  obtain ⟨hargs, hKs, hV⟩ := hv0
  have hx := B.exec
  have hb := B.bytes
  have hr := B.returns
  have hts := atoms_spec (ws := wsX3_filledEyes) B.pre
  have hown : s.vm.findClass RX3 = some m.cls := findClass_of_methodNamed B.named
  have hlocks := B.notSynchronized
  have hS : va_S (hA N0) s.heap s.heap [] := va_S.rf
  have hiX3 : ∀ w ∈ u_ws RX3 TX3 8, w ∈ wsX3_filledEyes := by decide +kernel
  have lk21 := hts (.fieldLink RX3 21 "CaneSlices" "eyes" "[LCaneSlices$Slice;") (by decide +kernel)
  have hl := lv_entry ([.ref (ad (0)), .int (nI (b9))]) (n := 4) (Nat.le_of_ble_eq_true rfl)
  have hE : entryFrame m args 4 = entryFrame m ([.ref (ad (0)), .int (nI (b9))] : List Value).toArray 4 := by rw [hargs]
  rw [hE, lg_entry_eq]
  generalize (lg_sl ([.ref (ad (0)), .int (nI (b9))]) ++ List.replicate (4 - (lg_sl ([.ref (ad (0)), .int (nI (b9))])).length) Slot.unset).toArray = ls at hl ⊢
  have hl : lv_has ls 4 [(0, .ref (ad (0))), (1, .int (nI (b9)))] := hl
  obtain ⟨hn8, hn60, hn6, -⟩ := id hO
  refine lv_iconst (v := nI 0) hx hb dX3_filledEyes_0 (by decide) ?_
  refine lv_istore_n (lv' := [(2, .int (nI (0))), (0, .ref (ad (0))), (1, .int (nI (b9)))]) hx hb dX3_filledEyes_1 rfl hl (by decide) rfl (fun ls hl => ?_)
  refine lv_iconst (v := nI 0) hx hb dX3_filledEyes_2 (by decide) ?_
  refine lv_istore_n (lv' := [(3, .int (nI (0))), (2, .int (nI (0))), (0, .ref (ad (0))), (1, .int (nI (b9)))]) hx hb dX3_filledEyes_3 rfl hl (by decide) rfl (fun ls hl => ?_)
  have L4 : ∀ (n i : Nat) (a9 : Nat), i ≤ 4 → 4 < i + n → ∀ (H : Heap) (locs : List Loc), (a9 = nsm (fun k => ie σ (4 * b9 + k)) i) → hv D N0 ad ct H → va_S (hA N0) s.heap H locs → ∀ ls : Array Slot, lv_has ls 4 [(0, .ref (ad (0))), (1, .int (nI (b9))), (2, .int (nI (a9))), (3, .int (nI (i)))] → W p l e (headSpec wsX3_filledEyes ({ frames := 0, cells := 0, slots := 0, locals := 0 })).room s m args below meth c H locs 0 0 (MQ below (va_Qi (fun (z : Int32) (u : hU) => z = nI (nsm (fun k => ie σ (4 * b9 + k)) 4) ∧ u = (ad, ct)) (hB D N0) (hA N0)) args s 0 0 (hA N0)) (F0 m 4 ls []) := by
    intro n
    induction n with
    | zero => intro i a9 h1 h2; exact absurd h2 (by omega)
    | succ n ih4 =>
      intro i a9 hi4 hn4 H locs ga hV hS ls hl
      refine lv_iload_n hx hb dX3_filledEyes_4 rfl (lv_at hl 3 rfl) ?_
      refine lv_iconst (v := nI 4) hx hb dX3_filledEyes_5 (by decide) ?_
      refine hN_icmp_ge (tgt := 31) hx hb (by omega) (by omega) dX3_filledEyes_6 (by decide) (fun c6 => ?_) (fun c6 => ?_)
      · refine lv_iload_n hx hb dX3_filledEyes_31 rfl (lv_at hl 2 rfl) ?_
        exact hv_iret (v := nI (a9)) (u := (ad, ct)) hx hb hr ⟨by rw [ga, show i = 4 by omega], rfl⟩ hV hS dX3_filledEyes_32 hlocks
      · refine lv_aload_n hx hb dX3_filledEyes_9 rfl (lv_at hl 0 rfl) ?_
        refine hv_get (C := RX3) (T := TX3) (N := 8) hx hb hts hiX3 hown hKs hV hG.1 2 rfl (by decide) lk21 (fun _ h9 => h9) rfl dX3_filledEyes_10 ?_
        refine lv_iconst (v := nI 4) hx hb dX3_filledEyes_13 (by decide) ?_
        refine lv_iload_n hx hb dX3_filledEyes_14 rfl (lv_at hl 1 rfl) ?_
        refine hN_imul hx hb dX3_filledEyes_15 ?_
        refine lv_iload_n hx hb dX3_filledEyes_16 rfl (lv_at hl 3 rfl) ?_
        refine hN_iadd hx hb dX3_filledEyes_17 ?_
        refine hv_aald hx hb hKs hV 2 hG.2.2.2.1 rfl (by omega) (by decide) dX3_filledEyes_18 ?_
        rcases hq18 : gEy σ ((4) * (b9) + i) with _ | ⟨s18, t18⟩
        · refine hv_eq (w := .null) rfl ?_
          refine lv_ifnullN (tgt := 25) hx hb dX3_filledEyes_19 (by decide) ?_
          refine lv_iinc (v := nI (i + 1)) (lv' := [(3, .int (nI (i + 1))), (0, .ref (ad (0))), (1, .int (nI (b9))), (2, .int (nI (a9)))]) hx hb dX3_filledEyes_25 hl (k := 3) rfl (nI_add (i) 1) (by decide) rfl (fun ls hl => ?_)
          refine lv_goto (tgt := 4) hx hb dX3_filledEyes_28 (by decide) ?_
          exact ih4 (i + 1) (a9) (by omega) (by omega) _ _ (by rw [nsm, ga, ie_0 hq18]; rfl) hV hS ls (lv_sub hl [1, 2, 3, 0] rfl)
        · obtain ⟨he18, hs18, ht18, hy18⟩ := hO.2.2.2.2.2.1 _ _ _ hq18
          refine hv_eq (w := .ref (ad (16 * (s18) + 6))) rfl ?_
          refine lv_ifnull hx hb dX3_filledEyes_19 ?_
          refine lv_iinc (v := nI (a9 + 1)) (lv' := [(2, .int (nI (a9 + 1))), (0, .ref (ad (0))), (1, .int (nI (b9))), (3, .int (nI (i)))]) hx hb dX3_filledEyes_22 hl (k := 2) rfl (nI_add (a9) 1) (by decide) rfl (fun ls hl => ?_)
          refine lv_iinc (v := nI (i + 1)) (lv' := [(3, .int (nI (i + 1))), (2, .int (nI (a9 + 1))), (0, .ref (ad (0))), (1, .int (nI (b9)))]) hx hb dX3_filledEyes_25 hl (k := 3) rfl (nI_add (i) 1) (by decide) rfl (fun ls hl => ?_)
          refine lv_goto (tgt := 4) hx hb dX3_filledEyes_28 (by decide) ?_
          exact ih4 (i + 1) (a9 + 1) (by omega) (by omega) _ _ (by rw [nsm, ga, ie_1 hq18]) hV hS ls (lv_sub hl [2, 3, 1, 0] rfl)
  exact L4 (4 + 1) (0) (0) (by omega) (by omega) _ _ (rfl) hV hS ls (lv_sub hl [2, 3, 1, 0] rfl)

set_option maxHeartbeats 4000000 in
set_option maxRecDepth 100000 in
theorem c_X3_kindOf (l : Launch) (D : hG) (N0 : Nat) (ad : Nat → Nat) (ct : hC) {σ : gS} (hG : gX D σ ad ct) (hO : okS σ) {t : Nat} {P : Nat → Nat} (hp : hPat D ad ct t P) : Met l yX3_kindOf wsX3_kindOf ({ frames := 5, cells := 0, slots := 0, locals := 112 }) (hPc D N0 ad ct [.ref (ad (0)), .ref (ad (t))]) (va_Qi (fun (z : Int32) (u : hU) => z = nI (knd σ P (gNS σ)) ∧ u = (ad, ct)) (hB D N0) (hA N0)) 0 0 (hA N0) := by
  refine Met.ofW (cc := cX3_kindOf) (maxL := 4) (ret := (some .int)) (by decide) rfl ?_
  intro p e s m args below meth c s₁ B hml hv0
  obtain ⟨hargs, hKs, hV⟩ := hv0
  have hx := B.exec
  have hb := B.bytes
  have hr := B.returns
  have hts := atoms_spec (ws := wsX3_kindOf) B.pre
  have hown : s.vm.findClass RX3 = some m.cls := findClass_of_methodNamed B.named
  have hlocks := B.notSynchronized
  have hS : va_S (hA N0) s.heap s.heap [] := va_S.rf
  have hiX2 : ∀ w ∈ u_ws RX2 TX2 5, w ∈ wsX3_kindOf := by decide +kernel
  have hiX3 : ∀ w ∈ u_ws RX3 TX3 8, w ∈ wsX3_kindOf := by decide +kernel
  have lk111 := hts (.fieldLink RX3 111 "CaneSlices" "sliceCount" "I") (by decide +kernel)
  have lk17 := hts (.fieldLink RX3 17 "CaneSlices" "slices" "[LCaneSlices$Slice;") (by decide +kernel)
  have kn152 := hKs.2.1 (152, "CaneSlices$Slice", "pattern", "LCaneSlices$Pattern;") (by decide +kernel)
  have hl := lv_entry ([.ref (ad (0)), .ref (ad (t))]) (n := 4) (Nat.le_of_ble_eq_true rfl)
  have hE : entryFrame m args 4 = entryFrame m ([.ref (ad (0)), .ref (ad (t))] : List Value).toArray 4 := by rw [hargs]
  rw [hE, lg_entry_eq]
  generalize (lg_sl ([.ref (ad (0)), .ref (ad (t))]) ++ List.replicate (4 - (lg_sl ([.ref (ad (0)), .ref (ad (t))])).length) Slot.unset).toArray = ls at hl ⊢
  have hl : lv_has ls 4 [(0, .ref (ad (0))), (1, .ref (ad (t)))] := hl
  obtain ⟨hn8, hn60, hn6, -⟩ := id hO
  refine lv_iconst (v := nI 0) hx hb dX3_kindOf_0 (by decide) ?_
  refine lv_istore_n (lv' := [(2, .int (nI (0))), (0, .ref (ad (0))), (1, .ref (ad (t)))]) hx hb dX3_kindOf_1 rfl hl (by decide) rfl (fun ls hl => ?_)
  have L2 : ∀ (n i : Nat), i ≤ 60 → 60 < i + n → ∀ (H : Heap) (locs : List Loc), (∀ k, k < i → k < gNS σ → sim P (sPt σ k) = false) → hv D N0 ad ct H → va_S (hA N0) s.heap H locs → ∀ ls : Array Slot, lv_has ls 4 [(0, .ref (ad (0))), (1, .ref (ad (t))), (2, .int (nI (i)))] → W p l e (headSpec wsX3_kindOf ({ frames := 5, cells := 0, slots := 0, locals := 112 })).room s m args below meth c H locs 0 0 (MQ below (va_Qi (fun (z : Int32) (u : hU) => z = nI (knd σ P (gNS σ)) ∧ u = (ad, ct)) (hB D N0) (hA N0)) args s 0 0 (hA N0)) (F0 m 2 ls []) := by
    intro n
    induction n with
    | zero => intro i h1 h2; exact absurd h2 (by omega)
    | succ n ih2 =>
      intro i hi2 hn2 H locs gi hV hS ls hl
      refine lv_iload_n hx hb dX3_kindOf_2 rfl (lv_at hl 2 rfl) ?_
      refine lv_bipush (v := nI 60) hx hb dX3_kindOf_3 (by decide) ?_
      refine hN_icmp_ge (tgt := 39) hx hb (by omega) (by omega) dX3_kindOf_5 (by decide) (fun c5 => ?_) (fun c5 => ?_)
      · refine lv_aload_n hx hb dX3_kindOf_39 rfl (lv_at hl 0 rfl) ?_
        refine hv_get (C := RX3) (T := TX3) (N := 8) hx hb hts hiX3 hown hKs hV hG.1 4 rfl (by decide) lk111 (fun _ h9 => h9) rfl dX3_kindOf_40 ?_
        exact hv_iret (v := nI (gNS σ)) (u := (ad, ct)) hx hb hr ⟨by rw [show knd σ P (gNS σ) = gNS σ from frst_is (Nat.le_refl _) (fun k hk => gi k (by omega) hk) (fun q => absurd q (Nat.lt_irrefl _))], rfl⟩ hV hS dX3_kindOf_43 hlocks
      · refine lv_aload_n hx hb dX3_kindOf_8 rfl (lv_at hl 0 rfl) ?_
        refine hv_get (C := RX3) (T := TX3) (N := 8) hx hb hts hiX3 hown hKs hV hG.1 1 rfl (by decide) lk17 (fun _ h9 => h9) rfl dX3_kindOf_9 ?_
        refine lv_iload_n hx hb dX3_kindOf_12 rfl (lv_at hl 2 rfl) ?_
        refine hv_aald hx hb hKs hV 2 hG.2.2.1 rfl (by omega) (by decide) dX3_kindOf_13 ?_
        refine hv_ifQ (fun cq13 => ?_) (fun cq13 => ?_)
        · refine lv_astore_n (lv' := [(3, .ref (ad (16 * (i) + 6))), (0, .ref (ad (0))), (1, .ref (ad (t))), (2, .int (nI (i)))]) hx hb dX3_kindOf_14 rfl hl (by decide) rfl (fun ls hl => ?_)
          refine lv_aload_n hx hb dX3_kindOf_15 rfl (lv_at hl 0 rfl) ?_
          refine lv_ifnull hx hb dX3_kindOf_16 ?_
          refine lv_aload_n hx hb dX3_kindOf_19 rfl (lv_at hl 2 rfl) ?_
          refine lv_aload_n hx hb dX3_kindOf_20 rfl (lv_at hl 0 rfl) ?_
          have hd1 := hG.2.2.2.2.2 (i) (by omega)
          have hd1f : ct (16 * (i) + 6) = some (eO 2 [.int (nI (i)), .ref (ad (16 * (i) + 7)), .int (nI (sKd σ (i))), .int (eyv (sEy σ (i))), .int (nI (trn σ (i)))]) := hd1.1
          refine hv_getN (C := RX2) (T := TX2) (N := 5) hx hb hts hiX2 hown hKs hV hd1f 1 rfl (by decide) kn152 (fun _ h9 => h9) rfl dX3_kindOf_21 ?_
          refine hv_calli (va_runV (As := [.ref (ad (16 * (i) + 7))]) (rest := []) ⟨hx, hb, hml, hown, hts⟩ (c_X1_leastTurnTo l D N0 ad ct hp hd1.2) (cwV 1 hts gX3_kindOf_X1_leastTurnTo rfl rfl rfl (by decide +kernel) ⟨Nat.le_of_ble_eq_true rfl, Nat.le_of_ble_eq_true rfl⟩) (hv_preV (r := (RX1, TX1, 1)) hKs hV hS hp.1 rfl) rfl rfl hl.1 rfl (lv_room (Nat.le_of_ble_eq_true rfl)) dX3_kindOf_24 ⟨(Nat.le_of_ble_eq_true rfl), (Nat.le_of_ble_eq_true rfl)⟩) hS (fun r9 u9 H locs hq hV hS => ?_)
          obtain ⟨rfl, rfl⟩ := hq
          have hV : hv D N0 ad ct H := hV
          refine lv_iconst (v := (-1)) hx hb dX3_kindOf_27 (by decide) ?_
          refine hI_icmp_eq (tgt := 33) hx hb dX3_kindOf_28 (by decide) (fun c28 => ?_) (fun c28 => ?_)
          · refine lv_iinc (v := nI (i + 1)) (lv' := [(2, .int (nI (i + 1))), (3, .ref (ad (16 * (i) + 6))), (0, .ref (ad (0))), (1, .ref (ad (t)))]) hx hb dX3_kindOf_33 hl (k := 3) rfl (nI_add (i) 1) (by decide) rfl (fun ls hl => ?_)
            refine lv_goto (tgt := 2) hx hb dX3_kindOf_36 (by decide) ?_
            exact ih2 (i + 1)  (by omega) (by omega) _ _ (fun k hk hk2 => (Nat.lt_or_ge k i).elim (fun q => gi k q hk2) (fun q => by have e9 : k = i := (by omega); subst e9; exact plc_m1.mp c28)) hV hS ls (lv_sub hl [2, 3, 0] rfl)
          · refine lv_iload_n hx hb dX3_kindOf_31 rfl (lv_at hl 3 rfl) ?_
            exact hv_iret (v := nI (i)) (u := (ad, ct)) hx hb hr ⟨by rw [show knd σ P (gNS σ) = i from frst_is (by omega) (fun k hk => gi k hk (by omega)) (fun _ => by rcases hsm : sim P (sPt σ i) with _ | _; exact absurd (plc_m1.mpr hsm) c28; rfl)], rfl⟩ hV hS dX3_kindOf_32 hlocks
        · refine lv_astore_nN (lv' := [(3, .null), (0, .ref (ad (0))), (1, .ref (ad (t))), (2, .int (nI (i)))]) hx hb dX3_kindOf_14 rfl hl (by decide) rfl (fun ls hl => ?_)
          refine lv_aload_nN hx hb dX3_kindOf_15 rfl (lv_at hl 0 rfl) ?_
          refine lv_ifnullN (tgt := 33) hx hb dX3_kindOf_16 (by decide) ?_
          refine lv_iinc (v := nI (i + 1)) (lv' := [(2, .int (nI (i + 1))), (3, .null), (0, .ref (ad (0))), (1, .ref (ad (t)))]) hx hb dX3_kindOf_33 hl (k := 3) rfl (nI_add (i) 1) (by decide) rfl (fun ls hl => ?_)
          refine lv_goto (tgt := 2) hx hb dX3_kindOf_36 (by decide) ?_
          exact ih2 (i + 1)  (by omega) (by omega) _ _ (fun k hk hk2 => gi k (by omega) hk2) hV hS ls (lv_sub hl [2, 3, 0] rfl)
  exact L2 (60 + 1) (0)  (by omega) (by omega) _ _ (fun k hk => absurd hk (Nat.not_lt_zero k)) hV hS ls (lv_sub hl [1, 2, 0] rfl)

set_option maxHeartbeats 4000000 in
set_option maxRecDepth 100000 in
theorem c_X3_freeSlicesOf (l : Launch) (D : hG) (N0 : Nat) (ad : Nat → Nat) (ct : hC) {σ : gS} (hG : gX D σ ad ct) (hO : okS σ) (k9 : Nat) (hk60 : k9 ≤ 60) : Met l yX3_freeSlicesOf wsX3_freeSlicesOf ({ frames := 1, cells := 0, slots := 0, locals := 20 }) (hPc D N0 ad ct [.ref (ad (0)), .int (nI (k9))]) (va_Qi (fun (z : Int32) (u : hU) => z = nI (nsm (fr σ k9) (gNS σ)) ∧ u = (ad, ct)) (hB D N0) (hA N0)) 0 0 (hA N0) := by
  refine Met.ofW (cc := cX3_freeSlicesOf) (maxL := 7) (ret := (some .int)) (by decide) rfl ?_
  intro p e s m args below meth c s₁ B hml hv0
  obtain ⟨hargs, hKs, hV⟩ := hv0
  have hx := B.exec
  have hb := B.bytes
  have hr := B.returns
  have hts := atoms_spec (ws := wsX3_freeSlicesOf) B.pre
  have hown : s.vm.findClass RX3 = some m.cls := findClass_of_methodNamed B.named
  have hlocks := B.notSynchronized
  have hS : va_S (hA N0) s.heap s.heap [] := va_S.rf
  have hiX2 : ∀ w ∈ u_ws RX2 TX2 5, w ∈ wsX3_freeSlicesOf := by decide +kernel
  have hiX3 : ∀ w ∈ u_ws RX3 TX3 8, w ∈ wsX3_freeSlicesOf := by decide +kernel
  have lk17 := hts (.fieldLink RX3 17 "CaneSlices" "slices" "[LCaneSlices$Slice;") (by decide +kernel)
  have kn226 := hKs.2.1 (226, "CaneSlices$Slice", "kind", "I") (by decide +kernel)
  have hl := lv_entry ([.ref (ad (0)), .int (nI (k9))]) (n := 7) (Nat.le_of_ble_eq_true rfl)
  have hE : entryFrame m args 7 = entryFrame m ([.ref (ad (0)), .int (nI (k9))] : List Value).toArray 7 := by rw [hargs]
  rw [hE, lg_entry_eq]
  generalize (lg_sl ([.ref (ad (0)), .int (nI (k9))]) ++ List.replicate (7 - (lg_sl ([.ref (ad (0)), .int (nI (k9))])).length) Slot.unset).toArray = ls at hl ⊢
  have hl : lv_has ls 7 [(0, .ref (ad (0))), (1, .int (nI (k9)))] := hl
  obtain ⟨hn8, hn60, hn6, -⟩ := id hO
  refine lv_iconst (v := nI 0) hx hb dX3_freeSlicesOf_0 (by decide) ?_
  refine lv_istore_n (lv' := [(2, .int (nI (0))), (0, .ref (ad (0))), (1, .int (nI (k9)))]) hx hb dX3_freeSlicesOf_1 rfl hl (by decide) rfl (fun ls hl => ?_)
  refine lv_aload_n hx hb dX3_freeSlicesOf_2 rfl (lv_at hl 1 rfl) ?_
  refine hv_get (C := RX3) (T := TX3) (N := 8) hx hb hts hiX3 hown hKs hV hG.1 1 rfl (by decide) lk17 (fun _ h9 => h9) rfl dX3_freeSlicesOf_3 ?_
  refine lv_astore_n (lv' := [(3, .ref (ad (32))), (2, .int (nI (0))), (0, .ref (ad (0))), (1, .int (nI (k9)))]) hx hb dX3_freeSlicesOf_6 rfl hl (by decide) rfl (fun ls hl => ?_)
  refine lv_aload_n hx hb dX3_freeSlicesOf_7 rfl (lv_at hl 0 rfl) ?_
  refine hv_alen hx hb hKs hV 2 hG.2.2.1 rfl dX3_freeSlicesOf_8 ?_
  refine lv_istore (lv' := [(4, .int (nI (60))), (3, .ref (ad (32))), (2, .int (nI (0))), (0, .ref (ad (0))), (1, .int (nI (k9)))]) hx hb dX3_freeSlicesOf_9 hl (by decide) rfl (fun ls hl => ?_)
  refine lv_iconst (v := nI 0) hx hb dX3_freeSlicesOf_11 (by decide) ?_
  refine lv_istore (lv' := [(5, .int (nI (0))), (4, .int (nI (60))), (3, .ref (ad (32))), (2, .int (nI (0))), (0, .ref (ad (0))), (1, .int (nI (k9)))]) hx hb dX3_freeSlicesOf_12 hl (by decide) rfl (fun ls hl => ?_)
  have L14 : ∀ (n i : Nat) (a9 : Nat), i ≤ 60 → 60 < i + n → ∀ (H : Heap) (locs : List Loc), (a9 = nsm (fr σ k9) (min i (gNS σ))) → hv D N0 ad ct H → va_S (hA N0) s.heap H locs → ∀ ls : Array Slot, lv_has ls 7 [(0, .ref (ad (0))), (1, .int (nI (k9))), (2, .int (nI (a9))), (3, .ref (ad (32))), (4, .int (nI (60))), (5, .int (nI (i)))] → W p l e (headSpec wsX3_freeSlicesOf ({ frames := 1, cells := 0, slots := 0, locals := 20 })).room s m args below meth c H locs 0 0 (MQ below (va_Qi (fun (z : Int32) (u : hU) => z = nI (nsm (fr σ k9) (gNS σ)) ∧ u = (ad, ct)) (hB D N0) (hA N0)) args s 0 0 (hA N0)) (F0 m 14 ls []) := by
    intro n
    induction n with
    | zero => intro i a9 h1 h2; exact absurd h2 (by omega)
    | succ n ih14 =>
      intro i a9 hi14 hn14 H locs ga hV hS ls hl
      refine lv_iload hx hb dX3_freeSlicesOf_14 (lv_at hl 5 rfl) ?_
      refine lv_iload hx hb dX3_freeSlicesOf_16 (lv_at hl 4 rfl) ?_
      refine hN_icmp_ge (tgt := 58) hx hb (by omega) (by omega) dX3_freeSlicesOf_18 (by decide) (fun c18 => ?_) (fun c18 => ?_)
      · refine lv_iload_n hx hb dX3_freeSlicesOf_58 rfl (lv_at hl 2 rfl) ?_
        exact hv_iret (v := nI (a9)) (u := (ad, ct)) hx hb hr ⟨by rw [ga, Nat.min_eq_right (by omega)], rfl⟩ hV hS dX3_freeSlicesOf_59 hlocks
      · refine lv_aload_n hx hb dX3_freeSlicesOf_21 rfl (lv_at hl 3 rfl) ?_
        refine lv_iload hx hb dX3_freeSlicesOf_22 (lv_at hl 5 rfl) ?_
        refine hv_aald hx hb hKs hV 2 hG.2.2.1 rfl (by omega) (by decide) dX3_freeSlicesOf_24 ?_
        refine hv_ifQ (fun cq24 => ?_) (fun cq24 => ?_)
        · refine lv_astore (lv' := [(6, .ref (ad (16 * (i) + 6))), (0, .ref (ad (0))), (1, .int (nI (k9))), (2, .int (nI (a9))), (3, .ref (ad (32))), (4, .int (nI (60))), (5, .int (nI (i)))]) hx hb dX3_freeSlicesOf_25 hl (by decide) rfl (fun ls hl => ?_)
          refine lv_aload hx hb dX3_freeSlicesOf_27 (lv_at hl 0 rfl) ?_
          refine lv_ifnull hx hb dX3_freeSlicesOf_29 ?_
          refine lv_aload hx hb dX3_freeSlicesOf_32 (lv_at hl 0 rfl) ?_
          have hd1 := hG.2.2.2.2.2 (i) (by omega)
          have hd1f : ct (16 * (i) + 6) = some (eO 2 [.int (nI (i)), .ref (ad (16 * (i) + 7)), .int (nI (sKd σ (i))), .int (eyv (sEy σ (i))), .int (nI (trn σ (i)))]) := hd1.1
          refine hv_calli (va_runV (As := []) (rest := []) ⟨hx, hb, hml, hown, hts⟩ (c_X2_isFree l D N0 ad ct hd1f) (cwV 0 hts gX3_freeSlicesOf_X2_isFree rfl rfl rfl (by decide +kernel) ⟨Nat.le_of_ble_eq_true rfl, Nat.le_of_ble_eq_true rfl⟩) (hv_preV (r := (RX2, TX2, 5)) hKs hV hS hd1f rfl) rfl rfl hl.1 rfl (lv_room (Nat.le_of_ble_eq_true rfl)) dX3_freeSlicesOf_34 ⟨(Nat.le_of_ble_eq_true rfl), (Nat.le_of_ble_eq_true rfl)⟩) hS (fun r9 u9 H locs hq hV hS => ?_)
          obtain ⟨rfl, rfl⟩ := hq
          have hV : hv D N0 ad ct H := hV
          refine hB_if_eq (tgt := 52) hx hb dX3_freeSlicesOf_37 (by decide) (fun c37 => ?_) (fun c37 => ?_)
          · refine lv_iinc (v := nI (i + 1)) (lv' := [(5, .int (nI (i + 1))), (6, .ref (ad (16 * (i) + 6))), (0, .ref (ad (0))), (1, .int (nI (k9))), (2, .int (nI (a9))), (3, .ref (ad (32))), (4, .int (nI (60)))]) hx hb dX3_freeSlicesOf_52 hl (k := 6) rfl (nI_add (i) 1) (by decide) rfl (fun ls hl => ?_)
            refine lv_goto (tgt := 14) hx hb dX3_freeSlicesOf_55 (by decide) ?_
            exact ih14 (i + 1) (a9) (by omega) (by omega) _ _ (by rw [nsm_in cq24, ga, show fr σ k9 i = 0 from if_neg (fun q => by rw [q.1] at c37; cases c37)]; rfl) hV hS ls (lv_sub hl [2, 3, 4, 5, 6, 0] rfl)
          · refine lv_aload hx hb dX3_freeSlicesOf_40 (lv_at hl 0 rfl) ?_
            refine hv_getN (C := RX2) (T := TX2) (N := 5) hx hb hts hiX2 hown hKs hV hd1f 2 rfl (by decide) kn226 (fun _ h9 => h9) rfl dX3_freeSlicesOf_42 ?_
            refine lv_iload_n hx hb dX3_freeSlicesOf_45 rfl (lv_at hl 2 rfl) ?_
            have hkd := sKd_le hO cq24
            refine hN_icmp_ne (tgt := 52) hx hb (by omega) (by omega) dX3_freeSlicesOf_46 (by decide) (fun c46 => ?_) (fun c46 => ?_)
            · refine lv_iinc (v := nI (i + 1)) (lv' := [(5, .int (nI (i + 1))), (6, .ref (ad (16 * (i) + 6))), (0, .ref (ad (0))), (1, .int (nI (k9))), (2, .int (nI (a9))), (3, .ref (ad (32))), (4, .int (nI (60)))]) hx hb dX3_freeSlicesOf_52 hl (k := 6) rfl (nI_add (i) 1) (by decide) rfl (fun ls hl => ?_)
              refine lv_goto (tgt := 14) hx hb dX3_freeSlicesOf_55 (by decide) ?_
              exact ih14 (i + 1) (a9) (by omega) (by omega) _ _ (by rw [nsm_in cq24, ga, show fr σ k9 i = 0 from if_neg (fun q => c46 q.2)]; rfl) hV hS ls (lv_sub hl [2, 3, 4, 5, 6, 0] rfl)
            · refine lv_iinc (v := nI (a9 + 1)) (lv' := [(2, .int (nI (a9 + 1))), (6, .ref (ad (16 * (i) + 6))), (0, .ref (ad (0))), (1, .int (nI (k9))), (3, .ref (ad (32))), (4, .int (nI (60))), (5, .int (nI (i)))]) hx hb dX3_freeSlicesOf_49 hl (k := 3) rfl (nI_add (a9) 1) (by decide) rfl (fun ls hl => ?_)
              refine lv_iinc (v := nI (i + 1)) (lv' := [(5, .int (nI (i + 1))), (2, .int (nI (a9 + 1))), (6, .ref (ad (16 * (i) + 6))), (0, .ref (ad (0))), (1, .int (nI (k9))), (3, .ref (ad (32))), (4, .int (nI (60)))]) hx hb dX3_freeSlicesOf_52 hl (k := 6) rfl (nI_add (i) 1) (by decide) rfl (fun ls hl => ?_)
              refine lv_goto (tgt := 14) hx hb dX3_freeSlicesOf_55 (by decide) ?_
              exact ih14 (i + 1) (a9 + 1) (by omega) (by omega) _ _ (by rw [nsm_in cq24, ga, show fr σ k9 i = 1 from if_pos ⟨c37, c46⟩]) hV hS ls (lv_sub hl [3, 4, 1, 5, 6, 0] rfl)
        · refine lv_astoreN (lv' := [(6, .null), (0, .ref (ad (0))), (1, .int (nI (k9))), (2, .int (nI (a9))), (3, .ref (ad (32))), (4, .int (nI (60))), (5, .int (nI (i)))]) hx hb dX3_freeSlicesOf_25 hl (by decide) rfl (fun ls hl => ?_)
          refine lv_aloadN hx hb dX3_freeSlicesOf_27 (lv_at hl 0 rfl) ?_
          refine lv_ifnullN (tgt := 52) hx hb dX3_freeSlicesOf_29 (by decide) ?_
          refine lv_iinc (v := nI (i + 1)) (lv' := [(5, .int (nI (i + 1))), (6, .null), (0, .ref (ad (0))), (1, .int (nI (k9))), (2, .int (nI (a9))), (3, .ref (ad (32))), (4, .int (nI (60)))]) hx hb dX3_freeSlicesOf_52 hl (k := 6) rfl (nI_add (i) 1) (by decide) rfl (fun ls hl => ?_)
          refine lv_goto (tgt := 14) hx hb dX3_freeSlicesOf_55 (by decide) ?_
          exact ih14 (i + 1) (a9) (by omega) (by omega) _ _ (by rw [nsm_out (by omega), ga]) hV hS ls (lv_sub hl [2, 3, 4, 5, 6, 0] rfl)
  exact L14 (60 + 1) (0) (0) (by omega) (by omega) _ _ (show 0 = nsm _ (min 0 _) by rw [Nat.zero_min]; rfl) hV hS ls (lv_sub hl [4, 5, 3, 2, 1, 0] rfl)

set_option maxHeartbeats 4000000 in
set_option maxRecDepth 100000 in
theorem c_X3_canFillBead (l : Launch) (D : hG) (N0 : Nat) (ad : Nat → Nat) (ct : hC) {σ : gS} (hG : gX D σ ad ct) (hO : okS σ) : Met l yX3_canFillBead wsX3_canFillBead ({ frames := 2, cells := 0, slots := 0, locals := 46 }) (hPc D N0 ad ct [.ref (ad (0))]) (va_Qi (fun (z : Int32) (u : hU) => z = hbv (cfb σ) ∧ u = (ad, ct)) (hB D N0) (hA N0)) 0 0 (hA N0) := by
  refine Met.ofW (cc := cX3_canFillBead) (maxL := 2) (ret := (some .boolean)) (by decide) rfl ?_
  intro p e s m args below meth c s₁ B hml hv0
  obtain ⟨hargs, hKs, hV⟩ := hv0
  have hx := B.exec
  have hb := B.bytes
  have hr := B.returns
  have hts := atoms_spec (ws := wsX3_canFillBead) B.pre
  have hown : s.vm.findClass RX3 = some m.cls := findClass_of_methodNamed B.named
  have hlocks := B.notSynchronized
  have hS : va_S (hA N0) s.heap s.heap [] := va_S.rf
  have hiX3 : ∀ w ∈ u_ws RX3 TX3 8, w ∈ wsX3_canFillBead := by decide +kernel
  have lk111 := hts (.fieldLink RX3 111 "CaneSlices" "sliceCount" "I") (by decide +kernel)
  have hl := lv_entry ([.ref (ad (0))]) (n := 2) (Nat.le_of_ble_eq_true rfl)
  have hE : entryFrame m args 2 = entryFrame m ([.ref (ad (0))] : List Value).toArray 2 := by rw [hargs]
  rw [hE, lg_entry_eq]
  generalize (lg_sl ([.ref (ad (0))]) ++ List.replicate (2 - (lg_sl ([.ref (ad (0))])).length) Slot.unset).toArray = ls at hl ⊢
  have hl : lv_has ls 2 [(0, .ref (ad (0)))] := hl
  obtain ⟨hn8, hn60, hn6, -⟩ := id hO
  refine lv_iconst (v := nI 0) hx hb dX3_canFillBead_0 (by decide) ?_
  refine lv_istore_n (lv' := [(1, .int (nI (0))), (0, .ref (ad (0)))]) hx hb dX3_canFillBead_1 rfl hl (by decide) rfl (fun ls hl => ?_)
  have L2 : ∀ (n i : Nat), i ≤ gNS σ → gNS σ < i + n → ∀ (H : Heap) (locs : List Loc), (∀ k, k < i → decide (4 ≤ nsm (fr σ k) (gNS σ)) = false) → hv D N0 ad ct H → va_S (hA N0) s.heap H locs → ∀ ls : Array Slot, lv_has ls 2 [(0, .ref (ad (0))), (1, .int (nI (i)))] → W p l e (headSpec wsX3_canFillBead ({ frames := 2, cells := 0, slots := 0, locals := 46 })).room s m args below meth c H locs 0 0 (MQ below (va_Qi (fun (z : Int32) (u : hU) => z = hbv (cfb σ) ∧ u = (ad, ct)) (hB D N0) (hA N0)) args s 0 0 (hA N0)) (F0 m 2 ls []) := by
    intro n
    induction n with
    | zero => intro i h1 h2; exact absurd h2 (by omega)
    | succ n ih2 =>
      intro i hi2 hn2 H locs gi hV hS ls hl
      refine lv_iload_n hx hb dX3_canFillBead_2 rfl (lv_at hl 1 rfl) ?_
      refine lv_aload_n hx hb dX3_canFillBead_3 rfl (lv_at hl 0 rfl) ?_
      refine hv_get (C := RX3) (T := TX3) (N := 8) hx hb hts hiX3 hown hKs hV hG.1 4 rfl (by decide) lk111 (fun _ h9 => h9) rfl dX3_canFillBead_4 ?_
      refine hN_icmp_ge (tgt := 27) hx hb (by omega) (by omega) dX3_canFillBead_7 (by decide) (fun c7 => ?_) (fun c7 => ?_)
      · refine lv_iconst (v := nI 0) hx hb dX3_canFillBead_27 (by decide) ?_
        exact hv_zret (v := nI (0)) (u := (ad, ct)) hx hb hr (by decide +kernel) ⟨hb_0 (by unfold cfb; rw [frst_is (i := gNS σ) (Nat.le_refl _) (fun k hk => gi k (by omega)) (fun q => absurd q (Nat.lt_irrefl _))]; exact decide_eq_false (Nat.lt_irrefl _)), rfl⟩ hV hS dX3_canFillBead_28 hlocks
      · refine lv_aload_n hx hb dX3_canFillBead_10 rfl (lv_at hl 0 rfl) ?_
        refine lv_iload_n hx hb dX3_canFillBead_11 rfl (lv_at hl 1 rfl) ?_
        refine hv_calli (va_runV (As := [.int (nI (i))]) (rest := []) ⟨hx, hb, hml, hown, hts⟩ (c_X3_freeSlicesOf l D N0 ad ct hG hO (i) (by omega)) (cwV 1 hts gX3_canFillBead_X3_freeSlicesOf rfl rfl rfl (by decide +kernel) ⟨Nat.le_of_ble_eq_true rfl, Nat.le_of_ble_eq_true rfl⟩) (hv_preV (r := (RX3, TX3, 8)) hKs hV hS hG.1 rfl) rfl rfl hl.1 rfl (lv_room (Nat.le_of_ble_eq_true rfl)) dX3_canFillBead_12 ⟨(Nat.le_of_ble_eq_true rfl), (Nat.le_of_ble_eq_true rfl)⟩) hS (fun r9 u9 H locs hq hV hS => ?_)
        obtain ⟨rfl, rfl⟩ := hq
        have hV : hv D N0 ad ct H := hV
        have hf1 : nsm (fr σ (i)) (gNS σ) ≤ 60 := nsm_fr hO
        refine lv_iconst (v := nI 4) hx hb dX3_canFillBead_15 (by decide) ?_
        refine hN_icmp_lt (tgt := 21) hx hb (by omega) (by omega) dX3_canFillBead_16 (by decide) (fun c16 => ?_) (fun c16 => ?_)
        · refine lv_iinc (v := nI (i + 1)) (lv' := [(1, .int (nI (i + 1))), (0, .ref (ad (0)))]) hx hb dX3_canFillBead_21 hl (k := 1) rfl (nI_add (i) 1) (by decide) rfl (fun ls hl => ?_)
          refine lv_goto (tgt := 2) hx hb dX3_canFillBead_24 (by decide) ?_
          exact ih2 (i + 1)  (by omega) (by omega) _ _ (fun k hk => (Nat.lt_or_ge k i).elim (gi k) (fun q => by have e9 : k = i := (by omega); subst e9; exact decide_eq_false (by omega))) hV hS ls (lv_sub hl [1, 0] rfl)
        · refine lv_iconst (v := nI 1) hx hb dX3_canFillBead_19 (by decide) ?_
          exact hv_zret (v := nI (1)) (u := (ad, ct)) hx hb hr (by decide +kernel) ⟨hb_1 (by unfold cfb; rw [frst_is (i := i) (by omega) gi (fun _ => decide_eq_true c16)]; exact decide_eq_true (by omega)), rfl⟩ hV hS dX3_canFillBead_20 hlocks
  exact L2 (gNS σ + 1) (0)  (by omega) (by omega) _ _ (fun k hk => absurd hk (Nat.not_lt_zero k)) hV hS ls (lv_sub hl [1, 0] rfl)

set_option maxHeartbeats 4000000 in
set_option maxRecDepth 100000 in
theorem c_X3_eyesLike (l : Launch) (D : hG) (N0 : Nat) (ad : Nat → Nat) (ct : hC) {σ : gS} (hG : gX D σ ad ct) (hO : okS σ) (b9 : Nat) (hb6 : b9 < 6) (s9 : Nat) (hs9 : s9 < gNS σ) : Met l yX3_eyesLike wsX3_eyesLike ({ frames := 4, cells := 0, slots := 0, locals := 90 }) (hPc D N0 ad ct [.ref (ad (0)), .int (nI (b9)), .ref (ad (16 * (s9) + 6))]) (va_Qi (fun (z : Int32) (u : hU) => z = nI (nsm (el σ b9 s9) 4) ∧ u = (ad, ct)) (hB D N0) (hA N0)) 0 0 (hA N0) := by
  refine Met.ofW (cc := cX3_eyesLike) (maxL := 6) (ret := (some .int)) (by decide) rfl ?_
  intro p e s m args below meth c s₁ B hml hv0
  obtain ⟨hargs, hKs, hV⟩ := hv0
  have hx := B.exec
  have hb := B.bytes
  have hr := B.returns
  have hts := atoms_spec (ws := wsX3_eyesLike) B.pre
  have hown : s.vm.findClass RX3 = some m.cls := findClass_of_methodNamed B.named
  have hlocks := B.notSynchronized
  have hS : va_S (hA N0) s.heap s.heap [] := va_S.rf
  have hiX2 : ∀ w ∈ u_ws RX2 TX2 5, w ∈ wsX3_eyesLike := by decide +kernel
  have hiX3 : ∀ w ∈ u_ws RX3 TX3 8, w ∈ wsX3_eyesLike := by decide +kernel
  have lk21 := hts (.fieldLink RX3 21 "CaneSlices" "eyes" "[LCaneSlices$Slice;") (by decide +kernel)
  have kn152 := hKs.2.1 (152, "CaneSlices$Slice", "pattern", "LCaneSlices$Pattern;") (by decide +kernel)
  have kn198 := hKs.2.1 (198, "CaneSlices$Slice", "turn", "I") (by decide +kernel)
  have hl := lv_entry ([.ref (ad (0)), .int (nI (b9)), .ref (ad (16 * (s9) + 6))]) (n := 6) (Nat.le_of_ble_eq_true rfl)
  have hE : entryFrame m args 6 = entryFrame m ([.ref (ad (0)), .int (nI (b9)), .ref (ad (16 * (s9) + 6))] : List Value).toArray 6 := by rw [hargs]
  rw [hE, lg_entry_eq]
  generalize (lg_sl ([.ref (ad (0)), .int (nI (b9)), .ref (ad (16 * (s9) + 6))]) ++ List.replicate (6 - (lg_sl ([.ref (ad (0)), .int (nI (b9)), .ref (ad (16 * (s9) + 6))])).length) Slot.unset).toArray = ls at hl ⊢
  have hl : lv_has ls 6 [(0, .ref (ad (0))), (1, .int (nI (b9))), (2, .ref (ad (16 * (s9) + 6)))] := hl
  obtain ⟨hn8, hn60, hn6, -⟩ := id hO
  refine lv_iconst (v := nI 0) hx hb dX3_eyesLike_0 (by decide) ?_
  refine lv_istore_n (lv' := [(3, .int (nI (0))), (0, .ref (ad (0))), (1, .int (nI (b9))), (2, .ref (ad (16 * (s9) + 6)))]) hx hb dX3_eyesLike_1 rfl hl (by decide) rfl (fun ls hl => ?_)
  refine lv_iconst (v := nI 0) hx hb dX3_eyesLike_2 (by decide) ?_
  refine lv_istore (lv' := [(4, .int (nI (0))), (3, .int (nI (0))), (0, .ref (ad (0))), (1, .int (nI (b9))), (2, .ref (ad (16 * (s9) + 6)))]) hx hb dX3_eyesLike_3 hl (by decide) rfl (fun ls hl => ?_)
  have L5 : ∀ (n i : Nat) (a9 : Nat), i ≤ 4 → 4 < i + n → ∀ (H : Heap) (locs : List Loc), (a9 = nsm (el σ b9 s9) i) → hv D N0 ad ct H → va_S (hA N0) s.heap H locs → ∀ ls : Array Slot, lv_has ls 6 [(0, .ref (ad (0))), (1, .int (nI (b9))), (2, .ref (ad (16 * (s9) + 6))), (3, .int (nI (a9))), (4, .int (nI (i)))] → W p l e (headSpec wsX3_eyesLike ({ frames := 4, cells := 0, slots := 0, locals := 90 })).room s m args below meth c H locs 0 0 (MQ below (va_Qi (fun (z : Int32) (u : hU) => z = nI (nsm (el σ b9 s9) 4) ∧ u = (ad, ct)) (hB D N0) (hA N0)) args s 0 0 (hA N0)) (F0 m 5 ls []) := by
    intro n
    induction n with
    | zero => intro i a9 h1 h2; exact absurd h2 (by omega)
    | succ n ih5 =>
      intro i a9 hi5 hn5 H locs ga hV hS ls hl
      refine lv_iload hx hb dX3_eyesLike_5 (lv_at hl 4 rfl) ?_
      refine lv_iconst (v := nI 4) hx hb dX3_eyesLike_7 (by decide) ?_
      refine hN_icmp_ge (tgt := 63) hx hb (by omega) (by omega) dX3_eyesLike_8 (by decide) (fun c8 => ?_) (fun c8 => ?_)
      · refine lv_iload_n hx hb dX3_eyesLike_63 rfl (lv_at hl 3 rfl) ?_
        exact hv_iret (v := nI (a9)) (u := (ad, ct)) hx hb hr ⟨by rw [ga, show i = 4 by omega], rfl⟩ hV hS dX3_eyesLike_64 hlocks
      · refine lv_aload_n hx hb dX3_eyesLike_11 rfl (lv_at hl 0 rfl) ?_
        refine hv_get (C := RX3) (T := TX3) (N := 8) hx hb hts hiX3 hown hKs hV hG.1 2 rfl (by decide) lk21 (fun _ h9 => h9) rfl dX3_eyesLike_12 ?_
        refine lv_iconst (v := nI 4) hx hb dX3_eyesLike_15 (by decide) ?_
        refine lv_iload_n hx hb dX3_eyesLike_16 rfl (lv_at hl 1 rfl) ?_
        refine hN_imul hx hb dX3_eyesLike_17 ?_
        refine lv_iload hx hb dX3_eyesLike_18 (lv_at hl 4 rfl) ?_
        refine hN_iadd hx hb dX3_eyesLike_20 ?_
        refine hv_aald hx hb hKs hV 2 hG.2.2.2.1 rfl (by omega) (by decide) dX3_eyesLike_21 ?_
        rcases hq21 : gEy σ ((4) * (b9) + i) with _ | ⟨s21, t21⟩
        · refine hv_eq (w := .null) rfl ?_
          refine lv_astoreN (lv' := [(5, .null), (0, .ref (ad (0))), (1, .int (nI (b9))), (2, .ref (ad (16 * (s9) + 6))), (3, .int (nI (a9))), (4, .int (nI (i)))]) hx hb dX3_eyesLike_22 hl (by decide) rfl (fun ls hl => ?_)
          refine lv_aloadN hx hb dX3_eyesLike_24 (lv_at hl 0 rfl) ?_
          refine lv_ifnullN (tgt := 57) hx hb dX3_eyesLike_26 (by decide) ?_
          refine lv_iinc (v := nI (i + 1)) (lv' := [(4, .int (nI (i + 1))), (5, .null), (0, .ref (ad (0))), (1, .int (nI (b9))), (2, .ref (ad (16 * (s9) + 6))), (3, .int (nI (a9)))]) hx hb dX3_eyesLike_57 hl (k := 5) rfl (nI_add (i) 1) (by decide) rfl (fun ls hl => ?_)
          refine lv_goto (tgt := 5) hx hb dX3_eyesLike_60 (by decide) ?_
          exact ih5 (i + 1) (a9) (by omega) (by omega) _ _ (by rw [nsm, ga, el_0 hq21]; rfl) hV hS ls (lv_sub hl [2, 3, 4, 5, 0] rfl)
        · obtain ⟨he21, hs21, ht21, hy21⟩ := hO.2.2.2.2.2.1 _ _ _ hq21
          refine hv_eq (w := .ref (ad (16 * (s21) + 6))) rfl ?_
          refine lv_astore (lv' := [(5, .ref (ad (16 * (s21) + 6))), (0, .ref (ad (0))), (1, .int (nI (b9))), (2, .ref (ad (16 * (s9) + 6))), (3, .int (nI (a9))), (4, .int (nI (i)))]) hx hb dX3_eyesLike_22 hl (by decide) rfl (fun ls hl => ?_)
          refine lv_aload hx hb dX3_eyesLike_24 (lv_at hl 0 rfl) ?_
          refine lv_ifnull hx hb dX3_eyesLike_26 ?_
          refine lv_aload hx hb dX3_eyesLike_29 (lv_at hl 0 rfl) ?_
          have hd1 := hG.2.2.2.2.2 (s21) (by omega)
          have hd1f : ct (16 * (s21) + 6) = some (eO 2 [.int (nI (s21)), .ref (ad (16 * (s21) + 7)), .int (nI (sKd σ (s21))), .int (eyv (sEy σ (s21))), .int (nI (trn σ (s21)))]) := hd1.1
          refine hv_getN (C := RX2) (T := TX2) (N := 5) hx hb hts hiX2 hown hKs hV hd1f 1 rfl (by decide) kn152 (fun _ h9 => h9) rfl dX3_eyesLike_31 ?_
          refine lv_aload_n hx hb dX3_eyesLike_34 rfl (lv_at hl 3 rfl) ?_
          have hd2 := hG.2.2.2.2.2 (s9) (by omega)
          have hd2f : ct (16 * (s9) + 6) = some (eO 2 [.int (nI (s9)), .ref (ad (16 * (s9) + 7)), .int (nI (sKd σ (s9))), .int (eyv (sEy σ (s9))), .int (nI (trn σ (s9)))]) := hd2.1
          refine hv_getN (C := RX2) (T := TX2) (N := 5) hx hb hts hiX2 hown hKs hV hd2f 1 rfl (by decide) kn152 (fun _ h9 => h9) rfl dX3_eyesLike_35 ?_
          refine lv_aload hx hb dX3_eyesLike_38 (lv_at hl 0 rfl) ?_
          refine hv_getN (C := RX2) (T := TX2) (N := 5) hx hb hts hiX2 hown hKs hV hd1f 4 rfl (by decide) kn198 (fun _ h9 => h9) rfl dX3_eyesLike_40 ?_
          refine lv_aload_n hx hb dX3_eyesLike_43 rfl (lv_at hl 3 rfl) ?_
          refine hv_getN (C := RX2) (T := TX2) (N := 5) hx hb hts hiX2 hown hKs hV hd2f 4 rfl (by decide) kn198 (fun _ h9 => h9) rfl dX3_eyesLike_44 ?_
          refine lv_isub hx hb dX3_eyesLike_47 ?_
          refine hv_calli (va_runV (As := [.ref (ad (16 * (s9) + 7)), .int (nI (trn σ (s21)) - nI (trn σ (s9)))]) (rest := []) ⟨hx, hb, hml, hown, hts⟩ (c_X1_looksLike l D N0 ad ct hd1.2 hd2.2 ((nI (trn σ (s21)) - nI (trn σ (s9))))) (cwV 2 hts gX3_eyesLike_X1_looksLike rfl rfl rfl (by decide +kernel) ⟨Nat.le_of_ble_eq_true rfl, Nat.le_of_ble_eq_true rfl⟩) (hv_preV (r := (RX1, TX1, 1)) hKs hV hS hd1.2.1 rfl) rfl rfl hl.1 rfl (lv_room (Nat.le_of_ble_eq_true rfl)) dX3_eyesLike_48 ⟨(Nat.le_of_ble_eq_true rfl), (Nat.le_of_ble_eq_true rfl)⟩) hS (fun r9 u9 H locs hq hV hS => ?_)
          obtain ⟨rfl, rfl⟩ := hq
          have hV : hv D N0 ad ct H := hV
          refine hB_if_eq (tgt := 57) hx hb dX3_eyesLike_51 (by decide) (fun c51 => ?_) (fun c51 => ?_)
          · refine lv_iinc (v := nI (i + 1)) (lv' := [(4, .int (nI (i + 1))), (5, .ref (ad (16 * (s21) + 6))), (0, .ref (ad (0))), (1, .int (nI (b9))), (2, .ref (ad (16 * (s9) + 6))), (3, .int (nI (a9)))]) hx hb dX3_eyesLike_57 hl (k := 5) rfl (nI_add (i) 1) (by decide) rfl (fun ls hl => ?_)
            refine lv_goto (tgt := 5) hx hb dX3_eyesLike_60 (by decide) ?_
            exact ih5 (i + 1) (a9) (by omega) (by omega) _ _ (by rw [nsm, ga, el_2 hq21 c51]; rfl) hV hS ls (lv_sub hl [2, 3, 4, 5, 0] rfl)
          · refine lv_iinc (v := nI (a9 + 1)) (lv' := [(3, .int (nI (a9 + 1))), (5, .ref (ad (16 * (s21) + 6))), (0, .ref (ad (0))), (1, .int (nI (b9))), (2, .ref (ad (16 * (s9) + 6))), (4, .int (nI (i)))]) hx hb dX3_eyesLike_54 hl (k := 4) rfl (nI_add (a9) 1) (by decide) rfl (fun ls hl => ?_)
            refine lv_iinc (v := nI (i + 1)) (lv' := [(4, .int (nI (i + 1))), (3, .int (nI (a9 + 1))), (5, .ref (ad (16 * (s21) + 6))), (0, .ref (ad (0))), (1, .int (nI (b9))), (2, .ref (ad (16 * (s9) + 6)))]) hx hb dX3_eyesLike_57 hl (k := 5) rfl (nI_add (i) 1) (by decide) rfl (fun ls hl => ?_)
            refine lv_goto (tgt := 5) hx hb dX3_eyesLike_60 (by decide) ?_
            exact ih5 (i + 1) (a9 + 1) (by omega) (by omega) _ _ (by rw [nsm, ga, el_1 hq21 c51]) hV hS ls (lv_sub hl [3, 4, 5, 1, 0] rfl)
  exact L5 (4 + 1) (0) (0) (by omega) (by omega) _ _ (rfl) hV hS ls (lv_sub hl [2, 3, 4, 1, 0] rfl)

set_option maxHeartbeats 4000000 in
set_option maxRecDepth 100000 in
theorem c_X3_beadsOfOneLook (l : Launch) (D : hG) (N0 : Nat) (ad : Nat → Nat) (ct : hC) {σ : gS} (hG : gX D σ ad ct) (hO : okS σ) : Met l yX3_beadsOfOneLook wsX3_beadsOfOneLook ({ frames := 5, cells := 0, slots := 0, locals := 115 }) (hPc D N0 ad ct [.ref (ad (0))]) (va_Qi (fun (z : Int32) (u : hU) => z = nI (nsm (bl σ) (gNB σ)) ∧ u = (ad, ct)) (hB D N0) (hA N0)) 0 0 (hA N0) := by
  refine Met.ofW (cc := cX3_beadsOfOneLook) (maxL := 4) (ret := (some .int)) (by decide) rfl ?_
  intro p e s m args below meth c s₁ B hml hv0
  obtain ⟨hargs, hKs, hV⟩ := hv0
  have hx := B.exec
  have hb := B.bytes
  have hr := B.returns
  have hts := atoms_spec (ws := wsX3_beadsOfOneLook) B.pre
  have hown : s.vm.findClass RX3 = some m.cls := findClass_of_methodNamed B.named
  have hlocks := B.notSynchronized
  have hS : va_S (hA N0) s.heap s.heap [] := va_S.rf
  have hiX3 : ∀ w ∈ u_ws RX3 TX3 8, w ∈ wsX3_beadsOfOneLook := by decide +kernel
  have lk158 := hts (.fieldLink RX3 158 "CaneSlices" "beadCount" "I") (by decide +kernel)
  have lk21 := hts (.fieldLink RX3 21 "CaneSlices" "eyes" "[LCaneSlices$Slice;") (by decide +kernel)
  have hl := lv_entry ([.ref (ad (0))]) (n := 4) (Nat.le_of_ble_eq_true rfl)
  have hE : entryFrame m args 4 = entryFrame m ([.ref (ad (0))] : List Value).toArray 4 := by rw [hargs]
  rw [hE, lg_entry_eq]
  generalize (lg_sl ([.ref (ad (0))]) ++ List.replicate (4 - (lg_sl ([.ref (ad (0))])).length) Slot.unset).toArray = ls at hl ⊢
  have hl : lv_has ls 4 [(0, .ref (ad (0)))] := hl
  obtain ⟨hn8, hn60, hn6, -⟩ := id hO
  refine lv_iconst (v := nI 0) hx hb dX3_beadsOfOneLook_0 (by decide) ?_
  refine lv_istore_n (lv' := [(1, .int (nI (0))), (0, .ref (ad (0)))]) hx hb dX3_beadsOfOneLook_1 rfl hl (by decide) rfl (fun ls hl => ?_)
  refine lv_iconst (v := nI 0) hx hb dX3_beadsOfOneLook_2 (by decide) ?_
  refine lv_istore_n (lv' := [(2, .int (nI (0))), (1, .int (nI (0))), (0, .ref (ad (0)))]) hx hb dX3_beadsOfOneLook_3 rfl hl (by decide) rfl (fun ls hl => ?_)
  have L4 : ∀ (n i : Nat) (a9 : Nat), i ≤ gNB σ → gNB σ < i + n → ∀ (H : Heap) (locs : List Loc), (a9 = nsm (bl σ) i) → hv D N0 ad ct H → va_S (hA N0) s.heap H locs → ∀ ls : Array Slot, lv_has ls 4 [(0, .ref (ad (0))), (1, .int (nI (a9))), (2, .int (nI (i)))] → W p l e (headSpec wsX3_beadsOfOneLook ({ frames := 5, cells := 0, slots := 0, locals := 115 })).room s m args below meth c H locs 0 0 (MQ below (va_Qi (fun (z : Int32) (u : hU) => z = nI (nsm (bl σ) (gNB σ)) ∧ u = (ad, ct)) (hB D N0) (hA N0)) args s 0 0 (hA N0)) (F0 m 4 ls []) := by
    intro n
    induction n with
    | zero => intro i a9 h1 h2; exact absurd h2 (by omega)
    | succ n ih4 =>
      intro i a9 hi4 hn4 H locs ga hV hS ls hl
      refine lv_iload_n hx hb dX3_beadsOfOneLook_4 rfl (lv_at hl 2 rfl) ?_
      refine lv_aload_n hx hb dX3_beadsOfOneLook_5 rfl (lv_at hl 0 rfl) ?_
      refine hv_get (C := RX3) (T := TX3) (N := 8) hx hb hts hiX3 hown hKs hV hG.1 5 rfl (by decide) lk158 (fun _ h9 => h9) rfl dX3_beadsOfOneLook_6 ?_
      refine hN_icmp_ge (tgt := 44) hx hb (by omega) (by omega) dX3_beadsOfOneLook_9 (by decide) (fun c9 => ?_) (fun c9 => ?_)
      · refine lv_iload_n hx hb dX3_beadsOfOneLook_44 rfl (lv_at hl 1 rfl) ?_
        exact hv_iret (v := nI (a9)) (u := (ad, ct)) hx hb hr ⟨by rw [ga, show i = gNB σ by omega], rfl⟩ hV hS dX3_beadsOfOneLook_45 hlocks
      · refine lv_aload_n hx hb dX3_beadsOfOneLook_12 rfl (lv_at hl 0 rfl) ?_
        refine hv_get (C := RX3) (T := TX3) (N := 8) hx hb hts hiX3 hown hKs hV hG.1 2 rfl (by decide) lk21 (fun _ h9 => h9) rfl dX3_beadsOfOneLook_13 ?_
        refine lv_iconst (v := nI 4) hx hb dX3_beadsOfOneLook_16 (by decide) ?_
        refine lv_iload_n hx hb dX3_beadsOfOneLook_17 rfl (lv_at hl 2 rfl) ?_
        refine hN_imul hx hb dX3_beadsOfOneLook_18 ?_
        refine hv_aald hx hb hKs hV 2 hG.2.2.2.1 rfl (by omega) (by decide) dX3_beadsOfOneLook_19 ?_
        rcases hq19 : gEy σ ((4) * (i)) with _ | ⟨s19, t19⟩
        · refine hv_eq (w := .null) rfl ?_
          refine lv_astore_nN (lv' := [(3, .null), (0, .ref (ad (0))), (1, .int (nI (a9))), (2, .int (nI (i)))]) hx hb dX3_beadsOfOneLook_20 rfl hl (by decide) rfl (fun ls hl => ?_)
          refine lv_aload_nN hx hb dX3_beadsOfOneLook_21 rfl (lv_at hl 0 rfl) ?_
          refine lv_ifnullN (tgt := 38) hx hb dX3_beadsOfOneLook_22 (by decide) ?_
          refine lv_iinc (v := nI (i + 1)) (lv' := [(2, .int (nI (i + 1))), (3, .null), (0, .ref (ad (0))), (1, .int (nI (a9)))]) hx hb dX3_beadsOfOneLook_38 hl (k := 3) rfl (nI_add (i) 1) (by decide) rfl (fun ls hl => ?_)
          refine lv_goto (tgt := 4) hx hb dX3_beadsOfOneLook_41 (by decide) ?_
          exact ih4 (i + 1) (a9) (by omega) (by omega) _ _ (by rw [nsm, ga, bl_0 hq19]; rfl) hV hS ls (lv_sub hl [2, 3, 0] rfl)
        · obtain ⟨he19, hs19, ht19, hy19⟩ := hO.2.2.2.2.2.1 _ _ _ hq19
          refine hv_eq (w := .ref (ad (16 * (s19) + 6))) rfl ?_
          refine lv_astore_n (lv' := [(3, .ref (ad (16 * (s19) + 6))), (0, .ref (ad (0))), (1, .int (nI (a9))), (2, .int (nI (i)))]) hx hb dX3_beadsOfOneLook_20 rfl hl (by decide) rfl (fun ls hl => ?_)
          refine lv_aload_n hx hb dX3_beadsOfOneLook_21 rfl (lv_at hl 0 rfl) ?_
          refine lv_ifnull hx hb dX3_beadsOfOneLook_22 ?_
          refine lv_aload_n hx hb dX3_beadsOfOneLook_25 rfl (lv_at hl 1 rfl) ?_
          refine lv_iload_n hx hb dX3_beadsOfOneLook_26 rfl (lv_at hl 3 rfl) ?_
          refine lv_aload_n hx hb dX3_beadsOfOneLook_27 rfl (lv_at hl 0 rfl) ?_
          refine hv_calli (va_runV (As := [.int (nI (i)), .ref (ad (16 * (s19) + 6))]) (rest := []) ⟨hx, hb, hml, hown, hts⟩ (c_X3_eyesLike l D N0 ad ct hG hO (i) (by omega) (s19) (by omega)) (cwV 2 hts gX3_beadsOfOneLook_X3_eyesLike rfl rfl rfl (by decide +kernel) ⟨Nat.le_of_ble_eq_true rfl, Nat.le_of_ble_eq_true rfl⟩) (hv_preV (r := (RX3, TX3, 8)) hKs hV hS hG.1 rfl) rfl rfl hl.1 rfl (lv_room (Nat.le_of_ble_eq_true rfl)) dX3_beadsOfOneLook_28 ⟨(Nat.le_of_ble_eq_true rfl), (Nat.le_of_ble_eq_true rfl)⟩) hS (fun r9 u9 H locs hq hV hS => ?_)
          obtain ⟨rfl, rfl⟩ := hq
          have hV : hv D N0 ad ct H := hV
          have hf1 : nsm (el σ (i) (s19)) 4 ≤ 4 := nsm_le (f := el σ (i) (s19)) (c := 1) (n := 4) (fun _ _ => el_le)
          refine lv_iconst (v := nI 4) hx hb dX3_beadsOfOneLook_31 (by decide) ?_
          refine hN_icmp_ne (tgt := 38) hx hb (by omega) (by omega) dX3_beadsOfOneLook_32 (by decide) (fun c32 => ?_) (fun c32 => ?_)
          · refine lv_iinc (v := nI (i + 1)) (lv' := [(2, .int (nI (i + 1))), (3, .ref (ad (16 * (s19) + 6))), (0, .ref (ad (0))), (1, .int (nI (a9)))]) hx hb dX3_beadsOfOneLook_38 hl (k := 3) rfl (nI_add (i) 1) (by decide) rfl (fun ls hl => ?_)
            refine lv_goto (tgt := 4) hx hb dX3_beadsOfOneLook_41 (by decide) ?_
            exact ih4 (i + 1) (a9) (by omega) (by omega) _ _ (by rw [nsm, ga, bl_2 hq19 c32]; rfl) hV hS ls (lv_sub hl [2, 3, 0] rfl)
          · refine lv_iinc (v := nI (a9 + 1)) (lv' := [(1, .int (nI (a9 + 1))), (3, .ref (ad (16 * (s19) + 6))), (0, .ref (ad (0))), (2, .int (nI (i)))]) hx hb dX3_beadsOfOneLook_35 hl (k := 2) rfl (nI_add (a9) 1) (by decide) rfl (fun ls hl => ?_)
            refine lv_iinc (v := nI (i + 1)) (lv' := [(2, .int (nI (i + 1))), (1, .int (nI (a9 + 1))), (3, .ref (ad (16 * (s19) + 6))), (0, .ref (ad (0)))]) hx hb dX3_beadsOfOneLook_38 hl (k := 3) rfl (nI_add (i) 1) (by decide) rfl (fun ls hl => ?_)
            refine lv_goto (tgt := 4) hx hb dX3_beadsOfOneLook_41 (by decide) ?_
            exact ih4 (i + 1) (a9 + 1) (by omega) (by omega) _ _ (by rw [nsm, ga, bl_1 hq19 c32]) hV hS ls (lv_sub hl [3, 1, 0] rfl)
  exact L4 (gNB σ + 1) (0) (0) (by omega) (by omega) _ _ (rfl) hV hS ls (lv_sub hl [2, 1, 0] rfl)

set_option maxHeartbeats 4000000 in
set_option maxRecDepth 100000 in
theorem c_X3_tally (l : Launch) (D : hG) (N0 : Nat) (ad : Nat → Nat) (ct : hC) {σ : gS} (hG : gX D σ ad ct) (hO : okS σ) (k9 : Nat) (hk8 : k9 < 8) : Met l yX3_tally wsX3_tally ({ frames := 6, cells := 0, slots := 0, locals := 138 }) (hPc D N0 ad ct [.ref (ad (0)), .int (nI (k9))]) (va_Qi (fun (z : Int32) (u : hU) => z = tal σ k9 ∧ u = (ad, ct)) (hB D N0) (hA N0)) 0 0 (hA N0) := by
  refine Met.ofW (cc := cX3_tally) (maxL := 2) (ret := (some .int)) (by decide) rfl ?_
  intro p e s m args below meth c s₁ B hml hv0
  obtain ⟨hargs, hKs, hV⟩ := hv0
  have hx := B.exec
  have hb := B.bytes
  have hr := B.returns
  have hts := atoms_spec (ws := wsX3_tally) B.pre
  have hown : s.vm.findClass RX3 = some m.cls := findClass_of_methodNamed B.named
  have hlocks := B.notSynchronized
  have hS : va_S (hA N0) s.heap s.heap [] := va_S.rf
  have hiX3 : ∀ w ∈ u_ws RX3 TX3 8, w ∈ wsX3_tally := by decide +kernel
  have lk251 := hts (.fieldLink RX3 251 "CaneSlices" "minute" "I") (by decide +kernel)
  have lk28 := hts (.fieldLink RX3 28 "CaneSlices" "caneCount" "I") (by decide +kernel)
  have lk111 := hts (.fieldLink RX3 111 "CaneSlices" "sliceCount" "I") (by decide +kernel)
  have lk158 := hts (.fieldLink RX3 158 "CaneSlices" "beadCount" "I") (by decide +kernel)
  have hl := lv_entry ([.ref (ad (0)), .int (nI (k9))]) (n := 2) (Nat.le_of_ble_eq_true rfl)
  have hE : entryFrame m args 2 = entryFrame m ([.ref (ad (0)), .int (nI (k9))] : List Value).toArray 2 := by rw [hargs]
  rw [hE, lg_entry_eq]
  generalize (lg_sl ([.ref (ad (0)), .int (nI (k9))]) ++ List.replicate (2 - (lg_sl ([.ref (ad (0)), .int (nI (k9))])).length) Slot.unset).toArray = ls at hl ⊢
  have hl : lv_has ls 2 [(0, .ref (ad (0))), (1, .int (nI (k9)))] := hl
  obtain ⟨hn8, hn60, hn6, -⟩ := id hO
  refine lv_iload_n hx hb dX3_tally_0 rfl (lv_at hl 1 rfl) ?_
  rcases (show k9 = 0 ∨ k9 = 1 ∨ k9 = 2 ∨ k9 = 3 ∨ k9 = 4 ∨ k9 = 5 ∨ k9 = 6 ∨ k9 = 7 by omega) with rfl | rfl | rfl | rfl | rfl | rfl | rfl | rfl
  · refine lv_tableIn (tgt := 44) hx hb dX3_tally_1 (by decide) (by decide) rfl (by decide) ?_
    refine lv_aload_n hx hb dX3_tally_44 rfl (lv_at hl 0 rfl) ?_
    refine hv_get (C := RX3) (T := TX3) (N := 8) hx hb hts hiX3 hown hKs hV hG.1 7 rfl (by decide) lk251 (fun _ h9 => h9) rfl dX3_tally_45 ?_
    exact hv_iret (v := (gMi σ)) (u := (ad, ct)) hx hb hr ⟨rfl, rfl⟩ hV hS dX3_tally_48 hlocks
  · refine lv_tableIn (tgt := 49) hx hb dX3_tally_1 (by decide) (by decide) rfl (by decide) ?_
    refine lv_aload_n hx hb dX3_tally_49 rfl (lv_at hl 0 rfl) ?_
    refine hv_get (C := RX3) (T := TX3) (N := 8) hx hb hts hiX3 hown hKs hV hG.1 3 rfl (by decide) lk28 (fun _ h9 => h9) rfl dX3_tally_50 ?_
    exact hv_iret (v := nI (gNC σ)) (u := (ad, ct)) hx hb hr ⟨rfl, rfl⟩ hV hS dX3_tally_53 hlocks
  · refine lv_tableIn (tgt := 54) hx hb dX3_tally_1 (by decide) (by decide) rfl (by decide) ?_
    refine lv_aload_n hx hb dX3_tally_54 rfl (lv_at hl 0 rfl) ?_
    refine hv_calli (va_runV (As := []) (rest := []) ⟨hx, hb, hml, hown, hts⟩ (c_X3_wholeCanes l D N0 ad ct hG hO) (cwV 0 hts gX3_tally_X3_wholeCanes rfl rfl rfl (by decide +kernel) ⟨Nat.le_of_ble_eq_true rfl, Nat.le_of_ble_eq_true rfl⟩) (hv_preV (r := (RX3, TX3, 8)) hKs hV hS hG.1 rfl) rfl rfl hl.1 rfl (lv_room (Nat.le_of_ble_eq_true rfl)) dX3_tally_55 ⟨(Nat.le_of_ble_eq_true rfl), (Nat.le_of_ble_eq_true rfl)⟩) hS (fun r9 u9 H locs hq hV hS => ?_)
    obtain ⟨rfl, rfl⟩ := hq
    have hV : hv D N0 ad ct H := hV
    exact hv_iret (v := nI (nsm (wh σ) (gNC σ))) (u := (ad, ct)) hx hb hr ⟨rfl, rfl⟩ hV hS dX3_tally_58 hlocks
  · refine lv_tableIn (tgt := 59) hx hb dX3_tally_1 (by decide) (by decide) rfl (by decide) ?_
    refine lv_aload_n hx hb dX3_tally_59 rfl (lv_at hl 0 rfl) ?_
    refine hv_get (C := RX3) (T := TX3) (N := 8) hx hb hts hiX3 hown hKs hV hG.1 4 rfl (by decide) lk111 (fun _ h9 => h9) rfl dX3_tally_60 ?_
    exact hv_iret (v := nI (gNS σ)) (u := (ad, ct)) hx hb hr ⟨rfl, rfl⟩ hV hS dX3_tally_63 hlocks
  · refine lv_tableIn (tgt := 64) hx hb dX3_tally_1 (by decide) (by decide) rfl (by decide) ?_
    refine lv_aload_n hx hb dX3_tally_64 rfl (lv_at hl 0 rfl) ?_
    refine hv_calli (va_runV (As := []) (rest := []) ⟨hx, hb, hml, hown, hts⟩ (c_X3_slicesInEyes l D N0 ad ct hG hO) (cwV 0 hts gX3_tally_X3_slicesInEyes rfl rfl rfl (by decide +kernel) ⟨Nat.le_of_ble_eq_true rfl, Nat.le_of_ble_eq_true rfl⟩) (hv_preV (r := (RX3, TX3, 8)) hKs hV hS hG.1 rfl) rfl rfl hl.1 rfl (lv_room (Nat.le_of_ble_eq_true rfl)) dX3_tally_65 ⟨(Nat.le_of_ble_eq_true rfl), (Nat.le_of_ble_eq_true rfl)⟩) hS (fun r9 u9 H locs hq hV hS => ?_)
    obtain ⟨rfl, rfl⟩ := hq
    have hV : hv D N0 ad ct H := hV
    exact hv_iret (v := nI (nsm (ie σ) 24)) (u := (ad, ct)) hx hb hr ⟨rfl, rfl⟩ hV hS dX3_tally_68 hlocks
  · refine lv_tableIn (tgt := 69) hx hb dX3_tally_1 (by decide) (by decide) rfl (by decide) ?_
    refine lv_aload_n hx hb dX3_tally_69 rfl (lv_at hl 0 rfl) ?_
    refine hv_get (C := RX3) (T := TX3) (N := 8) hx hb hts hiX3 hown hKs hV hG.1 5 rfl (by decide) lk158 (fun _ h9 => h9) rfl dX3_tally_70 ?_
    exact hv_iret (v := nI (gNB σ)) (u := (ad, ct)) hx hb hr ⟨rfl, rfl⟩ hV hS dX3_tally_73 hlocks
  · refine lv_tableIn (tgt := 74) hx hb dX3_tally_1 (by decide) (by decide) rfl (by decide) ?_
    refine lv_aload_n hx hb dX3_tally_74 rfl (lv_at hl 0 rfl) ?_
    refine hv_calli (va_runV (As := []) (rest := []) ⟨hx, hb, hml, hown, hts⟩ (c_X3_beadsOfOneLook l D N0 ad ct hG hO) (cwV 0 hts gX3_tally_X3_beadsOfOneLook rfl rfl rfl (by decide +kernel) ⟨Nat.le_of_ble_eq_true rfl, Nat.le_of_ble_eq_true rfl⟩) (hv_preV (r := (RX3, TX3, 8)) hKs hV hS hG.1 rfl) rfl rfl hl.1 rfl (lv_room (Nat.le_of_ble_eq_true rfl)) dX3_tally_75 ⟨(Nat.le_of_ble_eq_true rfl), (Nat.le_of_ble_eq_true rfl)⟩) hS (fun r9 u9 H locs hq hV hS => ?_)
    obtain ⟨rfl, rfl⟩ := hq
    have hV : hv D N0 ad ct H := hV
    exact hv_iret (v := nI (nsm (bl σ) (gNB σ))) (u := (ad, ct)) hx hb hr ⟨rfl, rfl⟩ hV hS dX3_tally_78 hlocks
  · refine lv_tableOut (tgt := 79) hx hb dX3_tally_1 (by decide) (by decide) ?_
    refine lv_aload_n hx hb dX3_tally_79 rfl (lv_at hl 0 rfl) ?_
    refine hv_calli (va_runV (As := []) (rest := []) ⟨hx, hb, hml, hown, hts⟩ (c_X3_lengthOfAll l D N0 ad ct hG hO) (cwV 0 hts gX3_tally_X3_lengthOfAll rfl rfl rfl (by decide +kernel) ⟨Nat.le_of_ble_eq_true rfl, Nat.le_of_ble_eq_true rfl⟩) (hv_preV (r := (RX3, TX3, 8)) hKs hV hS hG.1 rfl) rfl rfl hl.1 rfl (lv_room (Nat.le_of_ble_eq_true rfl)) dX3_tally_80 ⟨(Nat.le_of_ble_eq_true rfl), (Nat.le_of_ble_eq_true rfl)⟩) hS (fun r9 u9 H locs hq hV hS => ?_)
    obtain ⟨rfl, rfl⟩ := hq
    have hV : hv D N0 ad ct H := hV
    exact hv_iret (v := nI (nsm (cLen σ) (gNC σ))) (u := (ad, ct)) hx hb hr ⟨rfl, rfl⟩ hV hS dX3_tally_83 hlocks
