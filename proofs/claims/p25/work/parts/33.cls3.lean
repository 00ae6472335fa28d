set_option maxHeartbeats 4000000 in
set_option maxRecDepth 100000 in
theorem c_X3_digestWith (l : Launch) (D : hG) (N0 : Nat) (ad : Nat → Nat) (ct : hC) (d9 : Int64) (x : Int32) : Met l yX3_digestWith wsX3_digestWith ({ frames := 0, cells := 0, slots := 0, locals := 0 }) (hPc D N0 ad ct [.long (d9), .int (x)]) (va_Ql (fun (z : Int64) (u : hU) => z = dgw d9 x ∧ u = (ad, ct)) (hB D N0) (hA N0)) 0 0 (hA N0) := by
  refine Met.ofW (cc := cX3_digestWith) (maxL := 3) (ret := (some .long)) (by decide) rfl ?_
  intro p e s m args below meth c s₁ B hml hv0
  obtain ⟨hargs, hKs, hV⟩ := hv0
  have hx := B.exec
  have hb := B.bytes
  have hr := B.returns
  have hts := atoms_spec (ws := wsX3_digestWith) B.pre
  have hown : s.vm.findClass RX3 = some m.cls := findClass_of_methodNamed B.named
  have hlocks := B.notSynchronized
  have hS : va_S (hA N0) s.heap s.heap [] := va_S.rf
  have lk266 := hts (.constantLong RX3 266 (31)) (by decide +kernel)
  have hl := lv_entry ([.long (d9), .int (x)]) (n := 3) (Nat.le_of_ble_eq_true rfl)
  have hE : entryFrame m args 3 = entryFrame m ([.long (d9), .int (x)] : List Value).toArray 3 := by rw [hargs]
  rw [hE, lg_entry_eq]
  generalize (lg_sl ([.long (d9), .int (x)]) ++ List.replicate (3 - (lg_sl ([.long (d9), .int (x)])).length) Slot.unset).toArray = ls at hl ⊢
  have hl : lv_has ls 3 [(0, .long (d9)), (2, .int (x))] := hl
  refine lv_lload_n hx hb dX3_digestWith_0 rfl (lv_at hl 0 rfl) ?_
  refine lv_ldc2 (v := 31) hx hb hown lk266 dX3_digestWith_1 ?_
  refine lv_lmul hx hb dX3_digestWith_4 ?_
  refine lv_iload_n hx hb dX3_digestWith_5 rfl (lv_at hl 1 rfl) ?_
  refine lv_i2l hx hb dX3_digestWith_6 rfl ?_
  refine lv_ladd hx hb dX3_digestWith_7 ?_
  exact hv_lret (v := ((d9) * (31)) + (((x)).toInt64)) (u := (ad, ct)) hx hb hr ⟨rfl, rfl⟩ hV hS dX3_digestWith_8 hlocks

set_option maxHeartbeats 4000000 in
set_option maxRecDepth 100000 in
theorem c_X3_digestWithPattern (l : Launch) (D : hG) (N0 : Nat) (ad : Nat → Nat) (ct : hC) (d0 : Int64) {t : Nat} {P : Nat → Nat} (hp : hPat D ad ct t P) : Met l yX3_digestWithPattern wsX3_digestWithPattern ({ frames := 1, cells := 0, slots := 0, locals := 22 }) (hPc D N0 ad ct [.long (d0), .ref (ad (t))]) (va_Ql (fun (z : Int64) (u : hU) => z = dgn d0 (fun j => nI (P j)) 24 ∧ u = (ad, ct)) (hB D N0) (hA N0)) 0 0 (hA N0) := by
  refine Met.ofW (cc := cX3_digestWithPattern) (maxL := 9) (ret := (some .long)) (by decide) rfl ?_
  intro p e s m args below meth c s₁ B hml hv0
  obtain ⟨hargs, hKs, hV⟩ := hv0
  have hx := B.exec
  have hb := B.bytes
  have hr := B.returns
  have hts := atoms_spec (ws := wsX3_digestWithPattern) B.pre
  have hown : s.vm.findClass RX3 = some m.cls := findClass_of_methodNamed B.named
  have hlocks := B.notSynchronized
  have hS : va_S (hA N0) s.heap s.heap [] := va_S.rf
  have hiX1 : ∀ w ∈ u_ws RX1 TX1 1, w ∈ wsX3_digestWithPattern := by decide +kernel
  have kn272 := hKs.2.1 (272, "CaneSlices$Pattern", "colours", "[I") (by decide +kernel)
  have hl := lv_entry ([.long (d0), .ref (ad (t))]) (n := 9) (Nat.le_of_ble_eq_true rfl)
  have hE : entryFrame m args 9 = entryFrame m ([.long (d0), .ref (ad (t))] : List Value).toArray 9 := by rw [hargs]
  rw [hE, lg_entry_eq]
  generalize (lg_sl ([.long (d0), .ref (ad (t))]) ++ List.replicate (9 - (lg_sl ([.long (d0), .ref (ad (t))])).length) Slot.unset).toArray = ls at hl ⊢
  have hl : lv_has ls 9 [(0, .long (d0)), (2, .ref (ad (t)))] := hl
  obtain ⟨hp1, F, hp2, hF, hP⟩ := hp
  refine lv_lload_n hx hb dX3_digestWithPattern_0 rfl (lv_at hl 0 rfl) ?_
  refine lv_lstore_n (lv' := [(3, .long (d0)), (0, .long (d0)), (2, .ref (ad (t)))]) hx hb dX3_digestWithPattern_1 rfl hl (by decide) rfl (fun ls hl => ?_)
  refine lv_aload_n hx hb dX3_digestWithPattern_2 rfl (lv_at hl 2 rfl) ?_
  refine hv_getN (C := RX1) (T := TX1) (N := 1) hx hb hts hiX1 hown hKs hV hp1 0 rfl (by decide) kn272 (fun _ h9 => h9) rfl dX3_digestWithPattern_3 ?_
  refine lv_astore (lv' := [(5, .ref (ad (t + 1))), (3, .long (d0)), (0, .long (d0)), (2, .ref (ad (t)))]) hx hb dX3_digestWithPattern_6 hl (by decide) rfl (fun ls hl => ?_)
  refine lv_aload hx hb dX3_digestWithPattern_8 (lv_at hl 0 rfl) ?_
  refine hv_alen hx hb hKs hV 0 hp2 rfl dX3_digestWithPattern_10 ?_
  refine lv_istore (lv' := [(6, .int (nI (24))), (5, .ref (ad (t + 1))), (3, .long (d0)), (0, .long (d0)), (2, .ref (ad (t)))]) hx hb dX3_digestWithPattern_11 hl (by decide) rfl (fun ls hl => ?_)
  refine lv_iconst (v := nI 0) hx hb dX3_digestWithPattern_13 (by decide) ?_
  refine lv_istore (lv' := [(7, .int (nI (0))), (6, .int (nI (24))), (5, .ref (ad (t + 1))), (3, .long (d0)), (0, .long (d0)), (2, .ref (ad (t)))]) hx hb dX3_digestWithPattern_14 hl (by decide) rfl (fun ls hl => ?_)
  have L16 : ∀ (n i : Nat) (d9 : Int64), i ≤ 24 → 24 < i + n → ∀ (H : Heap) (locs : List Loc), (d9 = dgn d0 (fun j => nI (P j)) i) → hv D N0 ad ct H → va_S (hA N0) s.heap H locs → ∀ ls : Array Slot, lv_has ls 9 [(3, .long (d9)), (5, .ref (ad (t + 1))), (6, .int (nI (24))), (7, .int (nI (i)))] → W p l e (headSpec wsX3_digestWithPattern ({ frames := 1, cells := 0, slots := 0, locals := 22 })).room s m args below meth c H locs 0 0 (MQ below (va_Ql (fun (z : Int64) (u : hU) => z = dgn d0 (fun j => nI (P j)) 24 ∧ u = (ad, ct)) (hB D N0) (hA N0)) args s 0 0 (hA N0)) (F0 m 16 ls []) := by
    intro n
    induction n with
    | zero => intro i d9 h1 h2; exact absurd h2 (by omega)
    | succ n ih16 =>
      intro i d9 hi16 hn16 H locs gd hV hS ls hl
      refine lv_iload hx hb dX3_digestWithPattern_16 (lv_at hl 3 rfl) ?_
      refine lv_iload hx hb dX3_digestWithPattern_18 (lv_at hl 2 rfl) ?_
      refine hN_icmp_ge (tgt := 43) hx hb (by omega) (by omega) dX3_digestWithPattern_20 (by decide) (fun c20 => ?_) (fun c20 => ?_)
      · refine lv_lload_n hx hb dX3_digestWithPattern_43 rfl (lv_at hl 0 rfl) ?_
        exact hv_lret (v := d9) (u := (ad, ct)) hx hb hr ⟨by rw [gd, show i = 24 by omega], rfl⟩ hV hS dX3_digestWithPattern_44 hlocks
      · refine lv_aload hx hb dX3_digestWithPattern_23 (lv_at hl 1 rfl) ?_
        refine lv_iload hx hb dX3_digestWithPattern_25 (lv_at hl 3 rfl) ?_
        refine hv_iald hx hb hKs hV hp2 (by omega) (by decide) dX3_digestWithPattern_27 ?_
        refine hv_eqi (hF (i) (by omega)) ?_
        refine lv_istore (lv' := [(8, .int (nI (P (i)))), (3, .long (d9)), (5, .ref (ad (t + 1))), (6, .int (nI (24))), (7, .int (nI (i)))]) hx hb dX3_digestWithPattern_28 hl (by decide) rfl (fun ls hl => ?_)
        refine lv_lload_n hx hb dX3_digestWithPattern_30 rfl (lv_at hl 1 rfl) ?_
        refine lv_iload hx hb dX3_digestWithPattern_31 (lv_at hl 0 rfl) ?_
        refine hv_calll (va_runS (As := [.long (d9), .int (nI (P (i)))]) (rest := []) ⟨hx, hb, hml, hown, hts⟩ (c_X3_digestWith l D N0 ad ct (d9) (nI (P (i)))) (va_cwS 2 hts gX3_digestWithPattern_X3_digestWith rfl rfl rfl (by decide +kernel) ⟨Nat.le_of_ble_eq_true rfl, Nat.le_of_ble_eq_true rfl⟩) (hv_preS hKs hV hS) rfl rfl hl.1 rfl (lv_room (Nat.le_of_ble_eq_true rfl)) dX3_digestWithPattern_33 ⟨(Nat.le_of_ble_eq_true rfl), (Nat.le_of_ble_eq_true rfl)⟩) hS (fun r9 u9 H locs hq hV hS => ?_)
        obtain ⟨rfl, rfl⟩ := hq
        have hV : hv D N0 ad ct H := hV
        refine lv_lstore_n (lv' := [(3, .long (dgw (d9) (nI (P (i))))), (8, .int (nI (P (i)))), (5, .ref (ad (t + 1))), (6, .int (nI (24))), (7, .int (nI (i)))]) hx hb dX3_digestWithPattern_36 rfl hl (by decide) rfl (fun ls hl => ?_)
        refine lv_iinc (v := nI (i + 1)) (lv' := [(7, .int (nI (i + 1))), (3, .long (dgw (d9) (nI (P (i))))), (8, .int (nI (P (i)))), (5, .ref (ad (t + 1))), (6, .int (nI (24)))]) hx hb dX3_digestWithPattern_37 hl (k := 4) rfl (nI_add (i) 1) (by decide) rfl (fun ls hl => ?_)
        refine lv_goto (tgt := 16) hx hb dX3_digestWithPattern_40 (by decide) ?_
        exact ih16 (i + 1) (dgw (d9) (nI (P (i)))) (by omega) (by omega) _ _ (by rw [gd]; rfl) hV hS ls (lv_sub hl [1, 3, 4, 0] rfl)
  exact L16 (24 + 1) (0) (d0) (by omega) (by omega) _ _ (rfl) hV hS ls (lv_sub hl [3, 2, 1, 0] rfl)

set_option maxHeartbeats 4000000 in
set_option maxRecDepth 100000 in
theorem c_X3_digestWithCanes (l : Launch) (D : hG) (N0 : Nat) (ad : Nat → Nat) (ct : hC) {σ : gS} (hG : gX D σ ad ct) (hO : okS σ) (d0 : Int64) : Met l yX3_digestWithCanes wsX3_digestWithCanes ({ frames := 2, cells := 0, slots := 0, locals := 50 }) (hPc D N0 ad ct [.ref (ad (0)), .long (d0)]) (va_Ql (fun (z : Int64) (u : hU) => z = dgc σ d0 (gNC σ) ∧ u = (ad, ct)) (hB D N0) (hA N0)) 0 0 (hA N0) := by
  refine Met.ofW (cc := cX3_digestWithCanes) (maxL := 8) (ret := (some .long)) (by decide) rfl ?_
  intro p e s m args below meth c s₁ B hml hv0
  obtain ⟨hargs, hKs, hV⟩ := hv0
  have hx := B.exec
  have hb := B.bytes
  have hr := B.returns
  have hts := atoms_spec (ws := wsX3_digestWithCanes) B.pre
  have hown : s.vm.findClass RX3 = some m.cls := findClass_of_methodNamed B.named
  have hlocks := B.notSynchronized
  have hS : va_S (hA N0) s.heap s.heap [] := va_S.rf
  have hiX0 : ∀ w ∈ u_ws RX0 TX0 5, w ∈ wsX3_digestWithCanes := by decide +kernel
  have hiX3 : ∀ w ∈ u_ws RX3 TX3 8, w ∈ wsX3_digestWithCanes := by decide +kernel
  have lk11 := hts (.fieldLink RX3 11 "CaneSlices" "canes" "[LCaneSlices$Cane;") (by decide +kernel)
  have kn71 := hKs.2.1 (71, "CaneSlices$Cane", "pattern", "LCaneSlices$Pattern;") (by decide +kernel)
  have lk24 := hts (.fieldLink RX3 24 "CaneSlices" "inFurnace" "I") (by decide +kernel)
  have hl := lv_entry ([.ref (ad (0)), .long (d0)]) (n := 8) (Nat.le_of_ble_eq_true rfl)
  have hE : entryFrame m args 8 = entryFrame m ([.ref (ad (0)), .long (d0)] : List Value).toArray 8 := by rw [hargs]
  rw [hE, lg_entry_eq]
  generalize (lg_sl ([.ref (ad (0)), .long (d0)]) ++ List.replicate (8 - (lg_sl ([.ref (ad (0)), .long (d0)])).length) Slot.unset).toArray = ls at hl ⊢
  have hl : lv_has ls 8 [(0, .ref (ad (0))), (1, .long (d0))] := hl
  obtain ⟨hn8, hn60, hn6, -⟩ := id hO
  refine lv_lload_n hx hb dX3_digestWithCanes_0 rfl (lv_at hl 1 rfl) ?_
  refine lv_lstore_n (lv' := [(3, .long (d0)), (0, .ref (ad (0))), (1, .long (d0))]) hx hb dX3_digestWithCanes_1 rfl hl (by decide) rfl (fun ls hl => ?_)
  refine lv_iconst (v := nI 0) hx hb dX3_digestWithCanes_2 (by decide) ?_
  refine lv_istore (lv' := [(5, .int (nI (0))), (3, .long (d0)), (0, .ref (ad (0))), (1, .long (d0))]) hx hb dX3_digestWithCanes_3 hl (by decide) rfl (fun ls hl => ?_)
  have L5 : ∀ (n i : Nat) (d9 : Int64), i ≤ 8 → 8 < i + n → ∀ (H : Heap) (locs : List Loc), (d9 = dgc σ d0 (min i (gNC σ))) → hv D N0 ad ct H → va_S (hA N0) s.heap H locs → ∀ ls : Array Slot, lv_has ls 8 [(0, .ref (ad (0))), (3, .long (d9)), (5, .int (nI (i)))] → W p l e (headSpec wsX3_digestWithCanes ({ frames := 2, cells := 0, slots := 0, locals := 50 })).room s m args below meth c H locs 0 0 (MQ below (va_Ql (fun (z : Int64) (u : hU) => z = dgc σ d0 (gNC σ) ∧ u = (ad, ct)) (hB D N0) (hA N0)) args s 0 0 (hA N0)) (F0 m 5 ls []) := by
    intro n
    induction n with
    | zero => intro i d9 h1 h2; exact absurd h2 (by omega)
    | succ n ih5 =>
      intro i d9 hi5 hn5 H locs gd hV hS ls hl
      refine lv_iload hx hb dX3_digestWithCanes_5 (lv_at hl 2 rfl) ?_
      refine lv_bipush (v := nI 8) hx hb dX3_digestWithCanes_7 (by decide) ?_
      refine hN_icmp_ge (tgt := 83) hx hb (by omega) (by omega) dX3_digestWithCanes_9 (by decide) (fun c9 => ?_) (fun c9 => ?_)
      · refine lv_lload_n hx hb dX3_digestWithCanes_83 rfl (lv_at hl 1 rfl) ?_
        exact hv_lret (v := d9) (u := (ad, ct)) hx hb hr ⟨by rw [gd, Nat.min_eq_right (by omega)], rfl⟩ hV hS dX3_digestWithCanes_84 hlocks
      · refine lv_aload_n hx hb dX3_digestWithCanes_12 rfl (lv_at hl 0 rfl) ?_
        refine hv_get (C := RX3) (T := TX3) (N := 8) hx hb hts hiX3 hown hKs hV hG.1 0 rfl (by decide) lk11 (fun _ h9 => h9) rfl dX3_digestWithCanes_13 ?_
        refine lv_iload hx hb dX3_digestWithCanes_16 (lv_at hl 2 rfl) ?_
        refine hv_aald hx hb hKs hV 1 hG.2.1 rfl (by omega) (by decide) dX3_digestWithCanes_18 ?_
        refine hv_ifQ (fun cq18 => ?_) (fun cq18 => ?_)
        · refine lv_astore (lv' := [(6, .ref (ad (16 * (i) + 3))), (0, .ref (ad (0))), (3, .long (d9)), (5, .int (nI (i)))]) hx hb dX3_digestWithCanes_19 hl (by decide) rfl (fun ls hl => ?_)
          refine lv_aload hx hb dX3_digestWithCanes_21 (lv_at hl 0 rfl) ?_
          refine lv_ifnull hx hb dX3_digestWithCanes_23 ?_
          refine lv_iconst (v := nI 0) hx hb dX3_digestWithCanes_26 (by decide) ?_
          refine lv_istore (lv' := [(7, .int (nI (0))), (6, .ref (ad (16 * (i) + 3))), (0, .ref (ad (0))), (3, .long (d9)), (5, .int (nI (i)))]) hx hb dX3_digestWithCanes_27 hl (by decide) rfl (fun ls hl => ?_)
          have L29 : ∀ (n k : Nat) (d8 : Int64), k ≤ 5 → 5 < k + n → ∀ (H : Heap) (locs : List Loc), (d8 = dgn d9 (tel σ i) k) → hv D N0 ad ct H → va_S (hA N0) s.heap H locs → ∀ ls : Array Slot, lv_has ls 8 [(0, .ref (ad (0))), (3, .long (d8)), (5, .int (nI (i))), (6, .ref (ad (16 * (i) + 3))), (7, .int (nI (k)))] → W p l e (headSpec wsX3_digestWithCanes ({ frames := 2, cells := 0, slots := 0, locals := 50 })).room s m args below meth c H locs 0 0 (MQ below (va_Ql (fun (z : Int64) (u : hU) => z = dgc σ d0 (gNC σ) ∧ u = (ad, ct)) (hB D N0) (hA N0)) args s 0 0 (hA N0)) (F0 m 29 ls []) := by
            intro n
            induction n with
            | zero => intro k d8 h1 h2; exact absurd h2 (by omega)
            | succ n ih29 =>
              intro k d8 hi29 hn29 H locs gd8 hV hS ls hl
              refine lv_iload hx hb dX3_digestWithCanes_29 (lv_at hl 4 rfl) ?_
              refine lv_iconst (v := nI 5) hx hb dX3_digestWithCanes_31 (by decide) ?_
              refine hN_icmp_ge (tgt := 67) hx hb (by omega) (by omega) dX3_digestWithCanes_32 (by decide) (fun c32 => ?_) (fun c32 => ?_)
              · refine lv_lload_n hx hb dX3_digestWithCanes_67 rfl (lv_at hl 1 rfl) ?_
                refine lv_aload hx hb dX3_digestWithCanes_68 (lv_at hl 3 rfl) ?_
                have hc1 := hG.2.2.2.2.1 (i) (by omega)
                have hc1b : cLen σ (i) ≤ 60 ∧ cHt σ (i) ≤ 10 := ⟨(hO.2.2.2.1 (i) (by omega)).1, (hO.2.2.2.1 (i) (by omega)).2.1⟩
                have hc1f : ct (16 * (i) + 3) = some (eO 0 [.ref (ad (16 * (i) + 4)), .int (nI (cLen σ (i))), .int (cTw σ (i)), .int (nI (cHt σ (i))), .int (hbv (cCr σ (i)))]) := hc1.1
                refine hv_getN (C := RX0) (T := TX0) (N := 5) hx hb hts hiX0 hown hKs hV hc1f 0 rfl (by decide) kn71 (fun _ h9 => h9) rfl dX3_digestWithCanes_70 ?_
                refine hv_calll (va_runS (As := [.long (d8), .ref (ad (16 * (i) + 4))]) (rest := []) ⟨hx, hb, hml, hown, hts⟩ (c_X3_digestWithPattern l D N0 ad ct (d8) hc1.2) (va_cwS 2 hts gX3_digestWithCanes_X3_digestWithPattern rfl rfl rfl (by decide +kernel) ⟨Nat.le_of_ble_eq_true rfl, Nat.le_of_ble_eq_true rfl⟩) (hv_preS hKs hV hS) rfl rfl hl.1 rfl (lv_room (Nat.le_of_ble_eq_true rfl)) dX3_digestWithCanes_73 ⟨(Nat.le_of_ble_eq_true rfl), (Nat.le_of_ble_eq_true rfl)⟩) hS (fun r9 u9 H locs hq hV hS => ?_)
                obtain ⟨rfl, rfl⟩ := hq
                have hV : hv D N0 ad ct H := hV
                refine lv_lstore_n (lv' := [(3, .long (dgn (d8) (fun j => nI (cPt σ (i) j)) 24)), (0, .ref (ad (0))), (5, .int (nI (i))), (6, .ref (ad (16 * (i) + 3))), (7, .int (nI (k)))]) hx hb dX3_digestWithCanes_76 rfl hl (by decide) rfl (fun ls hl => ?_)
                refine lv_iinc (v := nI (i + 1)) (lv' := [(5, .int (nI (i + 1))), (3, .long (dgn (d8) (fun j => nI (cPt σ (i) j)) 24)), (0, .ref (ad (0))), (6, .ref (ad (16 * (i) + 3))), (7, .int (nI (k)))]) hx hb dX3_digestWithCanes_77 hl (k := 2) rfl (nI_add (i) 1) (by decide) rfl (fun ls hl => ?_)
                refine lv_goto (tgt := 5) hx hb dX3_digestWithCanes_80 (by decide) ?_
                exact ih5 (i + 1) (dgn (d8) (fun j => nI (cPt σ (i) j)) 24) (by omega) (by omega) _ _ (by rw [gd8, show k = 5 by omega, gd, show min (i + 1) (gNC σ) = i + 1 by omega, show min i (gNC σ) = i by omega]; rfl) hV hS ls (lv_sub hl [2, 1, 0] rfl)
              · refine lv_lload_n hx hb dX3_digestWithCanes_35 rfl (lv_at hl 1 rfl) ?_
                refine lv_aload hx hb dX3_digestWithCanes_36 (lv_at hl 3 rfl) ?_
                refine lv_iload hx hb dX3_digestWithCanes_38 (lv_at hl 4 rfl) ?_
                refine lv_iload hx hb dX3_digestWithCanes_40 (lv_at hl 2 rfl) ?_
                refine lv_aload_n hx hb dX3_digestWithCanes_42 rfl (lv_at hl 0 rfl) ?_
                refine hv_get (C := RX3) (T := TX3) (N := 8) hx hb hts hiX3 hown hKs hV hG.1 6 rfl (by decide) lk24 (fun _ h9 => h9) rfl dX3_digestWithCanes_43 ?_
                refine hL_icmp_ne (tgt := 53) hx hb (by omega) dX3_digestWithCanes_46 (by decide) (fun c46 => ?_) (fun c46 => ?_)
                · refine lv_iconst (v := nI 0) hx hb dX3_digestWithCanes_53 (by decide) ?_
                  have hc2 := hG.2.2.2.2.1 (i) (by omega)
                  have hc2b : cLen σ (i) ≤ 60 ∧ cHt σ (i) ≤ 10 := ⟨(hO.2.2.2.1 (i) (by omega)).1, (hO.2.2.2.1 (i) (by omega)).2.1⟩
                  have hc2f : ct (16 * (i) + 3) = some (eO 0 [.ref (ad (16 * (i) + 4)), .int (nI (cLen σ (i))), .int (cTw σ (i)), .int (nI (cHt σ (i))), .int (hbv (cCr σ (i)))]) := hc2.1
                  refine hv_calli (va_runV (As := [.int (nI (k)), .int (nI (0))]) (rest := [.long (d8)]) ⟨hx, hb, hml, hown, hts⟩ (c_X0_tell l D N0 ad ct hc2f (k) (by omega) (false)) (cwV 2 hts gX3_digestWithCanes_X0_tell rfl rfl rfl (by decide +kernel) ⟨Nat.le_of_ble_eq_true rfl, Nat.le_of_ble_eq_true rfl⟩) (hv_preV (r := (RX0, TX0, 5)) hKs hV hS hc2f rfl) rfl rfl hl.1 rfl (lv_room (Nat.le_of_ble_eq_true rfl)) dX3_digestWithCanes_54 ⟨(Nat.le_of_ble_eq_true rfl), (Nat.le_of_ble_eq_true rfl)⟩) hS (fun r9 u9 H locs hq hV hS => ?_)
                  obtain ⟨rfl, rfl⟩ := hq
                  have hV : hv D N0 ad ct H := hV
                  refine hv_eqi (y := tel σ (i) (k)) (tel_f (by omega) c46) ?_
                  refine hv_calll (va_runS (As := [.long (d8), .int (tel σ (i) (k))]) (rest := []) ⟨hx, hb, hml, hown, hts⟩ (c_X3_digestWith l D N0 ad ct (d8) ((tel σ (i) (k)))) (va_cwS 2 hts gX3_digestWithCanes_X3_digestWith rfl rfl rfl (by decide +kernel) ⟨Nat.le_of_ble_eq_true rfl, Nat.le_of_ble_eq_true rfl⟩) (hv_preS hKs hV hS) rfl rfl hl.1 rfl (lv_room (Nat.le_of_ble_eq_true rfl)) dX3_digestWithCanes_57 ⟨(Nat.le_of_ble_eq_true rfl), (Nat.le_of_ble_eq_true rfl)⟩) hS (fun r9 u9 H locs hq hV hS => ?_)
                  obtain ⟨rfl, rfl⟩ := hq
                  have hV : hv D N0 ad ct H := hV
                  refine lv_lstore_n (lv' := [(3, .long (dgw (d8) ((tel σ (i) (k))))), (0, .ref (ad (0))), (5, .int (nI (i))), (6, .ref (ad (16 * (i) + 3))), (7, .int (nI (k)))]) hx hb dX3_digestWithCanes_60 rfl hl (by decide) rfl (fun ls hl => ?_)
                  refine lv_iinc (v := nI (k + 1)) (lv' := [(7, .int (nI (k + 1))), (3, .long (dgw (d8) ((tel σ (i) (k))))), (0, .ref (ad (0))), (5, .int (nI (i))), (6, .ref (ad (16 * (i) + 3)))]) hx hb dX3_digestWithCanes_61 hl (k := 4) rfl (nI_add (k) 1) (by decide) rfl (fun ls hl => ?_)
                  refine lv_goto (tgt := 29) hx hb dX3_digestWithCanes_64 (by decide) ?_
                  exact ih29 (k + 1) (dgw (d8) ((tel σ (i) (k)))) (by omega) (by omega) _ _ (by rw [gd8]; rfl) hV hS ls (lv_sub hl [2, 1, 3, 4, 0] rfl)
                · refine lv_iconst (v := nI 1) hx hb dX3_digestWithCanes_49 (by decide) ?_
                  refine lv_goto (tgt := 54) hx hb dX3_digestWithCanes_50 (by decide) ?_
                  have hc3 := hG.2.2.2.2.1 (i) (by omega)
                  have hc3b : cLen σ (i) ≤ 60 ∧ cHt σ (i) ≤ 10 := ⟨(hO.2.2.2.1 (i) (by omega)).1, (hO.2.2.2.1 (i) (by omega)).2.1⟩
                  have hc3f : ct (16 * (i) + 3) = some (eO 0 [.ref (ad (16 * (i) + 4)), .int (nI (cLen σ (i))), .int (cTw σ (i)), .int (nI (cHt σ (i))), .int (hbv (cCr σ (i)))]) := hc3.1
                  refine hv_calli (va_runV (As := [.int (nI (k)), .int (nI (1))]) (rest := [.long (d8)]) ⟨hx, hb, hml, hown, hts⟩ (c_X0_tell l D N0 ad ct hc3f (k) (by omega) (true)) (cwV 2 hts gX3_digestWithCanes_X0_tell rfl rfl rfl (by decide +kernel) ⟨Nat.le_of_ble_eq_true rfl, Nat.le_of_ble_eq_true rfl⟩) (hv_preV (r := (RX0, TX0, 5)) hKs hV hS hc3f rfl) rfl rfl hl.1 rfl (lv_room (Nat.le_of_ble_eq_true rfl)) dX3_digestWithCanes_54 ⟨(Nat.le_of_ble_eq_true rfl), (Nat.le_of_ble_eq_true rfl)⟩) hS (fun r9 u9 H locs hq hV hS => ?_)
                  obtain ⟨rfl, rfl⟩ := hq
                  have hV : hv D N0 ad ct H := hV
                  refine hv_eqi (y := tel σ (i) (k)) (tel_t (by omega) c46) ?_
                  refine hv_calll (va_runS (As := [.long (d8), .int (tel σ (i) (k))]) (rest := []) ⟨hx, hb, hml, hown, hts⟩ (c_X3_digestWith l D N0 ad ct (d8) ((tel σ (i) (k)))) (va_cwS 2 hts gX3_digestWithCanes_X3_digestWith rfl rfl rfl (by decide +kernel) ⟨Nat.le_of_ble_eq_true rfl, Nat.le_of_ble_eq_true rfl⟩) (hv_preS hKs hV hS) rfl rfl hl.1 rfl (lv_room (Nat.le_of_ble_eq_true rfl)) dX3_digestWithCanes_57 ⟨(Nat.le_of_ble_eq_true rfl), (Nat.le_of_ble_eq_true rfl)⟩) hS (fun r9 u9 H locs hq hV hS => ?_)
                  obtain ⟨rfl, rfl⟩ := hq
                  have hV : hv D N0 ad ct H := hV
                  refine lv_lstore_n (lv' := [(3, .long (dgw (d8) ((tel σ (i) (k))))), (0, .ref (ad (0))), (5, .int (nI (i))), (6, .ref (ad (16 * (i) + 3))), (7, .int (nI (k)))]) hx hb dX3_digestWithCanes_60 rfl hl (by decide) rfl (fun ls hl => ?_)
                  refine lv_iinc (v := nI (k + 1)) (lv' := [(7, .int (nI (k + 1))), (3, .long (dgw (d8) ((tel σ (i) (k))))), (0, .ref (ad (0))), (5, .int (nI (i))), (6, .ref (ad (16 * (i) + 3)))]) hx hb dX3_digestWithCanes_61 hl (k := 4) rfl (nI_add (k) 1) (by decide) rfl (fun ls hl => ?_)
                  refine lv_goto (tgt := 29) hx hb dX3_digestWithCanes_64 (by decide) ?_
                  exact ih29 (k + 1) (dgw (d8) ((tel σ (i) (k)))) (by omega) (by omega) _ _ (by rw [gd8]; rfl) hV hS ls (lv_sub hl [2, 1, 3, 4, 0] rfl)
          exact L29 (5 + 1) (0) (d9) (by omega) (by omega) _ _ (rfl) hV hS ls (lv_sub hl [2, 3, 4, 1, 0] rfl)
        · refine lv_astoreN (lv' := [(6, .null), (0, .ref (ad (0))), (3, .long (d9)), (5, .int (nI (i)))]) hx hb dX3_digestWithCanes_19 hl (by decide) rfl (fun ls hl => ?_)
          refine lv_aloadN hx hb dX3_digestWithCanes_21 (lv_at hl 0 rfl) ?_
          refine lv_ifnullN (tgt := 77) hx hb dX3_digestWithCanes_23 (by decide) ?_
          refine lv_iinc (v := nI (i + 1)) (lv' := [(5, .int (nI (i + 1))), (6, .null), (0, .ref (ad (0))), (3, .long (d9))]) hx hb dX3_digestWithCanes_77 hl (k := 3) rfl (nI_add (i) 1) (by decide) rfl (fun ls hl => ?_)
          refine lv_goto (tgt := 5) hx hb dX3_digestWithCanes_80 (by decide) ?_
          exact ih5 (i + 1) (d9) (by omega) (by omega) _ _ (by rw [gd, show min (i + 1) (gNC σ) = min i (gNC σ) by omega]) hV hS ls (lv_sub hl [2, 3, 0] rfl)
  exact L5 (8 + 1) (0) (d0) (by omega) (by omega) _ _ (show d0 = dgc σ d0 (min 0 _) by rw [Nat.zero_min]; rfl) hV hS ls (lv_sub hl [2, 1, 0] rfl)

set_option maxHeartbeats 4000000 in
set_option maxRecDepth 100000 in
theorem c_X3_digestWithSlices (l : Launch) (D : hG) (N0 : Nat) (ad : Nat → Nat) (ct : hC) {σ : gS} (hG : gX D σ ad ct) (hO : okS σ) (d0 : Int64) : Met l yX3_digestWithSlices wsX3_digestWithSlices ({ frames := 2, cells := 0, slots := 0, locals := 50 }) (hPc D N0 ad ct [.ref (ad (0)), .long (d0)]) (va_Ql (fun (z : Int64) (u : hU) => z = dgs σ d0 (gNS σ) ∧ u = (ad, ct)) (hB D N0) (hA N0)) 0 0 (hA N0) := by
  refine Met.ofW (cc := cX3_digestWithSlices) (maxL := 9) (ret := (some .long)) (by decide) rfl ?_
  intro p e s m args below meth c s₁ B hml hv0
  obtain ⟨hargs, hKs, hV⟩ := hv0
  have hx := B.exec
  have hb := B.bytes
  have hr := B.returns
  have hts := atoms_spec (ws := wsX3_digestWithSlices) B.pre
  have hown : s.vm.findClass RX3 = some m.cls := findClass_of_methodNamed B.named
  have hlocks := B.notSynchronized
  have hS : va_S (hA N0) s.heap s.heap [] := va_S.rf
  have hiX2 : ∀ w ∈ u_ws RX2 TX2 5, w ∈ wsX3_digestWithSlices := by decide +kernel
  have hiX3 : ∀ w ∈ u_ws RX3 TX3 8, w ∈ wsX3_digestWithSlices := by decide +kernel
  have lk17 := hts (.fieldLink RX3 17 "CaneSlices" "slices" "[LCaneSlices$Slice;") (by decide +kernel)
  have kn152 := hKs.2.1 (152, "CaneSlices$Slice", "pattern", "LCaneSlices$Pattern;") (by decide +kernel)
  have kn155 := hKs.2.1 (155, "CaneSlices$Slice", "eye", "I") (by decide +kernel)
  have hl := lv_entry ([.ref (ad (0)), .long (d0)]) (n := 9) (Nat.le_of_ble_eq_true rfl)
  have hE : entryFrame m args 9 = entryFrame m ([.ref (ad (0)), .long (d0)] : List Value).toArray 9 := by rw [hargs]
  rw [hE, lg_entry_eq]
  generalize (lg_sl ([.ref (ad (0)), .long (d0)]) ++ List.replicate (9 - (lg_sl ([.ref (ad (0)), .long (d0)])).length) Slot.unset).toArray = ls at hl ⊢
  have hl : lv_has ls 9 [(0, .ref (ad (0))), (1, .long (d0))] := hl
  obtain ⟨hn8, hn60, hn6, -⟩ := id hO
  refine lv_lload_n hx hb dX3_digestWithSlices_0 rfl (lv_at hl 1 rfl) ?_
  refine lv_lstore_n (lv' := [(3, .long (d0)), (0, .ref (ad (0))), (1, .long (d0))]) hx hb dX3_digestWithSlices_1 rfl hl (by decide) rfl (fun ls hl => ?_)
  refine lv_aload_n hx hb dX3_digestWithSlices_2 rfl (lv_at hl 1 rfl) ?_
  refine hv_get (C := RX3) (T := TX3) (N := 8) hx hb hts hiX3 hown hKs hV hG.1 1 rfl (by decide) lk17 (fun _ h9 => h9) rfl dX3_digestWithSlices_3 ?_
  refine lv_astore (lv' := [(5, .ref (ad (32))), (3, .long (d0)), (0, .ref (ad (0))), (1, .long (d0))]) hx hb dX3_digestWithSlices_6 hl (by decide) rfl (fun ls hl => ?_)
  refine lv_aload hx hb dX3_digestWithSlices_8 (lv_at hl 0 rfl) ?_
  refine hv_alen hx hb hKs hV 2 hG.2.2.1 rfl dX3_digestWithSlices_10 ?_
  refine lv_istore (lv' := [(6, .int (nI (60))), (5, .ref (ad (32))), (3, .long (d0)), (0, .ref (ad (0))), (1, .long (d0))]) hx hb dX3_digestWithSlices_11 hl (by decide) rfl (fun ls hl => ?_)
  refine lv_iconst (v := nI 0) hx hb dX3_digestWithSlices_13 (by decide) ?_
  refine lv_istore (lv' := [(7, .int (nI (0))), (6, .int (nI (60))), (5, .ref (ad (32))), (3, .long (d0)), (0, .ref (ad (0))), (1, .long (d0))]) hx hb dX3_digestWithSlices_14 hl (by decide) rfl (fun ls hl => ?_)
  have L16 : ∀ (n i : Nat) (d9 : Int64), i ≤ 60 → 60 < i + n → ∀ (H : Heap) (locs : List Loc), (d9 = dgs σ d0 (min i (gNS σ))) → hv D N0 ad ct H → va_S (hA N0) s.heap H locs → ∀ ls : Array Slot, lv_has ls 9 [(0, .ref (ad (0))), (3, .long (d9)), (5, .ref (ad (32))), (6, .int (nI (60))), (7, .int (nI (i)))] → W p l e (headSpec wsX3_digestWithSlices ({ frames := 2, cells := 0, slots := 0, locals := 50 })).room s m args below meth c H locs 0 0 (MQ below (va_Ql (fun (z : Int64) (u : hU) => z = dgs σ d0 (gNS σ) ∧ u = (ad, ct)) (hB D N0) (hA N0)) args s 0 0 (hA N0)) (F0 m 16 ls []) := by
    intro n
    induction n with
    | zero => intro i d9 h1 h2; exact absurd h2 (by omega)
    | succ n ih16 =>
      intro i d9 hi16 hn16 H locs gd hV hS ls hl
      refine lv_iload hx hb dX3_digestWithSlices_16 (lv_at hl 4 rfl) ?_
      refine lv_iload hx hb dX3_digestWithSlices_18 (lv_at hl 3 rfl) ?_
      refine hN_icmp_ge (tgt := 61) hx hb (by omega) (by omega) dX3_digestWithSlices_20 (by decide) (fun c20 => ?_) (fun c20 => ?_)
      · refine lv_lload_n hx hb dX3_digestWithSlices_61 rfl (lv_at hl 1 rfl) ?_
        exact hv_lret (v := d9) (u := (ad, ct)) hx hb hr ⟨by rw [gd, Nat.min_eq_right (by omega)], rfl⟩ hV hS dX3_digestWithSlices_62 hlocks
      · refine lv_aload hx hb dX3_digestWithSlices_23 (lv_at hl 2 rfl) ?_
        refine lv_iload hx hb dX3_digestWithSlices_25 (lv_at hl 4 rfl) ?_
        refine hv_aald hx hb hKs hV 2 hG.2.2.1 rfl (by omega) (by decide) dX3_digestWithSlices_27 ?_
        refine hv_ifQ (fun cq27 => ?_) (fun cq27 => ?_)
        · refine lv_astore (lv' := [(8, .ref (ad (16 * (i) + 6))), (0, .ref (ad (0))), (3, .long (d9)), (5, .ref (ad (32))), (6, .int (nI (60))), (7, .int (nI (i)))]) hx hb dX3_digestWithSlices_28 hl (by decide) rfl (fun ls hl => ?_)
          refine lv_aload hx hb dX3_digestWithSlices_30 (lv_at hl 0 rfl) ?_
          refine lv_ifnull hx hb dX3_digestWithSlices_32 ?_
          refine lv_lload_n hx hb dX3_digestWithSlices_35 rfl (lv_at hl 2 rfl) ?_
          refine lv_aload hx hb dX3_digestWithSlices_36 (lv_at hl 0 rfl) ?_
          have hd1 := hG.2.2.2.2.2 (i) (by omega)
          have hd1f : ct (16 * (i) + 6) = some (eO 2 [.int (nI (i)), .ref (ad (16 * (i) + 7)), .int (nI (sKd σ (i))), .int (eyv (sEy σ (i))), .int (nI (trn σ (i)))]) := hd1.1
          refine hv_getN (C := RX2) (T := TX2) (N := 5) hx hb hts hiX2 hown hKs hV hd1f 1 rfl (by decide) kn152 (fun _ h9 => h9) rfl dX3_digestWithSlices_38 ?_
          refine hv_calll (va_runS (As := [.long (d9), .ref (ad (16 * (i) + 7))]) (rest := []) ⟨hx, hb, hml, hown, hts⟩ (c_X3_digestWithPattern l D N0 ad ct (d9) hd1.2) (va_cwS 2 hts gX3_digestWithSlices_X3_digestWithPattern rfl rfl rfl (by decide +kernel) ⟨Nat.le_of_ble_eq_true rfl, Nat.le_of_ble_eq_true rfl⟩) (hv_preS hKs hV hS) rfl rfl hl.1 rfl (lv_room (Nat.le_of_ble_eq_true rfl)) dX3_digestWithSlices_41 ⟨(Nat.le_of_ble_eq_true rfl), (Nat.le_of_ble_eq_true rfl)⟩) hS (fun r9 u9 H locs hq hV hS => ?_)
          obtain ⟨rfl, rfl⟩ := hq
          have hV : hv D N0 ad ct H := hV
          refine lv_lstore_n (lv' := [(3, .long (dgn (d9) (fun j => nI (sPt σ (i) j)) 24)), (8, .ref (ad (16 * (i) + 6))), (0, .ref (ad (0))), (5, .ref (ad (32))), (6, .int (nI (60))), (7, .int (nI (i)))]) hx hb dX3_digestWithSlices_44 rfl hl (by decide) rfl (fun ls hl => ?_)
          refine lv_lload_n hx hb dX3_digestWithSlices_45 rfl (lv_at hl 0 rfl) ?_
          refine lv_aload hx hb dX3_digestWithSlices_46 (lv_at hl 1 rfl) ?_
          refine hv_getN (C := RX2) (T := TX2) (N := 5) hx hb hts hiX2 hown hKs hV hd1f 3 rfl (by decide) kn155 (fun _ h9 => h9) rfl dX3_digestWithSlices_48 ?_
          refine hv_calll (va_runS (As := [.long (dgn (d9) (fun j => nI (sPt σ (i) j)) 24), .int (eyv (sEy σ (i)))]) (rest := []) ⟨hx, hb, hml, hown, hts⟩ (c_X3_digestWith l D N0 ad ct (dgn (d9) (fun j => nI (sPt σ (i) j)) 24) ((eyv (sEy σ (i))))) (va_cwS 2 hts gX3_digestWithSlices_X3_digestWith rfl rfl rfl (by decide +kernel) ⟨Nat.le_of_ble_eq_true rfl, Nat.le_of_ble_eq_true rfl⟩) (hv_preS hKs hV hS) rfl rfl hl.1 rfl (lv_room (Nat.le_of_ble_eq_true rfl)) dX3_digestWithSlices_51 ⟨(Nat.le_of_ble_eq_true rfl), (Nat.le_of_ble_eq_true rfl)⟩) hS (fun r9 u9 H locs hq hV hS => ?_)
          obtain ⟨rfl, rfl⟩ := hq
          have hV : hv D N0 ad ct H := hV
          refine lv_lstore_n (lv' := [(3, .long (dgw (dgn (d9) (fun j => nI (sPt σ (i) j)) 24) ((eyv (sEy σ (i)))))), (8, .ref (ad (16 * (i) + 6))), (0, .ref (ad (0))), (5, .ref (ad (32))), (6, .int (nI (60))), (7, .int (nI (i)))]) hx hb dX3_digestWithSlices_54 rfl hl (by decide) rfl (fun ls hl => ?_)
          refine lv_iinc (v := nI (i + 1)) (lv' := [(7, .int (nI (i + 1))), (3, .long (dgw (dgn (d9) (fun j => nI (sPt σ (i) j)) 24) ((eyv (sEy σ (i)))))), (8, .ref (ad (16 * (i) + 6))), (0, .ref (ad (0))), (5, .ref (ad (32))), (6, .int (nI (60)))]) hx hb dX3_digestWithSlices_55 hl (k := 5) rfl (nI_add (i) 1) (by decide) rfl (fun ls hl => ?_)
          refine lv_goto (tgt := 16) hx hb dX3_digestWithSlices_58 (by decide) ?_
          exact ih16 (i + 1) (dgw (dgn (d9) (fun j => nI (sPt σ (i) j)) 24) ((eyv (sEy σ (i))))) (by omega) (by omega) _ _ (by rw [gd, show min (i + 1) (gNS σ) = i + 1 by omega, show min i (gNS σ) = i by omega]; rfl) hV hS ls (lv_sub hl [3, 1, 4, 5, 0] rfl)
        · refine lv_astoreN (lv' := [(8, .null), (0, .ref (ad (0))), (3, .long (d9)), (5, .ref (ad (32))), (6, .int (nI (60))), (7, .int (nI (i)))]) hx hb dX3_digestWithSlices_28 hl (by decide) rfl (fun ls hl => ?_)
          refine lv_aloadN hx hb dX3_digestWithSlices_30 (lv_at hl 0 rfl) ?_
          refine lv_ifnullN (tgt := 55) hx hb dX3_digestWithSlices_32 (by decide) ?_
          refine lv_iinc (v := nI (i + 1)) (lv' := [(7, .int (nI (i + 1))), (8, .null), (0, .ref (ad (0))), (3, .long (d9)), (5, .ref (ad (32))), (6, .int (nI (60)))]) hx hb dX3_digestWithSlices_55 hl (k := 5) rfl (nI_add (i) 1) (by decide) rfl (fun ls hl => ?_)
          refine lv_goto (tgt := 16) hx hb dX3_digestWithSlices_58 (by decide) ?_
          exact ih16 (i + 1) (d9) (by omega) (by omega) _ _ (by rw [gd, show min (i + 1) (gNS σ) = min i (gNS σ) by omega]) hV hS ls (lv_sub hl [2, 3, 4, 5, 0] rfl)
  exact L16 (60 + 1) (0) (d0) (by omega) (by omega) _ _ (show d0 = dgs σ d0 (min 0 _) by rw [Nat.zero_min]; rfl) hV hS ls (lv_sub hl [4, 3, 2, 1, 0] rfl)

set_option maxHeartbeats 4000000 in
set_option maxRecDepth 100000 in
theorem c_X3_digestWithEyes (l : Launch) (D : hG) (N0 : Nat) (ad : Nat → Nat) (ct : hC) {σ : gS} (hG : gX D σ ad ct) (hO : okS σ) (d0 : Int64) : Met l yX3_digestWithEyes wsX3_digestWithEyes ({ frames := 1, cells := 0, slots := 0, locals := 22 }) (hPc D N0 ad ct [.ref (ad (0)), .long (d0)]) (va_Ql (fun (z : Int64) (u : hU) => z = dge σ d0 (4 * gNB σ) ∧ u = (ad, ct)) (hB D N0) (hA N0)) 0 0 (hA N0) := by
  refine Met.ofW (cc := cX3_digestWithEyes) (maxL := 7) (ret := (some .long)) (by decide) rfl ?_
  intro p e s m args below meth c s₁ B hml hv0
  obtain ⟨hargs, hKs, hV⟩ := hv0
  have hx := B.exec
  have hb := B.bytes
  have hr := B.returns
  have hts := atoms_spec (ws := wsX3_digestWithEyes) B.pre
  have hown : s.vm.findClass RX3 = some m.cls := findClass_of_methodNamed B.named
  have hlocks := B.notSynchronized
  have hS : va_S (hA N0) s.heap s.heap [] := va_S.rf
  have hiX2 : ∀ w ∈ u_ws RX2 TX2 5, w ∈ wsX3_digestWithEyes := by decide +kernel
  have hiX3 : ∀ w ∈ u_ws RX3 TX3 8, w ∈ wsX3_digestWithEyes := by decide +kernel
  have lk158 := hts (.fieldLink RX3 158 "CaneSlices" "beadCount" "I") (by decide +kernel)
  have lk21 := hts (.fieldLink RX3 21 "CaneSlices" "eyes" "[LCaneSlices$Slice;") (by decide +kernel)
  have kn193 := hKs.2.1 (193, "CaneSlices$Slice", "number", "I") (by decide +kernel)
  have kn198 := hKs.2.1 (198, "CaneSlices$Slice", "turn", "I") (by decide +kernel)
  have hl := lv_entry ([.ref (ad (0)), .long (d0)]) (n := 7) (Nat.le_of_ble_eq_true rfl)
  have hE : entryFrame m args 7 = entryFrame m ([.ref (ad (0)), .long (d0)] : List Value).toArray 7 := by rw [hargs]
  rw [hE, lg_entry_eq]
  generalize (lg_sl ([.ref (ad (0)), .long (d0)]) ++ List.replicate (7 - (lg_sl ([.ref (ad (0)), .long (d0)])).length) Slot.unset).toArray = ls at hl ⊢
  have hl : lv_has ls 7 [(0, .ref (ad (0))), (1, .long (d0))] := hl
  obtain ⟨hn8, hn60, hn6, -⟩ := id hO
  refine lv_lload_n hx hb dX3_digestWithEyes_0 rfl (lv_at hl 1 rfl) ?_
  refine lv_lstore_n (lv' := [(3, .long (d0)), (0, .ref (ad (0))), (1, .long (d0))]) hx hb dX3_digestWithEyes_1 rfl hl (by decide) rfl (fun ls hl => ?_)
  refine lv_iconst (v := nI 0) hx hb dX3_digestWithEyes_2 (by decide) ?_
  refine lv_istore (lv' := [(5, .int (nI (0))), (3, .long (d0)), (0, .ref (ad (0))), (1, .long (d0))]) hx hb dX3_digestWithEyes_3 hl (by decide) rfl (fun ls hl => ?_)
  have L5 : ∀ (n i : Nat) (d9 : Int64), i ≤ 4 * (gNB σ) → 4 * (gNB σ) < i + n → ∀ (H : Heap) (locs : List Loc), (d9 = dge σ d0 i) → hv D N0 ad ct H → va_S (hA N0) s.heap H locs → ∀ ls : Array Slot, lv_has ls 7 [(0, .ref (ad (0))), (3, .long (d9)), (5, .int (nI (i)))] → W p l e (headSpec wsX3_digestWithEyes ({ frames := 1, cells := 0, slots := 0, locals := 22 })).room s m args below meth c H locs 0 0 (MQ below (va_Ql (fun (z : Int64) (u : hU) => z = dge σ d0 (4 * gNB σ) ∧ u = (ad, ct)) (hB D N0) (hA N0)) args s 0 0 (hA N0)) (F0 m 5 ls []) := by
    intro n
    induction n with
    | zero => intro i d9 h1 h2; exact absurd h2 (by omega)
    | succ n ih5 =>
      intro i d9 hi5 hn5 H locs gd hV hS ls hl
      refine lv_iload hx hb dX3_digestWithEyes_5 (lv_at hl 2 rfl) ?_
      refine lv_iconst (v := nI 4) hx hb dX3_digestWithEyes_7 (by decide) ?_
      refine lv_aload_n hx hb dX3_digestWithEyes_8 rfl (lv_at hl 0 rfl) ?_
      refine hv_get (C := RX3) (T := TX3) (N := 8) hx hb hts hiX3 hown hKs hV hG.1 5 rfl (by decide) lk158 (fun _ h9 => h9) rfl dX3_digestWithEyes_9 ?_
      refine hN_imul hx hb dX3_digestWithEyes_12 ?_
      refine hN_icmp_ge (tgt := 69) hx hb (by omega) (by omega) dX3_digestWithEyes_13 (by decide) (fun c13 => ?_) (fun c13 => ?_)
      · refine lv_lload_n hx hb dX3_digestWithEyes_69 rfl (lv_at hl 1 rfl) ?_
        exact hv_lret (v := d9) (u := (ad, ct)) hx hb hr ⟨by rw [gd, show i = 4 * gNB σ by omega], rfl⟩ hV hS dX3_digestWithEyes_70 hlocks
      · refine lv_aload_n hx hb dX3_digestWithEyes_16 rfl (lv_at hl 0 rfl) ?_
        refine hv_get (C := RX3) (T := TX3) (N := 8) hx hb hts hiX3 hown hKs hV hG.1 2 rfl (by decide) lk21 (fun _ h9 => h9) rfl dX3_digestWithEyes_17 ?_
        refine lv_iload hx hb dX3_digestWithEyes_20 (lv_at hl 2 rfl) ?_
        refine hv_aald hx hb hKs hV 2 hG.2.2.2.1 rfl (by omega) (by decide) dX3_digestWithEyes_22 ?_
        rcases hq22 : gEy σ (i) with _ | ⟨s22, t22⟩
        · refine hv_eq (w := .null) rfl ?_
          refine lv_astoreN (lv' := [(6, .null), (0, .ref (ad (0))), (3, .long (d9)), (5, .int (nI (i)))]) hx hb dX3_digestWithEyes_23 hl (by decide) rfl (fun ls hl => ?_)
          refine lv_lload_n hx hb dX3_digestWithEyes_25 rfl (lv_at hl 2 rfl) ?_
          refine lv_aloadN hx hb dX3_digestWithEyes_26 (lv_at hl 0 rfl) ?_
          refine lv_ifnonnullN hx hb dX3_digestWithEyes_28 ?_
          refine lv_iconst (v := (-1)) hx hb dX3_digestWithEyes_31 (by decide) ?_
          refine lv_goto (tgt := 40) hx hb dX3_digestWithEyes_32 (by decide) ?_
          refine hv_calll (va_runS (As := [.long (d9), .int ((-1))]) (rest := []) ⟨hx, hb, hml, hown, hts⟩ (c_X3_digestWith l D N0 ad ct (d9) (((-1)))) (va_cwS 2 hts gX3_digestWithEyes_X3_digestWith rfl rfl rfl (by decide +kernel) ⟨Nat.le_of_ble_eq_true rfl, Nat.le_of_ble_eq_true rfl⟩) (hv_preS hKs hV hS) rfl rfl hl.1 rfl (lv_room (Nat.le_of_ble_eq_true rfl)) dX3_digestWithEyes_40 ⟨(Nat.le_of_ble_eq_true rfl), (Nat.le_of_ble_eq_true rfl)⟩) hS (fun r9 u9 H locs hq hV hS => ?_)
          obtain ⟨rfl, rfl⟩ := hq
          have hV : hv D N0 ad ct H := hV
          refine lv_lstore_n (lv' := [(3, .long (dgw (d9) (((-1))))), (6, .null), (0, .ref (ad (0))), (5, .int (nI (i)))]) hx hb dX3_digestWithEyes_43 rfl hl (by decide) rfl (fun ls hl => ?_)
          refine lv_lload_n hx hb dX3_digestWithEyes_44 rfl (lv_at hl 0 rfl) ?_
          refine lv_aloadN hx hb dX3_digestWithEyes_45 (lv_at hl 1 rfl) ?_
          refine lv_ifnonnullN hx hb dX3_digestWithEyes_47 ?_
          refine lv_iconst (v := nI 0) hx hb dX3_digestWithEyes_50 (by decide) ?_
          refine lv_goto (tgt := 59) hx hb dX3_digestWithEyes_51 (by decide) ?_
          refine hv_calll (va_runS (As := [.long (dgw (d9) (((-1)))), .int (nI (0))]) (rest := []) ⟨hx, hb, hml, hown, hts⟩ (c_X3_digestWith l D N0 ad ct (dgw (d9) (((-1)))) (nI (0))) (va_cwS 2 hts gX3_digestWithEyes_X3_digestWith rfl rfl rfl (by decide +kernel) ⟨Nat.le_of_ble_eq_true rfl, Nat.le_of_ble_eq_true rfl⟩) (hv_preS hKs hV hS) rfl rfl hl.1 rfl (lv_room (Nat.le_of_ble_eq_true rfl)) dX3_digestWithEyes_59 ⟨(Nat.le_of_ble_eq_true rfl), (Nat.le_of_ble_eq_true rfl)⟩) hS (fun r9 u9 H locs hq hV hS => ?_)
          obtain ⟨rfl, rfl⟩ := hq
          have hV : hv D N0 ad ct H := hV
          refine lv_lstore_n (lv' := [(3, .long (dgw (dgw (d9) (((-1)))) (nI (0)))), (6, .null), (0, .ref (ad (0))), (5, .int (nI (i)))]) hx hb dX3_digestWithEyes_62 rfl hl (by decide) rfl (fun ls hl => ?_)
          refine lv_iinc (v := nI (i + 1)) (lv' := [(5, .int (nI (i + 1))), (3, .long (dgw (dgw (d9) (((-1)))) (nI (0)))), (6, .null), (0, .ref (ad (0)))]) hx hb dX3_digestWithEyes_63 hl (k := 3) rfl (nI_add (i) 1) (by decide) rfl (fun ls hl => ?_)
          refine lv_goto (tgt := 5) hx hb dX3_digestWithEyes_66 (by decide) ?_
          exact ih5 (i + 1) (dgw (dgw (d9) (((-1)))) (nI (0))) (by omega) (by omega) _ _ (by rw [gd, dge, esl_0 hq22, etn_0 hq22]) hV hS ls (lv_sub hl [3, 1, 0] rfl)
        · obtain ⟨he22, hs22, ht22, hy22⟩ := hO.2.2.2.2.2.1 _ _ _ hq22
          refine hv_eq (w := .ref (ad (16 * (s22) + 6))) rfl ?_
          refine lv_astore (lv' := [(6, .ref (ad (16 * (s22) + 6))), (0, .ref (ad (0))), (3, .long (d9)), (5, .int (nI (i)))]) hx hb dX3_digestWithEyes_23 hl (by decide) rfl (fun ls hl => ?_)
          refine lv_lload_n hx hb dX3_digestWithEyes_25 rfl (lv_at hl 2 rfl) ?_
          refine lv_aload hx hb dX3_digestWithEyes_26 (lv_at hl 0 rfl) ?_
          refine lv_ifnonnull (tgt := 35) hx hb dX3_digestWithEyes_28 (by decide) ?_
          refine lv_aload hx hb dX3_digestWithEyes_35 (lv_at hl 0 rfl) ?_
          have hd1 := hG.2.2.2.2.2 (s22) (by omega)
          have hd1f : ct (16 * (s22) + 6) = some (eO 2 [.int (nI (s22)), .ref (ad (16 * (s22) + 7)), .int (nI (sKd σ (s22))), .int (eyv (sEy σ (s22))), .int (nI (trn σ (s22)))]) := hd1.1
          refine hv_getN (C := RX2) (T := TX2) (N := 5) hx hb hts hiX2 hown hKs hV hd1f 0 rfl (by decide) kn193 (fun _ h9 => h9) rfl dX3_digestWithEyes_37 ?_
          refine hv_calll (va_runS (As := [.long (d9), .int (nI (s22))]) (rest := []) ⟨hx, hb, hml, hown, hts⟩ (c_X3_digestWith l D N0 ad ct (d9) (nI (s22))) (va_cwS 2 hts gX3_digestWithEyes_X3_digestWith rfl rfl rfl (by decide +kernel) ⟨Nat.le_of_ble_eq_true rfl, Nat.le_of_ble_eq_true rfl⟩) (hv_preS hKs hV hS) rfl rfl hl.1 rfl (lv_room (Nat.le_of_ble_eq_true rfl)) dX3_digestWithEyes_40 ⟨(Nat.le_of_ble_eq_true rfl), (Nat.le_of_ble_eq_true rfl)⟩) hS (fun r9 u9 H locs hq hV hS => ?_)
          obtain ⟨rfl, rfl⟩ := hq
          have hV : hv D N0 ad ct H := hV
          refine lv_lstore_n (lv' := [(3, .long (dgw (d9) (nI (s22)))), (6, .ref (ad (16 * (s22) + 6))), (0, .ref (ad (0))), (5, .int (nI (i)))]) hx hb dX3_digestWithEyes_43 rfl hl (by decide) rfl (fun ls hl => ?_)
          refine lv_lload_n hx hb dX3_digestWithEyes_44 rfl (lv_at hl 0 rfl) ?_
          refine lv_aload hx hb dX3_digestWithEyes_45 (lv_at hl 1 rfl) ?_
          refine lv_ifnonnull (tgt := 54) hx hb dX3_digestWithEyes_47 (by decide) ?_
          refine lv_aload hx hb dX3_digestWithEyes_54 (lv_at hl 1 rfl) ?_
          refine hv_getN (C := RX2) (T := TX2) (N := 5) hx hb hts hiX2 hown hKs hV hd1f 4 rfl (by decide) kn198 (fun _ h9 => h9) rfl dX3_digestWithEyes_56 ?_
          refine hv_calll (va_runS (As := [.long (dgw (d9) (nI (s22))), .int (nI (trn σ (s22)))]) (rest := []) ⟨hx, hb, hml, hown, hts⟩ (c_X3_digestWith l D N0 ad ct (dgw (d9) (nI (s22))) (nI (trn σ (s22)))) (va_cwS 2 hts gX3_digestWithEyes_X3_digestWith rfl rfl rfl (by decide +kernel) ⟨Nat.le_of_ble_eq_true rfl, Nat.le_of_ble_eq_true rfl⟩) (hv_preS hKs hV hS) rfl rfl hl.1 rfl (lv_room (Nat.le_of_ble_eq_true rfl)) dX3_digestWithEyes_59 ⟨(Nat.le_of_ble_eq_true rfl), (Nat.le_of_ble_eq_true rfl)⟩) hS (fun r9 u9 H locs hq hV hS => ?_)
          obtain ⟨rfl, rfl⟩ := hq
          have hV : hv D N0 ad ct H := hV
          refine lv_lstore_n (lv' := [(3, .long (dgw (dgw (d9) (nI (s22))) (nI (trn σ (s22))))), (6, .ref (ad (16 * (s22) + 6))), (0, .ref (ad (0))), (5, .int (nI (i)))]) hx hb dX3_digestWithEyes_62 rfl hl (by decide) rfl (fun ls hl => ?_)
          refine lv_iinc (v := nI (i + 1)) (lv' := [(5, .int (nI (i + 1))), (3, .long (dgw (dgw (d9) (nI (s22))) (nI (trn σ (s22))))), (6, .ref (ad (16 * (s22) + 6))), (0, .ref (ad (0)))]) hx hb dX3_digestWithEyes_63 hl (k := 3) rfl (nI_add (i) 1) (by decide) rfl (fun ls hl => ?_)
          refine lv_goto (tgt := 5) hx hb dX3_digestWithEyes_66 (by decide) ?_
          exact ih5 (i + 1) (dgw (dgw (d9) (nI (s22))) (nI (trn σ (s22)))) (by omega) (by omega) _ _ (by rw [gd, dge, esl_1 hq22, etn_1 hq22, trn_of hO hq22]) hV hS ls (lv_sub hl [3, 1, 0] rfl)
  exact L5 (4 * (gNB σ) + 1) (0) (d0) (by omega) (by omega) _ _ (rfl) hV hS ls (lv_sub hl [2, 1, 0] rfl)

set_option maxHeartbeats 4000000 in
set_option maxRecDepth 100000 in
theorem c_X3_digest (l : Launch) (D : hG) (N0 : Nat) (ad : Nat → Nat) (ct : hC) {σ : gS} (hG : gX D σ ad ct) (hO : okS σ) : Met l yX3_digest wsX3_digest ({ frames := 7, cells := 0, slots := 0, locals := 159 }) (hPc D N0 ad ct [.ref (ad (0))]) (va_Ql (fun (z : Int64) (u : hU) => z = dgt σ ∧ u = (ad, ct)) (hB D N0) (hA N0)) 0 0 (hA N0) := by
  refine Met.ofW (cc := cX3_digest) (maxL := 4) (ret := (some .long)) (by decide) rfl ?_
  intro p e s m args below meth c s₁ B hml hv0
  obtain ⟨hargs, hKs, hV⟩ := hv0
  have hx := B.exec
  have hb := B.bytes
  have hr := B.returns
  have hts := atoms_spec (ws := wsX3_digest) B.pre
  have hown : s.vm.findClass RX3 = some m.cls := findClass_of_methodNamed B.named
  have hlocks := B.notSynchronized
  have hS : va_S (hA N0) s.heap s.heap [] := va_S.rf
  have lk232 := hts (.constantLong RX3 232 (991)) (by decide +kernel)
  have hl := lv_entry ([.ref (ad (0))]) (n := 4) (Nat.le_of_ble_eq_true rfl)
  have hE : entryFrame m args 4 = entryFrame m ([.ref (ad (0))] : List Value).toArray 4 := by rw [hargs]
  rw [hE, lg_entry_eq]
  generalize (lg_sl ([.ref (ad (0))]) ++ List.replicate (4 - (lg_sl ([.ref (ad (0))])).length) Slot.unset).toArray = ls at hl ⊢
  have hl : lv_has ls 4 [(0, .ref (ad (0)))] := hl
  obtain ⟨hn8, hn60, hn6, -⟩ := id hO
  refine lv_ldc2 (v := 991) hx hb hown lk232 dX3_digest_0 ?_
  refine lv_lstore_n (lv' := [(1, .long (991)), (0, .ref (ad (0)))]) hx hb dX3_digest_3 rfl hl (by decide) rfl (fun ls hl => ?_)
  refine lv_iconst (v := nI 0) hx hb dX3_digest_4 (by decide) ?_
  refine lv_istore_n (lv' := [(3, .int (nI (0))), (1, .long (991)), (0, .ref (ad (0)))]) hx hb dX3_digest_5 rfl hl (by decide) rfl (fun ls hl => ?_)
  have L6 : ∀ (n i : Nat) (d9 : Int64), i ≤ 8 → 8 < i + n → ∀ (H : Heap) (locs : List Loc), (d9 = dgn 991 (tal σ) i) → hv D N0 ad ct H → va_S (hA N0) s.heap H locs → ∀ ls : Array Slot, lv_has ls 4 [(0, .ref (ad (0))), (1, .long (d9)), (3, .int (nI (i)))] → W p l e (headSpec wsX3_digest ({ frames := 7, cells := 0, slots := 0, locals := 159 })).room s m args below meth c H locs 0 0 (MQ below (va_Ql (fun (z : Int64) (u : hU) => z = dgt σ ∧ u = (ad, ct)) (hB D N0) (hA N0)) args s 0 0 (hA N0)) (F0 m 6 ls []) := by
    intro n
    induction n with
    | zero => intro i d9 h1 h2; exact absurd h2 (by omega)
    | succ n ih6 =>
      intro i d9 hi6 hn6 H locs gd hV hS ls hl
      refine lv_iload_n hx hb dX3_digest_6 rfl (lv_at hl 2 rfl) ?_
      refine lv_bipush (v := nI 8) hx hb dX3_digest_7 (by decide) ?_
      refine hN_icmp_ge (tgt := 28) hx hb (by omega) (by omega) dX3_digest_9 (by decide) (fun c9 => ?_) (fun c9 => ?_)
      · refine lv_aload_n hx hb dX3_digest_28 rfl (lv_at hl 0 rfl) ?_
        refine lv_lload_n hx hb dX3_digest_29 rfl (lv_at hl 1 rfl) ?_
        refine hv_calll (va_runV (As := [.long (d9)]) (rest := []) ⟨hx, hb, hml, hown, hts⟩ (c_X3_digestWithCanes l D N0 ad ct hG hO (d9)) (cwV 1 hts gX3_digest_X3_digestWithCanes rfl rfl rfl (by decide +kernel) ⟨Nat.le_of_ble_eq_true rfl, Nat.le_of_ble_eq_true rfl⟩) (hv_preV (r := (RX3, TX3, 8)) hKs hV hS hG.1 rfl) rfl rfl hl.1 rfl (lv_room (Nat.le_of_ble_eq_true rfl)) dX3_digest_30 ⟨(Nat.le_of_ble_eq_true rfl), (Nat.le_of_ble_eq_true rfl)⟩) hS (fun r9 u9 H locs hq hV hS => ?_)
        obtain ⟨rfl, rfl⟩ := hq
        have hV : hv D N0 ad ct H := hV
        refine lv_lstore_n (lv' := [(1, .long (dgc σ (d9) (gNC σ))), (0, .ref (ad (0))), (3, .int (nI (i)))]) hx hb dX3_digest_33 rfl hl (by decide) rfl (fun ls hl => ?_)
        refine lv_aload_n hx hb dX3_digest_34 rfl (lv_at hl 1 rfl) ?_
        refine lv_lload_n hx hb dX3_digest_35 rfl (lv_at hl 0 rfl) ?_
        refine hv_calll (va_runV (As := [.long (dgc σ (d9) (gNC σ))]) (rest := []) ⟨hx, hb, hml, hown, hts⟩ (c_X3_digestWithSlices l D N0 ad ct hG hO (dgc σ (d9) (gNC σ))) (cwV 1 hts gX3_digest_X3_digestWithSlices rfl rfl rfl (by decide +kernel) ⟨Nat.le_of_ble_eq_true rfl, Nat.le_of_ble_eq_true rfl⟩) (hv_preV (r := (RX3, TX3, 8)) hKs hV hS hG.1 rfl) rfl rfl hl.1 rfl (lv_room (Nat.le_of_ble_eq_true rfl)) dX3_digest_36 ⟨(Nat.le_of_ble_eq_true rfl), (Nat.le_of_ble_eq_true rfl)⟩) hS (fun r9 u9 H locs hq hV hS => ?_)
        obtain ⟨rfl, rfl⟩ := hq
        have hV : hv D N0 ad ct H := hV
        refine lv_lstore_n (lv' := [(1, .long (dgs σ (dgc σ (d9) (gNC σ)) (gNS σ))), (0, .ref (ad (0))), (3, .int (nI (i)))]) hx hb dX3_digest_39 rfl hl (by decide) rfl (fun ls hl => ?_)
        refine lv_aload_n hx hb dX3_digest_40 rfl (lv_at hl 1 rfl) ?_
        refine lv_lload_n hx hb dX3_digest_41 rfl (lv_at hl 0 rfl) ?_
        refine hv_calll (va_runV (As := [.long (dgs σ (dgc σ (d9) (gNC σ)) (gNS σ))]) (rest := []) ⟨hx, hb, hml, hown, hts⟩ (c_X3_digestWithEyes l D N0 ad ct hG hO (dgs σ (dgc σ (d9) (gNC σ)) (gNS σ))) (cwV 1 hts gX3_digest_X3_digestWithEyes rfl rfl rfl (by decide +kernel) ⟨Nat.le_of_ble_eq_true rfl, Nat.le_of_ble_eq_true rfl⟩) (hv_preV (r := (RX3, TX3, 8)) hKs hV hS hG.1 rfl) rfl rfl hl.1 rfl (lv_room (Nat.le_of_ble_eq_true rfl)) dX3_digest_42 ⟨(Nat.le_of_ble_eq_true rfl), (Nat.le_of_ble_eq_true rfl)⟩) hS (fun r9 u9 H locs hq hV hS => ?_)
        obtain ⟨rfl, rfl⟩ := hq
        have hV : hv D N0 ad ct H := hV
        exact hv_lret (v := dge σ (dgs σ (dgc σ (d9) (gNC σ)) (gNS σ)) (4 * gNB σ)) (u := (ad, ct)) hx hb hr ⟨by rw [gd, show i = 8 by omega]; rfl, rfl⟩ hV hS dX3_digest_45 hlocks
      · refine lv_lload_n hx hb dX3_digest_12 rfl (lv_at hl 1 rfl) ?_
        refine lv_aload_n hx hb dX3_digest_13 rfl (lv_at hl 0 rfl) ?_
        refine lv_iload_n hx hb dX3_digest_14 rfl (lv_at hl 2 rfl) ?_
        refine hv_calli (va_runV (As := [.int (nI (i))]) (rest := [.long (d9)]) ⟨hx, hb, hml, hown, hts⟩ (c_X3_tally l D N0 ad ct hG hO (i) (by omega)) (cwV 1 hts gX3_digest_X3_tally rfl rfl rfl (by decide +kernel) ⟨Nat.le_of_ble_eq_true rfl, Nat.le_of_ble_eq_true rfl⟩) (hv_preV (r := (RX3, TX3, 8)) hKs hV hS hG.1 rfl) rfl rfl hl.1 rfl (lv_room (Nat.le_of_ble_eq_true rfl)) dX3_digest_15 ⟨(Nat.le_of_ble_eq_true rfl), (Nat.le_of_ble_eq_true rfl)⟩) hS (fun r9 u9 H locs hq hV hS => ?_)
        obtain ⟨rfl, rfl⟩ := hq
        have hV : hv D N0 ad ct H := hV
        refine hv_calll (va_runS (As := [.long (d9), .int (tal σ (i))]) (rest := []) ⟨hx, hb, hml, hown, hts⟩ (c_X3_digestWith l D N0 ad ct (d9) ((tal σ (i)))) (va_cwS 2 hts gX3_digest_X3_digestWith rfl rfl rfl (by decide +kernel) ⟨Nat.le_of_ble_eq_true rfl, Nat.le_of_ble_eq_true rfl⟩) (hv_preS hKs hV hS) rfl rfl hl.1 rfl (lv_room (Nat.le_of_ble_eq_true rfl)) dX3_digest_18 ⟨(Nat.le_of_ble_eq_true rfl), (Nat.le_of_ble_eq_true rfl)⟩) hS (fun r9 u9 H locs hq hV hS => ?_)
        obtain ⟨rfl, rfl⟩ := hq
        have hV : hv D N0 ad ct H := hV
        refine lv_lstore_n (lv' := [(1, .long (dgw (d9) ((tal σ (i))))), (0, .ref (ad (0))), (3, .int (nI (i)))]) hx hb dX3_digest_21 rfl hl (by decide) rfl (fun ls hl => ?_)
        refine lv_iinc (v := nI (i + 1)) (lv' := [(3, .int (nI (i + 1))), (1, .long (dgw (d9) ((tal σ (i))))), (0, .ref (ad (0)))]) hx hb dX3_digest_22 hl (k := 2) rfl (nI_add (i) 1) (by decide) rfl (fun ls hl => ?_)
        refine lv_goto (tgt := 6) hx hb dX3_digest_25 (by decide) ?_
        exact ih6 (i + 1) (dgw (d9) ((tal σ (i)))) (by omega) (by omega) _ _ (by rw [gd]; rfl) hV hS ls (lv_sub hl [2, 1, 0] rfl)
  exact L6 (8 + 1) (0) (991) (by omega) (by omega) _ _ (rfl) hV hS ls (lv_sub hl [2, 1, 0] rfl)
