set_option maxHeartbeats 4000000 in
set_option maxRecDepth 100000 in
/-- floorMod(x, 8) -/
theorem c_J9_floorMod_7cf53 (l : Launch) (D : hG) (N0 : Nat) (ad : Nat → Nat) (ct : hC) (x : Int32) : Met l yJ9_floorMod_7cf53 wsJ9_floorMod_7cf53 ({ frames := 0, cells := 0, slots := 0, locals := 0 }) (hPc D N0 ad ct [.int (x), .int (nI (8))]) (va_Qi (fun (z : Int32) (u : hU) => z = nI (m8 x) ∧ u = (ad, ct)) (hB D N0) (hA N0)) 0 0 (hA N0) := by
  refine va_MetF (cc := cJ9_floorMod_7cf53) (maxL := 3) (ret := (some .int)) (by decide +kernel) rfl ?_
  intro p e s m args below meth c s₁ B hml hv0
  obtain ⟨hargs, hKs, hV⟩ := hv0
  have hx := B.exec
  have hb := B.bytes
  have hr := B.returns
  have hts := atoms_spec (ws := wsJ9_floorMod_7cf53) B.pre
  have hown : s.vm.findClass RJ9 = some m.cls := findClass_of_methodNamed B.named
  have hlocks := B.notSynchronized
  have hS : va_S (hA N0) s.heap s.heap [] := va_S.rf
  have hl := lv_entry ([.int (x), .int (nI (8))]) (n := 3) (Nat.le_of_ble_eq_true rfl)
  have hE : entryFrame m args 3 = entryFrame m ([.int (x), .int (nI (8))] : List Value).toArray 3 := by rw [hargs]
  rw [hE, lg_entry_eq]
  generalize (lg_sl ([.int (x), .int (nI (8))]) ++ List.replicate (3 - (lg_sl ([.int (x), .int (nI (8))])).length) Slot.unset).toArray = ls at hl ⊢
  have hl : lv_has ls 3 [(0, .int (x)), (1, .int (nI (8)))] := hl
  refine lv_iload_n hx hb dJ9_floorMod_7cf53_0 rfl (lv_at hl 0 rfl) ?_
  refine lv_iload_n hx hb dJ9_floorMod_7cf53_1 rfl (lv_at hl 1 rfl) ?_
  refine lv_irem hx hb dJ9_floorMod_7cf53_2 (by decide) ?_
  refine lv_istore_n (lv' := [(2, .int ((x) - (x) / nI (8) * nI (8))), (0, .int (x)), (1, .int (nI (8)))]) hx hb dJ9_floorMod_7cf53_3 rfl hl (by decide) rfl (fun ls hl => ?_)
  refine lv_iload_n hx hb dJ9_floorMod_7cf53_4 rfl (lv_at hl 1 rfl) ?_
  refine lv_iload_n hx hb dJ9_floorMod_7cf53_5 rfl (lv_at hl 2 rfl) ?_
  refine lv_ixor hx hb dJ9_floorMod_7cf53_6 ?_
  refine hI_if_ge (tgt := 18) hx hb dJ9_floorMod_7cf53_7 (by decide) (fun c7 => ?_) (fun c7 => ?_)
  · refine lv_iload_n hx hb dJ9_floorMod_7cf53_18 rfl (lv_at hl 0 rfl) ?_
    exact hv_iret (v := ((x) - (x) / nI (8) * nI (8))) (u := (ad, ct)) hx hb hr ⟨fm_pos c7, rfl⟩ hV hS dJ9_floorMod_7cf53_19 hlocks
  · refine lv_iload_n hx hb dJ9_floorMod_7cf53_10 rfl (lv_at hl 0 rfl) ?_
    refine hI_if_eq (tgt := 18) hx hb dJ9_floorMod_7cf53_11 (by decide) (fun c11 => ?_) (fun c11 => ?_)
    · refine lv_iload_n hx hb dJ9_floorMod_7cf53_18 rfl (lv_at hl 0 rfl) ?_
      exact hv_iret (v := ((x) - (x) / nI (8) * nI (8))) (u := (ad, ct)) hx hb hr ⟨fm_zero c11, rfl⟩ hV hS dJ9_floorMod_7cf53_19 hlocks
    · refine lv_iload_n hx hb dJ9_floorMod_7cf53_14 rfl (lv_at hl 0 rfl) ?_
      refine lv_iload_n hx hb dJ9_floorMod_7cf53_15 rfl (lv_at hl 2 rfl) ?_
      refine lv_iadd hx hb dJ9_floorMod_7cf53_16 ?_
      exact hv_iret (v := (((x) - (x) / nI (8) * nI (8)) + nI (8))) (u := (ad, ct)) hx hb hr ⟨fm_neg c7 c11, rfl⟩ hV hS dJ9_floorMod_7cf53_17 hlocks

set_option maxHeartbeats 4000000 in
set_option maxRecDepth 100000 in
theorem c_X1_indexOf (l : Launch) (D : hG) (N0 : Nat) (ad : Nat → Nat) (ct : hC) (r : Nat) (hr3 : r < 3) (x : Int32) : Met l yX1_indexOf wsX1_indexOf ({ frames := 1, cells := 0, slots := 0, locals := 22 }) (hPc D N0 ad ct [.int (nI (r)), .int (x)]) (va_Qi (fun (z : Int32) (u : hU) => z = nI (8 * r + m8 x) ∧ u = (ad, ct)) (hB D N0) (hA N0)) 0 0 (hA N0) := by
  refine Met.ofW (cc := cX1_indexOf) (maxL := 2) (ret := (some .int)) (by decide) rfl ?_
  intro p e s m args below meth c s₁ B hml hv0
  obtain ⟨hargs, hKs, hV⟩ := hv0
  have hx := B.exec
  have hb := B.bytes
  have hr := B.returns
  have hts := atoms_spec (ws := wsX1_indexOf) B.pre
  have hown : s.vm.findClass RX1 = some m.cls := findClass_of_methodNamed B.named
  have hlocks := B.notSynchronized
  have hS : va_S (hA N0) s.heap s.heap [] := va_S.rf
  have hl := lv_entry ([.int (nI (r)), .int (x)]) (n := 2) (Nat.le_of_ble_eq_true rfl)
  have hE : entryFrame m args 2 = entryFrame m ([.int (nI (r)), .int (x)] : List Value).toArray 2 := by rw [hargs]
  rw [hE, lg_entry_eq]
  generalize (lg_sl ([.int (nI (r)), .int (x)]) ++ List.replicate (2 - (lg_sl ([.int (nI (r)), .int (x)])).length) Slot.unset).toArray = ls at hl ⊢
  have hl : lv_has ls 2 [(0, .int (nI (r))), (1, .int (x))] := hl
  refine lv_bipush (v := nI 8) hx hb dX1_indexOf_0 (by decide) ?_
  refine lv_iload_n hx hb dX1_indexOf_2 rfl (lv_at hl 0 rfl) ?_
  refine hN_imul hx hb dX1_indexOf_3 ?_
  refine lv_iload_n hx hb dX1_indexOf_4 rfl (lv_at hl 1 rfl) ?_
  refine lv_bipush (v := nI 8) hx hb dX1_indexOf_5 (by decide) ?_
  refine hv_calli (va_runS (As := [.int (x), .int (nI (8))]) (rest := [.int (nI ((8) * (r)))]) ⟨hx, hb, hml, hown, hts⟩ (c_J9_floorMod_7cf53 l D N0 ad ct ((x))) (va_cwS 2 hts gX1_indexOf_J9_floorMod_7cf53 rfl rfl rfl (by decide +kernel) ⟨Nat.le_of_ble_eq_true rfl, Nat.le_of_ble_eq_true rfl⟩) (hv_preS hKs hV hS) rfl rfl hl.1 rfl (lv_room (Nat.le_of_ble_eq_true rfl)) dX1_indexOf_7 ⟨(Nat.le_of_ble_eq_true rfl), (Nat.le_of_ble_eq_true rfl)⟩) hS (fun r9 u9 H locs hq hV hS => ?_)
  obtain ⟨rfl, rfl⟩ := hq
  have hV : hv D N0 ad ct H := hV
  refine hN_iadd hx hb dX1_indexOf_10 ?_
  exact hv_iret (v := nI ((8) * (r) + m8 ((x)))) (u := (ad, ct)) hx hb hr ⟨rfl, rfl⟩ hV hS dX1_indexOf_11 hlocks

set_option maxHeartbeats 4000000 in
set_option maxRecDepth 100000 in
/-- the colour at ring r, sector sc, of the pattern turned by x -/
theorem c_X1_colourAt (l : Launch) (D : hG) (N0 : Nat) (ad : Nat → Nat) (ct : hC) {t : Nat} {P : Nat → Nat} (hp : hPat D ad ct t P) (r : Nat) (hr3 : r < 3) (sc : Nat) (hs8 : sc < 8) (x : Int32) : Met l yX1_colourAt wsX1_colourAt ({ frames := 2, cells := 0, slots := 0, locals := 43 }) (hPc D N0 ad ct [.ref (ad (t)), .int (nI (r)), .int (nI (sc)), .int (x)]) (va_Qi (fun (z : Int32) (u : hU) => z = nI (P (8 * r + (sc + 8 - m8 x) % 8)) ∧ u = (ad, ct)) (hB D N0) (hA N0)) 0 0 (hA N0) := by
  refine Met.ofW (cc := cX1_colourAt) (maxL := 4) (ret := (some .int)) (by decide) rfl ?_
  intro p e s m args below meth c s₁ B hml hv0
  obtain ⟨hargs, hKs, hV⟩ := hv0
  have hx := B.exec
  have hb := B.bytes
  have hr := B.returns
  have hts := atoms_spec (ws := wsX1_colourAt) B.pre
  have hown : s.vm.findClass RX1 = some m.cls := findClass_of_methodNamed B.named
  have hlocks := B.notSynchronized
  have hS : va_S (hA N0) s.heap s.heap [] := va_S.rf
  have hiX1 : ∀ w ∈ u_ws RX1 TX1 1, w ∈ wsX1_colourAt := by decide +kernel
  have lk9 := hts (.fieldLink RX1 9 "CaneSlices$Pattern" "colours" "[I") (by decide +kernel)
  have hl := lv_entry ([.ref (ad (t)), .int (nI (r)), .int (nI (sc)), .int (x)]) (n := 4) (Nat.le_of_ble_eq_true rfl)
  have hE : entryFrame m args 4 = entryFrame m ([.ref (ad (t)), .int (nI (r)), .int (nI (sc)), .int (x)] : List Value).toArray 4 := by rw [hargs]
  rw [hE, lg_entry_eq]
  generalize (lg_sl ([.ref (ad (t)), .int (nI (r)), .int (nI (sc)), .int (x)]) ++ List.replicate (4 - (lg_sl ([.ref (ad (t)), .int (nI (r)), .int (nI (sc)), .int (x)])).length) Slot.unset).toArray = ls at hl ⊢
  have hl : lv_has ls 4 [(0, .ref (ad (t))), (1, .int (nI (r))), (2, .int (nI (sc))), (3, .int (x))] := hl
  obtain ⟨hp1, F, hp2, hF, hP⟩ := hp
  refine lv_aload_n hx hb dX1_colourAt_0 rfl (lv_at hl 0 rfl) ?_
  refine hv_get (C := RX1) (T := TX1) (N := 1) hx hb hts hiX1 hown hKs hV hp1 0 rfl (by decide) lk9 (fun _ h9 => h9) rfl dX1_colourAt_1 ?_
  refine lv_iload_n hx hb dX1_colourAt_4 rfl (lv_at hl 1 rfl) ?_
  refine lv_iload_n hx hb dX1_colourAt_5 rfl (lv_at hl 2 rfl) ?_
  refine lv_iload_n hx hb dX1_colourAt_6 rfl (lv_at hl 3 rfl) ?_
  refine lv_isub hx hb dX1_colourAt_7 ?_
  refine hv_calli (va_runS (As := [.int (nI (r)), .int (nI (sc) - (x))]) (rest := [.ref (ad (t + 1))]) ⟨hx, hb, hml, hown, hts⟩ (c_X1_indexOf l D N0 ad ct (r) (by omega) ((nI (sc) - (x)))) (va_cwS 2 hts gX1_colourAt_X1_indexOf rfl rfl rfl (by decide +kernel) ⟨Nat.le_of_ble_eq_true rfl, Nat.le_of_ble_eq_true rfl⟩) (hv_preS hKs hV hS) rfl rfl hl.1 rfl (lv_room (Nat.le_of_ble_eq_true rfl)) dX1_colourAt_8 ⟨(Nat.le_of_ble_eq_true rfl), (Nat.le_of_ble_eq_true rfl)⟩) hS (fun r9 u9 H locs hq hV hS => ?_)
  obtain ⟨rfl, rfl⟩ := hq
  have hV : hv D N0 ad ct H := hV
  have hm := m8_lt (nI sc - x)
  refine hv_iald hx hb hKs hV hp2 (by omega) (by decide) dX1_colourAt_11 ?_
  refine hv_eqi (hF (8 * (r) + m8 ((nI (sc) - (x)))) (by omega)) ?_
  exact hv_iret (v := nI (P (8 * (r) + m8 ((nI (sc) - (x)))))) (u := (ad, ct)) hx hb hr ⟨by rw [m8_sub hs8], rfl⟩ hV hS dX1_colourAt_12 hlocks

set_option maxHeartbeats 4000000 in
set_option maxRecDepth 100000 in
/-- whether the pattern, turned by x, looks like the other -/
theorem c_X1_looksLike (l : Launch) (D : hG) (N0 : Nat) (ad : Nat → Nat) (ct : hC) {t tq : Nat} {P Q9 : Nat → Nat} (hp : hPat D ad ct t P) (hq0 : hPat D ad ct tq Q9) (x : Int32) : Met l yX1_looksLike wsX1_looksLike ({ frames := 3, cells := 0, slots := 0, locals := 66 }) (hPc D N0 ad ct [.ref (ad (t)), .ref (ad (tq)), .int (x)]) (va_Qi (fun (z : Int32) (u : hU) => z = hbv (like P x Q9) ∧ u = (ad, ct)) (hB D N0) (hA N0)) 0 0 (hA N0) := by
  refine Met.ofW (cc := cX1_looksLike) (maxL := 5) (ret := (some .boolean)) (by decide) rfl ?_
  intro p e s m args below meth c s₁ B hml hv0
  obtain ⟨hargs, hKs, hV⟩ := hv0
  have hx := B.exec
  have hb := B.bytes
  have hr := B.returns
  have hts := atoms_spec (ws := wsX1_looksLike) B.pre
  have hown : s.vm.findClass RX1 = some m.cls := findClass_of_methodNamed B.named
  have hlocks := B.notSynchronized
  have hS : va_S (hA N0) s.heap s.heap [] := va_S.rf
  have hiX1 : ∀ w ∈ u_ws RX1 TX1 1, w ∈ wsX1_looksLike := by decide +kernel
  have lk9 := hts (.fieldLink RX1 9 "CaneSlices$Pattern" "colours" "[I") (by decide +kernel)
  have hl := lv_entry ([.ref (ad (t)), .ref (ad (tq)), .int (x)]) (n := 5) (Nat.le_of_ble_eq_true rfl)
  have hE : entryFrame m args 5 = entryFrame m ([.ref (ad (t)), .ref (ad (tq)), .int (x)] : List Value).toArray 5 := by rw [hargs]
  rw [hE, lg_entry_eq]
  generalize (lg_sl ([.ref (ad (t)), .ref (ad (tq)), .int (x)]) ++ List.replicate (5 - (lg_sl ([.ref (ad (t)), .ref (ad (tq)), .int (x)])).length) Slot.unset).toArray = ls at hl ⊢
  have hl : lv_has ls 5 [(0, .ref (ad (t))), (1, .ref (ad (tq))), (2, .int (x))] := hl
  obtain ⟨hp1, F, hp2, hF, hP⟩ := id hp
  obtain ⟨hq1, Fq, hq2, hFq, hPq⟩ := hq0
  refine lv_iconst (v := nI 0) hx hb dX1_looksLike_0 (by decide) ?_
  refine lv_istore_n (lv' := [(3, .int (nI (0))), (0, .ref (ad (t))), (1, .ref (ad (tq))), (2, .int (x))]) hx hb dX1_looksLike_1 rfl hl (by decide) rfl (fun ls hl => ?_)
  have L2 : ∀ (n i : Nat), i ≤ 3 → 3 < i + n → ∀ (H : Heap) (locs : List Loc), (∀ k, k < i → ∀ b, b < 8 → P (8 * k + (b + 8 - m8 x) % 8) = Q9 (8 * k + b)) → hv D N0 ad ct H → va_S (hA N0) s.heap H locs → ∀ ls : Array Slot, lv_has ls 5 [(0, .ref (ad (t))), (1, .ref (ad (tq))), (2, .int (x)), (3, .int (nI (i)))] → W p l e (headSpec wsX1_looksLike ({ frames := 3, cells := 0, slots := 0, locals := 66 })).room s m args below meth c H locs 0 0 (MQ below (va_Qi (fun (z : Int32) (u : hU) => z = hbv (like P x Q9) ∧ u = (ad, ct)) (hB D N0) (hA N0)) args s 0 0 (hA N0)) (F0 m 2 ls []) := by
    intro n
    induction n with
    | zero => intro i h1 h2; exact absurd h2 (by omega)
    | succ n ih2 =>
      intro i hi2 hn2 H locs gi hV hS ls hl
      refine lv_iload_n hx hb dX1_looksLike_2 rfl (lv_at hl 3 rfl) ?_
      refine lv_iconst (v := nI 3) hx hb dX1_looksLike_3 (by decide) ?_
      refine hN_icmp_ge (tgt := 54) hx hb (by omega) (by omega) dX1_looksLike_4 (by decide) (fun c4 => ?_) (fun c4 => ?_)
      · refine lv_iconst (v := nI 1) hx hb dX1_looksLike_54 (by decide) ?_
        exact hv_zret (v := nI (1)) (u := (ad, ct)) hx hb hr (by decide +kernel) ⟨hb_1 (like_t (fun r hr3 b hb8 => gi r (by omega) b hb8)), rfl⟩ hV hS dX1_looksLike_55 hlocks
      · refine lv_iconst (v := nI 0) hx hb dX1_looksLike_7 (by decide) ?_
        refine lv_istore (lv' := [(4, .int (nI (0))), (0, .ref (ad (t))), (1, .ref (ad (tq))), (2, .int (x)), (3, .int (nI (i)))]) hx hb dX1_looksLike_8 hl (by decide) rfl (fun ls hl => ?_)
        have L10 : ∀ (n j : Nat), j ≤ 8 → 8 < j + n → ∀ (H : Heap) (locs : List Loc), (∀ k, k < j → P (8 * i + (k + 8 - m8 x) % 8) = Q9 (8 * i + k)) → hv D N0 ad ct H → va_S (hA N0) s.heap H locs → ∀ ls : Array Slot, lv_has ls 5 [(0, .ref (ad (t))), (1, .ref (ad (tq))), (2, .int (x)), (3, .int (nI (i))), (4, .int (nI (j)))] → W p l e (headSpec wsX1_looksLike ({ frames := 3, cells := 0, slots := 0, locals := 66 })).room s m args below meth c H locs 0 0 (MQ below (va_Qi (fun (z : Int32) (u : hU) => z = hbv (like P x Q9) ∧ u = (ad, ct)) (hB D N0) (hA N0)) args s 0 0 (hA N0)) (F0 m 10 ls []) := by
          intro n
          induction n with
          | zero => intro j h1 h2; exact absurd h2 (by omega)
          | succ n ih10 =>
            intro j hi10 hn10 H locs gj hV hS ls hl
            refine lv_iload hx hb dX1_looksLike_10 (lv_at hl 4 rfl) ?_
            refine lv_bipush (v := nI 8) hx hb dX1_looksLike_12 (by decide) ?_
            refine hN_icmp_ge (tgt := 48) hx hb (by omega) (by omega) dX1_looksLike_14 (by decide) (fun c14 => ?_) (fun c14 => ?_)
            · refine lv_iinc (v := nI (i + 1)) (lv' := [(3, .int (nI (i + 1))), (0, .ref (ad (t))), (1, .ref (ad (tq))), (2, .int (x)), (4, .int (nI (j)))]) hx hb dX1_looksLike_48 hl (k := 3) rfl (nI_add (i) 1) (by decide) rfl (fun ls hl => ?_)
              refine lv_goto (tgt := 2) hx hb dX1_looksLike_51 (by decide) ?_
              exact ih2 (i + 1)  (by omega) (by omega) _ _ (fun k hk => (Nat.lt_or_ge k i).elim (gi k) (fun q => by have e9 : k = i := (by omega); subst e9; exact fun b hb8 => gj b (by omega))) hV hS ls (lv_sub hl [1, 2, 3, 0] rfl)
            · refine lv_aload_n hx hb dX1_looksLike_17 rfl (lv_at hl 0 rfl) ?_
              refine lv_iload_n hx hb dX1_looksLike_18 rfl (lv_at hl 3 rfl) ?_
              refine lv_iload hx hb dX1_looksLike_19 (lv_at hl 4 rfl) ?_
              refine lv_iload_n hx hb dX1_looksLike_21 rfl (lv_at hl 2 rfl) ?_
              refine hv_calli (va_runV (As := [.int (nI (i)), .int (nI (j)), .int (x)]) (rest := []) ⟨hx, hb, hml, hown, hts⟩ (c_X1_colourAt l D N0 ad ct hp (i) (by omega) (j) (by omega) ((x))) (cwV 3 hts gX1_looksLike_X1_colourAt rfl rfl rfl (by decide +kernel) ⟨Nat.le_of_ble_eq_true rfl, Nat.le_of_ble_eq_true rfl⟩) (hv_preV (r := (RX1, TX1, 1)) hKs hV hS hp1 rfl) rfl rfl hl.1 rfl (lv_room (Nat.le_of_ble_eq_true rfl)) dX1_looksLike_22 ⟨(Nat.le_of_ble_eq_true rfl), (Nat.le_of_ble_eq_true rfl)⟩) hS (fun r9 u9 H locs hq hV hS => ?_)
              obtain ⟨rfl, rfl⟩ := hq
              have hV : hv D N0 ad ct H := hV
              have hb1 := hP (8 * i + (j + 8 - m8 x) % 8) (by omega)
              have hb2 := hPq (8 * i + j) (by omega)
              refine lv_aload_n hx hb dX1_looksLike_25 rfl (lv_at hl 1 rfl) ?_
              refine hv_get (C := RX1) (T := TX1) (N := 1) hx hb hts hiX1 hown hKs hV hq1 0 rfl (by decide) lk9 (fun _ h9 => h9) rfl dX1_looksLike_26 ?_
              refine lv_bipush (v := nI 8) hx hb dX1_looksLike_29 (by decide) ?_
              refine lv_iload_n hx hb dX1_looksLike_31 rfl (lv_at hl 3 rfl) ?_
              refine hN_imul hx hb dX1_looksLike_32 ?_
              refine lv_iload hx hb dX1_looksLike_33 (lv_at hl 4 rfl) ?_
              refine hN_iadd hx hb dX1_looksLike_35 ?_
              refine hv_iald hx hb hKs hV hq2 (by omega) (by decide) dX1_looksLike_36 ?_
              refine hv_eqi (hFq ((8) * (i) + j) (by omega)) ?_
              refine hN_icmp_eq (tgt := 42) hx hb (by omega) (by omega) dX1_looksLike_37 (by decide) (fun c37 => ?_) (fun c37 => ?_)
              · refine lv_iinc (v := nI (j + 1)) (lv' := [(4, .int (nI (j + 1))), (0, .ref (ad (t))), (1, .ref (ad (tq))), (2, .int (x)), (3, .int (nI (i)))]) hx hb dX1_looksLike_42 hl (k := 4) rfl (nI_add (j) 1) (by decide) rfl (fun ls hl => ?_)
                refine lv_goto (tgt := 10) hx hb dX1_looksLike_45 (by decide) ?_
                exact ih10 (j + 1)  (by omega) (by omega) _ _ (fun k hk => (Nat.lt_or_ge k j).elim (gj k) (fun q => by have e9 : k = j := (by omega); subst e9; exact c37)) hV hS ls (lv_sub hl [1, 2, 3, 4, 0] rfl)
              · refine lv_iconst (v := nI 0) hx hb dX1_looksLike_40 (by decide) ?_
                exact hv_zret (v := nI (0)) (u := (ad, ct)) hx hb hr (by decide +kernel) ⟨hb_0 (like_f (r := i) (s := j) (by omega) (by omega) c37), rfl⟩ hV hS dX1_looksLike_41 hlocks
        exact L10 (8 + 1) (0)  (by omega) (by omega) _ _ (fun k hk => absurd hk (Nat.not_lt_zero k)) hV hS ls (lv_sub hl [1, 2, 3, 4, 0] rfl)
  exact L2 (3 + 1) (0)  (by omega) (by omega) _ _ (fun k hk => absurd hk (Nat.not_lt_zero k)) hV hS ls (lv_sub hl [1, 2, 3, 0] rfl)

set_option maxHeartbeats 4000000 in
set_option maxRecDepth 100000 in
theorem c_X1_leastTurnTo (l : Launch) (D : hG) (N0 : Nat) (ad : Nat → Nat) (ct : hC) {t tq : Nat} {P Q9 : Nat → Nat} (hp : hPat D ad ct t P) (hq0 : hPat D ad ct tq Q9) : Met l yX1_leastTurnTo wsX1_leastTurnTo ({ frames := 4, cells := 0, slots := 0, locals := 90 }) (hPc D N0 ad ct [.ref (ad (t)), .ref (ad (tq))]) (va_Qi (fun (z : Int32) (u : hU) => z = plc 8 (lturn P Q9) ∧ u = (ad, ct)) (hB D N0) (hA N0)) 0 0 (hA N0) := by
  refine Met.ofW (cc := cX1_leastTurnTo) (maxL := 3) (ret := (some .int)) (by decide) rfl ?_
  intro p e s m args below meth c s₁ B hml hv0
  obtain ⟨hargs, hKs, hV⟩ := hv0
  have hx := B.exec
  have hb := B.bytes
  have hr := B.returns
  have hts := atoms_spec (ws := wsX1_leastTurnTo) B.pre
  have hown : s.vm.findClass RX1 = some m.cls := findClass_of_methodNamed B.named
  have hlocks := B.notSynchronized
  have hS : va_S (hA N0) s.heap s.heap [] := va_S.rf
  have hl := lv_entry ([.ref (ad (t)), .ref (ad (tq))]) (n := 3) (Nat.le_of_ble_eq_true rfl)
  have hE : entryFrame m args 3 = entryFrame m ([.ref (ad (t)), .ref (ad (tq))] : List Value).toArray 3 := by rw [hargs]
  rw [hE, lg_entry_eq]
  generalize (lg_sl ([.ref (ad (t)), .ref (ad (tq))]) ++ List.replicate (3 - (lg_sl ([.ref (ad (t)), .ref (ad (tq))])).length) Slot.unset).toArray = ls at hl ⊢
  have hl : lv_has ls 3 [(0, .ref (ad (t))), (1, .ref (ad (tq)))] := hl
  have hp1 := hp.1
  refine lv_iconst (v := nI 0) hx hb dX1_leastTurnTo_0 (by decide) ?_
  refine lv_istore_n (lv' := [(2, .int (nI (0))), (0, .ref (ad (t))), (1, .ref (ad (tq)))]) hx hb dX1_leastTurnTo_1 rfl hl (by decide) rfl (fun ls hl => ?_)
  have L2 : ∀ (n i : Nat), i ≤ 8 → 8 < i + n → ∀ (H : Heap) (locs : List Loc), (∀ k, k < i → like P (nI k) Q9 = false) → hv D N0 ad ct H → va_S (hA N0) s.heap H locs → ∀ ls : Array Slot, lv_has ls 3 [(0, .ref (ad (t))), (1, .ref (ad (tq))), (2, .int (nI (i)))] → W p l e (headSpec wsX1_leastTurnTo ({ frames := 4, cells := 0, slots := 0, locals := 90 })).room s m args below meth c H locs 0 0 (MQ below (va_Qi (fun (z : Int32) (u : hU) => z = plc 8 (lturn P Q9) ∧ u = (ad, ct)) (hB D N0) (hA N0)) args s 0 0 (hA N0)) (F0 m 2 ls []) := by
    intro n
    induction n with
    | zero => intro i h1 h2; exact absurd h2 (by omega)
    | succ n ih2 =>
      intro i hi2 hn2 H locs gi hV hS ls hl
      refine lv_iload_n hx hb dX1_leastTurnTo_2 rfl (lv_at hl 2 rfl) ?_
      refine lv_bipush (v := nI 8) hx hb dX1_leastTurnTo_3 (by decide) ?_
      refine hN_icmp_ge (tgt := 25) hx hb (by omega) (by omega) dX1_leastTurnTo_5 (by decide) (fun c5 => ?_) (fun c5 => ?_)
      · refine lv_iconst (v := (-1)) hx hb dX1_leastTurnTo_25 (by decide) ?_
        exact hv_iret (v := ((-1))) (u := (ad, ct)) hx hb hr ⟨by unfold lturn; rw [frst_is (i := 8) (by omega) (fun k hk => gi k (by omega)) (fun q => absurd q (by omega)), plc_out], rfl⟩ hV hS dX1_leastTurnTo_26 hlocks
      · refine lv_aload_n hx hb dX1_leastTurnTo_8 rfl (lv_at hl 0 rfl) ?_
        refine lv_aload_n hx hb dX1_leastTurnTo_9 rfl (lv_at hl 1 rfl) ?_
        refine lv_iload_n hx hb dX1_leastTurnTo_10 rfl (lv_at hl 2 rfl) ?_
        refine hv_calli (va_runV (As := [.ref (ad (tq)), .int (nI (i))]) (rest := []) ⟨hx, hb, hml, hown, hts⟩ (c_X1_looksLike l D N0 ad ct hp hq0 (nI (i))) (cwV 2 hts gX1_leastTurnTo_X1_looksLike rfl rfl rfl (by decide +kernel) ⟨Nat.le_of_ble_eq_true rfl, Nat.le_of_ble_eq_true rfl⟩) (hv_preV (r := (RX1, TX1, 1)) hKs hV hS hp1 rfl) rfl rfl hl.1 rfl (lv_room (Nat.le_of_ble_eq_true rfl)) dX1_leastTurnTo_11 ⟨(Nat.le_of_ble_eq_true rfl), (Nat.le_of_ble_eq_true rfl)⟩) hS (fun r9 u9 H locs hq hV hS => ?_)
        obtain ⟨rfl, rfl⟩ := hq
        have hV : hv D N0 ad ct H := hV
        refine hB_if_eq (tgt := 19) hx hb dX1_leastTurnTo_14 (by decide) (fun c14 => ?_) (fun c14 => ?_)
        · refine lv_iinc (v := nI (i + 1)) (lv' := [(2, .int (nI (i + 1))), (0, .ref (ad (t))), (1, .ref (ad (tq)))]) hx hb dX1_leastTurnTo_19 hl (k := 2) rfl (nI_add (i) 1) (by decide) rfl (fun ls hl => ?_)
          refine lv_goto (tgt := 2) hx hb dX1_leastTurnTo_22 (by decide) ?_
          exact ih2 (i + 1)  (by omega) (by omega) _ _ (fun k hk => (Nat.lt_or_ge k i).elim (gi k) (fun q => by have e9 : k = i := (by omega); subst e9; exact c14)) hV hS ls (lv_sub hl [1, 2, 0] rfl)
        · refine lv_iload_n hx hb dX1_leastTurnTo_17 rfl (lv_at hl 2 rfl) ?_
          exact hv_iret (v := nI (i)) (u := (ad, ct)) hx hb hr ⟨by unfold lturn; rw [frst_is (i := i) (by omega) gi (fun _ => c14), plc_in (by omega)], rfl⟩ hV hS dX1_leastTurnTo_18 hlocks
  exact L2 (8 + 1) (0)  (by omega) (by omega) _ _ (fun k hk => absurd hk (Nat.not_lt_zero k)) hV hS ls (lv_sub hl [1, 2, 0] rfl)
