set_option maxHeartbeats 4000000 in
set_option maxRecDepth 100000 in
theorem c_X3_passMinute (l : Launch) (D : hG) (N0 : Nat) (ad : Nat → Nat) (ct : hC) {σ : gS} (hG : gX D σ ad ct) (hN : gNC σ ≤ 8 ∧ ∀ i, i < gNC σ → cHt σ i ≤ 10) : Met l yX3_passMinute wsX3_passMinute ({ frames := 2, cells := 0, slots := 0, locals := 35 }) (hPc D N0 ad ct [.ref (ad (0))]) (va_Qv (fun (u : hU) => u.1 = ad ∧ gX D (sPass σ) ad u.2 ∧ ∀ q : Nat, q ≠ 0 → q % 16 ≠ 3 → u.2 q = ct q) (hB D N0) (hA N0)) 0 0 (hA N0) := by
  refine Met.ofW (cc := cX3_passMinute) (maxL := 3) (ret := none) (by decide) rfl ?_
  intro p e s m args below meth c s₁ B hml hv0
  obtain ⟨hargs, hKs, hV⟩ := hv0
  have hx := B.exec
  have hb := B.bytes
  have hr := B.returns
  have hts := atoms_spec (ws := wsX3_passMinute) B.pre
  have hown : s.vm.findClass RX3 = some m.cls := findClass_of_methodNamed B.named
  have hlocks := B.notSynchronized
  have hS : va_S (hA N0) s.heap s.heap [] := va_S.rf
  have hiX3 : ∀ w ∈ u_ws RX3 TX3 8, w ∈ wsX3_passMinute := by decide +kernel
  have lk251 := hts (.fieldLink RX3 251 "CaneSlices" "minute" "I") (by decide +kernel)
  have lk11 := hts (.fieldLink RX3 11 "CaneSlices" "canes" "[LCaneSlices$Cane;") (by decide +kernel)
  have lk24 := hts (.fieldLink RX3 24 "CaneSlices" "inFurnace" "I") (by decide +kernel)
  have hl := lv_entry ([.ref (ad (0))]) (n := 3) (Nat.le_of_ble_eq_true rfl)
  have hE : entryFrame m args 3 = entryFrame m ([.ref (ad (0))] : List Value).toArray 3 := by rw [hargs]
  rw [hE, lg_entry_eq]
  generalize (lg_sl ([.ref (ad (0))]) ++ List.replicate (3 - (lg_sl ([.ref (ad (0))])).length) Slot.unset).toArray = ls at hl ⊢
  have hl : lv_has ls 3 [(0, .ref (ad (0)))] := hl
  obtain ⟨Qz, hQz⟩ : ∃ z : State → Prop, z = (MQ below (va_Qv (fun (u : hU) => u.1 = ad ∧ gX D (sPass σ) ad u.2 ∧ ∀ q : Nat, q ≠ 0 → q % 16 ≠ 3 → u.2 q = ct q) (hB D N0) (hA N0)) args s 0 0 (hA N0)) := ⟨_, rfl⟩
  rw [← hQz]
  obtain ⟨hn8, hnh⟩ := id hN
  obtain ⟨ct0, hct0⟩ : ∃ z, z = ct := ⟨ct, rfl⟩
  refine lv_iconst (v := nI 0) hx hb dX3_passMinute_0 (by decide) ?_
  refine lv_istore_n (lv' := [(1, .int (nI (0))), (0, .ref (ad (0)))]) hx hb dX3_passMinute_1 rfl hl (by decide) rfl (fun ls hl => ?_)
  have L2 : ∀ (n i : Nat), i ≤ 8 → 8 < i + n → ∀ (ct : hC) (H : Heap) (locs : List Loc), (gX D (agd σ (min i (gNC σ))) ad ct) → (∀ q : Nat, q % 16 ≠ 3 → ct q = ct0 q) → hv D N0 ad ct H → va_S (hA N0) s.heap H locs → ∀ ls : Array Slot, lv_has ls 3 [(0, .ref (ad (0))), (1, .int (nI (i)))] → W p l e (headSpec wsX3_passMinute ({ frames := 2, cells := 0, slots := 0, locals := 35 })).room s m args below meth c H locs 0 0 Qz (F0 m 2 ls []) := by
    intro n
    induction n with
    | zero => intro i h1 h2; exact absurd h2 (by omega)
    | succ n ih2 =>
      intro i hi2 hn2 ct H locs hGi hfr hV hS ls hl
      have hz0 : ct (0) = some (eO 3 [.ref (ad (16)), .ref (ad (32)), .ref (ad (48)), .int (nI (gNC σ)), .int (nI (gNS σ)), .int (nI (gNB σ)), .int (gFu σ), .int (gMi σ)]) := hGi.1
      have hz1 : ct (16) = some (eQ (D.2 1) 8 (fun i => if i < gNC σ then some (ad (16 * i + 3)) else none)) := hGi.2.1
      have hz2 : ct (32) = some (eQ (D.2 2) 60 (fun i => if i < gNS σ then some (ad (16 * i + 6)) else none)) := hGi.2.2.1
      have hz3 : ct (48) = some (eQ (D.2 2) 24 (fun e => (gEy σ e).map (fun q => ad (16 * q.1 + 6)))) := hGi.2.2.2.1
      refine lv_iload_n hx hb dX3_passMinute_2 rfl (lv_at hl 1 rfl) ?_
      refine lv_bipush (v := nI 8) hx hb dX3_passMinute_3 (by decide) ?_
      refine hN_icmp_ge (tgt := 42) hx hb (by omega) (by omega) dX3_passMinute_5 (by decide) (fun c5 => ?_) (fun c5 => ?_)
      · refine lv_aload_n hx hb dX3_passMinute_42 rfl (lv_at hl 0 rfl) ?_
        refine lv_dup hx hb dX3_passMinute_43 rfl ?_
        refine hv_get (C := RX3) (T := TX3) (N := 8) hx hb hts hiX3 hown hKs hV hz0 7 rfl (by decide) lk251 (fun _ h9 => h9) rfl dX3_passMinute_44 ?_
        refine lv_iconst (v := nI 1) hx hb dX3_passMinute_47 (by decide) ?_
        refine lv_iadd hx hb dX3_passMinute_48 ?_
        refine hv_put (ty := .int) (C := RX3) (T := TX3) (N := 8) hx hb hts hiX3 tyX3 tyX3_ok nmX3 hown hKs hV hS hz0 7 rfl (by decide) lk251 (fun _ h9 => h9) (Or.inl (by decide +kernel)) (by decide +kernel) rfl rfl (Nat.le_of_ble_eq_true rfl) dX3_passMinute_49 (fun ct H locs he hne hV hS => ?_)
        have hz1 := (hne (16) (by omega)).trans hz1
        have hz2 := (hne (32) (by omega)).trans hz2
        have hz3 := (hne (48) (by omega)).trans hz3
        have hz0 : ct (0) = some (eO 3 [.ref (ad (16)), .ref (ad (32)), .ref (ad (48)), .int (nI (gNC σ)), .int (nI (gNS σ)), .int (nI (gNB σ)), .int (gFu σ), .int ((gMi σ) + nI (1))]) := he
        rw [hQz]
        exact hv_vret (u := (ad, ct)) hx hb hr ⟨rfl, by rw [show min i (gNC σ) = gNC σ by omega] at hGi; exact hGi.obj he hne, fun q q1 q2 => (hne q q1).trans ((hfr q q2).trans (by rw [hct0]))⟩ hV hS dX3_passMinute_52 hlocks
      · refine lv_aload_n hx hb dX3_passMinute_8 rfl (lv_at hl 0 rfl) ?_
        refine hv_get (C := RX3) (T := TX3) (N := 8) hx hb hts hiX3 hown hKs hV hz0 0 rfl (by decide) lk11 (fun _ h9 => h9) rfl dX3_passMinute_9 ?_
        refine lv_iload_n hx hb dX3_passMinute_12 rfl (lv_at hl 1 rfl) ?_
        refine hv_aald hx hb hKs hV 1 hz1 rfl (by omega) (by decide) dX3_passMinute_13 ?_
        refine hv_ifQ (fun cq13 => ?_) (fun cq13 => ?_)
        · refine lv_astore_n (lv' := [(2, .ref (ad (16 * (i) + 3))), (0, .ref (ad (0))), (1, .int (nI (i)))]) hx hb dX3_passMinute_14 rfl hl (by decide) rfl (fun ls hl => ?_)
          refine lv_aload_n hx hb dX3_passMinute_15 rfl (lv_at hl 0 rfl) ?_
          refine lv_ifnull hx hb dX3_passMinute_16 ?_
          refine lv_aload_n hx hb dX3_passMinute_19 rfl (lv_at hl 0 rfl) ?_
          refine lv_iload_n hx hb dX3_passMinute_20 rfl (lv_at hl 2 rfl) ?_
          refine lv_aload_n hx hb dX3_passMinute_21 rfl (lv_at hl 1 rfl) ?_
          refine hv_get (C := RX3) (T := TX3) (N := 8) hx hb hts hiX3 hown hKs hV hz0 6 rfl (by decide) lk24 (fun _ h9 => h9) rfl dX3_passMinute_22 ?_
          refine hL_icmp_ne (tgt := 32) hx hb (by omega) dX3_passMinute_25 (by decide) (fun c25 => ?_) (fun c25 => ?_)
          · refine lv_iconst (v := nI 0) hx hb dX3_passMinute_32 (by decide) ?_
            have hcm := hGi.2.2.2.2.1 (i) (show i < gNC σ by omega)
            rw [agd_ge (by omega)] at hcm
            have hcf : ct (16 * (i) + 3) = some (eO 0 [.ref (ad (16 * (i) + 4)), .int (nI (cLen σ (i))), .int (cTw σ (i)), .int (nI (cHt σ (i))), .int (hbv (cCr σ (i)))]) := hcm.1
            refine hv_callv (va_runV (As := [.int (nI (0))]) (rest := []) ⟨hx, hb, hml, hown, hts⟩ (c_X0_passMinute l D N0 ad ct hcf (hN.2 i (by omega)) false) (cwV 1 hts gX3_passMinute_X0_passMinute rfl rfl rfl (by decide +kernel) ⟨Nat.le_of_ble_eq_true rfl, Nat.le_of_ble_eq_true rfl⟩) (hv_preV (r := (RX0, TX0, 5)) hKs hV hS hcf rfl) rfl rfl hl.1 rfl (lv_room (Nat.le_of_ble_eq_true rfl)) dX3_passMinute_33 ⟨(Nat.le_of_ble_eq_true rfl), (Nat.le_of_ble_eq_true rfl)⟩) hS (fun u9 H locs hq hV hS => ?_)
            obtain ⟨ad9, ct⟩ := u9
            dsimp only at hq
            obtain ⟨ha9, he, hne⟩ := hq
            have ha9 := ha9.symm
            subst ha9
            have hV : hv D N0 ad ct H := hV
            have hdc : decide (nI i = gFu σ) = false := decide_eq_false (fun q => c25 (by rw [← q, nI_toInt (by omega)]))
            have hG2 : gX D (agd σ (i + 1)) ad ct := by
              rw [agd_s]
              rw [show min i (gNC σ) = i by omega] at hGi
              refine hGi.can (by rw [show aged σ i = (cLen σ i, cTw σ i, if decide (nI i = gFu σ) = true then min (cHt σ i + 3) 10 else cHt σ i - 1, cCr σ i, cPt σ i) from rfl, hdc]; exact he) (hcm.2.keep (hne _ (by omega)) (hne _ (by omega)) rfl) (fun z h1 _ => hne z h1)
            refine lv_iinc (v := nI (i + 1)) (lv' := [(1, .int (nI (i + 1))), (2, .ref (ad (16 * (i) + 3))), (0, .ref (ad (0)))]) hx hb dX3_passMinute_36 hl (k := 2) rfl (nI_add (i) 1) (by decide) rfl (fun ls hl => ?_)
            refine lv_goto (tgt := 2) hx hb dX3_passMinute_39 (by decide) ?_
            exact ih2 (i + 1)  (by omega) (by omega) ct _ _ (by rw [show min (i + 1) (gNC σ) = i + 1 by omega]; exact hG2) (fun q q1 => (hne q (by omega)).trans (hfr q q1)) hV hS ls (lv_sub hl [2, 0] rfl)
          · refine lv_iconst (v := nI 1) hx hb dX3_passMinute_28 (by decide) ?_
            refine lv_goto (tgt := 33) hx hb dX3_passMinute_29 (by decide) ?_
            have hcm := hGi.2.2.2.2.1 (i) (show i < gNC σ by omega)
            rw [agd_ge (by omega)] at hcm
            have hcf : ct (16 * (i) + 3) = some (eO 0 [.ref (ad (16 * (i) + 4)), .int (nI (cLen σ (i))), .int (cTw σ (i)), .int (nI (cHt σ (i))), .int (hbv (cCr σ (i)))]) := hcm.1
            refine hv_callv (va_runV (As := [.int (nI (1))]) (rest := []) ⟨hx, hb, hml, hown, hts⟩ (c_X0_passMinute l D N0 ad ct hcf (hN.2 i (by omega)) true) (cwV 1 hts gX3_passMinute_X0_passMinute rfl rfl rfl (by decide +kernel) ⟨Nat.le_of_ble_eq_true rfl, Nat.le_of_ble_eq_true rfl⟩) (hv_preV (r := (RX0, TX0, 5)) hKs hV hS hcf rfl) rfl rfl hl.1 rfl (lv_room (Nat.le_of_ble_eq_true rfl)) dX3_passMinute_33 ⟨(Nat.le_of_ble_eq_true rfl), (Nat.le_of_ble_eq_true rfl)⟩) hS (fun u9 H locs hq hV hS => ?_)
            obtain ⟨ad9, ct⟩ := u9
            dsimp only at hq
            obtain ⟨ha9, he, hne⟩ := hq
            have ha9 := ha9.symm
            subst ha9
            have hV : hv D N0 ad ct H := hV
            have hdc : decide (nI i = gFu σ) = true := decide_eq_true (hI_eq.mpr (by rw [nI_toInt (by omega)]; exact c25))
            have hG2 : gX D (agd σ (i + 1)) ad ct := by
              rw [agd_s]
              rw [show min i (gNC σ) = i by omega] at hGi
              refine hGi.can (by rw [show aged σ i = (cLen σ i, cTw σ i, if decide (nI i = gFu σ) = true then min (cHt σ i + 3) 10 else cHt σ i - 1, cCr σ i, cPt σ i) from rfl, hdc]; exact he) (hcm.2.keep (hne _ (by omega)) (hne _ (by omega)) rfl) (fun z h1 _ => hne z h1)
            refine lv_iinc (v := nI (i + 1)) (lv' := [(1, .int (nI (i + 1))), (2, .ref (ad (16 * (i) + 3))), (0, .ref (ad (0)))]) hx hb dX3_passMinute_36 hl (k := 2) rfl (nI_add (i) 1) (by decide) rfl (fun ls hl => ?_)
            refine lv_goto (tgt := 2) hx hb dX3_passMinute_39 (by decide) ?_
            exact ih2 (i + 1)  (by omega) (by omega) ct _ _ (by rw [show min (i + 1) (gNC σ) = i + 1 by omega]; exact hG2) (fun q q1 => (hne q (by omega)).trans (hfr q q1)) hV hS ls (lv_sub hl [2, 0] rfl)
        · refine lv_astore_nN (lv' := [(2, .null), (0, .ref (ad (0))), (1, .int (nI (i)))]) hx hb dX3_passMinute_14 rfl hl (by decide) rfl (fun ls hl => ?_)
          refine lv_aload_nN hx hb dX3_passMinute_15 rfl (lv_at hl 0 rfl) ?_
          refine lv_ifnullN (tgt := 36) hx hb dX3_passMinute_16 (by decide) ?_
          refine lv_iinc (v := nI (i + 1)) (lv' := [(1, .int (nI (i + 1))), (2, .null), (0, .ref (ad (0)))]) hx hb dX3_passMinute_36 hl (k := 2) rfl (nI_add (i) 1) (by decide) rfl (fun ls hl => ?_)
          refine lv_goto (tgt := 2) hx hb dX3_passMinute_39 (by decide) ?_
          exact ih2 (i + 1)  (by omega) (by omega) ct _ _ (by rw [show min (i + 1) (gNC σ) = min i (gNC σ) by omega]; exact hGi) (hfr) hV hS ls (lv_sub hl [2, 0] rfl)
  exact L2 (8 + 1) (0)  (by omega) (by omega) ct _ _ (by rw [Nat.zero_min, agd_0]; exact hG) (fun q _ => by rw [hct0]) hV hS ls (lv_sub hl [1, 0] rfl)
