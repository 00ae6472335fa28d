set_option maxHeartbeats 4000000 in
set_option maxRecDepth 100000 in
theorem c_X4_cut (l : Launch) (D : hG) (N0 : Nat) (ad : Nat → Nat) (ct : hC) {σ : gS} {th : Nat} (hM : gM D σ th ad ct) (hO : okS σ) (y0q : Int32) : Met l yX4_cut wsX4_cut ({ frames := 2, cells := 0, slots := 0, locals := 44 }) (hPc D N0 ad ct [.ref (ad (80)), .int (y0q)]) (va_Qi (fun (z : Int32) (u : hU) => ((k_cut σ y0q) = 0 → z = nI (gNS σ) ∧ gM D (s_cut σ y0q.toInt.toNat) 0 u.1 u.2) ∧ ((k_cut σ y0q) ≠ 0 → gM D σ (k_cut σ y0q) u.1 u.2) ∧ hFm ad ct u) (hB D N0) (hA N0)) 0 0 (hA N0) := by
  refine Met.ofW (cc := cX4_cut) (maxL := 3) (ret := (some .int)) (by decide) rfl ?_
  intro p e s m args below meth c s₁ B hml hv0
  obtain ⟨hargs, hKs, hV⟩ := hv0
  have hx := B.exec
  have hb := B.bytes
  have hr := B.returns
  have hts := atoms_spec (ws := wsX4_cut) B.pre
  have hown : s.vm.findClass RX4 = some m.cls := findClass_of_methodNamed B.named
  have hlocks := B.notSynchronized
  have hS : va_S (hA N0) s.heap s.heap [] := va_S.rf
  have hiX4 : ∀ w ∈ u_ws RX4 TX4 15, w ∈ wsX4_cut := by decide +kernel
  have lk41 := hts (.fieldLink RX4 41 "CaneSlicesModel" "thrown" "I") (by decide +kernel)
  have lk13 := hts (.fieldLink RX4 13 "CaneSlicesModel" "length" "[I") (by decide +kernel)
  have lk20 := hts (.fieldLink RX4 20 "CaneSlicesModel" "heat" "[I") (by decide +kernel)
  have lk51 := hts (.fieldLink RX4 51 "CaneSlicesModel" "slices" "I") (by decide +kernel)
  have lk32 := hts (.fieldLink RX4 32 "CaneSlicesModel" "place" "[I") (by decide +kernel)
  have lk29 := hts (.fieldLink RX4 29 "CaneSlicesModel" "look" "[I") (by decide +kernel)
  have lk26 := hts (.fieldLink RX4 26 "CaneSlicesModel" "pattern" "[I") (by decide +kernel)
  have lk17 := hts (.fieldLink RX4 17 "CaneSlicesModel" "twist" "[I") (by decide +kernel)
  have hl := lv_entry ([.ref (ad (80)), .int (y0q)]) (n := 3) (Nat.le_of_ble_eq_true rfl)
  have hE : entryFrame m args 3 = entryFrame m ([.ref (ad (80)), .int (y0q)] : List Value).toArray 3 := by rw [hargs]
  rw [hE, lg_entry_eq]
  generalize (lg_sl ([.ref (ad (80)), .int (y0q)]) ++ List.replicate (3 - (lg_sl ([.ref (ad (80)), .int (y0q)])).length) Slot.unset).toArray = ls at hl ⊢
  have hl : lv_has ls 3 [(0, .ref (ad (80))), (1, .int (y0q))] := hl
  obtain ⟨Qz, hQz⟩ : ∃ z : State → Prop, z = (MQ below (va_Qi (fun (z : Int32) (u : hU) => ((k_cut σ y0q) = 0 → z = nI (gNS σ) ∧ gM D (s_cut σ y0q.toInt.toNat) 0 u.1 u.2) ∧ ((k_cut σ y0q) ≠ 0 → gM D σ (k_cut σ y0q) u.1 u.2) ∧ hFm ad ct u) (hB D N0) (hA N0)) args s 0 0 (hA N0)) := ⟨_, rfl⟩
  rw [← hQz]
  obtain ⟨hn8, hn60, hn6, -⟩ := id hO
  obtain ⟨f1, f2, f3, f4, f5, f6, f7, f8, f9, ⟨hm0, hm1, hm2, hm3, hm4, hm5, hm6, hm7, hm8, hm9⟩, hme⟩ := id hM
  obtain ⟨em1, em2, em3, em4, em5, em6, em7, em8, em9⟩ := id hme
  obtain ⟨ad0, had0⟩ : ∃ z, z = ad := ⟨ad, rfl⟩
  obtain ⟨ct0, hct0⟩ : ∃ z, z = ct := ⟨ct, rfl⟩
  have hfr : ∀ q : Nat, (q ≠ 1 ∧ (q % 16 ≠ 0 ∨ q < 80)) → ct q = ct0 q := fun q _ => by rw [hct0]
  have hfa : ∀ q : Nat, q ≠ 1 → ad q = ad0 q := fun q _ => by rw [had0]
  refine lv_aload_n hx hb dX4_cut_0 rfl (lv_at hl 0 rfl) ?_
  refine lv_iconst (v := nI 0) hx hb dX4_cut_1 (by decide) ?_
  refine hv_put (ty := .int) (C := RX4) (T := TX4) (N := 15) hx hb hts hiX4 tyX4 tyX4_ok nmX4 hown hKs hV hS hm0 0 rfl (by decide) lk41 (fun _ h9 => h9) (Or.inl (by decide +kernel)) (by decide +kernel) rfl rfl (Nat.le_of_ble_eq_true rfl) dX4_cut_2 (fun ct H locs he hne hV hS => ?_)
  have hm1 := (hne (96) (by omega)).trans hm1
  have hm2 := (hne (112) (by omega)).trans hm2
  have hm3 := (hne (128) (by omega)).trans hm3
  have hm4 := (hne (144) (by omega)).trans hm4
  have hm5 := (hne (160) (by omega)).trans hm5
  have hm6 := (hne (176) (by omega)).trans hm6
  have hm7 := (hne (192) (by omega)).trans hm7
  have hm8 := (hne (208) (by omega)).trans hm8
  have hm9 := (hne (224) (by omega)).trans hm9
  have hm0 : ct (80) = some (eO 4 [.int (nI (0)), .int (gMi σ), .int (gFu σ), .int (nI (gNC σ)), .ref (ad (96)), .ref (ad (112)), .ref (ad (128)), .ref (ad (144)), .ref (ad (160)), .int (nI (gNS σ)), .ref (ad (176)), .ref (ad (192)), .int (nI (gNB σ)), .ref (ad (208)), .ref (ad (224))]) := he
  have hfr := fun (q : Nat) (q1 : q ≠ 1 ∧ (q % 16 ≠ 0 ∨ q < 80)) => (hne q (by omega)).trans (hfr q q1)
  refine lv_aload_n hx hb dX4_cut_5 rfl (lv_at hl 0 rfl) ?_
  refine lv_iload_n hx hb dX4_cut_6 rfl (lv_at hl 1 rfl) ?_
  refine hv_calli (va_runV (As := [.int (y0q)]) (rest := []) ⟨hx, hb, hml, hown, hts⟩ (c_X4_isCane l D N0 ad ct (show gM D σ _ ad ct from ⟨f1, f2, f3, f4, f5, f6, f7, f8, f9, ⟨hm0, hm1, hm2, hm3, hm4, hm5, hm6, hm7, hm8, hm9⟩, hme⟩) hO ((y0q))) (cwV 1 hts gX4_cut_X4_isCane rfl rfl rfl (by decide +kernel) ⟨Nat.le_of_ble_eq_true rfl, Nat.le_of_ble_eq_true rfl⟩) (hv_preV (r := (RX4, TX4, 15)) hKs hV hS hm0 rfl) rfl rfl hl.1 rfl (lv_room (Nat.le_of_ble_eq_true rfl)) dX4_cut_7 ⟨(Nat.le_of_ble_eq_true rfl), (Nat.le_of_ble_eq_true rfl)⟩) hS (fun r9 u9 H locs hq hV hS => ?_)
  obtain ⟨rfl, rfl⟩ := hq
  have hV : hv D N0 ad ct H := hV
  refine hB_if_ne (tgt := 19) hx hb dX4_cut_10 (by decide) (fun c10 => ?_) (fun c10 => ?_)
  · obtain ⟨y0qn, hy0qn, rfl⟩ := inR_of c10
    have e_y0q : (nI y0qn).toInt.toNat = y0qn := toNat_nI (by omega)
    refine lv_aload_n hx hb dX4_cut_19 rfl (lv_at hl 0 rfl) ?_
    refine hv_get (C := RX4) (T := TX4) (N := 15) hx hb hts hiX4 hown hKs hV hm0 4 rfl (by decide) lk13 (fun _ h9 => h9) rfl dX4_cut_20 ?_
    refine lv_iload_n hx hb dX4_cut_23 rfl (lv_at hl 1 rfl) ?_
    refine hv_iald hx hb hKs hV hm1 (by omega) (by decide) dX4_cut_24 ?_
    have hcb := (hO.2.2.2.1 (y0qn) (by omega))
    have hcb1 := hcb.1
    have hcb2 := hcb.2.1
    refine hv_eqi (em1 (y0qn) (by omega)) ?_
    refine hN_if_eq (tgt := 47) hx hb (by omega) dX4_cut_25 (by decide) (fun c25 => ?_) (fun c25 => ?_)
    · refine lv_aload_n hx hb dX4_cut_47 rfl (lv_at hl 0 rfl) ?_
      refine lv_iconst (v := nI 2) hx hb dX4_cut_48 (by decide) ?_
      refine hv_calli (va_runV (As := [.int (nI (2))]) (rest := []) ⟨hx, hb, hml, hown, hts⟩ (c_X4_no l D N0 ad ct hm0 (2)) (cwV 1 hts gX4_cut_X4_no rfl rfl rfl (by decide +kernel) ⟨Nat.le_of_ble_eq_true rfl, Nat.le_of_ble_eq_true rfl⟩) (hv_preV (r := (RX4, TX4, 15)) hKs hV hS hm0 rfl) rfl rfl hl.1 rfl (lv_room (Nat.le_of_ble_eq_true rfl)) dX4_cut_49 ⟨(Nat.le_of_ble_eq_true rfl), (Nat.le_of_ble_eq_true rfl)⟩) hS (fun r9 u9 H locs hq hV hS => ?_)
      obtain ⟨ad9, ct⟩ := u9
      dsimp only at hq
      obtain ⟨rfl, ha9, he, hne⟩ := hq
      have ha9 := ha9.symm
      subst ha9
      have hV : hv D N0 ad ct H := hV
      have hm1 := (hne (96) (by omega)).trans hm1
      have hm2 := (hne (112) (by omega)).trans hm2
      have hm3 := (hne (128) (by omega)).trans hm3
      have hm4 := (hne (144) (by omega)).trans hm4
      have hm5 := (hne (160) (by omega)).trans hm5
      have hm6 := (hne (176) (by omega)).trans hm6
      have hm7 := (hne (192) (by omega)).trans hm7
      have hm8 := (hne (208) (by omega)).trans hm8
      have hm9 := (hne (224) (by omega)).trans hm9
      have hm0 : ct (80) = some (eO 4 [.int (nI (2)), .int (gMi σ), .int (gFu σ), .int (nI (gNC σ)), .ref (ad (96)), .ref (ad (112)), .ref (ad (128)), .ref (ad (144)), .ref (ad (160)), .int (nI (gNS σ)), .ref (ad (176)), .ref (ad (192)), .int (nI (gNB σ)), .ref (ad (208)), .ref (ad (224))]) := he
      have hfr := fun (q : Nat) (q1 : q ≠ 1 ∧ (q % 16 ≠ 0 ∨ q < 80)) => (hne q (by omega)).trans (hfr q q1)
      have hkn : (k_cut σ (nI y0qn)) = 2 := by unfold k_cut; rw [if_pos c10, e_y0q]; exact if_pos (by omega)
      rw [hQz]
      exact hv_iret (v := nI (0)) (u := (ad, ct)) hx hb hr ⟨fun h9 => absurd (hkn.symm.trans h9) (by decide), fun _ => by rw [hkn]; exact ⟨f1, f2, f3, f4, f5, f6, f7, f8, f9, ⟨hm0, hm1, hm2, hm3, hm4, hm5, hm6, hm7, hm8, hm9⟩, hme⟩, fun q q1 => ⟨(hfa q q1).trans (by rw [had0]), fun q2 => (hfr q ⟨q1, q2⟩).trans (by rw [hct0])⟩⟩ hV hS dX4_cut_52 hlocks
    · refine lv_aload_n hx hb dX4_cut_28 rfl (lv_at hl 0 rfl) ?_
      refine hv_get (C := RX4) (T := TX4) (N := 15) hx hb hts hiX4 hown hKs hV hm0 6 rfl (by decide) lk20 (fun _ h9 => h9) rfl dX4_cut_29 ?_
      refine lv_iload_n hx hb dX4_cut_32 rfl (lv_at hl 1 rfl) ?_
      refine hv_iald hx hb hKs hV hm3 (by omega) (by decide) dX4_cut_33 ?_
      refine hv_eqi (em3 (y0qn) (by omega)) ?_
      refine lv_iconst (v := nI 3) hx hb dX4_cut_34 (by decide) ?_
      refine hN_icmp_gt (tgt := 47) hx hb (by omega) (by omega) dX4_cut_35 (by decide) (fun c35 => ?_) (fun c35 => ?_)
      · refine lv_aload_n hx hb dX4_cut_47 rfl (lv_at hl 0 rfl) ?_
        refine lv_iconst (v := nI 2) hx hb dX4_cut_48 (by decide) ?_
        refine hv_calli (va_runV (As := [.int (nI (2))]) (rest := []) ⟨hx, hb, hml, hown, hts⟩ (c_X4_no l D N0 ad ct hm0 (2)) (cwV 1 hts gX4_cut_X4_no rfl rfl rfl (by decide +kernel) ⟨Nat.le_of_ble_eq_true rfl, Nat.le_of_ble_eq_true rfl⟩) (hv_preV (r := (RX4, TX4, 15)) hKs hV hS hm0 rfl) rfl rfl hl.1 rfl (lv_room (Nat.le_of_ble_eq_true rfl)) dX4_cut_49 ⟨(Nat.le_of_ble_eq_true rfl), (Nat.le_of_ble_eq_true rfl)⟩) hS (fun r9 u9 H locs hq hV hS => ?_)
        obtain ⟨ad9, ct⟩ := u9
        dsimp only at hq
        obtain ⟨rfl, ha9, he, hne⟩ := hq
        have ha9 := ha9.symm
        subst ha9
        have hV : hv D N0 ad ct H := hV
        have hm1 := (hne (96) (by omega)).trans hm1
        have hm2 := (hne (112) (by omega)).trans hm2
        have hm3 := (hne (128) (by omega)).trans hm3
        have hm4 := (hne (144) (by omega)).trans hm4
        have hm5 := (hne (160) (by omega)).trans hm5
        have hm6 := (hne (176) (by omega)).trans hm6
        have hm7 := (hne (192) (by omega)).trans hm7
        have hm8 := (hne (208) (by omega)).trans hm8
        have hm9 := (hne (224) (by omega)).trans hm9
        have hm0 : ct (80) = some (eO 4 [.int (nI (2)), .int (gMi σ), .int (gFu σ), .int (nI (gNC σ)), .ref (ad (96)), .ref (ad (112)), .ref (ad (128)), .ref (ad (144)), .ref (ad (160)), .int (nI (gNS σ)), .ref (ad (176)), .ref (ad (192)), .int (nI (gNB σ)), .ref (ad (208)), .ref (ad (224))]) := he
        have hfr := fun (q : Nat) (q1 : q ≠ 1 ∧ (q % 16 ≠ 0 ∨ q < 80)) => (hne q (by omega)).trans (hfr q q1)
        have hkn : (k_cut σ (nI y0qn)) = 2 := by unfold k_cut; rw [if_pos c10, e_y0q]; exact if_pos (by omega)
        rw [hQz]
        exact hv_iret (v := nI (0)) (u := (ad, ct)) hx hb hr ⟨fun h9 => absurd (hkn.symm.trans h9) (by decide), fun _ => by rw [hkn]; exact ⟨f1, f2, f3, f4, f5, f6, f7, f8, f9, ⟨hm0, hm1, hm2, hm3, hm4, hm5, hm6, hm7, hm8, hm9⟩, hme⟩, fun q q1 => ⟨(hfa q q1).trans (by rw [had0]), fun q2 => (hfr q ⟨q1, q2⟩).trans (by rw [hct0])⟩⟩ hV hS dX4_cut_52 hlocks
      · refine lv_aload_n hx hb dX4_cut_38 rfl (lv_at hl 0 rfl) ?_
        refine hv_get (C := RX4) (T := TX4) (N := 15) hx hb hts hiX4 hown hKs hV hm0 9 rfl (by decide) lk51 (fun _ h9 => h9) rfl dX4_cut_39 ?_
        refine lv_bipush (v := nI 60) hx hb dX4_cut_42 (by decide) ?_
        refine hN_icmp_ne (tgt := 53) hx hb (by omega) (by omega) dX4_cut_44 (by decide) (fun c44 => ?_) (fun c44 => ?_)
        · refine lv_aload_n hx hb dX4_cut_53 rfl (lv_at hl 0 rfl) ?_
          refine hv_get (C := RX4) (T := TX4) (N := 15) hx hb hts hiX4 hown hKs hV hm0 4 rfl (by decide) lk13 (fun _ h9 => h9) rfl dX4_cut_54 ?_
          refine lv_iload_n hx hb dX4_cut_57 rfl (lv_at hl 1 rfl) ?_
          refine lv_dup2_11 hx hb dX4_cut_58 rfl rfl ?_
          refine hv_iald hx hb hKs hV hm1 (by omega) (by decide) dX4_cut_59 ?_
          refine hv_eqi (em1 (y0qn) (by omega)) ?_
          refine lv_iconst (v := nI 1) hx hb dX4_cut_60 (by decide) ?_
          refine hN_isub hx hb (by omega) dX4_cut_61 ?_
          refine hv_iast hx hb hKs hV hS hm1 (by omega) (by decide) dX4_cut_62 (fun ct H locs he hne hV hS => ?_)
          have hm2 := (hne (112) (by omega)).trans hm2
          have hm3 := (hne (128) (by omega)).trans hm3
          have hm4 := (hne (144) (by omega)).trans hm4
          have hm5 := (hne (160) (by omega)).trans hm5
          have hm6 := (hne (176) (by omega)).trans hm6
          have hm7 := (hne (192) (by omega)).trans hm7
          have hm8 := (hne (208) (by omega)).trans hm8
          have hm9 := (hne (224) (by omega)).trans hm9
          have hm0 := (hne (80) (by omega)).trans hm0
          have hm1 := he
          have hfr := fun (q : Nat) (q1 : q ≠ 1 ∧ (q % 16 ≠ 0 ∨ q < 80)) => (hne q (by omega)).trans (hfr q q1)
          obtain ⟨ct1, hct1⟩ : ∃ z, z = ct := ⟨ct, rfl⟩
          refine lv_iconst (v := nI 0) hx hb dX4_cut_63 (by decide) ?_
          refine lv_istore_n (lv' := [(2, .int (nI (0))), (0, .ref (ad (80))), (1, .int (nI (y0qn)))]) hx hb dX4_cut_64 rfl hl (by decide) rfl (fun ls hl => ?_)
          have L65 : ∀ (n i : Nat) (F : Nat → Int32), i ≤ 3 → 3 < i + n → ∀ (ct : hC) (H : Heap) (locs : List Loc), (ct 176 = some (eI D 180 F)) → ((∀ r, r < i → F (3 * gNS σ + r) = nI (rgP (p_cut σ y0qn) r)) ∧ ∀ k, k < gNS σ → ∀ r, r < 3 → F (3 * k + r) = f6 (3 * k + r)) → (∀ q : Nat, q ≠ 176 → ct q = ct1 q) → (∀ q : Nat, (q ≠ 1 ∧ (q % 16 ≠ 0 ∨ q < 80)) → ct q = ct0 q) → hv D N0 ad ct H → va_S (hA N0) s.heap H locs → ∀ ls : Array Slot, lv_has ls 3 [(0, .ref (ad (80))), (1, .int (nI (y0qn))), (2, .int (nI (i)))] → W p l e (headSpec wsX4_cut ({ frames := 2, cells := 0, slots := 0, locals := 44 })).room s m args below meth c H locs 0 0 Qz (F0 m 65 ls []) := by
            intro n
            induction n with
            | zero => intro i F h1 h2; exact absurd h2 (by omega)
            | succ n ih65 =>
              intro i F hi65 hn65 ct H locs h176 hg6 hfx hfr hV hS ls hl
              have hm0 : ct 80 = some (eO 4 [.int (nI (0)), .int (gMi σ), .int (gFu σ), .int (nI (gNC σ)), .ref (ad (96)), .ref (ad (112)), .ref (ad (128)), .ref (ad (144)), .ref (ad (160)), .int (nI (gNS σ)), .ref (ad (176)), .ref (ad (192)), .int (nI (gNB σ)), .ref (ad (208)), .ref (ad (224))]) := (hfx 80 (by omega)).trans (by rw [hct1]; exact hm0)
              have hm1 : ct 96 = some (eI D 8 (va_up f1 y0qn (nI (cLen σ y0qn - 1)))) := (hfx 96 (by omega)).trans (by rw [hct1]; exact hm1)
              have hm2 : ct 112 = some (eI D 8 (f2)) := (hfx 112 (by omega)).trans (by rw [hct1]; exact hm2)
              have hm3 : ct 128 = some (eI D 8 (f3)) := (hfx 128 (by omega)).trans (by rw [hct1]; exact hm3)
              have hm4 : ct 144 = some (eI D 8 (f4)) := (hfx 144 (by omega)).trans (by rw [hct1]; exact hm4)
              have hm5 : ct 160 = some (eI D 24 (f5)) := (hfx 160 (by omega)).trans (by rw [hct1]; exact hm5)
              have hm6 := h176
              have hm7 : ct 192 = some (eI D 60 (f7)) := (hfx 192 (by omega)).trans (by rw [hct1]; exact hm7)
              have hm8 : ct 208 = some (eI D 24 (f8)) := (hfx 208 (by omega)).trans (by rw [hct1]; exact hm8)
              have hm9 : ct 224 = some (eI D 24 (f9)) := (hfx 224 (by omega)).trans (by rw [hct1]; exact hm9)
              refine lv_iload_n hx hb dX4_cut_65 rfl (lv_at hl 2 rfl) ?_
              refine lv_iconst (v := nI 3) hx hb dX4_cut_66 (by decide) ?_
              refine hN_icmp_ge (tgt := 115) hx hb (by omega) (by omega) dX4_cut_67 (by decide) (fun c67 => ?_) (fun c67 => ?_)
              · refine lv_aload_n hx hb dX4_cut_115 rfl (lv_at hl 0 rfl) ?_
                refine hv_get (C := RX4) (T := TX4) (N := 15) hx hb hts hiX4 hown hKs hV hm0 11 rfl (by decide) lk32 (fun _ h9 => h9) rfl dX4_cut_116 ?_
                refine lv_aload_n hx hb dX4_cut_119 rfl (lv_at hl 0 rfl) ?_
                refine hv_get (C := RX4) (T := TX4) (N := 15) hx hb hts hiX4 hown hKs hV hm0 9 rfl (by decide) lk51 (fun _ h9 => h9) rfl dX4_cut_120 ?_
                refine lv_iconst (v := (-1)) hx hb dX4_cut_123 (by decide) ?_
                refine hv_iast hx hb hKs hV hS hm7 (by omega) (by decide) dX4_cut_124 (fun ct H locs he hne hV hS => ?_)
                have hm0 := (hne (80) (by omega)).trans hm0
                have hm1 := (hne (96) (by omega)).trans hm1
                have hm2 := (hne (112) (by omega)).trans hm2
                have hm3 := (hne (128) (by omega)).trans hm3
                have hm4 := (hne (144) (by omega)).trans hm4
                have hm5 := (hne (160) (by omega)).trans hm5
                have hm6 := (hne (176) (by omega)).trans hm6
                have hm8 := (hne (208) (by omega)).trans hm8
                have hm9 := (hne (224) (by omega)).trans hm9
                have hm7 := he
                have hfr := fun (q : Nat) (q1 : q ≠ 1 ∧ (q % 16 ≠ 0 ∨ q < 80)) => (hne q (by omega)).trans (hfr q q1)
                refine lv_aload_n hx hb dX4_cut_125 rfl (lv_at hl 0 rfl) ?_
                refine lv_dup hx hb dX4_cut_126 rfl ?_
                refine hv_get (C := RX4) (T := TX4) (N := 15) hx hb hts hiX4 hown hKs hV hm0 9 rfl (by decide) lk51 (fun _ h9 => h9) rfl dX4_cut_127 ?_
                refine lv_iconst (v := nI 1) hx hb dX4_cut_130 (by decide) ?_
                refine hN_iadd hx hb dX4_cut_131 ?_
                refine hv_put (ty := .int) (C := RX4) (T := TX4) (N := 15) hx hb hts hiX4 tyX4 tyX4_ok nmX4 hown hKs hV hS hm0 9 rfl (by decide) lk51 (fun _ h9 => h9) (Or.inl (by decide +kernel)) (by decide +kernel) rfl rfl (Nat.le_of_ble_eq_true rfl) dX4_cut_132 (fun ct H locs he hne hV hS => ?_)
                have hm1 := (hne (96) (by omega)).trans hm1
                have hm2 := (hne (112) (by omega)).trans hm2
                have hm3 := (hne (128) (by omega)).trans hm3
                have hm4 := (hne (144) (by omega)).trans hm4
                have hm5 := (hne (160) (by omega)).trans hm5
                have hm6 := (hne (176) (by omega)).trans hm6
                have hm8 := (hne (208) (by omega)).trans hm8
                have hm9 := (hne (224) (by omega)).trans hm9
                have hm7 := (hne (192) (by omega)).trans hm7
                have hm0 : ct (80) = some (eO 4 [.int (nI (0)), .int (gMi σ), .int (gFu σ), .int (nI (gNC σ)), .ref (ad (96)), .ref (ad (112)), .ref (ad (128)), .ref (ad (144)), .ref (ad (160)), .int (nI (gNS σ + 1)), .ref (ad (176)), .ref (ad (192)), .int (nI (gNB σ)), .ref (ad (208)), .ref (ad (224))]) := he
                have hfr := fun (q : Nat) (q1 : q ≠ 1 ∧ (q % 16 ≠ 0 ∨ q < 80)) => (hne q (by omega)).trans (hfr q q1)
                refine lv_aload_n hx hb dX4_cut_135 rfl (lv_at hl 0 rfl) ?_
                refine hv_get (C := RX4) (T := TX4) (N := 15) hx hb hts hiX4 hown hKs hV hm0 9 rfl (by decide) lk51 (fun _ h9 => h9) rfl dX4_cut_136 ?_
                refine lv_iconst (v := nI 1) hx hb dX4_cut_139 (by decide) ?_
                refine hN_isub hx hb (by omega) dX4_cut_140 ?_
                have hkn : (k_cut σ (nI y0qn)) = 0 := by unfold k_cut; rw [if_pos c10, e_y0q]; exact if_neg (by omega)
                rw [hQz]
                exact hv_iret (v := nI (gNS σ + 1 - (1))) (u := (ad, ct)) hx hb hr ⟨fun _ => ⟨congrArg nI (by omega), by rw [e_y0q]; exact ⟨_, _, _, _, _, _, _, _, _, ⟨hm0, hm1, hm2, hm3, hm4, hm5, hm6, hm7, hm8, hm9⟩, me_cut hme hn8 (show y0qn < gNC σ by omega) ⟨fun r hr => hg6.1 r (by omega), hg6.2⟩⟩⟩, fun h9 => absurd hkn h9, fun q q1 => ⟨(hfa q q1).trans (by rw [had0]), fun q2 => (hfr q ⟨q1, q2⟩).trans (by rw [hct0])⟩⟩ hV hS dX4_cut_141 hlocks
              · refine lv_aload_n hx hb dX4_cut_70 rfl (lv_at hl 0 rfl) ?_
                refine hv_get (C := RX4) (T := TX4) (N := 15) hx hb hts hiX4 hown hKs hV hm0 10 rfl (by decide) lk29 (fun _ h9 => h9) rfl dX4_cut_71 ?_
                refine lv_iconst (v := nI 3) hx hb dX4_cut_74 (by decide) ?_
                refine lv_aload_n hx hb dX4_cut_75 rfl (lv_at hl 0 rfl) ?_
                refine hv_get (C := RX4) (T := TX4) (N := 15) hx hb hts hiX4 hown hKs hV hm0 9 rfl (by decide) lk51 (fun _ h9 => h9) rfl dX4_cut_76 ?_
                refine hN_imul hx hb dX4_cut_79 ?_
                refine lv_iload_n hx hb dX4_cut_80 rfl (lv_at hl 2 rfl) ?_
                refine hN_iadd hx hb dX4_cut_81 ?_
                refine lv_aload_n hx hb dX4_cut_82 rfl (lv_at hl 0 rfl) ?_
                refine hv_get (C := RX4) (T := TX4) (N := 15) hx hb hts hiX4 hown hKs hV hm0 8 rfl (by decide) lk26 (fun _ h9 => h9) rfl dX4_cut_83 ?_
                refine lv_iconst (v := nI 3) hx hb dX4_cut_86 (by decide) ?_
                refine lv_iload_n hx hb dX4_cut_87 rfl (lv_at hl 1 rfl) ?_
                refine hN_imul hx hb dX4_cut_88 ?_
                refine lv_iload_n hx hb dX4_cut_89 rfl (lv_at hl 2 rfl) ?_
                refine hN_iadd hx hb dX4_cut_90 ?_
                refine hv_iald hx hb hKs hV hm5 (by omega) (by decide) dX4_cut_91 ?_
                refine hv_eqi ((em5 (y0qn) (by omega) (i) (by omega)).trans (congrArg nI (if_pos (by omega)))) ?_
                refine lv_aload_n hx hb dX4_cut_92 rfl (lv_at hl 0 rfl) ?_
                refine hv_get (C := RX4) (T := TX4) (N := 15) hx hb hts hiX4 hown hKs hV hm0 5 rfl (by decide) lk17 (fun _ h9 => h9) rfl dX4_cut_93 ?_
                refine lv_iload_n hx hb dX4_cut_96 rfl (lv_at hl 1 rfl) ?_
                refine hv_iald hx hb hKs hV hm2 (by omega) (by decide) dX4_cut_97 ?_
                refine hv_eqi ((em2 (y0qn) (by omega)).trans (if_pos (by omega))) ?_
                refine lv_aload_n hx hb dX4_cut_98 rfl (lv_at hl 0 rfl) ?_
                refine hv_get (C := RX4) (T := TX4) (N := 15) hx hb hts hiX4 hown hKs hV hm0 4 rfl (by decide) lk13 (fun _ h9 => h9) rfl dX4_cut_99 ?_
                refine lv_iload_n hx hb dX4_cut_102 rfl (lv_at hl 1 rfl) ?_
                refine hv_iald hx hb hKs hV hm1 (by omega) (by decide) dX4_cut_103 ?_
                refine hv_eqi (va_up_self _ _ _) ?_
                refine lv_imul hx hb dX4_cut_104 ?_
                refine hv_calli (va_runS (As := [.int (nI (rgP (cPt σ (y0qn)) (i))), .int ((cTw σ (y0qn)) * nI (cLen σ (y0qn) - 1))]) (rest := [.int (nI ((3) * (gNS σ) + i)), .ref (ad (176))]) ⟨hx, hb, hml, hown, hts⟩ (c_X4_rotated l D N0 ad ct (f := fun z => cPt σ (y0qn) (8 * (i) + z)) (ok24.dg (P := cPt σ (y0qn)) (hO.2.2.2.1 (y0qn) (by omega)).2.2 (by omega)) (((cTw σ (y0qn)) * nI (cLen σ (y0qn) - 1)))) (va_cwS 2 hts gX4_cut_X4_rotated rfl rfl rfl (by decide +kernel) ⟨Nat.le_of_ble_eq_true rfl, Nat.le_of_ble_eq_true rfl⟩) (hv_preS hKs hV hS) rfl rfl hl.1 rfl (lv_room (Nat.le_of_ble_eq_true rfl)) dX4_cut_105 ⟨(Nat.le_of_ble_eq_true rfl), (Nat.le_of_ble_eq_true rfl)⟩) hS (fun r9 u9 H locs hq hV hS => ?_)
                obtain ⟨rfl, rfl⟩ := hq
                have hV : hv D N0 ad ct H := hV
                refine hv_eqi (y := nI (rgP (rot (((cTw σ (y0qn)) * nI (cLen σ (y0qn) - 1))) (cPt σ (y0qn))) (i))) (congrArg nI rgP_rot) ?_
                refine hv_iast hx hb hKs hV hS hm6 (by omega) (by decide) dX4_cut_108 (fun ct H locs he hne hV hS => ?_)
                have hm0 := (hne (80) (by omega)).trans hm0
                have hm1 := (hne (96) (by omega)).trans hm1
                have hm2 := (hne (112) (by omega)).trans hm2
                have hm3 := (hne (128) (by omega)).trans hm3
                have hm4 := (hne (144) (by omega)).trans hm4
                have hm5 := (hne (160) (by omega)).trans hm5
                have hm7 := (hne (192) (by omega)).trans hm7
                have hm8 := (hne (208) (by omega)).trans hm8
                have hm9 := (hne (224) (by omega)).trans hm9
                have hm6 := he
                have hfr := fun (q : Nat) (q1 : q ≠ 1 ∧ (q % 16 ≠ 0 ∨ q < 80)) => (hne q (by omega)).trans (hfr q q1)
                refine lv_iinc (v := nI (i + 1)) (lv' := [(2, .int (nI (i + 1))), (0, .ref (ad (80))), (1, .int (nI (y0qn)))]) hx hb dX4_cut_109 hl (k := 2) rfl (nI_add (i) 1) (by decide) rfl (fun ls hl => ?_)
                refine lv_goto (tgt := 65) hx hb dX4_cut_112 (by decide) ?_
                exact ih65 (i + 1) (va_up (F) ((3) * (gNS σ) + i) (nI (rgP (p_cut σ y0qn) i))) (by omega) (by omega) ct _ _ (hm6) (cut_6 (by omega) hg6) (fun q q1 => (hne q q1).trans (hfx q q1)) (hfr) hV hS ls (lv_sub hl [1, 2, 0] rfl)
          exact L65 (3 + 1) (0) (f6) (by omega) (by omega) ct _ _ (hm6) (⟨fun r hr => absurd hr (Nat.not_lt_zero r), fun _ _ _ _ => rfl⟩) (fun q _ => by rw [hct1]) (hfr) hV hS ls (lv_sub hl [1, 2, 0] rfl)
        · refine lv_aload_n hx hb dX4_cut_47 rfl (lv_at hl 0 rfl) ?_
          refine lv_iconst (v := nI 2) hx hb dX4_cut_48 (by decide) ?_
          refine hv_calli (va_runV (As := [.int (nI (2))]) (rest := []) ⟨hx, hb, hml, hown, hts⟩ (c_X4_no l D N0 ad ct hm0 (2)) (cwV 1 hts gX4_cut_X4_no rfl rfl rfl (by decide +kernel) ⟨Nat.le_of_ble_eq_true rfl, Nat.le_of_ble_eq_true rfl⟩) (hv_preV (r := (RX4, TX4, 15)) hKs hV hS hm0 rfl) rfl rfl hl.1 rfl (lv_room (Nat.le_of_ble_eq_true rfl)) dX4_cut_49 ⟨(Nat.le_of_ble_eq_true rfl), (Nat.le_of_ble_eq_true rfl)⟩) hS (fun r9 u9 H locs hq hV hS => ?_)
          obtain ⟨ad9, ct⟩ := u9
          dsimp only at hq
          obtain ⟨rfl, ha9, he, hne⟩ := hq
          have ha9 := ha9.symm
          subst ha9
          have hV : hv D N0 ad ct H := hV
          have hm1 := (hne (96) (by omega)).trans hm1
          have hm2 := (hne (112) (by omega)).trans hm2
          have hm3 := (hne (128) (by omega)).trans hm3
          have hm4 := (hne (144) (by omega)).trans hm4
          have hm5 := (hne (160) (by omega)).trans hm5
          have hm6 := (hne (176) (by omega)).trans hm6
          have hm7 := (hne (192) (by omega)).trans hm7
          have hm8 := (hne (208) (by omega)).trans hm8
          have hm9 := (hne (224) (by omega)).trans hm9
          have hm0 : ct (80) = some (eO 4 [.int (nI (2)), .int (gMi σ), .int (gFu σ), .int (nI (gNC σ)), .ref (ad (96)), .ref (ad (112)), .ref (ad (128)), .ref (ad (144)), .ref (ad (160)), .int (nI (gNS σ)), .ref (ad (176)), .ref (ad (192)), .int (nI (gNB σ)), .ref (ad (208)), .ref (ad (224))]) := he
          have hfr := fun (q : Nat) (q1 : q ≠ 1 ∧ (q % 16 ≠ 0 ∨ q < 80)) => (hne q (by omega)).trans (hfr q q1)
          have hkn : (k_cut σ (nI y0qn)) = 2 := by unfold k_cut; rw [if_pos c10, e_y0q]; exact if_pos (by omega)
          rw [hQz]
          exact hv_iret (v := nI (0)) (u := (ad, ct)) hx hb hr ⟨fun h9 => absurd (hkn.symm.trans h9) (by decide), fun _ => by rw [hkn]; exact ⟨f1, f2, f3, f4, f5, f6, f7, f8, f9, ⟨hm0, hm1, hm2, hm3, hm4, hm5, hm6, hm7, hm8, hm9⟩, hme⟩, fun q q1 => ⟨(hfa q q1).trans (by rw [had0]), fun q2 => (hfr q ⟨q1, q2⟩).trans (by rw [hct0])⟩⟩ hV hS dX4_cut_52 hlocks
  · refine lv_aload_n hx hb dX4_cut_13 rfl (lv_at hl 0 rfl) ?_
    refine lv_iconst (v := nI 1) hx hb dX4_cut_14 (by decide) ?_
    refine hv_calli (va_runV (As := [.int (nI (1))]) (rest := []) ⟨hx, hb, hml, hown, hts⟩ (c_X4_no l D N0 ad ct hm0 (1)) (cwV 1 hts gX4_cut_X4_no rfl rfl rfl (by decide +kernel) ⟨Nat.le_of_ble_eq_true rfl, Nat.le_of_ble_eq_true rfl⟩) (hv_preV (r := (RX4, TX4, 15)) hKs hV hS hm0 rfl) rfl rfl hl.1 rfl (lv_room (Nat.le_of_ble_eq_true rfl)) dX4_cut_15 ⟨(Nat.le_of_ble_eq_true rfl), (Nat.le_of_ble_eq_true rfl)⟩) hS (fun r9 u9 H locs hq hV hS => ?_)
    obtain ⟨ad9, ct⟩ := u9
    dsimp only at hq
    obtain ⟨rfl, ha9, he, hne⟩ := hq
    have ha9 := ha9.symm
    subst ha9
    have hV : hv D N0 ad ct H := hV
    have hm1 := (hne (96) (by omega)).trans hm1
    have hm2 := (hne (112) (by omega)).trans hm2
    have hm3 := (hne (128) (by omega)).trans hm3
    have hm4 := (hne (144) (by omega)).trans hm4
    have hm5 := (hne (160) (by omega)).trans hm5
    have hm6 := (hne (176) (by omega)).trans hm6
    have hm7 := (hne (192) (by omega)).trans hm7
    have hm8 := (hne (208) (by omega)).trans hm8
    have hm9 := (hne (224) (by omega)).trans hm9
    have hm0 : ct (80) = some (eO 4 [.int (nI (1)), .int (gMi σ), .int (gFu σ), .int (nI (gNC σ)), .ref (ad (96)), .ref (ad (112)), .ref (ad (128)), .ref (ad (144)), .ref (ad (160)), .int (nI (gNS σ)), .ref (ad (176)), .ref (ad (192)), .int (nI (gNB σ)), .ref (ad (208)), .ref (ad (224))]) := he
    have hfr := fun (q : Nat) (q1 : q ≠ 1 ∧ (q % 16 ≠ 0 ∨ q < 80)) => (hne q (by omega)).trans (hfr q q1)
    have hkn : (k_cut σ y0q) = 1 := by simp [k_cut, c10]
    rw [hQz]
    exact hv_iret (v := nI (0)) (u := (ad, ct)) hx hb hr ⟨fun h9 => absurd (hkn.symm.trans h9) (by decide), fun _ => by rw [hkn]; exact ⟨f1, f2, f3, f4, f5, f6, f7, f8, f9, ⟨hm0, hm1, hm2, hm3, hm4, hm5, hm6, hm7, hm8, hm9⟩, hme⟩, fun q q1 => ⟨(hfa q q1).trans (by rw [had0]), fun q2 => (hfr q ⟨q1, q2⟩).trans (by rw [hct0])⟩⟩ hV hS dX4_cut_18 hlocks

theorem me_0 : gMe s_0 (fun _ => 0) (fun _ => 0) (fun _ => 0) (fun _ => 0) (fun _ => 0) (fun _ => 0) (fun _ => 0) (fun _ => 0) (fun _ => 0) :=
  ⟨fun k hk => absurd hk (Nat.not_lt_zero k), fun k _ => rfl, fun k hk => absurd hk (Nat.not_lt_zero k), fun k hk => absurd hk (Nat.not_lt_zero k), fun k _ r _ => rfl, fun k hk => absurd hk (Nat.not_lt_zero k), fun k hk => absurd hk (Nat.not_lt_zero k), fun k hk => absurd hk (by show ¬ k < 4 * 0; omega), fun k _ => rfl⟩

set_option maxHeartbeats 4000000 in
set_option maxRecDepth 100000 in
theorem c_X4_init (l : Launch) (D : hG) (N0 : Nat) (ad : Nat → Nat) (ct : hC) (h0 : ct 80 = some (eO 4 [.int (nI (0)), .int (nI (0)), .int (nI (0)), .int (nI (0)), .null, .null, .null, .null, .null, .int (nI (0)), .null, .null, .int (nI (0)), .null, .null])) : Met l yX4_init wsX4_init ({ frames := 1, cells := 9, slots := 344, locals := 12 }) (hPc D N0 ad ct [.ref (ad (80))]) (va_Qv (fun (u : hU) => gM D s_0 0 u.1 u.2 ∧ (∀ q : Nat, (q % 16 ≠ 0 ∨ q < 96) → u.1 q = ad q) ∧ ∀ q : Nat, (q % 16 ≠ 0 ∨ q < 80) → u.2 q = ct q) (hB D N0) (hA N0)) 9 344 (hA N0) := by
  refine Met.ofW (cc := cX4_init) (maxL := 1) (ret := none) (by decide) rfl ?_
  intro p e s m args below meth c s₁ B hml hv0
  obtain ⟨hargs, hKs, hV⟩ := hv0
  have hx := B.exec
  have hb := B.bytes
  have hr := B.returns
  have hts := atoms_spec (ws := wsX4_init) B.pre
  have hown : s.vm.findClass RX4 = some m.cls := findClass_of_methodNamed B.named
  have hlocks := B.notSynchronized
  have hS : va_S (hA N0) s.heap s.heap [] := va_S.rf
  have hin0 : meth.name = "<init>" := (name_of_methodNamed B.named B.method).1
  have hiX4 : ∀ w ∈ u_ws RX4 TX4 15, w ∈ wsX4_init := by decide +kernel
  have lk3 := hts (.methodLink RX4 3 objectInit) (by decide +kernel)
  have lk9 := hts (.fieldLink RX4 9 "CaneSlicesModel" "furnace" "I") (by decide +kernel)
  have karr := hts (.arrayClass .int) (by decide +kernel)
  have lk13 := hts (.fieldLink RX4 13 "CaneSlicesModel" "length" "[I") (by decide +kernel)
  have lk17 := hts (.fieldLink RX4 17 "CaneSlicesModel" "twist" "[I") (by decide +kernel)
  have lk20 := hts (.fieldLink RX4 20 "CaneSlicesModel" "heat" "[I") (by decide +kernel)
  have lk23 := hts (.fieldLink RX4 23 "CaneSlicesModel" "isWhole" "[I") (by decide +kernel)
  have lk26 := hts (.fieldLink RX4 26 "CaneSlicesModel" "pattern" "[I") (by decide +kernel)
  have lk29 := hts (.fieldLink RX4 29 "CaneSlicesModel" "look" "[I") (by decide +kernel)
  have lk32 := hts (.fieldLink RX4 32 "CaneSlicesModel" "place" "[I") (by decide +kernel)
  have lk35 := hts (.fieldLink RX4 35 "CaneSlicesModel" "eye" "[I") (by decide +kernel)
  have lk38 := hts (.fieldLink RX4 38 "CaneSlicesModel" "turned" "[I") (by decide +kernel)
  have hl := lv_entry ([.ref (ad (80))]) (n := 1) (Nat.le_of_ble_eq_true rfl)
  have hE : entryFrame m args 1 = entryFrame m ([.ref (ad (80))] : List Value).toArray 1 := by rw [hargs]
  rw [hE, lg_entry_eq]
  generalize (lg_sl ([.ref (ad (80))]) ++ List.replicate (1 - (lg_sl ([.ref (ad (80))])).length) Slot.unset).toArray = ls at hl ⊢
  have hl : lv_has ls 1 [(0, .ref (ad (80)))] := hl
  obtain ⟨ad0, had0⟩ : ∃ z, z = ad := ⟨ad, rfl⟩
  obtain ⟨ct0, hct0⟩ : ∃ z, z = ct := ⟨ct, rfl⟩
  have hfr : ∀ q : Nat, (q % 16 ≠ 0 ∨ q < 80) → ct q = ct0 q := fun q _ => by rw [hct0]
  have hfa : ∀ q : Nat, (q % 16 ≠ 0 ∨ q < 96) → ad q = ad0 q := fun q _ => by rw [had0]
  refine lv_aload_n hx hb dX4_init_0 rfl (lv_at hl 0 rfl) ?_
  refine W.objInit hx hb hown lk3 (hts (.instanceMethod objectInit) (by decide +kernel)) (hts (.code objectInit ⟨#[0xb1]⟩ 1 none) (by decide +kernel)) rfl (by rw [hml]; exact hl.1) rfl dX4_init_1 (Nat.le_of_ble_eq_true rfl) (Nat.le_of_ble_eq_true rfl) ?_
  refine W.eq (g2 := F0 m 4 ls []) rfl ?_
  refine lv_aload_n hx hb dX4_init_4 rfl (lv_at hl 0 rfl) ?_
  refine lv_iconst (v := (-1)) hx hb dX4_init_5 (by decide) ?_
  refine hv_put (ty := .int) (C := RX4) (T := TX4) (N := 15) hx hb hts hiX4 tyX4 tyX4_ok nmX4 hown hKs hV hS h0 2 rfl (by decide) lk9 (fun _ h9 => h9) (Or.inl (by decide +kernel)) (by decide +kernel) rfl rfl (Nat.le_of_ble_eq_true rfl) dX4_init_6 (fun ct H locs he hne hV hS => ?_)
  have h0 : ct (80) = some (eO 4 [.int (nI (0)), .int (nI (0)), .int ((-1)), .int (nI (0)), .null, .null, .null, .null, .null, .int (nI (0)), .null, .null, .int (nI (0)), .null, .null]) := he
  have hfr := fun (q : Nat) (q1 : q % 16 ≠ 0 ∨ q < 80) => (hne q (by omega)).trans (hfr q q1)
  refine lv_aload_n hx hb dX4_init_9 rfl (lv_at hl 0 rfl) ?_
  refine lv_bipush (v := nI 8) hx hb dX4_init_10 (by decide) ?_
  refine hv_newI hx hb karr hKs hV hS (96) (n := 8) (by decide) (Nat.le_of_ble_eq_true rfl) (Nat.le_of_ble_eq_true rfl) dX4_init_12 (fun ad ct H he hne hna hV hS => ?_)
  refine hv_stk (st' := [.ref (ad (96)), .ref (ad (80))]) (by rw [hna (80) (by omega)]) ?_
  have hl : lv_has ls 1 [(0, .ref (ad (80)))] := by rw [hna (80) (by omega)]; exact hl
  have h0 : ct (80) = some (eO 4 [.int (nI (0)), .int (nI (0)), .int ((-1)), .int (nI (0)), .null, .null, .null, .null, .null, .int (nI (0)), .null, .null, .int (nI (0)), .null, .null]) := by rw [hne (80) (by omega)]; exact h0
  have hn1 := he
  have hfr := fun (q : Nat) (q1 : q % 16 ≠ 0 ∨ q < 80) => (hne q (by omega)).trans (hfr q q1)
  have hfa := fun (q : Nat) (q1 : q % 16 ≠ 0 ∨ q < 96) => (hna q (by omega)).trans (hfa q q1)
  refine hv_put (ty := .array .int) (C := RX4) (T := TX4) (N := 15) hx hb hts hiX4 tyX4 tyX4_ok nmX4 hown hKs hV hS h0 4 rfl (by decide) lk13 (fun _ h9 => h9) (Or.inr ⟨hin0, rfl⟩) (by decide +kernel) rfl rfl (Nat.le_of_ble_eq_true rfl) dX4_init_14 (fun ct H locs he hne hV hS => ?_)
  have hn1 := (hne (96) (by omega)).trans hn1
  have h0 : ct (80) = some (eO 4 [.int (nI (0)), .int (nI (0)), .int ((-1)), .int (nI (0)), .ref (ad (96)), .null, .null, .null, .null, .int (nI (0)), .null, .null, .int (nI (0)), .null, .null]) := he
  have hfr := fun (q : Nat) (q1 : q % 16 ≠ 0 ∨ q < 80) => (hne q (by omega)).trans (hfr q q1)
  refine lv_aload_n hx hb dX4_init_17 rfl (lv_at hl 0 rfl) ?_
  refine lv_bipush (v := nI 8) hx hb dX4_init_18 (by decide) ?_
  refine hv_newI hx hb karr hKs hV hS (112) (n := 8) (by decide) (Nat.le_of_ble_eq_true rfl) (Nat.le_of_ble_eq_true rfl) dX4_init_20 (fun ad ct H he hne hna hV hS => ?_)
  refine hv_stk (st' := [.ref (ad (112)), .ref (ad (80))]) (by rw [hna (80) (by omega)]) ?_
  have hl : lv_has ls 1 [(0, .ref (ad (80)))] := by rw [hna (80) (by omega)]; exact hl
  have hn1 := (hne (96) (by omega)).trans hn1
  have h0 : ct (80) = some (eO 4 [.int (nI (0)), .int (nI (0)), .int ((-1)), .int (nI (0)), .ref (ad (96)), .null, .null, .null, .null, .int (nI (0)), .null, .null, .int (nI (0)), .null, .null]) := by rw [hne (80) (by omega), hna (96) (by omega)]; exact h0
  have hn2 := he
  have hfr := fun (q : Nat) (q1 : q % 16 ≠ 0 ∨ q < 80) => (hne q (by omega)).trans (hfr q q1)
  have hfa := fun (q : Nat) (q1 : q % 16 ≠ 0 ∨ q < 96) => (hna q (by omega)).trans (hfa q q1)
  refine hv_put (ty := .array .int) (C := RX4) (T := TX4) (N := 15) hx hb hts hiX4 tyX4 tyX4_ok nmX4 hown hKs hV hS h0 5 rfl (by decide) lk17 (fun _ h9 => h9) (Or.inr ⟨hin0, rfl⟩) (by decide +kernel) rfl rfl (Nat.le_of_ble_eq_true rfl) dX4_init_22 (fun ct H locs he hne hV hS => ?_)
  have hn1 := (hne (96) (by omega)).trans hn1
  have hn2 := (hne (112) (by omega)).trans hn2
  have h0 : ct (80) = some (eO 4 [.int (nI (0)), .int (nI (0)), .int ((-1)), .int (nI (0)), .ref (ad (96)), .ref (ad (112)), .null, .null, .null, .int (nI (0)), .null, .null, .int (nI (0)), .null, .null]) := he
  have hfr := fun (q : Nat) (q1 : q % 16 ≠ 0 ∨ q < 80) => (hne q (by omega)).trans (hfr q q1)
  refine lv_aload_n hx hb dX4_init_25 rfl (lv_at hl 0 rfl) ?_
  refine lv_bipush (v := nI 8) hx hb dX4_init_26 (by decide) ?_
  refine hv_newI hx hb karr hKs hV hS (128) (n := 8) (by decide) (Nat.le_of_ble_eq_true rfl) (Nat.le_of_ble_eq_true rfl) dX4_init_28 (fun ad ct H he hne hna hV hS => ?_)
  refine hv_stk (st' := [.ref (ad (128)), .ref (ad (80))]) (by rw [hna (80) (by omega)]) ?_
  have hl : lv_has ls 1 [(0, .ref (ad (80)))] := by rw [hna (80) (by omega)]; exact hl
  have hn1 := (hne (96) (by omega)).trans hn1
  have hn2 := (hne (112) (by omega)).trans hn2
  have h0 : ct (80) = some (eO 4 [.int (nI (0)), .int (nI (0)), .int ((-1)), .int (nI (0)), .ref (ad (96)), .ref (ad (112)), .null, .null, .null, .int (nI (0)), .null, .null, .int (nI (0)), .null, .null]) := by rw [hne (80) (by omega), hna (96) (by omega), hna (112) (by omega)]; exact h0
  have hn3 := he
  have hfr := fun (q : Nat) (q1 : q % 16 ≠ 0 ∨ q < 80) => (hne q (by omega)).trans (hfr q q1)
  have hfa := fun (q : Nat) (q1 : q % 16 ≠ 0 ∨ q < 96) => (hna q (by omega)).trans (hfa q q1)
  refine hv_put (ty := .array .int) (C := RX4) (T := TX4) (N := 15) hx hb hts hiX4 tyX4 tyX4_ok nmX4 hown hKs hV hS h0 6 rfl (by decide) lk20 (fun _ h9 => h9) (Or.inr ⟨hin0, rfl⟩) (by decide +kernel) rfl rfl (Nat.le_of_ble_eq_true rfl) dX4_init_30 (fun ct H locs he hne hV hS => ?_)
  have hn1 := (hne (96) (by omega)).trans hn1
  have hn2 := (hne (112) (by omega)).trans hn2
  have hn3 := (hne (128) (by omega)).trans hn3
  have h0 : ct (80) = some (eO 4 [.int (nI (0)), .int (nI (0)), .int ((-1)), .int (nI (0)), .ref (ad (96)), .ref (ad (112)), .ref (ad (128)), .null, .null, .int (nI (0)), .null, .null, .int (nI (0)), .null, .null]) := he
  have hfr := fun (q : Nat) (q1 : q % 16 ≠ 0 ∨ q < 80) => (hne q (by omega)).trans (hfr q q1)
  refine lv_aload_n hx hb dX4_init_33 rfl (lv_at hl 0 rfl) ?_
  refine lv_bipush (v := nI 8) hx hb dX4_init_34 (by decide) ?_
  refine hv_newI hx hb karr hKs hV hS (144) (n := 8) (by decide) (Nat.le_of_ble_eq_true rfl) (Nat.le_of_ble_eq_true rfl) dX4_init_36 (fun ad ct H he hne hna hV hS => ?_)
  refine hv_stk (st' := [.ref (ad (144)), .ref (ad (80))]) (by rw [hna (80) (by omega)]) ?_
  have hl : lv_has ls 1 [(0, .ref (ad (80)))] := by rw [hna (80) (by omega)]; exact hl
  have hn1 := (hne (96) (by omega)).trans hn1
  have hn2 := (hne (112) (by omega)).trans hn2
  have hn3 := (hne (128) (by omega)).trans hn3
  have h0 : ct (80) = some (eO 4 [.int (nI (0)), .int (nI (0)), .int ((-1)), .int (nI (0)), .ref (ad (96)), .ref (ad (112)), .ref (ad (128)), .null, .null, .int (nI (0)), .null, .null, .int (nI (0)), .null, .null]) := by rw [hne (80) (by omega), hna (96) (by omega), hna (112) (by omega), hna (128) (by omega)]; exact h0
  have hn4 := he
  have hfr := fun (q : Nat) (q1 : q % 16 ≠ 0 ∨ q < 80) => (hne q (by omega)).trans (hfr q q1)
  have hfa := fun (q : Nat) (q1 : q % 16 ≠ 0 ∨ q < 96) => (hna q (by omega)).trans (hfa q q1)
  refine hv_put (ty := .array .int) (C := RX4) (T := TX4) (N := 15) hx hb hts hiX4 tyX4 tyX4_ok nmX4 hown hKs hV hS h0 7 rfl (by decide) lk23 (fun _ h9 => h9) (Or.inr ⟨hin0, rfl⟩) (by decide +kernel) rfl rfl (Nat.le_of_ble_eq_true rfl) dX4_init_38 (fun ct H locs he hne hV hS => ?_)
  have hn1 := (hne (96) (by omega)).trans hn1
  have hn2 := (hne (112) (by omega)).trans hn2
  have hn3 := (hne (128) (by omega)).trans hn3
  have hn4 := (hne (144) (by omega)).trans hn4
  have h0 : ct (80) = some (eO 4 [.int (nI (0)), .int (nI (0)), .int ((-1)), .int (nI (0)), .ref (ad (96)), .ref (ad (112)), .ref (ad (128)), .ref (ad (144)), .null, .int (nI (0)), .null, .null, .int (nI (0)), .null, .null]) := he
  have hfr := fun (q : Nat) (q1 : q % 16 ≠ 0 ∨ q < 80) => (hne q (by omega)).trans (hfr q q1)
  refine lv_aload_n hx hb dX4_init_41 rfl (lv_at hl 0 rfl) ?_
  refine lv_bipush (v := nI 24) hx hb dX4_init_42 (by decide) ?_
  refine hv_newI hx hb karr hKs hV hS (160) (n := 24) (by decide) (Nat.le_of_ble_eq_true rfl) (Nat.le_of_ble_eq_true rfl) dX4_init_44 (fun ad ct H he hne hna hV hS => ?_)
  refine hv_stk (st' := [.ref (ad (160)), .ref (ad (80))]) (by rw [hna (80) (by omega)]) ?_
  have hl : lv_has ls 1 [(0, .ref (ad (80)))] := by rw [hna (80) (by omega)]; exact hl
  have hn1 := (hne (96) (by omega)).trans hn1
  have hn2 := (hne (112) (by omega)).trans hn2
  have hn3 := (hne (128) (by omega)).trans hn3
  have hn4 := (hne (144) (by omega)).trans hn4
  have h0 : ct (80) = some (eO 4 [.int (nI (0)), .int (nI (0)), .int ((-1)), .int (nI (0)), .ref (ad (96)), .ref (ad (112)), .ref (ad (128)), .ref (ad (144)), .null, .int (nI (0)), .null, .null, .int (nI (0)), .null, .null]) := by rw [hne (80) (by omega), hna (96) (by omega), hna (112) (by omega), hna (128) (by omega), hna (144) (by omega)]; exact h0
  have hn5 := he
  have hfr := fun (q : Nat) (q1 : q % 16 ≠ 0 ∨ q < 80) => (hne q (by omega)).trans (hfr q q1)
  have hfa := fun (q : Nat) (q1 : q % 16 ≠ 0 ∨ q < 96) => (hna q (by omega)).trans (hfa q q1)
  refine hv_put (ty := .array .int) (C := RX4) (T := TX4) (N := 15) hx hb hts hiX4 tyX4 tyX4_ok nmX4 hown hKs hV hS h0 8 rfl (by decide) lk26 (fun _ h9 => h9) (Or.inr ⟨hin0, rfl⟩) (by decide +kernel) rfl rfl (Nat.le_of_ble_eq_true rfl) dX4_init_46 (fun ct H locs he hne hV hS => ?_)
  have hn1 := (hne (96) (by omega)).trans hn1
  have hn2 := (hne (112) (by omega)).trans hn2
  have hn3 := (hne (128) (by omega)).trans hn3
  have hn4 := (hne (144) (by omega)).trans hn4
  have hn5 := (hne (160) (by omega)).trans hn5
  have h0 : ct (80) = some (eO 4 [.int (nI (0)), .int (nI (0)), .int ((-1)), .int (nI (0)), .ref (ad (96)), .ref (ad (112)), .ref (ad (128)), .ref (ad (144)), .ref (ad (160)), .int (nI (0)), .null, .null, .int (nI (0)), .null, .null]) := he
  have hfr := fun (q : Nat) (q1 : q % 16 ≠ 0 ∨ q < 80) => (hne q (by omega)).trans (hfr q q1)
  refine lv_aload_n hx hb dX4_init_49 rfl (lv_at hl 0 rfl) ?_
  refine lv_sipush (v := nI 180) hx hb dX4_init_50 (by decide) ?_
  refine hv_newI hx hb karr hKs hV hS (176) (n := 180) (by decide) (Nat.le_of_ble_eq_true rfl) (Nat.le_of_ble_eq_true rfl) dX4_init_53 (fun ad ct H he hne hna hV hS => ?_)
  refine hv_stk (st' := [.ref (ad (176)), .ref (ad (80))]) (by rw [hna (80) (by omega)]) ?_
  have hl : lv_has ls 1 [(0, .ref (ad (80)))] := by rw [hna (80) (by omega)]; exact hl
  have hn1 := (hne (96) (by omega)).trans hn1
  have hn2 := (hne (112) (by omega)).trans hn2
  have hn3 := (hne (128) (by omega)).trans hn3
  have hn4 := (hne (144) (by omega)).trans hn4
  have hn5 := (hne (160) (by omega)).trans hn5
  have h0 : ct (80) = some (eO 4 [.int (nI (0)), .int (nI (0)), .int ((-1)), .int (nI (0)), .ref (ad (96)), .ref (ad (112)), .ref (ad (128)), .ref (ad (144)), .ref (ad (160)), .int (nI (0)), .null, .null, .int (nI (0)), .null, .null]) := by rw [hne (80) (by omega), hna (96) (by omega), hna (112) (by omega), hna (128) (by omega), hna (144) (by omega), hna (160) (by omega)]; exact h0
  have hn6 := he
  have hfr := fun (q : Nat) (q1 : q % 16 ≠ 0 ∨ q < 80) => (hne q (by omega)).trans (hfr q q1)
  have hfa := fun (q : Nat) (q1 : q % 16 ≠ 0 ∨ q < 96) => (hna q (by omega)).trans (hfa q q1)
  refine hv_put (ty := .array .int) (C := RX4) (T := TX4) (N := 15) hx hb hts hiX4 tyX4 tyX4_ok nmX4 hown hKs hV hS h0 10 rfl (by decide) lk29 (fun _ h9 => h9) (Or.inr ⟨hin0, rfl⟩) (by decide +kernel) rfl rfl (Nat.le_of_ble_eq_true rfl) dX4_init_55 (fun ct H locs he hne hV hS => ?_)
  have hn1 := (hne (96) (by omega)).trans hn1
  have hn2 := (hne (112) (by omega)).trans hn2
  have hn3 := (hne (128) (by omega)).trans hn3
  have hn4 := (hne (144) (by omega)).trans hn4
  have hn5 := (hne (160) (by omega)).trans hn5
  have hn6 := (hne (176) (by omega)).trans hn6
  have h0 : ct (80) = some (eO 4 [.int (nI (0)), .int (nI (0)), .int ((-1)), .int (nI (0)), .ref (ad (96)), .ref (ad (112)), .ref (ad (128)), .ref (ad (144)), .ref (ad (160)), .int (nI (0)), .ref (ad (176)), .null, .int (nI (0)), .null, .null]) := he
  have hfr := fun (q : Nat) (q1 : q % 16 ≠ 0 ∨ q < 80) => (hne q (by omega)).trans (hfr q q1)
  refine lv_aload_n hx hb dX4_init_58 rfl (lv_at hl 0 rfl) ?_
  refine lv_bipush (v := nI 60) hx hb dX4_init_59 (by decide) ?_
  refine hv_newI hx hb karr hKs hV hS (192) (n := 60) (by decide) (Nat.le_of_ble_eq_true rfl) (Nat.le_of_ble_eq_true rfl) dX4_init_61 (fun ad ct H he hne hna hV hS => ?_)
  refine hv_stk (st' := [.ref (ad (192)), .ref (ad (80))]) (by rw [hna (80) (by omega)]) ?_
  have hl : lv_has ls 1 [(0, .ref (ad (80)))] := by rw [hna (80) (by omega)]; exact hl
  have hn1 := (hne (96) (by omega)).trans hn1
  have hn2 := (hne (112) (by omega)).trans hn2
  have hn3 := (hne (128) (by omega)).trans hn3
  have hn4 := (hne (144) (by omega)).trans hn4
  have hn5 := (hne (160) (by omega)).trans hn5
  have hn6 := (hne (176) (by omega)).trans hn6
  have h0 : ct (80) = some (eO 4 [.int (nI (0)), .int (nI (0)), .int ((-1)), .int (nI (0)), .ref (ad (96)), .ref (ad (112)), .ref (ad (128)), .ref (ad (144)), .ref (ad (160)), .int (nI (0)), .ref (ad (176)), .null, .int (nI (0)), .null, .null]) := by rw [hne (80) (by omega), hna (96) (by omega), hna (112) (by omega), hna (128) (by omega), hna (144) (by omega), hna (160) (by omega), hna (176) (by omega)]; exact h0
  have hn7 := he
  have hfr := fun (q : Nat) (q1 : q % 16 ≠ 0 ∨ q < 80) => (hne q (by omega)).trans (hfr q q1)
  have hfa := fun (q : Nat) (q1 : q % 16 ≠ 0 ∨ q < 96) => (hna q (by omega)).trans (hfa q q1)
  refine hv_put (ty := .array .int) (C := RX4) (T := TX4) (N := 15) hx hb hts hiX4 tyX4 tyX4_ok nmX4 hown hKs hV hS h0 11 rfl (by decide) lk32 (fun _ h9 => h9) (Or.inr ⟨hin0, rfl⟩) (by decide +kernel) rfl rfl (Nat.le_of_ble_eq_true rfl) dX4_init_63 (fun ct H locs he hne hV hS => ?_)
  have hn1 := (hne (96) (by omega)).trans hn1
  have hn2 := (hne (112) (by omega)).trans hn2
  have hn3 := (hne (128) (by omega)).trans hn3
  have hn4 := (hne (144) (by omega)).trans hn4
  have hn5 := (hne (160) (by omega)).trans hn5
  have hn6 := (hne (176) (by omega)).trans hn6
  have hn7 := (hne (192) (by omega)).trans hn7
  have h0 : ct (80) = some (eO 4 [.int (nI (0)), .int (nI (0)), .int ((-1)), .int (nI (0)), .ref (ad (96)), .ref (ad (112)), .ref (ad (128)), .ref (ad (144)), .ref (ad (160)), .int (nI (0)), .ref (ad (176)), .ref (ad (192)), .int (nI (0)), .null, .null]) := he
  have hfr := fun (q : Nat) (q1 : q % 16 ≠ 0 ∨ q < 80) => (hne q (by omega)).trans (hfr q q1)
  refine lv_aload_n hx hb dX4_init_66 rfl (lv_at hl 0 rfl) ?_
  refine lv_bipush (v := nI 24) hx hb dX4_init_67 (by decide) ?_
  refine hv_newI hx hb karr hKs hV hS (208) (n := 24) (by decide) (Nat.le_of_ble_eq_true rfl) (Nat.le_of_ble_eq_true rfl) dX4_init_69 (fun ad ct H he hne hna hV hS => ?_)
  refine hv_stk (st' := [.ref (ad (208)), .ref (ad (80))]) (by rw [hna (80) (by omega)]) ?_
  have hl : lv_has ls 1 [(0, .ref (ad (80)))] := by rw [hna (80) (by omega)]; exact hl
  have hn1 := (hne (96) (by omega)).trans hn1
  have hn2 := (hne (112) (by omega)).trans hn2
  have hn3 := (hne (128) (by omega)).trans hn3
  have hn4 := (hne (144) (by omega)).trans hn4
  have hn5 := (hne (160) (by omega)).trans hn5
  have hn6 := (hne (176) (by omega)).trans hn6
  have hn7 := (hne (192) (by omega)).trans hn7
  have h0 : ct (80) = some (eO 4 [.int (nI (0)), .int (nI (0)), .int ((-1)), .int (nI (0)), .ref (ad (96)), .ref (ad (112)), .ref (ad (128)), .ref (ad (144)), .ref (ad (160)), .int (nI (0)), .ref (ad (176)), .ref (ad (192)), .int (nI (0)), .null, .null]) := by rw [hne (80) (by omega), hna (96) (by omega), hna (112) (by omega), hna (128) (by omega), hna (144) (by omega), hna (160) (by omega), hna (176) (by omega), hna (192) (by omega)]; exact h0
  have hn8 := he
  have hfr := fun (q : Nat) (q1 : q % 16 ≠ 0 ∨ q < 80) => (hne q (by omega)).trans (hfr q q1)
  have hfa := fun (q : Nat) (q1 : q % 16 ≠ 0 ∨ q < 96) => (hna q (by omega)).trans (hfa q q1)
  refine hv_put (ty := .array .int) (C := RX4) (T := TX4) (N := 15) hx hb hts hiX4 tyX4 tyX4_ok nmX4 hown hKs hV hS h0 13 rfl (by decide) lk35 (fun _ h9 => h9) (Or.inr ⟨hin0, rfl⟩) (by decide +kernel) rfl rfl (Nat.le_of_ble_eq_true rfl) dX4_init_71 (fun ct H locs he hne hV hS => ?_)
  have hn1 := (hne (96) (by omega)).trans hn1
  have hn2 := (hne (112) (by omega)).trans hn2
  have hn3 := (hne (128) (by omega)).trans hn3
  have hn4 := (hne (144) (by omega)).trans hn4
  have hn5 := (hne (160) (by omega)).trans hn5
  have hn6 := (hne (176) (by omega)).trans hn6
  have hn7 := (hne (192) (by omega)).trans hn7
  have hn8 := (hne (208) (by omega)).trans hn8
  have h0 : ct (80) = some (eO 4 [.int (nI (0)), .int (nI (0)), .int ((-1)), .int (nI (0)), .ref (ad (96)), .ref (ad (112)), .ref (ad (128)), .ref (ad (144)), .ref (ad (160)), .int (nI (0)), .ref (ad (176)), .ref (ad (192)), .int (nI (0)), .ref (ad (208)), .null]) := he
  have hfr := fun (q : Nat) (q1 : q % 16 ≠ 0 ∨ q < 80) => (hne q (by omega)).trans (hfr q q1)
  refine lv_aload_n hx hb dX4_init_74 rfl (lv_at hl 0 rfl) ?_
  refine lv_bipush (v := nI 24) hx hb dX4_init_75 (by decide) ?_
  refine hv_newI hx hb karr hKs hV hS (224) (n := 24) (by decide) (Nat.le_of_ble_eq_true rfl) (Nat.le_of_ble_eq_true rfl) dX4_init_77 (fun ad ct H he hne hna hV hS => ?_)
  refine hv_stk (st' := [.ref (ad (224)), .ref (ad (80))]) (by rw [hna (80) (by omega)]) ?_
  have hl : lv_has ls 1 [(0, .ref (ad (80)))] := by rw [hna (80) (by omega)]; exact hl
  have hn1 := (hne (96) (by omega)).trans hn1
  have hn2 := (hne (112) (by omega)).trans hn2
  have hn3 := (hne (128) (by omega)).trans hn3
  have hn4 := (hne (144) (by omega)).trans hn4
  have hn5 := (hne (160) (by omega)).trans hn5
  have hn6 := (hne (176) (by omega)).trans hn6
  have hn7 := (hne (192) (by omega)).trans hn7
  have hn8 := (hne (208) (by omega)).trans hn8
  have h0 : ct (80) = some (eO 4 [.int (nI (0)), .int (nI (0)), .int ((-1)), .int (nI (0)), .ref (ad (96)), .ref (ad (112)), .ref (ad (128)), .ref (ad (144)), .ref (ad (160)), .int (nI (0)), .ref (ad (176)), .ref (ad (192)), .int (nI (0)), .ref (ad (208)), .null]) := by rw [hne (80) (by omega), hna (96) (by omega), hna (112) (by omega), hna (128) (by omega), hna (144) (by omega), hna (160) (by omega), hna (176) (by omega), hna (192) (by omega), hna (208) (by omega)]; exact h0
  have hn9 := he
  have hfr := fun (q : Nat) (q1 : q % 16 ≠ 0 ∨ q < 80) => (hne q (by omega)).trans (hfr q q1)
  have hfa := fun (q : Nat) (q1 : q % 16 ≠ 0 ∨ q < 96) => (hna q (by omega)).trans (hfa q q1)
  refine hv_put (ty := .array .int) (C := RX4) (T := TX4) (N := 15) hx hb hts hiX4 tyX4 tyX4_ok nmX4 hown hKs hV hS h0 14 rfl (by decide) lk38 (fun _ h9 => h9) (Or.inr ⟨hin0, rfl⟩) (by decide +kernel) rfl rfl (Nat.le_of_ble_eq_true rfl) dX4_init_79 (fun ct H locs he hne hV hS => ?_)
  have hn1 := (hne (96) (by omega)).trans hn1
  have hn2 := (hne (112) (by omega)).trans hn2
  have hn3 := (hne (128) (by omega)).trans hn3
  have hn4 := (hne (144) (by omega)).trans hn4
  have hn5 := (hne (160) (by omega)).trans hn5
  have hn6 := (hne (176) (by omega)).trans hn6
  have hn7 := (hne (192) (by omega)).trans hn7
  have hn8 := (hne (208) (by omega)).trans hn8
  have hn9 := (hne (224) (by omega)).trans hn9
  have h0 : ct (80) = some (eO 4 [.int (nI (0)), .int (nI (0)), .int ((-1)), .int (nI (0)), .ref (ad (96)), .ref (ad (112)), .ref (ad (128)), .ref (ad (144)), .ref (ad (160)), .int (nI (0)), .ref (ad (176)), .ref (ad (192)), .int (nI (0)), .ref (ad (208)), .ref (ad (224))]) := he
  have hfr := fun (q : Nat) (q1 : q % 16 ≠ 0 ∨ q < 80) => (hne q (by omega)).trans (hfr q q1)
  refine W.widen (k := 9) (n := 344) (by omega) (by omega) ?_
  exact hv_vret (u := (ad, ct)) hx hb hr ⟨⟨_, _, _, _, _, _, _, _, _, ⟨h0, hn1, hn2, hn3, hn4, hn5, hn6, hn7, hn8, hn9⟩, me_0⟩, fun q q1 => (hfa q q1).trans (by rw [had0]), fun q q1 => (hfr q q1).trans (by rw [hct0])⟩ hV hS dX4_init_82 hlocks
