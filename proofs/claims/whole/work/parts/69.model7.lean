theorem wh_le {σ : gS} {c : Nat} : wh σ c ≤ 1 := by
  unfold wh
  split <;> omega
theorem lay_5 {F f5 : Nat → Int32} {P : Nat → Nat} {r f j c k0 : Nat} (hr : r < 3) (h : (∀ r2, r2 < 3 → F (3 * k0 + r2) = nI (rgP (pnt P r f j c) r2)) ∧ ∀ k, k ≠ k0 → ∀ r2, r2 < 3 → F (3 * k + r2) = f5 (3 * k + r2)) :
    (∀ r2, r2 < 3 → va_up F (3 * k0 + r) (nI (rgP (pnt P r f (j + 1) c) r)) (3 * k0 + r2) = nI (rgP (pnt P r f (j + 1) c) r2)) ∧ ∀ k, k ≠ k0 → ∀ r2, r2 < 3 → va_up F (3 * k0 + r) (nI (rgP (pnt P r f (j + 1) c) r)) (3 * k + r2) = f5 (3 * k + r2) := by
  refine ⟨fun r2 h2 => ?_, fun k hk r2 h2 => (va_up_ne _ _ (by omega)).trans (h.2 k hk r2 h2)⟩
  by_cases w : r2 = r
  · rw [w, va_up_self]
  · rw [va_up_ne _ _ (by omega), h.1 r2 h2, pnt_ring w, pnt_ring w]
theorem cut_6 {F f6 : Nat → Int32} {P : Nat → Nat} {n i : Nat} (hi : i < 3) (h : (∀ r, r < i → F (3 * n + r) = nI (rgP P r)) ∧ ∀ k, k < n → ∀ r, r < 3 → F (3 * k + r) = f6 (3 * k + r)) :
    (∀ r, r < i + 1 → va_up F (3 * n + i) (nI (rgP P i)) (3 * n + r) = nI (rgP P r)) ∧ ∀ k, k < n → ∀ r, r < 3 → va_up F (3 * n + i) (nI (rgP P i)) (3 * k + r) = f6 (3 * k + r) := by
  refine ⟨fun r hr => ?_, fun k hk r hr => (va_up_ne _ _ (by omega)).trans (h.2 k hk r hr)⟩
  by_cases w : r = i
  · rw [w, va_up_self]
  · exact (va_up_ne _ _ (by omega)).trans (h.1 r (by omega))

set_option maxHeartbeats 4000000 in
set_option maxRecDepth 100000 in
theorem c_X4_twist (l : Launch) (D : hG) (N0 : Nat) (ad : Nat → Nat) (ct : hC) {σ : gS} {th : Nat} (hM : gM D σ th ad ct) (hO : okS σ) (y0q y1q : Int32) : Met l yX4_twist wsX4_twist ({ frames := 3, cells := 0, slots := 0, locals := 58 }) (hPc D N0 ad ct [.ref (ad (80)), .int (y0q), .int (y1q)]) (va_Qi (fun (z : Int32) (u : hU) => ((k_twist σ y0q y1q) = 0 → z = hbv (decide (4 ≤ cHt σ y0q.toInt.toNat)) ∧ gM D (sWk σ y0q.toInt.toNat 4 (q_twist σ y0q.toInt.toNat y1q)) 0 u.1 u.2) ∧ ((k_twist σ y0q y1q) ≠ 0 → gM D σ (k_twist σ y0q y1q) u.1 u.2) ∧ hFm ad ct u) (hB D N0) (hA N0)) 0 0 (hA N0) := by
  refine Met.ofW (cc := cX4_twist) (maxL := 3) (ret := (some .boolean)) (by decide) rfl ?_
  intro p e s m args below meth c s₁ B hml hv0
  obtain ⟨hargs, hKs, hV⟩ := hv0
  have hx := B.exec
  have hb := B.bytes
  have hr := B.returns
  have hts := atoms_spec (ws := wsX4_twist) B.pre
  have hown : s.vm.findClass RX4 = some m.cls := findClass_of_methodNamed B.named
  have hlocks := B.notSynchronized
  have hS : va_S (hA N0) s.heap s.heap [] := va_S.rf
  have hiX4 : ∀ w ∈ u_ws RX4 TX4 15, w ∈ wsX4_twist := by decide +kernel
  have lk41 := hts (.fieldLink RX4 41 "CaneSlicesModel" "thrown" "I") (by decide +kernel)
  have lk23 := hts (.fieldLink RX4 23 "CaneSlicesModel" "isWhole" "[I") (by decide +kernel)
  have lk17 := hts (.fieldLink RX4 17 "CaneSlicesModel" "twist" "[I") (by decide +kernel)
  have hl := lv_entry ([.ref (ad (80)), .int (y0q), .int (y1q)]) (n := 3) (Nat.le_of_ble_eq_true rfl)
  have hE : entryFrame m args 3 = entryFrame m ([.ref (ad (80)), .int (y0q), .int (y1q)] : List Value).toArray 3 := by rw [hargs]
  rw [hE, lg_entry_eq]
  generalize (lg_sl ([.ref (ad (80)), .int (y0q), .int (y1q)]) ++ List.replicate (3 - (lg_sl ([.ref (ad (80)), .int (y0q), .int (y1q)])).length) Slot.unset).toArray = ls at hl ⊢
  have hl : lv_has ls 3 [(0, .ref (ad (80))), (1, .int (y0q)), (2, .int (y1q))] := hl
  obtain ⟨hn8, hn60, hn6, -⟩ := id hO
  obtain ⟨f1, f2, f3, f4, f5, f6, f7, f8, f9, ⟨hm0, hm1, hm2, hm3, hm4, hm5, hm6, hm7, hm8, hm9⟩, hme⟩ := id hM
  obtain ⟨em1, em2, em3, em4, em5, em6, em7, em8, em9⟩ := id hme
  obtain ⟨ad0, had0⟩ : ∃ z, z = ad := ⟨ad, rfl⟩
  obtain ⟨ct0, hct0⟩ : ∃ z, z = ct := ⟨ct, rfl⟩
  have hfr : ∀ q : Nat, (q ≠ 1 ∧ (q % 16 ≠ 0 ∨ q < 80)) → ct q = ct0 q := fun q _ => by rw [hct0]
  have hfa : ∀ q : Nat, q ≠ 1 → ad q = ad0 q := fun q _ => by rw [had0]
  refine lv_aload_n hx hb dX4_twist_0 rfl (lv_at hl 0 rfl) ?_
  refine lv_iconst (v := nI 0) hx hb dX4_twist_1 (by decide) ?_
  refine hv_put (ty := .int) (C := RX4) (T := TX4) (N := 15) hx hb hts hiX4 tyX4 tyX4_ok nmX4 hown hKs hV hS hm0 0 rfl (by decide) lk41 (fun _ h9 => h9) (Or.inl (by decide +kernel)) (by decide +kernel) rfl rfl (Nat.le_of_ble_eq_true rfl) dX4_twist_2 (fun ct H locs he hne hV hS => ?_)
  have hm1 := (hne (96) (by omega)).trans hm1
  have hm2 := (hne (112) (by omega)).trans hm2
  have hm3 := (hne (128) (by omega)).trans hm3
  have hm4 := (hne (144) (by omega)).trans hm4
  have hm5 := (hne (160) (by omega)).trans hm5
  have hm6 := (hne (176) (by omega)).trans hm6
  have hm7 := (hne (192) (by omega)).trans hm7
  have hm8 := (hne (208) (by omega)).trans hm8
  have hm9 := (hne (224) (by omega)).trans hm9
  have hm0 : ct (80) = some (eO 4 [.int (nI (0)), .int (gMi σ), .int (gFu σ), .int (nI (gNC σ)), .ref (ad (96)), .ref (ad (112)), .ref (ad (128)), .ref (ad (144)), .ref (ad (160)), .int (nI (gNS σ)), .ref (ad (176)), .ref (ad (192)), .int (nI (gNB σ)), .ref (ad (208)), .ref (ad (224))]) := he
  have hfr := fun (q : Nat) (q1 : q ≠ 1 ∧ (q % 16 ≠ 0 ∨ q < 80)) => (hne q (by omega)).trans (hfr q q1)
  refine lv_aload_n hx hb dX4_twist_5 rfl (lv_at hl 0 rfl) ?_
  refine lv_iload_n hx hb dX4_twist_6 rfl (lv_at hl 1 rfl) ?_
  refine hv_calli (va_runV (As := [.int (y0q)]) (rest := []) ⟨hx, hb, hml, hown, hts⟩ (c_X4_isCane l D N0 ad ct (show gM D σ _ ad ct from ⟨f1, f2, f3, f4, f5, f6, f7, f8, f9, ⟨hm0, hm1, hm2, hm3, hm4, hm5, hm6, hm7, hm8, hm9⟩, hme⟩) hO ((y0q))) (cwV 1 hts gX4_twist_X4_isCane rfl rfl rfl (by decide +kernel) ⟨Nat.le_of_ble_eq_true rfl, Nat.le_of_ble_eq_true rfl⟩) (hv_preV (r := (RX4, TX4, 15)) hKs hV hS hm0 rfl) rfl rfl hl.1 rfl (lv_room (Nat.le_of_ble_eq_true rfl)) dX4_twist_7 ⟨(Nat.le_of_ble_eq_true rfl), (Nat.le_of_ble_eq_true rfl)⟩) hS (fun r9 u9 H locs hq hV hS => ?_)
  obtain ⟨rfl, rfl⟩ := hq
  have hV : hv D N0 ad ct H := hV
  refine hB_if_ne (tgt := 27) hx hb dX4_twist_10 (by decide) (fun c10 => ?_) (fun c10 => ?_)
  · obtain ⟨y0qn, hy0qn, rfl⟩ := inR_of c10
    have e_y0q : (nI y0qn).toInt.toNat = y0qn := toNat_nI (by omega)
    refine lv_iload_n hx hb dX4_twist_27 rfl (lv_at hl 2 rfl) ?_
    refine hI_if_eq (tgt := 41) hx hb dX4_twist_28 (by decide) (fun c28 => ?_) (fun c28 => ?_)
    · refine lv_aload_n hx hb dX4_twist_41 rfl (lv_at hl 0 rfl) ?_
      refine lv_iconst (v := nI 2) hx hb dX4_twist_42 (by decide) ?_
      refine hv_calli (va_runV (As := [.int (nI (2))]) (rest := []) ⟨hx, hb, hml, hown, hts⟩ (c_X4_no l D N0 ad ct hm0 (2)) (cwV 1 hts gX4_twist_X4_no rfl rfl rfl (by decide +kernel) ⟨Nat.le_of_ble_eq_true rfl, Nat.le_of_ble_eq_true rfl⟩) (hv_preV (r := (RX4, TX4, 15)) hKs hV hS hm0 rfl) rfl rfl hl.1 rfl (lv_room (Nat.le_of_ble_eq_true rfl)) dX4_twist_43 ⟨(Nat.le_of_ble_eq_true rfl), (Nat.le_of_ble_eq_true rfl)⟩) hS (fun r9 u9 H locs hq hV hS => ?_)
      obtain ⟨ad9, ct⟩ := u9
      dsimp only at hq
      obtain ⟨rfl, ha9, he, hne⟩ := hq
      have ha9 := ha9.symm
      subst ha9
      have hV : hv D N0 ad ct H := hV
      have hm1 := (hne (96) (by omega)).trans hm1
      have hm2 := (hne (112) (by omega)).trans hm2
      have hm3 := (hne (128) (by omega)).trans hm3
      have hm4 := (hne (144) (by omega)).trans hm4
      have hm5 := (hne (160) (by omega)).trans hm5
      have hm6 := (hne (176) (by omega)).trans hm6
      have hm7 := (hne (192) (by omega)).trans hm7
      have hm8 := (hne (208) (by omega)).trans hm8
      have hm9 := (hne (224) (by omega)).trans hm9
      have hm0 : ct (80) = some (eO 4 [.int (nI (2)), .int (gMi σ), .int (gFu σ), .int (nI (gNC σ)), .ref (ad (96)), .ref (ad (112)), .ref (ad (128)), .ref (ad (144)), .ref (ad (160)), .int (nI (gNS σ)), .ref (ad (176)), .ref (ad (192)), .int (nI (gNB σ)), .ref (ad (208)), .ref (ad (224))]) := he
      have hfr := fun (q : Nat) (q1 : q ≠ 1 ∧ (q % 16 ≠ 0 ∨ q < 80)) => (hne q (by omega)).trans (hfr q q1)
      refine hN_if_eq (tgt := 53) hx hb (by omega) dX4_twist_46 (by decide) (fun c46 => ?_) (fun c46 => by exact absurd c46 (by omega))
      refine lv_iconst (v := nI 0) hx hb dX4_twist_53 (by decide) ?_
      have hkn : (k_twist σ (nI y0qn) y1q) = 2 := by unfold k_twist; rw [if_pos c10, decide_eq_true c28]; rfl
      exact hv_zret (v := nI (0)) (u := (ad, ct)) hx hb hr (by decide +kernel) ⟨fun h9 => absurd (hkn.symm.trans h9) (by decide), fun _ => by rw [hkn]; exact ⟨f1, f2, f3, f4, f5, f6, f7, f8, f9, ⟨hm0, hm1, hm2, hm3, hm4, hm5, hm6, hm7, hm8, hm9⟩, hme⟩, fun q q1 => ⟨(hfa q q1).trans (by rw [had0]), fun q2 => (hfr q ⟨q1, q2⟩).trans (by rw [hct0])⟩⟩ hV hS dX4_twist_54 hlocks
    · refine lv_iload_n hx hb dX4_twist_31 rfl (lv_at hl 2 rfl) ?_
      refine lv_bipush (v := (-4)) hx hb dX4_twist_32 (by decide) ?_
      refine lv_iconst (v := nI 4) hx hb dX4_twist_34 (by decide) ?_
      refine hv_calli (va_runS (As := [.int (y1q), .int ((-4)), .int (nI (4))]) (rest := []) ⟨hx, hb, hml, hown, hts⟩ (c_X4_isIn l D N0 ad ct ((y1q)) (((-4))) (nI (4))) (va_cwS 3 hts gX4_twist_X4_isIn rfl rfl rfl (by decide +kernel) ⟨Nat.le_of_ble_eq_true rfl, Nat.le_of_ble_eq_true rfl⟩) (hv_preS hKs hV hS) rfl rfl hl.1 rfl (lv_room (Nat.le_of_ble_eq_true rfl)) dX4_twist_35 ⟨(Nat.le_of_ble_eq_true rfl), (Nat.le_of_ble_eq_true rfl)⟩) hS (fun r9 u9 H locs hq hV hS => ?_)
      obtain ⟨rfl, rfl⟩ := hq
      have hV : hv D N0 ad ct H := hV
      refine hv_eqi (y := hbv (inT ((y1q)))) (congrArg hbv (inI_t)) ?_
      refine hB_if_ne (tgt := 55) hx hb dX4_twist_38 (by decide) (fun c38 => ?_) (fun c38 => ?_)
      · refine lv_aload_n hx hb dX4_twist_55 rfl (lv_at hl 0 rfl) ?_
        refine hv_get (C := RX4) (T := TX4) (N := 15) hx hb hts hiX4 hown hKs hV hm0 7 rfl (by decide) lk23 (fun _ h9 => h9) rfl dX4_twist_56 ?_
        refine lv_iload_n hx hb dX4_twist_59 rfl (lv_at hl 1 rfl) ?_
        refine hv_iald hx hb hKs hV hm4 (by omega) (by decide) dX4_twist_60 ?_
        have hwb := wh_le (σ := σ) (c := y0qn)
        refine hv_eqi (em4 (y0qn) (by omega)) ?_
        refine hN_if_eq (tgt := 81) hx hb (by omega) dX4_twist_61 (by decide) (fun c61 => ?_) (fun c61 => ?_)
        · refine lv_aload_n hx hb dX4_twist_81 rfl (lv_at hl 0 rfl) ?_
          refine lv_iconst (v := nI 3) hx hb dX4_twist_82 (by decide) ?_
          refine hv_calli (va_runV (As := [.int (nI (3))]) (rest := []) ⟨hx, hb, hml, hown, hts⟩ (c_X4_no l D N0 ad ct hm0 (3)) (cwV 1 hts gX4_twist_X4_no rfl rfl rfl (by decide +kernel) ⟨Nat.le_of_ble_eq_true rfl, Nat.le_of_ble_eq_true rfl⟩) (hv_preV (r := (RX4, TX4, 15)) hKs hV hS hm0 rfl) rfl rfl hl.1 rfl (lv_room (Nat.le_of_ble_eq_true rfl)) dX4_twist_83 ⟨(Nat.le_of_ble_eq_true rfl), (Nat.le_of_ble_eq_true rfl)⟩) hS (fun r9 u9 H locs hq hV hS => ?_)
          obtain ⟨ad9, ct⟩ := u9
          dsimp only at hq
          obtain ⟨rfl, ha9, he, hne⟩ := hq
          have ha9 := ha9.symm
          subst ha9
          have hV : hv D N0 ad ct H := hV
          have hm1 := (hne (96) (by omega)).trans hm1
          have hm2 := (hne (112) (by omega)).trans hm2
          have hm3 := (hne (128) (by omega)).trans hm3
          have hm4 := (hne (144) (by omega)).trans hm4
          have hm5 := (hne (160) (by omega)).trans hm5
          have hm6 := (hne (176) (by omega)).trans hm6
          have hm7 := (hne (192) (by omega)).trans hm7
          have hm8 := (hne (208) (by omega)).trans hm8
          have hm9 := (hne (224) (by omega)).trans hm9
          have hm0 : ct (80) = some (eO 4 [.int (nI (3)), .int (gMi σ), .int (gFu σ), .int (nI (gNC σ)), .ref (ad (96)), .ref (ad (112)), .ref (ad (128)), .ref (ad (144)), .ref (ad (160)), .int (nI (gNS σ)), .ref (ad (176)), .ref (ad (192)), .int (nI (gNB σ)), .ref (ad (208)), .ref (ad (224))]) := he
          have hfr := fun (q : Nat) (q1 : q ≠ 1 ∧ (q % 16 ≠ 0 ∨ q < 80)) => (hne q (by omega)).trans (hfr q q1)
          refine hN_if_eq (tgt := 93) hx hb (by omega) dX4_twist_86 (by decide) (fun c86 => ?_) (fun c86 => by exact absurd c86 (by omega))
          refine lv_iconst (v := nI 0) hx hb dX4_twist_93 (by decide) ?_
          have hkn : (k_twist σ (nI y0qn) y1q) = 3 := by unfold k_twist; rw [if_pos c10, decide_eq_false c28, c38, e_y0q, wh_c0 c61]; rfl
          exact hv_zret (v := nI (0)) (u := (ad, ct)) hx hb hr (by decide +kernel) ⟨fun h9 => absurd (hkn.symm.trans h9) (by decide), fun _ => by rw [hkn]; exact ⟨f1, f2, f3, f4, f5, f6, f7, f8, f9, ⟨hm0, hm1, hm2, hm3, hm4, hm5, hm6, hm7, hm8, hm9⟩, hme⟩, fun q q1 => ⟨(hfa q q1).trans (by rw [had0]), fun q2 => (hfr q ⟨q1, q2⟩).trans (by rw [hct0])⟩⟩ hV hS dX4_twist_94 hlocks
        · refine lv_aload_n hx hb dX4_twist_64 rfl (lv_at hl 0 rfl) ?_
          refine hv_get (C := RX4) (T := TX4) (N := 15) hx hb hts hiX4 hown hKs hV hm0 5 rfl (by decide) lk17 (fun _ h9 => h9) rfl dX4_twist_65 ?_
          refine lv_iload_n hx hb dX4_twist_68 rfl (lv_at hl 1 rfl) ?_
          refine hv_iald hx hb hKs hV hm2 (by omega) (by decide) dX4_twist_69 ?_
          refine hv_eqi ((em2 (y0qn) (by omega)).trans (if_pos (by omega))) ?_
          refine lv_iload_n hx hb dX4_twist_70 rfl (lv_at hl 2 rfl) ?_
          refine lv_iadd hx hb dX4_twist_71 ?_
          refine lv_bipush (v := (-4)) hx hb dX4_twist_72 (by decide) ?_
          refine lv_iconst (v := nI 4) hx hb dX4_twist_74 (by decide) ?_
          refine hv_calli (va_runS (As := [.int ((cTw σ (y0qn)) + (y1q)), .int ((-4)), .int (nI (4))]) (rest := []) ⟨hx, hb, hml, hown, hts⟩ (c_X4_isIn l D N0 ad ct (((cTw σ (y0qn)) + (y1q))) (((-4))) (nI (4))) (va_cwS 3 hts gX4_twist_X4_isIn rfl rfl rfl (by decide +kernel) ⟨Nat.le_of_ble_eq_true rfl, Nat.le_of_ble_eq_true rfl⟩) (hv_preS hKs hV hS) rfl rfl hl.1 rfl (lv_room (Nat.le_of_ble_eq_true rfl)) dX4_twist_75 ⟨(Nat.le_of_ble_eq_true rfl), (Nat.le_of_ble_eq_true rfl)⟩) hS (fun r9 u9 H locs hq hV hS => ?_)
          obtain ⟨rfl, rfl⟩ := hq
          have hV : hv D N0 ad ct H := hV
          refine hv_eqi (y := hbv (inT (((cTw σ (y0qn)) + (y1q))))) (congrArg hbv (inI_t)) ?_
          refine hB_if_ne (tgt := 95) hx hb dX4_twist_78 (by decide) (fun c78 => ?_) (fun c78 => ?_)
          · refine lv_aload_n hx hb dX4_twist_95 rfl (lv_at hl 0 rfl) ?_
            refine lv_iload_n hx hb dX4_twist_96 rfl (lv_at hl 1 rfl) ?_
            refine lv_iconst (v := nI 4) hx hb dX4_twist_97 (by decide) ?_
            refine hv_calli (va_runV (As := [.int (nI (y0qn)), .int (nI (4))]) (rest := []) ⟨hx, hb, hml, hown, hts⟩ (c_X4_bears l D N0 ad ct (show gM D σ _ ad ct from ⟨f1, f2, f3, f4, f5, f6, f7, f8, f9, ⟨hm0, hm1, hm2, hm3, hm4, hm5, hm6, hm7, hm8, hm9⟩, hme⟩) hO (y0qn) (4) (by omega) (by decide) (by decide)) (cwV 2 hts gX4_twist_X4_bears rfl rfl rfl (by decide +kernel) ⟨Nat.le_of_ble_eq_true rfl, Nat.le_of_ble_eq_true rfl⟩) (hv_preV (r := (RX4, TX4, 15)) hKs hV hS hm0 rfl) rfl rfl hl.1 rfl (lv_room (Nat.le_of_ble_eq_true rfl)) dX4_twist_98 ⟨(Nat.le_of_ble_eq_true rfl), (Nat.le_of_ble_eq_true rfl)⟩) hS (fun r9 u9 H locs hq hV hS => ?_)
            obtain ⟨ad9, ct⟩ := u9
            dsimp only at hq
            obtain ⟨rfl, ha9, hMb, hfp⟩ := hq
            have ha9 := ha9.symm
            subst ha9
            have hV : hv D N0 ad ct H := hV
            have hfr := fun (q : Nat) (q1 : q ≠ 1 ∧ (q % 16 ≠ 0 ∨ q < 80)) => ((hfp q q1.1).2 q1.2).trans (hfr q q1)
            rcases Nat.lt_or_ge (cHt σ y0qn) 4 with hk | hk
            · refine hv_eqi (y := nI 0) (by rw [decide_eq_false (by omega)]; rfl) ?_
              refine hN_if_ne (tgt := 106) hx hb (by omega) dX4_twist_101 (by decide) (fun c101 => by exact absurd c101 (by omega)) (fun c101 => ?_)
              refine lv_iconst (v := nI 0) hx hb dX4_twist_104 (by decide) ?_
              have hkn : (k_twist σ (nI y0qn) y1q) = 0 := by unfold k_twist; rw [if_pos c10, decide_eq_false c28, c38, e_y0q, wh_c1 c61, c78]; rfl
              exact hv_zret (v := nI (0)) (u := (ad, ct)) hx hb hr (by decide +kernel) ⟨fun _ => ⟨by rw [e_y0q]; exact hb_0 (decide_eq_false (by omega)), by rw [e_y0q, ← sWk_bad (by omega)]; exact hMb⟩, fun h9 => absurd hkn h9, fun q q1 => ⟨(hfa q q1).trans (by rw [had0]), fun q2 => (hfr q ⟨q1, q2⟩).trans (by rw [hct0])⟩⟩ hV hS dX4_twist_105 hlocks
            · refine hv_eqi (y := nI 1) (by rw [decide_eq_true hk]; rfl) ?_
              obtain ⟨σ1, hσ1⟩ : ∃ z, z = sB σ y0qn 4 := ⟨_, rfl⟩
              rw [← hσ1] at hMb
              obtain ⟨f1, f2, f3, f4, f5, f6, f7, f8, f9, ⟨hm0, hm1, hm2, hm3, hm4, hm5, hm6, hm7, hm8, hm9⟩, hme⟩ := id hMb
              obtain ⟨em1, em2, em3, em4, em5, em6, em7, em8, em9⟩ := id hme
              have hO1 : okS σ1 := by rw [hσ1]; exact ok_sB hO (show y0qn < gNC σ by omega)
              have hn1 : gNC σ1 = gNC σ := by rw [hσ1]; rfl
              have hc1 : y0qn < gNC σ1 := by rw [hn1]; omega
              have hn81 : gNC σ1 ≤ 8 := hO1.1
              have hat : σ1.2.1 y0qn = (cLen σ y0qn, cTw σ y0qn, cHt σ1 y0qn, cCr σ y0qn, cPt σ y0qn) := by rw [hσ1]; exact sB_at hk (show y0qn < gNC σ by omega)
              have hlen : cLen σ1 y0qn = cLen σ y0qn := by show (σ1.2.1 y0qn).1 = _; rw [hat]
              have htw : cTw σ1 y0qn = cTw σ y0qn := by show (σ1.2.1 y0qn).2.1 = _; rw [hat]
              have hcr : cCr σ1 y0qn = cCr σ y0qn := by show (σ1.2.1 y0qn).2.2.2.1 = _; rw [hat]
              have hpt : cPt σ1 y0qn = cPt σ y0qn := by show (σ1.2.1 y0qn).2.2.2.2 = _; rw [hat]
              have u1 : f1 y0qn = nI (cLen σ y0qn) := (em1 y0qn hc1).trans (congrArg nI hlen)
              have u2 : f2 y0qn = cTw σ y0qn := (hme.tw hn81 hc1).trans htw
              have u3 : f3 y0qn = nI (cHt σ1 y0qn) := em3 y0qn hc1
              have u4 : f4 y0qn = nI (if cCr σ y0qn = true then 0 else 1) := by rw [em4 y0qn hc1]; show nI (if cCr σ1 y0qn = true then 0 else 1) = _; rw [hcr]
              have u5 : ∀ r, r < 3 → f5 (3 * y0qn + r) = nI (rgP (cPt σ y0qn) r) := fun r hr => by rw [hme.pt hn81 hc1 r hr, hpt]
              refine hN_if_ne (tgt := 106) hx hb (by omega) dX4_twist_101 (by decide) (fun c101 => ?_) (fun c101 => by exact absurd c101 (by omega))
              refine lv_aload_n hx hb dX4_twist_106 rfl (lv_at hl 0 rfl) ?_
              refine hv_get (C := RX4) (T := TX4) (N := 15) hx hb hts hiX4 hown hKs hV hm0 5 rfl (by decide) lk17 (fun _ h9 => h9) rfl dX4_twist_107 ?_
              refine lv_iload_n hx hb dX4_twist_110 rfl (lv_at hl 1 rfl) ?_
              refine lv_dup2_11 hx hb dX4_twist_111 rfl rfl ?_
              refine hv_iald hx hb hKs hV hm2 (by omega) (by decide) dX4_twist_112 ?_
              refine hv_eqi ((em2 (y0qn) (by omega)).trans (if_pos (by omega))) ?_
              refine lv_iload_n hx hb dX4_twist_113 rfl (lv_at hl 2 rfl) ?_
              refine lv_iadd hx hb dX4_twist_114 ?_
              refine hv_iast hx hb hKs hV hS hm2 (by omega) (by decide) dX4_twist_115 (fun ct H locs he hne hV hS => ?_)
              have hm0 := (hne (80) (by omega)).trans hm0
              have hm1 := (hne (96) (by omega)).trans hm1
              have hm3 := (hne (128) (by omega)).trans hm3
              have hm4 := (hne (144) (by omega)).trans hm4
              have hm5 := (hne (160) (by omega)).trans hm5
              have hm6 := (hne (176) (by omega)).trans hm6
              have hm7 := (hne (192) (by omega)).trans hm7
              have hm8 := (hne (208) (by omega)).trans hm8
              have hm9 := (hne (224) (by omega)).trans hm9
              have hm2 := he
              have hfr := fun (q : Nat) (q1 : q ≠ 1 ∧ (q % 16 ≠ 0 ∨ q < 80)) => (hne q (by omega)).trans (hfr q q1)
              refine lv_iconst (v := nI 1) hx hb dX4_twist_116 (by decide) ?_
              have hkn : (k_twist σ (nI y0qn) y1q) = 0 := by unfold k_twist; rw [if_pos c10, decide_eq_false c28, c38, e_y0q, wh_c1 c61, c78]; rfl
              exact hv_zret (v := nI (1)) (u := (ad, ct)) hx hb hr (by decide +kernel) ⟨fun _ => ⟨by rw [e_y0q]; exact hb_1 (decide_eq_true hk), by rw [e_y0q, ← sWk_good (q := q_twist σ y0qn y1q) hk (show y0qn < gNC σ by omega) rfl, ← hσ1]; exact ⟨_, _, _, _, _, _, _, _, _, ⟨hm0, hm1, hm2, hm3, hm4, hm5, hm6, hm7, hm8, hm9⟩, me_can (q := (cLen σ y0qn, cTw σ y0qn + y1q, cHt σ1 y0qn, cCr σ y0qn, cPt σ y0qn)) hme hc1 (up_0 u1) (up_1 (by rw [htw])) (up_0 u3) (up_0 u4) (up_5 u5)⟩⟩, fun h9 => absurd hkn h9, fun q q1 => ⟨(hfa q q1).trans (by rw [had0]), fun q2 => (hfr q ⟨q1, q2⟩).trans (by rw [hct0])⟩⟩ hV hS dX4_twist_117 hlocks
          · refine lv_aload_n hx hb dX4_twist_81 rfl (lv_at hl 0 rfl) ?_
            refine lv_iconst (v := nI 3) hx hb dX4_twist_82 (by decide) ?_
            refine hv_calli (va_runV (As := [.int (nI (3))]) (rest := []) ⟨hx, hb, hml, hown, hts⟩ (c_X4_no l D N0 ad ct hm0 (3)) (cwV 1 hts gX4_twist_X4_no rfl rfl rfl (by decide +kernel) ⟨Nat.le_of_ble_eq_true rfl, Nat.le_of_ble_eq_true rfl⟩) (hv_preV (r := (RX4, TX4, 15)) hKs hV hS hm0 rfl) rfl rfl hl.1 rfl (lv_room (Nat.le_of_ble_eq_true rfl)) dX4_twist_83 ⟨(Nat.le_of_ble_eq_true rfl), (Nat.le_of_ble_eq_true rfl)⟩) hS (fun r9 u9 H locs hq hV hS => ?_)
            obtain ⟨ad9, ct⟩ := u9
            dsimp only at hq
            obtain ⟨rfl, ha9, he, hne⟩ := hq
            have ha9 := ha9.symm
            subst ha9
            have hV : hv D N0 ad ct H := hV
            have hm1 := (hne (96) (by omega)).trans hm1
            have hm2 := (hne (112) (by omega)).trans hm2
            have hm3 := (hne (128) (by omega)).trans hm3
            have hm4 := (hne (144) (by omega)).trans hm4
            have hm5 := (hne (160) (by omega)).trans hm5
            have hm6 := (hne (176) (by omega)).trans hm6
            have hm7 := (hne (192) (by omega)).trans hm7
            have hm8 := (hne (208) (by omega)).trans hm8
            have hm9 := (hne (224) (by omega)).trans hm9
            have hm0 : ct (80) = some (eO 4 [.int (nI (3)), .int (gMi σ), .int (gFu σ), .int (nI (gNC σ)), .ref (ad (96)), .ref (ad (112)), .ref (ad (128)), .ref (ad (144)), .ref (ad (160)), .int (nI (gNS σ)), .ref (ad (176)), .ref (ad (192)), .int (nI (gNB σ)), .ref (ad (208)), .ref (ad (224))]) := he
            have hfr := fun (q : Nat) (q1 : q ≠ 1 ∧ (q % 16 ≠ 0 ∨ q < 80)) => (hne q (by omega)).trans (hfr q q1)
            refine hN_if_eq (tgt := 93) hx hb (by omega) dX4_twist_86 (by decide) (fun c86 => ?_) (fun c86 => by exact absurd c86 (by omega))
            refine lv_iconst (v := nI 0) hx hb dX4_twist_93 (by decide) ?_
            have hkn : (k_twist σ (nI y0qn) y1q) = 3 := by unfold k_twist; rw [if_pos c10, decide_eq_false c28, c38, e_y0q, wh_c1 c61, c78]; rfl
            exact hv_zret (v := nI (0)) (u := (ad, ct)) hx hb hr (by decide +kernel) ⟨fun h9 => absurd (hkn.symm.trans h9) (by decide), fun _ => by rw [hkn]; exact ⟨f1, f2, f3, f4, f5, f6, f7, f8, f9, ⟨hm0, hm1, hm2, hm3, hm4, hm5, hm6, hm7, hm8, hm9⟩, hme⟩, fun q q1 => ⟨(hfa q q1).trans (by rw [had0]), fun q2 => (hfr q ⟨q1, q2⟩).trans (by rw [hct0])⟩⟩ hV hS dX4_twist_94 hlocks
      · refine lv_aload_n hx hb dX4_twist_41 rfl (lv_at hl 0 rfl) ?_
        refine lv_iconst (v := nI 2) hx hb dX4_twist_42 (by decide) ?_
        refine hv_calli (va_runV (As := [.int (nI (2))]) (rest := []) ⟨hx, hb, hml, hown, hts⟩ (c_X4_no l D N0 ad ct hm0 (2)) (cwV 1 hts gX4_twist_X4_no rfl rfl rfl (by decide +kernel) ⟨Nat.le_of_ble_eq_true rfl, Nat.le_of_ble_eq_true rfl⟩) (hv_preV (r := (RX4, TX4, 15)) hKs hV hS hm0 rfl) rfl rfl hl.1 rfl (lv_room (Nat.le_of_ble_eq_true rfl)) dX4_twist_43 ⟨(Nat.le_of_ble_eq_true rfl), (Nat.le_of_ble_eq_true rfl)⟩) hS (fun r9 u9 H locs hq hV hS => ?_)
        obtain ⟨ad9, ct⟩ := u9
        dsimp only at hq
        obtain ⟨rfl, ha9, he, hne⟩ := hq
        have ha9 := ha9.symm
        subst ha9
        have hV : hv D N0 ad ct H := hV
        have hm1 := (hne (96) (by omega)).trans hm1
        have hm2 := (hne (112) (by omega)).trans hm2
        have hm3 := (hne (128) (by omega)).trans hm3
        have hm4 := (hne (144) (by omega)).trans hm4
        have hm5 := (hne (160) (by omega)).trans hm5
        have hm6 := (hne (176) (by omega)).trans hm6
        have hm7 := (hne (192) (by omega)).trans hm7
        have hm8 := (hne (208) (by omega)).trans hm8
        have hm9 := (hne (224) (by omega)).trans hm9
        have hm0 : ct (80) = some (eO 4 [.int (nI (2)), .int (gMi σ), .int (gFu σ), .int (nI (gNC σ)), .ref (ad (96)), .ref (ad (112)), .ref (ad (128)), .ref (ad (144)), .ref (ad (160)), .int (nI (gNS σ)), .ref (ad (176)), .ref (ad (192)), .int (nI (gNB σ)), .ref (ad (208)), .ref (ad (224))]) := he
        have hfr := fun (q : Nat) (q1 : q ≠ 1 ∧ (q % 16 ≠ 0 ∨ q < 80)) => (hne q (by omega)).trans (hfr q q1)
        refine hN_if_eq (tgt := 53) hx hb (by omega) dX4_twist_46 (by decide) (fun c46 => ?_) (fun c46 => by exact absurd c46 (by omega))
        refine lv_iconst (v := nI 0) hx hb dX4_twist_53 (by decide) ?_
        have hkn : (k_twist σ (nI y0qn) y1q) = 2 := by unfold k_twist; rw [if_pos c10, decide_eq_false c28, c38]; rfl
        exact hv_zret (v := nI (0)) (u := (ad, ct)) hx hb hr (by decide +kernel) ⟨fun h9 => absurd (hkn.symm.trans h9) (by decide), fun _ => by rw [hkn]; exact ⟨f1, f2, f3, f4, f5, f6, f7, f8, f9, ⟨hm0, hm1, hm2, hm3, hm4, hm5, hm6, hm7, hm8, hm9⟩, hme⟩, fun q q1 => ⟨(hfa q q1).trans (by rw [had0]), fun q2 => (hfr q ⟨q1, q2⟩).trans (by rw [hct0])⟩⟩ hV hS dX4_twist_54 hlocks
  · refine lv_aload_n hx hb dX4_twist_13 rfl (lv_at hl 0 rfl) ?_
    refine lv_iconst (v := nI 1) hx hb dX4_twist_14 (by decide) ?_
    refine hv_calli (va_runV (As := [.int (nI (1))]) (rest := []) ⟨hx, hb, hml, hown, hts⟩ (c_X4_no l D N0 ad ct hm0 (1)) (cwV 1 hts gX4_twist_X4_no rfl rfl rfl (by decide +kernel) ⟨Nat.le_of_ble_eq_true rfl, Nat.le_of_ble_eq_true rfl⟩) (hv_preV (r := (RX4, TX4, 15)) hKs hV hS hm0 rfl) rfl rfl hl.1 rfl (lv_room (Nat.le_of_ble_eq_true rfl)) dX4_twist_15 ⟨(Nat.le_of_ble_eq_true rfl), (Nat.le_of_ble_eq_true rfl)⟩) hS (fun r9 u9 H locs hq hV hS => ?_)
    obtain ⟨ad9, ct⟩ := u9
    dsimp only at hq
    obtain ⟨rfl, ha9, he, hne⟩ := hq
    have ha9 := ha9.symm
    subst ha9
    have hV : hv D N0 ad ct H := hV
    have hm1 := (hne (96) (by omega)).trans hm1
    have hm2 := (hne (112) (by omega)).trans hm2
    have hm3 := (hne (128) (by omega)).trans hm3
    have hm4 := (hne (144) (by omega)).trans hm4
    have hm5 := (hne (160) (by omega)).trans hm5
    have hm6 := (hne (176) (by omega)).trans hm6
    have hm7 := (hne (192) (by omega)).trans hm7
    have hm8 := (hne (208) (by omega)).trans hm8
    have hm9 := (hne (224) (by omega)).trans hm9
    have hm0 : ct (80) = some (eO 4 [.int (nI (1)), .int (gMi σ), .int (gFu σ), .int (nI (gNC σ)), .ref (ad (96)), .ref (ad (112)), .ref (ad (128)), .ref (ad (144)), .ref (ad (160)), .int (nI (gNS σ)), .ref (ad (176)), .ref (ad (192)), .int (nI (gNB σ)), .ref (ad (208)), .ref (ad (224))]) := he
    have hfr := fun (q : Nat) (q1 : q ≠ 1 ∧ (q % 16 ≠ 0 ∨ q < 80)) => (hne q (by omega)).trans (hfr q q1)
    refine hN_if_eq (tgt := 25) hx hb (by omega) dX4_twist_18 (by decide) (fun c18 => ?_) (fun c18 => by exact absurd c18 (by omega))
    refine lv_iconst (v := nI 0) hx hb dX4_twist_25 (by decide) ?_
    have hkn : (k_twist σ y0q y1q) = 1 := by simp [k_twist, c10]
    exact hv_zret (v := nI (0)) (u := (ad, ct)) hx hb hr (by decide +kernel) ⟨fun h9 => absurd (hkn.symm.trans h9) (by decide), fun _ => by rw [hkn]; exact ⟨f1, f2, f3, f4, f5, f6, f7, f8, f9, ⟨hm0, hm1, hm2, hm3, hm4, hm5, hm6, hm7, hm8, hm9⟩, hme⟩, fun q q1 => ⟨(hfa q q1).trans (by rw [had0]), fun q2 => (hfr q ⟨q1, q2⟩).trans (by rw [hct0])⟩⟩ hV hS dX4_twist_26 hlocks

set_option maxHeartbeats 4000000 in
set_option maxRecDepth 100000 in
theorem c_X4_pull (l : Launch) (D : hG) (N0 : Nat) (ad : Nat → Nat) (ct : hC) {σ : gS} {th : Nat} (hM : gM D σ th ad ct) (hO : okS σ) (y0q : Int32) : Met l yX4_pull wsX4_pull ({ frames := 3, cells := 0, slots := 0, locals := 58 }) (hPc D N0 ad ct [.ref (ad (80)), .int (y0q)]) (va_Qi (fun (z : Int32) (u : hU) => ((k_pull σ y0q) = 0 → z = hbv (decide (6 ≤ cHt σ y0q.toInt.toNat)) ∧ gM D (sWk σ y0q.toInt.toNat 6 (q_pull σ y0q.toInt.toNat)) 0 u.1 u.2) ∧ ((k_pull σ y0q) ≠ 0 → gM D σ (k_pull σ y0q) u.1 u.2) ∧ hFm ad ct u) (hB D N0) (hA N0)) 0 0 (hA N0) := by
  refine Met.ofW (cc := cX4_pull) (maxL := 2) (ret := (some .boolean)) (by decide) rfl ?_
  intro p e s m args below meth c s₁ B hml hv0
  obtain ⟨hargs, hKs, hV⟩ := hv0
  have hx := B.exec
  have hb := B.bytes
  have hr := B.returns
  have hts := atoms_spec (ws := wsX4_pull) B.pre
  have hown : s.vm.findClass RX4 = some m.cls := findClass_of_methodNamed B.named
  have hlocks := B.notSynchronized
  have hS : va_S (hA N0) s.heap s.heap [] := va_S.rf
  have hiX4 : ∀ w ∈ u_ws RX4 TX4 15, w ∈ wsX4_pull := by decide +kernel
  have lk41 := hts (.fieldLink RX4 41 "CaneSlicesModel" "thrown" "I") (by decide +kernel)
  have lk23 := hts (.fieldLink RX4 23 "CaneSlicesModel" "isWhole" "[I") (by decide +kernel)
  have lk13 := hts (.fieldLink RX4 13 "CaneSlicesModel" "length" "[I") (by decide +kernel)
  have lk71 := hts (.methodLink RX4 71 Lib.Math.min.name) (by decide +kernel)
  have lk17 := hts (.fieldLink RX4 17 "CaneSlicesModel" "twist" "[I") (by decide +kernel)
  have hl := lv_entry ([.ref (ad (80)), .int (y0q)]) (n := 2) (Nat.le_of_ble_eq_true rfl)
  have hE : entryFrame m args 2 = entryFrame m ([.ref (ad (80)), .int (y0q)] : List Value).toArray 2 := by rw [hargs]
  rw [hE, lg_entry_eq]
  generalize (lg_sl ([.ref (ad (80)), .int (y0q)]) ++ List.replicate (2 - (lg_sl ([.ref (ad (80)), .int (y0q)])).length) Slot.unset).toArray = ls at hl ⊢
  have hl : lv_has ls 2 [(0, .ref (ad (80))), (1, .int (y0q))] := hl
  obtain ⟨hn8, hn60, hn6, -⟩ := id hO
  obtain ⟨f1, f2, f3, f4, f5, f6, f7, f8, f9, ⟨hm0, hm1, hm2, hm3, hm4, hm5, hm6, hm7, hm8, hm9⟩, hme⟩ := id hM
  obtain ⟨em1, em2, em3, em4, em5, em6, em7, em8, em9⟩ := id hme
  obtain ⟨ad0, had0⟩ : ∃ z, z = ad := ⟨ad, rfl⟩
  obtain ⟨ct0, hct0⟩ : ∃ z, z = ct := ⟨ct, rfl⟩
  have hfr : ∀ q : Nat, (q ≠ 1 ∧ (q % 16 ≠ 0 ∨ q < 80)) → ct q = ct0 q := fun q _ => by rw [hct0]
  have hfa : ∀ q : Nat, q ≠ 1 → ad q = ad0 q := fun q _ => by rw [had0]
  refine lv_aload_n hx hb dX4_pull_0 rfl (lv_at hl 0 rfl) ?_
  refine lv_iconst (v := nI 0) hx hb dX4_pull_1 (by decide) ?_
  refine hv_put (ty := .int) (C := RX4) (T := TX4) (N := 15) hx hb hts hiX4 tyX4 tyX4_ok nmX4 hown hKs hV hS hm0 0 rfl (by decide) lk41 (fun _ h9 => h9) (Or.inl (by decide +kernel)) (by decide +kernel) rfl rfl (Nat.le_of_ble_eq_true rfl) dX4_pull_2 (fun ct H locs he hne hV hS => ?_)
  have hm1 := (hne (96) (by omega)).trans hm1
  have hm2 := (hne (112) (by omega)).trans hm2
  have hm3 := (hne (128) (by omega)).trans hm3
  have hm4 := (hne (144) (by omega)).trans hm4
  have hm5 := (hne (160) (by omega)).trans hm5
  have hm6 := (hne (176) (by omega)).trans hm6
  have hm7 := (hne (192) (by omega)).trans hm7
  have hm8 := (hne (208) (by omega)).trans hm8
  have hm9 := (hne (224) (by omega)).trans hm9
  have hm0 : ct (80) = some (eO 4 [.int (nI (0)), .int (gMi σ), .int (gFu σ), .int (nI (gNC σ)), .ref (ad (96)), .ref (ad (112)), .ref (ad (128)), .ref (ad (144)), .ref (ad (160)), .int (nI (gNS σ)), .ref (ad (176)), .ref (ad (192)), .int (nI (gNB σ)), .ref (ad (208)), .ref (ad (224))]) := he
  have hfr := fun (q : Nat) (q1 : q ≠ 1 ∧ (q % 16 ≠ 0 ∨ q < 80)) => (hne q (by omega)).trans (hfr q q1)
  refine lv_aload_n hx hb dX4_pull_5 rfl (lv_at hl 0 rfl) ?_
  refine lv_iload_n hx hb dX4_pull_6 rfl (lv_at hl 1 rfl) ?_
  refine hv_calli (va_runV (As := [.int (y0q)]) (rest := []) ⟨hx, hb, hml, hown, hts⟩ (c_X4_isCane l D N0 ad ct (show gM D σ _ ad ct from ⟨f1, f2, f3, f4, f5, f6, f7, f8, f9, ⟨hm0, hm1, hm2, hm3, hm4, hm5, hm6, hm7, hm8, hm9⟩, hme⟩) hO ((y0q))) (cwV 1 hts gX4_pull_X4_isCane rfl rfl rfl (by decide +kernel) ⟨Nat.le_of_ble_eq_true rfl, Nat.le_of_ble_eq_true rfl⟩) (hv_preV (r := (RX4, TX4, 15)) hKs hV hS hm0 rfl) rfl rfl hl.1 rfl (lv_room (Nat.le_of_ble_eq_true rfl)) dX4_pull_7 ⟨(Nat.le_of_ble_eq_true rfl), (Nat.le_of_ble_eq_true rfl)⟩) hS (fun r9 u9 H locs hq hV hS => ?_)
  obtain ⟨rfl, rfl⟩ := hq
  have hV : hv D N0 ad ct H := hV
  refine hB_if_ne (tgt := 27) hx hb dX4_pull_10 (by decide) (fun c10 => ?_) (fun c10 => ?_)
  · obtain ⟨y0qn, hy0qn, rfl⟩ := inR_of c10
    have e_y0q : (nI y0qn).toInt.toNat = y0qn := toNat_nI (by omega)
    refine lv_aload_n hx hb dX4_pull_27 rfl (lv_at hl 0 rfl) ?_
    refine hv_get (C := RX4) (T := TX4) (N := 15) hx hb hts hiX4 hown hKs hV hm0 7 rfl (by decide) lk23 (fun _ h9 => h9) rfl dX4_pull_28 ?_
    refine lv_iload_n hx hb dX4_pull_31 rfl (lv_at hl 1 rfl) ?_
    refine hv_iald hx hb hKs hV hm4 (by omega) (by decide) dX4_pull_32 ?_
    have hwb := wh_le (σ := σ) (c := y0qn)
    refine hv_eqi (em4 (y0qn) (by omega)) ?_
    refine hN_if_ne (tgt := 50) hx hb (by omega) dX4_pull_33 (by decide) (fun c33 => ?_) (fun c33 => ?_)
    · refine lv_aload_n hx hb dX4_pull_50 rfl (lv_at hl 0 rfl) ?_
      refine lv_iload_n hx hb dX4_pull_51 rfl (lv_at hl 1 rfl) ?_
      refine lv_bipush (v := nI 6) hx hb dX4_pull_52 (by decide) ?_
      refine hv_calli (va_runV (As := [.int (nI (y0qn)), .int (nI (6))]) (rest := []) ⟨hx, hb, hml, hown, hts⟩ (c_X4_bears l D N0 ad ct (show gM D σ _ ad ct from ⟨f1, f2, f3, f4, f5, f6, f7, f8, f9, ⟨hm0, hm1, hm2, hm3, hm4, hm5, hm6, hm7, hm8, hm9⟩, hme⟩) hO (y0qn) (6) (by omega) (by decide) (by decide)) (cwV 2 hts gX4_pull_X4_bears rfl rfl rfl (by decide +kernel) ⟨Nat.le_of_ble_eq_true rfl, Nat.le_of_ble_eq_true rfl⟩) (hv_preV (r := (RX4, TX4, 15)) hKs hV hS hm0 rfl) rfl rfl hl.1 rfl (lv_room (Nat.le_of_ble_eq_true rfl)) dX4_pull_54 ⟨(Nat.le_of_ble_eq_true rfl), (Nat.le_of_ble_eq_true rfl)⟩) hS (fun r9 u9 H locs hq hV hS => ?_)
      obtain ⟨ad9, ct⟩ := u9
      dsimp only at hq
      obtain ⟨rfl, ha9, hMb, hfp⟩ := hq
      have ha9 := ha9.symm
      subst ha9
      have hV : hv D N0 ad ct H := hV
      have hfr := fun (q : Nat) (q1 : q ≠ 1 ∧ (q % 16 ≠ 0 ∨ q < 80)) => ((hfp q q1.1).2 q1.2).trans (hfr q q1)
      rcases Nat.lt_or_ge (cHt σ y0qn) 6 with hk | hk
      · refine hv_eqi (y := nI 0) (by rw [decide_eq_false (by omega)]; rfl) ?_
        refine hN_if_ne (tgt := 62) hx hb (by omega) dX4_pull_57 (by decide) (fun c57 => by exact absurd c57 (by omega)) (fun c57 => ?_)
        refine lv_iconst (v := nI 0) hx hb dX4_pull_60 (by decide) ?_
        have hkn : (k_pull σ (nI y0qn)) = 0 := by simp [k_pull, c10, e_y0q, wh_c1 c33]
        exact hv_zret (v := nI (0)) (u := (ad, ct)) hx hb hr (by decide +kernel) ⟨fun _ => ⟨by rw [e_y0q]; exact hb_0 (decide_eq_false (by omega)), by rw [e_y0q, ← sWk_bad (by omega)]; exact hMb⟩, fun h9 => absurd hkn h9, fun q q1 => ⟨(hfa q q1).trans (by rw [had0]), fun q2 => (hfr q ⟨q1, q2⟩).trans (by rw [hct0])⟩⟩ hV hS dX4_pull_61 hlocks
      · refine hv_eqi (y := nI 1) (by rw [decide_eq_true hk]; rfl) ?_
        obtain ⟨σ1, hσ1⟩ : ∃ z, z = sB σ y0qn 6 := ⟨_, rfl⟩
        rw [← hσ1] at hMb
        obtain ⟨f1, f2, f3, f4, f5, f6, f7, f8, f9, ⟨hm0, hm1, hm2, hm3, hm4, hm5, hm6, hm7, hm8, hm9⟩, hme⟩ := id hMb
        obtain ⟨em1, em2, em3, em4, em5, em6, em7, em8, em9⟩ := id hme
        have hO1 : okS σ1 := by rw [hσ1]; exact ok_sB hO (show y0qn < gNC σ by omega)
        have hn1 : gNC σ1 = gNC σ := by rw [hσ1]; rfl
        have hc1 : y0qn < gNC σ1 := by rw [hn1]; omega
        have hn81 : gNC σ1 ≤ 8 := hO1.1
        have hat : σ1.2.1 y0qn = (cLen σ y0qn, cTw σ y0qn, cHt σ1 y0qn, cCr σ y0qn, cPt σ y0qn) := by rw [hσ1]; exact sB_at hk (show y0qn < gNC σ by omega)
        have hlen : cLen σ1 y0qn = cLen σ y0qn := by show (σ1.2.1 y0qn).1 = _; rw [hat]
        have htw : cTw σ1 y0qn = cTw σ y0qn := by show (σ1.2.1 y0qn).2.1 = _; rw [hat]
        have hcr : cCr σ1 y0qn = cCr σ y0qn := by show (σ1.2.1 y0qn).2.2.2.1 = _; rw [hat]
        have hpt : cPt σ1 y0qn = cPt σ y0qn := by show (σ1.2.1 y0qn).2.2.2.2 = _; rw [hat]
        have u1 : f1 y0qn = nI (cLen σ y0qn) := (em1 y0qn hc1).trans (congrArg nI hlen)
        have u2 : f2 y0qn = cTw σ y0qn := (hme.tw hn81 hc1).trans htw
        have u3 : f3 y0qn = nI (cHt σ1 y0qn) := em3 y0qn hc1
        have u4 : f4 y0qn = nI (if cCr σ y0qn = true then 0 else 1) := by rw [em4 y0qn hc1]; show nI (if cCr σ1 y0qn = true then 0 else 1) = _; rw [hcr]
        have u5 : ∀ r, r < 3 → f5 (3 * y0qn + r) = nI (rgP (cPt σ y0qn) r) := fun r hr => by rw [hme.pt hn81 hc1 r hr, hpt]
        refine hN_if_ne (tgt := 62) hx hb (by omega) dX4_pull_57 (by decide) (fun c57 => ?_) (fun c57 => by exact absurd c57 (by omega))
        refine lv_aload_n hx hb dX4_pull_62 rfl (lv_at hl 0 rfl) ?_
        refine hv_get (C := RX4) (T := TX4) (N := 15) hx hb hts hiX4 hown hKs hV hm0 4 rfl (by decide) lk13 (fun _ h9 => h9) rfl dX4_pull_63 ?_
        refine lv_iload_n hx hb dX4_pull_66 rfl (lv_at hl 1 rfl) ?_
        refine lv_bipush (v := nI 60) hx hb dX4_pull_67 (by decide) ?_
        refine lv_iconst (v := nI 2) hx hb dX4_pull_69 (by decide) ?_
        refine lv_aload_n hx hb dX4_pull_70 rfl (lv_at hl 0 rfl) ?_
        refine hv_get (C := RX4) (T := TX4) (N := 15) hx hb hts hiX4 hown hKs hV hm0 4 rfl (by decide) lk13 (fun _ h9 => h9) rfl dX4_pull_71 ?_
        refine lv_iload_n hx hb dX4_pull_74 rfl (lv_at hl 1 rfl) ?_
        refine hv_iald hx hb hKs hV hm1 (by omega) (by decide) dX4_pull_75 ?_
        have hcb := (hO1.2.2.2.1 (y0qn) (by omega))
        have hcb1 := hcb.1
        have hcb2 := hcb.2.1
        refine hv_eqi (em1 (y0qn) (by omega)) ?_
        refine hN_imul hx hb dX4_pull_76 ?_
        refine va_mmin hx hb (hml.trans hl.1.symm) hown lk71 (hts (.static Lib.Math.min.name) (by decide +kernel)) (hts (.initialized "java/lang/Math") (by decide +kernel)) (hts (.code Lib.Math.min.name Lib.Math.min.code 2 (some .int)) (by decide +kernel)) (Nat.le_of_ble_eq_true rfl) (Nat.le_of_ble_eq_true rfl) (Nat.le_of_ble_eq_true rfl) (Nat.le_of_ble_eq_true rfl) dX4_pull_77 ?_
        refine hv_eqi (hN_min (by omega) (by omega)) ?_
        refine hv_iast hx hb hKs hV hS hm1 (by omega) (by decide) dX4_pull_80 (fun ct H locs he hne hV hS => ?_)
        have hm0 := (hne (80) (by omega)).trans hm0
        have hm2 := (hne (112) (by omega)).trans hm2
        have hm3 := (hne (128) (by omega)).trans hm3
        have hm4 := (hne (144) (by omega)).trans hm4
        have hm5 := (hne (160) (by omega)).trans hm5
        have hm6 := (hne (176) (by omega)).trans hm6
        have hm7 := (hne (192) (by omega)).trans hm7
        have hm8 := (hne (208) (by omega)).trans hm8
        have hm9 := (hne (224) (by omega)).trans hm9
        have hm1 := he
        have hfr := fun (q : Nat) (q1 : q ≠ 1 ∧ (q % 16 ≠ 0 ∨ q < 80)) => (hne q (by omega)).trans (hfr q q1)
        refine lv_aload_n hx hb dX4_pull_81 rfl (lv_at hl 0 rfl) ?_
        refine hv_get (C := RX4) (T := TX4) (N := 15) hx hb hts hiX4 hown hKs hV hm0 5 rfl (by decide) lk17 (fun _ h9 => h9) rfl dX4_pull_82 ?_
        refine lv_iload_n hx hb dX4_pull_85 rfl (lv_at hl 1 rfl) ?_
        refine lv_dup2_11 hx hb dX4_pull_86 rfl rfl ?_
        refine hv_iald hx hb hKs hV hm2 (by omega) (by decide) dX4_pull_87 ?_
        refine hv_eqi ((em2 (y0qn) (by omega)).trans (if_pos (by omega))) ?_
        refine lv_iconst (v := nI 2) hx hb dX4_pull_88 (by decide) ?_
        refine lv_idiv hx hb dX4_pull_89 (by decide) ?_
        refine hv_iast hx hb hKs hV hS hm2 (by omega) (by decide) dX4_pull_90 (fun ct H locs he hne hV hS => ?_)
        have hm0 := (hne (80) (by omega)).trans hm0
        have hm3 := (hne (128) (by omega)).trans hm3
        have hm4 := (hne (144) (by omega)).trans hm4
        have hm5 := (hne (160) (by omega)).trans hm5
        have hm6 := (hne (176) (by omega)).trans hm6
        have hm7 := (hne (192) (by omega)).trans hm7
        have hm8 := (hne (208) (by omega)).trans hm8
        have hm9 := (hne (224) (by omega)).trans hm9
        have hm1 := (hne (96) (by omega)).trans hm1
        have hm2 := he
        have hfr := fun (q : Nat) (q1 : q ≠ 1 ∧ (q % 16 ≠ 0 ∨ q < 80)) => (hne q (by omega)).trans (hfr q q1)
        refine lv_iconst (v := nI 1) hx hb dX4_pull_91 (by decide) ?_
        have hkn : (k_pull σ (nI y0qn)) = 0 := by simp [k_pull, c10, e_y0q, wh_c1 c33]
        exact hv_zret (v := nI (1)) (u := (ad, ct)) hx hb hr (by decide +kernel) ⟨fun _ => ⟨by rw [e_y0q]; exact hb_1 (decide_eq_true hk), by rw [e_y0q, ← sWk_good (q := q_pull σ y0qn) hk (show y0qn < gNC σ by omega) rfl, ← hσ1]; exact ⟨_, _, _, _, _, _, _, _, _, ⟨hm0, hm1, hm2, hm3, hm4, hm5, hm6, hm7, hm8, hm9⟩, me_can (q := (min (2 * cLen σ y0qn) 60, cTw σ y0qn / nI 2, cHt σ1 y0qn, cCr σ y0qn, cPt σ y0qn)) hme hc1 (up_1 (congrArg nI (by rw [hlen, Nat.min_comm]))) (up_1 (by rw [htw])) (up_0 u3) (up_0 u4) (up_5 u5)⟩⟩, fun h9 => absurd hkn h9, fun q q1 => ⟨(hfa q q1).trans (by rw [had0]), fun q2 => (hfr q ⟨q1, q2⟩).trans (by rw [hct0])⟩⟩ hV hS dX4_pull_92 hlocks
    · refine lv_aload_n hx hb dX4_pull_36 rfl (lv_at hl 0 rfl) ?_
      refine lv_iconst (v := nI 2) hx hb dX4_pull_37 (by decide) ?_
      refine hv_calli (va_runV (As := [.int (nI (2))]) (rest := []) ⟨hx, hb, hml, hown, hts⟩ (c_X4_no l D N0 ad ct hm0 (2)) (cwV 1 hts gX4_pull_X4_no rfl rfl rfl (by decide +kernel) ⟨Nat.le_of_ble_eq_true rfl, Nat.le_of_ble_eq_true rfl⟩) (hv_preV (r := (RX4, TX4, 15)) hKs hV hS hm0 rfl) rfl rfl hl.1 rfl (lv_room (Nat.le_of_ble_eq_true rfl)) dX4_pull_38 ⟨(Nat.le_of_ble_eq_true rfl), (Nat.le_of_ble_eq_true rfl)⟩) hS (fun r9 u9 H locs hq hV hS => ?_)
      obtain ⟨ad9, ct⟩ := u9
      dsimp only at hq
      obtain ⟨rfl, ha9, he, hne⟩ := hq
      have ha9 := ha9.symm
      subst ha9
      have hV : hv D N0 ad ct H := hV
      have hm1 := (hne (96) (by omega)).trans hm1
      have hm2 := (hne (112) (by omega)).trans hm2
      have hm3 := (hne (128) (by omega)).trans hm3
      have hm4 := (hne (144) (by omega)).trans hm4
      have hm5 := (hne (160) (by omega)).trans hm5
      have hm6 := (hne (176) (by omega)).trans hm6
      have hm7 := (hne (192) (by omega)).trans hm7
      have hm8 := (hne (208) (by omega)).trans hm8
      have hm9 := (hne (224) (by omega)).trans hm9
      have hm0 : ct (80) = some (eO 4 [.int (nI (2)), .int (gMi σ), .int (gFu σ), .int (nI (gNC σ)), .ref (ad (96)), .ref (ad (112)), .ref (ad (128)), .ref (ad (144)), .ref (ad (160)), .int (nI (gNS σ)), .ref (ad (176)), .ref (ad (192)), .int (nI (gNB σ)), .ref (ad (208)), .ref (ad (224))]) := he
      have hfr := fun (q : Nat) (q1 : q ≠ 1 ∧ (q % 16 ≠ 0 ∨ q < 80)) => (hne q (by omega)).trans (hfr q q1)
      refine hN_if_eq (tgt := 48) hx hb (by omega) dX4_pull_41 (by decide) (fun c41 => ?_) (fun c41 => by exact absurd c41 (by omega))
      refine lv_iconst (v := nI 0) hx hb dX4_pull_48 (by decide) ?_
      have hkn : (k_pull σ (nI y0qn)) = 2 := by simp [k_pull, c10, e_y0q, wh_c0 c33]
      exact hv_zret (v := nI (0)) (u := (ad, ct)) hx hb hr (by decide +kernel) ⟨fun h9 => absurd (hkn.symm.trans h9) (by decide), fun _ => by rw [hkn]; exact ⟨f1, f2, f3, f4, f5, f6, f7, f8, f9, ⟨hm0, hm1, hm2, hm3, hm4, hm5, hm6, hm7, hm8, hm9⟩, hme⟩, fun q q1 => ⟨(hfa q q1).trans (by rw [had0]), fun q2 => (hfr q ⟨q1, q2⟩).trans (by rw [hct0])⟩⟩ hV hS dX4_pull_49 hlocks
  · refine lv_aload_n hx hb dX4_pull_13 rfl (lv_at hl 0 rfl) ?_
    refine lv_iconst (v := nI 1) hx hb dX4_pull_14 (by decide) ?_
    refine hv_calli (va_runV (As := [.int (nI (1))]) (rest := []) ⟨hx, hb, hml, hown, hts⟩ (c_X4_no l D N0 ad ct hm0 (1)) (cwV 1 hts gX4_pull_X4_no rfl rfl rfl (by decide +kernel) ⟨Nat.le_of_ble_eq_true rfl, Nat.le_of_ble_eq_true rfl⟩) (hv_preV (r := (RX4, TX4, 15)) hKs hV hS hm0 rfl) rfl rfl hl.1 rfl (lv_room (Nat.le_of_ble_eq_true rfl)) dX4_pull_15 ⟨(Nat.le_of_ble_eq_true rfl), (Nat.le_of_ble_eq_true rfl)⟩) hS (fun r9 u9 H locs hq hV hS => ?_)
    obtain ⟨ad9, ct⟩ := u9
    dsimp only at hq
    obtain ⟨rfl, ha9, he, hne⟩ := hq
    have ha9 := ha9.symm
    subst ha9
    have hV : hv D N0 ad ct H := hV
    have hm1 := (hne (96) (by omega)).trans hm1
    have hm2 := (hne (112) (by omega)).trans hm2
    have hm3 := (hne (128) (by omega)).trans hm3
    have hm4 := (hne (144) (by omega)).trans hm4
    have hm5 := (hne (160) (by omega)).trans hm5
    have hm6 := (hne (176) (by omega)).trans hm6
    have hm7 := (hne (192) (by omega)).trans hm7
    have hm8 := (hne (208) (by omega)).trans hm8
    have hm9 := (hne (224) (by omega)).trans hm9
    have hm0 : ct (80) = some (eO 4 [.int (nI (1)), .int (gMi σ), .int (gFu σ), .int (nI (gNC σ)), .ref (ad (96)), .ref (ad (112)), .ref (ad (128)), .ref (ad (144)), .ref (ad (160)), .int (nI (gNS σ)), .ref (ad (176)), .ref (ad (192)), .int (nI (gNB σ)), .ref (ad (208)), .ref (ad (224))]) := he
    have hfr := fun (q : Nat) (q1 : q ≠ 1 ∧ (q % 16 ≠ 0 ∨ q < 80)) => (hne q (by omega)).trans (hfr q q1)
    refine hN_if_eq (tgt := 25) hx hb (by omega) dX4_pull_18 (by decide) (fun c18 => ?_) (fun c18 => by exact absurd c18 (by omega))
    refine lv_iconst (v := nI 0) hx hb dX4_pull_25 (by decide) ?_
    have hkn : (k_pull σ y0q) = 1 := by simp [k_pull, c10]
    exact hv_zret (v := nI (0)) (u := (ad, ct)) hx hb hr (by decide +kernel) ⟨fun h9 => absurd (hkn.symm.trans h9) (by decide), fun _ => by rw [hkn]; exact ⟨f1, f2, f3, f4, f5, f6, f7, f8, f9, ⟨hm0, hm1, hm2, hm3, hm4, hm5, hm6, hm7, hm8, hm9⟩, hme⟩, fun q q1 => ⟨(hfa q q1).trans (by rw [had0]), fun q2 => (hfr q ⟨q1, q2⟩).trans (by rw [hct0])⟩⟩ hV hS dX4_pull_26 hlocks

set_option maxHeartbeats 4000000 in
set_option maxRecDepth 100000 in
theorem c_X4_lay (l : Launch) (D : hG) (N0 : Nat) (ad : Nat → Nat) (ct : hC) {σ : gS} {th : Nat} (hM : gM D σ th ad ct) (hO : okS σ) (y0q y1q y2q y3q y4q : Int32) : Met l yX4_lay wsX4_lay ({ frames := 3, cells := 0, slots := 0, locals := 58 }) (hPc D N0 ad ct [.ref (ad (80)), .int (y0q), .int (y1q), .int (y2q), .int (y3q), .int (y4q)]) (va_Qi (fun (z : Int32) (u : hU) => ((k_lay σ y0q y1q y2q y3q y4q) = 0 → z = hbv (decide (2 ≤ cHt σ y0q.toInt.toNat)) ∧ gM D (sWk σ y0q.toInt.toNat 2 (q_lay σ y0q.toInt.toNat y1q.toInt.toNat y2q.toInt.toNat y3q.toInt.toNat y4q.toInt.toNat)) 0 u.1 u.2) ∧ ((k_lay σ y0q y1q y2q y3q y4q) ≠ 0 → gM D σ (k_lay σ y0q y1q y2q y3q y4q) u.1 u.2) ∧ hFm ad ct u) (hB D N0) (hA N0)) 0 0 (hA N0) := by
  refine Met.ofW (cc := cX4_lay) (maxL := 9) (ret := (some .boolean)) (by decide) rfl ?_
  intro p e s m args below meth c s₁ B hml hv0
  obtain ⟨hargs, hKs, hV⟩ := hv0
  have hx := B.exec
  have hb := B.bytes
  have hr := B.returns
  have hts := atoms_spec (ws := wsX4_lay) B.pre
  have hown : s.vm.findClass RX4 = some m.cls := findClass_of_methodNamed B.named
  have hlocks := B.notSynchronized
  have hS : va_S (hA N0) s.heap s.heap [] := va_S.rf
  have hiX4 : ∀ w ∈ u_ws RX4 TX4 15, w ∈ wsX4_lay := by decide +kernel
  have lk41 := hts (.fieldLink RX4 41 "CaneSlicesModel" "thrown" "I") (by decide +kernel)
  have lk23 := hts (.fieldLink RX4 23 "CaneSlicesModel" "isWhole" "[I") (by decide +kernel)
  have lk26 := hts (.fieldLink RX4 26 "CaneSlicesModel" "pattern" "[I") (by decide +kernel)
  have hl := lv_entry ([.ref (ad (80)), .int (y0q), .int (y1q), .int (y2q), .int (y3q), .int (y4q)]) (n := 9) (Nat.le_of_ble_eq_true rfl)
  have hE : entryFrame m args 9 = entryFrame m ([.ref (ad (80)), .int (y0q), .int (y1q), .int (y2q), .int (y3q), .int (y4q)] : List Value).toArray 9 := by rw [hargs]
  rw [hE, lg_entry_eq]
  generalize (lg_sl ([.ref (ad (80)), .int (y0q), .int (y1q), .int (y2q), .int (y3q), .int (y4q)]) ++ List.replicate (9 - (lg_sl ([.ref (ad (80)), .int (y0q), .int (y1q), .int (y2q), .int (y3q), .int (y4q)])).length) Slot.unset).toArray = ls at hl ⊢
  have hl : lv_has ls 9 [(0, .ref (ad (80))), (1, .int (y0q)), (2, .int (y1q)), (3, .int (y2q)), (4, .int (y3q)), (5, .int (y4q))] := hl
  obtain ⟨Qz, hQz⟩ : ∃ z : State → Prop, z = (MQ below (va_Qi (fun (z : Int32) (u : hU) => ((k_lay σ y0q y1q y2q y3q y4q) = 0 → z = hbv (decide (2 ≤ cHt σ y0q.toInt.toNat)) ∧ gM D (sWk σ y0q.toInt.toNat 2 (q_lay σ y0q.toInt.toNat y1q.toInt.toNat y2q.toInt.toNat y3q.toInt.toNat y4q.toInt.toNat)) 0 u.1 u.2) ∧ ((k_lay σ y0q y1q y2q y3q y4q) ≠ 0 → gM D σ (k_lay σ y0q y1q y2q y3q y4q) u.1 u.2) ∧ hFm ad ct u) (hB D N0) (hA N0)) args s 0 0 (hA N0)) := ⟨_, rfl⟩
  rw [← hQz]
  obtain ⟨hn8, hn60, hn6, -⟩ := id hO
  obtain ⟨f1, f2, f3, f4, f5, f6, f7, f8, f9, ⟨hm0, hm1, hm2, hm3, hm4, hm5, hm6, hm7, hm8, hm9⟩, hme⟩ := id hM
  obtain ⟨em1, em2, em3, em4, em5, em6, em7, em8, em9⟩ := id hme
  obtain ⟨ad0, had0⟩ : ∃ z, z = ad := ⟨ad, rfl⟩
  obtain ⟨ct0, hct0⟩ : ∃ z, z = ct := ⟨ct, rfl⟩
  have hfr : ∀ q : Nat, (q ≠ 1 ∧ (q % 16 ≠ 0 ∨ q < 80)) → ct q = ct0 q := fun q _ => by rw [hct0]
  have hfa : ∀ q : Nat, q ≠ 1 → ad q = ad0 q := fun q _ => by rw [had0]
  refine lv_aload_n hx hb dX4_lay_0 rfl (lv_at hl 0 rfl) ?_
  refine lv_iconst (v := nI 0) hx hb dX4_lay_1 (by decide) ?_
  refine hv_put (ty := .int) (C := RX4) (T := TX4) (N := 15) hx hb hts hiX4 tyX4 tyX4_ok nmX4 hown hKs hV hS hm0 0 rfl (by decide) lk41 (fun _ h9 => h9) (Or.inl (by decide +kernel)) (by decide +kernel) rfl rfl (Nat.le_of_ble_eq_true rfl) dX4_lay_2 (fun ct H locs he hne hV hS => ?_)
  have hm1 := (hne (96) (by omega)).trans hm1
  have hm2 := (hne (112) (by omega)).trans hm2
  have hm3 := (hne (128) (by omega)).trans hm3
  have hm4 := (hne (144) (by omega)).trans hm4
  have hm5 := (hne (160) (by omega)).trans hm5
  have hm6 := (hne (176) (by omega)).trans hm6
  have hm7 := (hne (192) (by omega)).trans hm7
  have hm8 := (hne (208) (by omega)).trans hm8
  have hm9 := (hne (224) (by omega)).trans hm9
  have hm0 : ct (80) = some (eO 4 [.int (nI (0)), .int (gMi σ), .int (gFu σ), .int (nI (gNC σ)), .ref (ad (96)), .ref (ad (112)), .ref (ad (128)), .ref (ad (144)), .ref (ad (160)), .int (nI (gNS σ)), .ref (ad (176)), .ref (ad (192)), .int (nI (gNB σ)), .ref (ad (208)), .ref (ad (224))]) := he
  have hfr := fun (q : Nat) (q1 : q ≠ 1 ∧ (q % 16 ≠ 0 ∨ q < 80)) => (hne q (by omega)).trans (hfr q q1)
  refine lv_aload_n hx hb dX4_lay_5 rfl (lv_at hl 0 rfl) ?_
  refine lv_iload_n hx hb dX4_lay_6 rfl (lv_at hl 1 rfl) ?_
  refine hv_calli (va_runV (As := [.int (y0q)]) (rest := []) ⟨hx, hb, hml, hown, hts⟩ (c_X4_isCane l D N0 ad ct (show gM D σ _ ad ct from ⟨f1, f2, f3, f4, f5, f6, f7, f8, f9, ⟨hm0, hm1, hm2, hm3, hm4, hm5, hm6, hm7, hm8, hm9⟩, hme⟩) hO ((y0q))) (cwV 1 hts gX4_lay_X4_isCane rfl rfl rfl (by decide +kernel) ⟨Nat.le_of_ble_eq_true rfl, Nat.le_of_ble_eq_true rfl⟩) (hv_preV (r := (RX4, TX4, 15)) hKs hV hS hm0 rfl) rfl rfl hl.1 rfl (lv_room (Nat.le_of_ble_eq_true rfl)) dX4_lay_7 ⟨(Nat.le_of_ble_eq_true rfl), (Nat.le_of_ble_eq_true rfl)⟩) hS (fun r9 u9 H locs hq hV hS => ?_)
  obtain ⟨rfl, rfl⟩ := hq
  have hV : hv D N0 ad ct H := hV
  refine hB_if_ne (tgt := 27) hx hb dX4_lay_10 (by decide) (fun c10 => ?_) (fun c10 => ?_)
  · obtain ⟨y0qn, hy0qn, rfl⟩ := inR_of c10
    have e_y0q : (nI y0qn).toInt.toNat = y0qn := toNat_nI (by omega)
    refine lv_iload_n hx hb dX4_lay_27 rfl (lv_at hl 2 rfl) ?_
    refine lv_iload_n hx hb dX4_lay_28 rfl (lv_at hl 3 rfl) ?_
    refine hv_calli (va_runS (As := [.int (y1q), .int (y2q)]) (rest := []) ⟨hx, hb, hml, hown, hts⟩ (c_X4_isSpot l D N0 ad ct ((y1q)) ((y2q))) (va_cwS 2 hts gX4_lay_X4_isSpot rfl rfl rfl (by decide +kernel) ⟨Nat.le_of_ble_eq_true rfl, Nat.le_of_ble_eq_true rfl⟩) (hv_preS hKs hV hS) rfl rfl hl.1 rfl (lv_room (Nat.le_of_ble_eq_true rfl)) dX4_lay_29 ⟨(Nat.le_of_ble_eq_true rfl), (Nat.le_of_ble_eq_true rfl)⟩) hS (fun r9 u9 H locs hq hV hS => ?_)
    obtain ⟨rfl, rfl⟩ := hq
    have hV : hv D N0 ad ct H := hV
    refine hB_if_eq (tgt := 57) hx hb dX4_lay_32 (by decide) (fun c32 => ?_) (fun c32 => ?_)
    · have c32f := Bool.and_eq_false_iff.mp c32
      refine lv_aload_n hx hb dX4_lay_57 rfl (lv_at hl 0 rfl) ?_
      refine lv_iconst (v := nI 2) hx hb dX4_lay_58 (by decide) ?_
      refine hv_calli (va_runV (As := [.int (nI (2))]) (rest := []) ⟨hx, hb, hml, hown, hts⟩ (c_X4_no l D N0 ad ct hm0 (2)) (cwV 1 hts gX4_lay_X4_no rfl rfl rfl (by decide +kernel) ⟨Nat.le_of_ble_eq_true rfl, Nat.le_of_ble_eq_true rfl⟩) (hv_preV (r := (RX4, TX4, 15)) hKs hV hS hm0 rfl) rfl rfl hl.1 rfl (lv_room (Nat.le_of_ble_eq_true rfl)) dX4_lay_59 ⟨(Nat.le_of_ble_eq_true rfl), (Nat.le_of_ble_eq_true rfl)⟩) hS (fun r9 u9 H locs hq hV hS => ?_)
      obtain ⟨ad9, ct⟩ := u9
      dsimp only at hq
      obtain ⟨rfl, ha9, he, hne⟩ := hq
      have ha9 := ha9.symm
      subst ha9
      have hV : hv D N0 ad ct H := hV
      have hm1 := (hne (96) (by omega)).trans hm1
      have hm2 := (hne (112) (by omega)).trans hm2
      have hm3 := (hne (128) (by omega)).trans hm3
      have hm4 := (hne (144) (by omega)).trans hm4
      have hm5 := (hne (160) (by omega)).trans hm5
      have hm6 := (hne (176) (by omega)).trans hm6
      have hm7 := (hne (192) (by omega)).trans hm7
      have hm8 := (hne (208) (by omega)).trans hm8
      have hm9 := (hne (224) (by omega)).trans hm9
      have hm0 : ct (80) = some (eO 4 [.int (nI (2)), .int (gMi σ), .int (gFu σ), .int (nI (gNC σ)), .ref (ad (96)), .ref (ad (112)), .ref (ad (128)), .ref (ad (144)), .ref (ad (160)), .int (nI (gNS σ)), .ref (ad (176)), .ref (ad (192)), .int (nI (gNB σ)), .ref (ad (208)), .ref (ad (224))]) := he
      have hfr := fun (q : Nat) (q1 : q ≠ 1 ∧ (q % 16 ≠ 0 ∨ q < 80)) => (hne q (by omega)).trans (hfr q q1)
      refine hN_if_eq (tgt := 69) hx hb (by omega) dX4_lay_62 (by decide) (fun c62 => ?_) (fun c62 => by exact absurd c62 (by omega))
      refine lv_iconst (v := nI 0) hx hb dX4_lay_69 (by decide) ?_
      have hkn : (k_lay σ (nI y0qn) y1q y2q y3q y4q) = 2 := by rcases c32f with h9 | h9 <;> simp [k_lay, h9, c10, e_y0q]
      rw [hQz]
      exact hv_zret (v := nI (0)) (u := (ad, ct)) hx hb hr (by decide +kernel) ⟨fun h9 => absurd (hkn.symm.trans h9) (by decide), fun _ => by rw [hkn]; exact ⟨f1, f2, f3, f4, f5, f6, f7, f8, f9, ⟨hm0, hm1, hm2, hm3, hm4, hm5, hm6, hm7, hm8, hm9⟩, hme⟩, fun q q1 => ⟨(hfa q q1).trans (by rw [had0]), fun q2 => (hfr q ⟨q1, q2⟩).trans (by rw [hct0])⟩⟩ hV hS dX4_lay_70 hlocks
    · obtain ⟨c32a, c32b⟩ := Bool.and_eq_true_iff.mp c32
      obtain ⟨y1qn, hy1qn, rfl⟩ := inR_of c32a
      have e_y1q : (nI y1qn).toInt.toNat = y1qn := toNat_nI (by omega)
      obtain ⟨y2qn, hy2qn, rfl⟩ := inR_of c32b
      have e_y2q : (nI y2qn).toInt.toNat = y2qn := toNat_nI (by omega)
      refine lv_iload hx hb dX4_lay_35 (lv_at hl 4 rfl) ?_
      refine lv_iconst (v := nI 1) hx hb dX4_lay_37 (by decide) ?_
      refine lv_bipush (v := nI 8) hx hb dX4_lay_38 (by decide) ?_
      refine hv_calli (va_runS (As := [.int (y3q), .int (nI (1)), .int (nI (8))]) (rest := []) ⟨hx, hb, hml, hown, hts⟩ (c_X4_isIn l D N0 ad ct ((y3q)) (nI (1)) (nI (8))) (va_cwS 3 hts gX4_lay_X4_isIn rfl rfl rfl (by decide +kernel) ⟨Nat.le_of_ble_eq_true rfl, Nat.le_of_ble_eq_true rfl⟩) (hv_preS hKs hV hS) rfl rfl hl.1 rfl (lv_room (Nat.le_of_ble_eq_true rfl)) dX4_lay_40 ⟨(Nat.le_of_ble_eq_true rfl), (Nat.le_of_ble_eq_true rfl)⟩) hS (fun r9 u9 H locs hq hV hS => ?_)
      obtain ⟨rfl, rfl⟩ := hq
      have hV : hv D N0 ad ct H := hV
      refine hv_eqi (y := hbv (inB ((y3q)) 1 8)) (congrArg hbv (inI_b (by omega) (by omega))) ?_
      refine hB_if_eq (tgt := 57) hx hb dX4_lay_43 (by decide) (fun c43 => ?_) (fun c43 => ?_)
      · refine lv_aload_n hx hb dX4_lay_57 rfl (lv_at hl 0 rfl) ?_
        refine lv_iconst (v := nI 2) hx hb dX4_lay_58 (by decide) ?_
        refine hv_calli (va_runV (As := [.int (nI (2))]) (rest := []) ⟨hx, hb, hml, hown, hts⟩ (c_X4_no l D N0 ad ct hm0 (2)) (cwV 1 hts gX4_lay_X4_no rfl rfl rfl (by decide +kernel) ⟨Nat.le_of_ble_eq_true rfl, Nat.le_of_ble_eq_true rfl⟩) (hv_preV (r := (RX4, TX4, 15)) hKs hV hS hm0 rfl) rfl rfl hl.1 rfl (lv_room (Nat.le_of_ble_eq_true rfl)) dX4_lay_59 ⟨(Nat.le_of_ble_eq_true rfl), (Nat.le_of_ble_eq_true rfl)⟩) hS (fun r9 u9 H locs hq hV hS => ?_)
        obtain ⟨ad9, ct⟩ := u9
        dsimp only at hq
        obtain ⟨rfl, ha9, he, hne⟩ := hq
        have ha9 := ha9.symm
        subst ha9
        have hV : hv D N0 ad ct H := hV
        have hm1 := (hne (96) (by omega)).trans hm1
        have hm2 := (hne (112) (by omega)).trans hm2
        have hm3 := (hne (128) (by omega)).trans hm3
        have hm4 := (hne (144) (by omega)).trans hm4
        have hm5 := (hne (160) (by omega)).trans hm5
        have hm6 := (hne (176) (by omega)).trans hm6
        have hm7 := (hne (192) (by omega)).trans hm7
        have hm8 := (hne (208) (by omega)).trans hm8
        have hm9 := (hne (224) (by omega)).trans hm9
        have hm0 : ct (80) = some (eO 4 [.int (nI (2)), .int (gMi σ), .int (gFu σ), .int (nI (gNC σ)), .ref (ad (96)), .ref (ad (112)), .ref (ad (128)), .ref (ad (144)), .ref (ad (160)), .int (nI (gNS σ)), .ref (ad (176)), .ref (ad (192)), .int (nI (gNB σ)), .ref (ad (208)), .ref (ad (224))]) := he
        have hfr := fun (q : Nat) (q1 : q ≠ 1 ∧ (q % 16 ≠ 0 ∨ q < 80)) => (hne q (by omega)).trans (hfr q q1)
        refine hN_if_eq (tgt := 69) hx hb (by omega) dX4_lay_62 (by decide) (fun c62 => ?_) (fun c62 => by exact absurd c62 (by omega))
        refine lv_iconst (v := nI 0) hx hb dX4_lay_69 (by decide) ?_
        have hkn : (k_lay σ (nI y0qn) (nI y1qn) (nI y2qn) y3q y4q) = 2 := by simp [k_lay, c10, c32, c43, c32a, c32b, e_y0q, e_y1q, e_y2q]
        rw [hQz]
        exact hv_zret (v := nI (0)) (u := (ad, ct)) hx hb hr (by decide +kernel) ⟨fun h9 => absurd (hkn.symm.trans h9) (by decide), fun _ => by rw [hkn]; exact ⟨f1, f2, f3, f4, f5, f6, f7, f8, f9, ⟨hm0, hm1, hm2, hm3, hm4, hm5, hm6, hm7, hm8, hm9⟩, hme⟩, fun q q1 => ⟨(hfa q q1).trans (by rw [had0]), fun q2 => (hfr q ⟨q1, q2⟩).trans (by rw [hct0])⟩⟩ hV hS dX4_lay_70 hlocks
      · obtain ⟨h91, h92⟩ := of_decide_eq_true c43
        obtain ⟨y3qn, hy3qn, rfl⟩ := hI_of (x := y3q) (n := 9) (by omega) (by omega)
        have e_y3q : (nI y3qn).toInt.toNat = y3qn := toNat_nI (by omega)
        rw [nI_toInt (by omega)] at h92
        refine lv_iload hx hb dX4_lay_46 (lv_at hl 5 rfl) ?_
        refine lv_iconst (v := nI 0) hx hb dX4_lay_48 (by decide) ?_
        refine lv_bipush (v := nI 7) hx hb dX4_lay_49 (by decide) ?_
        refine hv_calli (va_runS (As := [.int (y4q), .int (nI (0)), .int (nI (7))]) (rest := []) ⟨hx, hb, hml, hown, hts⟩ (c_X4_isIn l D N0 ad ct ((y4q)) (nI (0)) (nI (7))) (va_cwS 3 hts gX4_lay_X4_isIn rfl rfl rfl (by decide +kernel) ⟨Nat.le_of_ble_eq_true rfl, Nat.le_of_ble_eq_true rfl⟩) (hv_preS hKs hV hS) rfl rfl hl.1 rfl (lv_room (Nat.le_of_ble_eq_true rfl)) dX4_lay_51 ⟨(Nat.le_of_ble_eq_true rfl), (Nat.le_of_ble_eq_true rfl)⟩) hS (fun r9 u9 H locs hq hV hS => ?_)
        obtain ⟨rfl, rfl⟩ := hq
        have hV : hv D N0 ad ct H := hV
        refine hv_eqi (y := hbv (inR ((y4q)) 8)) (congrArg hbv (inI_k (n := 8) (by omega) rfl)) ?_
        refine hB_if_ne (tgt := 71) hx hb dX4_lay_54 (by decide) (fun c54 => ?_) (fun c54 => ?_)
        · obtain ⟨y4qn, hy4qn, rfl⟩ := inR_of c54
          have e_y4q : (nI y4qn).toInt.toNat = y4qn := toNat_nI (by omega)
          refine lv_aload_n hx hb dX4_lay_71 rfl (lv_at hl 0 rfl) ?_
          refine hv_get (C := RX4) (T := TX4) (N := 15) hx hb hts hiX4 hown hKs hV hm0 7 rfl (by decide) lk23 (fun _ h9 => h9) rfl dX4_lay_72 ?_
          refine lv_iload_n hx hb dX4_lay_75 rfl (lv_at hl 1 rfl) ?_
          refine hv_iald hx hb hKs hV hm4 (by omega) (by decide) dX4_lay_76 ?_
          have hwb := wh_le (σ := σ) (c := y0qn)
          refine hv_eqi (em4 (y0qn) (by omega)) ?_
          refine hN_if_ne (tgt := 94) hx hb (by omega) dX4_lay_77 (by decide) (fun c77 => ?_) (fun c77 => ?_)
          · refine lv_aload_n hx hb dX4_lay_94 rfl (lv_at hl 0 rfl) ?_
            refine lv_iload_n hx hb dX4_lay_95 rfl (lv_at hl 1 rfl) ?_
            refine lv_iconst (v := nI 2) hx hb dX4_lay_96 (by decide) ?_
            refine hv_calli (va_runV (As := [.int (nI (y0qn)), .int (nI (2))]) (rest := []) ⟨hx, hb, hml, hown, hts⟩ (c_X4_bears l D N0 ad ct (show gM D σ _ ad ct from ⟨f1, f2, f3, f4, f5, f6, f7, f8, f9, ⟨hm0, hm1, hm2, hm3, hm4, hm5, hm6, hm7, hm8, hm9⟩, hme⟩) hO (y0qn) (2) (by omega) (by decide) (by decide)) (cwV 2 hts gX4_lay_X4_bears rfl rfl rfl (by decide +kernel) ⟨Nat.le_of_ble_eq_true rfl, Nat.le_of_ble_eq_true rfl⟩) (hv_preV (r := (RX4, TX4, 15)) hKs hV hS hm0 rfl) rfl rfl hl.1 rfl (lv_room (Nat.le_of_ble_eq_true rfl)) dX4_lay_97 ⟨(Nat.le_of_ble_eq_true rfl), (Nat.le_of_ble_eq_true rfl)⟩) hS (fun r9 u9 H locs hq hV hS => ?_)
            obtain ⟨ad9, ct⟩ := u9
            dsimp only at hq
            obtain ⟨rfl, ha9, hMb, hfp⟩ := hq
            have ha9 := ha9.symm
            subst ha9
            have hV : hv D N0 ad ct H := hV
            have hfr := fun (q : Nat) (q1 : q ≠ 1 ∧ (q % 16 ≠ 0 ∨ q < 80)) => ((hfp q q1.1).2 q1.2).trans (hfr q q1)
            rcases Nat.lt_or_ge (cHt σ y0qn) 2 with hk | hk
            · refine hv_eqi (y := nI 0) (by rw [decide_eq_false (by omega)]; rfl) ?_
              refine hN_if_ne (tgt := 105) hx hb (by omega) dX4_lay_100 (by decide) (fun c100 => by exact absurd c100 (by omega)) (fun c100 => ?_)
              refine lv_iconst (v := nI 0) hx hb dX4_lay_103 (by decide) ?_
              have hkn : (k_lay σ (nI y0qn) (nI y1qn) (nI y2qn) (nI y3qn) (nI y4qn)) = 0 := by simp [k_lay, c10, c32a, c32b, c43, c54, e_y0q, e_y1q, e_y2q, e_y3q, e_y4q, wh_c1 c77]
              rw [hQz]
              exact hv_zret (v := nI (0)) (u := (ad, ct)) hx hb hr (by decide +kernel) ⟨fun _ => ⟨by rw [e_y0q]; exact hb_0 (decide_eq_false (by omega)), by rw [e_y0q, e_y1q, e_y2q, e_y3q, e_y4q, ← sWk_bad (by omega)]; exact hMb⟩, fun h9 => absurd hkn h9, fun q q1 => ⟨(hfa q q1).trans (by rw [had0]), fun q2 => (hfr q ⟨q1, q2⟩).trans (by rw [hct0])⟩⟩ hV hS dX4_lay_104 hlocks
            · refine hv_eqi (y := nI 1) (by rw [decide_eq_true hk]; rfl) ?_
              obtain ⟨σ1, hσ1⟩ : ∃ z, z = sB σ y0qn 2 := ⟨_, rfl⟩
              rw [← hσ1] at hMb
              obtain ⟨f1, f2, f3, f4, f5, f6, f7, f8, f9, ⟨hm0, hm1, hm2, hm3, hm4, hm5, hm6, hm7, hm8, hm9⟩, hme⟩ := id hMb
              obtain ⟨em1, em2, em3, em4, em5, em6, em7, em8, em9⟩ := id hme
              have hO1 : okS σ1 := by rw [hσ1]; exact ok_sB hO (show y0qn < gNC σ by omega)
              have hn1 : gNC σ1 = gNC σ := by rw [hσ1]; rfl
              have hc1 : y0qn < gNC σ1 := by rw [hn1]; omega
              have hn81 : gNC σ1 ≤ 8 := hO1.1
              have hat : σ1.2.1 y0qn = (cLen σ y0qn, cTw σ y0qn, cHt σ1 y0qn, cCr σ y0qn, cPt σ y0qn) := by rw [hσ1]; exact sB_at hk (show y0qn < gNC σ by omega)
              have hlen : cLen σ1 y0qn = cLen σ y0qn := by show (σ1.2.1 y0qn).1 = _; rw [hat]
              have htw : cTw σ1 y0qn = cTw σ y0qn := by show (σ1.2.1 y0qn).2.1 = _; rw [hat]
              have hcr : cCr σ1 y0qn = cCr σ y0qn := by show (σ1.2.1 y0qn).2.2.2.1 = _; rw [hat]
              have hpt : cPt σ1 y0qn = cPt σ y0qn := by show (σ1.2.1 y0qn).2.2.2.2 = _; rw [hat]
              have u1 : f1 y0qn = nI (cLen σ y0qn) := (em1 y0qn hc1).trans (congrArg nI hlen)
              have u2 : f2 y0qn = cTw σ y0qn := (hme.tw hn81 hc1).trans htw
              have u3 : f3 y0qn = nI (cHt σ1 y0qn) := em3 y0qn hc1
              have u4 : f4 y0qn = nI (if cCr σ y0qn = true then 0 else 1) := by rw [em4 y0qn hc1]; show nI (if cCr σ1 y0qn = true then 0 else 1) = _; rw [hcr]
              have u5 : ∀ r, r < 3 → f5 (3 * y0qn + r) = nI (rgP (cPt σ y0qn) r) := fun r hr => by rw [hme.pt hn81 hc1 r hr, hpt]
              refine hN_if_ne (tgt := 105) hx hb (by omega) dX4_lay_100 (by decide) (fun c100 => ?_) (fun c100 => by exact absurd c100 (by omega))
              refine lv_iconst (v := nI 3) hx hb dX4_lay_105 (by decide) ?_
              refine lv_iload_n hx hb dX4_lay_106 rfl (lv_at hl 1 rfl) ?_
              refine hN_imul hx hb dX4_lay_107 ?_
              refine lv_iload_n hx hb dX4_lay_108 rfl (lv_at hl 2 rfl) ?_
              refine hN_iadd hx hb dX4_lay_109 ?_
              obtain ⟨ct1, hct1⟩ : ∃ z, z = ct := ⟨ct, rfl⟩
              have hP24 : ok24 (cPt σ y0qn) := (hO.2.2.2.1 y0qn (show y0qn < gNC σ by omega)).2.2
              refine lv_istore (lv' := [(6, .int (nI ((3) * (y0qn) + y1qn))), (0, .ref (ad (80))), (1, .int (nI (y0qn))), (2, .int (nI (y1qn))), (3, .int (nI (y2qn))), (4, .int (nI (y3qn))), (5, .int (nI (y4qn)))]) hx hb dX4_lay_110 hl (by decide) rfl (fun ls hl => ?_)
              refine lv_iload_n hx hb dX4_lay_112 rfl (lv_at hl 4 rfl) ?_
              refine lv_istore (lv' := [(7, .int (nI (y2qn))), (6, .int (nI ((3) * (y0qn) + y1qn))), (0, .ref (ad (80))), (1, .int (nI (y0qn))), (2, .int (nI (y1qn))), (3, .int (nI (y2qn))), (4, .int (nI (y3qn))), (5, .int (nI (y4qn)))]) hx hb dX4_lay_113 hl (by decide) rfl (fun ls hl => ?_)
              have L115 : ∀ (n j : Nat) (F : Nat → Int32), j ≤ y3qn → y3qn < j + n → ∀ (ct : hC) (H : Heap) (locs : List Loc), (ct 160 = some (eI D 24 F)) → ((∀ r, r < 3 → F (3 * y0qn + r) = nI (rgP (pnt (cPt σ y0qn) y1qn y2qn j y4qn) r)) ∧ ∀ k, k ≠ y0qn → ∀ r, r < 3 → F (3 * k + r) = f5 (3 * k + r)) → (∀ q : Nat, q ≠ 160 → ct q = ct1 q) → (∀ q : Nat, (q ≠ 1 ∧ (q % 16 ≠ 0 ∨ q < 80)) → ct q = ct0 q) → hv D N0 ad ct H → va_S (hA N0) s.heap H locs → ∀ ls : Array Slot, lv_has ls 9 [(0, .ref (ad (80))), (1, .int (nI (y0qn))), (2, .int (nI (y1qn))), (3, .int (nI (y2qn))), (4, .int (nI (y3qn))), (5, .int (nI (y4qn))), (6, .int (nI ((3) * (y0qn) + y1qn))), (7, .int (nI (y2qn + j)))] → W p l e (headSpec wsX4_lay ({ frames := 3, cells := 0, slots := 0, locals := 58 })).room s m args below meth c H locs 0 0 Qz (F0 m 115 ls []) := by
                intro n
                induction n with
                | zero => intro j F h1 h2; exact absurd h2 (by omega)
                | succ n ih115 =>
                  intro j F hi115 hn115 ct H locs h160 hg5 hfx hfr hV hS ls hl
                  have hm0 : ct 80 = some (eO 4 [.int (nI (0)), .int (gMi σ1), .int (gFu σ1), .int (nI (gNC σ1)), .ref (ad (96)), .ref (ad (112)), .ref (ad (128)), .ref (ad (144)), .ref (ad (160)), .int (nI (gNS σ1)), .ref (ad (176)), .ref (ad (192)), .int (nI (gNB σ1)), .ref (ad (208)), .ref (ad (224))]) := (hfx 80 (by omega)).trans (by rw [hct1]; exact hm0)
                  have hm1 : ct 96 = some (eI D 8 (f1)) := (hfx 96 (by omega)).trans (by rw [hct1]; exact hm1)
                  have hm2 : ct 112 = some (eI D 8 (f2)) := (hfx 112 (by omega)).trans (by rw [hct1]; exact hm2)
                  have hm3 : ct 128 = some (eI D 8 (f3)) := (hfx 128 (by omega)).trans (by rw [hct1]; exact hm3)
                  have hm4 : ct 144 = some (eI D 8 (f4)) := (hfx 144 (by omega)).trans (by rw [hct1]; exact hm4)
                  have hm5 := h160
                  have hm6 : ct 176 = some (eI D 180 (f6)) := (hfx 176 (by omega)).trans (by rw [hct1]; exact hm6)
                  have hm7 : ct 192 = some (eI D 60 (f7)) := (hfx 192 (by omega)).trans (by rw [hct1]; exact hm7)
                  have hm8 : ct 208 = some (eI D 24 (f8)) := (hfx 208 (by omega)).trans (by rw [hct1]; exact hm8)
                  have hm9 : ct 224 = some (eI D 24 (f9)) := (hfx 224 (by omega)).trans (by rw [hct1]; exact hm9)
                  refine lv_iload hx hb dX4_lay_115 (lv_at hl 7 rfl) ?_
                  refine lv_iload_n hx hb dX4_lay_117 rfl (lv_at hl 3 rfl) ?_
                  refine lv_iload hx hb dX4_lay_118 (lv_at hl 4 rfl) ?_
                  refine hN_iadd hx hb dX4_lay_120 ?_
                  refine hN_icmp_ge (tgt := 167) hx hb (by omega) (by omega) dX4_lay_121 (by decide) (fun c121 => ?_) (fun c121 => ?_)
                  · refine lv_iconst (v := nI 1) hx hb dX4_lay_167 (by decide) ?_
                    have hkn : (k_lay σ (nI y0qn) (nI y1qn) (nI y2qn) (nI y3qn) (nI y4qn)) = 0 := by simp [k_lay, c10, c32a, c32b, c43, c54, e_y0q, e_y1q, e_y2q, e_y3q, e_y4q, wh_c1 c77]
                    rw [hQz]
                    exact hv_zret (v := nI (1)) (u := (ad, ct)) hx hb hr (by decide +kernel) ⟨fun _ => ⟨by rw [e_y0q]; exact hb_1 (decide_eq_true hk), by rw [e_y0q, e_y1q, e_y2q, e_y3q, e_y4q, ← sWk_good (q := q_lay σ y0qn y1qn y2qn y3qn y4qn) hk (show y0qn < gNC σ by omega) rfl, ← hσ1]; exact ⟨_, _, _, _, _, _, _, _, _, ⟨hm0, hm1, hm2, hm3, hm4, hm5, hm6, hm7, hm8, hm9⟩, me_can (q := (cLen σ y0qn, cTw σ y0qn, cHt σ1 y0qn, cCr σ y0qn, pnt (cPt σ y0qn) y1qn y2qn y3qn y4qn)) hme hc1 (up_0 u1) (up_0 u2) (up_0 u3) (up_0 u4) ⟨fun r hr => by have h9 := hg5.1 r hr; rw [show j = y3qn by omega] at h9; exact h9, hg5.2⟩⟩⟩, fun h9 => absurd hkn h9, fun q q1 => ⟨(hfa q q1).trans (by rw [had0]), fun q2 => (hfr q ⟨q1, q2⟩).trans (by rw [hct0])⟩⟩ hV hS dX4_lay_168 hlocks
                  · refine lv_iconst (v := nI 3) hx hb dX4_lay_124 (by decide) ?_
                    refine lv_iload hx hb dX4_lay_125 (lv_at hl 7 rfl) ?_
                    refine lv_bipush (v := nI 8) hx hb dX4_lay_127 (by decide) ?_
                    refine hN_irem hx hb (by omega) (by omega) (by omega) dX4_lay_129 ?_
                    refine hN_imul hx hb dX4_lay_130 ?_
                    refine lv_istore (lv' := [(8, .int (nI ((3) * ((y2qn + j) % (8))))), (0, .ref (ad (80))), (1, .int (nI (y0qn))), (2, .int (nI (y1qn))), (3, .int (nI (y2qn))), (4, .int (nI (y3qn))), (5, .int (nI (y4qn))), (6, .int (nI ((3) * (y0qn) + y1qn))), (7, .int (nI (y2qn + j)))]) hx hb dX4_lay_131 hl (by decide) rfl (fun ls hl => ?_)
                    refine lv_aload_n hx hb dX4_lay_133 rfl (lv_at hl 1 rfl) ?_
                    refine hv_get (C := RX4) (T := TX4) (N := 15) hx hb hts hiX4 hown hKs hV hm0 8 rfl (by decide) lk26 (fun _ h9 => h9) rfl dX4_lay_134 ?_
                    refine lv_iload hx hb dX4_lay_137 (lv_at hl 7 rfl) ?_
                    refine lv_aload_n hx hb dX4_lay_139 rfl (lv_at hl 1 rfl) ?_
                    refine hv_get (C := RX4) (T := TX4) (N := 15) hx hb hts hiX4 hown hKs hV hm0 8 rfl (by decide) lk26 (fun _ h9 => h9) rfl dX4_lay_140 ?_
                    refine lv_iload hx hb dX4_lay_143 (lv_at hl 7 rfl) ?_
                    refine hv_iald hx hb hKs hV hm5 (by omega) (by decide) dX4_lay_145 ?_
                    refine hv_eqi (hg5.1 (y1qn) (by omega)) ?_
                    refine lv_bipush (v := nI 7) hx hb dX4_lay_146 (by decide) ?_
                    refine lv_iload hx hb dX4_lay_148 (lv_at hl 0 rfl) ?_
                    refine lv_ishl hx hb dX4_lay_150 ?_
                    refine lv_iconst (v := (-1)) hx hb dX4_lay_151 (by decide) ?_
                    refine lv_ixor hx hb dX4_lay_152 ?_
                    refine lv_iand hx hb dX4_lay_153 ?_
                    refine lv_iload hx hb dX4_lay_154 (lv_at hl 6 rfl) ?_
                    refine lv_iload hx hb dX4_lay_156 (lv_at hl 0 rfl) ?_
                    refine lv_ishl hx hb dX4_lay_158 ?_
                    refine lv_ior hx hb dX4_lay_159 ?_
                    refine hv_eqi (y := nI (rgP (pnt (cPt σ y0qn) y1qn y2qn (j + 1) y4qn) y1qn)) (lay_step hP24 (by omega) (by omega) (by omega) (by omega)) ?_
                    refine hv_iast hx hb hKs hV hS hm5 (by omega) (by decide) dX4_lay_160 (fun ct H locs he hne hV hS => ?_)
                    have hm0 := (hne (80) (by omega)).trans hm0
                    have hm1 := (hne (96) (by omega)).trans hm1
                    have hm2 := (hne (112) (by omega)).trans hm2
                    have hm3 := (hne (128) (by omega)).trans hm3
                    have hm4 := (hne (144) (by omega)).trans hm4
                    have hm6 := (hne (176) (by omega)).trans hm6
                    have hm7 := (hne (192) (by omega)).trans hm7
                    have hm8 := (hne (208) (by omega)).trans hm8
                    have hm9 := (hne (224) (by omega)).trans hm9
                    have hm5 := he
                    have hfr := fun (q : Nat) (q1 : q ≠ 1 ∧ (q % 16 ≠ 0 ∨ q < 80)) => (hne q (by omega)).trans (hfr q q1)
                    refine lv_iinc (v := nI (y2qn + j + 1)) (lv' := [(7, .int (nI (y2qn + j + 1))), (8, .int (nI ((3) * ((y2qn + j) % (8))))), (0, .ref (ad (80))), (1, .int (nI (y0qn))), (2, .int (nI (y1qn))), (3, .int (nI (y2qn))), (4, .int (nI (y3qn))), (5, .int (nI (y4qn))), (6, .int (nI ((3) * (y0qn) + y1qn)))]) hx hb dX4_lay_161 hl (k := 8) rfl (nI_add (y2qn + j) 1) (by decide) rfl (fun ls hl => ?_)
                    refine lv_goto (tgt := 115) hx hb dX4_lay_164 (by decide) ?_
                    exact ih115 (j + 1) (va_up (F) ((3) * (y0qn) + y1qn) (nI (rgP (pnt (cPt σ y0qn) y1qn y2qn (j + 1) y4qn) y1qn))) (by omega) (by omega) ct _ _ (hm5) (lay_5 (by omega) hg5) (fun q q1 => (hne q q1).trans (hfx q q1)) (hfr) hV hS ls (lv_sub hl [2, 3, 4, 5, 6, 7, 8, 0] rfl)
              exact L115 (y3qn + 1) (0) (f5) (by omega) (by omega) ct _ _ (hm5) (⟨fun r hr => by rw [pnt_0]; exact u5 r hr, fun _ _ _ _ => rfl⟩) (fun q _ => by rw [hct1]) (hfr) hV hS ls (lv_sub hl [2, 3, 4, 5, 6, 7, 1, 0] rfl)
          · refine lv_aload_n hx hb dX4_lay_80 rfl (lv_at hl 0 rfl) ?_
            refine lv_iconst (v := nI 3) hx hb dX4_lay_81 (by decide) ?_
            refine hv_calli (va_runV (As := [.int (nI (3))]) (rest := []) ⟨hx, hb, hml, hown, hts⟩ (c_X4_no l D N0 ad ct hm0 (3)) (cwV 1 hts gX4_lay_X4_no rfl rfl rfl (by decide +kernel) ⟨Nat.le_of_ble_eq_true rfl, Nat.le_of_ble_eq_true rfl⟩) (hv_preV (r := (RX4, TX4, 15)) hKs hV hS hm0 rfl) rfl rfl hl.1 rfl (lv_room (Nat.le_of_ble_eq_true rfl)) dX4_lay_82 ⟨(Nat.le_of_ble_eq_true rfl), (Nat.le_of_ble_eq_true rfl)⟩) hS (fun r9 u9 H locs hq hV hS => ?_)
            obtain ⟨ad9, ct⟩ := u9
            dsimp only at hq
            obtain ⟨rfl, ha9, he, hne⟩ := hq
            have ha9 := ha9.symm
            subst ha9
            have hV : hv D N0 ad ct H := hV
            have hm1 := (hne (96) (by omega)).trans hm1
            have hm2 := (hne (112) (by omega)).trans hm2
            have hm3 := (hne (128) (by omega)).trans hm3
            have hm4 := (hne (144) (by omega)).trans hm4
            have hm5 := (hne (160) (by omega)).trans hm5
            have hm6 := (hne (176) (by omega)).trans hm6
            have hm7 := (hne (192) (by omega)).trans hm7
            have hm8 := (hne (208) (by omega)).trans hm8
            have hm9 := (hne (224) (by omega)).trans hm9
            have hm0 : ct (80) = some (eO 4 [.int (nI (3)), .int (gMi σ), .int (gFu σ), .int (nI (gNC σ)), .ref (ad (96)), .ref (ad (112)), .ref (ad (128)), .ref (ad (144)), .ref (ad (160)), .int (nI (gNS σ)), .ref (ad (176)), .ref (ad (192)), .int (nI (gNB σ)), .ref (ad (208)), .ref (ad (224))]) := he
            have hfr := fun (q : Nat) (q1 : q ≠ 1 ∧ (q % 16 ≠ 0 ∨ q < 80)) => (hne q (by omega)).trans (hfr q q1)
            refine hN_if_eq (tgt := 92) hx hb (by omega) dX4_lay_85 (by decide) (fun c85 => ?_) (fun c85 => by exact absurd c85 (by omega))
            refine lv_iconst (v := nI 0) hx hb dX4_lay_92 (by decide) ?_
            have hkn : (k_lay σ (nI y0qn) (nI y1qn) (nI y2qn) (nI y3qn) (nI y4qn)) = 3 := by simp [k_lay, c10, c32a, c32b, c43, c54, e_y0q, e_y1q, e_y2q, e_y3q, e_y4q, wh_c0 c77]
            rw [hQz]
            exact hv_zret (v := nI (0)) (u := (ad, ct)) hx hb hr (by decide +kernel) ⟨fun h9 => absurd (hkn.symm.trans h9) (by decide), fun _ => by rw [hkn]; exact ⟨f1, f2, f3, f4, f5, f6, f7, f8, f9, ⟨hm0, hm1, hm2, hm3, hm4, hm5, hm6, hm7, hm8, hm9⟩, hme⟩, fun q q1 => ⟨(hfa q q1).trans (by rw [had0]), fun q2 => (hfr q ⟨q1, q2⟩).trans (by rw [hct0])⟩⟩ hV hS dX4_lay_93 hlocks
        · refine lv_aload_n hx hb dX4_lay_57 rfl (lv_at hl 0 rfl) ?_
          refine lv_iconst (v := nI 2) hx hb dX4_lay_58 (by decide) ?_
          refine hv_calli (va_runV (As := [.int (nI (2))]) (rest := []) ⟨hx, hb, hml, hown, hts⟩ (c_X4_no l D N0 ad ct hm0 (2)) (cwV 1 hts gX4_lay_X4_no rfl rfl rfl (by decide +kernel) ⟨Nat.le_of_ble_eq_true rfl, Nat.le_of_ble_eq_true rfl⟩) (hv_preV (r := (RX4, TX4, 15)) hKs hV hS hm0 rfl) rfl rfl hl.1 rfl (lv_room (Nat.le_of_ble_eq_true rfl)) dX4_lay_59 ⟨(Nat.le_of_ble_eq_true rfl), (Nat.le_of_ble_eq_true rfl)⟩) hS (fun r9 u9 H locs hq hV hS => ?_)
          obtain ⟨ad9, ct⟩ := u9
          dsimp only at hq
          obtain ⟨rfl, ha9, he, hne⟩ := hq
          have ha9 := ha9.symm
          subst ha9
          have hV : hv D N0 ad ct H := hV
          have hm1 := (hne (96) (by omega)).trans hm1
          have hm2 := (hne (112) (by omega)).trans hm2
          have hm3 := (hne (128) (by omega)).trans hm3
          have hm4 := (hne (144) (by omega)).trans hm4
          have hm5 := (hne (160) (by omega)).trans hm5
          have hm6 := (hne (176) (by omega)).trans hm6
          have hm7 := (hne (192) (by omega)).trans hm7
          have hm8 := (hne (208) (by omega)).trans hm8
          have hm9 := (hne (224) (by omega)).trans hm9
          have hm0 : ct (80) = some (eO 4 [.int (nI (2)), .int (gMi σ), .int (gFu σ), .int (nI (gNC σ)), .ref (ad (96)), .ref (ad (112)), .ref (ad (128)), .ref (ad (144)), .ref (ad (160)), .int (nI (gNS σ)), .ref (ad (176)), .ref (ad (192)), .int (nI (gNB σ)), .ref (ad (208)), .ref (ad (224))]) := he
          have hfr := fun (q : Nat) (q1 : q ≠ 1 ∧ (q % 16 ≠ 0 ∨ q < 80)) => (hne q (by omega)).trans (hfr q q1)
          refine hN_if_eq (tgt := 69) hx hb (by omega) dX4_lay_62 (by decide) (fun c62 => ?_) (fun c62 => by exact absurd c62 (by omega))
          refine lv_iconst (v := nI 0) hx hb dX4_lay_69 (by decide) ?_
          have hkn : (k_lay σ (nI y0qn) (nI y1qn) (nI y2qn) (nI y3qn) y4q) = 2 := by simp [k_lay, c10, c32, c43, c54, c32a, c32b, e_y0q, e_y1q, e_y2q, e_y3q]
          rw [hQz]
          exact hv_zret (v := nI (0)) (u := (ad, ct)) hx hb hr (by decide +kernel) ⟨fun h9 => absurd (hkn.symm.trans h9) (by decide), fun _ => by rw [hkn]; exact ⟨f1, f2, f3, f4, f5, f6, f7, f8, f9, ⟨hm0, hm1, hm2, hm3, hm4, hm5, hm6, hm7, hm8, hm9⟩, hme⟩, fun q q1 => ⟨(hfa q q1).trans (by rw [had0]), fun q2 => (hfr q ⟨q1, q2⟩).trans (by rw [hct0])⟩⟩ hV hS dX4_lay_70 hlocks
  · refine lv_aload_n hx hb dX4_lay_13 rfl (lv_at hl 0 rfl) ?_
    refine lv_iconst (v := nI 1) hx hb dX4_lay_14 (by decide) ?_
    refine hv_calli (va_runV (As := [.int (nI (1))]) (rest := []) ⟨hx, hb, hml, hown, hts⟩ (c_X4_no l D N0 ad ct hm0 (1)) (cwV 1 hts gX4_lay_X4_no rfl rfl rfl (by decide +kernel) ⟨Nat.le_of_ble_eq_true rfl, Nat.le_of_ble_eq_true rfl⟩) (hv_preV (r := (RX4, TX4, 15)) hKs hV hS hm0 rfl) rfl rfl hl.1 rfl (lv_room (Nat.le_of_ble_eq_true rfl)) dX4_lay_15 ⟨(Nat.le_of_ble_eq_true rfl), (Nat.le_of_ble_eq_true rfl)⟩) hS (fun r9 u9 H locs hq hV hS => ?_)
    obtain ⟨ad9, ct⟩ := u9
    dsimp only at hq
    obtain ⟨rfl, ha9, he, hne⟩ := hq
    have ha9 := ha9.symm
    subst ha9
    have hV : hv D N0 ad ct H := hV
    have hm1 := (hne (96) (by omega)).trans hm1
    have hm2 := (hne (112) (by omega)).trans hm2
    have hm3 := (hne (128) (by omega)).trans hm3
    have hm4 := (hne (144) (by omega)).trans hm4
    have hm5 := (hne (160) (by omega)).trans hm5
    have hm6 := (hne (176) (by omega)).trans hm6
    have hm7 := (hne (192) (by omega)).trans hm7
    have hm8 := (hne (208) (by omega)).trans hm8
    have hm9 := (hne (224) (by omega)).trans hm9
    have hm0 : ct (80) = some (eO 4 [.int (nI (1)), .int (gMi σ), .int (gFu σ), .int (nI (gNC σ)), .ref (ad (96)), .ref (ad (112)), .ref (ad (128)), .ref (ad (144)), .ref (ad (160)), .int (nI (gNS σ)), .ref (ad (176)), .ref (ad (192)), .int (nI (gNB σ)), .ref (ad (208)), .ref (ad (224))]) := he
    have hfr := fun (q : Nat) (q1 : q ≠ 1 ∧ (q % 16 ≠ 0 ∨ q < 80)) => (hne q (by omega)).trans (hfr q q1)
    refine hN_if_eq (tgt := 25) hx hb (by omega) dX4_lay_18 (by decide) (fun c18 => ?_) (fun c18 => by exact absurd c18 (by omega))
    refine lv_iconst (v := nI 0) hx hb dX4_lay_25 (by decide) ?_
    have hkn : (k_lay σ y0q y1q y2q y3q y4q) = 1 := by simp [k_lay, c10]
    rw [hQz]
    exact hv_zret (v := nI (0)) (u := (ad, ct)) hx hb hr (by decide +kernel) ⟨fun h9 => absurd (hkn.symm.trans h9) (by decide), fun _ => by rw [hkn]; exact ⟨f1, f2, f3, f4, f5, f6, f7, f8, f9, ⟨hm0, hm1, hm2, hm3, hm4, hm5, hm6, hm7, hm8, hm9⟩, hme⟩, fun q q1 => ⟨(hfa q q1).trans (by rw [had0]), fun q2 => (hfr q ⟨q1, q2⟩).trans (by rw [hct0])⟩⟩ hV hS dX4_lay_26 hlocks
