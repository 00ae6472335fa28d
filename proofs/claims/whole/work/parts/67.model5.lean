set_option maxHeartbeats 4000000 in
set_option maxRecDepth 100000 in
theorem c_X4_mends (l : Launch) (D : hG) (N0 : Nat) (ad : Nat → Nat) (ct : hC) {σ : gS} {th : Nat} (hM : gM D σ th ad ct) (hO : okS σ) (y0q : Int32) : Met l yX4_mends wsX4_mends ({ frames := 5, cells := 0, slots := 0, locals := 116 }) (hPc D N0 ad ct [.ref (ad (80)), .int (y0q)]) (va_Qi (fun (z : Int32) (u : hU) => ((k_mends σ y0q) = 0 → z = r_mends σ y0q.toInt.toNat) ∧ gM D σ (k_mends σ y0q) u.1 u.2 ∧ hFm ad ct u) (hB D N0) (hA N0)) 0 0 (hA N0) := by
  refine Met.ofW (cc := cX4_mends) (maxL := 6) (ret := (some .int)) (by decide) rfl ?_
  intro p e s m args below meth c s₁ B hml hv0
  obtain ⟨hargs, hKs, hV⟩ := hv0
  have hx := B.exec
  have hb := B.bytes
  have hr := B.returns
  have hts := atoms_spec (ws := wsX4_mends) B.pre
  have hown : s.vm.findClass RX4 = some m.cls := findClass_of_methodNamed B.named
  have hlocks := B.notSynchronized
  have hS : va_S (hA N0) s.heap s.heap [] := va_S.rf
  have hiX4 : ∀ w ∈ u_ws RX4 TX4 15, w ∈ wsX4_mends := by decide +kernel
  have lk41 := hts (.fieldLink RX4 41 "CaneSlicesModel" "thrown" "I") (by decide +kernel)
  have lk54 := hts (.fieldLink RX4 54 "CaneSlicesModel" "beads" "I") (by decide +kernel)
  have lk51 := hts (.fieldLink RX4 51 "CaneSlicesModel" "slices" "I") (by decide +kernel)
  have lk32 := hts (.fieldLink RX4 32 "CaneSlicesModel" "place" "[I") (by decide +kernel)
  have lk35 := hts (.fieldLink RX4 35 "CaneSlicesModel" "eye" "[I") (by decide +kernel)
  have lk71 := hts (.methodLink RX4 71 Lib.Math.min.name) (by decide +kernel)
  have hl := lv_entry ([.ref (ad (80)), .int (y0q)]) (n := 6) (Nat.le_of_ble_eq_true rfl)
  have hE : entryFrame m args 6 = entryFrame m ([.ref (ad (80)), .int (y0q)] : List Value).toArray 6 := by rw [hargs]
  rw [hE, lg_entry_eq]
  generalize (lg_sl ([.ref (ad (80)), .int (y0q)]) ++ List.replicate (6 - (lg_sl ([.ref (ad (80)), .int (y0q)])).length) Slot.unset).toArray = ls at hl ⊢
  have hl : lv_has ls 6 [(0, .ref (ad (80))), (1, .int (y0q))] := hl
  obtain ⟨Qz, hQz⟩ : ∃ z : State → Prop, z = (MQ below (va_Qi (fun (z : Int32) (u : hU) => ((k_mends σ y0q) = 0 → z = r_mends σ y0q.toInt.toNat) ∧ gM D σ (k_mends σ y0q) u.1 u.2 ∧ hFm ad ct u) (hB D N0) (hA N0)) args s 0 0 (hA N0)) := ⟨_, rfl⟩
  rw [← hQz]
  obtain ⟨hn8, hn60, hn6, -⟩ := id hO
  obtain ⟨f1, f2, f3, f4, f5, f6, f7, f8, f9, ⟨hm0, hm1, hm2, hm3, hm4, hm5, hm6, hm7, hm8, hm9⟩, hme⟩ := id hM
  obtain ⟨em1, em2, em3, em4, em5, em6, em7, em8, em9⟩ := id hme
  obtain ⟨ad0, had0⟩ : ∃ z, z = ad := ⟨ad, rfl⟩
  obtain ⟨ct0, hct0⟩ : ∃ z, z = ct := ⟨ct, rfl⟩
  have hfr : ∀ q : Nat, (q ≠ 1 ∧ (q % 16 ≠ 0 ∨ q < 80)) → ct q = ct0 q := fun q _ => by rw [hct0]
  have hfa : ∀ q : Nat, q ≠ 1 → ad q = ad0 q := fun q _ => by rw [had0]
  refine lv_aload_n hx hb dX4_mends_0 rfl (lv_at hl 0 rfl) ?_
  refine lv_iconst (v := nI 0) hx hb dX4_mends_1 (by decide) ?_
  refine hv_put (ty := .int) (C := RX4) (T := TX4) (N := 15) hx hb hts hiX4 tyX4 tyX4_ok nmX4 hown hKs hV hS hm0 0 rfl (by decide) lk41 (fun _ h9 => h9) (Or.inl (by decide +kernel)) (by decide +kernel) rfl rfl (Nat.le_of_ble_eq_true rfl) dX4_mends_2 (fun ct H locs he hne hV hS => ?_)
  have hm1 := (hne (96) (by omega)).trans hm1
  have hm2 := (hne (112) (by omega)).trans hm2
  have hm3 := (hne (128) (by omega)).trans hm3
  have hm4 := (hne (144) (by omega)).trans hm4
  have hm5 := (hne (160) (by omega)).trans hm5
  have hm6 := (hne (176) (by omega)).trans hm6
  have hm7 := (hne (192) (by omega)).trans hm7
  have hm8 := (hne (208) (by omega)).trans hm8
  have hm9 := (hne (224) (by omega)).trans hm9
  have hm0 : ct (80) = some (eO 4 [.int (nI (0)), .int (gMi σ), .int (gFu σ), .int (nI (gNC σ)), .ref (ad (96)), .ref (ad (112)), .ref (ad (128)), .ref (ad (144)), .ref (ad (160)), .int (nI (gNS σ)), .ref (ad (176)), .ref (ad (192)), .int (nI (gNB σ)), .ref (ad (208)), .ref (ad (224))]) := he
  have hfr := fun (q : Nat) (q1 : q ≠ 1 ∧ (q % 16 ≠ 0 ∨ q < 80)) => (hne q (by omega)).trans (hfr q q1)
  refine lv_iload_n hx hb dX4_mends_5 rfl (lv_at hl 1 rfl) ?_
  refine lv_iconst (v := nI 0) hx hb dX4_mends_6 (by decide) ?_
  refine lv_aload_n hx hb dX4_mends_7 rfl (lv_at hl 0 rfl) ?_
  refine hv_get (C := RX4) (T := TX4) (N := 15) hx hb hts hiX4 hown hKs hV hm0 12 rfl (by decide) lk54 (fun _ h9 => h9) rfl dX4_mends_8 ?_
  refine lv_iconst (v := nI 1) hx hb dX4_mends_11 (by decide) ?_
  refine lv_isub hx hb dX4_mends_12 ?_
  refine hv_calli (va_runS (As := [.int (y0q), .int (nI (0)), .int (nI (gNB σ) - nI (1))]) (rest := []) ⟨hx, hb, hml, hown, hts⟩ (c_X4_isIn l D N0 ad ct ((y0q)) (nI (0)) ((nI (gNB σ) - nI (1)))) (va_cwS 3 hts gX4_mends_X4_isIn rfl rfl rfl (by decide +kernel) ⟨Nat.le_of_ble_eq_true rfl, Nat.le_of_ble_eq_true rfl⟩) (hv_preS hKs hV hS) rfl rfl hl.1 rfl (lv_room (Nat.le_of_ble_eq_true rfl)) dX4_mends_13 ⟨(Nat.le_of_ble_eq_true rfl), (Nat.le_of_ble_eq_true rfl)⟩) hS (fun r9 u9 H locs hq hV hS => ?_)
  obtain ⟨rfl, rfl⟩ := hq
  have hV : hv D N0 ad ct H := hV
  refine hv_eqi (y := hbv (inR ((y0q)) (gNB σ))) (congrArg hbv (inI_n (by omega))) ?_
  refine hB_if_ne (tgt := 25) hx hb dX4_mends_16 (by decide) (fun c16 => ?_) (fun c16 => ?_)
  · obtain ⟨y0qn, hy0qn, rfl⟩ := inR_of c16
    have e_y0q : (nI y0qn).toInt.toNat = y0qn := toNat_nI (by omega)
    refine lv_iconst (v := nI 5) hx hb dX4_mends_25 (by decide) ?_
    refine lv_istore_n (lv' := [(2, .int (nI (5))), (0, .ref (ad (80))), (1, .int (nI (y0qn)))]) hx hb dX4_mends_26 rfl hl (by decide) rfl (fun ls hl => ?_)
    refine lv_iconst (v := nI 0) hx hb dX4_mends_27 (by decide) ?_
    refine lv_istore_n (lv' := [(3, .int (nI (0))), (2, .int (nI (5))), (0, .ref (ad (80))), (1, .int (nI (y0qn)))]) hx hb dX4_mends_28 rfl hl (by decide) rfl (fun ls hl => ?_)
    have L29 : ∀ (n i : Nat) (m9 : Nat), i ≤ 4 → 4 < i + n → ∀ (H : Heap) (locs : List Loc), (m9 = mdm σ y0qn i) → hv D N0 ad ct H → va_S (hA N0) s.heap H locs → ∀ ls : Array Slot, lv_has ls 6 [(0, .ref (ad (80))), (1, .int (nI (y0qn))), (2, .int (nI (m9))), (3, .int (nI (i)))] → W p l e (headSpec wsX4_mends ({ frames := 5, cells := 0, slots := 0, locals := 116 })).room s m args below meth c H locs 0 0 Qz (F0 m 29 ls []) := by
      intro n
      induction n with
      | zero => intro i m9 h1 h2; exact absurd h2 (by omega)
      | succ n ih29 =>
        intro i m9 hi29 hn29 H locs hm hV hS ls hl
        have hv5 : m9 ≤ 5 := by rw [hm]; exact mdm_le
        refine lv_iload_n hx hb dX4_mends_29 rfl (lv_at hl 3 rfl) ?_
        refine lv_iconst (v := nI 4) hx hb dX4_mends_30 (by decide) ?_
        refine hN_icmp_ge (tgt := 86) hx hb (by omega) (by omega) dX4_mends_31 (by decide) (fun c31 => ?_) (fun c31 => ?_)
        · refine lv_iconst (v := nI 0) hx hb dX4_mends_86 (by decide) ?_
          refine lv_istore_n (lv' := [(3, .int (nI (0))), (0, .ref (ad (80))), (1, .int (nI (y0qn))), (2, .int (nI (m9)))]) hx hb dX4_mends_87 rfl hl (by decide) rfl (fun ls hl => ?_)
          have L88 : ∀ (n j : Nat) (m2 : Nat), j ≤ gNS σ → gNS σ < j + n → ∀ (H : Heap) (locs : List Loc), (m2 = min (exN σ j) (mdm σ y0qn 4)) → hv D N0 ad ct H → va_S (hA N0) s.heap H locs → ∀ ls : Array Slot, lv_has ls 6 [(0, .ref (ad (80))), (1, .int (nI (y0qn))), (2, .int (nI (m2))), (3, .int (nI (j)))] → W p l e (headSpec wsX4_mends ({ frames := 5, cells := 0, slots := 0, locals := 116 })).room s m args below meth c H locs 0 0 Qz (F0 m 88 ls []) := by
            intro n
            induction n with
            | zero => intro j m2 h1 h2; exact absurd h2 (by omega)
            | succ n ih88 =>
              intro j m2 hi88 hn88 H locs hmB hV hS ls hl
              have hx9 := exN_le (σ := σ) (n := j)
              have hd9 := mdm_le (σ := σ) (b := y0qn) (n := 4)
              have hv5 : m2 ≤ 5 := by omega
              refine lv_iload_n hx hb dX4_mends_88 rfl (lv_at hl 3 rfl) ?_
              refine lv_aload_n hx hb dX4_mends_89 rfl (lv_at hl 0 rfl) ?_
              refine hv_get (C := RX4) (T := TX4) (N := 15) hx hb hts hiX4 hown hKs hV hm0 9 rfl (by decide) lk51 (fun _ h9 => h9) rfl dX4_mends_90 ?_
              refine hN_icmp_ge (tgt := 128) hx hb (by omega) (by omega) dX4_mends_93 (by decide) (fun c93 => ?_) (fun c93 => ?_)
              · have hmn := mnd_mdm hO (b := y0qn) (n := 4)
                have hmo := exN_mono (σ := σ) (n := j) (m := gNS σ) (by omega)
                have hx2 := exN_le (σ := σ) (n := gNS σ)
                have hje : exN σ j = exN σ (gNS σ) := by rw [show j = gNS σ by omega]
                refine lv_iload_n hx hb dX4_mends_128 rfl (lv_at hl 2 rfl) ?_
                refine lv_iconst (v := nI 4) hx hb dX4_mends_129 (by decide) ?_
                refine hN_icmp_le (tgt := 137) hx hb (by omega) (by omega) dX4_mends_130 (by decide) (fun c130 => ?_) (fun c130 => ?_)
                · refine lv_iload_n hx hb dX4_mends_137 rfl (lv_at hl 2 rfl) ?_
                  have hkn : (k_mends σ (nI y0qn)) = 0 := by simp [k_mends, c16]
                  rw [hQz]
                  exact hv_iret (v := nI (m2)) (u := (ad, ct)) hx hb hr ⟨fun _ => by rw [e_y0q]; unfold r_mends; rw [if_neg (by omega), show mnd σ y0qn 4 = m2 by omega], by rw [hkn]; exact ⟨f1, f2, f3, f4, f5, f6, f7, f8, f9, ⟨hm0, hm1, hm2, hm3, hm4, hm5, hm6, hm7, hm8, hm9⟩, hme⟩, fun q q1 => ⟨(hfa q q1).trans (by rw [had0]), fun q2 => (hfr q ⟨q1, q2⟩).trans (by rw [hct0])⟩⟩ hV hS dX4_mends_138 hlocks
                · refine lv_iconst (v := (-1)) hx hb dX4_mends_133 (by decide) ?_
                  refine lv_goto (tgt := 138) hx hb dX4_mends_134 (by decide) ?_
                  have hkn : (k_mends σ (nI y0qn)) = 0 := by simp [k_mends, c16]
                  rw [hQz]
                  exact hv_iret (v := ((-1))) (u := (ad, ct)) hx hb hr ⟨fun _ => by rw [e_y0q]; unfold r_mends; rw [if_pos (by omega)], by rw [hkn]; exact ⟨f1, f2, f3, f4, f5, f6, f7, f8, f9, ⟨hm0, hm1, hm2, hm3, hm4, hm5, hm6, hm7, hm8, hm9⟩, hme⟩, fun q q1 => ⟨(hfa q q1).trans (by rw [had0]), fun q2 => (hfr q ⟨q1, q2⟩).trans (by rw [hct0])⟩⟩ hV hS dX4_mends_138 hlocks
              · refine lv_iload_n hx hb dX4_mends_96 rfl (lv_at hl 2 rfl) ?_
                refine lv_iconst (v := nI 4) hx hb dX4_mends_97 (by decide) ?_
                refine hN_icmp_le (tgt := 128) hx hb (by omega) (by omega) dX4_mends_98 (by decide) (fun c98 => ?_) (fun c98 => ?_)
                · have hmn := mnd_mdm hO (b := y0qn) (n := 4)
                  have hmo := exN_mono (σ := σ) (n := j) (m := gNS σ) (by omega)
                  have hx2 := exN_le (σ := σ) (n := gNS σ)
                  refine lv_iload_n hx hb dX4_mends_128 rfl (lv_at hl 2 rfl) ?_
                  refine lv_iconst (v := nI 4) hx hb dX4_mends_129 (by decide) ?_
                  refine hN_icmp_le (tgt := 137) hx hb (by omega) (by omega) dX4_mends_130 (by decide) (fun c130 => ?_) (fun c130 => by omega)
                  refine lv_iload_n hx hb dX4_mends_137 rfl (lv_at hl 2 rfl) ?_
                  have hkn : (k_mends σ (nI y0qn)) = 0 := by simp [k_mends, c16]
                  rw [hQz]
                  exact hv_iret (v := nI (m2)) (u := (ad, ct)) hx hb hr ⟨fun _ => by rw [e_y0q]; unfold r_mends; rw [if_neg (by omega), show mnd σ y0qn 4 = m2 by omega], by rw [hkn]; exact ⟨f1, f2, f3, f4, f5, f6, f7, f8, f9, ⟨hm0, hm1, hm2, hm3, hm4, hm5, hm6, hm7, hm8, hm9⟩, hme⟩, fun q q1 => ⟨(hfa q q1).trans (by rw [had0]), fun q2 => (hfr q ⟨q1, q2⟩).trans (by rw [hct0])⟩⟩ hV hS dX4_mends_138 hlocks
                · refine lv_aload_n hx hb dX4_mends_101 rfl (lv_at hl 0 rfl) ?_
                  refine hv_get (C := RX4) (T := TX4) (N := 15) hx hb hts hiX4 hown hKs hV hm0 11 rfl (by decide) lk32 (fun _ h9 => h9) rfl dX4_mends_102 ?_
                  refine lv_iload_n hx hb dX4_mends_105 rfl (lv_at hl 3 rfl) ?_
                  refine hv_iald hx hb hKs hV hm7 (by omega) (by decide) dX4_mends_106 ?_
                  refine hv_eqi (em7 (j) (by omega)) ?_
                  refine lv_iconst (v := (-1)) hx hb dX4_mends_107 (by decide) ?_
                  refine hI_icmp_ne (tgt := 122) hx hb dX4_mends_108 (by decide) (fun c108 => ?_) (fun c108 => ?_)
                  · refine lv_iinc (v := nI (j + 1)) (lv' := [(3, .int (nI (j + 1))), (0, .ref (ad (80))), (1, .int (nI (y0qn))), (2, .int (nI (m2)))]) hx hb dX4_mends_122 hl (k := 3) rfl (nI_add (j) 1) (by decide) rfl (fun ls hl => ?_)
                    refine lv_goto (tgt := 88) hx hb dX4_mends_125 (by decide) ?_
                    exact ih88 (j + 1) (m2) (by omega) (by omega) _ _ (by rw [exN_0 (fun q => c108 q.1)]; exact hmB) hV hS ls (lv_sub hl [1, 2, 3, 0] rfl)
                  · refine lv_aload_n hx hb dX4_mends_111 rfl (lv_at hl 0 rfl) ?_
                    refine lv_iload_n hx hb dX4_mends_112 rfl (lv_at hl 3 rfl) ?_
                    refine hv_calli (va_runV (As := [.int (nI (j))]) (rest := []) ⟨hx, hb, hml, hown, hts⟩ (c_X4_free l D N0 ad ct (show gM D σ _ ad ct from ⟨f1, f2, f3, f4, f5, f6, f7, f8, f9, ⟨hm0, hm1, hm2, hm3, hm4, hm5, hm6, hm7, hm8, hm9⟩, hme⟩) hO (j) (by omega)) (cwV 1 hts gX4_mends_X4_free rfl rfl rfl (by decide +kernel) ⟨Nat.le_of_ble_eq_true rfl, Nat.le_of_ble_eq_true rfl⟩) (hv_preV (r := (RX4, TX4, 15)) hKs hV hS hm0 rfl) rfl rfl hl.1 rfl (lv_room (Nat.le_of_ble_eq_true rfl)) dX4_mends_113 ⟨(Nat.le_of_ble_eq_true rfl), (Nat.le_of_ble_eq_true rfl)⟩) hS (fun r9 u9 H locs hq hV hS => ?_)
                    obtain ⟨rfl, rfl⟩ := hq
                    have hV : hv D N0 ad ct H := hV
                    have hf1 := nsm_le (f := fm σ (j)) (c := 1) (n := gNS σ) (fun _ _ => by unfold fm; split <;> omega)
                    refine lv_iconst (v := nI 4) hx hb dX4_mends_116 (by decide) ?_
                    refine hN_icmp_lt (tgt := 122) hx hb (by omega) (by omega) dX4_mends_117 (by decide) (fun c117 => ?_) (fun c117 => ?_)
                    · refine lv_iinc (v := nI (j + 1)) (lv' := [(3, .int (nI (j + 1))), (0, .ref (ad (80))), (1, .int (nI (y0qn))), (2, .int (nI (m2)))]) hx hb dX4_mends_122 hl (k := 3) rfl (nI_add (j) 1) (by decide) rfl (fun ls hl => ?_)
                      refine lv_goto (tgt := 88) hx hb dX4_mends_125 (by decide) ?_
                      exact ih88 (j + 1) (m2) (by omega) (by omega) _ _ (by rw [exN_0 (fun q => absurd q.2 (by omega))]; exact hmB) hV hS ls (lv_sub hl [1, 2, 3, 0] rfl)
                    · refine lv_iconst (v := nI 4) hx hb dX4_mends_120 (by decide) ?_
                      refine lv_istore_n (lv' := [(2, .int (nI (4))), (0, .ref (ad (80))), (1, .int (nI (y0qn))), (3, .int (nI (j)))]) hx hb dX4_mends_121 rfl hl (by decide) rfl (fun ls hl => ?_)
                      refine lv_iinc (v := nI (j + 1)) (lv' := [(3, .int (nI (j + 1))), (2, .int (nI (4))), (0, .ref (ad (80))), (1, .int (nI (y0qn)))]) hx hb dX4_mends_122 hl (k := 3) rfl (nI_add (j) 1) (by decide) rfl (fun ls hl => ?_)
                      refine lv_goto (tgt := 88) hx hb dX4_mends_125 (by decide) ?_
                      exact ih88 (j + 1) (4) (by omega) (by omega) _ _ (by rw [exN_1 c108 (by omega)]; omega) hV hS ls (lv_sub hl [2, 3, 1, 0] rfl)
          exact L88 (gNS σ + 1) (0) (m9) (by omega) (by omega) _ _ (by rw [hm, show i = 4 by omega, show exN σ 0 = 5 from rfl]; exact (Nat.min_eq_right mdm_le).symm) hV hS ls (lv_sub hl [1, 2, 3, 0] rfl)
        · refine lv_aload_n hx hb dX4_mends_34 rfl (lv_at hl 0 rfl) ?_
          refine hv_get (C := RX4) (T := TX4) (N := 15) hx hb hts hiX4 hown hKs hV hm0 13 rfl (by decide) lk35 (fun _ h9 => h9) rfl dX4_mends_35 ?_
          refine lv_iconst (v := nI 4) hx hb dX4_mends_38 (by decide) ?_
          refine lv_iload_n hx hb dX4_mends_39 rfl (lv_at hl 1 rfl) ?_
          refine hN_imul hx hb dX4_mends_40 ?_
          refine lv_iload_n hx hb dX4_mends_41 rfl (lv_at hl 3 rfl) ?_
          refine hN_iadd hx hb dX4_mends_42 ?_
          refine hv_iald hx hb hKs hV hm8 (by omega) (by decide) dX4_mends_43 ?_
          rcases hq43 : gEy σ ((4) * (y0qn) + i) with _ | ⟨s43, t43⟩
          · refine hv_eqi ((em8 ((4) * (y0qn) + i) (by omega)).trans (esl_0 hq43)) ?_
            refine lv_istore (lv' := [(4, .int ((-1))), (0, .ref (ad (80))), (1, .int (nI (y0qn))), (2, .int (nI (m9))), (3, .int (nI (i)))]) hx hb dX4_mends_44 hl (by decide) rfl (fun ls hl => ?_)
            refine lv_iconst (v := nI 4) hx hb dX4_mends_46 (by decide) ?_
            refine lv_aload_n hx hb dX4_mends_47 rfl (lv_at hl 1 rfl) ?_
            refine lv_iload_n hx hb dX4_mends_48 rfl (lv_at hl 2 rfl) ?_
            refine lv_iload_n hx hb dX4_mends_49 rfl (lv_at hl 4 rfl) ?_
            refine hv_calli (va_runV (As := [.int (nI (y0qn)), .int (nI (i))]) (rest := [.int (nI (4))]) ⟨hx, hb, hml, hown, hts⟩ (c_X4_twins l D N0 ad ct (show gM D σ _ ad ct from ⟨f1, f2, f3, f4, f5, f6, f7, f8, f9, ⟨hm0, hm1, hm2, hm3, hm4, hm5, hm6, hm7, hm8, hm9⟩, hme⟩) hO (y0qn) (i) (by omega) (by omega)) (cwV 2 hts gX4_mends_X4_twins rfl rfl rfl (by decide +kernel) ⟨Nat.le_of_ble_eq_true rfl, Nat.le_of_ble_eq_true rfl⟩) (hv_preV (r := (RX4, TX4, 15)) hKs hV hS hm0 rfl) rfl rfl hl.1 rfl (lv_room (Nat.le_of_ble_eq_true rfl)) dX4_mends_50 ⟨(Nat.le_of_ble_eq_true rfl), (Nat.le_of_ble_eq_true rfl)⟩) hS (fun r9 u9 H locs hq hV hS => ?_)
            obtain ⟨rfl, rfl⟩ := hq
            have hV : hv D N0 ad ct H := hV
            have hf2 : nsm (tw σ (4 * (y0qn) + i) (4 * (y0qn))) 4 ≤ 4 := nsm_le (f := tw σ (4 * (y0qn) + i) (4 * (y0qn))) (c := 1) (n := 4) (fun _ _ => by unfold tw; split <;> omega)
            refine hN_isub hx hb (by omega) dX4_mends_53 ?_
            refine lv_istore (lv' := [(5, .int (nI (4 - (nsm (tw σ (4 * (y0qn) + i) (4 * (y0qn))) 4)))), (4, .int ((-1))), (0, .ref (ad (80))), (1, .int (nI (y0qn))), (2, .int (nI (m9))), (3, .int (nI (i)))]) hx hb dX4_mends_54 hl (by decide) rfl (fun ls hl => ?_)
            refine lv_iload hx hb dX4_mends_56 (lv_at hl 1 rfl) ?_
            refine lv_iconst (v := (-1)) hx hb dX4_mends_58 (by decide) ?_
            refine hI_icmp_eq (tgt := 80) hx hb dX4_mends_59 (by decide) (fun c59 => ?_) (fun c59 => by exact absurd rfl c59)
            refine lv_iinc (v := nI (i + 1)) (lv' := [(3, .int (nI (i + 1))), (5, .int (nI (4 - (nsm (tw σ (4 * (y0qn) + i) (4 * (y0qn))) 4)))), (4, .int ((-1))), (0, .ref (ad (80))), (1, .int (nI (y0qn))), (2, .int (nI (m9)))]) hx hb dX4_mends_80 hl (k := 5) rfl (nI_add (i) 1) (by decide) rfl (fun ls hl => ?_)
            refine lv_goto (tgt := 29) hx hb dX4_mends_83 (by decide) ?_
            exact ih29 (i + 1) (m9) (by omega) (by omega) _ _ (by rw [mdm_0 hq43, hm]) hV hS ls (lv_sub hl [3, 4, 5, 0] rfl)
          · obtain ⟨he43, hs43, ht43, hy43⟩ := hO.2.2.2.2.2.1 _ _ _ hq43
            refine hv_eqi ((em8 ((4) * (y0qn) + i) (by omega)).trans (esl_1 hq43)) ?_
            refine lv_istore (lv' := [(4, .int (nI (s43))), (0, .ref (ad (80))), (1, .int (nI (y0qn))), (2, .int (nI (m9))), (3, .int (nI (i)))]) hx hb dX4_mends_44 hl (by decide) rfl (fun ls hl => ?_)
            refine lv_iconst (v := nI 4) hx hb dX4_mends_46 (by decide) ?_
            refine lv_aload_n hx hb dX4_mends_47 rfl (lv_at hl 1 rfl) ?_
            refine lv_iload_n hx hb dX4_mends_48 rfl (lv_at hl 2 rfl) ?_
            refine lv_iload_n hx hb dX4_mends_49 rfl (lv_at hl 4 rfl) ?_
            refine hv_calli (va_runV (As := [.int (nI (y0qn)), .int (nI (i))]) (rest := [.int (nI (4))]) ⟨hx, hb, hml, hown, hts⟩ (c_X4_twins l D N0 ad ct (show gM D σ _ ad ct from ⟨f1, f2, f3, f4, f5, f6, f7, f8, f9, ⟨hm0, hm1, hm2, hm3, hm4, hm5, hm6, hm7, hm8, hm9⟩, hme⟩) hO (y0qn) (i) (by omega) (by omega)) (cwV 2 hts gX4_mends_X4_twins rfl rfl rfl (by decide +kernel) ⟨Nat.le_of_ble_eq_true rfl, Nat.le_of_ble_eq_true rfl⟩) (hv_preV (r := (RX4, TX4, 15)) hKs hV hS hm0 rfl) rfl rfl hl.1 rfl (lv_room (Nat.le_of_ble_eq_true rfl)) dX4_mends_50 ⟨(Nat.le_of_ble_eq_true rfl), (Nat.le_of_ble_eq_true rfl)⟩) hS (fun r9 u9 H locs hq hV hS => ?_)
            obtain ⟨rfl, rfl⟩ := hq
            have hV : hv D N0 ad ct H := hV
            have hf3 : nsm (tw σ (4 * (y0qn) + i) (4 * (y0qn))) 4 ≤ 4 := nsm_le (f := tw σ (4 * (y0qn) + i) (4 * (y0qn))) (c := 1) (n := 4) (fun _ _ => by unfold tw; split <;> omega)
            refine hN_isub hx hb (by omega) dX4_mends_53 ?_
            refine lv_istore (lv' := [(5, .int (nI (4 - (nsm (tw σ (4 * (y0qn) + i) (4 * (y0qn))) 4)))), (4, .int (nI (s43))), (0, .ref (ad (80))), (1, .int (nI (y0qn))), (2, .int (nI (m9))), (3, .int (nI (i)))]) hx hb dX4_mends_54 hl (by decide) rfl (fun ls hl => ?_)
            refine lv_iload hx hb dX4_mends_56 (lv_at hl 1 rfl) ?_
            refine lv_iconst (v := (-1)) hx hb dX4_mends_58 (by decide) ?_
            refine hL_icmp_eq (tgt := 80) hx hb (by omega) dX4_mends_59 (by decide) (fun c59 => by exact absurd c59 (by rw [h_m1]; omega)) (fun c59 => ?_)
            refine lv_aload_n hx hb dX4_mends_62 rfl (lv_at hl 2 rfl) ?_
            refine lv_iload hx hb dX4_mends_63 (lv_at hl 1 rfl) ?_
            refine hv_calli (va_runV (As := [.int (nI (s43))]) (rest := []) ⟨hx, hb, hml, hown, hts⟩ (c_X4_free l D N0 ad ct (show gM D σ _ ad ct from ⟨f1, f2, f3, f4, f5, f6, f7, f8, f9, ⟨hm0, hm1, hm2, hm3, hm4, hm5, hm6, hm7, hm8, hm9⟩, hme⟩) hO (s43) (by omega)) (cwV 1 hts gX4_mends_X4_free rfl rfl rfl (by decide +kernel) ⟨Nat.le_of_ble_eq_true rfl, Nat.le_of_ble_eq_true rfl⟩) (hv_preV (r := (RX4, TX4, 15)) hKs hV hS hm0 rfl) rfl rfl hl.1 rfl (lv_room (Nat.le_of_ble_eq_true rfl)) dX4_mends_65 ⟨(Nat.le_of_ble_eq_true rfl), (Nat.le_of_ble_eq_true rfl)⟩) hS (fun r9 u9 H locs hq hV hS => ?_)
            obtain ⟨rfl, rfl⟩ := hq
            have hV : hv D N0 ad ct H := hV
            have hf4 := nsm_le (f := fm σ (s43)) (c := 1) (n := gNS σ) (fun _ _ => by unfold fm; split <;> omega)
            refine lv_iload hx hb dX4_mends_68 (lv_at hl 0 rfl) ?_
            refine hN_icmp_lt (tgt := 80) hx hb (by omega) (by omega) dX4_mends_70 (by decide) (fun c70 => ?_) (fun c70 => ?_)
            · refine lv_iinc (v := nI (i + 1)) (lv' := [(3, .int (nI (i + 1))), (5, .int (nI (4 - (nsm (tw σ (4 * (y0qn) + i) (4 * (y0qn))) 4)))), (4, .int (nI (s43))), (0, .ref (ad (80))), (1, .int (nI (y0qn))), (2, .int (nI (m9)))]) hx hb dX4_mends_80 hl (k := 5) rfl (nI_add (i) 1) (by decide) rfl (fun ls hl => ?_)
              refine lv_goto (tgt := 29) hx hb dX4_mends_83 (by decide) ?_
              exact ih29 (i + 1) (m9) (by omega) (by omega) _ _ (by rw [mdm_2 hq43 (by omega), hm]) hV hS ls (lv_sub hl [3, 4, 5, 0] rfl)
            · refine lv_iload_n hx hb dX4_mends_73 rfl (lv_at hl 4 rfl) ?_
              refine lv_iload hx hb dX4_mends_74 (lv_at hl 0 rfl) ?_
              refine va_mmin hx hb (hml.trans hl.1.symm) hown lk71 (hts (.static Lib.Math.min.name) (by decide +kernel)) (hts (.initialized "java/lang/Math") (by decide +kernel)) (hts (.code Lib.Math.min.name Lib.Math.min.code 2 (some .int)) (by decide +kernel)) (Nat.le_of_ble_eq_true rfl) (Nat.le_of_ble_eq_true rfl) (Nat.le_of_ble_eq_true rfl) (Nat.le_of_ble_eq_true rfl) dX4_mends_76 ?_
              refine hv_eqi (hN_min (by omega) (by omega)) ?_
              refine lv_istore_n (lv' := [(2, .int (nI (min (m9) (4 - (nsm (tw σ (4 * (y0qn) + i) (4 * (y0qn))) 4))))), (5, .int (nI (4 - (nsm (tw σ (4 * (y0qn) + i) (4 * (y0qn))) 4)))), (4, .int (nI (s43))), (0, .ref (ad (80))), (1, .int (nI (y0qn))), (3, .int (nI (i)))]) hx hb dX4_mends_79 rfl hl (by decide) rfl (fun ls hl => ?_)
              refine lv_iinc (v := nI (i + 1)) (lv' := [(3, .int (nI (i + 1))), (2, .int (nI (min (m9) (4 - (nsm (tw σ (4 * (y0qn) + i) (4 * (y0qn))) 4))))), (5, .int (nI (4 - (nsm (tw σ (4 * (y0qn) + i) (4 * (y0qn))) 4)))), (4, .int (nI (s43))), (0, .ref (ad (80))), (1, .int (nI (y0qn)))]) hx hb dX4_mends_80 hl (k := 5) rfl (nI_add (i) 1) (by decide) rfl (fun ls hl => ?_)
              refine lv_goto (tgt := 29) hx hb dX4_mends_83 (by decide) ?_
              exact ih29 (i + 1) (min (m9) (4 - (nsm (tw σ (4 * (y0qn) + i) (4 * (y0qn))) 4))) (by omega) (by omega) _ _ (by rw [mdm_1 hq43 c70, hm]) hV hS ls (lv_sub hl [4, 5, 1, 0] rfl)
    exact L29 (4 + 1) (0) (5) (by omega) (by omega) _ _ (rfl) hV hS ls (lv_sub hl [2, 3, 1, 0] rfl)
  · refine lv_aload_n hx hb dX4_mends_19 rfl (lv_at hl 0 rfl) ?_
    refine lv_iconst (v := nI 1) hx hb dX4_mends_20 (by decide) ?_
    refine hv_calli (va_runV (As := [.int (nI (1))]) (rest := []) ⟨hx, hb, hml, hown, hts⟩ (c_X4_no l D N0 ad ct hm0 (1)) (cwV 1 hts gX4_mends_X4_no rfl rfl rfl (by decide +kernel) ⟨Nat.le_of_ble_eq_true rfl, Nat.le_of_ble_eq_true rfl⟩) (hv_preV (r := (RX4, TX4, 15)) hKs hV hS hm0 rfl) rfl rfl hl.1 rfl (lv_room (Nat.le_of_ble_eq_true rfl)) dX4_mends_21 ⟨(Nat.le_of_ble_eq_true rfl), (Nat.le_of_ble_eq_true rfl)⟩) hS (fun r9 u9 H locs hq hV hS => ?_)
    obtain ⟨ad9, ct⟩ := u9
    dsimp only at hq
    obtain ⟨rfl, ha9, he, hne⟩ := hq
    have ha9 := ha9.symm
    subst ha9
    have hV : hv D N0 ad ct H := hV
    have hm1 := (hne (96) (by omega)).trans hm1
    have hm2 := (hne (112) (by omega)).trans hm2
    have hm3 := (hne (128) (by omega)).trans hm3
    have hm4 := (hne (144) (by omega)).trans hm4
    have hm5 := (hne (160) (by omega)).trans hm5
    have hm6 := (hne (176) (by omega)).trans hm6
    have hm7 := (hne (192) (by omega)).trans hm7
    have hm8 := (hne (208) (by omega)).trans hm8
    have hm9 := (hne (224) (by omega)).trans hm9
    have hm0 : ct (80) = some (eO 4 [.int (nI (1)), .int (gMi σ), .int (gFu σ), .int (nI (gNC σ)), .ref (ad (96)), .ref (ad (112)), .ref (ad (128)), .ref (ad (144)), .ref (ad (160)), .int (nI (gNS σ)), .ref (ad (176)), .ref (ad (192)), .int (nI (gNB σ)), .ref (ad (208)), .ref (ad (224))]) := he
    have hfr := fun (q : Nat) (q1 : q ≠ 1 ∧ (q % 16 ≠ 0 ∨ q < 80)) => (hne q (by omega)).trans (hfr q q1)
    have hkn : (k_mends σ y0q) = 1 := by simp [k_mends, c16]
    rw [hQz]
    exact hv_iret (v := nI (0)) (u := (ad, ct)) hx hb hr ⟨fun h9 => absurd (hkn.symm.trans h9) (by decide), by rw [hkn]; exact ⟨f1, f2, f3, f4, f5, f6, f7, f8, f9, ⟨hm0, hm1, hm2, hm3, hm4, hm5, hm6, hm7, hm8, hm9⟩, hme⟩, fun q q1 => ⟨(hfa q q1).trans (by rw [had0]), fun q2 => (hfr q ⟨q1, q2⟩).trans (by rw [hct0])⟩⟩ hV hS dX4_mends_24 hlocks

set_option maxHeartbeats 4000000 in
set_option maxRecDepth 100000 in
theorem c_X4_digest (l : Launch) (D : hG) (N0 : Nat) (ad : Nat → Nat) (ct : hC) {σ : gS} {th : Nat} (hM : gM D σ th ad ct) (hO : okS σ) : Met l yX4_digest wsX4_digest ({ frames := 6, cells := 48, slots := 264, locals := 142 }) (hPc D N0 ad ct [.ref (ad (80))]) (va_Ql (fun (z : Int64) (u : hU) => z = dgt σ ∧ gM D σ 0 u.1 u.2 ∧ hFm ad ct u) (hB D N0) (hA N0)) 48 264 (hA N0) := by
  refine Met.ofW (cc := cX4_digest) (maxL := 5) (ret := (some .long)) (by decide) rfl ?_
  intro p e s m args below meth c s₁ B hml hv0
  obtain ⟨hargs, hKs, hV⟩ := hv0
  have hx := B.exec
  have hb := B.bytes
  have hr := B.returns
  have hts := atoms_spec (ws := wsX4_digest) B.pre
  have hown : s.vm.findClass RX4 = some m.cls := findClass_of_methodNamed B.named
  have hlocks := B.notSynchronized
  have hS : va_S (hA N0) s.heap s.heap [] := va_S.rf
  have hiX4 : ∀ w ∈ u_ws RX4 TX4 15, w ∈ wsX4_digest := by decide +kernel
  have lk41 := hts (.fieldLink RX4 41 "CaneSlicesModel" "thrown" "I") (by decide +kernel)
  have lk134 := hts (.constantLong RX4 134 (991)) (by decide +kernel)
  have lk44 := hts (.fieldLink RX4 44 "CaneSlicesModel" "canes" "I") (by decide +kernel)
  have lk51 := hts (.fieldLink RX4 51 "CaneSlicesModel" "slices" "I") (by decide +kernel)
  have lk54 := hts (.fieldLink RX4 54 "CaneSlicesModel" "beads" "I") (by decide +kernel)
  have lk132 := hts (.constantLong RX4 132 (31)) (by decide +kernel)
  have lk35 := hts (.fieldLink RX4 35 "CaneSlicesModel" "eye" "[I") (by decide +kernel)
  have lk38 := hts (.fieldLink RX4 38 "CaneSlicesModel" "turned" "[I") (by decide +kernel)
  have lk29 := hts (.fieldLink RX4 29 "CaneSlicesModel" "look" "[I") (by decide +kernel)
  have lk32 := hts (.fieldLink RX4 32 "CaneSlicesModel" "place" "[I") (by decide +kernel)
  have lk26 := hts (.fieldLink RX4 26 "CaneSlicesModel" "pattern" "[I") (by decide +kernel)
  have hl := lv_entry ([.ref (ad (80))]) (n := 5) (Nat.le_of_ble_eq_true rfl)
  have hE : entryFrame m args 5 = entryFrame m ([.ref (ad (80))] : List Value).toArray 5 := by rw [hargs]
  rw [hE, lg_entry_eq]
  generalize (lg_sl ([.ref (ad (80))]) ++ List.replicate (5 - (lg_sl ([.ref (ad (80))])).length) Slot.unset).toArray = ls at hl ⊢
  have hl : lv_has ls 5 [(0, .ref (ad (80)))] := hl
  obtain ⟨Qz, hQz⟩ : ∃ z : State → Prop, z = (MQ below (va_Ql (fun (z : Int64) (u : hU) => z = dgt σ ∧ gM D σ 0 u.1 u.2 ∧ hFm ad ct u) (hB D N0) (hA N0)) args s 48 264 (hA N0)) := ⟨_, rfl⟩
  rw [← hQz]
  obtain ⟨hn8, hn60, hn6, -⟩ := id hO
  obtain ⟨f1, f2, f3, f4, f5, f6, f7, f8, f9, ⟨hm0, hm1, hm2, hm3, hm4, hm5, hm6, hm7, hm8, hm9⟩, hme⟩ := id hM
  obtain ⟨em1, em2, em3, em4, em5, em6, em7, em8, em9⟩ := id hme
  obtain ⟨ad0, had0⟩ : ∃ z, z = ad := ⟨ad, rfl⟩
  obtain ⟨ct0, hct0⟩ : ∃ z, z = ct := ⟨ct, rfl⟩
  have hfr : ∀ q : Nat, (q ≠ 1 ∧ (q % 16 ≠ 0 ∨ q < 80)) → ct q = ct0 q := fun q _ => by rw [hct0]
  have hfa : ∀ q : Nat, q ≠ 1 → ad q = ad0 q := fun q _ => by rw [had0]
  refine lv_aload_n hx hb dX4_digest_0 rfl (lv_at hl 0 rfl) ?_
  refine lv_iconst (v := nI 0) hx hb dX4_digest_1 (by decide) ?_
  refine hv_put (ty := .int) (C := RX4) (T := TX4) (N := 15) hx hb hts hiX4 tyX4 tyX4_ok nmX4 hown hKs hV hS hm0 0 rfl (by decide) lk41 (fun _ h9 => h9) (Or.inl (by decide +kernel)) (by decide +kernel) rfl rfl (Nat.le_of_ble_eq_true rfl) dX4_digest_2 (fun ct H locs he hne hV hS => ?_)
  have hm1 := (hne (96) (by omega)).trans hm1
  have hm2 := (hne (112) (by omega)).trans hm2
  have hm3 := (hne (128) (by omega)).trans hm3
  have hm4 := (hne (144) (by omega)).trans hm4
  have hm5 := (hne (160) (by omega)).trans hm5
  have hm6 := (hne (176) (by omega)).trans hm6
  have hm7 := (hne (192) (by omega)).trans hm7
  have hm8 := (hne (208) (by omega)).trans hm8
  have hm9 := (hne (224) (by omega)).trans hm9
  have hm0 : ct (80) = some (eO 4 [.int (nI (0)), .int (gMi σ), .int (gFu σ), .int (nI (gNC σ)), .ref (ad (96)), .ref (ad (112)), .ref (ad (128)), .ref (ad (144)), .ref (ad (160)), .int (nI (gNS σ)), .ref (ad (176)), .ref (ad (192)), .int (nI (gNB σ)), .ref (ad (208)), .ref (ad (224))]) := he
  have hfr := fun (q : Nat) (q1 : q ≠ 1 ∧ (q % 16 ≠ 0 ∨ q < 80)) => (hne q (by omega)).trans (hfr q q1)
  refine lv_ldc2 (v := 991) hx hb hown lk134 dX4_digest_5 ?_
  refine lv_lstore_n (lv' := [(1, .long (991)), (0, .ref (ad (80)))]) hx hb dX4_digest_8 rfl hl (by decide) rfl (fun ls hl => ?_)
  refine lv_iconst (v := nI 0) hx hb dX4_digest_9 (by decide) ?_
  refine lv_istore_n (lv' := [(3, .int (nI (0))), (1, .long (991)), (0, .ref (ad (80)))]) hx hb dX4_digest_10 rfl hl (by decide) rfl (fun ls hl => ?_)
  have L11 : ∀ (n iw : Nat) (d9 : Int64), iw ≤ 8 → 8 < iw + n → ∀ (ad : Nat → Nat) (ct : hC) (H : Heap) (locs : List Loc), (gM D σ 0 ad ct) → (∀ q : Nat, (q ≠ 1 ∧ (q % 16 ≠ 0 ∨ q < 80)) → ct q = ct0 q) → (∀ q : Nat, q ≠ 1 → ad q = ad0 q) → (d9 = dgn 991 (tal σ) iw) → hv D N0 ad ct H → va_S (hA N0) s.heap H locs → ∀ ls : Array Slot, lv_has ls 5 [(0, .ref (ad (80))), (1, .long (d9)), (3, .int (nI (iw)))] → W p l e (headSpec wsX4_digest ({ frames := 6, cells := 48, slots := 264, locals := 142 })).room s m args below meth c H locs iw (8 * iw) Qz (F0 m 11 ls []) := by
    intro n
    induction n with
    | zero => intro iw d9 h1 h2; exact absurd h2 (by omega)
    | succ n ih11 =>
      intro iw d9 hi11 hn11 ad ct H locs hMi hfr hfa gd hV hS ls hl
      obtain ⟨f1, f2, f3, f4, f5, f6, f7, f8, f9, ⟨hm0, hm1, hm2, hm3, hm4, hm5, hm6, hm7, hm8, hm9⟩, hme⟩ := id hMi
      obtain ⟨em1, em2, em3, em4, em5, em6, em7, em8, em9⟩ := id hme
      refine lv_iload_n hx hb dX4_digest_11 rfl (lv_at hl 2 rfl) ?_
      refine lv_bipush (v := nI 7) hx hb dX4_digest_12 (by decide) ?_
      refine hN_icmp_gt (tgt := 36) hx hb (by omega) (by omega) dX4_digest_14 (by decide) (fun c14 => ?_) (fun c14 => ?_)
      · refine lv_iconst (v := nI 0) hx hb dX4_digest_36 (by decide) ?_
        refine lv_istore_n (lv' := [(3, .int (nI (0))), (0, .ref (ad (80))), (1, .long (d9))]) hx hb dX4_digest_37 rfl hl (by decide) rfl (fun ls hl => ?_)
        have L38 : ∀ (n ic : Nat) (d8 : Int64), ic ≤ gNC σ → gNC σ < ic + n → ∀ (ad : Nat → Nat) (ct : hC) (H : Heap) (locs : List Loc), (gM D σ 0 ad ct) → (∀ q : Nat, (q ≠ 1 ∧ (q % 16 ≠ 0 ∨ q < 80)) → ct q = ct0 q) → (∀ q : Nat, q ≠ 1 → ad q = ad0 q) → (d8 = dgc σ (dgn 991 (tal σ) 8) ic) → hv D N0 ad ct H → va_S (hA N0) s.heap H locs → ∀ ls : Array Slot, lv_has ls 5 [(0, .ref (ad (80))), (1, .long (d8)), (3, .int (nI (ic)))] → W p l e (headSpec wsX4_digest ({ frames := 6, cells := 48, slots := 264, locals := 142 })).room s m args below meth c H locs (8 + 5 * ic) (64 + 25 * ic) Qz (F0 m 38 ls []) := by
          intro n
          induction n with
          | zero => intro ic d8 h1 h2; exact absurd h2 (by omega)
          | succ n ih38 =>
            intro ic d8 hi38 hn38 ad ct H locs hMi hfr hfa gd1 hV hS ls hl
            obtain ⟨f1, f2, f3, f4, f5, f6, f7, f8, f9, ⟨hm0, hm1, hm2, hm3, hm4, hm5, hm6, hm7, hm8, hm9⟩, hme⟩ := id hMi
            obtain ⟨em1, em2, em3, em4, em5, em6, em7, em8, em9⟩ := id hme
            refine lv_iload_n hx hb dX4_digest_38 rfl (lv_at hl 2 rfl) ?_
            refine lv_aload_n hx hb dX4_digest_39 rfl (lv_at hl 0 rfl) ?_
            refine hv_get (C := RX4) (T := TX4) (N := 15) hx hb hts hiX4 hown hKs hV hm0 3 rfl (by decide) lk44 (fun _ h9 => h9) rfl dX4_digest_40 ?_
            refine hN_icmp_ge (tgt := 93) hx hb (by omega) (by omega) dX4_digest_43 (by decide) (fun c43 => ?_) (fun c43 => ?_)
            · refine lv_iconst (v := nI 0) hx hb dX4_digest_93 (by decide) ?_
              refine lv_istore_n (lv' := [(3, .int (nI (0))), (0, .ref (ad (80))), (1, .long (d8))]) hx hb dX4_digest_94 rfl hl (by decide) rfl (fun ls hl => ?_)
              have L95 : ∀ (n ks : Nat) (d6 : Int64), ks ≤ gNS σ → gNS σ < ks + n → ∀ (H : Heap) (locs : List Loc), (d6 = dgs σ (dgc σ (dgn 991 (tal σ) 8) (gNC σ)) ks) → hv D N0 ad ct H → va_S (hA N0) s.heap H locs → ∀ ls : Array Slot, lv_has ls 5 [(0, .ref (ad (80))), (1, .long (d6)), (3, .int (nI (ks)))] → W p l e (headSpec wsX4_digest ({ frames := 6, cells := 48, slots := 264, locals := 142 })).room s m args below meth c H locs 48 264 Qz (F0 m 95 ls []) := by
                intro n
                induction n with
                | zero => intro ks d6 h1 h2; exact absurd h2 (by omega)
                | succ n ih95 =>
                  intro ks d6 hi95 hn95 H locs gd3 hV hS ls hl
                  refine lv_iload_n hx hb dX4_digest_95 rfl (lv_at hl 2 rfl) ?_
                  refine lv_aload_n hx hb dX4_digest_96 rfl (lv_at hl 0 rfl) ?_
                  refine hv_get (C := RX4) (T := TX4) (N := 15) hx hb hts hiX4 hown hKs hV hm0 9 rfl (by decide) lk51 (fun _ h9 => h9) rfl dX4_digest_97 ?_
                  refine hN_icmp_ge (tgt := 132) hx hb (by omega) (by omega) dX4_digest_100 (by decide) (fun c100 => ?_) (fun c100 => ?_)
                  · refine lv_iconst (v := nI 0) hx hb dX4_digest_132 (by decide) ?_
                    refine lv_istore_n (lv' := [(3, .int (nI (0))), (0, .ref (ad (80))), (1, .long (d6))]) hx hb dX4_digest_133 rfl hl (by decide) rfl (fun ls hl => ?_)
                    have L134 : ∀ (n ke : Nat) (d5 : Int64), ke ≤ 4 * (gNB σ) → 4 * (gNB σ) < ke + n → ∀ (H : Heap) (locs : List Loc), (d5 = dge σ (dgs σ (dgc σ (dgn 991 (tal σ) 8) (gNC σ)) (gNS σ)) ke) → hv D N0 ad ct H → va_S (hA N0) s.heap H locs → ∀ ls : Array Slot, lv_has ls 5 [(0, .ref (ad (80))), (1, .long (d5)), (3, .int (nI (ke)))] → W p l e (headSpec wsX4_digest ({ frames := 6, cells := 48, slots := 264, locals := 142 })).room s m args below meth c H locs 48 264 Qz (F0 m 134 ls []) := by
                      intro n
                      induction n with
                      | zero => intro ke d5 h1 h2; exact absurd h2 (by omega)
                      | succ n ih134 =>
                        intro ke d5 hi134 hn134 H locs gd4 hV hS ls hl
                        refine lv_iload_n hx hb dX4_digest_134 rfl (lv_at hl 2 rfl) ?_
                        refine lv_iconst (v := nI 4) hx hb dX4_digest_135 (by decide) ?_
                        refine lv_aload_n hx hb dX4_digest_136 rfl (lv_at hl 0 rfl) ?_
                        refine hv_get (C := RX4) (T := TX4) (N := 15) hx hb hts hiX4 hown hKs hV hm0 12 rfl (by decide) lk54 (fun _ h9 => h9) rfl dX4_digest_137 ?_
                        refine hN_imul hx hb dX4_digest_140 ?_
                        refine hN_icmp_ge (tgt := 176) hx hb (by omega) (by omega) dX4_digest_141 (by decide) (fun c141 => ?_) (fun c141 => ?_)
                        · refine lv_lload_n hx hb dX4_digest_176 rfl (lv_at hl 1 rfl) ?_
                          refine W.widen (k := 48) (n := 264) (by omega) (by omega) ?_
                          rw [hQz]
                          exact hv_lret (v := d5) (u := (ad, ct)) hx hb hr ⟨by rw [gd4, show ke = 4 * gNB σ by omega]; rfl, ⟨f1, f2, f3, f4, f5, f6, f7, f8, f9, ⟨hm0, hm1, hm2, hm3, hm4, hm5, hm6, hm7, hm8, hm9⟩, hme⟩, fun q q1 => ⟨(hfa q q1).trans (by rw [had0]), fun q2 => (hfr q ⟨q1, q2⟩).trans (by rw [hct0])⟩⟩ hV hS dX4_digest_177 hlocks
                        · refine lv_lload_n hx hb dX4_digest_144 rfl (lv_at hl 1 rfl) ?_
                          refine lv_ldc2 (v := 31) hx hb hown lk132 dX4_digest_145 ?_
                          refine lv_lmul hx hb dX4_digest_148 ?_
                          refine lv_aload_n hx hb dX4_digest_149 rfl (lv_at hl 0 rfl) ?_
                          refine hv_get (C := RX4) (T := TX4) (N := 15) hx hb hts hiX4 hown hKs hV hm0 13 rfl (by decide) lk35 (fun _ h9 => h9) rfl dX4_digest_150 ?_
                          refine lv_iload_n hx hb dX4_digest_153 rfl (lv_at hl 2 rfl) ?_
                          refine hv_iald hx hb hKs hV hm8 (by omega) (by decide) dX4_digest_154 ?_
                          refine hv_eqi (em8 (ke) (by omega)) ?_
                          refine lv_i2l hx hb dX4_digest_155 rfl ?_
                          refine lv_ladd hx hb dX4_digest_156 ?_
                          refine lv_ldc2 (v := 31) hx hb hown lk132 dX4_digest_157 ?_
                          refine lv_lmul hx hb dX4_digest_160 ?_
                          refine lv_aload_n hx hb dX4_digest_161 rfl (lv_at hl 0 rfl) ?_
                          refine hv_get (C := RX4) (T := TX4) (N := 15) hx hb hts hiX4 hown hKs hV hm0 14 rfl (by decide) lk38 (fun _ h9 => h9) rfl dX4_digest_162 ?_
                          refine lv_iload_n hx hb dX4_digest_165 rfl (lv_at hl 2 rfl) ?_
                          refine hv_iald hx hb hKs hV hm9 (by omega) (by decide) dX4_digest_166 ?_
                          refine hv_eqi (em9 (ke) (by omega)) ?_
                          refine lv_i2l hx hb dX4_digest_167 rfl ?_
                          refine lv_ladd hx hb dX4_digest_168 ?_
                          refine lv_lstore_n (lv' := [(1, .long (((((d5) * (31)) + (((esl σ (ke))).toInt64)) * (31)) + (((etn σ (ke))).toInt64))), (0, .ref (ad (80))), (3, .int (nI (ke)))]) hx hb dX4_digest_169 rfl hl (by decide) rfl (fun ls hl => ?_)
                          refine lv_iinc (v := nI (ke + 1)) (lv' := [(3, .int (nI (ke + 1))), (1, .long (((((d5) * (31)) + (((esl σ (ke))).toInt64)) * (31)) + (((etn σ (ke))).toInt64))), (0, .ref (ad (80)))]) hx hb dX4_digest_170 hl (k := 2) rfl (nI_add (ke) 1) (by decide) rfl (fun ls hl => ?_)
                          refine lv_goto (tgt := 134) hx hb dX4_digest_173 (by decide) ?_
                          exact ih134 (ke + 1) (((((d5) * (31)) + (((esl σ (ke))).toInt64)) * (31)) + (((etn σ (ke))).toInt64)) (by omega) (by omega) _ _ (by rw [gd4]; rfl) hV hS ls (lv_sub hl [2, 1, 0] rfl)
                    exact L134 (4 * (gNB σ) + 1) (0) (d6) (by omega) (by omega) _ _ (by rw [gd3, show ks = gNS σ by omega]; rfl) hV hS ls (lv_sub hl [1, 2, 0] rfl)
                  · refine lv_aload_n hx hb dX4_digest_103 rfl (lv_at hl 0 rfl) ?_
                    refine lv_lload_n hx hb dX4_digest_104 rfl (lv_at hl 1 rfl) ?_
                    refine lv_aload_n hx hb dX4_digest_105 rfl (lv_at hl 0 rfl) ?_
                    refine hv_get (C := RX4) (T := TX4) (N := 15) hx hb hts hiX4 hown hKs hV hm0 10 rfl (by decide) lk29 (fun _ h9 => h9) rfl dX4_digest_106 ?_
                    refine lv_iload_n hx hb dX4_digest_109 rfl (lv_at hl 2 rfl) ?_
                    refine hv_calll (va_runV (As := [.long (d6), .ref (ad (176)), .int (nI (ks))]) (rest := []) ⟨hx, hb, hml, hown, hts⟩ (c_X4_with l D N0 ad ct hm6 (by decide) (ks) (by omega) (d6) (P1 := sPt σ (ks)) (hO.2.2.2.2.1 (ks) (by omega)).1 (em6 (ks) (by omega))) (cwV 3 hts gX4_digest_X4_with rfl rfl rfl (by decide +kernel) ⟨Nat.le_of_ble_eq_true rfl, Nat.le_of_ble_eq_true rfl⟩) (hv_preV (r := (RX4, TX4, 15)) hKs hV hS hm0 rfl) rfl rfl hl.1 rfl (lv_room (Nat.le_of_ble_eq_true rfl)) dX4_digest_110 ⟨(Nat.le_of_ble_eq_true rfl), (Nat.le_of_ble_eq_true rfl)⟩) hS (fun r9 u9 H locs hq hV hS => ?_)
                    obtain ⟨rfl, rfl⟩ := hq
                    have hV : hv D N0 ad ct H := hV
                    refine lv_ldc2 (v := 31) hx hb hown lk132 dX4_digest_113 ?_
                    refine lv_lmul hx hb dX4_digest_116 ?_
                    refine lv_aload_n hx hb dX4_digest_117 rfl (lv_at hl 0 rfl) ?_
                    refine hv_get (C := RX4) (T := TX4) (N := 15) hx hb hts hiX4 hown hKs hV hm0 11 rfl (by decide) lk32 (fun _ h9 => h9) rfl dX4_digest_118 ?_
                    refine lv_iload_n hx hb dX4_digest_121 rfl (lv_at hl 2 rfl) ?_
                    refine hv_iald hx hb hKs hV hm7 (by omega) (by decide) dX4_digest_122 ?_
                    refine hv_eqi (em7 (ks) (by omega)) ?_
                    refine lv_i2l hx hb dX4_digest_123 rfl ?_
                    refine lv_ladd hx hb dX4_digest_124 ?_
                    refine lv_lstore_n (lv' := [(1, .long (((dgn (d6) (fun k => nI (sPt σ (ks) k)) 24) * (31)) + (((eyv (sEy σ (ks)))).toInt64))), (0, .ref (ad (80))), (3, .int (nI (ks)))]) hx hb dX4_digest_125 rfl hl (by decide) rfl (fun ls hl => ?_)
                    refine lv_iinc (v := nI (ks + 1)) (lv' := [(3, .int (nI (ks + 1))), (1, .long (((dgn (d6) (fun k => nI (sPt σ (ks) k)) 24) * (31)) + (((eyv (sEy σ (ks)))).toInt64))), (0, .ref (ad (80)))]) hx hb dX4_digest_126 hl (k := 2) rfl (nI_add (ks) 1) (by decide) rfl (fun ls hl => ?_)
                    refine lv_goto (tgt := 95) hx hb dX4_digest_129 (by decide) ?_
                    exact ih95 (ks + 1) (((dgn (d6) (fun k => nI (sPt σ (ks) k)) 24) * (31)) + (((eyv (sEy σ (ks)))).toInt64)) (by omega) (by omega) _ _ (by rw [gd3]; rfl) hV hS ls (lv_sub hl [2, 1, 0] rfl)
              refine W.widen (k := 48) (n := 264) (by omega) (by omega) ?_
              exact L95 (gNS σ + 1) (0) (d8) (by omega) (by omega) _ _ (by rw [gd1, show ic = gNC σ by omega]; rfl) hV hS ls (lv_sub hl [1, 2, 0] rfl)
            · refine lv_iconst (v := nI 0) hx hb dX4_digest_46 (by decide) ?_
              refine lv_istore (lv' := [(4, .int (nI (0))), (0, .ref (ad (80))), (1, .long (d8)), (3, .int (nI (ic)))]) hx hb dX4_digest_47 hl (by decide) rfl (fun ls hl => ?_)
              have L49 : ∀ (n jc : Nat) (d7 : Int64), jc ≤ 5 → 5 < jc + n → ∀ (ad : Nat → Nat) (ct : hC) (H : Heap) (locs : List Loc), (gM D σ 0 ad ct) → (∀ q : Nat, (q ≠ 1 ∧ (q % 16 ≠ 0 ∨ q < 80)) → ct q = ct0 q) → (∀ q : Nat, q ≠ 1 → ad q = ad0 q) → (d7 = dgn (dgc σ (dgn 991 (tal σ) 8) ic) (tel σ ic) jc) → hv D N0 ad ct H → va_S (hA N0) s.heap H locs → ∀ ls : Array Slot, lv_has ls 5 [(0, .ref (ad (80))), (1, .long (d7)), (3, .int (nI (ic))), (4, .int (nI (jc)))] → W p l e (headSpec wsX4_digest ({ frames := 6, cells := 48, slots := 264, locals := 142 })).room s m args below meth c H locs (8 + 5 * ic + jc) (64 + 25 * ic + 5 * jc) Qz (F0 m 49 ls []) := by
                intro n
                induction n with
                | zero => intro jc d7 h1 h2; exact absurd h2 (by omega)
                | succ n ih49 =>
                  intro jc d7 hi49 hn49 ad ct H locs hMi hfr hfa gd2 hV hS ls hl
                  obtain ⟨f1, f2, f3, f4, f5, f6, f7, f8, f9, ⟨hm0, hm1, hm2, hm3, hm4, hm5, hm6, hm7, hm8, hm9⟩, hme⟩ := id hMi
                  obtain ⟨em1, em2, em3, em4, em5, em6, em7, em8, em9⟩ := id hme
                  refine lv_iload hx hb dX4_digest_49 (lv_at hl 3 rfl) ?_
                  refine lv_iconst (v := nI 4) hx hb dX4_digest_51 (by decide) ?_
                  refine hN_icmp_gt (tgt := 76) hx hb (by omega) (by omega) dX4_digest_52 (by decide) (fun c52 => ?_) (fun c52 => ?_)
                  · refine lv_aload_n hx hb dX4_digest_76 rfl (lv_at hl 0 rfl) ?_
                    refine lv_lload_n hx hb dX4_digest_77 rfl (lv_at hl 1 rfl) ?_
                    refine lv_aload_n hx hb dX4_digest_78 rfl (lv_at hl 0 rfl) ?_
                    refine hv_get (C := RX4) (T := TX4) (N := 15) hx hb hts hiX4 hown hKs hV hm0 8 rfl (by decide) lk26 (fun _ h9 => h9) rfl dX4_digest_79 ?_
                    refine lv_iload_n hx hb dX4_digest_82 rfl (lv_at hl 2 rfl) ?_
                    refine hv_calll (va_runV (As := [.long (d7), .ref (ad (160)), .int (nI (ic))]) (rest := []) ⟨hx, hb, hml, hown, hts⟩ (c_X4_with l D N0 ad ct hm5 (by decide) (ic) (by omega) (d7) (P1 := cPt σ (ic)) (hO.2.2.2.1 (ic) (by omega)).2.2 (hme.pt (by omega) (show ic < gNC σ by omega))) (cwV 3 hts gX4_digest_X4_with rfl rfl rfl (by decide +kernel) ⟨Nat.le_of_ble_eq_true rfl, Nat.le_of_ble_eq_true rfl⟩) (hv_preV (r := (RX4, TX4, 15)) hKs hV hS hm0 rfl) rfl rfl hl.1 rfl (lv_room (Nat.le_of_ble_eq_true rfl)) dX4_digest_83 ⟨(show 8 + 5 * ic + jc + 0 ≤ 48 by omega), (show 64 + 25 * ic + 5 * jc + 0 ≤ 264 by omega)⟩) hS (fun r9 u9 H locs hq hV hS => ?_)
                    obtain ⟨rfl, rfl⟩ := hq
                    have hV : hv D N0 ad ct H := hV
                    refine lv_lstore_n (lv' := [(1, .long (dgn (d7) (fun k => nI (cPt σ (ic) k)) 24)), (0, .ref (ad (80))), (3, .int (nI (ic))), (4, .int (nI (jc)))]) hx hb dX4_digest_86 rfl hl (by decide) rfl (fun ls hl => ?_)
                    refine lv_iinc (v := nI (ic + 1)) (lv' := [(3, .int (nI (ic + 1))), (1, .long (dgn (d7) (fun k => nI (cPt σ (ic) k)) 24)), (0, .ref (ad (80))), (4, .int (nI (jc)))]) hx hb dX4_digest_87 hl (k := 2) rfl (nI_add (ic) 1) (by decide) rfl (fun ls hl => ?_)
                    refine lv_goto (tgt := 38) hx hb dX4_digest_90 (by decide) ?_
                    refine W.widen (k := 8 + 5 * (ic + 1)) (n := 64 + 25 * (ic + 1)) (by omega) (by omega) ?_
                    exact ih38 (ic + 1) (dgn (d7) (fun k => nI (cPt σ (ic) k)) 24) (by omega) (by omega) ad ct _ _ ((show gM D σ 0 ad ct from ⟨f1, f2, f3, f4, f5, f6, f7, f8, f9, ⟨hm0, hm1, hm2, hm3, hm4, hm5, hm6, hm7, hm8, hm9⟩, hme⟩)) (hfr) (hfa) (by rw [gd2, show jc = 5 by omega]; rfl) hV hS ls (lv_sub hl [2, 1, 0] rfl)
                  · refine lv_lload_n hx hb dX4_digest_55 rfl (lv_at hl 1 rfl) ?_
                    refine lv_ldc2 (v := 31) hx hb hown lk132 dX4_digest_56 ?_
                    refine lv_lmul hx hb dX4_digest_59 ?_
                    refine lv_aload_n hx hb dX4_digest_60 rfl (lv_at hl 0 rfl) ?_
                    refine lv_iload_n hx hb dX4_digest_61 rfl (lv_at hl 2 rfl) ?_
                    refine lv_iload hx hb dX4_digest_62 (lv_at hl 3 rfl) ?_
                    refine hv_calli (va_runV (As := [.int (nI (ic)), .int (nI (jc))]) (rest := [.long ((d7) * (31))]) ⟨hx, hb, hml, hown, hts⟩ (c_X4_caneTold l D N0 ad ct (show gM D σ _ ad ct from ⟨f1, f2, f3, f4, f5, f6, f7, f8, f9, ⟨hm0, hm1, hm2, hm3, hm4, hm5, hm6, hm7, hm8, hm9⟩, hme⟩) hO (ic) (jc) (by omega) (by omega)) (cwV 2 hts gX4_digest_X4_caneTold rfl rfl rfl (by decide +kernel) ⟨Nat.le_of_ble_eq_true rfl, Nat.le_of_ble_eq_true rfl⟩) (hv_preV (r := (RX4, TX4, 15)) hKs hV hS hm0 rfl) rfl rfl hl.1 rfl (lv_room (Nat.le_of_ble_eq_true rfl)) dX4_digest_64 ⟨(show 8 + 5 * ic + jc + 1 ≤ 48 by omega), (show 64 + 25 * ic + 5 * jc + 5 ≤ 264 by omega)⟩) hS (fun r9 u9 H locs hq hV hS => ?_)
                    obtain ⟨ad, ct⟩ := u9
                    dsimp only at hq
                    obtain ⟨rfl, hna1, hne1⟩ := hq
                    have hV : hv D N0 ad ct H := hV
                    have hne := fun (q : Nat) (q1 : q ≠ 1) => hne1 q q1
                    have hna := fun (q : Nat) (q1 : q ≠ 1) => hna1 q q1
                    have hl : lv_has ls 5 [(0, .ref (ad (80))), (1, .long (d7)), (3, .int (nI (ic))), (4, .int (nI (jc)))] := by rw [hna (80) (by omega)]; exact hl
                    have hm0 : ct (80) = some (eO 4 [.int (nI (0)), .int (gMi σ), .int (gFu σ), .int (nI (gNC σ)), .ref (ad (96)), .ref (ad (112)), .ref (ad (128)), .ref (ad (144)), .ref (ad (160)), .int (nI (gNS σ)), .ref (ad (176)), .ref (ad (192)), .int (nI (gNB σ)), .ref (ad (208)), .ref (ad (224))]) := by rw [hne (80) (by omega), hna (96) (by omega), hna (112) (by omega), hna (128) (by omega), hna (144) (by omega), hna (160) (by omega), hna (176) (by omega), hna (192) (by omega), hna (208) (by omega), hna (224) (by omega)]; exact hm0
                    have hm1 := (hne (96) (by omega)).trans hm1
                    have hm2 := (hne (112) (by omega)).trans hm2
                    have hm3 := (hne (128) (by omega)).trans hm3
                    have hm4 := (hne (144) (by omega)).trans hm4
                    have hm5 := (hne (160) (by omega)).trans hm5
                    have hm6 := (hne (176) (by omega)).trans hm6
                    have hm7 := (hne (192) (by omega)).trans hm7
                    have hm8 := (hne (208) (by omega)).trans hm8
                    have hm9 := (hne (224) (by omega)).trans hm9
                    have hfr := fun (q : Nat) (q1 : q ≠ 1 ∧ (q % 16 ≠ 0 ∨ q < 80)) => (hne q q1.1).trans (hfr q q1)
                    have hfa := fun (q : Nat) (q1 : q ≠ 1) => (hna q q1).trans (hfa q q1)
                    refine lv_i2l hx hb dX4_digest_67 rfl ?_
                    refine lv_ladd hx hb dX4_digest_68 ?_
                    refine lv_lstore_n (lv' := [(1, .long (((d7) * (31)) + (((tel σ (ic) (jc))).toInt64))), (0, .ref (ad (80))), (3, .int (nI (ic))), (4, .int (nI (jc)))]) hx hb dX4_digest_69 rfl hl (by decide) rfl (fun ls hl => ?_)
                    refine lv_iinc (v := nI (jc + 1)) (lv' := [(4, .int (nI (jc + 1))), (1, .long (((d7) * (31)) + (((tel σ (ic) (jc))).toInt64))), (0, .ref (ad (80))), (3, .int (nI (ic)))]) hx hb dX4_digest_70 hl (k := 3) rfl (nI_add (jc) 1) (by decide) rfl (fun ls hl => ?_)
                    refine lv_goto (tgt := 49) hx hb dX4_digest_73 (by decide) ?_
                    refine W.widen (k := 8 + 5 * ic + (jc + 1)) (n := 64 + 25 * ic + 5 * (jc + 1)) (by omega) (by omega) ?_
                    exact ih49 (jc + 1) (((d7) * (31)) + (((tel σ (ic) (jc))).toInt64)) (by omega) (by omega) ad ct _ _ ((show gM D σ 0 ad ct from ⟨f1, f2, f3, f4, f5, f6, f7, f8, f9, ⟨hm0, hm1, hm2, hm3, hm4, hm5, hm6, hm7, hm8, hm9⟩, hme⟩)) (hfr) (hfa) (by rw [gd2]; rfl) hV hS ls (lv_sub hl [2, 1, 3, 0] rfl)
              refine W.widen (k := 8 + 5 * ic + (0)) (n := 64 + 25 * ic + 5 * (0)) (by omega) (by omega) ?_
              exact L49 (5 + 1) (0) (d8) (by omega) (by omega) ad ct _ _ ((show gM D σ 0 ad ct from ⟨f1, f2, f3, f4, f5, f6, f7, f8, f9, ⟨hm0, hm1, hm2, hm3, hm4, hm5, hm6, hm7, hm8, hm9⟩, hme⟩)) (hfr) (hfa) (by rw [gd1]; rfl) hV hS ls (lv_sub hl [1, 2, 3, 0] rfl)
        refine W.widen (k := 8 + 5 * (0)) (n := 64 + 25 * (0)) (by omega) (by omega) ?_
        exact L38 (gNC σ + 1) (0) (d9) (by omega) (by omega) ad ct _ _ ((show gM D σ 0 ad ct from ⟨f1, f2, f3, f4, f5, f6, f7, f8, f9, ⟨hm0, hm1, hm2, hm3, hm4, hm5, hm6, hm7, hm8, hm9⟩, hme⟩)) (hfr) (hfa) (by rw [gd, show iw = 8 by omega]; rfl) hV hS ls (lv_sub hl [1, 2, 0] rfl)
      · refine lv_lload_n hx hb dX4_digest_17 rfl (lv_at hl 1 rfl) ?_
        refine lv_ldc2 (v := 31) hx hb hown lk132 dX4_digest_18 ?_
        refine lv_lmul hx hb dX4_digest_21 ?_
        refine lv_aload_n hx hb dX4_digest_22 rfl (lv_at hl 0 rfl) ?_
        refine lv_iload_n hx hb dX4_digest_23 rfl (lv_at hl 2 rfl) ?_
        refine hv_calli (va_runV (As := [.int (nI (iw))]) (rest := [.long ((d9) * (31))]) ⟨hx, hb, hml, hown, hts⟩ (c_X4_counted l D N0 ad ct (show gM D σ _ ad ct from ⟨f1, f2, f3, f4, f5, f6, f7, f8, f9, ⟨hm0, hm1, hm2, hm3, hm4, hm5, hm6, hm7, hm8, hm9⟩, hme⟩) hO (iw) (by omega)) (cwV 1 hts gX4_digest_X4_counted rfl rfl rfl (by decide +kernel) ⟨Nat.le_of_ble_eq_true rfl, Nat.le_of_ble_eq_true rfl⟩) (hv_preV (r := (RX4, TX4, 15)) hKs hV hS hm0 rfl) rfl rfl hl.1 rfl (lv_room (Nat.le_of_ble_eq_true rfl)) dX4_digest_24 ⟨(show iw + 1 ≤ 48 by omega), (show 8 * iw + 8 ≤ 264 by omega)⟩) hS (fun r9 u9 H locs hq hV hS => ?_)
        obtain ⟨ad, ct⟩ := u9
        dsimp only at hq
        obtain ⟨rfl, hna1, hne1⟩ := hq
        have hV : hv D N0 ad ct H := hV
        have hne := fun (q : Nat) (q1 : q ≠ 1) => hne1 q q1
        have hna := fun (q : Nat) (q1 : q ≠ 1) => hna1 q q1
        have hl : lv_has ls 5 [(0, .ref (ad (80))), (1, .long (d9)), (3, .int (nI (iw)))] := by rw [hna (80) (by omega)]; exact hl
        have hm0 : ct (80) = some (eO 4 [.int (nI (0)), .int (gMi σ), .int (gFu σ), .int (nI (gNC σ)), .ref (ad (96)), .ref (ad (112)), .ref (ad (128)), .ref (ad (144)), .ref (ad (160)), .int (nI (gNS σ)), .ref (ad (176)), .ref (ad (192)), .int (nI (gNB σ)), .ref (ad (208)), .ref (ad (224))]) := by rw [hne (80) (by omega), hna (96) (by omega), hna (112) (by omega), hna (128) (by omega), hna (144) (by omega), hna (160) (by omega), hna (176) (by omega), hna (192) (by omega), hna (208) (by omega), hna (224) (by omega)]; exact hm0
        have hm1 := (hne (96) (by omega)).trans hm1
        have hm2 := (hne (112) (by omega)).trans hm2
        have hm3 := (hne (128) (by omega)).trans hm3
        have hm4 := (hne (144) (by omega)).trans hm4
        have hm5 := (hne (160) (by omega)).trans hm5
        have hm6 := (hne (176) (by omega)).trans hm6
        have hm7 := (hne (192) (by omega)).trans hm7
        have hm8 := (hne (208) (by omega)).trans hm8
        have hm9 := (hne (224) (by omega)).trans hm9
        have hfr := fun (q : Nat) (q1 : q ≠ 1 ∧ (q % 16 ≠ 0 ∨ q < 80)) => (hne q q1.1).trans (hfr q q1)
        have hfa := fun (q : Nat) (q1 : q ≠ 1) => (hna q q1).trans (hfa q q1)
        refine lv_i2l hx hb dX4_digest_27 rfl ?_
        refine lv_ladd hx hb dX4_digest_28 ?_
        refine lv_lstore_n (lv' := [(1, .long (((d9) * (31)) + (((tal σ (iw))).toInt64))), (0, .ref (ad (80))), (3, .int (nI (iw)))]) hx hb dX4_digest_29 rfl hl (by decide) rfl (fun ls hl => ?_)
        refine lv_iinc (v := nI (iw + 1)) (lv' := [(3, .int (nI (iw + 1))), (1, .long (((d9) * (31)) + (((tal σ (iw))).toInt64))), (0, .ref (ad (80)))]) hx hb dX4_digest_30 hl (k := 2) rfl (nI_add (iw) 1) (by decide) rfl (fun ls hl => ?_)
        refine lv_goto (tgt := 11) hx hb dX4_digest_33 (by decide) ?_
        refine W.widen (k := (iw + 1)) (n := 8 * (iw + 1)) (by omega) (by omega) ?_
        exact ih11 (iw + 1) (((d9) * (31)) + (((tal σ (iw))).toInt64)) (by omega) (by omega) ad ct _ _ ((show gM D σ 0 ad ct from ⟨f1, f2, f3, f4, f5, f6, f7, f8, f9, ⟨hm0, hm1, hm2, hm3, hm4, hm5, hm6, hm7, hm8, hm9⟩, hme⟩)) (hfr) (hfa) (by rw [gd]; rfl) hV hS ls (lv_sub hl [2, 1, 0] rfl)
  refine W.widen (k := (0)) (n := 8 * (0)) (by omega) (by omega) ?_
  exact L11 (8 + 1) (0) (991) (by omega) (by omega) ad ct _ _ ((show gM D σ 0 ad ct from ⟨f1, f2, f3, f4, f5, f6, f7, f8, f9, ⟨hm0, hm1, hm2, hm3, hm4, hm5, hm6, hm7, hm8, hm9⟩, hme⟩)) (hfr) (hfa) (rfl) hV hS ls (lv_sub hl [2, 1, 0] rfl)
