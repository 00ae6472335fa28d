theorem wh_hbv {σ : gS} {c : Nat} : nI (wh σ c) = hbv (!cCr σ c) := by
  unfold wh
  cases cCr σ c <;> rfl
theorem told5 {σ : gS} {c k : Nat} {b : Bool} {f : Nat → Int32} (hk : k < 5) (h4 : f 4 = hbv b) (h0 : f 0 = nI (cLen σ c)) (h1 : f 1 = cTw σ c) (h2 : f 2 = nI (cHt σ c)) (h3 : f 3 = nI (wh σ c)) : f k = ctell (cLen σ c) (cTw σ c) (cHt σ c) (cCr σ c) b k := by
  rcases (show k = 0 ∨ k = 1 ∨ k = 2 ∨ k = 3 ∨ k = 4 by omega) with rfl | rfl | rfl | rfl | rfl
  · exact h0
  · exact h1
  · exact h2
  · rw [h3, wh_hbv]; rfl
  · exact h4
theorem im_sum {σ : gS} (hO : okS σ) : nsm (im σ) (gNS σ) = nsm (ie σ) 24 := by
  have h := hO.2.2.2.2.2.2.2
  refine (nsm_cong (fun s hs => ?_)).trans h.symm
  unfold im
  rcases hq : sEy σ s with _ | k
  · exact (if_pos rfl).trans rfl
  · have hk := ok_ey hO hs hq
    rw [if_neg (by show ¬ (nI k).toInt = _; rw [nI_toInt (by omega), h_m1]; omega)]
    rfl
theorem told8 {σ : gS} {k : Nat} {f : Nat → Int32} (hk : k < 8) (h0 : f 0 = gMi σ) (h1 : f 1 = nI (gNC σ)) (h2 : f 2 = nI (nsm (wh σ) (gNC σ))) (h3 : f 3 = nI (gNS σ)) (h4 : f 4 = nI (nsm (ie σ) 24)) (h5 : f 5 = nI (gNB σ)) (h6 : f 6 = nI (nsm (bl σ) (gNB σ))) (h7 : f 7 = nI (nsm (cLen σ) (gNC σ))) : f k = tal σ k := by
  rcases (show k = 0 ∨ k = 1 ∨ k = 2 ∨ k = 3 ∨ k = 4 ∨ k = 5 ∨ k = 6 ∨ k = 7 by omega) with rfl | rfl | rfl | rfl | rfl | rfl | rfl | rfl
  · exact h0
  · exact h1
  · exact h2
  · exact h3
  · exact h4
  · exact h5
  · exact h6
  · exact h7
theorem m8_swap {a b c : Nat} (ha : a < 8) (hb : b < 8) : (c + 8 - m8 (nI a - nI b)) % 8 = (c + b + 8 - a) % 8 ∧ m8 (nI a - nI b) < 8 := by
  rw [m8_sub ha, m8_nI (by omega)]
  omega
/-- turned there and back -/
theorem like_swap {P P2 : Nat → Nat} {a b : Nat} (ha : a < 8) (hb : b < 8) : like P (nI a - nI b) P2 = like P2 (nI b - nI a) P := by
  have key : ∀ (P P2 : Nat → Nat) (a b : Nat), a < 8 → b < 8 → like P (nI a - nI b) P2 = true → like P2 (nI b - nI a) P = true := by
    intro P P2 a b ha hb h
    rw [like_iff] at h ⊢
    intro k hk
    have h9 := h (8 * (k / 8) + (k % 8 + a + 8 - b) % 8) (by omega)
    rw [show k = 8 * (k / 8) + k % 8 by omega, rot_at (by omega), (m8_swap hb ha).1, ← h9, rot_at (by omega), (m8_swap ha hb).1]
    congr 1
    omega
  exact Bool.eq_iff_iff.mpr ⟨key P P2 a b ha hb, key P2 P b a hb ha⟩
theorem tw_el {σ : gS} (hO : okS σ) {b k s t : Nat} {e9 : Nat} (h : gEy σ e9 = some (s, t)) : tw σ e9 (4 * b) k = el σ b s k := by
  unfold tw
  rcases hq : gEy σ (4 * b + k) with _ | ⟨s2, t2⟩
  · rw [el_0 hq, twn_1 h hq]; rfl
  · have h1 := hO.2.2.2.2.2.1 _ _ _ h
    have h2 := hO.2.2.2.2.2.1 _ _ _ hq
    rw [twn_2 h hq, like_swap h1.2.2.1 h2.2.2.1]
    rcases hl : like (sPt σ s2) (nI t2 - nI t) (sPt σ s) with _ | _
    · rw [el_2 hq (by rw [trn_of hO hq, trn_of hO h]; exact hl)]; rfl
    · rw [el_1 hq (by rw [trn_of hO hq, trn_of hO h]; exact hl)]; rfl
theorem blm_bl {σ : gS} (hO : okS σ) {b : Nat} : blm σ b = bl σ b := by
  unfold blm
  rcases hq : gEy σ (4 * b) with _ | ⟨s, t⟩
  · rw [bl_0 hq]
    have h0 : nsm (tw σ (4 * b + 0) (4 * b)) 4 = 0 := by
      have : ∀ k, k < 4 → tw σ (4 * b + 0) (4 * b) k = (fun _ => 0) k := fun k _ => by
        show (if twn σ (4 * b) (4 * b + k) = true then 1 else 0) = 0
        rw [twn_0 hq]
        rfl
      rw [nsm_cong this]
      rfl
    rw [h0]
    rfl
  · have h1 : nsm (tw σ (4 * b + 0) (4 * b)) 4 = nsm (el σ b s) 4 := nsm_cong fun k _ => tw_el hO hq
    rw [h1]
    by_cases h2 : nsm (el σ b s) 4 = 4
    · rw [bl_1 hq h2, if_pos h2]
    · rw [bl_2 hq h2, if_neg h2]

set_option maxHeartbeats 4000000 in
set_option maxRecDepth 100000 in
theorem c_X4_caneTold (l : Launch) (D : hG) (N0 : Nat) (ad : Nat → Nat) (ct : hC) {σ : gS} {th : Nat} (hM : gM D σ th ad ct) (hO : okS σ) (c9 w9 : Nat) (hc9 : c9 < gNC σ) (hw9 : w9 < 5) : Met l yX4_caneTold wsX4_caneTold ({ frames := 0, cells := 1, slots := 5, locals := 0 }) (hPc D N0 ad ct [.ref (ad (80)), .int (nI (c9)), .int (nI (w9))]) (va_Qi (fun (z : Int32) (u : hU) => z = tel σ c9 w9 ∧ (∀ q : Nat, q ≠ 1 → u.1 q = ad q) ∧ ∀ q : Nat, q ≠ 1 → u.2 q = ct q) (hB D N0) (hA N0)) 1 5 (hA N0) := by
  refine Met.ofW (cc := cX4_caneTold) (maxL := 4) (ret := (some .int)) (by decide) rfl ?_
  intro p e s m args below meth c s₁ B hml hv0
  obtain ⟨hargs, hKs, hV⟩ := hv0
  have hx := B.exec
  have hb := B.bytes
  have hr := B.returns
  have hts := atoms_spec (ws := wsX4_caneTold) B.pre
  have hown : s.vm.findClass RX4 = some m.cls := findClass_of_methodNamed B.named
  have hlocks := B.notSynchronized
  have hS : va_S (hA N0) s.heap s.heap [] := va_S.rf
  have hiX4 : ∀ w ∈ u_ws RX4 TX4 15, w ∈ wsX4_caneTold := by decide +kernel
  have karr := hts (.arrayClass .int) (by decide +kernel)
  have lk13 := hts (.fieldLink RX4 13 "CaneSlicesModel" "length" "[I") (by decide +kernel)
  have lk17 := hts (.fieldLink RX4 17 "CaneSlicesModel" "twist" "[I") (by decide +kernel)
  have lk20 := hts (.fieldLink RX4 20 "CaneSlicesModel" "heat" "[I") (by decide +kernel)
  have lk23 := hts (.fieldLink RX4 23 "CaneSlicesModel" "isWhole" "[I") (by decide +kernel)
  have lk9 := hts (.fieldLink RX4 9 "CaneSlicesModel" "furnace" "I") (by decide +kernel)
  have hl := lv_entry ([.ref (ad (80)), .int (nI (c9)), .int (nI (w9))]) (n := 4) (Nat.le_of_ble_eq_true rfl)
  have hE : entryFrame m args 4 = entryFrame m ([.ref (ad (80)), .int (nI (c9)), .int (nI (w9))] : List Value).toArray 4 := by rw [hargs]
  rw [hE, lg_entry_eq]
  generalize (lg_sl ([.ref (ad (80)), .int (nI (c9)), .int (nI (w9))]) ++ List.replicate (4 - (lg_sl ([.ref (ad (80)), .int (nI (c9)), .int (nI (w9))])).length) Slot.unset).toArray = ls at hl ⊢
  have hl : lv_has ls 4 [(0, .ref (ad (80))), (1, .int (nI (c9))), (2, .int (nI (w9)))] := hl
  obtain ⟨hn8, hn60, hn6, -⟩ := id hO
  obtain ⟨f1, f2, f3, f4, f5, f6, f7, f8, f9, ⟨hm0, hm1, hm2, hm3, hm4, hm5, hm6, hm7, hm8, hm9⟩, hme⟩ := id hM
  obtain ⟨em1, em2, em3, em4, em5, em6, em7, em8, em9⟩ := id hme
  refine lv_iconst (v := nI 5) hx hb dX4_caneTold_0 (by decide) ?_
  refine hv_newI hx hb karr hKs hV hS (1) (n := 5) (by decide) (Nat.le_of_ble_eq_true rfl) (Nat.le_of_ble_eq_true rfl) dX4_caneTold_1 (fun ad ct H he hne hna hV hS => ?_)
  have hl : lv_has ls 4 [(0, .ref (ad (80))), (1, .int (nI (c9))), (2, .int (nI (w9)))] := by rw [hna (80) (by omega)]; exact hl
  have hm0 : ct (80) = some (eO 4 [.int (nI (th)), .int (gMi σ), .int (gFu σ), .int (nI (gNC σ)), .ref (ad (96)), .ref (ad (112)), .ref (ad (128)), .ref (ad (144)), .ref (ad (160)), .int (nI (gNS σ)), .ref (ad (176)), .ref (ad (192)), .int (nI (gNB σ)), .ref (ad (208)), .ref (ad (224))]) := by rw [hne (80) (by omega), hna (96) (by omega), hna (112) (by omega), hna (128) (by omega), hna (144) (by omega), hna (160) (by omega), hna (176) (by omega), hna (192) (by omega), hna (208) (by omega), hna (224) (by omega)]; exact hm0
  have hm1 := (hne (96) (by omega)).trans hm1
  have hm2 := (hne (112) (by omega)).trans hm2
  have hm3 := (hne (128) (by omega)).trans hm3
  have hm4 := (hne (144) (by omega)).trans hm4
  have hm5 := (hne (160) (by omega)).trans hm5
  have hm6 := (hne (176) (by omega)).trans hm6
  have hm7 := (hne (192) (by omega)).trans hm7
  have hm8 := (hne (208) (by omega)).trans hm8
  have hm9 := (hne (224) (by omega)).trans hm9
  have hn1 := he
  have hna1 := hna
  have hnf := hne
  refine lv_dup hx hb dX4_caneTold_3 rfl ?_
  refine lv_iconst (v := nI 0) hx hb dX4_caneTold_4 (by decide) ?_
  refine lv_aload_n hx hb dX4_caneTold_5 rfl (lv_at hl 0 rfl) ?_
  refine hv_get (C := RX4) (T := TX4) (N := 15) hx hb hts hiX4 hown hKs hV hm0 4 rfl (by decide) lk13 (fun _ h9 => h9) rfl dX4_caneTold_6 ?_
  refine lv_iload_n hx hb dX4_caneTold_9 rfl (lv_at hl 1 rfl) ?_
  refine hv_iald hx hb hKs hV hm1 (by omega) (by decide) dX4_caneTold_10 ?_
  refine hv_eqi (em1 (c9) (by omega)) ?_
  refine hv_iast hx hb hKs hV hS hn1 (by omega) (by decide) dX4_caneTold_11 (fun ct H locs he hne hV hS => ?_)
  have hm0 := (hne (80) (by omega)).trans hm0
  have hm1 := (hne (96) (by omega)).trans hm1
  have hm2 := (hne (112) (by omega)).trans hm2
  have hm3 := (hne (128) (by omega)).trans hm3
  have hm4 := (hne (144) (by omega)).trans hm4
  have hm5 := (hne (160) (by omega)).trans hm5
  have hm6 := (hne (176) (by omega)).trans hm6
  have hm7 := (hne (192) (by omega)).trans hm7
  have hm8 := (hne (208) (by omega)).trans hm8
  have hm9 := (hne (224) (by omega)).trans hm9
  have hn1 := he
  have hnf := fun (q : Nat) (q1 : q ≠ 1) => (hne q q1).trans (hnf q q1)
  refine lv_dup hx hb dX4_caneTold_12 rfl ?_
  refine lv_iconst (v := nI 1) hx hb dX4_caneTold_13 (by decide) ?_
  refine lv_aload_n hx hb dX4_caneTold_14 rfl (lv_at hl 0 rfl) ?_
  refine hv_get (C := RX4) (T := TX4) (N := 15) hx hb hts hiX4 hown hKs hV hm0 5 rfl (by decide) lk17 (fun _ h9 => h9) rfl dX4_caneTold_15 ?_
  refine lv_iload_n hx hb dX4_caneTold_18 rfl (lv_at hl 1 rfl) ?_
  refine hv_iald hx hb hKs hV hm2 (by omega) (by decide) dX4_caneTold_19 ?_
  refine hv_eqi ((em2 (c9) (by omega)).trans (if_pos (by omega))) ?_
  refine hv_iast hx hb hKs hV hS hn1 (by omega) (by decide) dX4_caneTold_20 (fun ct H locs he hne hV hS => ?_)
  have hm0 := (hne (80) (by omega)).trans hm0
  have hm1 := (hne (96) (by omega)).trans hm1
  have hm2 := (hne (112) (by omega)).trans hm2
  have hm3 := (hne (128) (by omega)).trans hm3
  have hm4 := (hne (144) (by omega)).trans hm4
  have hm5 := (hne (160) (by omega)).trans hm5
  have hm6 := (hne (176) (by omega)).trans hm6
  have hm7 := (hne (192) (by omega)).trans hm7
  have hm8 := (hne (208) (by omega)).trans hm8
  have hm9 := (hne (224) (by omega)).trans hm9
  have hn1 := he
  have hnf := fun (q : Nat) (q1 : q ≠ 1) => (hne q q1).trans (hnf q q1)
  refine lv_dup hx hb dX4_caneTold_21 rfl ?_
  refine lv_iconst (v := nI 2) hx hb dX4_caneTold_22 (by decide) ?_
  refine lv_aload_n hx hb dX4_caneTold_23 rfl (lv_at hl 0 rfl) ?_
  refine hv_get (C := RX4) (T := TX4) (N := 15) hx hb hts hiX4 hown hKs hV hm0 6 rfl (by decide) lk20 (fun _ h9 => h9) rfl dX4_caneTold_24 ?_
  refine lv_iload_n hx hb dX4_caneTold_27 rfl (lv_at hl 1 rfl) ?_
  refine hv_iald hx hb hKs hV hm3 (by omega) (by decide) dX4_caneTold_28 ?_
  refine hv_eqi (em3 (c9) (by omega)) ?_
  refine hv_iast hx hb hKs hV hS hn1 (by omega) (by decide) dX4_caneTold_29 (fun ct H locs he hne hV hS => ?_)
  have hm0 := (hne (80) (by omega)).trans hm0
  have hm1 := (hne (96) (by omega)).trans hm1
  have hm2 := (hne (112) (by omega)).trans hm2
  have hm3 := (hne (128) (by omega)).trans hm3
  have hm4 := (hne (144) (by omega)).trans hm4
  have hm5 := (hne (160) (by omega)).trans hm5
  have hm6 := (hne (176) (by omega)).trans hm6
  have hm7 := (hne (192) (by omega)).trans hm7
  have hm8 := (hne (208) (by omega)).trans hm8
  have hm9 := (hne (224) (by omega)).trans hm9
  have hn1 := he
  have hnf := fun (q : Nat) (q1 : q ≠ 1) => (hne q q1).trans (hnf q q1)
  refine lv_dup hx hb dX4_caneTold_30 rfl ?_
  refine lv_iconst (v := nI 3) hx hb dX4_caneTold_31 (by decide) ?_
  refine lv_aload_n hx hb dX4_caneTold_32 rfl (lv_at hl 0 rfl) ?_
  refine hv_get (C := RX4) (T := TX4) (N := 15) hx hb hts hiX4 hown hKs hV hm0 7 rfl (by decide) lk23 (fun _ h9 => h9) rfl dX4_caneTold_33 ?_
  refine lv_iload_n hx hb dX4_caneTold_36 rfl (lv_at hl 1 rfl) ?_
  refine hv_iald hx hb hKs hV hm4 (by omega) (by decide) dX4_caneTold_37 ?_
  refine hv_eqi (em4 (c9) (by omega)) ?_
  refine hv_iast hx hb hKs hV hS hn1 (by omega) (by decide) dX4_caneTold_38 (fun ct H locs he hne hV hS => ?_)
  have hm0 := (hne (80) (by omega)).trans hm0
  have hm1 := (hne (96) (by omega)).trans hm1
  have hm2 := (hne (112) (by omega)).trans hm2
  have hm3 := (hne (128) (by omega)).trans hm3
  have hm4 := (hne (144) (by omega)).trans hm4
  have hm5 := (hne (160) (by omega)).trans hm5
  have hm6 := (hne (176) (by omega)).trans hm6
  have hm7 := (hne (192) (by omega)).trans hm7
  have hm8 := (hne (208) (by omega)).trans hm8
  have hm9 := (hne (224) (by omega)).trans hm9
  have hn1 := he
  have hnf := fun (q : Nat) (q1 : q ≠ 1) => (hne q q1).trans (hnf q q1)
  refine lv_dup hx hb dX4_caneTold_39 rfl ?_
  refine lv_iconst (v := nI 4) hx hb dX4_caneTold_40 (by decide) ?_
  refine lv_iload_n hx hb dX4_caneTold_41 rfl (lv_at hl 1 rfl) ?_
  refine lv_aload_n hx hb dX4_caneTold_42 rfl (lv_at hl 0 rfl) ?_
  refine hv_get (C := RX4) (T := TX4) (N := 15) hx hb hts hiX4 hown hKs hV hm0 2 rfl (by decide) lk9 (fun _ h9 => h9) rfl dX4_caneTold_43 ?_
  refine hL_icmp_ne (tgt := 53) hx hb (by omega) dX4_caneTold_46 (by decide) (fun c46 => ?_) (fun c46 => ?_)
  · refine lv_iconst (v := nI 0) hx hb dX4_caneTold_53 (by decide) ?_
    refine hv_iast hx hb hKs hV hS hn1 (by omega) (by decide) dX4_caneTold_54 (fun ct H locs he hne hV hS => ?_)
    have hm0 := (hne (80) (by omega)).trans hm0
    have hm1 := (hne (96) (by omega)).trans hm1
    have hm2 := (hne (112) (by omega)).trans hm2
    have hm3 := (hne (128) (by omega)).trans hm3
    have hm4 := (hne (144) (by omega)).trans hm4
    have hm5 := (hne (160) (by omega)).trans hm5
    have hm6 := (hne (176) (by omega)).trans hm6
    have hm7 := (hne (192) (by omega)).trans hm7
    have hm8 := (hne (208) (by omega)).trans hm8
    have hm9 := (hne (224) (by omega)).trans hm9
    have hn1 := he
    have hnf := fun (q : Nat) (q1 : q ≠ 1) => (hne q q1).trans (hnf q q1)
    refine lv_astore_n (lv' := [(3, .ref (ad (1))), (0, .ref (ad (80))), (1, .int (nI (c9))), (2, .int (nI (w9)))]) hx hb dX4_caneTold_55 rfl hl (by decide) rfl (fun ls hl => ?_)
    refine lv_aload_n hx hb dX4_caneTold_56 rfl (lv_at hl 0 rfl) ?_
    refine lv_iload_n hx hb dX4_caneTold_57 rfl (lv_at hl 3 rfl) ?_
    refine hv_iald hx hb hKs hV hn1 (by omega) (by decide) dX4_caneTold_58 ?_
    refine W.widen (k := 1) (n := 5) (by omega) (by omega) ?_
    exact hv_iret (v := (va_up (va_up (va_up (va_up (va_up (fun _ => 0) (0) (nI (cLen σ (c9)))) (1) ((cTw σ (c9)))) (2) (nI (cHt σ (c9)))) (3) (nI (wh σ (c9)))) (4) (nI (0)) (w9))) (u := (ad, ct)) hx hb hr ⟨(told5 (σ := σ) (c := c9) (b := false) hw9 rfl rfl rfl rfl rfl).trans (tel_f (i := c9) (by omega) c46), fun q q1 => hna1 q q1, fun q q1 => hnf q q1⟩ hV hS dX4_caneTold_59 hlocks
  · refine lv_iconst (v := nI 1) hx hb dX4_caneTold_49 (by decide) ?_
    refine lv_goto (tgt := 54) hx hb dX4_caneTold_50 (by decide) ?_
    refine hv_iast hx hb hKs hV hS hn1 (by omega) (by decide) dX4_caneTold_54 (fun ct H locs he hne hV hS => ?_)
    have hm0 := (hne (80) (by omega)).trans hm0
    have hm1 := (hne (96) (by omega)).trans hm1
    have hm2 := (hne (112) (by omega)).trans hm2
    have hm3 := (hne (128) (by omega)).trans hm3
    have hm4 := (hne (144) (by omega)).trans hm4
    have hm5 := (hne (160) (by omega)).trans hm5
    have hm6 := (hne (176) (by omega)).trans hm6
    have hm7 := (hne (192) (by omega)).trans hm7
    have hm8 := (hne (208) (by omega)).trans hm8
    have hm9 := (hne (224) (by omega)).trans hm9
    have hn1 := he
    have hnf := fun (q : Nat) (q1 : q ≠ 1) => (hne q q1).trans (hnf q q1)
    refine lv_astore_n (lv' := [(3, .ref (ad (1))), (0, .ref (ad (80))), (1, .int (nI (c9))), (2, .int (nI (w9)))]) hx hb dX4_caneTold_55 rfl hl (by decide) rfl (fun ls hl => ?_)
    refine lv_aload_n hx hb dX4_caneTold_56 rfl (lv_at hl 0 rfl) ?_
    refine lv_iload_n hx hb dX4_caneTold_57 rfl (lv_at hl 3 rfl) ?_
    refine hv_iald hx hb hKs hV hn1 (by omega) (by decide) dX4_caneTold_58 ?_
    refine W.widen (k := 1) (n := 5) (by omega) (by omega) ?_
    exact hv_iret (v := (va_up (va_up (va_up (va_up (va_up (fun _ => 0) (0) (nI (cLen σ (c9)))) (1) ((cTw σ (c9)))) (2) (nI (cHt σ (c9)))) (3) (nI (wh σ (c9)))) (4) (nI (1)) (w9))) (u := (ad, ct)) hx hb hr ⟨(told5 (σ := σ) (c := c9) (b := true) hw9 rfl rfl rfl rfl rfl).trans (tel_t (i := c9) (by omega) c46), fun q q1 => hna1 q q1, fun q q1 => hnf q q1⟩ hV hS dX4_caneTold_59 hlocks

set_option maxHeartbeats 4000000 in
set_option maxRecDepth 100000 in
theorem c_X4_counted (l : Launch) (D : hG) (N0 : Nat) (ad : Nat → Nat) (ct : hC) {σ : gS} {th : Nat} (hM : gM D σ th ad ct) (hO : okS σ) (w9 : Nat) (hw9 : w9 < 8) : Met l yX4_counted wsX4_counted ({ frames := 5, cells := 1, slots := 8, locals := 116 }) (hPc D N0 ad ct [.ref (ad (80)), .int (nI (w9))]) (va_Qi (fun (z : Int32) (u : hU) => z = tal σ w9 ∧ (∀ q : Nat, q ≠ 1 → u.1 q = ad q) ∧ ∀ q : Nat, q ≠ 1 → u.2 q = ct q) (hB D N0) (hA N0)) 1 8 (hA N0) := by
  refine Met.ofW (cc := cX4_counted) (maxL := 7) (ret := (some .int)) (by decide) rfl ?_
  intro p e s m args below meth c s₁ B hml hv0
  obtain ⟨hargs, hKs, hV⟩ := hv0
  have hx := B.exec
  have hb := B.bytes
  have hr := B.returns
  have hts := atoms_spec (ws := wsX4_counted) B.pre
  have hown : s.vm.findClass RX4 = some m.cls := findClass_of_methodNamed B.named
  have hlocks := B.notSynchronized
  have hS : va_S (hA N0) s.heap s.heap [] := va_S.rf
  have hiX4 : ∀ w ∈ u_ws RX4 TX4 15, w ∈ wsX4_counted := by decide +kernel
  have lk44 := hts (.fieldLink RX4 44 "CaneSlicesModel" "canes" "I") (by decide +kernel)
  have lk51 := hts (.fieldLink RX4 51 "CaneSlicesModel" "slices" "I") (by decide +kernel)
  have lk54 := hts (.fieldLink RX4 54 "CaneSlicesModel" "beads" "I") (by decide +kernel)
  have karr := hts (.arrayClass .int) (by decide +kernel)
  have lk77 := hts (.fieldLink RX4 77 "CaneSlicesModel" "minute" "I") (by decide +kernel)
  have lk32 := hts (.fieldLink RX4 32 "CaneSlicesModel" "place" "[I") (by decide +kernel)
  have lk23 := hts (.fieldLink RX4 23 "CaneSlicesModel" "isWhole" "[I") (by decide +kernel)
  have lk13 := hts (.fieldLink RX4 13 "CaneSlicesModel" "length" "[I") (by decide +kernel)
  have hl := lv_entry ([.ref (ad (80)), .int (nI (w9))]) (n := 7) (Nat.le_of_ble_eq_true rfl)
  have hE : entryFrame m args 7 = entryFrame m ([.ref (ad (80)), .int (nI (w9))] : List Value).toArray 7 := by rw [hargs]
  rw [hE, lg_entry_eq]
  generalize (lg_sl ([.ref (ad (80)), .int (nI (w9))]) ++ List.replicate (7 - (lg_sl ([.ref (ad (80)), .int (nI (w9))])).length) Slot.unset).toArray = ls at hl ⊢
  have hl : lv_has ls 7 [(0, .ref (ad (80))), (1, .int (nI (w9)))] := hl
  obtain ⟨hn8, hn60, hn6, -⟩ := id hO
  obtain ⟨f1, f2, f3, f4, f5, f6, f7, f8, f9, ⟨hm0, hm1, hm2, hm3, hm4, hm5, hm6, hm7, hm8, hm9⟩, hme⟩ := id hM
  obtain ⟨em1, em2, em3, em4, em5, em6, em7, em8, em9⟩ := id hme
  refine lv_iconst (v := nI 0) hx hb dX4_counted_0 (by decide) ?_
  refine lv_istore_n (lv' := [(2, .int (nI (0))), (0, .ref (ad (80))), (1, .int (nI (w9)))]) hx hb dX4_counted_1 rfl hl (by decide) rfl (fun ls hl => ?_)
  refine lv_iconst (v := nI 0) hx hb dX4_counted_2 (by decide) ?_
  refine lv_istore_n (lv' := [(3, .int (nI (0))), (2, .int (nI (0))), (0, .ref (ad (80))), (1, .int (nI (w9)))]) hx hb dX4_counted_3 rfl hl (by decide) rfl (fun ls hl => ?_)
  refine lv_iconst (v := nI 0) hx hb dX4_counted_4 (by decide) ?_
  refine lv_istore (lv' := [(4, .int (nI (0))), (3, .int (nI (0))), (2, .int (nI (0))), (0, .ref (ad (80))), (1, .int (nI (w9)))]) hx hb dX4_counted_5 hl (by decide) rfl (fun ls hl => ?_)
  refine lv_iconst (v := nI 0) hx hb dX4_counted_7 (by decide) ?_
  refine lv_istore (lv' := [(5, .int (nI (0))), (4, .int (nI (0))), (3, .int (nI (0))), (2, .int (nI (0))), (0, .ref (ad (80))), (1, .int (nI (w9)))]) hx hb dX4_counted_8 hl (by decide) rfl (fun ls hl => ?_)
  refine lv_iconst (v := nI 0) hx hb dX4_counted_10 (by decide) ?_
  refine lv_istore (lv' := [(6, .int (nI (0))), (5, .int (nI (0))), (4, .int (nI (0))), (3, .int (nI (0))), (2, .int (nI (0))), (0, .ref (ad (80))), (1, .int (nI (w9)))]) hx hb dX4_counted_11 hl (by decide) rfl (fun ls hl => ?_)
  have L13 : ∀ (n i : Nat) (a1 : Nat) (a2 : Nat), i ≤ gNC σ → gNC σ < i + n → ∀ (H : Heap) (locs : List Loc), (a1 = nsm (wh σ) i) → (a2 = nsm (cLen σ) i) → hv D N0 ad ct H → va_S (hA N0) s.heap H locs → ∀ ls : Array Slot, lv_has ls 7 [(0, .ref (ad (80))), (1, .int (nI (w9))), (2, .int (nI (a1))), (3, .int (nI (a2))), (4, .int (nI (0))), (5, .int (nI (0))), (6, .int (nI (i)))] → W p l e (headSpec wsX4_counted ({ frames := 5, cells := 1, slots := 8, locals := 116 })).room s m args below meth c H locs 0 0 (MQ below (va_Qi (fun (z : Int32) (u : hU) => z = tal σ w9 ∧ (∀ q : Nat, q ≠ 1 → u.1 q = ad q) ∧ ∀ q : Nat, q ≠ 1 → u.2 q = ct q) (hB D N0) (hA N0)) args s 1 8 (hA N0)) (F0 m 13 ls []) := by
    intro n
    induction n with
    | zero => intro i a1 a2 h1 h2; exact absurd h2 (by omega)
    | succ n ih13 =>
      intro i a1 a2 hi13 hn13 H locs g1 g2 hV hS ls hl
      refine lv_iload hx hb dX4_counted_13 (lv_at hl 6 rfl) ?_
      refine lv_aload_n hx hb dX4_counted_15 rfl (lv_at hl 0 rfl) ?_
      refine hv_get (C := RX4) (T := TX4) (N := 15) hx hb hts hiX4 hown hKs hV hm0 3 rfl (by decide) lk44 (fun _ h9 => h9) rfl dX4_counted_16 ?_
      refine hN_icmp_ge (tgt := 48) hx hb (by omega) (by omega) dX4_counted_19 (by decide) (fun c19 => ?_) (fun c19 => ?_)
      · refine lv_iconst (v := nI 0) hx hb dX4_counted_48 (by decide) ?_
        refine lv_istore (lv' := [(6, .int (nI (0))), (0, .ref (ad (80))), (1, .int (nI (w9))), (2, .int (nI (a1))), (3, .int (nI (a2))), (4, .int (nI (0))), (5, .int (nI (0)))]) hx hb dX4_counted_49 hl (by decide) rfl (fun ls hl => ?_)
        have L51 : ∀ (n j : Nat) (a3 : Nat), j ≤ gNS σ → gNS σ < j + n → ∀ (H : Heap) (locs : List Loc), (a3 = nsm (im σ) j) → hv D N0 ad ct H → va_S (hA N0) s.heap H locs → ∀ ls : Array Slot, lv_has ls 7 [(0, .ref (ad (80))), (1, .int (nI (w9))), (2, .int (nI (a1))), (3, .int (nI (a2))), (4, .int (nI (a3))), (5, .int (nI (0))), (6, .int (nI (j)))] → W p l e (headSpec wsX4_counted ({ frames := 5, cells := 1, slots := 8, locals := 116 })).room s m args below meth c H locs 0 0 (MQ below (va_Qi (fun (z : Int32) (u : hU) => z = tal σ w9 ∧ (∀ q : Nat, q ≠ 1 → u.1 q = ad q) ∧ ∀ q : Nat, q ≠ 1 → u.2 q = ct q) (hB D N0) (hA N0)) args s 1 8 (hA N0)) (F0 m 51 ls []) := by
          intro n
          induction n with
          | zero => intro j a3 h1 h2; exact absurd h2 (by omega)
          | succ n ih51 =>
            intro j a3 hi51 hn51 H locs g3 hV hS ls hl
            refine lv_iload hx hb dX4_counted_51 (lv_at hl 6 rfl) ?_
            refine lv_aload_n hx hb dX4_counted_53 rfl (lv_at hl 0 rfl) ?_
            refine hv_get (C := RX4) (T := TX4) (N := 15) hx hb hts hiX4 hown hKs hV hm0 9 rfl (by decide) lk51 (fun _ h9 => h9) rfl dX4_counted_54 ?_
            refine hN_icmp_ge (tgt := 87) hx hb (by omega) (by omega) dX4_counted_57 (by decide) (fun c57 => ?_) (fun c57 => ?_)
            · refine lv_iconst (v := nI 0) hx hb dX4_counted_87 (by decide) ?_
              refine lv_istore (lv' := [(6, .int (nI (0))), (0, .ref (ad (80))), (1, .int (nI (w9))), (2, .int (nI (a1))), (3, .int (nI (a2))), (4, .int (nI (a3))), (5, .int (nI (0)))]) hx hb dX4_counted_88 hl (by decide) rfl (fun ls hl => ?_)
              have L90 : ∀ (n k : Nat) (a4 : Nat), k ≤ gNB σ → gNB σ < k + n → ∀ (H : Heap) (locs : List Loc), (a4 = nsm (blm σ) k) → hv D N0 ad ct H → va_S (hA N0) s.heap H locs → ∀ ls : Array Slot, lv_has ls 7 [(0, .ref (ad (80))), (1, .int (nI (w9))), (2, .int (nI (a1))), (3, .int (nI (a2))), (4, .int (nI (a3))), (5, .int (nI (a4))), (6, .int (nI (k)))] → W p l e (headSpec wsX4_counted ({ frames := 5, cells := 1, slots := 8, locals := 116 })).room s m args below meth c H locs 0 0 (MQ below (va_Qi (fun (z : Int32) (u : hU) => z = tal σ w9 ∧ (∀ q : Nat, q ≠ 1 → u.1 q = ad q) ∧ ∀ q : Nat, q ≠ 1 → u.2 q = ct q) (hB D N0) (hA N0)) args s 1 8 (hA N0)) (F0 m 90 ls []) := by
                intro n
                induction n with
                | zero => intro k a4 h1 h2; exact absurd h2 (by omega)
                | succ n ih90 =>
                  intro k a4 hi90 hn90 H locs g4 hV hS ls hl
                  refine lv_iload hx hb dX4_counted_90 (lv_at hl 6 rfl) ?_
                  refine lv_aload_n hx hb dX4_counted_92 rfl (lv_at hl 0 rfl) ?_
                  refine hv_get (C := RX4) (T := TX4) (N := 15) hx hb hts hiX4 hown hKs hV hm0 12 rfl (by decide) lk54 (fun _ h9 => h9) rfl dX4_counted_93 ?_
                  refine hN_icmp_ge (tgt := 126) hx hb (by omega) (by omega) dX4_counted_96 (by decide) (fun c96 => ?_) (fun c96 => ?_)
                  · refine lv_bipush (v := nI 8) hx hb dX4_counted_126 (by decide) ?_
                    refine hv_newI hx hb karr hKs hV hS (1) (n := 8) (by decide) (Nat.le_of_ble_eq_true rfl) (Nat.le_of_ble_eq_true rfl) dX4_counted_128 (fun ad ct H he hne hna hV hS => ?_)
                    have hl : lv_has ls 7 [(0, .ref (ad (80))), (1, .int (nI (w9))), (2, .int (nI (a1))), (3, .int (nI (a2))), (4, .int (nI (a3))), (5, .int (nI (a4))), (6, .int (nI (k)))] := by rw [hna (80) (by omega)]; exact hl
                    have hm0 : ct (80) = some (eO 4 [.int (nI (th)), .int (gMi σ), .int (gFu σ), .int (nI (gNC σ)), .ref (ad (96)), .ref (ad (112)), .ref (ad (128)), .ref (ad (144)), .ref (ad (160)), .int (nI (gNS σ)), .ref (ad (176)), .ref (ad (192)), .int (nI (gNB σ)), .ref (ad (208)), .ref (ad (224))]) := by rw [hne (80) (by omega), hna (96) (by omega), hna (112) (by omega), hna (128) (by omega), hna (144) (by omega), hna (160) (by omega), hna (176) (by omega), hna (192) (by omega), hna (208) (by omega), hna (224) (by omega)]; exact hm0
                    have hm1 := (hne (96) (by omega)).trans hm1
                    have hm2 := (hne (112) (by omega)).trans hm2
                    have hm3 := (hne (128) (by omega)).trans hm3
                    have hm4 := (hne (144) (by omega)).trans hm4
                    have hm5 := (hne (160) (by omega)).trans hm5
                    have hm6 := (hne (176) (by omega)).trans hm6
                    have hm7 := (hne (192) (by omega)).trans hm7
                    have hm8 := (hne (208) (by omega)).trans hm8
                    have hm9 := (hne (224) (by omega)).trans hm9
                    have hn1 := he
                    have hna1 := hna
                    have hnf := hne
                    refine lv_dup hx hb dX4_counted_130 rfl ?_
                    refine lv_iconst (v := nI 0) hx hb dX4_counted_131 (by decide) ?_
                    refine lv_aload_n hx hb dX4_counted_132 rfl (lv_at hl 0 rfl) ?_
                    refine hv_get (C := RX4) (T := TX4) (N := 15) hx hb hts hiX4 hown hKs hV hm0 1 rfl (by decide) lk77 (fun _ h9 => h9) rfl dX4_counted_133 ?_
                    refine hv_iast hx hb hKs hV hS hn1 (by omega) (by decide) dX4_counted_136 (fun ct H locs he hne hV hS => ?_)
                    have hm0 := (hne (80) (by omega)).trans hm0
                    have hm1 := (hne (96) (by omega)).trans hm1
                    have hm2 := (hne (112) (by omega)).trans hm2
                    have hm3 := (hne (128) (by omega)).trans hm3
                    have hm4 := (hne (144) (by omega)).trans hm4
                    have hm5 := (hne (160) (by omega)).trans hm5
                    have hm6 := (hne (176) (by omega)).trans hm6
                    have hm7 := (hne (192) (by omega)).trans hm7
                    have hm8 := (hne (208) (by omega)).trans hm8
                    have hm9 := (hne (224) (by omega)).trans hm9
                    have hn1 := he
                    have hnf := fun (q : Nat) (q1 : q ≠ 1) => (hne q q1).trans (hnf q q1)
                    refine lv_dup hx hb dX4_counted_137 rfl ?_
                    refine lv_iconst (v := nI 1) hx hb dX4_counted_138 (by decide) ?_
                    refine lv_aload_n hx hb dX4_counted_139 rfl (lv_at hl 0 rfl) ?_
                    refine hv_get (C := RX4) (T := TX4) (N := 15) hx hb hts hiX4 hown hKs hV hm0 3 rfl (by decide) lk44 (fun _ h9 => h9) rfl dX4_counted_140 ?_
                    refine hv_iast hx hb hKs hV hS hn1 (by omega) (by decide) dX4_counted_143 (fun ct H locs he hne hV hS => ?_)
                    have hm0 := (hne (80) (by omega)).trans hm0
                    have hm1 := (hne (96) (by omega)).trans hm1
                    have hm2 := (hne (112) (by omega)).trans hm2
                    have hm3 := (hne (128) (by omega)).trans hm3
                    have hm4 := (hne (144) (by omega)).trans hm4
                    have hm5 := (hne (160) (by omega)).trans hm5
                    have hm6 := (hne (176) (by omega)).trans hm6
                    have hm7 := (hne (192) (by omega)).trans hm7
                    have hm8 := (hne (208) (by omega)).trans hm8
                    have hm9 := (hne (224) (by omega)).trans hm9
                    have hn1 := he
                    have hnf := fun (q : Nat) (q1 : q ≠ 1) => (hne q q1).trans (hnf q q1)
                    refine lv_dup hx hb dX4_counted_144 rfl ?_
                    refine lv_iconst (v := nI 2) hx hb dX4_counted_145 (by decide) ?_
                    refine lv_iload_n hx hb dX4_counted_146 rfl (lv_at hl 2 rfl) ?_
                    refine hv_iast hx hb hKs hV hS hn1 (by omega) (by decide) dX4_counted_147 (fun ct H locs he hne hV hS => ?_)
                    have hm0 := (hne (80) (by omega)).trans hm0
                    have hm1 := (hne (96) (by omega)).trans hm1
                    have hm2 := (hne (112) (by omega)).trans hm2
                    have hm3 := (hne (128) (by omega)).trans hm3
                    have hm4 := (hne (144) (by omega)).trans hm4
                    have hm5 := (hne (160) (by omega)).trans hm5
                    have hm6 := (hne (176) (by omega)).trans hm6
                    have hm7 := (hne (192) (by omega)).trans hm7
                    have hm8 := (hne (208) (by omega)).trans hm8
                    have hm9 := (hne (224) (by omega)).trans hm9
                    have hn1 := he
                    have hnf := fun (q : Nat) (q1 : q ≠ 1) => (hne q q1).trans (hnf q q1)
                    refine lv_dup hx hb dX4_counted_148 rfl ?_
                    refine lv_iconst (v := nI 3) hx hb dX4_counted_149 (by decide) ?_
                    refine lv_aload_n hx hb dX4_counted_150 rfl (lv_at hl 0 rfl) ?_
                    refine hv_get (C := RX4) (T := TX4) (N := 15) hx hb hts hiX4 hown hKs hV hm0 9 rfl (by decide) lk51 (fun _ h9 => h9) rfl dX4_counted_151 ?_
                    refine hv_iast hx hb hKs hV hS hn1 (by omega) (by decide) dX4_counted_154 (fun ct H locs he hne hV hS => ?_)
                    have hm0 := (hne (80) (by omega)).trans hm0
                    have hm1 := (hne (96) (by omega)).trans hm1
                    have hm2 := (hne (112) (by omega)).trans hm2
                    have hm3 := (hne (128) (by omega)).trans hm3
                    have hm4 := (hne (144) (by omega)).trans hm4
                    have hm5 := (hne (160) (by omega)).trans hm5
                    have hm6 := (hne (176) (by omega)).trans hm6
                    have hm7 := (hne (192) (by omega)).trans hm7
                    have hm8 := (hne (208) (by omega)).trans hm8
                    have hm9 := (hne (224) (by omega)).trans hm9
                    have hn1 := he
                    have hnf := fun (q : Nat) (q1 : q ≠ 1) => (hne q q1).trans (hnf q q1)
                    refine lv_dup hx hb dX4_counted_155 rfl ?_
                    refine lv_iconst (v := nI 4) hx hb dX4_counted_156 (by decide) ?_
                    refine lv_iload hx hb dX4_counted_157 (lv_at hl 4 rfl) ?_
                    refine hv_iast hx hb hKs hV hS hn1 (by omega) (by decide) dX4_counted_159 (fun ct H locs he hne hV hS => ?_)
                    have hm0 := (hne (80) (by omega)).trans hm0
                    have hm1 := (hne (96) (by omega)).trans hm1
                    have hm2 := (hne (112) (by omega)).trans hm2
                    have hm3 := (hne (128) (by omega)).trans hm3
                    have hm4 := (hne (144) (by omega)).trans hm4
                    have hm5 := (hne (160) (by omega)).trans hm5
                    have hm6 := (hne (176) (by omega)).trans hm6
                    have hm7 := (hne (192) (by omega)).trans hm7
                    have hm8 := (hne (208) (by omega)).trans hm8
                    have hm9 := (hne (224) (by omega)).trans hm9
                    have hn1 := he
                    have hnf := fun (q : Nat) (q1 : q ≠ 1) => (hne q q1).trans (hnf q q1)
                    refine lv_dup hx hb dX4_counted_160 rfl ?_
                    refine lv_iconst (v := nI 5) hx hb dX4_counted_161 (by decide) ?_
                    refine lv_aload_n hx hb dX4_counted_162 rfl (lv_at hl 0 rfl) ?_
                    refine hv_get (C := RX4) (T := TX4) (N := 15) hx hb hts hiX4 hown hKs hV hm0 12 rfl (by decide) lk54 (fun _ h9 => h9) rfl dX4_counted_163 ?_
                    refine hv_iast hx hb hKs hV hS hn1 (by omega) (by decide) dX4_counted_166 (fun ct H locs he hne hV hS => ?_)
                    have hm0 := (hne (80) (by omega)).trans hm0
                    have hm1 := (hne (96) (by omega)).trans hm1
                    have hm2 := (hne (112) (by omega)).trans hm2
                    have hm3 := (hne (128) (by omega)).trans hm3
                    have hm4 := (hne (144) (by omega)).trans hm4
                    have hm5 := (hne (160) (by omega)).trans hm5
                    have hm6 := (hne (176) (by omega)).trans hm6
                    have hm7 := (hne (192) (by omega)).trans hm7
                    have hm8 := (hne (208) (by omega)).trans hm8
                    have hm9 := (hne (224) (by omega)).trans hm9
                    have hn1 := he
                    have hnf := fun (q : Nat) (q1 : q ≠ 1) => (hne q q1).trans (hnf q q1)
                    refine lv_dup hx hb dX4_counted_167 rfl ?_
                    refine lv_bipush (v := nI 6) hx hb dX4_counted_168 (by decide) ?_
                    refine lv_iload hx hb dX4_counted_170 (lv_at hl 5 rfl) ?_
                    refine hv_iast hx hb hKs hV hS hn1 (by omega) (by decide) dX4_counted_172 (fun ct H locs he hne hV hS => ?_)
                    have hm0 := (hne (80) (by omega)).trans hm0
                    have hm1 := (hne (96) (by omega)).trans hm1
                    have hm2 := (hne (112) (by omega)).trans hm2
                    have hm3 := (hne (128) (by omega)).trans hm3
                    have hm4 := (hne (144) (by omega)).trans hm4
                    have hm5 := (hne (160) (by omega)).trans hm5
                    have hm6 := (hne (176) (by omega)).trans hm6
                    have hm7 := (hne (192) (by omega)).trans hm7
                    have hm8 := (hne (208) (by omega)).trans hm8
                    have hm9 := (hne (224) (by omega)).trans hm9
                    have hn1 := he
                    have hnf := fun (q : Nat) (q1 : q ≠ 1) => (hne q q1).trans (hnf q q1)
                    refine lv_dup hx hb dX4_counted_173 rfl ?_
                    refine lv_bipush (v := nI 7) hx hb dX4_counted_174 (by decide) ?_
                    refine lv_iload_n hx hb dX4_counted_176 rfl (lv_at hl 3 rfl) ?_
                    refine hv_iast hx hb hKs hV hS hn1 (by omega) (by decide) dX4_counted_177 (fun ct H locs he hne hV hS => ?_)
                    have hm0 := (hne (80) (by omega)).trans hm0
                    have hm1 := (hne (96) (by omega)).trans hm1
                    have hm2 := (hne (112) (by omega)).trans hm2
                    have hm3 := (hne (128) (by omega)).trans hm3
                    have hm4 := (hne (144) (by omega)).trans hm4
                    have hm5 := (hne (160) (by omega)).trans hm5
                    have hm6 := (hne (176) (by omega)).trans hm6
                    have hm7 := (hne (192) (by omega)).trans hm7
                    have hm8 := (hne (208) (by omega)).trans hm8
                    have hm9 := (hne (224) (by omega)).trans hm9
                    have hn1 := he
                    have hnf := fun (q : Nat) (q1 : q ≠ 1) => (hne q q1).trans (hnf q q1)
                    refine lv_astore (lv' := [(6, .ref (ad (1))), (0, .ref (ad (80))), (1, .int (nI (w9))), (2, .int (nI (a1))), (3, .int (nI (a2))), (4, .int (nI (a3))), (5, .int (nI (a4)))]) hx hb dX4_counted_178 hl (by decide) rfl (fun ls hl => ?_)
                    refine lv_aload hx hb dX4_counted_180 (lv_at hl 0 rfl) ?_
                    refine lv_iload_n hx hb dX4_counted_182 rfl (lv_at hl 2 rfl) ?_
                    refine hv_iald hx hb hKs hV hn1 (by omega) (by decide) dX4_counted_183 ?_
                    refine W.widen (k := 1) (n := 8) (by omega) (by omega) ?_
                    exact hv_iret (v := (va_up (va_up (va_up (va_up (va_up (va_up (va_up (va_up (fun _ => 0) (0) ((gMi σ))) (1) (nI (gNC σ))) (2) (nI (a1))) (3) (nI (gNS σ))) (4) (nI (a3))) (5) (nI (gNB σ))) (6) (nI (a4))) (7) (nI (a2)) (w9))) (u := (ad, ct)) hx hb hr ⟨told8 hw9 rfl rfl (congrArg nI (by rw [g1, show i = gNC σ by omega])) rfl (congrArg nI (by rw [g3, show j = gNS σ by omega, im_sum hO])) rfl (congrArg nI (by rw [g4, show k = gNB σ by omega]; exact nsm_cong fun _ _ => blm_bl hO)) (congrArg nI (by rw [g2, show i = gNC σ by omega])), fun q q1 => hna1 q q1, fun q q1 => hnf q q1⟩ hV hS dX4_counted_184 hlocks
                  · refine lv_iload hx hb dX4_counted_99 (lv_at hl 5 rfl) ?_
                    refine lv_aload_n hx hb dX4_counted_101 rfl (lv_at hl 0 rfl) ?_
                    refine lv_iload hx hb dX4_counted_102 (lv_at hl 6 rfl) ?_
                    refine lv_iconst (v := nI 0) hx hb dX4_counted_104 (by decide) ?_
                    refine hv_calli (va_runV (As := [.int (nI (k)), .int (nI (0))]) (rest := [.int (nI (a4))]) ⟨hx, hb, hml, hown, hts⟩ (c_X4_twins l D N0 ad ct (show gM D σ _ ad ct from ⟨f1, f2, f3, f4, f5, f6, f7, f8, f9, ⟨hm0, hm1, hm2, hm3, hm4, hm5, hm6, hm7, hm8, hm9⟩, hme⟩) hO (k) (0) (by omega) (by omega)) (cwV 2 hts gX4_counted_X4_twins rfl rfl rfl (by decide +kernel) ⟨Nat.le_of_ble_eq_true rfl, Nat.le_of_ble_eq_true rfl⟩) (hv_preV (r := (RX4, TX4, 15)) hKs hV hS hm0 rfl) rfl rfl hl.1 rfl (lv_room (Nat.le_of_ble_eq_true rfl)) dX4_counted_105 ⟨(Nat.le_of_ble_eq_true rfl), (Nat.le_of_ble_eq_true rfl)⟩) hS (fun r9 u9 H locs hq hV hS => ?_)
                    obtain ⟨rfl, rfl⟩ := hq
                    have hV : hv D N0 ad ct H := hV
                    have hf2 : nsm (tw σ (4 * (k) + 0) (4 * (k))) 4 ≤ 4 := nsm_le (f := tw σ (4 * (k) + 0) (4 * (k))) (c := 1) (n := 4) (fun _ _ => by unfold tw; split <;> omega)
                    refine lv_iconst (v := nI 4) hx hb dX4_counted_108 (by decide) ?_
                    refine hN_icmp_ne (tgt := 116) hx hb (by omega) (by omega) dX4_counted_109 (by decide) (fun c109 => ?_) (fun c109 => ?_)
                    · refine lv_iconst (v := nI 0) hx hb dX4_counted_116 (by decide) ?_
                      refine hN_iadd hx hb dX4_counted_117 ?_
                      refine lv_istore (lv' := [(5, .int (nI (a4 + 0))), (0, .ref (ad (80))), (1, .int (nI (w9))), (2, .int (nI (a1))), (3, .int (nI (a2))), (4, .int (nI (a3))), (6, .int (nI (k)))]) hx hb dX4_counted_118 hl (by decide) rfl (fun ls hl => ?_)
                      refine lv_iinc (v := nI (k + 1)) (lv' := [(6, .int (nI (k + 1))), (5, .int (nI (a4 + 0))), (0, .ref (ad (80))), (1, .int (nI (w9))), (2, .int (nI (a1))), (3, .int (nI (a2))), (4, .int (nI (a3)))]) hx hb dX4_counted_120 hl (k := 6) rfl (nI_add (k) 1) (by decide) rfl (fun ls hl => ?_)
                      refine lv_goto (tgt := 90) hx hb dX4_counted_123 (by decide) ?_
                      exact ih90 (k + 1) (a4 + 0) (by omega) (by omega) _ _ (by rw [nsm, g4, show blm σ k = 0 from if_neg c109]) hV hS ls (lv_sub hl [2, 3, 4, 5, 6, 1, 0] rfl)
                    · refine lv_iconst (v := nI 1) hx hb dX4_counted_112 (by decide) ?_
                      refine lv_goto (tgt := 117) hx hb dX4_counted_113 (by decide) ?_
                      refine hN_iadd hx hb dX4_counted_117 ?_
                      refine lv_istore (lv' := [(5, .int (nI (a4 + 1))), (0, .ref (ad (80))), (1, .int (nI (w9))), (2, .int (nI (a1))), (3, .int (nI (a2))), (4, .int (nI (a3))), (6, .int (nI (k)))]) hx hb dX4_counted_118 hl (by decide) rfl (fun ls hl => ?_)
                      refine lv_iinc (v := nI (k + 1)) (lv' := [(6, .int (nI (k + 1))), (5, .int (nI (a4 + 1))), (0, .ref (ad (80))), (1, .int (nI (w9))), (2, .int (nI (a1))), (3, .int (nI (a2))), (4, .int (nI (a3)))]) hx hb dX4_counted_120 hl (k := 6) rfl (nI_add (k) 1) (by decide) rfl (fun ls hl => ?_)
                      refine lv_goto (tgt := 90) hx hb dX4_counted_123 (by decide) ?_
                      exact ih90 (k + 1) (a4 + 1) (by omega) (by omega) _ _ (by rw [nsm, g4, show blm σ k = 1 from if_pos c109]) hV hS ls (lv_sub hl [2, 3, 4, 5, 6, 1, 0] rfl)
              exact L90 (gNB σ + 1) (0) (0) (by omega) (by omega) _ _ (rfl) hV hS ls (lv_sub hl [1, 2, 3, 4, 5, 6, 0] rfl)
            · refine lv_iload hx hb dX4_counted_60 (lv_at hl 4 rfl) ?_
              refine lv_aload_n hx hb dX4_counted_62 rfl (lv_at hl 0 rfl) ?_
              refine hv_get (C := RX4) (T := TX4) (N := 15) hx hb hts hiX4 hown hKs hV hm0 11 rfl (by decide) lk32 (fun _ h9 => h9) rfl dX4_counted_63 ?_
              refine lv_iload hx hb dX4_counted_66 (lv_at hl 6 rfl) ?_
              refine hv_iald hx hb hKs hV hm7 (by omega) (by decide) dX4_counted_68 ?_
              refine hv_eqi (em7 (j) (by omega)) ?_
              refine lv_iconst (v := (-1)) hx hb dX4_counted_69 (by decide) ?_
              refine hI_icmp_ne (tgt := 77) hx hb dX4_counted_70 (by decide) (fun c70 => ?_) (fun c70 => ?_)
              · refine lv_iconst (v := nI 1) hx hb dX4_counted_77 (by decide) ?_
                refine hN_iadd hx hb dX4_counted_78 ?_
                refine lv_istore (lv' := [(4, .int (nI (a3 + 1))), (0, .ref (ad (80))), (1, .int (nI (w9))), (2, .int (nI (a1))), (3, .int (nI (a2))), (5, .int (nI (0))), (6, .int (nI (j)))]) hx hb dX4_counted_79 hl (by decide) rfl (fun ls hl => ?_)
                refine lv_iinc (v := nI (j + 1)) (lv' := [(6, .int (nI (j + 1))), (4, .int (nI (a3 + 1))), (0, .ref (ad (80))), (1, .int (nI (w9))), (2, .int (nI (a1))), (3, .int (nI (a2))), (5, .int (nI (0)))]) hx hb dX4_counted_81 hl (k := 6) rfl (nI_add (j) 1) (by decide) rfl (fun ls hl => ?_)
                refine lv_goto (tgt := 51) hx hb dX4_counted_84 (by decide) ?_
                exact ih51 (j + 1) (a3 + 1) (by omega) (by omega) _ _ (by rw [nsm, g3, show im σ j = 1 from if_neg c70]) hV hS ls (lv_sub hl [2, 3, 4, 5, 1, 6, 0] rfl)
              · refine lv_iconst (v := nI 0) hx hb dX4_counted_73 (by decide) ?_
                refine lv_goto (tgt := 78) hx hb dX4_counted_74 (by decide) ?_
                refine hN_iadd hx hb dX4_counted_78 ?_
                refine lv_istore (lv' := [(4, .int (nI (a3 + 0))), (0, .ref (ad (80))), (1, .int (nI (w9))), (2, .int (nI (a1))), (3, .int (nI (a2))), (5, .int (nI (0))), (6, .int (nI (j)))]) hx hb dX4_counted_79 hl (by decide) rfl (fun ls hl => ?_)
                refine lv_iinc (v := nI (j + 1)) (lv' := [(6, .int (nI (j + 1))), (4, .int (nI (a3 + 0))), (0, .ref (ad (80))), (1, .int (nI (w9))), (2, .int (nI (a1))), (3, .int (nI (a2))), (5, .int (nI (0)))]) hx hb dX4_counted_81 hl (k := 6) rfl (nI_add (j) 1) (by decide) rfl (fun ls hl => ?_)
                refine lv_goto (tgt := 51) hx hb dX4_counted_84 (by decide) ?_
                exact ih51 (j + 1) (a3 + 0) (by omega) (by omega) _ _ (by rw [nsm, g3, show im σ j = 0 from if_pos c70]) hV hS ls (lv_sub hl [2, 3, 4, 5, 1, 6, 0] rfl)
        exact L51 (gNS σ + 1) (0) (0) (by omega) (by omega) _ _ (rfl) hV hS ls (lv_sub hl [1, 2, 3, 4, 5, 6, 0] rfl)
      · refine lv_iload_n hx hb dX4_counted_22 rfl (lv_at hl 2 rfl) ?_
        refine lv_aload_n hx hb dX4_counted_23 rfl (lv_at hl 0 rfl) ?_
        refine hv_get (C := RX4) (T := TX4) (N := 15) hx hb hts hiX4 hown hKs hV hm0 7 rfl (by decide) lk23 (fun _ h9 => h9) rfl dX4_counted_24 ?_
        refine lv_iload hx hb dX4_counted_27 (lv_at hl 6 rfl) ?_
        refine hv_iald hx hb hKs hV hm4 (by omega) (by decide) dX4_counted_29 ?_
        refine hv_eqi (em4 (i) (by omega)) ?_
        refine hN_iadd hx hb dX4_counted_30 ?_
        refine lv_istore_n (lv' := [(2, .int (nI (a1 + wh σ (i)))), (0, .ref (ad (80))), (1, .int (nI (w9))), (3, .int (nI (a2))), (4, .int (nI (0))), (5, .int (nI (0))), (6, .int (nI (i)))]) hx hb dX4_counted_31 rfl hl (by decide) rfl (fun ls hl => ?_)
        refine lv_iload_n hx hb dX4_counted_32 rfl (lv_at hl 3 rfl) ?_
        refine lv_aload_n hx hb dX4_counted_33 rfl (lv_at hl 1 rfl) ?_
        refine hv_get (C := RX4) (T := TX4) (N := 15) hx hb hts hiX4 hown hKs hV hm0 4 rfl (by decide) lk13 (fun _ h9 => h9) rfl dX4_counted_34 ?_
        refine lv_iload hx hb dX4_counted_37 (lv_at hl 6 rfl) ?_
        refine hv_iald hx hb hKs hV hm1 (by omega) (by decide) dX4_counted_39 ?_
        refine hv_eqi (em1 (i) (by omega)) ?_
        refine hN_iadd hx hb dX4_counted_40 ?_
        refine lv_istore_n (lv' := [(3, .int (nI (a2 + cLen σ (i)))), (2, .int (nI (a1 + wh σ (i)))), (0, .ref (ad (80))), (1, .int (nI (w9))), (4, .int (nI (0))), (5, .int (nI (0))), (6, .int (nI (i)))]) hx hb dX4_counted_41 rfl hl (by decide) rfl (fun ls hl => ?_)
        refine lv_iinc (v := nI (i + 1)) (lv' := [(6, .int (nI (i + 1))), (3, .int (nI (a2 + cLen σ (i)))), (2, .int (nI (a1 + wh σ (i)))), (0, .ref (ad (80))), (1, .int (nI (w9))), (4, .int (nI (0))), (5, .int (nI (0)))]) hx hb dX4_counted_42 hl (k := 6) rfl (nI_add (i) 1) (by decide) rfl (fun ls hl => ?_)
        refine lv_goto (tgt := 13) hx hb dX4_counted_45 (by decide) ?_
        exact ih13 (i + 1) (a1 + wh σ (i)) (a2 + cLen σ (i)) (by omega) (by omega) _ _ (by rw [g1]; rfl) (by rw [g2]; rfl) hV hS ls (lv_sub hl [3, 4, 2, 1, 5, 6, 0] rfl)
  exact L13 (gNC σ + 1) (0) (0) (0) (by omega) (by omega) _ _ (rfl) (rfl) hV hS ls (lv_sub hl [5, 6, 4, 3, 2, 1, 0] rfl)

set_option maxHeartbeats 4000000 in
set_option maxRecDepth 100000 in
theorem c_X4_pass (l : Launch) (D : hG) (N0 : Nat) (ad : Nat → Nat) (ct : hC) {σ : gS} {th : Nat} (hM : gM D σ th ad ct) (hN : gNC σ ≤ 8 ∧ ∀ i, i < gNC σ → cHt σ i ≤ 10) : Met l yX4_pass wsX4_pass ({ frames := 1, cells := 0, slots := 0, locals := 15 }) (hPc D N0 ad ct [.ref (ad (80))]) (va_Qv (fun (u : hU) => u.1 = ad ∧ gM D (sPass σ) th u.1 u.2 ∧ hFm ad ct u) (hB D N0) (hA N0)) 0 0 (hA N0) := by
  refine Met.ofW (cc := cX4_pass) (maxL := 2) (ret := none) (by decide) rfl ?_
  intro p e s m args below meth c s₁ B hml hv0
  obtain ⟨hargs, hKs, hV⟩ := hv0
  have hx := B.exec
  have hb := B.bytes
  have hr := B.returns
  have hts := atoms_spec (ws := wsX4_pass) B.pre
  have hown : s.vm.findClass RX4 = some m.cls := findClass_of_methodNamed B.named
  have hlocks := B.notSynchronized
  have hS : va_S (hA N0) s.heap s.heap [] := va_S.rf
  have hiX4 : ∀ w ∈ u_ws RX4 TX4 15, w ∈ wsX4_pass := by decide +kernel
  have lk44 := hts (.fieldLink RX4 44 "CaneSlicesModel" "canes" "I") (by decide +kernel)
  have lk77 := hts (.fieldLink RX4 77 "CaneSlicesModel" "minute" "I") (by decide +kernel)
  have lk20 := hts (.fieldLink RX4 20 "CaneSlicesModel" "heat" "[I") (by decide +kernel)
  have lk9 := hts (.fieldLink RX4 9 "CaneSlicesModel" "furnace" "I") (by decide +kernel)
  have lk74 := hts (.methodLink RX4 74 Lib.Math.max.name) (by decide +kernel)
  have lk71 := hts (.methodLink RX4 71 Lib.Math.min.name) (by decide +kernel)
  have hl := lv_entry ([.ref (ad (80))]) (n := 2) (Nat.le_of_ble_eq_true rfl)
  have hE : entryFrame m args 2 = entryFrame m ([.ref (ad (80))] : List Value).toArray 2 := by rw [hargs]
  rw [hE, lg_entry_eq]
  generalize (lg_sl ([.ref (ad (80))]) ++ List.replicate (2 - (lg_sl ([.ref (ad (80))])).length) Slot.unset).toArray = ls at hl ⊢
  have hl : lv_has ls 2 [(0, .ref (ad (80)))] := hl
  obtain ⟨Qz, hQz⟩ : ∃ z : State → Prop, z = (MQ below (va_Qv (fun (u : hU) => u.1 = ad ∧ gM D (sPass σ) th u.1 u.2 ∧ hFm ad ct u) (hB D N0) (hA N0)) args s 0 0 (hA N0)) := ⟨_, rfl⟩
  rw [← hQz]
  obtain ⟨hn8, hnh⟩ := id hN
  obtain ⟨f1, f2, f3, f4, f5, f6, f7, f8, f9, ⟨hm0, hm1, hm2, hm3, hm4, hm5, hm6, hm7, hm8, hm9⟩, hme⟩ := id hM
  obtain ⟨em1, em2, em3, em4, em5, em6, em7, em8, em9⟩ := id hme
  obtain ⟨ct0, hct0⟩ : ∃ z, z = ct := ⟨ct, rfl⟩
  refine lv_iconst (v := nI 0) hx hb dX4_pass_0 (by decide) ?_
  refine lv_istore_n (lv' := [(1, .int (nI (0))), (0, .ref (ad (80)))]) hx hb dX4_pass_1 rfl hl (by decide) rfl (fun ls hl => ?_)
  have L2 : ∀ (n i : Nat) (F : Nat → Int32), i ≤ gNC σ → gNC σ < i + n → ∀ (ct : hC) (H : Heap) (locs : List Loc), (ct 80 = some (eO 4 [.int (nI (th)), .int (gMi σ), .int (gFu σ), .int (nI (gNC σ)), .ref (ad (96)), .ref (ad (112)), .ref (ad (128)), .ref (ad (144)), .ref (ad (160)), .int (nI (gNS σ)), .ref (ad (176)), .ref (ad (192)), .int (nI (gNB σ)), .ref (ad (208)), .ref (ad (224))])) → (ct 128 = some (eI D 8 F)) → (gMe (agd σ i) f1 f2 F f4 f5 f6 f7 f8 f9) → (∀ q : Nat, q ≠ 128 → ct q = ct0 q) → hv D N0 ad ct H → va_S (hA N0) s.heap H locs → ∀ ls : Array Slot, lv_has ls 2 [(0, .ref (ad (80))), (1, .int (nI (i)))] → W p l e (headSpec wsX4_pass ({ frames := 1, cells := 0, slots := 0, locals := 15 })).room s m args below meth c H locs 0 0 Qz (F0 m 2 ls []) := by
    intro n
    induction n with
    | zero => intro i F h1 h2; exact absurd h2 (by omega)
    | succ n ih2 =>
      intro i F hi2 hn2 ct H locs h80 h128 hgi hfi hV hS ls hl
      have hh10 : i < gNC σ → cHt σ i ≤ 10 := hnh i
      refine lv_iload_n hx hb dX4_pass_2 rfl (lv_at hl 1 rfl) ?_
      refine lv_aload_n hx hb dX4_pass_3 rfl (lv_at hl 0 rfl) ?_
      refine hv_get (C := RX4) (T := TX4) (N := 15) hx hb hts hiX4 hown hKs hV h80 3 rfl (by decide) lk44 (fun _ h9 => h9) rfl dX4_pass_4 ?_
      refine hN_icmp_ge (tgt := 58) hx hb (by omega) (by omega) dX4_pass_7 (by decide) (fun c7 => ?_) (fun c7 => ?_)
      · refine lv_aload_n hx hb dX4_pass_58 rfl (lv_at hl 0 rfl) ?_
        refine lv_dup hx hb dX4_pass_59 rfl ?_
        refine hv_get (C := RX4) (T := TX4) (N := 15) hx hb hts hiX4 hown hKs hV h80 1 rfl (by decide) lk77 (fun _ h9 => h9) rfl dX4_pass_60 ?_
        refine lv_iconst (v := nI 1) hx hb dX4_pass_63 (by decide) ?_
        refine lv_iadd hx hb dX4_pass_64 ?_
        refine hv_put (ty := .int) (C := RX4) (T := TX4) (N := 15) hx hb hts hiX4 tyX4 tyX4_ok nmX4 hown hKs hV hS h80 1 rfl (by decide) lk77 (fun _ h9 => h9) (Or.inl (by decide +kernel)) (by decide +kernel) rfl rfl (Nat.le_of_ble_eq_true rfl) dX4_pass_65 (fun ct H locs he hne hV hS => ?_)
        have h128 := (hne (128) (by omega)).trans h128
        have h80 : ct (80) = some (eO 4 [.int (nI (th)), .int ((gMi σ) + nI (1)), .int (gFu σ), .int (nI (gNC σ)), .ref (ad (96)), .ref (ad (112)), .ref (ad (128)), .ref (ad (144)), .ref (ad (160)), .int (nI (gNS σ)), .ref (ad (176)), .ref (ad (192)), .int (nI (gNB σ)), .ref (ad (208)), .ref (ad (224))]) := he
        have hie : i = gNC σ := by omega
        subst hie
        rw [hQz]
        exact hv_vret (u := (ad, ct)) hx hb hr ⟨rfl, ⟨f1, f2, F, f4, f5, f6, f7, f8, f9, ⟨h80, ((hne 96 (by omega)).trans (hfi 96 (by omega))).trans (by rw [hct0]; exact hm1), ((hne 112 (by omega)).trans (hfi 112 (by omega))).trans (by rw [hct0]; exact hm2), h128, ((hne 144 (by omega)).trans (hfi 144 (by omega))).trans (by rw [hct0]; exact hm4), ((hne 160 (by omega)).trans (hfi 160 (by omega))).trans (by rw [hct0]; exact hm5), ((hne 176 (by omega)).trans (hfi 176 (by omega))).trans (by rw [hct0]; exact hm6), ((hne 192 (by omega)).trans (hfi 192 (by omega))).trans (by rw [hct0]; exact hm7), ((hne 208 (by omega)).trans (hfi 208 (by omega))).trans (by rw [hct0]; exact hm8), ((hne 224 (by omega)).trans (hfi 224 (by omega))).trans (by rw [hct0]; exact hm9)⟩, hgi⟩, fun q q1 => ⟨rfl, fun q2 => ((hne q (by omega)).trans (hfi q (by omega))).trans (by rw [hct0])⟩⟩ hV hS dX4_pass_68 hlocks
      · refine lv_aload_n hx hb dX4_pass_10 rfl (lv_at hl 0 rfl) ?_
        refine hv_get (C := RX4) (T := TX4) (N := 15) hx hb hts hiX4 hown hKs hV h80 6 rfl (by decide) lk20 (fun _ h9 => h9) rfl dX4_pass_11 ?_
        refine lv_iload_n hx hb dX4_pass_14 rfl (lv_at hl 1 rfl) ?_
        refine lv_iload_n hx hb dX4_pass_15 rfl (lv_at hl 1 rfl) ?_
        refine lv_aload_n hx hb dX4_pass_16 rfl (lv_at hl 0 rfl) ?_
        refine hv_get (C := RX4) (T := TX4) (N := 15) hx hb hts hiX4 hown hKs hV h80 2 rfl (by decide) lk9 (fun _ h9 => h9) rfl dX4_pass_17 ?_
        refine hL_icmp_ne (tgt := 39) hx hb (by omega) dX4_pass_20 (by decide) (fun c20 => ?_) (fun c20 => ?_)
        · refine lv_iconst (v := nI 0) hx hb dX4_pass_39 (by decide) ?_
          refine lv_aload_n hx hb dX4_pass_40 rfl (lv_at hl 0 rfl) ?_
          refine hv_get (C := RX4) (T := TX4) (N := 15) hx hb hts hiX4 hown hKs hV h80 6 rfl (by decide) lk20 (fun _ h9 => h9) rfl dX4_pass_41 ?_
          refine lv_iload_n hx hb dX4_pass_44 rfl (lv_at hl 1 rfl) ?_
          refine hv_iald hx hb hKs hV h128 (by omega) (by decide) dX4_pass_45 ?_
          refine hv_eqi (y := nI (cHt σ (i))) ((hgi.2.2.1 (i) (show i < gNC σ by omega)).trans (by show nI ((agd σ i).2.1 (i)).2.2.1 = _; rw [agd_ge (by omega)])) ?_
          refine lv_iconst (v := nI 1) hx hb dX4_pass_46 (by decide) ?_
          refine lv_isub hx hb dX4_pass_47 ?_
          refine va_mmax hx hb (hml.trans hl.1.symm) hown lk74 (hts (.static Lib.Math.max.name) (by decide +kernel)) (hts (.initialized "java/lang/Math") (by decide +kernel)) (hts (.code Lib.Math.max.name Lib.Math.max.code 2 (some .int)) (by decide +kernel)) (Nat.le_of_ble_eq_true rfl) (Nat.le_of_ble_eq_true rfl) (Nat.le_of_ble_eq_true rfl) (Nat.le_of_ble_eq_true rfl) dX4_pass_48 ?_
          refine hv_eqi (hN_max1 (by omega)) ?_
          refine hv_iast hx hb hKs hV hS h128 (by omega) (by decide) dX4_pass_51 (fun ct H locs he hne hV hS => ?_)
          have h80 := (hne (80) (by omega)).trans h80
          have h128 := he
          refine lv_iinc (v := nI (i + 1)) (lv' := [(1, .int (nI (i + 1))), (0, .ref (ad (80)))]) hx hb dX4_pass_52 hl (k := 1) rfl (nI_add (i) 1) (by decide) rfl (fun ls hl => ?_)
          refine lv_goto (tgt := 2) hx hb dX4_pass_55 (by decide) ?_
          have hic : i < gNC σ := by omega
          have hhv : cHt σ (i) - 1 = (if decide (nI i = gFu σ) = true then min (cHt σ i + 3) 10 else cHt σ i - 1) := by rw [if_neg (by rw [decide_eq_false (fun q => c20 (by rw [← q, nI_toInt (by omega)]))]; decide)]
          exact ih2 (i + 1) (va_up (F) (i) (nI (cHt σ (i) - 1))) (by omega) (by omega) ct _ _ (h80) (h128) (by rw [agd_s]; exact me_can (q := aged σ i) hgi hic (up_0 (hme.1 i hic)) (up_0 (hme.tw hn8 hic)) (up_1 (congrArg nI hhv)) (up_0 (hme.2.2.2.1 i hic)) (up_5 (hme.pt hn8 hic))) (fun q q1 => (hne q q1).trans (hfi q q1)) hV hS ls (lv_sub hl [1, 0] rfl)
        · refine lv_bipush (v := nI 10) hx hb dX4_pass_23 (by decide) ?_
          refine lv_aload_n hx hb dX4_pass_25 rfl (lv_at hl 0 rfl) ?_
          refine hv_get (C := RX4) (T := TX4) (N := 15) hx hb hts hiX4 hown hKs hV h80 6 rfl (by decide) lk20 (fun _ h9 => h9) rfl dX4_pass_26 ?_
          refine lv_iload_n hx hb dX4_pass_29 rfl (lv_at hl 1 rfl) ?_
          refine hv_iald hx hb hKs hV h128 (by omega) (by decide) dX4_pass_30 ?_
          refine hv_eqi (y := nI (cHt σ (i))) ((hgi.2.2.1 (i) (show i < gNC σ by omega)).trans (by show nI ((agd σ i).2.1 (i)).2.2.1 = _; rw [agd_ge (by omega)])) ?_
          refine lv_iconst (v := nI 3) hx hb dX4_pass_31 (by decide) ?_
          refine hN_iadd hx hb dX4_pass_32 ?_
          refine va_mmin hx hb (hml.trans hl.1.symm) hown lk71 (hts (.static Lib.Math.min.name) (by decide +kernel)) (hts (.initialized "java/lang/Math") (by decide +kernel)) (hts (.code Lib.Math.min.name Lib.Math.min.code 2 (some .int)) (by decide +kernel)) (Nat.le_of_ble_eq_true rfl) (Nat.le_of_ble_eq_true rfl) (Nat.le_of_ble_eq_true rfl) (Nat.le_of_ble_eq_true rfl) dX4_pass_33 ?_
          refine hv_eqi (hN_min (by omega) (by omega)) ?_
          refine lv_goto (tgt := 51) hx hb dX4_pass_36 (by decide) ?_
          refine hv_iast hx hb hKs hV hS h128 (by omega) (by decide) dX4_pass_51 (fun ct H locs he hne hV hS => ?_)
          have h80 := (hne (80) (by omega)).trans h80
          have h128 := he
          refine lv_iinc (v := nI (i + 1)) (lv' := [(1, .int (nI (i + 1))), (0, .ref (ad (80)))]) hx hb dX4_pass_52 hl (k := 1) rfl (nI_add (i) 1) (by decide) rfl (fun ls hl => ?_)
          refine lv_goto (tgt := 2) hx hb dX4_pass_55 (by decide) ?_
          have hic : i < gNC σ := by omega
          have hhv : min (10) (cHt σ (i) + 3) = (if decide (nI i = gFu σ) = true then min (cHt σ i + 3) 10 else cHt σ i - 1) := by rw [if_pos (decide_eq_true (hI_eq.mpr (by rw [nI_toInt (by omega)]; exact c20))), Nat.min_comm]
          exact ih2 (i + 1) (va_up (F) (i) (nI (min (10) (cHt σ (i) + 3)))) (by omega) (by omega) ct _ _ (h80) (h128) (by rw [agd_s]; exact me_can (q := aged σ i) hgi hic (up_0 (hme.1 i hic)) (up_0 (hme.tw hn8 hic)) (up_1 (congrArg nI hhv)) (up_0 (hme.2.2.2.1 i hic)) (up_5 (hme.pt hn8 hic))) (fun q q1 => (hne q q1).trans (hfi q q1)) hV hS ls (lv_sub hl [1, 0] rfl)
  exact L2 (gNC σ + 1) (0) (f3) (by omega) (by omega) ct _ _ (hm0) (hm3) (by rw [agd_0]; exact hme) (fun q _ => by rw [hct0]) hV hS ls (lv_sub hl [1, 0] rfl)

/-- a cane as a work finds it too cold, or not -/
def qB (σ : gS) (c k : Nat) : gCn := if k ≤ cHt σ c then (cLen σ c, cTw σ c, cHt σ c - 1, cCr σ c, cPt σ c) else (cLen σ c, cTw σ c, cHt σ c, true, cPt σ c)
def sB (σ : gS) (c k : Nat) : gS := sPass (uCan σ c (qB σ c k))

set_option maxHeartbeats 4000000 in
set_option maxRecDepth 100000 in
theorem c_X4_bears (l : Launch) (D : hG) (N0 : Nat) (ad : Nat → Nat) (ct : hC) {σ : gS} {th : Nat} (hM : gM D σ th ad ct) (hO : okS σ) (c9 k9 : Nat) (hc9 : c9 < gNC σ) (hk10 : k9 ≤ 10) (hk1 : 1 ≤ k9) : Met l yX4_bears wsX4_bears ({ frames := 2, cells := 0, slots := 0, locals := 36 }) (hPc D N0 ad ct [.ref (ad (80)), .int (nI (c9)), .int (nI (k9))]) (va_Qi (fun (z : Int32) (u : hU) => z = hbv (decide (k9 ≤ cHt σ c9)) ∧ u.1 = ad ∧ gM D (sB σ c9 k9) th u.1 u.2 ∧ hFm ad ct u) (hB D N0) (hA N0)) 0 0 (hA N0) := by
  refine Met.ofW (cc := cX4_bears) (maxL := 3) (ret := (some .boolean)) (by decide) rfl ?_
  intro p e s m args below meth c s₁ B hml hv0
  obtain ⟨hargs, hKs, hV⟩ := hv0
  have hx := B.exec
  have hb := B.bytes
  have hr := B.returns
  have hts := atoms_spec (ws := wsX4_bears) B.pre
  have hown : s.vm.findClass RX4 = some m.cls := findClass_of_methodNamed B.named
  have hlocks := B.notSynchronized
  have hS : va_S (hA N0) s.heap s.heap [] := va_S.rf
  have hiX4 : ∀ w ∈ u_ws RX4 TX4 15, w ∈ wsX4_bears := by decide +kernel
  have lk20 := hts (.fieldLink RX4 20 "CaneSlicesModel" "heat" "[I") (by decide +kernel)
  have lk23 := hts (.fieldLink RX4 23 "CaneSlicesModel" "isWhole" "[I") (by decide +kernel)
  have hl := lv_entry ([.ref (ad (80)), .int (nI (c9)), .int (nI (k9))]) (n := 3) (Nat.le_of_ble_eq_true rfl)
  have hE : entryFrame m args 3 = entryFrame m ([.ref (ad (80)), .int (nI (c9)), .int (nI (k9))] : List Value).toArray 3 := by rw [hargs]
  rw [hE, lg_entry_eq]
  generalize (lg_sl ([.ref (ad (80)), .int (nI (c9)), .int (nI (k9))]) ++ List.replicate (3 - (lg_sl ([.ref (ad (80)), .int (nI (c9)), .int (nI (k9))])).length) Slot.unset).toArray = ls at hl ⊢
  have hl : lv_has ls 3 [(0, .ref (ad (80))), (1, .int (nI (c9))), (2, .int (nI (k9)))] := hl
  obtain ⟨hn8, hn60, hn6, -⟩ := id hO
  obtain ⟨f1, f2, f3, f4, f5, f6, f7, f8, f9, ⟨hm0, hm1, hm2, hm3, hm4, hm5, hm6, hm7, hm8, hm9⟩, hme⟩ := id hM
  obtain ⟨em1, em2, em3, em4, em5, em6, em7, em8, em9⟩ := id hme
  obtain ⟨ct0, hct0⟩ : ∃ z, z = ct := ⟨ct, rfl⟩
  have hfr : ∀ q : Nat, (q ≠ 1 ∧ (q % 16 ≠ 0 ∨ q < 80)) → ct q = ct0 q := fun q _ => by rw [hct0]
  have hh10 := (hO.2.2.2.1 c9 hc9).2.1
  refine lv_aload_n hx hb dX4_bears_0 rfl (lv_at hl 0 rfl) ?_
  refine hv_get (C := RX4) (T := TX4) (N := 15) hx hb hts hiX4 hown hKs hV hm0 6 rfl (by decide) lk20 (fun _ h9 => h9) rfl dX4_bears_1 ?_
  refine lv_iload_n hx hb dX4_bears_4 rfl (lv_at hl 1 rfl) ?_
  refine hv_iald hx hb hKs hV hm3 (by omega) (by decide) dX4_bears_5 ?_
  refine hv_eqi (em3 (c9) (by omega)) ?_
  refine lv_iload_n hx hb dX4_bears_6 rfl (lv_at hl 2 rfl) ?_
  refine hN_icmp_ge (tgt := 23) hx hb (by omega) (by omega) dX4_bears_7 (by decide) (fun c7 => ?_) (fun c7 => ?_)
  · refine lv_aload_n hx hb dX4_bears_23 rfl (lv_at hl 0 rfl) ?_
    refine hv_get (C := RX4) (T := TX4) (N := 15) hx hb hts hiX4 hown hKs hV hm0 6 rfl (by decide) lk20 (fun _ h9 => h9) rfl dX4_bears_24 ?_
    refine lv_iload_n hx hb dX4_bears_27 rfl (lv_at hl 1 rfl) ?_
    refine lv_dup2_11 hx hb dX4_bears_28 rfl rfl ?_
    refine hv_iald hx hb hKs hV hm3 (by omega) (by decide) dX4_bears_29 ?_
    refine hv_eqi (em3 (c9) (by omega)) ?_
    refine lv_iconst (v := nI 1) hx hb dX4_bears_30 (by decide) ?_
    refine hN_isub hx hb (by omega) dX4_bears_31 ?_
    refine hv_iast hx hb hKs hV hS hm3 (by omega) (by decide) dX4_bears_32 (fun ct H locs he hne hV hS => ?_)
    have hm0 := (hne (80) (by omega)).trans hm0
    have hm1 := (hne (96) (by omega)).trans hm1
    have hm2 := (hne (112) (by omega)).trans hm2
    have hm4 := (hne (144) (by omega)).trans hm4
    have hm5 := (hne (160) (by omega)).trans hm5
    have hm6 := (hne (176) (by omega)).trans hm6
    have hm7 := (hne (192) (by omega)).trans hm7
    have hm8 := (hne (208) (by omega)).trans hm8
    have hm9 := (hne (224) (by omega)).trans hm9
    have hm3 := he
    have hfr := fun (q : Nat) (q1 : q ≠ 1 ∧ (q % 16 ≠ 0 ∨ q < 80)) => (hne q (by omega)).trans (hfr q q1)
    have hqB : qB σ c9 k9 = (cLen σ c9, cTw σ c9, cHt σ c9 - 1, cCr σ c9, cPt σ c9) := if_pos (by omega)
    have hme1 : gMe (uCan σ c9 (cLen σ c9, cTw σ c9, cHt σ c9 - 1, cCr σ c9, cPt σ c9)) f1 f2 (va_up f3 c9 (nI (cHt σ c9 - 1))) f4 f5 f6 f7 f8 f9 := me_can (q := (cLen σ c9, cTw σ c9, cHt σ c9 - 1, cCr σ c9, cPt σ c9)) hme hc9 (up_0 (em1 c9 hc9)) (up_0 (hme.tw hn8 hc9)) (up_1 rfl) (up_0 (em4 c9 hc9)) (up_5 (hme.pt hn8 hc9))
    rw [← hqB] at hme1
    have hM1 : gM D (uCan σ c9 (qB σ c9 k9)) th ad ct := ⟨f1, f2, _, f4, f5, f6, f7, f8, f9, ⟨hm0, hm1, hm2, hm3, hm4, hm5, hm6, hm7, hm8, hm9⟩, hme1⟩
    have hN1 := okH_can hO (i := c9) (q := qB σ c9 k9) (by rw [hqB]; show cHt σ c9 - 1 ≤ 10; omega)
    refine lv_aload_n hx hb dX4_bears_33 rfl (lv_at hl 0 rfl) ?_
    refine hv_callv (va_runV (As := []) (rest := []) ⟨hx, hb, hml, hown, hts⟩ (c_X4_pass l D N0 ad ct hM1 hN1) (cwV 0 hts gX4_bears_X4_pass rfl rfl rfl (by decide +kernel) ⟨Nat.le_of_ble_eq_true rfl, Nat.le_of_ble_eq_true rfl⟩) (hv_preV (r := (RX4, TX4, 15)) hKs hV hS hm0 rfl) rfl rfl hl.1 rfl (lv_room (Nat.le_of_ble_eq_true rfl)) dX4_bears_34 ⟨(Nat.le_of_ble_eq_true rfl), (Nat.le_of_ble_eq_true rfl)⟩) hS (fun u9 H locs hq hV hS => ?_)
    obtain ⟨ad9, ct⟩ := u9
    dsimp only at hq
    obtain ⟨ha9, hMp, hfp⟩ := hq
    have ha9 := ha9.symm
    subst ha9
    have hV : hv D N0 ad ct H := hV
    have hfr := fun (q : Nat) (q1 : q ≠ 1 ∧ (q % 16 ≠ 0 ∨ q < 80)) => ((hfp q q1.1).2 q1.2).trans (hfr q q1)
    refine lv_iconst (v := nI 1) hx hb dX4_bears_37 (by decide) ?_
    exact hv_zret (v := nI (1)) (u := (ad, ct)) hx hb hr (by decide +kernel) ⟨hb_1 (decide_eq_true (by omega)), rfl, hMp, fun q q1 => ⟨rfl, fun q2 => (hfr q ⟨q1, q2⟩).trans (by rw [hct0])⟩⟩ hV hS dX4_bears_38 hlocks
  · refine lv_aload_n hx hb dX4_bears_10 rfl (lv_at hl 0 rfl) ?_
    refine hv_get (C := RX4) (T := TX4) (N := 15) hx hb hts hiX4 hown hKs hV hm0 7 rfl (by decide) lk23 (fun _ h9 => h9) rfl dX4_bears_11 ?_
    refine lv_iload_n hx hb dX4_bears_14 rfl (lv_at hl 1 rfl) ?_
    refine lv_iconst (v := nI 0) hx hb dX4_bears_15 (by decide) ?_
    refine hv_iast hx hb hKs hV hS hm4 (by omega) (by decide) dX4_bears_16 (fun ct H locs he hne hV hS => ?_)
    have hm0 := (hne (80) (by omega)).trans hm0
    have hm1 := (hne (96) (by omega)).trans hm1
    have hm2 := (hne (112) (by omega)).trans hm2
    have hm3 := (hne (128) (by omega)).trans hm3
    have hm5 := (hne (160) (by omega)).trans hm5
    have hm6 := (hne (176) (by omega)).trans hm6
    have hm7 := (hne (192) (by omega)).trans hm7
    have hm8 := (hne (208) (by omega)).trans hm8
    have hm9 := (hne (224) (by omega)).trans hm9
    have hm4 := he
    have hfr := fun (q : Nat) (q1 : q ≠ 1 ∧ (q % 16 ≠ 0 ∨ q < 80)) => (hne q (by omega)).trans (hfr q q1)
    have hqB : qB σ c9 k9 = (cLen σ c9, cTw σ c9, cHt σ c9, true, cPt σ c9) := if_neg (by omega)
    have hme1 : gMe (uCan σ c9 (cLen σ c9, cTw σ c9, cHt σ c9, true, cPt σ c9)) f1 f2 f3 (va_up f4 c9 (nI (0))) f5 f6 f7 f8 f9 := me_can (q := (cLen σ c9, cTw σ c9, cHt σ c9, true, cPt σ c9)) hme hc9 (up_0 (em1 c9 hc9)) (up_0 (hme.tw hn8 hc9)) (up_0 (em3 c9 hc9)) (up_1 rfl) (up_5 (hme.pt hn8 hc9))
    rw [← hqB] at hme1
    have hM1 : gM D (uCan σ c9 (qB σ c9 k9)) th ad ct := ⟨f1, f2, f3, _, f5, f6, f7, f8, f9, ⟨hm0, hm1, hm2, hm3, hm4, hm5, hm6, hm7, hm8, hm9⟩, hme1⟩
    have hN1 := okH_can hO (i := c9) (q := qB σ c9 k9) (by rw [hqB]; show cHt σ c9 ≤ 10; omega)
    refine lv_aload_n hx hb dX4_bears_17 rfl (lv_at hl 0 rfl) ?_
    refine hv_callv (va_runV (As := []) (rest := []) ⟨hx, hb, hml, hown, hts⟩ (c_X4_pass l D N0 ad ct hM1 hN1) (cwV 0 hts gX4_bears_X4_pass rfl rfl rfl (by decide +kernel) ⟨Nat.le_of_ble_eq_true rfl, Nat.le_of_ble_eq_true rfl⟩) (hv_preV (r := (RX4, TX4, 15)) hKs hV hS hm0 rfl) rfl rfl hl.1 rfl (lv_room (Nat.le_of_ble_eq_true rfl)) dX4_bears_18 ⟨(Nat.le_of_ble_eq_true rfl), (Nat.le_of_ble_eq_true rfl)⟩) hS (fun u9 H locs hq hV hS => ?_)
    obtain ⟨ad9, ct⟩ := u9
    dsimp only at hq
    obtain ⟨ha9, hMp, hfp⟩ := hq
    have ha9 := ha9.symm
    subst ha9
    have hV : hv D N0 ad ct H := hV
    have hfr := fun (q : Nat) (q1 : q ≠ 1 ∧ (q % 16 ≠ 0 ∨ q < 80)) => ((hfp q q1.1).2 q1.2).trans (hfr q q1)
    refine lv_iconst (v := nI 0) hx hb dX4_bears_21 (by decide) ?_
    exact hv_zret (v := nI (0)) (u := (ad, ct)) hx hb hr (by decide +kernel) ⟨hb_0 (decide_eq_false (by omega)), rfl, hMp, fun q q1 => ⟨rfl, fun q2 => (hfr q ⟨q1, q2⟩).trans (by rw [hct0])⟩⟩ hV hS dX4_bears_22 hlocks
