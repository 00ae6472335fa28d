theorem sp_at {σ : gS} {c : Nat} {q : gCn} (hc : c < gNC σ) : (sPass (uCan σ c q)).2.1 c = (q.1, q.2.1, cHt (sPass (uCan σ c q)) c, q.2.2.2.1, q.2.2.2.2) := by
  have h1 : (sPass (uCan σ c q)).2.1 c = aged (uCan σ c q) c := if_pos hc
  show _ = (q.1, q.2.1, ((sPass (uCan σ c q)).2.1 c).2.2.1, q.2.2.2.1, q.2.2.2.2)
  rw [h1]
  unfold aged
  simp only [cLen, cTw, cHt, cCr, cPt]
  rw [uCan_can]
theorem sPass_uCan {σ : gS} {c : Nat} {q q2 : gCn} (hc : c < gNC σ) (hq : q.2.2.1 = q2.2.2.1) : uCan (sPass (uCan σ c q)) c (q2.1, q2.2.1, cHt (sPass (uCan σ c q)) c, q2.2.2.2.1, q2.2.2.2.2) = sPass (uCan σ c q2) := by
  have hf : (uCan (sPass (uCan σ c q)) c (q2.1, q2.2.1, cHt (sPass (uCan σ c q)) c, q2.2.2.2.1, q2.2.2.2.2)).2.1 = (sPass (uCan σ c q2)).2.1 := by
    funext k
    by_cases w : k = c
    · subst w
      rw [uCan_can, sp_at hc]
      have h1 : cHt (sPass (uCan σ k q)) k = cHt (sPass (uCan σ k q2)) k := by
        have g1 : (sPass (uCan σ k q)).2.1 k = aged (uCan σ k q) k := if_pos hc
        have g2 : (sPass (uCan σ k q2)).2.1 k = aged (uCan σ k q2) k := if_pos hc
        show ((sPass (uCan σ k q)).2.1 k).2.2.1 = ((sPass (uCan σ k q2)).2.1 k).2.2.1
        rw [g1, g2]
        unfold aged
        simp only [cHt, uCan_can, hq]
        rfl
      rw [h1]
    · have g0 : (uCan (sPass (uCan σ c q)) c (q2.1, q2.2.1, cHt (sPass (uCan σ c q)) c, q2.2.2.2.1, q2.2.2.2.2)).2.1 k = (sPass (uCan σ c q)).2.1 k := va_up_ne _ _ w
      have o1 : (uCan σ c q).2.1 k = σ.2.1 k := va_up_ne _ _ w
      have o2 : (uCan σ c q2).2.1 k = σ.2.1 k := va_up_ne _ _ w
      rw [g0]
      show (if k < gNC σ then aged (uCan σ c q) k else (uCan σ c q).2.1 k) = (if k < gNC σ then aged (uCan σ c q2) k else (uCan σ c q2).2.1 k)
      unfold aged
      simp only [cLen, cTw, cHt, cCr, cPt, o1, o2]
      rfl
  exact Prod.ext rfl (Prod.ext hf rfl)
theorem sWk_bad {σ : gS} {c k : Nat} {q : gCn} (h : ¬ k ≤ cHt σ c) : sB σ c k = sWk σ c k q := by
  unfold sB sWk qB
  rw [if_neg h, if_neg h]
theorem sB_good {σ : gS} {c k : Nat} (h : k ≤ cHt σ c) : sB σ c k = sPass (uCan σ c (cLen σ c, cTw σ c, cHt σ c - 1, cCr σ c, cPt σ c)) := by
  unfold sB qB
  rw [if_pos h]
theorem sWk_good {σ : gS} {c k : Nat} {q : gCn} (h : k ≤ cHt σ c) (hc : c < gNC σ) (hq : q.2.2.1 = cHt σ c - 1) : uCan (sB σ c k) c (q.1, q.2.1, cHt (sB σ c k) c, q.2.2.2.1, q.2.2.2.2) = sWk σ c k q := by
  rw [sB_good h]
  unfold sWk
  rw [if_pos h]
  exact sPass_uCan hc hq.symm
theorem sB_at {σ : gS} {c k : Nat} (h : k ≤ cHt σ c) (hc : c < gNC σ) : (sB σ c k).2.1 c = (cLen σ c, cTw σ c, cHt (sB σ c k) c, cCr σ c, cPt σ c) := by
  rw [sB_good h]
  exact sp_at hc
theorem ok_sB {σ : gS} (h : okS σ) {c k : Nat} (hc : c < gNC σ) : okS (sB σ c k) := by
  have h1 := h.2.2.2.1 c hc
  refine ok_pass (ok_can h ?_)
  unfold qB
  split
  · exact ⟨h1.1, by show cHt σ c - 1 ≤ 10; have := h1.2.1; omega, h1.2.2⟩
  · exact h1
theorem wh_c0 {σ : gS} {c : Nat} (h : wh σ c = 0) : cCr σ c = true := by
  unfold wh at h
  rcases hq : cCr σ c with _ | _
  · rw [hq] at h; cases h
  · rfl
theorem wh_c1 {σ : gS} {c : Nat} (h : 0 < wh σ c) : cCr σ c = false := by
  unfold wh at h
  rcases hq : cCr σ c with _ | _
  · rfl
  · rw [hq] at h; exact absurd h (Nat.lt_irrefl 0)
theorem pnt_ring {P : Nat → Nat} {r f n k r2 : Nat} (h : r2 ≠ r) : rgP (pnt P r f n k) r2 = rgP P r2 := pkR_cong fun s hs => by
  show pnt P r f n k (8 * r2 + s) = P (8 * r2 + s)
  unfold pnt
  rw [if_neg (fun q => h (by have := q.1; omega))]
theorem lay_step {P : Nat → Nat} (hP : ok24 P) {r f j c : Nat} (hr : r < 3) (hf : f < 8) (hj : j < 8) (hc : c < 8) :
    (nI (rgP (pnt P r f j c) r) &&& (nI 7 <<< (nI (3 * ((f + j) % 8)) &&& 31) ^^^ (-1))) ||| nI c <<< (nI (3 * ((f + j) % 8)) &&& 31) = nI (rgP (pnt P r f (j + 1) c) r) := by
  have h8 : ok24 (pnt P r f j c) := fun k hk => by
    unfold pnt
    split
    · exact hc
    · exact hP k hk
  refine (lay_ring (f := fun s => pnt P r f j c (8 * r + s)) (h8.dg hr) (by omega) hc).trans (congrArg nI (pkR_cong fun s hs => ?_))
  show va_up (fun s => pnt P r f j c (8 * r + s)) ((f + j) % 8) c s = pnt P r f (j + 1) c (8 * r + s)
  unfold va_up
  by_cases w : s = (f + j) % 8
  · rw [if_pos w]
    unfold pnt
    rw [if_pos (by omega)]
  · rw [if_neg w]
    show pnt P r f j c (8 * r + s) = _
    unfold pnt
    by_cases w2 : (8 * r + s) / 8 = r ∧ ((8 * r + s) % 8 + 8 - f) % 8 < j
    · rw [if_pos w2, if_pos (by omega)]
    · rw [if_neg w2, if_neg (by omega)]

theorem bead_1 {F f8 : Nat → Int32} {n i : Nat} (h : (∀ k, k < n → F k = f8 k) ∧ ∀ k, k < i → F (n + k) = -1) : (∀ k, k < n → va_up F (n + i) (-1) k = f8 k) ∧ ∀ k, k < i + 1 → va_up F (n + i) (-1) (n + k) = -1 := by
  refine ⟨fun k hk => (va_up_ne _ _ (by omega)).trans (h.1 k hk), fun k hk => ?_⟩
  by_cases w : k = i
  · rw [w, va_up_self]
  · exact (va_up_ne _ _ (by omega)).trans (h.2 k (by omega))

set_option maxHeartbeats 4000000 in
set_option maxRecDepth 100000 in
theorem c_X4_begin (l : Launch) (D : hG) (N0 : Nat) (ad : Nat → Nat) (ct : hC) {σ : gS} {th : Nat} (hM : gM D σ th ad ct) (hO : okS σ) : Met l yX4_begin wsX4_begin ({ frames := 1, cells := 0, slots := 0, locals := 21 }) (hPc D N0 ad ct [.ref (ad (80))]) (va_Qi (fun (z : Int32) (u : hU) => ((k_begin σ) = 0 → z = nI (gNC σ) ∧ gM D (s_begin σ) 0 u.1 u.2) ∧ ((k_begin σ) ≠ 0 → gM D σ (k_begin σ) u.1 u.2) ∧ hFm ad ct u) (hB D N0) (hA N0)) 0 0 (hA N0) := by
  refine Met.ofW (cc := cX4_begin) (maxL := 1) (ret := (some .int)) (by decide) rfl ?_
  intro p e s m args below meth c s₁ B hml hv0
  obtain ⟨hargs, hKs, hV⟩ := hv0
  have hx := B.exec
  have hb := B.bytes
  have hr := B.returns
  have hts := atoms_spec (ws := wsX4_begin) B.pre
  have hown : s.vm.findClass RX4 = some m.cls := findClass_of_methodNamed B.named
  have hlocks := B.notSynchronized
  have hS : va_S (hA N0) s.heap s.heap [] := va_S.rf
  have hiX4 : ∀ w ∈ u_ws RX4 TX4 15, w ∈ wsX4_begin := by decide +kernel
  have lk41 := hts (.fieldLink RX4 41 "CaneSlicesModel" "thrown" "I") (by decide +kernel)
  have lk44 := hts (.fieldLink RX4 44 "CaneSlicesModel" "canes" "I") (by decide +kernel)
  have lk13 := hts (.fieldLink RX4 13 "CaneSlicesModel" "length" "[I") (by decide +kernel)
  have lk20 := hts (.fieldLink RX4 20 "CaneSlicesModel" "heat" "[I") (by decide +kernel)
  have lk23 := hts (.fieldLink RX4 23 "CaneSlicesModel" "isWhole" "[I") (by decide +kernel)
  have hl := lv_entry ([.ref (ad (80))]) (n := 1) (Nat.le_of_ble_eq_true rfl)
  have hE : entryFrame m args 1 = entryFrame m ([.ref (ad (80))] : List Value).toArray 1 := by rw [hargs]
  rw [hE, lg_entry_eq]
  generalize (lg_sl ([.ref (ad (80))]) ++ List.replicate (1 - (lg_sl ([.ref (ad (80))])).length) Slot.unset).toArray = ls at hl ⊢
  have hl : lv_has ls 1 [(0, .ref (ad (80)))] := hl
  obtain ⟨hn8, hn60, hn6, -⟩ := id hO
  obtain ⟨f1, f2, f3, f4, f5, f6, f7, f8, f9, ⟨hm0, hm1, hm2, hm3, hm4, hm5, hm6, hm7, hm8, hm9⟩, hme⟩ := id hM
  obtain ⟨em1, em2, em3, em4, em5, em6, em7, em8, em9⟩ := id hme
  obtain ⟨ad0, had0⟩ : ∃ z, z = ad := ⟨ad, rfl⟩
  obtain ⟨ct0, hct0⟩ : ∃ z, z = ct := ⟨ct, rfl⟩
  have hfr : ∀ q : Nat, (q ≠ 1 ∧ (q % 16 ≠ 0 ∨ q < 80)) → ct q = ct0 q := fun q _ => by rw [hct0]
  have hfa : ∀ q : Nat, q ≠ 1 → ad q = ad0 q := fun q _ => by rw [had0]
  refine lv_aload_n hx hb dX4_begin_0 rfl (lv_at hl 0 rfl) ?_
  refine lv_iconst (v := nI 0) hx hb dX4_begin_1 (by decide) ?_
  refine hv_put (ty := .int) (C := RX4) (T := TX4) (N := 15) hx hb hts hiX4 tyX4 tyX4_ok nmX4 hown hKs hV hS hm0 0 rfl (by decide) lk41 (fun _ h9 => h9) (Or.inl (by decide +kernel)) (by decide +kernel) rfl rfl (Nat.le_of_ble_eq_true rfl) dX4_begin_2 (fun ct H locs he hne hV hS => ?_)
  have hm1 := (hne (96) (by omega)).trans hm1
  have hm2 := (hne (112) (by omega)).trans hm2
  have hm3 := (hne (128) (by omega)).trans hm3
  have hm4 := (hne (144) (by omega)).trans hm4
  have hm5 := (hne (160) (by omega)).trans hm5
  have hm6 := (hne (176) (by omega)).trans hm6
  have hm7 := (hne (192) (by omega)).trans hm7
  have hm8 := (hne (208) (by omega)).trans hm8
  have hm9 := (hne (224) (by omega)).trans hm9
  have hm0 : ct (80) = some (eO 4 [.int (nI (0)), .int (gMi σ), .int (gFu σ), .int (nI (gNC σ)), .ref (ad (96)), .ref (ad (112)), .ref (ad (128)), .ref (ad (144)), .ref (ad (160)), .int (nI (gNS σ)), .ref (ad (176)), .ref (ad (192)), .int (nI (gNB σ)), .ref (ad (208)), .ref (ad (224))]) := he
  have hfr := fun (q : Nat) (q1 : q ≠ 1 ∧ (q % 16 ≠ 0 ∨ q < 80)) => (hne q (by omega)).trans (hfr q q1)
  refine lv_aload_n hx hb dX4_begin_5 rfl (lv_at hl 0 rfl) ?_
  refine hv_get (C := RX4) (T := TX4) (N := 15) hx hb hts hiX4 hown hKs hV hm0 3 rfl (by decide) lk44 (fun _ h9 => h9) rfl dX4_begin_6 ?_
  refine lv_bipush (v := nI 8) hx hb dX4_begin_9 (by decide) ?_
  refine hN_icmp_ne (tgt := 20) hx hb (by omega) (by omega) dX4_begin_11 (by decide) (fun c11 => ?_) (fun c11 => ?_)
  · refine lv_aload_n hx hb dX4_begin_20 rfl (lv_at hl 0 rfl) ?_
    refine hv_get (C := RX4) (T := TX4) (N := 15) hx hb hts hiX4 hown hKs hV hm0 4 rfl (by decide) lk13 (fun _ h9 => h9) rfl dX4_begin_21 ?_
    refine lv_aload_n hx hb dX4_begin_24 rfl (lv_at hl 0 rfl) ?_
    refine hv_get (C := RX4) (T := TX4) (N := 15) hx hb hts hiX4 hown hKs hV hm0 3 rfl (by decide) lk44 (fun _ h9 => h9) rfl dX4_begin_25 ?_
    refine lv_bipush (v := nI 8) hx hb dX4_begin_28 (by decide) ?_
    refine hv_iast hx hb hKs hV hS hm1 (by omega) (by decide) dX4_begin_30 (fun ct H locs he hne hV hS => ?_)
    have hm2 := (hne (112) (by omega)).trans hm2
    have hm3 := (hne (128) (by omega)).trans hm3
    have hm4 := (hne (144) (by omega)).trans hm4
    have hm5 := (hne (160) (by omega)).trans hm5
    have hm6 := (hne (176) (by omega)).trans hm6
    have hm7 := (hne (192) (by omega)).trans hm7
    have hm8 := (hne (208) (by omega)).trans hm8
    have hm9 := (hne (224) (by omega)).trans hm9
    have hm0 := (hne (80) (by omega)).trans hm0
    have hm1 := he
    have hfr := fun (q : Nat) (q1 : q ≠ 1 ∧ (q % 16 ≠ 0 ∨ q < 80)) => (hne q (by omega)).trans (hfr q q1)
    refine lv_aload_n hx hb dX4_begin_31 rfl (lv_at hl 0 rfl) ?_
    refine hv_get (C := RX4) (T := TX4) (N := 15) hx hb hts hiX4 hown hKs hV hm0 6 rfl (by decide) lk20 (fun _ h9 => h9) rfl dX4_begin_32 ?_
    refine lv_aload_n hx hb dX4_begin_35 rfl (lv_at hl 0 rfl) ?_
    refine hv_get (C := RX4) (T := TX4) (N := 15) hx hb hts hiX4 hown hKs hV hm0 3 rfl (by decide) lk44 (fun _ h9 => h9) rfl dX4_begin_36 ?_
    refine lv_bipush (v := nI 10) hx hb dX4_begin_39 (by decide) ?_
    refine hv_iast hx hb hKs hV hS hm3 (by omega) (by decide) dX4_begin_41 (fun ct H locs he hne hV hS => ?_)
    have hm2 := (hne (112) (by omega)).trans hm2
    have hm4 := (hne (144) (by omega)).trans hm4
    have hm5 := (hne (160) (by omega)).trans hm5
    have hm6 := (hne (176) (by omega)).trans hm6
    have hm7 := (hne (192) (by omega)).trans hm7
    have hm8 := (hne (208) (by omega)).trans hm8
    have hm9 := (hne (224) (by omega)).trans hm9
    have hm0 := (hne (80) (by omega)).trans hm0
    have hm1 := (hne (96) (by omega)).trans hm1
    have hm3 := he
    have hfr := fun (q : Nat) (q1 : q ≠ 1 ∧ (q % 16 ≠ 0 ∨ q < 80)) => (hne q (by omega)).trans (hfr q q1)
    refine lv_aload_n hx hb dX4_begin_42 rfl (lv_at hl 0 rfl) ?_
    refine hv_get (C := RX4) (T := TX4) (N := 15) hx hb hts hiX4 hown hKs hV hm0 7 rfl (by decide) lk23 (fun _ h9 => h9) rfl dX4_begin_43 ?_
    refine lv_aload_n hx hb dX4_begin_46 rfl (lv_at hl 0 rfl) ?_
    refine hv_get (C := RX4) (T := TX4) (N := 15) hx hb hts hiX4 hown hKs hV hm0 3 rfl (by decide) lk44 (fun _ h9 => h9) rfl dX4_begin_47 ?_
    refine lv_iconst (v := nI 1) hx hb dX4_begin_50 (by decide) ?_
    refine hv_iast hx hb hKs hV hS hm4 (by omega) (by decide) dX4_begin_51 (fun ct H locs he hne hV hS => ?_)
    have hm2 := (hne (112) (by omega)).trans hm2
    have hm5 := (hne (160) (by omega)).trans hm5
    have hm6 := (hne (176) (by omega)).trans hm6
    have hm7 := (hne (192) (by omega)).trans hm7
    have hm8 := (hne (208) (by omega)).trans hm8
    have hm9 := (hne (224) (by omega)).trans hm9
    have hm0 := (hne (80) (by omega)).trans hm0
    have hm1 := (hne (96) (by omega)).trans hm1
    have hm3 := (hne (128) (by omega)).trans hm3
    have hm4 := he
    have hfr := fun (q : Nat) (q1 : q ≠ 1 ∧ (q % 16 ≠ 0 ∨ q < 80)) => (hne q (by omega)).trans (hfr q q1)
    refine lv_aload_n hx hb dX4_begin_52 rfl (lv_at hl 0 rfl) ?_
    refine lv_dup hx hb dX4_begin_53 rfl ?_
    refine hv_get (C := RX4) (T := TX4) (N := 15) hx hb hts hiX4 hown hKs hV hm0 3 rfl (by decide) lk44 (fun _ h9 => h9) rfl dX4_begin_54 ?_
    refine lv_iconst (v := nI 1) hx hb dX4_begin_57 (by decide) ?_
    refine hN_iadd hx hb dX4_begin_58 ?_
    refine hv_put (ty := .int) (C := RX4) (T := TX4) (N := 15) hx hb hts hiX4 tyX4 tyX4_ok nmX4 hown hKs hV hS hm0 3 rfl (by decide) lk44 (fun _ h9 => h9) (Or.inl (by decide +kernel)) (by decide +kernel) rfl rfl (Nat.le_of_ble_eq_true rfl) dX4_begin_59 (fun ct H locs he hne hV hS => ?_)
    have hm2 := (hne (112) (by omega)).trans hm2
    have hm5 := (hne (160) (by omega)).trans hm5
    have hm6 := (hne (176) (by omega)).trans hm6
    have hm7 := (hne (192) (by omega)).trans hm7
    have hm8 := (hne (208) (by omega)).trans hm8
    have hm9 := (hne (224) (by omega)).trans hm9
    have hm1 := (hne (96) (by omega)).trans hm1
    have hm3 := (hne (128) (by omega)).trans hm3
    have hm4 := (hne (144) (by omega)).trans hm4
    have hm0 : ct (80) = some (eO 4 [.int (nI (0)), .int (gMi σ), .int (gFu σ), .int (nI (gNC σ + 1)), .ref (ad (96)), .ref (ad (112)), .ref (ad (128)), .ref (ad (144)), .ref (ad (160)), .int (nI (gNS σ)), .ref (ad (176)), .ref (ad (192)), .int (nI (gNB σ)), .ref (ad (208)), .ref (ad (224))]) := he
    have hfr := fun (q : Nat) (q1 : q ≠ 1 ∧ (q % 16 ≠ 0 ∨ q < 80)) => (hne q (by omega)).trans (hfr q q1)
    refine lv_aload_n hx hb dX4_begin_62 rfl (lv_at hl 0 rfl) ?_
    refine hv_get (C := RX4) (T := TX4) (N := 15) hx hb hts hiX4 hown hKs hV hm0 3 rfl (by decide) lk44 (fun _ h9 => h9) rfl dX4_begin_63 ?_
    refine lv_iconst (v := nI 1) hx hb dX4_begin_66 (by decide) ?_
    refine hN_isub hx hb (by omega) dX4_begin_67 ?_
    have hkn : (k_begin σ) = 0 := if_neg c11
    exact hv_iret (v := nI (gNC σ + 1 - (1))) (u := (ad, ct)) hx hb hr ⟨fun _ => ⟨congrArg nI (by omega), ⟨_, _, _, _, _, _, _, _, _, ⟨hm0, hm1, hm2, hm3, hm4, hm5, hm6, hm7, hm8, hm9⟩, me_begin hme (by omega)⟩⟩, fun h9 => absurd hkn h9, fun q q1 => ⟨(hfa q q1).trans (by rw [had0]), fun q2 => (hfr q ⟨q1, q2⟩).trans (by rw [hct0])⟩⟩ hV hS dX4_begin_68 hlocks
  · refine lv_aload_n hx hb dX4_begin_14 rfl (lv_at hl 0 rfl) ?_
    refine lv_iconst (v := nI 1) hx hb dX4_begin_15 (by decide) ?_
    refine hv_calli (va_runV (As := [.int (nI (1))]) (rest := []) ⟨hx, hb, hml, hown, hts⟩ (c_X4_no l D N0 ad ct hm0 (1)) (cwV 1 hts gX4_begin_X4_no rfl rfl rfl (by decide +kernel) ⟨Nat.le_of_ble_eq_true rfl, Nat.le_of_ble_eq_true rfl⟩) (hv_preV (r := (RX4, TX4, 15)) hKs hV hS hm0 rfl) rfl rfl hl.1 rfl (lv_room (Nat.le_of_ble_eq_true rfl)) dX4_begin_16 ⟨(Nat.le_of_ble_eq_true rfl), (Nat.le_of_ble_eq_true rfl)⟩) hS (fun r9 u9 H locs hq hV hS => ?_)
    obtain ⟨ad9, ct⟩ := u9
    dsimp only at hq
    obtain ⟨rfl, ha9, he, hne⟩ := hq
    have ha9 := ha9.symm
    subst ha9
    have hV : hv D N0 ad ct H := hV
    have hm1 := (hne (96) (by omega)).trans hm1
    have hm2 := (hne (112) (by omega)).trans hm2
    have hm3 := (hne (128) (by omega)).trans hm3
    have hm4 := (hne (144) (by omega)).trans hm4
    have hm5 := (hne (160) (by omega)).trans hm5
    have hm6 := (hne (176) (by omega)).trans hm6
    have hm7 := (hne (192) (by omega)).trans hm7
    have hm8 := (hne (208) (by omega)).trans hm8
    have hm9 := (hne (224) (by omega)).trans hm9
    have hm0 : ct (80) = some (eO 4 [.int (nI (1)), .int (gMi σ), .int (gFu σ), .int (nI (gNC σ)), .ref (ad (96)), .ref (ad (112)), .ref (ad (128)), .ref (ad (144)), .ref (ad (160)), .int (nI (gNS σ)), .ref (ad (176)), .ref (ad (192)), .int (nI (gNB σ)), .ref (ad (208)), .ref (ad (224))]) := he
    have hfr := fun (q : Nat) (q1 : q ≠ 1 ∧ (q % 16 ≠ 0 ∨ q < 80)) => (hne q (by omega)).trans (hfr q q1)
    have hkn : (k_begin σ) = 1 := if_pos c11
    exact hv_iret (v := nI (0)) (u := (ad, ct)) hx hb hr ⟨fun h9 => absurd (hkn.symm.trans h9) (by decide), fun _ => by rw [hkn]; exact ⟨f1, f2, f3, f4, f5, f6, f7, f8, f9, ⟨hm0, hm1, hm2, hm3, hm4, hm5, hm6, hm7, hm8, hm9⟩, hme⟩, fun q q1 => ⟨(hfa q q1).trans (by rw [had0]), fun q2 => (hfr q ⟨q1, q2⟩).trans (by rw [hct0])⟩⟩ hV hS dX4_begin_19 hlocks

set_option maxHeartbeats 4000000 in
set_option maxRecDepth 100000 in
theorem c_X4_furnace (l : Launch) (D : hG) (N0 : Nat) (ad : Nat → Nat) (ct : hC) {σ : gS} {th : Nat} (hM : gM D σ th ad ct) (hO : okS σ) (y0q : Int32) : Met l yX4_furnace wsX4_furnace ({ frames := 2, cells := 0, slots := 0, locals := 43 }) (hPc D N0 ad ct [.ref (ad (80)), .int (y0q)]) (va_Qi (fun (z : Int32) (u : hU) => ((k_furnace σ y0q) = 0 → z = gFu σ ∧ gM D (uObj σ (gNB σ) y0q (gMi σ)) 0 u.1 u.2) ∧ ((k_furnace σ y0q) ≠ 0 → gM D σ (k_furnace σ y0q) u.1 u.2) ∧ hFm ad ct u) (hB D N0) (hA N0)) 0 0 (hA N0) := by
  refine Met.ofW (cc := cX4_furnace) (maxL := 3) (ret := (some .int)) (by decide) rfl ?_
  intro p e s m args below meth c s₁ B hml hv0
  obtain ⟨hargs, hKs, hV⟩ := hv0
  have hx := B.exec
  have hb := B.bytes
  have hr := B.returns
  have hts := atoms_spec (ws := wsX4_furnace) B.pre
  have hown : s.vm.findClass RX4 = some m.cls := findClass_of_methodNamed B.named
  have hlocks := B.notSynchronized
  have hS : va_S (hA N0) s.heap s.heap [] := va_S.rf
  have hiX4 : ∀ w ∈ u_ws RX4 TX4 15, w ∈ wsX4_furnace := by decide +kernel
  have lk41 := hts (.fieldLink RX4 41 "CaneSlicesModel" "thrown" "I") (by decide +kernel)
  have lk9 := hts (.fieldLink RX4 9 "CaneSlicesModel" "furnace" "I") (by decide +kernel)
  have hl := lv_entry ([.ref (ad (80)), .int (y0q)]) (n := 3) (Nat.le_of_ble_eq_true rfl)
  have hE : entryFrame m args 3 = entryFrame m ([.ref (ad (80)), .int (y0q)] : List Value).toArray 3 := by rw [hargs]
  rw [hE, lg_entry_eq]
  generalize (lg_sl ([.ref (ad (80)), .int (y0q)]) ++ List.replicate (3 - (lg_sl ([.ref (ad (80)), .int (y0q)])).length) Slot.unset).toArray = ls at hl ⊢
  have hl : lv_has ls 3 [(0, .ref (ad (80))), (1, .int (y0q))] := hl
  obtain ⟨hn8, hn60, hn6, -⟩ := id hO
  obtain ⟨f1, f2, f3, f4, f5, f6, f7, f8, f9, ⟨hm0, hm1, hm2, hm3, hm4, hm5, hm6, hm7, hm8, hm9⟩, hme⟩ := id hM
  obtain ⟨em1, em2, em3, em4, em5, em6, em7, em8, em9⟩ := id hme
  obtain ⟨ad0, had0⟩ : ∃ z, z = ad := ⟨ad, rfl⟩
  obtain ⟨ct0, hct0⟩ : ∃ z, z = ct := ⟨ct, rfl⟩
  have hfr : ∀ q : Nat, (q ≠ 1 ∧ (q % 16 ≠ 0 ∨ q < 80)) → ct q = ct0 q := fun q _ => by rw [hct0]
  have hfa : ∀ q : Nat, q ≠ 1 → ad q = ad0 q := fun q _ => by rw [had0]
  refine lv_aload_n hx hb dX4_furnace_0 rfl (lv_at hl 0 rfl) ?_
  refine lv_iconst (v := nI 0) hx hb dX4_furnace_1 (by decide) ?_
  refine hv_put (ty := .int) (C := RX4) (T := TX4) (N := 15) hx hb hts hiX4 tyX4 tyX4_ok nmX4 hown hKs hV hS hm0 0 rfl (by decide) lk41 (fun _ h9 => h9) (Or.inl (by decide +kernel)) (by decide +kernel) rfl rfl (Nat.le_of_ble_eq_true rfl) dX4_furnace_2 (fun ct H locs he hne hV hS => ?_)
  have hm1 := (hne (96) (by omega)).trans hm1
  have hm2 := (hne (112) (by omega)).trans hm2
  have hm3 := (hne (128) (by omega)).trans hm3
  have hm4 := (hne (144) (by omega)).trans hm4
  have hm5 := (hne (160) (by omega)).trans hm5
  have hm6 := (hne (176) (by omega)).trans hm6
  have hm7 := (hne (192) (by omega)).trans hm7
  have hm8 := (hne (208) (by omega)).trans hm8
  have hm9 := (hne (224) (by omega)).trans hm9
  have hm0 : ct (80) = some (eO 4 [.int (nI (0)), .int (gMi σ), .int (gFu σ), .int (nI (gNC σ)), .ref (ad (96)), .ref (ad (112)), .ref (ad (128)), .ref (ad (144)), .ref (ad (160)), .int (nI (gNS σ)), .ref (ad (176)), .ref (ad (192)), .int (nI (gNB σ)), .ref (ad (208)), .ref (ad (224))]) := he
  have hfr := fun (q : Nat) (q1 : q ≠ 1 ∧ (q % 16 ≠ 0 ∨ q < 80)) => (hne q (by omega)).trans (hfr q q1)
  refine lv_iload_n hx hb dX4_furnace_5 rfl (lv_at hl 1 rfl) ?_
  refine lv_iconst (v := (-1)) hx hb dX4_furnace_6 (by decide) ?_
  refine hI_icmp_eq (tgt := 24) hx hb dX4_furnace_7 (by decide) (fun c7 => ?_) (fun c7 => ?_)
  · refine lv_aload_n hx hb dX4_furnace_24 rfl (lv_at hl 0 rfl) ?_
    refine hv_get (C := RX4) (T := TX4) (N := 15) hx hb hts hiX4 hown hKs hV hm0 2 rfl (by decide) lk9 (fun _ h9 => h9) rfl dX4_furnace_25 ?_
    refine lv_istore_n (lv' := [(2, .int (gFu σ)), (0, .ref (ad (80))), (1, .int (y0q))]) hx hb dX4_furnace_28 rfl hl (by decide) rfl (fun ls hl => ?_)
    refine lv_aload_n hx hb dX4_furnace_29 rfl (lv_at hl 1 rfl) ?_
    refine lv_iload_n hx hb dX4_furnace_30 rfl (lv_at hl 2 rfl) ?_
    refine hv_put (ty := .int) (C := RX4) (T := TX4) (N := 15) hx hb hts hiX4 tyX4 tyX4_ok nmX4 hown hKs hV hS hm0 2 rfl (by decide) lk9 (fun _ h9 => h9) (Or.inl (by decide +kernel)) (by decide +kernel) rfl rfl (Nat.le_of_ble_eq_true rfl) dX4_furnace_31 (fun ct H locs he hne hV hS => ?_)
    have hm1 := (hne (96) (by omega)).trans hm1
    have hm2 := (hne (112) (by omega)).trans hm2
    have hm3 := (hne (128) (by omega)).trans hm3
    have hm4 := (hne (144) (by omega)).trans hm4
    have hm5 := (hne (160) (by omega)).trans hm5
    have hm6 := (hne (176) (by omega)).trans hm6
    have hm7 := (hne (192) (by omega)).trans hm7
    have hm8 := (hne (208) (by omega)).trans hm8
    have hm9 := (hne (224) (by omega)).trans hm9
    have hm0 : ct (80) = some (eO 4 [.int (nI (0)), .int (gMi σ), .int (y0q), .int (nI (gNC σ)), .ref (ad (96)), .ref (ad (112)), .ref (ad (128)), .ref (ad (144)), .ref (ad (160)), .int (nI (gNS σ)), .ref (ad (176)), .ref (ad (192)), .int (nI (gNB σ)), .ref (ad (208)), .ref (ad (224))]) := he
    have hfr := fun (q : Nat) (q1 : q ≠ 1 ∧ (q % 16 ≠ 0 ∨ q < 80)) => (hne q (by omega)).trans (hfr q q1)
    refine lv_iload_n hx hb dX4_furnace_34 rfl (lv_at hl 0 rfl) ?_
    have hkn : (k_furnace σ y0q) = 0 := by unfold k_furnace; rw [decide_eq_true c7, Bool.true_or, if_pos rfl]
    exact hv_iret (v := (gFu σ)) (u := (ad, ct)) hx hb hr ⟨fun _ => ⟨rfl, ⟨f1, f2, f3, f4, f5, f6, f7, f8, f9, ⟨hm0, hm1, hm2, hm3, hm4, hm5, hm6, hm7, hm8, hm9⟩, hme⟩⟩, fun h9 => absurd hkn h9, fun q q1 => ⟨(hfa q q1).trans (by rw [had0]), fun q2 => (hfr q ⟨q1, q2⟩).trans (by rw [hct0])⟩⟩ hV hS dX4_furnace_35 hlocks
  · refine lv_aload_n hx hb dX4_furnace_10 rfl (lv_at hl 0 rfl) ?_
    refine lv_iload_n hx hb dX4_furnace_11 rfl (lv_at hl 1 rfl) ?_
    refine hv_calli (va_runV (As := [.int (y0q)]) (rest := []) ⟨hx, hb, hml, hown, hts⟩ (c_X4_isCane l D N0 ad ct (show gM D σ _ ad ct from ⟨f1, f2, f3, f4, f5, f6, f7, f8, f9, ⟨hm0, hm1, hm2, hm3, hm4, hm5, hm6, hm7, hm8, hm9⟩, hme⟩) hO ((y0q))) (cwV 1 hts gX4_furnace_X4_isCane rfl rfl rfl (by decide +kernel) ⟨Nat.le_of_ble_eq_true rfl, Nat.le_of_ble_eq_true rfl⟩) (hv_preV (r := (RX4, TX4, 15)) hKs hV hS hm0 rfl) rfl rfl hl.1 rfl (lv_room (Nat.le_of_ble_eq_true rfl)) dX4_furnace_12 ⟨(Nat.le_of_ble_eq_true rfl), (Nat.le_of_ble_eq_true rfl)⟩) hS (fun r9 u9 H locs hq hV hS => ?_)
    obtain ⟨rfl, rfl⟩ := hq
    have hV : hv D N0 ad ct H := hV
    refine hB_if_ne (tgt := 24) hx hb dX4_furnace_15 (by decide) (fun c15 => ?_) (fun c15 => ?_)
    · obtain ⟨y0qn, hy0qn, rfl⟩ := inR_of c15
      have e_y0q : (nI y0qn).toInt.toNat = y0qn := toNat_nI (by omega)
      refine lv_aload_n hx hb dX4_furnace_24 rfl (lv_at hl 0 rfl) ?_
      refine hv_get (C := RX4) (T := TX4) (N := 15) hx hb hts hiX4 hown hKs hV hm0 2 rfl (by decide) lk9 (fun _ h9 => h9) rfl dX4_furnace_25 ?_
      refine lv_istore_n (lv' := [(2, .int (gFu σ)), (0, .ref (ad (80))), (1, .int (nI (y0qn)))]) hx hb dX4_furnace_28 rfl hl (by decide) rfl (fun ls hl => ?_)
      refine lv_aload_n hx hb dX4_furnace_29 rfl (lv_at hl 1 rfl) ?_
      refine lv_iload_n hx hb dX4_furnace_30 rfl (lv_at hl 2 rfl) ?_
      refine hv_put (ty := .int) (C := RX4) (T := TX4) (N := 15) hx hb hts hiX4 tyX4 tyX4_ok nmX4 hown hKs hV hS hm0 2 rfl (by decide) lk9 (fun _ h9 => h9) (Or.inl (by decide +kernel)) (by decide +kernel) rfl rfl (Nat.le_of_ble_eq_true rfl) dX4_furnace_31 (fun ct H locs he hne hV hS => ?_)
      have hm1 := (hne (96) (by omega)).trans hm1
      have hm2 := (hne (112) (by omega)).trans hm2
      have hm3 := (hne (128) (by omega)).trans hm3
      have hm4 := (hne (144) (by omega)).trans hm4
      have hm5 := (hne (160) (by omega)).trans hm5
      have hm6 := (hne (176) (by omega)).trans hm6
      have hm7 := (hne (192) (by omega)).trans hm7
      have hm8 := (hne (208) (by omega)).trans hm8
      have hm9 := (hne (224) (by omega)).trans hm9
      have hm0 : ct (80) = some (eO 4 [.int (nI (0)), .int (gMi σ), .int (nI (y0qn)), .int (nI (gNC σ)), .ref (ad (96)), .ref (ad (112)), .ref (ad (128)), .ref (ad (144)), .ref (ad (160)), .int (nI (gNS σ)), .ref (ad (176)), .ref (ad (192)), .int (nI (gNB σ)), .ref (ad (208)), .ref (ad (224))]) := he
      have hfr := fun (q : Nat) (q1 : q ≠ 1 ∧ (q % 16 ≠ 0 ∨ q < 80)) => (hne q (by omega)).trans (hfr q q1)
      refine lv_iload_n hx hb dX4_furnace_34 rfl (lv_at hl 0 rfl) ?_
      have hkn : (k_furnace σ (nI y0qn)) = 0 := by unfold k_furnace; rw [c15, Bool.or_true, if_pos rfl]
      exact hv_iret (v := (gFu σ)) (u := (ad, ct)) hx hb hr ⟨fun _ => ⟨rfl, ⟨f1, f2, f3, f4, f5, f6, f7, f8, f9, ⟨hm0, hm1, hm2, hm3, hm4, hm5, hm6, hm7, hm8, hm9⟩, hme⟩⟩, fun h9 => absurd hkn h9, fun q q1 => ⟨(hfa q q1).trans (by rw [had0]), fun q2 => (hfr q ⟨q1, q2⟩).trans (by rw [hct0])⟩⟩ hV hS dX4_furnace_35 hlocks
    · refine lv_aload_n hx hb dX4_furnace_18 rfl (lv_at hl 0 rfl) ?_
      refine lv_iconst (v := nI 1) hx hb dX4_furnace_19 (by decide) ?_
      refine hv_calli (va_runV (As := [.int (nI (1))]) (rest := []) ⟨hx, hb, hml, hown, hts⟩ (c_X4_no l D N0 ad ct hm0 (1)) (cwV 1 hts gX4_furnace_X4_no rfl rfl rfl (by decide +kernel) ⟨Nat.le_of_ble_eq_true rfl, Nat.le_of_ble_eq_true rfl⟩) (hv_preV (r := (RX4, TX4, 15)) hKs hV hS hm0 rfl) rfl rfl hl.1 rfl (lv_room (Nat.le_of_ble_eq_true rfl)) dX4_furnace_20 ⟨(Nat.le_of_ble_eq_true rfl), (Nat.le_of_ble_eq_true rfl)⟩) hS (fun r9 u9 H locs hq hV hS => ?_)
      obtain ⟨ad9, ct⟩ := u9
      dsimp only at hq
      obtain ⟨rfl, ha9, he, hne⟩ := hq
      have ha9 := ha9.symm
      subst ha9
      have hV : hv D N0 ad ct H := hV
      have hm1 := (hne (96) (by omega)).trans hm1
      have hm2 := (hne (112) (by omega)).trans hm2
      have hm3 := (hne (128) (by omega)).trans hm3
      have hm4 := (hne (144) (by omega)).trans hm4
      have hm5 := (hne (160) (by omega)).trans hm5
      have hm6 := (hne (176) (by omega)).trans hm6
      have hm7 := (hne (192) (by omega)).trans hm7
      have hm8 := (hne (208) (by omega)).trans hm8
      have hm9 := (hne (224) (by omega)).trans hm9
      have hm0 : ct (80) = some (eO 4 [.int (nI (1)), .int (gMi σ), .int (gFu σ), .int (nI (gNC σ)), .ref (ad (96)), .ref (ad (112)), .ref (ad (128)), .ref (ad (144)), .ref (ad (160)), .int (nI (gNS σ)), .ref (ad (176)), .ref (ad (192)), .int (nI (gNB σ)), .ref (ad (208)), .ref (ad (224))]) := he
      have hfr := fun (q : Nat) (q1 : q ≠ 1 ∧ (q % 16 ≠ 0 ∨ q < 80)) => (hne q (by omega)).trans (hfr q q1)
      have hkn : (k_furnace σ y0q) = 1 := by unfold k_furnace; rw [decide_eq_false c7, Bool.false_or, if_neg (by rw [c15]; decide)]
      exact hv_iret (v := nI (0)) (u := (ad, ct)) hx hb hr ⟨fun h9 => absurd (hkn.symm.trans h9) (by decide), fun _ => by rw [hkn]; exact ⟨f1, f2, f3, f4, f5, f6, f7, f8, f9, ⟨hm0, hm1, hm2, hm3, hm4, hm5, hm6, hm7, hm8, hm9⟩, hme⟩, fun q q1 => ⟨(hfa q q1).trans (by rw [had0]), fun q2 => (hfr q ⟨q1, q2⟩).trans (by rw [hct0])⟩⟩ hV hS dX4_furnace_23 hlocks

set_option maxHeartbeats 4000000 in
set_option maxRecDepth 100000 in
theorem c_X4_rest (l : Launch) (D : hG) (N0 : Nat) (ad : Nat → Nat) (ct : hC) {σ : gS} {th : Nat} (hM : gM D σ th ad ct) (hO : okS σ) (y0q : Int32) : Met l yX4_rest wsX4_rest ({ frames := 2, cells := 0, slots := 0, locals := 36 }) (hPc D N0 ad ct [.ref (ad (80)), .int (y0q)]) (va_Qi (fun (z : Int32) (u : hU) => ((k_rest y0q) = 0 → z = nI (nsm (cHt (itP σ y0q.toInt.toNat)) (gNC σ)) ∧ gM D (itP σ y0q.toInt.toNat) 0 u.1 u.2) ∧ ((k_rest y0q) ≠ 0 → gM D σ (k_rest y0q) u.1 u.2) ∧ hFm ad ct u) (hB D N0) (hA N0)) 0 0 (hA N0) := by
  refine Met.ofW (cc := cX4_rest) (maxL := 3) (ret := (some .int)) (by decide) rfl ?_
  intro p e s m args below meth c s₁ B hml hv0
  obtain ⟨hargs, hKs, hV⟩ := hv0
  have hx := B.exec
  have hb := B.bytes
  have hr := B.returns
  have hts := atoms_spec (ws := wsX4_rest) B.pre
  have hown : s.vm.findClass RX4 = some m.cls := findClass_of_methodNamed B.named
  have hlocks := B.notSynchronized
  have hS : va_S (hA N0) s.heap s.heap [] := va_S.rf
  have hiX4 : ∀ w ∈ u_ws RX4 TX4 15, w ∈ wsX4_rest := by decide +kernel
  have lk41 := hts (.fieldLink RX4 41 "CaneSlicesModel" "thrown" "I") (by decide +kernel)
  have hl := lv_entry ([.ref (ad (80)), .int (y0q)]) (n := 3) (Nat.le_of_ble_eq_true rfl)
  have hE : entryFrame m args 3 = entryFrame m ([.ref (ad (80)), .int (y0q)] : List Value).toArray 3 := by rw [hargs]
  rw [hE, lg_entry_eq]
  generalize (lg_sl ([.ref (ad (80)), .int (y0q)]) ++ List.replicate (3 - (lg_sl ([.ref (ad (80)), .int (y0q)])).length) Slot.unset).toArray = ls at hl ⊢
  have hl : lv_has ls 3 [(0, .ref (ad (80))), (1, .int (y0q))] := hl
  obtain ⟨Qz, hQz⟩ : ∃ z : State → Prop, z = (MQ below (va_Qi (fun (z : Int32) (u : hU) => ((k_rest y0q) = 0 → z = nI (nsm (cHt (itP σ y0q.toInt.toNat)) (gNC σ)) ∧ gM D (itP σ y0q.toInt.toNat) 0 u.1 u.2) ∧ ((k_rest y0q) ≠ 0 → gM D σ (k_rest y0q) u.1 u.2) ∧ hFm ad ct u) (hB D N0) (hA N0)) args s 0 0 (hA N0)) := ⟨_, rfl⟩
  rw [← hQz]
  obtain ⟨hn8, hn60, hn6, -⟩ := id hO
  obtain ⟨f1, f2, f3, f4, f5, f6, f7, f8, f9, ⟨hm0, hm1, hm2, hm3, hm4, hm5, hm6, hm7, hm8, hm9⟩, hme⟩ := id hM
  obtain ⟨em1, em2, em3, em4, em5, em6, em7, em8, em9⟩ := id hme
  obtain ⟨ad0, had0⟩ : ∃ z, z = ad := ⟨ad, rfl⟩
  obtain ⟨ct0, hct0⟩ : ∃ z, z = ct := ⟨ct, rfl⟩
  have hfr : ∀ q : Nat, (q ≠ 1 ∧ (q % 16 ≠ 0 ∨ q < 80)) → ct q = ct0 q := fun q _ => by rw [hct0]
  have hfa : ∀ q : Nat, q ≠ 1 → ad q = ad0 q := fun q _ => by rw [had0]
  refine lv_aload_n hx hb dX4_rest_0 rfl (lv_at hl 0 rfl) ?_
  refine lv_iconst (v := nI 0) hx hb dX4_rest_1 (by decide) ?_
  refine hv_put (ty := .int) (C := RX4) (T := TX4) (N := 15) hx hb hts hiX4 tyX4 tyX4_ok nmX4 hown hKs hV hS hm0 0 rfl (by decide) lk41 (fun _ h9 => h9) (Or.inl (by decide +kernel)) (by decide +kernel) rfl rfl (Nat.le_of_ble_eq_true rfl) dX4_rest_2 (fun ct H locs he hne hV hS => ?_)
  have hm1 := (hne (96) (by omega)).trans hm1
  have hm2 := (hne (112) (by omega)).trans hm2
  have hm3 := (hne (128) (by omega)).trans hm3
  have hm4 := (hne (144) (by omega)).trans hm4
  have hm5 := (hne (160) (by omega)).trans hm5
  have hm6 := (hne (176) (by omega)).trans hm6
  have hm7 := (hne (192) (by omega)).trans hm7
  have hm8 := (hne (208) (by omega)).trans hm8
  have hm9 := (hne (224) (by omega)).trans hm9
  have hm0 : ct (80) = some (eO 4 [.int (nI (0)), .int (gMi σ), .int (gFu σ), .int (nI (gNC σ)), .ref (ad (96)), .ref (ad (112)), .ref (ad (128)), .ref (ad (144)), .ref (ad (160)), .int (nI (gNS σ)), .ref (ad (176)), .ref (ad (192)), .int (nI (gNB σ)), .ref (ad (208)), .ref (ad (224))]) := he
  have hfr := fun (q : Nat) (q1 : q ≠ 1 ∧ (q % 16 ≠ 0 ∨ q < 80)) => (hne q (by omega)).trans (hfr q q1)
  refine lv_iload_n hx hb dX4_rest_5 rfl (lv_at hl 1 rfl) ?_
  refine lv_iconst (v := nI 1) hx hb dX4_rest_6 (by decide) ?_
  refine lv_bipush (v := nI 60) hx hb dX4_rest_7 (by decide) ?_
  refine hv_calli (va_runS (As := [.int (y0q), .int (nI (1)), .int (nI (60))]) (rest := []) ⟨hx, hb, hml, hown, hts⟩ (c_X4_isIn l D N0 ad ct ((y0q)) (nI (1)) (nI (60))) (va_cwS 3 hts gX4_rest_X4_isIn rfl rfl rfl (by decide +kernel) ⟨Nat.le_of_ble_eq_true rfl, Nat.le_of_ble_eq_true rfl⟩) (hv_preS hKs hV hS) rfl rfl hl.1 rfl (lv_room (Nat.le_of_ble_eq_true rfl)) dX4_rest_9 ⟨(Nat.le_of_ble_eq_true rfl), (Nat.le_of_ble_eq_true rfl)⟩) hS (fun r9 u9 H locs hq hV hS => ?_)
  obtain ⟨rfl, rfl⟩ := hq
  have hV : hv D N0 ad ct H := hV
  refine hv_eqi (y := hbv (inB ((y0q)) 1 60)) (congrArg hbv (inI_b (by omega) (by omega))) ?_
  refine hB_if_ne (tgt := 21) hx hb dX4_rest_12 (by decide) (fun c12 => ?_) (fun c12 => ?_)
  · obtain ⟨h91, h92⟩ := of_decide_eq_true c12
    obtain ⟨y0qn, hy0qn, rfl⟩ := hI_of (x := y0q) (n := 61) (by omega) (by omega)
    have e_y0q : (nI y0qn).toInt.toNat = y0qn := toNat_nI (by omega)
    refine lv_iconst (v := nI 0) hx hb dX4_rest_21 (by decide) ?_
    refine lv_istore_n (lv' := [(2, .int (nI (0))), (0, .ref (ad (80))), (1, .int (nI (y0qn)))]) hx hb dX4_rest_22 rfl hl (by decide) rfl (fun ls hl => ?_)
    have L23 : ∀ (n i : Nat), i ≤ y0qn → y0qn < i + n → ∀ (ct : hC) (H : Heap) (locs : List Loc), (gM D (itP σ i) 0 ad ct) → (∀ q : Nat, (q ≠ 1 ∧ (q % 16 ≠ 0 ∨ q < 80)) → ct q = ct0 q) → hv D N0 ad ct H → va_S (hA N0) s.heap H locs → ∀ ls : Array Slot, lv_has ls 3 [(0, .ref (ad (80))), (1, .int (nI (y0qn))), (2, .int (nI (i)))] → W p l e (headSpec wsX4_rest ({ frames := 2, cells := 0, slots := 0, locals := 36 })).room s m args below meth c H locs 0 0 Qz (F0 m 23 ls []) := by
      intro n
      induction n with
      | zero => intro i h1 h2; exact absurd h2 (by omega)
      | succ n ih23 =>
        intro i hi23 hn23 ct H locs hMi hfr hV hS ls hl
        obtain ⟨f1, f2, f3, f4, f5, f6, f7, f8, f9, ⟨hm0, hm1, hm2, hm3, hm4, hm5, hm6, hm7, hm8, hm9⟩, hme⟩ := id hMi
        obtain ⟨em1, em2, em3, em4, em5, em6, em7, em8, em9⟩ := id hme
        refine lv_iload_n hx hb dX4_rest_23 rfl (lv_at hl 2 rfl) ?_
        refine lv_iload_n hx hb dX4_rest_24 rfl (lv_at hl 1 rfl) ?_
        refine hN_icmp_ge (tgt := 38) hx hb (by omega) (by omega) dX4_rest_25 (by decide) (fun c25 => ?_) (fun c25 => ?_)
        · refine lv_aload_n hx hb dX4_rest_38 rfl (lv_at hl 0 rfl) ?_
          refine hv_calli (va_runV (As := []) (rest := []) ⟨hx, hb, hml, hown, hts⟩ (c_X4_allHeat l D N0 ad ct (show gM D (itP σ i) _ ad ct from ⟨f1, f2, f3, f4, f5, f6, f7, f8, f9, ⟨hm0, hm1, hm2, hm3, hm4, hm5, hm6, hm7, hm8, hm9⟩, hme⟩) (ok_itP hO i)) (cwV 0 hts gX4_rest_X4_allHeat rfl rfl rfl (by decide +kernel) ⟨Nat.le_of_ble_eq_true rfl, Nat.le_of_ble_eq_true rfl⟩) (hv_preV (r := (RX4, TX4, 15)) hKs hV hS hm0 rfl) rfl rfl hl.1 rfl (lv_room (Nat.le_of_ble_eq_true rfl)) dX4_rest_39 ⟨(Nat.le_of_ble_eq_true rfl), (Nat.le_of_ble_eq_true rfl)⟩) hS (fun r9 u9 H locs hq hV hS => ?_)
          obtain ⟨rfl, rfl⟩ := hq
          have hV : hv D N0 ad ct H := hV
          have hkn : (k_rest (nI y0qn)) = 0 := by unfold k_rest; rw [show inB _ 1 60 = _ from c12]; rfl
          rw [hQz]
          exact hv_iret (v := nI (nsm (cHt (itP σ i)) (gNC (itP σ i)))) (u := (ad, ct)) hx hb hr ⟨fun _ => ⟨by rw [e_y0q, show y0qn = i by omega, itP_nC], by rw [e_y0q, show y0qn = i by omega]; exact ⟨f1, f2, f3, f4, f5, f6, f7, f8, f9, ⟨hm0, hm1, hm2, hm3, hm4, hm5, hm6, hm7, hm8, hm9⟩, hme⟩⟩, fun h9 => absurd hkn h9, fun q q1 => ⟨(hfa q q1).trans (by rw [had0]), fun q2 => (hfr q ⟨q1, q2⟩).trans (by rw [hct0])⟩⟩ hV hS dX4_rest_42 hlocks
        · refine lv_aload_n hx hb dX4_rest_28 rfl (lv_at hl 0 rfl) ?_
          refine hv_callv (va_runV (As := []) (rest := []) ⟨hx, hb, hml, hown, hts⟩ (c_X4_pass l D N0 ad ct hMi (okH_of (ok_itP hO i))) (cwV 0 hts gX4_rest_X4_pass rfl rfl rfl (by decide +kernel) ⟨Nat.le_of_ble_eq_true rfl, Nat.le_of_ble_eq_true rfl⟩) (hv_preV (r := (RX4, TX4, 15)) hKs hV hS hm0 rfl) rfl rfl hl.1 rfl (lv_room (Nat.le_of_ble_eq_true rfl)) dX4_rest_29 ⟨(Nat.le_of_ble_eq_true rfl), (Nat.le_of_ble_eq_true rfl)⟩) hS (fun u9 H locs hq hV hS => ?_)
          obtain ⟨ad9, ct⟩ := u9
          dsimp only at hq
          obtain ⟨ha9, hMp, hfp⟩ := hq
          have ha9 := ha9.symm
          subst ha9
          have hV : hv D N0 ad ct H := hV
          have hfr := fun (q : Nat) (q1 : q ≠ 1 ∧ (q % 16 ≠ 0 ∨ q < 80)) => ((hfp q q1.1).2 q1.2).trans (hfr q q1)
          refine lv_iinc (v := nI (i + 1)) (lv' := [(2, .int (nI (i + 1))), (0, .ref (ad (80))), (1, .int (nI (y0qn)))]) hx hb dX4_rest_32 hl (k := 2) rfl (nI_add (i) 1) (by decide) rfl (fun ls hl => ?_)
          refine lv_goto (tgt := 23) hx hb dX4_rest_35 (by decide) ?_
          exact ih23 (i + 1)  (by omega) (by omega) ct _ _ (hMp) (hfr) hV hS ls (lv_sub hl [1, 2, 0] rfl)
    exact L23 (y0qn + 1) (0)  (by omega) (by omega) ct _ _ (show gM D σ 0 ad ct from ⟨f1, f2, f3, f4, f5, f6, f7, f8, f9, ⟨hm0, hm1, hm2, hm3, hm4, hm5, hm6, hm7, hm8, hm9⟩, hme⟩) (hfr) hV hS ls (lv_sub hl [1, 2, 0] rfl)
  · refine lv_aload_n hx hb dX4_rest_15 rfl (lv_at hl 0 rfl) ?_
    refine lv_iconst (v := nI 1) hx hb dX4_rest_16 (by decide) ?_
    refine hv_calli (va_runV (As := [.int (nI (1))]) (rest := []) ⟨hx, hb, hml, hown, hts⟩ (c_X4_no l D N0 ad ct hm0 (1)) (cwV 1 hts gX4_rest_X4_no rfl rfl rfl (by decide +kernel) ⟨Nat.le_of_ble_eq_true rfl, Nat.le_of_ble_eq_true rfl⟩) (hv_preV (r := (RX4, TX4, 15)) hKs hV hS hm0 rfl) rfl rfl hl.1 rfl (lv_room (Nat.le_of_ble_eq_true rfl)) dX4_rest_17 ⟨(Nat.le_of_ble_eq_true rfl), (Nat.le_of_ble_eq_true rfl)⟩) hS (fun r9 u9 H locs hq hV hS => ?_)
    obtain ⟨ad9, ct⟩ := u9
    dsimp only at hq
    obtain ⟨rfl, ha9, he, hne⟩ := hq
    have ha9 := ha9.symm
    subst ha9
    have hV : hv D N0 ad ct H := hV
    have hm1 := (hne (96) (by omega)).trans hm1
    have hm2 := (hne (112) (by omega)).trans hm2
    have hm3 := (hne (128) (by omega)).trans hm3
    have hm4 := (hne (144) (by omega)).trans hm4
    have hm5 := (hne (160) (by omega)).trans hm5
    have hm6 := (hne (176) (by omega)).trans hm6
    have hm7 := (hne (192) (by omega)).trans hm7
    have hm8 := (hne (208) (by omega)).trans hm8
    have hm9 := (hne (224) (by omega)).trans hm9
    have hm0 : ct (80) = some (eO 4 [.int (nI (1)), .int (gMi σ), .int (gFu σ), .int (nI (gNC σ)), .ref (ad (96)), .ref (ad (112)), .ref (ad (128)), .ref (ad (144)), .ref (ad (160)), .int (nI (gNS σ)), .ref (ad (176)), .ref (ad (192)), .int (nI (gNB σ)), .ref (ad (208)), .ref (ad (224))]) := he
    have hfr := fun (q : Nat) (q1 : q ≠ 1 ∧ (q % 16 ≠ 0 ∨ q < 80)) => (hne q (by omega)).trans (hfr q q1)
    have hkn : (k_rest y0q) = 1 := by unfold k_rest; rw [show inB _ 1 60 = _ from c12]; rfl
    rw [hQz]
    exact hv_iret (v := nI (0)) (u := (ad, ct)) hx hb hr ⟨fun h9 => absurd (hkn.symm.trans h9) (by decide), fun _ => by rw [hkn]; exact ⟨f1, f2, f3, f4, f5, f6, f7, f8, f9, ⟨hm0, hm1, hm2, hm3, hm4, hm5, hm6, hm7, hm8, hm9⟩, hme⟩, fun q q1 => ⟨(hfa q q1).trans (by rw [had0]), fun q2 => (hfr q ⟨q1, q2⟩).trans (by rw [hct0])⟩⟩ hV hS dX4_rest_20 hlocks

set_option maxHeartbeats 4000000 in
set_option maxRecDepth 100000 in
theorem c_X4_bead (l : Launch) (D : hG) (N0 : Nat) (ad : Nat → Nat) (ct : hC) {σ : gS} {th : Nat} (hM : gM D σ th ad ct) (hO : okS σ) : Met l yX4_bead wsX4_bead ({ frames := 1, cells := 0, slots := 0, locals := 21 }) (hPc D N0 ad ct [.ref (ad (80))]) (va_Qi (fun (z : Int32) (u : hU) => ((k_bead σ) = 0 → z = nI (gNB σ) ∧ gM D (uObj σ (gNB σ + 1) (gFu σ) (gMi σ)) 0 u.1 u.2) ∧ ((k_bead σ) ≠ 0 → gM D σ (k_bead σ) u.1 u.2) ∧ hFm ad ct u) (hB D N0) (hA N0)) 0 0 (hA N0) := by
  refine Met.ofW (cc := cX4_bead) (maxL := 2) (ret := (some .int)) (by decide) rfl ?_
  intro p e s m args below meth c s₁ B hml hv0
  obtain ⟨hargs, hKs, hV⟩ := hv0
  have hx := B.exec
  have hb := B.bytes
  have hr := B.returns
  have hts := atoms_spec (ws := wsX4_bead) B.pre
  have hown : s.vm.findClass RX4 = some m.cls := findClass_of_methodNamed B.named
  have hlocks := B.notSynchronized
  have hS : va_S (hA N0) s.heap s.heap [] := va_S.rf
  have hiX4 : ∀ w ∈ u_ws RX4 TX4 15, w ∈ wsX4_bead := by decide +kernel
  have lk41 := hts (.fieldLink RX4 41 "CaneSlicesModel" "thrown" "I") (by decide +kernel)
  have lk54 := hts (.fieldLink RX4 54 "CaneSlicesModel" "beads" "I") (by decide +kernel)
  have lk35 := hts (.fieldLink RX4 35 "CaneSlicesModel" "eye" "[I") (by decide +kernel)
  have hl := lv_entry ([.ref (ad (80))]) (n := 2) (Nat.le_of_ble_eq_true rfl)
  have hE : entryFrame m args 2 = entryFrame m ([.ref (ad (80))] : List Value).toArray 2 := by rw [hargs]
  rw [hE, lg_entry_eq]
  generalize (lg_sl ([.ref (ad (80))]) ++ List.replicate (2 - (lg_sl ([.ref (ad (80))])).length) Slot.unset).toArray = ls at hl ⊢
  have hl : lv_has ls 2 [(0, .ref (ad (80)))] := hl
  obtain ⟨Qz, hQz⟩ : ∃ z : State → Prop, z = (MQ below (va_Qi (fun (z : Int32) (u : hU) => ((k_bead σ) = 0 → z = nI (gNB σ) ∧ gM D (uObj σ (gNB σ + 1) (gFu σ) (gMi σ)) 0 u.1 u.2) ∧ ((k_bead σ) ≠ 0 → gM D σ (k_bead σ) u.1 u.2) ∧ hFm ad ct u) (hB D N0) (hA N0)) args s 0 0 (hA N0)) := ⟨_, rfl⟩
  rw [← hQz]
  obtain ⟨hn8, hn60, hn6, -⟩ := id hO
  obtain ⟨f1, f2, f3, f4, f5, f6, f7, f8, f9, ⟨hm0, hm1, hm2, hm3, hm4, hm5, hm6, hm7, hm8, hm9⟩, hme⟩ := id hM
  obtain ⟨em1, em2, em3, em4, em5, em6, em7, em8, em9⟩ := id hme
  obtain ⟨ad0, had0⟩ : ∃ z, z = ad := ⟨ad, rfl⟩
  obtain ⟨ct0, hct0⟩ : ∃ z, z = ct := ⟨ct, rfl⟩
  have hfr : ∀ q : Nat, (q ≠ 1 ∧ (q % 16 ≠ 0 ∨ q < 80)) → ct q = ct0 q := fun q _ => by rw [hct0]
  have hfa : ∀ q : Nat, q ≠ 1 → ad q = ad0 q := fun q _ => by rw [had0]
  refine lv_aload_n hx hb dX4_bead_0 rfl (lv_at hl 0 rfl) ?_
  refine lv_iconst (v := nI 0) hx hb dX4_bead_1 (by decide) ?_
  refine hv_put (ty := .int) (C := RX4) (T := TX4) (N := 15) hx hb hts hiX4 tyX4 tyX4_ok nmX4 hown hKs hV hS hm0 0 rfl (by decide) lk41 (fun _ h9 => h9) (Or.inl (by decide +kernel)) (by decide +kernel) rfl rfl (Nat.le_of_ble_eq_true rfl) dX4_bead_2 (fun ct H locs he hne hV hS => ?_)
  have hm1 := (hne (96) (by omega)).trans hm1
  have hm2 := (hne (112) (by omega)).trans hm2
  have hm3 := (hne (128) (by omega)).trans hm3
  have hm4 := (hne (144) (by omega)).trans hm4
  have hm5 := (hne (160) (by omega)).trans hm5
  have hm6 := (hne (176) (by omega)).trans hm6
  have hm7 := (hne (192) (by omega)).trans hm7
  have hm8 := (hne (208) (by omega)).trans hm8
  have hm9 := (hne (224) (by omega)).trans hm9
  have hm0 : ct (80) = some (eO 4 [.int (nI (0)), .int (gMi σ), .int (gFu σ), .int (nI (gNC σ)), .ref (ad (96)), .ref (ad (112)), .ref (ad (128)), .ref (ad (144)), .ref (ad (160)), .int (nI (gNS σ)), .ref (ad (176)), .ref (ad (192)), .int (nI (gNB σ)), .ref (ad (208)), .ref (ad (224))]) := he
  have hfr := fun (q : Nat) (q1 : q ≠ 1 ∧ (q % 16 ≠ 0 ∨ q < 80)) => (hne q (by omega)).trans (hfr q q1)
  refine lv_aload_n hx hb dX4_bead_5 rfl (lv_at hl 0 rfl) ?_
  refine hv_get (C := RX4) (T := TX4) (N := 15) hx hb hts hiX4 hown hKs hV hm0 12 rfl (by decide) lk54 (fun _ h9 => h9) rfl dX4_bead_6 ?_
  refine lv_bipush (v := nI 6) hx hb dX4_bead_9 (by decide) ?_
  refine hN_icmp_ne (tgt := 20) hx hb (by omega) (by omega) dX4_bead_11 (by decide) (fun c11 => ?_) (fun c11 => ?_)
  · obtain ⟨ct1, hct1⟩ : ∃ z, z = ct := ⟨ct, rfl⟩
    refine lv_iconst (v := nI 0) hx hb dX4_bead_20 (by decide) ?_
    refine lv_istore_n (lv' := [(1, .int (nI (0))), (0, .ref (ad (80)))]) hx hb dX4_bead_21 rfl hl (by decide) rfl (fun ls hl => ?_)
    have L22 : ∀ (n i : Nat) (F : Nat → Int32), i ≤ 4 → 4 < i + n → ∀ (ct : hC) (H : Heap) (locs : List Loc), (ct 80 = some (eO 4 [.int (nI (0)), .int (gMi σ), .int (gFu σ), .int (nI (gNC σ)), .ref (ad (96)), .ref (ad (112)), .ref (ad (128)), .ref (ad (144)), .ref (ad (160)), .int (nI (gNS σ)), .ref (ad (176)), .ref (ad (192)), .int (nI (gNB σ)), .ref (ad (208)), .ref (ad (224))])) → (ct 208 = some (eI D 24 F)) → ((∀ k, k < 4 * gNB σ → F k = f8 k) ∧ ∀ k, k < i → F (4 * gNB σ + k) = -1) → (∀ q : Nat, q ≠ 208 → ct q = ct1 q) → (∀ q : Nat, (q ≠ 1 ∧ (q % 16 ≠ 0 ∨ q < 80)) → ct q = ct0 q) → hv D N0 ad ct H → va_S (hA N0) s.heap H locs → ∀ ls : Array Slot, lv_has ls 2 [(0, .ref (ad (80))), (1, .int (nI (i)))] → W p l e (headSpec wsX4_bead ({ frames := 1, cells := 0, slots := 0, locals := 21 })).room s m args below meth c H locs 0 0 Qz (F0 m 22 ls []) := by
      intro n
      induction n with
      | zero => intro i F h1 h2; exact absurd h2 (by omega)
      | succ n ih22 =>
        intro i F hi22 hn22 ct H locs h80 h208 hg8 hfx hfr hV hS ls hl
        refine lv_iload_n hx hb dX4_bead_22 rfl (lv_at hl 1 rfl) ?_
        refine lv_iconst (v := nI 4) hx hb dX4_bead_23 (by decide) ?_
        refine hN_icmp_ge (tgt := 47) hx hb (by omega) (by omega) dX4_bead_24 (by decide) (fun c24 => ?_) (fun c24 => ?_)
        · refine lv_aload_n hx hb dX4_bead_47 rfl (lv_at hl 0 rfl) ?_
          refine lv_dup hx hb dX4_bead_48 rfl ?_
          refine hv_get (C := RX4) (T := TX4) (N := 15) hx hb hts hiX4 hown hKs hV h80 12 rfl (by decide) lk54 (fun _ h9 => h9) rfl dX4_bead_49 ?_
          refine lv_iconst (v := nI 1) hx hb dX4_bead_52 (by decide) ?_
          refine hN_iadd hx hb dX4_bead_53 ?_
          refine hv_put (ty := .int) (C := RX4) (T := TX4) (N := 15) hx hb hts hiX4 tyX4 tyX4_ok nmX4 hown hKs hV hS h80 12 rfl (by decide) lk54 (fun _ h9 => h9) (Or.inl (by decide +kernel)) (by decide +kernel) rfl rfl (Nat.le_of_ble_eq_true rfl) dX4_bead_54 (fun ct H locs he hne hV hS => ?_)
          have h208 := (hne (208) (by omega)).trans h208
          have h80 : ct (80) = some (eO 4 [.int (nI (0)), .int (gMi σ), .int (gFu σ), .int (nI (gNC σ)), .ref (ad (96)), .ref (ad (112)), .ref (ad (128)), .ref (ad (144)), .ref (ad (160)), .int (nI (gNS σ)), .ref (ad (176)), .ref (ad (192)), .int (nI (gNB σ + 1)), .ref (ad (208)), .ref (ad (224))]) := he
          have hfr := fun (q : Nat) (q1 : q ≠ 1 ∧ (q % 16 ≠ 0 ∨ q < 80)) => (hne q (by omega)).trans (hfr q q1)
          refine lv_aload_n hx hb dX4_bead_57 rfl (lv_at hl 0 rfl) ?_
          refine hv_get (C := RX4) (T := TX4) (N := 15) hx hb hts hiX4 hown hKs hV h80 12 rfl (by decide) lk54 (fun _ h9 => h9) rfl dX4_bead_58 ?_
          refine lv_iconst (v := nI 1) hx hb dX4_bead_61 (by decide) ?_
          refine hN_isub hx hb (by omega) dX4_bead_62 ?_
          have hkn : (k_bead σ) = 0 := if_neg c11
          rw [hQz]
          exact hv_iret (v := nI (gNB σ + 1 - (1))) (u := (ad, ct)) hx hb hr ⟨fun _ => ⟨congrArg nI (by omega), ⟨f1, f2, f3, f4, f5, f6, f7, F, f9, ⟨h80, ((hne 96 (by omega)).trans (hfx 96 (by omega))).trans (by rw [hct1]; exact hm1), ((hne 112 (by omega)).trans (hfx 112 (by omega))).trans (by rw [hct1]; exact hm2), ((hne 128 (by omega)).trans (hfx 128 (by omega))).trans (by rw [hct1]; exact hm3), ((hne 144 (by omega)).trans (hfx 144 (by omega))).trans (by rw [hct1]; exact hm4), ((hne 160 (by omega)).trans (hfx 160 (by omega))).trans (by rw [hct1]; exact hm5), ((hne 176 (by omega)).trans (hfx 176 (by omega))).trans (by rw [hct1]; exact hm6), ((hne 192 (by omega)).trans (hfx 192 (by omega))).trans (by rw [hct1]; exact hm7), h208, ((hne 224 (by omega)).trans (hfx 224 (by omega))).trans (by rw [hct1]; exact hm9)⟩, me_bead hme hO ⟨hg8.1, fun k hk => hg8.2 k (by omega)⟩⟩⟩, fun h9 => absurd hkn h9, fun q q1 => ⟨(hfa q q1).trans (by rw [had0]), fun q2 => (hfr q ⟨q1, q2⟩).trans (by rw [hct0])⟩⟩ hV hS dX4_bead_63 hlocks
        · refine lv_aload_n hx hb dX4_bead_27 rfl (lv_at hl 0 rfl) ?_
          refine hv_get (C := RX4) (T := TX4) (N := 15) hx hb hts hiX4 hown hKs hV h80 13 rfl (by decide) lk35 (fun _ h9 => h9) rfl dX4_bead_28 ?_
          refine lv_iconst (v := nI 4) hx hb dX4_bead_31 (by decide) ?_
          refine lv_aload_n hx hb dX4_bead_32 rfl (lv_at hl 0 rfl) ?_
          refine hv_get (C := RX4) (T := TX4) (N := 15) hx hb hts hiX4 hown hKs hV h80 12 rfl (by decide) lk54 (fun _ h9 => h9) rfl dX4_bead_33 ?_
          refine hN_imul hx hb dX4_bead_36 ?_
          refine lv_iload_n hx hb dX4_bead_37 rfl (lv_at hl 1 rfl) ?_
          refine hN_iadd hx hb dX4_bead_38 ?_
          refine lv_iconst (v := (-1)) hx hb dX4_bead_39 (by decide) ?_
          refine hv_iast hx hb hKs hV hS h208 (by omega) (by decide) dX4_bead_40 (fun ct H locs he hne hV hS => ?_)
          have h80 := (hne (80) (by omega)).trans h80
          have h208 := he
          have hfr := fun (q : Nat) (q1 : q ≠ 1 ∧ (q % 16 ≠ 0 ∨ q < 80)) => (hne q (by omega)).trans (hfr q q1)
          refine lv_iinc (v := nI (i + 1)) (lv' := [(1, .int (nI (i + 1))), (0, .ref (ad (80)))]) hx hb dX4_bead_41 hl (k := 1) rfl (nI_add (i) 1) (by decide) rfl (fun ls hl => ?_)
          refine lv_goto (tgt := 22) hx hb dX4_bead_44 (by decide) ?_
          exact ih22 (i + 1) (va_up (F) ((4) * (gNB σ) + i) ((-1))) (by omega) (by omega) ct _ _ (h80) (h208) (bead_1 hg8) (fun q q1 => (hne q q1).trans (hfx q q1)) (hfr) hV hS ls (lv_sub hl [1, 0] rfl)
    exact L22 (4 + 1) (0) (f8) (by omega) (by omega) ct _ _ (hm0) (hm8) (⟨fun _ _ => rfl, fun k hk => absurd hk (Nat.not_lt_zero k)⟩) (fun q _ => by rw [hct1]) (hfr) hV hS ls (lv_sub hl [1, 0] rfl)
  · refine lv_aload_n hx hb dX4_bead_14 rfl (lv_at hl 0 rfl) ?_
    refine lv_iconst (v := nI 1) hx hb dX4_bead_15 (by decide) ?_
    refine hv_calli (va_runV (As := [.int (nI (1))]) (rest := []) ⟨hx, hb, hml, hown, hts⟩ (c_X4_no l D N0 ad ct hm0 (1)) (cwV 1 hts gX4_bead_X4_no rfl rfl rfl (by decide +kernel) ⟨Nat.le_of_ble_eq_true rfl, Nat.le_of_ble_eq_true rfl⟩) (hv_preV (r := (RX4, TX4, 15)) hKs hV hS hm0 rfl) rfl rfl hl.1 rfl (lv_room (Nat.le_of_ble_eq_true rfl)) dX4_bead_16 ⟨(Nat.le_of_ble_eq_true rfl), (Nat.le_of_ble_eq_true rfl)⟩) hS (fun r9 u9 H locs hq hV hS => ?_)
    obtain ⟨ad9, ct⟩ := u9
    dsimp only at hq
    obtain ⟨rfl, ha9, he, hne⟩ := hq
    have ha9 := ha9.symm
    subst ha9
    have hV : hv D N0 ad ct H := hV
    have hm1 := (hne (96) (by omega)).trans hm1
    have hm2 := (hne (112) (by omega)).trans hm2
    have hm3 := (hne (128) (by omega)).trans hm3
    have hm4 := (hne (144) (by omega)).trans hm4
    have hm5 := (hne (160) (by omega)).trans hm5
    have hm6 := (hne (176) (by omega)).trans hm6
    have hm7 := (hne (192) (by omega)).trans hm7
    have hm8 := (hne (208) (by omega)).trans hm8
    have hm9 := (hne (224) (by omega)).trans hm9
    have hm0 : ct (80) = some (eO 4 [.int (nI (1)), .int (gMi σ), .int (gFu σ), .int (nI (gNC σ)), .ref (ad (96)), .ref (ad (112)), .ref (ad (128)), .ref (ad (144)), .ref (ad (160)), .int (nI (gNS σ)), .ref (ad (176)), .ref (ad (192)), .int (nI (gNB σ)), .ref (ad (208)), .ref (ad (224))]) := he
    have hfr := fun (q : Nat) (q1 : q ≠ 1 ∧ (q % 16 ≠ 0 ∨ q < 80)) => (hne q (by omega)).trans (hfr q q1)
    have hkn : (k_bead σ) = 1 := if_pos c11
    rw [hQz]
    exact hv_iret (v := nI (0)) (u := (ad, ct)) hx hb hr ⟨fun h9 => absurd (hkn.symm.trans h9) (by decide), fun _ => by rw [hkn]; exact ⟨f1, f2, f3, f4, f5, f6, f7, f8, f9, ⟨hm0, hm1, hm2, hm3, hm4, hm5, hm6, hm7, hm8, hm9⟩, hme⟩, fun q q1 => ⟨(hfa q q1).trans (by rw [had0]), fun q2 => (hfr q ⟨q1, q2⟩).trans (by rw [hct0])⟩⟩ hV hS dX4_bead_19 hlocks

set_option maxHeartbeats 4000000 in
set_option maxRecDepth 100000 in
theorem c_X4_set (l : Launch) (D : hG) (N0 : Nat) (ad : Nat → Nat) (ct : hC) {σ : gS} {th : Nat} (hM : gM D σ th ad ct) (hO : okS σ) (y0q y1q y2q y3q : Int32) : Met l yX4_set wsX4_set ({ frames := 2, cells := 0, slots := 0, locals := 44 }) (hPc D N0 ad ct [.ref (ad (80)), .int (y0q), .int (y1q), .int (y2q), .int (y3q)]) (va_Qi (fun (z : Int32) (u : hU) => ((k_set σ y0q y1q y2q y3q) = 0 → z = nI (nsm (fun k => ie (s_set σ (4 * y0q.toInt.toNat + y1q.toInt.toNat) y2q.toInt.toNat y3q.toInt.toNat) (4 * y0q.toInt.toNat + k)) 4) ∧ gM D (s_set σ (4 * y0q.toInt.toNat + y1q.toInt.toNat) y2q.toInt.toNat y3q.toInt.toNat) 0 u.1 u.2) ∧ ((k_set σ y0q y1q y2q y3q) ≠ 0 → gM D σ (k_set σ y0q y1q y2q y3q) u.1 u.2) ∧ hFm ad ct u) (hB D N0) (hA N0)) 0 0 (hA N0) := by
  refine Met.ofW (cc := cX4_set) (maxL := 6) (ret := (some .int)) (by decide) rfl ?_
  intro p e s m args below meth c s₁ B hml hv0
  obtain ⟨hargs, hKs, hV⟩ := hv0
  have hx := B.exec
  have hb := B.bytes
  have hr := B.returns
  have hts := atoms_spec (ws := wsX4_set) B.pre
  have hown : s.vm.findClass RX4 = some m.cls := findClass_of_methodNamed B.named
  have hlocks := B.notSynchronized
  have hS : va_S (hA N0) s.heap s.heap [] := va_S.rf
  have hiX4 : ∀ w ∈ u_ws RX4 TX4 15, w ∈ wsX4_set := by decide +kernel
  have lk41 := hts (.fieldLink RX4 41 "CaneSlicesModel" "thrown" "I") (by decide +kernel)
  have lk35 := hts (.fieldLink RX4 35 "CaneSlicesModel" "eye" "[I") (by decide +kernel)
  have lk32 := hts (.fieldLink RX4 32 "CaneSlicesModel" "place" "[I") (by decide +kernel)
  have lk38 := hts (.fieldLink RX4 38 "CaneSlicesModel" "turned" "[I") (by decide +kernel)
  have hl := lv_entry ([.ref (ad (80)), .int (y0q), .int (y1q), .int (y2q), .int (y3q)]) (n := 6) (Nat.le_of_ble_eq_true rfl)
  have hE : entryFrame m args 6 = entryFrame m ([.ref (ad (80)), .int (y0q), .int (y1q), .int (y2q), .int (y3q)] : List Value).toArray 6 := by rw [hargs]
  rw [hE, lg_entry_eq]
  generalize (lg_sl ([.ref (ad (80)), .int (y0q), .int (y1q), .int (y2q), .int (y3q)]) ++ List.replicate (6 - (lg_sl ([.ref (ad (80)), .int (y0q), .int (y1q), .int (y2q), .int (y3q)])).length) Slot.unset).toArray = ls at hl ⊢
  have hl : lv_has ls 6 [(0, .ref (ad (80))), (1, .int (y0q)), (2, .int (y1q)), (3, .int (y2q)), (4, .int (y3q))] := hl
  obtain ⟨hn8, hn60, hn6, -⟩ := id hO
  obtain ⟨f1, f2, f3, f4, f5, f6, f7, f8, f9, ⟨hm0, hm1, hm2, hm3, hm4, hm5, hm6, hm7, hm8, hm9⟩, hme⟩ := id hM
  obtain ⟨em1, em2, em3, em4, em5, em6, em7, em8, em9⟩ := id hme
  obtain ⟨ad0, had0⟩ : ∃ z, z = ad := ⟨ad, rfl⟩
  obtain ⟨ct0, hct0⟩ : ∃ z, z = ct := ⟨ct, rfl⟩
  have hfr : ∀ q : Nat, (q ≠ 1 ∧ (q % 16 ≠ 0 ∨ q < 80)) → ct q = ct0 q := fun q _ => by rw [hct0]
  have hfa : ∀ q : Nat, q ≠ 1 → ad q = ad0 q := fun q _ => by rw [had0]
  refine lv_aload_n hx hb dX4_set_0 rfl (lv_at hl 0 rfl) ?_
  refine lv_iconst (v := nI 0) hx hb dX4_set_1 (by decide) ?_
  refine hv_put (ty := .int) (C := RX4) (T := TX4) (N := 15) hx hb hts hiX4 tyX4 tyX4_ok nmX4 hown hKs hV hS hm0 0 rfl (by decide) lk41 (fun _ h9 => h9) (Or.inl (by decide +kernel)) (by decide +kernel) rfl rfl (Nat.le_of_ble_eq_true rfl) dX4_set_2 (fun ct H locs he hne hV hS => ?_)
  have hm1 := (hne (96) (by omega)).trans hm1
  have hm2 := (hne (112) (by omega)).trans hm2
  have hm3 := (hne (128) (by omega)).trans hm3
  have hm4 := (hne (144) (by omega)).trans hm4
  have hm5 := (hne (160) (by omega)).trans hm5
  have hm6 := (hne (176) (by omega)).trans hm6
  have hm7 := (hne (192) (by omega)).trans hm7
  have hm8 := (hne (208) (by omega)).trans hm8
  have hm9 := (hne (224) (by omega)).trans hm9
  have hm0 : ct (80) = some (eO 4 [.int (nI (0)), .int (gMi σ), .int (gFu σ), .int (nI (gNC σ)), .ref (ad (96)), .ref (ad (112)), .ref (ad (128)), .ref (ad (144)), .ref (ad (160)), .int (nI (gNS σ)), .ref (ad (176)), .ref (ad (192)), .int (nI (gNB σ)), .ref (ad (208)), .ref (ad (224))]) := he
  have hfr := fun (q : Nat) (q1 : q ≠ 1 ∧ (q % 16 ≠ 0 ∨ q < 80)) => (hne q (by omega)).trans (hfr q q1)
  refine lv_aload_n hx hb dX4_set_5 rfl (lv_at hl 0 rfl) ?_
  refine lv_iload_n hx hb dX4_set_6 rfl (lv_at hl 1 rfl) ?_
  refine lv_iload_n hx hb dX4_set_7 rfl (lv_at hl 2 rfl) ?_
  refine hv_calli (va_runV (As := [.int (y0q), .int (y1q)]) (rest := []) ⟨hx, hb, hml, hown, hts⟩ (c_X4_isEye l D N0 ad ct (show gM D σ _ ad ct from ⟨f1, f2, f3, f4, f5, f6, f7, f8, f9, ⟨hm0, hm1, hm2, hm3, hm4, hm5, hm6, hm7, hm8, hm9⟩, hme⟩) hO ((y0q)) ((y1q))) (cwV 2 hts gX4_set_X4_isEye rfl rfl rfl (by decide +kernel) ⟨Nat.le_of_ble_eq_true rfl, Nat.le_of_ble_eq_true rfl⟩) (hv_preV (r := (RX4, TX4, 15)) hKs hV hS hm0 rfl) rfl rfl hl.1 rfl (lv_room (Nat.le_of_ble_eq_true rfl)) dX4_set_8 ⟨(Nat.le_of_ble_eq_true rfl), (Nat.le_of_ble_eq_true rfl)⟩) hS (fun r9 u9 H locs hq hV hS => ?_)
  obtain ⟨rfl, rfl⟩ := hq
  have hV : hv D N0 ad ct H := hV
  refine hB_if_eq (tgt := 22) hx hb dX4_set_11 (by decide) (fun c11 => ?_) (fun c11 => ?_)
  · have c11f := Bool.and_eq_false_iff.mp c11
    refine lv_aload_n hx hb dX4_set_22 rfl (lv_at hl 0 rfl) ?_
    refine lv_iconst (v := nI 1) hx hb dX4_set_23 (by decide) ?_
    refine hv_calli (va_runV (As := [.int (nI (1))]) (rest := []) ⟨hx, hb, hml, hown, hts⟩ (c_X4_no l D N0 ad ct hm0 (1)) (cwV 1 hts gX4_set_X4_no rfl rfl rfl (by decide +kernel) ⟨Nat.le_of_ble_eq_true rfl, Nat.le_of_ble_eq_true rfl⟩) (hv_preV (r := (RX4, TX4, 15)) hKs hV hS hm0 rfl) rfl rfl hl.1 rfl (lv_room (Nat.le_of_ble_eq_true rfl)) dX4_set_24 ⟨(Nat.le_of_ble_eq_true rfl), (Nat.le_of_ble_eq_true rfl)⟩) hS (fun r9 u9 H locs hq hV hS => ?_)
    obtain ⟨ad9, ct⟩ := u9
    dsimp only at hq
    obtain ⟨rfl, ha9, he, hne⟩ := hq
    have ha9 := ha9.symm
    subst ha9
    have hV : hv D N0 ad ct H := hV
    have hm1 := (hne (96) (by omega)).trans hm1
    have hm2 := (hne (112) (by omega)).trans hm2
    have hm3 := (hne (128) (by omega)).trans hm3
    have hm4 := (hne (144) (by omega)).trans hm4
    have hm5 := (hne (160) (by omega)).trans hm5
    have hm6 := (hne (176) (by omega)).trans hm6
    have hm7 := (hne (192) (by omega)).trans hm7
    have hm8 := (hne (208) (by omega)).trans hm8
    have hm9 := (hne (224) (by omega)).trans hm9
    have hm0 : ct (80) = some (eO 4 [.int (nI (1)), .int (gMi σ), .int (gFu σ), .int (nI (gNC σ)), .ref (ad (96)), .ref (ad (112)), .ref (ad (128)), .ref (ad (144)), .ref (ad (160)), .int (nI (gNS σ)), .ref (ad (176)), .ref (ad (192)), .int (nI (gNB σ)), .ref (ad (208)), .ref (ad (224))]) := he
    have hfr := fun (q : Nat) (q1 : q ≠ 1 ∧ (q % 16 ≠ 0 ∨ q < 80)) => (hne q (by omega)).trans (hfr q q1)
    have hkn : (k_set σ y0q y1q y2q y3q) = 1 := by rcases c11f with h9 | h9 <;> simp [k_set, h9]
    exact hv_iret (v := nI (0)) (u := (ad, ct)) hx hb hr ⟨fun h9 => absurd (hkn.symm.trans h9) (by decide), fun _ => by rw [hkn]; exact ⟨f1, f2, f3, f4, f5, f6, f7, f8, f9, ⟨hm0, hm1, hm2, hm3, hm4, hm5, hm6, hm7, hm8, hm9⟩, hme⟩, fun q q1 => ⟨(hfa q q1).trans (by rw [had0]), fun q2 => (hfr q ⟨q1, q2⟩).trans (by rw [hct0])⟩⟩ hV hS dX4_set_27 hlocks
  · obtain ⟨c11a, c11b⟩ := Bool.and_eq_true_iff.mp c11
    obtain ⟨y0qn, hy0qn, rfl⟩ := inR_of c11a
    have e_y0q : (nI y0qn).toInt.toNat = y0qn := toNat_nI (by omega)
    obtain ⟨y1qn, hy1qn, rfl⟩ := inR_of c11b
    have e_y1q : (nI y1qn).toInt.toNat = y1qn := toNat_nI (by omega)
    refine lv_aload_n hx hb dX4_set_14 rfl (lv_at hl 0 rfl) ?_
    refine lv_iload_n hx hb dX4_set_15 rfl (lv_at hl 3 rfl) ?_
    refine hv_calli (va_runV (As := [.int (y2q)]) (rest := []) ⟨hx, hb, hml, hown, hts⟩ (c_X4_isSlice l D N0 ad ct (show gM D σ _ ad ct from ⟨f1, f2, f3, f4, f5, f6, f7, f8, f9, ⟨hm0, hm1, hm2, hm3, hm4, hm5, hm6, hm7, hm8, hm9⟩, hme⟩) hO ((y2q))) (cwV 1 hts gX4_set_X4_isSlice rfl rfl rfl (by decide +kernel) ⟨Nat.le_of_ble_eq_true rfl, Nat.le_of_ble_eq_true rfl⟩) (hv_preV (r := (RX4, TX4, 15)) hKs hV hS hm0 rfl) rfl rfl hl.1 rfl (lv_room (Nat.le_of_ble_eq_true rfl)) dX4_set_16 ⟨(Nat.le_of_ble_eq_true rfl), (Nat.le_of_ble_eq_true rfl)⟩) hS (fun r9 u9 H locs hq hV hS => ?_)
    obtain ⟨rfl, rfl⟩ := hq
    have hV : hv D N0 ad ct H := hV
    refine hB_if_ne (tgt := 28) hx hb dX4_set_19 (by decide) (fun c19 => ?_) (fun c19 => ?_)
    · obtain ⟨y2qn, hy2qn, rfl⟩ := inR_of c19
      have e_y2q : (nI y2qn).toInt.toNat = y2qn := toNat_nI (by omega)
      refine lv_iload hx hb dX4_set_28 (lv_at hl 4 rfl) ?_
      refine lv_iconst (v := nI 0) hx hb dX4_set_30 (by decide) ?_
      refine lv_bipush (v := nI 7) hx hb dX4_set_31 (by decide) ?_
      refine hv_calli (va_runS (As := [.int (y3q), .int (nI (0)), .int (nI (7))]) (rest := []) ⟨hx, hb, hml, hown, hts⟩ (c_X4_isIn l D N0 ad ct ((y3q)) (nI (0)) (nI (7))) (va_cwS 3 hts gX4_set_X4_isIn rfl rfl rfl (by decide +kernel) ⟨Nat.le_of_ble_eq_true rfl, Nat.le_of_ble_eq_true rfl⟩) (hv_preS hKs hV hS) rfl rfl hl.1 rfl (lv_room (Nat.le_of_ble_eq_true rfl)) dX4_set_33 ⟨(Nat.le_of_ble_eq_true rfl), (Nat.le_of_ble_eq_true rfl)⟩) hS (fun r9 u9 H locs hq hV hS => ?_)
      obtain ⟨rfl, rfl⟩ := hq
      have hV : hv D N0 ad ct H := hV
      refine hv_eqi (y := hbv (inR ((y3q)) 8)) (congrArg hbv (inI_k (n := 8) (by omega) rfl)) ?_
      refine hB_if_ne (tgt := 45) hx hb dX4_set_36 (by decide) (fun c36 => ?_) (fun c36 => ?_)
      · obtain ⟨y3qn, hy3qn, rfl⟩ := inR_of c36
        have e_y3q : (nI y3qn).toInt.toNat = y3qn := toNat_nI (by omega)
        refine lv_iconst (v := nI 4) hx hb dX4_set_45 (by decide) ?_
        refine lv_iload_n hx hb dX4_set_46 rfl (lv_at hl 1 rfl) ?_
        refine hN_imul hx hb dX4_set_47 ?_
        refine lv_iload_n hx hb dX4_set_48 rfl (lv_at hl 2 rfl) ?_
        refine hN_iadd hx hb dX4_set_49 ?_
        refine lv_istore (lv' := [(5, .int (nI ((4) * (y0qn) + y1qn))), (0, .ref (ad (80))), (1, .int (nI (y0qn))), (2, .int (nI (y1qn))), (3, .int (nI (y2qn))), (4, .int (nI (y3qn)))]) hx hb dX4_set_50 hl (by decide) rfl (fun ls hl => ?_)
        refine lv_aload_n hx hb dX4_set_52 rfl (lv_at hl 1 rfl) ?_
        refine hv_get (C := RX4) (T := TX4) (N := 15) hx hb hts hiX4 hown hKs hV hm0 13 rfl (by decide) lk35 (fun _ h9 => h9) rfl dX4_set_53 ?_
        refine lv_iload hx hb dX4_set_56 (lv_at hl 0 rfl) ?_
        refine hv_iald hx hb hKs hV hm8 (by omega) (by decide) dX4_set_58 ?_
        rcases hq58 : gEy σ ((4) * (y0qn) + y1qn) with _ | ⟨s58, t58⟩
        · refine hv_eqi ((em8 ((4) * (y0qn) + y1qn) (by omega)).trans (esl_0 hq58)) ?_
          refine lv_iconst (v := (-1)) hx hb dX4_set_59 (by decide) ?_
          refine hI_icmp_ne (tgt := 73) hx hb dX4_set_60 (by decide) (fun c60 => by exact absurd rfl c60) (fun c60 => ?_)
          refine lv_aload_n hx hb dX4_set_63 rfl (lv_at hl 1 rfl) ?_
          refine hv_get (C := RX4) (T := TX4) (N := 15) hx hb hts hiX4 hown hKs hV hm0 11 rfl (by decide) lk32 (fun _ h9 => h9) rfl dX4_set_64 ?_
          refine lv_iload_n hx hb dX4_set_67 rfl (lv_at hl 4 rfl) ?_
          refine hv_iald hx hb hKs hV hm7 (by omega) (by decide) dX4_set_68 ?_
          refine hv_eqi (em7 (y2qn) (by omega)) ?_
          refine lv_iconst (v := (-1)) hx hb dX4_set_69 (by decide) ?_
          refine hI_icmp_eq (tgt := 79) hx hb dX4_set_70 (by decide) (fun c70 => ?_) (fun c70 => ?_)
          · have hsx : sEy σ y2qn = none := (eyv_none (fun k hk => ok_ey hO (by omega) hk)).mp (decide_eq_true (hI_eq.mpr c70))
            refine lv_aload_n hx hb dX4_set_79 rfl (lv_at hl 1 rfl) ?_
            refine hv_get (C := RX4) (T := TX4) (N := 15) hx hb hts hiX4 hown hKs hV hm0 13 rfl (by decide) lk35 (fun _ h9 => h9) rfl dX4_set_80 ?_
            refine lv_iload hx hb dX4_set_83 (lv_at hl 0 rfl) ?_
            refine lv_iload_n hx hb dX4_set_85 rfl (lv_at hl 4 rfl) ?_
            refine hv_iast hx hb hKs hV hS hm8 (by omega) (by decide) dX4_set_86 (fun ct H locs he hne hV hS => ?_)
            have hm1 := (hne (96) (by omega)).trans hm1
            have hm2 := (hne (112) (by omega)).trans hm2
            have hm3 := (hne (128) (by omega)).trans hm3
            have hm4 := (hne (144) (by omega)).trans hm4
            have hm5 := (hne (160) (by omega)).trans hm5
            have hm6 := (hne (176) (by omega)).trans hm6
            have hm7 := (hne (192) (by omega)).trans hm7
            have hm9 := (hne (224) (by omega)).trans hm9
            have hm0 := (hne (80) (by omega)).trans hm0
            have hm8 := he
            have hfr := fun (q : Nat) (q1 : q ≠ 1 ∧ (q % 16 ≠ 0 ∨ q < 80)) => (hne q (by omega)).trans (hfr q q1)
            refine lv_aload_n hx hb dX4_set_87 rfl (lv_at hl 1 rfl) ?_
            refine hv_get (C := RX4) (T := TX4) (N := 15) hx hb hts hiX4 hown hKs hV hm0 14 rfl (by decide) lk38 (fun _ h9 => h9) rfl dX4_set_88 ?_
            refine lv_iload hx hb dX4_set_91 (lv_at hl 0 rfl) ?_
            refine lv_iload hx hb dX4_set_93 (lv_at hl 5 rfl) ?_
            refine hv_iast hx hb hKs hV hS hm9 (by omega) (by decide) dX4_set_95 (fun ct H locs he hne hV hS => ?_)
            have hm1 := (hne (96) (by omega)).trans hm1
            have hm2 := (hne (112) (by omega)).trans hm2
            have hm3 := (hne (128) (by omega)).trans hm3
            have hm4 := (hne (144) (by omega)).trans hm4
            have hm5 := (hne (160) (by omega)).trans hm5
            have hm6 := (hne (176) (by omega)).trans hm6
            have hm7 := (hne (192) (by omega)).trans hm7
            have hm0 := (hne (80) (by omega)).trans hm0
            have hm8 := (hne (208) (by omega)).trans hm8
            have hm9 := he
            have hfr := fun (q : Nat) (q1 : q ≠ 1 ∧ (q % 16 ≠ 0 ∨ q < 80)) => (hne q (by omega)).trans (hfr q q1)
            refine lv_aload_n hx hb dX4_set_96 rfl (lv_at hl 1 rfl) ?_
            refine hv_get (C := RX4) (T := TX4) (N := 15) hx hb hts hiX4 hown hKs hV hm0 11 rfl (by decide) lk32 (fun _ h9 => h9) rfl dX4_set_97 ?_
            refine lv_iload_n hx hb dX4_set_100 rfl (lv_at hl 4 rfl) ?_
            refine lv_iload hx hb dX4_set_101 (lv_at hl 0 rfl) ?_
            refine hv_iast hx hb hKs hV hS hm7 (by omega) (by decide) dX4_set_103 (fun ct H locs he hne hV hS => ?_)
            have hm1 := (hne (96) (by omega)).trans hm1
            have hm2 := (hne (112) (by omega)).trans hm2
            have hm3 := (hne (128) (by omega)).trans hm3
            have hm4 := (hne (144) (by omega)).trans hm4
            have hm5 := (hne (160) (by omega)).trans hm5
            have hm6 := (hne (176) (by omega)).trans hm6
            have hm0 := (hne (80) (by omega)).trans hm0
            have hm8 := (hne (208) (by omega)).trans hm8
            have hm9 := (hne (224) (by omega)).trans hm9
            have hm7 := he
            have hfr := fun (q : Nat) (q1 : q ≠ 1 ∧ (q % 16 ≠ 0 ∨ q < 80)) => (hne q (by omega)).trans (hfr q q1)
            have hM1 : gM D (s_set σ ((4) * (y0qn) + y1qn) y2qn y3qn) 0 ad ct := ⟨_, _, _, _, _, _, _, _, _, ⟨hm0, hm1, hm2, hm3, hm4, hm5, hm6, hm7, hm8, hm9⟩, me_set hme⟩
            have hO1 : okS (s_set σ ((4) * (y0qn) + y1qn) y2qn y3qn) := ok_set hO (show (4) * (y0qn) + y1qn < 4 * gNB σ by omega) (show y2qn < gNS σ by omega) (by omega) hq58 hsx
            refine lv_aload_n hx hb dX4_set_104 rfl (lv_at hl 1 rfl) ?_
            refine lv_iload_n hx hb dX4_set_105 rfl (lv_at hl 2 rfl) ?_
            refine hv_calli (va_runV (As := [.int (nI (y0qn))]) (rest := []) ⟨hx, hb, hml, hown, hts⟩ (c_X4_filled l D N0 ad ct hM1 hO1 (y0qn) (show y0qn < gNB σ by omega)) (cwV 1 hts gX4_set_X4_filled rfl rfl rfl (by decide +kernel) ⟨Nat.le_of_ble_eq_true rfl, Nat.le_of_ble_eq_true rfl⟩) (hv_preV (r := (RX4, TX4, 15)) hKs hV hS hm0 rfl) rfl rfl hl.1 rfl (lv_room (Nat.le_of_ble_eq_true rfl)) dX4_set_106 ⟨(Nat.le_of_ble_eq_true rfl), (Nat.le_of_ble_eq_true rfl)⟩) hS (fun r9 u9 H locs hq hV hS => ?_)
            obtain ⟨rfl, rfl⟩ := hq
            have hV : hv D N0 ad ct H := hV
            have hkn : (k_set σ (nI y0qn) (nI y1qn) (nI y2qn) (nI y3qn)) = 0 := by simp [k_set, c11a, c11b, c19, c36, hq58, e_y0q, e_y1q, e_y2q, e_y3q, (hI_eq.mpr c70 : eyv (sEy σ y2qn) = -1)]
            exact hv_iret (v := nI (nsm (fun k => ie (s_set σ ((4) * (y0qn) + y1qn) y2qn y3qn) (4 * (y0qn) + k)) 4)) (u := (ad, ct)) hx hb hr ⟨fun _ => ⟨by rw [e_y0q, e_y1q, e_y2q, e_y3q], by rw [e_y0q, e_y1q, e_y2q, e_y3q]; exact hM1⟩, fun h9 => absurd hkn h9, fun q q1 => ⟨(hfa q q1).trans (by rw [had0]), fun q2 => (hfr q ⟨q1, q2⟩).trans (by rw [hct0])⟩⟩ hV hS dX4_set_109 hlocks
          · refine lv_aload_n hx hb dX4_set_73 rfl (lv_at hl 1 rfl) ?_
            refine lv_iconst (v := nI 3) hx hb dX4_set_74 (by decide) ?_
            refine hv_calli (va_runV (As := [.int (nI (3))]) (rest := []) ⟨hx, hb, hml, hown, hts⟩ (c_X4_no l D N0 ad ct hm0 (3)) (cwV 1 hts gX4_set_X4_no rfl rfl rfl (by decide +kernel) ⟨Nat.le_of_ble_eq_true rfl, Nat.le_of_ble_eq_true rfl⟩) (hv_preV (r := (RX4, TX4, 15)) hKs hV hS hm0 rfl) rfl rfl hl.1 rfl (lv_room (Nat.le_of_ble_eq_true rfl)) dX4_set_75 ⟨(Nat.le_of_ble_eq_true rfl), (Nat.le_of_ble_eq_true rfl)⟩) hS (fun r9 u9 H locs hq hV hS => ?_)
            obtain ⟨ad9, ct⟩ := u9
            dsimp only at hq
            obtain ⟨rfl, ha9, he, hne⟩ := hq
            have ha9 := ha9.symm
            subst ha9
            have hV : hv D N0 ad ct H := hV
            have hm1 := (hne (96) (by omega)).trans hm1
            have hm2 := (hne (112) (by omega)).trans hm2
            have hm3 := (hne (128) (by omega)).trans hm3
            have hm4 := (hne (144) (by omega)).trans hm4
            have hm5 := (hne (160) (by omega)).trans hm5
            have hm6 := (hne (176) (by omega)).trans hm6
            have hm7 := (hne (192) (by omega)).trans hm7
            have hm8 := (hne (208) (by omega)).trans hm8
            have hm9 := (hne (224) (by omega)).trans hm9
            have hm0 : ct (80) = some (eO 4 [.int (nI (3)), .int (gMi σ), .int (gFu σ), .int (nI (gNC σ)), .ref (ad (96)), .ref (ad (112)), .ref (ad (128)), .ref (ad (144)), .ref (ad (160)), .int (nI (gNS σ)), .ref (ad (176)), .ref (ad (192)), .int (nI (gNB σ)), .ref (ad (208)), .ref (ad (224))]) := he
            have hfr := fun (q : Nat) (q1 : q ≠ 1 ∧ (q % 16 ≠ 0 ∨ q < 80)) => (hne q (by omega)).trans (hfr q q1)
            have hkn : (k_set σ (nI y0qn) (nI y1qn) (nI y2qn) (nI y3qn)) = 3 := by simp [k_set, c11a, c11b, c19, c36, hq58, e_y0q, e_y1q, e_y2q, e_y3q]; exact fun q => c70 (hI_eq.mp q)
            exact hv_iret (v := nI (0)) (u := (ad, ct)) hx hb hr ⟨fun h9 => absurd (hkn.symm.trans h9) (by decide), fun _ => by rw [hkn]; exact ⟨f1, f2, f3, f4, f5, f6, f7, f8, f9, ⟨hm0, hm1, hm2, hm3, hm4, hm5, hm6, hm7, hm8, hm9⟩, hme⟩, fun q q1 => ⟨(hfa q q1).trans (by rw [had0]), fun q2 => (hfr q ⟨q1, q2⟩).trans (by rw [hct0])⟩⟩ hV hS dX4_set_78 hlocks
        · obtain ⟨he58, hs58, ht58, hy58⟩ := hO.2.2.2.2.2.1 _ _ _ hq58
          refine hv_eqi ((em8 ((4) * (y0qn) + y1qn) (by omega)).trans (esl_1 hq58)) ?_
          refine lv_iconst (v := (-1)) hx hb dX4_set_59 (by decide) ?_
          refine hL_icmp_ne (tgt := 73) hx hb (by omega) dX4_set_60 (by decide) (fun c60 => ?_) (fun c60 => by exact absurd c60 (by rw [h_m1]; omega))
          refine lv_aload_n hx hb dX4_set_73 rfl (lv_at hl 1 rfl) ?_
          refine lv_iconst (v := nI 3) hx hb dX4_set_74 (by decide) ?_
          refine hv_calli (va_runV (As := [.int (nI (3))]) (rest := []) ⟨hx, hb, hml, hown, hts⟩ (c_X4_no l D N0 ad ct hm0 (3)) (cwV 1 hts gX4_set_X4_no rfl rfl rfl (by decide +kernel) ⟨Nat.le_of_ble_eq_true rfl, Nat.le_of_ble_eq_true rfl⟩) (hv_preV (r := (RX4, TX4, 15)) hKs hV hS hm0 rfl) rfl rfl hl.1 rfl (lv_room (Nat.le_of_ble_eq_true rfl)) dX4_set_75 ⟨(Nat.le_of_ble_eq_true rfl), (Nat.le_of_ble_eq_true rfl)⟩) hS (fun r9 u9 H locs hq hV hS => ?_)
          obtain ⟨ad9, ct⟩ := u9
          dsimp only at hq
          obtain ⟨rfl, ha9, he, hne⟩ := hq
          have ha9 := ha9.symm
          subst ha9
          have hV : hv D N0 ad ct H := hV
          have hm1 := (hne (96) (by omega)).trans hm1
          have hm2 := (hne (112) (by omega)).trans hm2
          have hm3 := (hne (128) (by omega)).trans hm3
          have hm4 := (hne (144) (by omega)).trans hm4
          have hm5 := (hne (160) (by omega)).trans hm5
          have hm6 := (hne (176) (by omega)).trans hm6
          have hm7 := (hne (192) (by omega)).trans hm7
          have hm8 := (hne (208) (by omega)).trans hm8
          have hm9 := (hne (224) (by omega)).trans hm9
          have hm0 : ct (80) = some (eO 4 [.int (nI (3)), .int (gMi σ), .int (gFu σ), .int (nI (gNC σ)), .ref (ad (96)), .ref (ad (112)), .ref (ad (128)), .ref (ad (144)), .ref (ad (160)), .int (nI (gNS σ)), .ref (ad (176)), .ref (ad (192)), .int (nI (gNB σ)), .ref (ad (208)), .ref (ad (224))]) := he
          have hfr := fun (q : Nat) (q1 : q ≠ 1 ∧ (q % 16 ≠ 0 ∨ q < 80)) => (hne q (by omega)).trans (hfr q q1)
          have hkn : (k_set σ (nI y0qn) (nI y1qn) (nI y2qn) (nI y3qn)) = 3 := by simp [k_set, c11a, c11b, c19, c36, hq58, e_y0q, e_y1q, e_y2q, e_y3q]
          exact hv_iret (v := nI (0)) (u := (ad, ct)) hx hb hr ⟨fun h9 => absurd (hkn.symm.trans h9) (by decide), fun _ => by rw [hkn]; exact ⟨f1, f2, f3, f4, f5, f6, f7, f8, f9, ⟨hm0, hm1, hm2, hm3, hm4, hm5, hm6, hm7, hm8, hm9⟩, hme⟩, fun q q1 => ⟨(hfa q q1).trans (by rw [had0]), fun q2 => (hfr q ⟨q1, q2⟩).trans (by rw [hct0])⟩⟩ hV hS dX4_set_78 hlocks
      · refine lv_aload_n hx hb dX4_set_39 rfl (lv_at hl 0 rfl) ?_
        refine lv_iconst (v := nI 2) hx hb dX4_set_40 (by decide) ?_
        refine hv_calli (va_runV (As := [.int (nI (2))]) (rest := []) ⟨hx, hb, hml, hown, hts⟩ (c_X4_no l D N0 ad ct hm0 (2)) (cwV 1 hts gX4_set_X4_no rfl rfl rfl (by decide +kernel) ⟨Nat.le_of_ble_eq_true rfl, Nat.le_of_ble_eq_true rfl⟩) (hv_preV (r := (RX4, TX4, 15)) hKs hV hS hm0 rfl) rfl rfl hl.1 rfl (lv_room (Nat.le_of_ble_eq_true rfl)) dX4_set_41 ⟨(Nat.le_of_ble_eq_true rfl), (Nat.le_of_ble_eq_true rfl)⟩) hS (fun r9 u9 H locs hq hV hS => ?_)
        obtain ⟨ad9, ct⟩ := u9
        dsimp only at hq
        obtain ⟨rfl, ha9, he, hne⟩ := hq
        have ha9 := ha9.symm
        subst ha9
        have hV : hv D N0 ad ct H := hV
        have hm1 := (hne (96) (by omega)).trans hm1
        have hm2 := (hne (112) (by omega)).trans hm2
        have hm3 := (hne (128) (by omega)).trans hm3
        have hm4 := (hne (144) (by omega)).trans hm4
        have hm5 := (hne (160) (by omega)).trans hm5
        have hm6 := (hne (176) (by omega)).trans hm6
        have hm7 := (hne (192) (by omega)).trans hm7
        have hm8 := (hne (208) (by omega)).trans hm8
        have hm9 := (hne (224) (by omega)).trans hm9
        have hm0 : ct (80) = some (eO 4 [.int (nI (2)), .int (gMi σ), .int (gFu σ), .int (nI (gNC σ)), .ref (ad (96)), .ref (ad (112)), .ref (ad (128)), .ref (ad (144)), .ref (ad (160)), .int (nI (gNS σ)), .ref (ad (176)), .ref (ad (192)), .int (nI (gNB σ)), .ref (ad (208)), .ref (ad (224))]) := he
        have hfr := fun (q : Nat) (q1 : q ≠ 1 ∧ (q % 16 ≠ 0 ∨ q < 80)) => (hne q (by omega)).trans (hfr q q1)
        have hkn : (k_set σ (nI y0qn) (nI y1qn) (nI y2qn) y3q) = 2 := by simp [k_set, c11, c19, c36, c11a, c11b, e_y0q, e_y1q, e_y2q]
        exact hv_iret (v := nI (0)) (u := (ad, ct)) hx hb hr ⟨fun h9 => absurd (hkn.symm.trans h9) (by decide), fun _ => by rw [hkn]; exact ⟨f1, f2, f3, f4, f5, f6, f7, f8, f9, ⟨hm0, hm1, hm2, hm3, hm4, hm5, hm6, hm7, hm8, hm9⟩, hme⟩, fun q q1 => ⟨(hfa q q1).trans (by rw [had0]), fun q2 => (hfr q ⟨q1, q2⟩).trans (by rw [hct0])⟩⟩ hV hS dX4_set_44 hlocks
    · refine lv_aload_n hx hb dX4_set_22 rfl (lv_at hl 0 rfl) ?_
      refine lv_iconst (v := nI 1) hx hb dX4_set_23 (by decide) ?_
      refine hv_calli (va_runV (As := [.int (nI (1))]) (rest := []) ⟨hx, hb, hml, hown, hts⟩ (c_X4_no l D N0 ad ct hm0 (1)) (cwV 1 hts gX4_set_X4_no rfl rfl rfl (by decide +kernel) ⟨Nat.le_of_ble_eq_true rfl, Nat.le_of_ble_eq_true rfl⟩) (hv_preV (r := (RX4, TX4, 15)) hKs hV hS hm0 rfl) rfl rfl hl.1 rfl (lv_room (Nat.le_of_ble_eq_true rfl)) dX4_set_24 ⟨(Nat.le_of_ble_eq_true rfl), (Nat.le_of_ble_eq_true rfl)⟩) hS (fun r9 u9 H locs hq hV hS => ?_)
      obtain ⟨ad9, ct⟩ := u9
      dsimp only at hq
      obtain ⟨rfl, ha9, he, hne⟩ := hq
      have ha9 := ha9.symm
      subst ha9
      have hV : hv D N0 ad ct H := hV
      have hm1 := (hne (96) (by omega)).trans hm1
      have hm2 := (hne (112) (by omega)).trans hm2
      have hm3 := (hne (128) (by omega)).trans hm3
      have hm4 := (hne (144) (by omega)).trans hm4
      have hm5 := (hne (160) (by omega)).trans hm5
      have hm6 := (hne (176) (by omega)).trans hm6
      have hm7 := (hne (192) (by omega)).trans hm7
      have hm8 := (hne (208) (by omega)).trans hm8
      have hm9 := (hne (224) (by omega)).trans hm9
      have hm0 : ct (80) = some (eO 4 [.int (nI (1)), .int (gMi σ), .int (gFu σ), .int (nI (gNC σ)), .ref (ad (96)), .ref (ad (112)), .ref (ad (128)), .ref (ad (144)), .ref (ad (160)), .int (nI (gNS σ)), .ref (ad (176)), .ref (ad (192)), .int (nI (gNB σ)), .ref (ad (208)), .ref (ad (224))]) := he
      have hfr := fun (q : Nat) (q1 : q ≠ 1 ∧ (q % 16 ≠ 0 ∨ q < 80)) => (hne q (by omega)).trans (hfr q q1)
      have hkn : (k_set σ (nI y0qn) (nI y1qn) y2q y3q) = 1 := by simp [k_set, c11, c19, c11a, c11b, e_y0q, e_y1q]
      exact hv_iret (v := nI (0)) (u := (ad, ct)) hx hb hr ⟨fun h9 => absurd (hkn.symm.trans h9) (by decide), fun _ => by rw [hkn]; exact ⟨f1, f2, f3, f4, f5, f6, f7, f8, f9, ⟨hm0, hm1, hm2, hm3, hm4, hm5, hm6, hm7, hm8, hm9⟩, hme⟩, fun q q1 => ⟨(hfa q q1).trans (by rw [had0]), fun q2 => (hfr q ⟨q1, q2⟩).trans (by rw [hct0])⟩⟩ hV hS dX4_set_27 hlocks

set_option maxHeartbeats 4000000 in
set_option maxRecDepth 100000 in
theorem c_X4_drop (l : Launch) (D : hG) (N0 : Nat) (ad : Nat → Nat) (ct : hC) {σ : gS} {th : Nat} (hM : gM D σ th ad ct) (hO : okS σ) (y0q y1q : Int32) : Met l yX4_drop wsX4_drop ({ frames := 2, cells := 0, slots := 0, locals := 44 }) (hPc D N0 ad ct [.ref (ad (80)), .int (y0q), .int (y1q)]) (va_Qi (fun (z : Int32) (u : hU) => ((k_drop σ y0q y1q) = 0 → z = esl σ (4 * y0q.toInt.toNat + y1q.toInt.toNat) ∧ gM D (s_drop σ (4 * y0q.toInt.toNat + y1q.toInt.toNat)) 0 u.1 u.2) ∧ ((k_drop σ y0q y1q) ≠ 0 → gM D σ (k_drop σ y0q y1q) u.1 u.2) ∧ hFm ad ct u) (hB D N0) (hA N0)) 0 0 (hA N0) := by
  refine Met.ofW (cc := cX4_drop) (maxL := 5) (ret := (some .int)) (by decide) rfl ?_
  intro p e s m args below meth c s₁ B hml hv0
  obtain ⟨hargs, hKs, hV⟩ := hv0
  have hx := B.exec
  have hb := B.bytes
  have hr := B.returns
  have hts := atoms_spec (ws := wsX4_drop) B.pre
  have hown : s.vm.findClass RX4 = some m.cls := findClass_of_methodNamed B.named
  have hlocks := B.notSynchronized
  have hS : va_S (hA N0) s.heap s.heap [] := va_S.rf
  have hiX4 : ∀ w ∈ u_ws RX4 TX4 15, w ∈ wsX4_drop := by decide +kernel
  have lk41 := hts (.fieldLink RX4 41 "CaneSlicesModel" "thrown" "I") (by decide +kernel)
  have lk35 := hts (.fieldLink RX4 35 "CaneSlicesModel" "eye" "[I") (by decide +kernel)
  have lk38 := hts (.fieldLink RX4 38 "CaneSlicesModel" "turned" "[I") (by decide +kernel)
  have lk32 := hts (.fieldLink RX4 32 "CaneSlicesModel" "place" "[I") (by decide +kernel)
  have hl := lv_entry ([.ref (ad (80)), .int (y0q), .int (y1q)]) (n := 5) (Nat.le_of_ble_eq_true rfl)
  have hE : entryFrame m args 5 = entryFrame m ([.ref (ad (80)), .int (y0q), .int (y1q)] : List Value).toArray 5 := by rw [hargs]
  rw [hE, lg_entry_eq]
  generalize (lg_sl ([.ref (ad (80)), .int (y0q), .int (y1q)]) ++ List.replicate (5 - (lg_sl ([.ref (ad (80)), .int (y0q), .int (y1q)])).length) Slot.unset).toArray = ls at hl ⊢
  have hl : lv_has ls 5 [(0, .ref (ad (80))), (1, .int (y0q)), (2, .int (y1q))] := hl
  obtain ⟨hn8, hn60, hn6, -⟩ := id hO
  obtain ⟨f1, f2, f3, f4, f5, f6, f7, f8, f9, ⟨hm0, hm1, hm2, hm3, hm4, hm5, hm6, hm7, hm8, hm9⟩, hme⟩ := id hM
  obtain ⟨em1, em2, em3, em4, em5, em6, em7, em8, em9⟩ := id hme
  obtain ⟨ad0, had0⟩ : ∃ z, z = ad := ⟨ad, rfl⟩
  obtain ⟨ct0, hct0⟩ : ∃ z, z = ct := ⟨ct, rfl⟩
  have hfr : ∀ q : Nat, (q ≠ 1 ∧ (q % 16 ≠ 0 ∨ q < 80)) → ct q = ct0 q := fun q _ => by rw [hct0]
  have hfa : ∀ q : Nat, q ≠ 1 → ad q = ad0 q := fun q _ => by rw [had0]
  refine lv_aload_n hx hb dX4_drop_0 rfl (lv_at hl 0 rfl) ?_
  refine lv_iconst (v := nI 0) hx hb dX4_drop_1 (by decide) ?_
  refine hv_put (ty := .int) (C := RX4) (T := TX4) (N := 15) hx hb hts hiX4 tyX4 tyX4_ok nmX4 hown hKs hV hS hm0 0 rfl (by decide) lk41 (fun _ h9 => h9) (Or.inl (by decide +kernel)) (by decide +kernel) rfl rfl (Nat.le_of_ble_eq_true rfl) dX4_drop_2 (fun ct H locs he hne hV hS => ?_)
  have hm1 := (hne (96) (by omega)).trans hm1
  have hm2 := (hne (112) (by omega)).trans hm2
  have hm3 := (hne (128) (by omega)).trans hm3
  have hm4 := (hne (144) (by omega)).trans hm4
  have hm5 := (hne (160) (by omega)).trans hm5
  have hm6 := (hne (176) (by omega)).trans hm6
  have hm7 := (hne (192) (by omega)).trans hm7
  have hm8 := (hne (208) (by omega)).trans hm8
  have hm9 := (hne (224) (by omega)).trans hm9
  have hm0 : ct (80) = some (eO 4 [.int (nI (0)), .int (gMi σ), .int (gFu σ), .int (nI (gNC σ)), .ref (ad (96)), .ref (ad (112)), .ref (ad (128)), .ref (ad (144)), .ref (ad (160)), .int (nI (gNS σ)), .ref (ad (176)), .ref (ad (192)), .int (nI (gNB σ)), .ref (ad (208)), .ref (ad (224))]) := he
  have hfr := fun (q : Nat) (q1 : q ≠ 1 ∧ (q % 16 ≠ 0 ∨ q < 80)) => (hne q (by omega)).trans (hfr q q1)
  refine lv_aload_n hx hb dX4_drop_5 rfl (lv_at hl 0 rfl) ?_
  refine lv_iload_n hx hb dX4_drop_6 rfl (lv_at hl 1 rfl) ?_
  refine lv_iload_n hx hb dX4_drop_7 rfl (lv_at hl 2 rfl) ?_
  refine hv_calli (va_runV (As := [.int (y0q), .int (y1q)]) (rest := []) ⟨hx, hb, hml, hown, hts⟩ (c_X4_isEye l D N0 ad ct (show gM D σ _ ad ct from ⟨f1, f2, f3, f4, f5, f6, f7, f8, f9, ⟨hm0, hm1, hm2, hm3, hm4, hm5, hm6, hm7, hm8, hm9⟩, hme⟩) hO ((y0q)) ((y1q))) (cwV 2 hts gX4_drop_X4_isEye rfl rfl rfl (by decide +kernel) ⟨Nat.le_of_ble_eq_true rfl, Nat.le_of_ble_eq_true rfl⟩) (hv_preV (r := (RX4, TX4, 15)) hKs hV hS hm0 rfl) rfl rfl hl.1 rfl (lv_room (Nat.le_of_ble_eq_true rfl)) dX4_drop_8 ⟨(Nat.le_of_ble_eq_true rfl), (Nat.le_of_ble_eq_true rfl)⟩) hS (fun r9 u9 H locs hq hV hS => ?_)
  obtain ⟨rfl, rfl⟩ := hq
  have hV : hv D N0 ad ct H := hV
  refine hB_if_ne (tgt := 20) hx hb dX4_drop_11 (by decide) (fun c11 => ?_) (fun c11 => ?_)
  · obtain ⟨c11a, c11b⟩ := Bool.and_eq_true_iff.mp c11
    obtain ⟨y0qn, hy0qn, rfl⟩ := inR_of c11a
    have e_y0q : (nI y0qn).toInt.toNat = y0qn := toNat_nI (by omega)
    obtain ⟨y1qn, hy1qn, rfl⟩ := inR_of c11b
    have e_y1q : (nI y1qn).toInt.toNat = y1qn := toNat_nI (by omega)
    refine lv_iconst (v := nI 4) hx hb dX4_drop_20 (by decide) ?_
    refine lv_iload_n hx hb dX4_drop_21 rfl (lv_at hl 1 rfl) ?_
    refine hN_imul hx hb dX4_drop_22 ?_
    refine lv_iload_n hx hb dX4_drop_23 rfl (lv_at hl 2 rfl) ?_
    refine hN_iadd hx hb dX4_drop_24 ?_
    refine lv_istore_n (lv' := [(3, .int (nI ((4) * (y0qn) + y1qn))), (0, .ref (ad (80))), (1, .int (nI (y0qn))), (2, .int (nI (y1qn)))]) hx hb dX4_drop_25 rfl hl (by decide) rfl (fun ls hl => ?_)
    refine lv_aload_n hx hb dX4_drop_26 rfl (lv_at hl 1 rfl) ?_
    refine hv_get (C := RX4) (T := TX4) (N := 15) hx hb hts hiX4 hown hKs hV hm0 13 rfl (by decide) lk35 (fun _ h9 => h9) rfl dX4_drop_27 ?_
    refine lv_iload_n hx hb dX4_drop_30 rfl (lv_at hl 0 rfl) ?_
    refine hv_iald hx hb hKs hV hm8 (by omega) (by decide) dX4_drop_31 ?_
    rcases hq31 : gEy σ ((4) * (y0qn) + y1qn) with _ | ⟨s31, t31⟩
    · refine hv_eqi ((em8 ((4) * (y0qn) + y1qn) (by omega)).trans (esl_0 hq31)) ?_
      refine lv_istore (lv' := [(4, .int ((-1))), (3, .int (nI ((4) * (y0qn) + y1qn))), (0, .ref (ad (80))), (1, .int (nI (y0qn))), (2, .int (nI (y1qn)))]) hx hb dX4_drop_32 hl (by decide) rfl (fun ls hl => ?_)
      refine lv_iload hx hb dX4_drop_34 (lv_at hl 0 rfl) ?_
      refine lv_iconst (v := (-1)) hx hb dX4_drop_36 (by decide) ?_
      refine hI_icmp_ne (tgt := 46) hx hb dX4_drop_37 (by decide) (fun c37 => by exact absurd rfl c37) (fun c37 => ?_)
      refine lv_aload_n hx hb dX4_drop_40 rfl (lv_at hl 2 rfl) ?_
      refine lv_iconst (v := nI 2) hx hb dX4_drop_41 (by decide) ?_
      refine hv_calli (va_runV (As := [.int (nI (2))]) (rest := []) ⟨hx, hb, hml, hown, hts⟩ (c_X4_no l D N0 ad ct hm0 (2)) (cwV 1 hts gX4_drop_X4_no rfl rfl rfl (by decide +kernel) ⟨Nat.le_of_ble_eq_true rfl, Nat.le_of_ble_eq_true rfl⟩) (hv_preV (r := (RX4, TX4, 15)) hKs hV hS hm0 rfl) rfl rfl hl.1 rfl (lv_room (Nat.le_of_ble_eq_true rfl)) dX4_drop_42 ⟨(Nat.le_of_ble_eq_true rfl), (Nat.le_of_ble_eq_true rfl)⟩) hS (fun r9 u9 H locs hq hV hS => ?_)
      obtain ⟨ad9, ct⟩ := u9
      dsimp only at hq
      obtain ⟨rfl, ha9, he, hne⟩ := hq
      have ha9 := ha9.symm
      subst ha9
      have hV : hv D N0 ad ct H := hV
      have hm1 := (hne (96) (by omega)).trans hm1
      have hm2 := (hne (112) (by omega)).trans hm2
      have hm3 := (hne (128) (by omega)).trans hm3
      have hm4 := (hne (144) (by omega)).trans hm4
      have hm5 := (hne (160) (by omega)).trans hm5
      have hm6 := (hne (176) (by omega)).trans hm6
      have hm7 := (hne (192) (by omega)).trans hm7
      have hm8 := (hne (208) (by omega)).trans hm8
      have hm9 := (hne (224) (by omega)).trans hm9
      have hm0 : ct (80) = some (eO 4 [.int (nI (2)), .int (gMi σ), .int (gFu σ), .int (nI (gNC σ)), .ref (ad (96)), .ref (ad (112)), .ref (ad (128)), .ref (ad (144)), .ref (ad (160)), .int (nI (gNS σ)), .ref (ad (176)), .ref (ad (192)), .int (nI (gNB σ)), .ref (ad (208)), .ref (ad (224))]) := he
      have hfr := fun (q : Nat) (q1 : q ≠ 1 ∧ (q % 16 ≠ 0 ∨ q < 80)) => (hne q (by omega)).trans (hfr q q1)
      have hkn : (k_drop σ (nI y0qn) (nI y1qn)) = 2 := by simp [k_drop, c11a, c11b, hq31, e_y0q, e_y1q]
      exact hv_iret (v := nI (0)) (u := (ad, ct)) hx hb hr ⟨fun h9 => absurd (hkn.symm.trans h9) (by decide), fun _ => by rw [hkn]; exact ⟨f1, f2, f3, f4, f5, f6, f7, f8, f9, ⟨hm0, hm1, hm2, hm3, hm4, hm5, hm6, hm7, hm8, hm9⟩, hme⟩, fun q q1 => ⟨(hfa q q1).trans (by rw [had0]), fun q2 => (hfr q ⟨q1, q2⟩).trans (by rw [hct0])⟩⟩ hV hS dX4_drop_45 hlocks
    · obtain ⟨he31, hs31, ht31, hy31⟩ := hO.2.2.2.2.2.1 _ _ _ hq31
      refine hv_eqi ((em8 ((4) * (y0qn) + y1qn) (by omega)).trans (esl_1 hq31)) ?_
      refine lv_istore (lv' := [(4, .int (nI (s31))), (3, .int (nI ((4) * (y0qn) + y1qn))), (0, .ref (ad (80))), (1, .int (nI (y0qn))), (2, .int (nI (y1qn)))]) hx hb dX4_drop_32 hl (by decide) rfl (fun ls hl => ?_)
      refine lv_iload hx hb dX4_drop_34 (lv_at hl 0 rfl) ?_
      refine lv_iconst (v := (-1)) hx hb dX4_drop_36 (by decide) ?_
      refine hL_icmp_ne (tgt := 46) hx hb (by omega) dX4_drop_37 (by decide) (fun c37 => ?_) (fun c37 => by exact absurd c37 (by rw [h_m1]; omega))
      refine lv_aload_n hx hb dX4_drop_46 rfl (lv_at hl 2 rfl) ?_
      refine hv_get (C := RX4) (T := TX4) (N := 15) hx hb hts hiX4 hown hKs hV hm0 13 rfl (by decide) lk35 (fun _ h9 => h9) rfl dX4_drop_47 ?_
      refine lv_iload_n hx hb dX4_drop_50 rfl (lv_at hl 1 rfl) ?_
      refine lv_iconst (v := (-1)) hx hb dX4_drop_51 (by decide) ?_
      refine hv_iast hx hb hKs hV hS hm8 (by omega) (by decide) dX4_drop_52 (fun ct H locs he hne hV hS => ?_)
      have hm1 := (hne (96) (by omega)).trans hm1
      have hm2 := (hne (112) (by omega)).trans hm2
      have hm3 := (hne (128) (by omega)).trans hm3
      have hm4 := (hne (144) (by omega)).trans hm4
      have hm5 := (hne (160) (by omega)).trans hm5
      have hm6 := (hne (176) (by omega)).trans hm6
      have hm7 := (hne (192) (by omega)).trans hm7
      have hm9 := (hne (224) (by omega)).trans hm9
      have hm0 := (hne (80) (by omega)).trans hm0
      have hm8 := he
      have hfr := fun (q : Nat) (q1 : q ≠ 1 ∧ (q % 16 ≠ 0 ∨ q < 80)) => (hne q (by omega)).trans (hfr q q1)
      refine lv_aload_n hx hb dX4_drop_53 rfl (lv_at hl 2 rfl) ?_
      refine hv_get (C := RX4) (T := TX4) (N := 15) hx hb hts hiX4 hown hKs hV hm0 14 rfl (by decide) lk38 (fun _ h9 => h9) rfl dX4_drop_54 ?_
      refine lv_iload_n hx hb dX4_drop_57 rfl (lv_at hl 1 rfl) ?_
      refine lv_iconst (v := nI 0) hx hb dX4_drop_58 (by decide) ?_
      refine hv_iast hx hb hKs hV hS hm9 (by omega) (by decide) dX4_drop_59 (fun ct H locs he hne hV hS => ?_)
      have hm1 := (hne (96) (by omega)).trans hm1
      have hm2 := (hne (112) (by omega)).trans hm2
      have hm3 := (hne (128) (by omega)).trans hm3
      have hm4 := (hne (144) (by omega)).trans hm4
      have hm5 := (hne (160) (by omega)).trans hm5
      have hm6 := (hne (176) (by omega)).trans hm6
      have hm7 := (hne (192) (by omega)).trans hm7
      have hm0 := (hne (80) (by omega)).trans hm0
      have hm8 := (hne (208) (by omega)).trans hm8
      have hm9 := he
      have hfr := fun (q : Nat) (q1 : q ≠ 1 ∧ (q % 16 ≠ 0 ∨ q < 80)) => (hne q (by omega)).trans (hfr q q1)
      refine lv_aload_n hx hb dX4_drop_60 rfl (lv_at hl 2 rfl) ?_
      refine hv_get (C := RX4) (T := TX4) (N := 15) hx hb hts hiX4 hown hKs hV hm0 11 rfl (by decide) lk32 (fun _ h9 => h9) rfl dX4_drop_61 ?_
      refine lv_iload hx hb dX4_drop_64 (lv_at hl 0 rfl) ?_
      refine lv_iconst (v := (-1)) hx hb dX4_drop_66 (by decide) ?_
      refine hv_iast hx hb hKs hV hS hm7 (by omega) (by decide) dX4_drop_67 (fun ct H locs he hne hV hS => ?_)
      have hm1 := (hne (96) (by omega)).trans hm1
      have hm2 := (hne (112) (by omega)).trans hm2
      have hm3 := (hne (128) (by omega)).trans hm3
      have hm4 := (hne (144) (by omega)).trans hm4
      have hm5 := (hne (160) (by omega)).trans hm5
      have hm6 := (hne (176) (by omega)).trans hm6
      have hm0 := (hne (80) (by omega)).trans hm0
      have hm8 := (hne (208) (by omega)).trans hm8
      have hm9 := (hne (224) (by omega)).trans hm9
      have hm7 := he
      have hfr := fun (q : Nat) (q1 : q ≠ 1 ∧ (q % 16 ≠ 0 ∨ q < 80)) => (hne q (by omega)).trans (hfr q q1)
      refine lv_iload hx hb dX4_drop_68 (lv_at hl 0 rfl) ?_
      have hkn : (k_drop σ (nI y0qn) (nI y1qn)) = 0 := by simp [k_drop, c11a, c11b, hq31, e_y0q, e_y1q]
      exact hv_iret (v := nI (s31)) (u := (ad, ct)) hx hb hr ⟨fun _ => ⟨by rw [e_y0q, e_y1q, esl_1 hq31], by have hmd := me_drop hme hq31; have hsd : s_drop σ (4 * y0qn + y1qn) = (σ.1, σ.2.1, σ.2.2.1, va_up σ.2.2.2.1 s31 (sPt σ s31, sKd σ s31, none), σ.2.2.2.2.1, va_up σ.2.2.2.2.2.1 (4 * y0qn + y1qn) none, σ.2.2.2.2.2.2) := (by unfold s_drop; rw [hq31]); rw [e_y0q, e_y1q]; rw [hsd] at hmd ⊢; exact ⟨_, _, _, _, _, _, _, _, _, ⟨hm0, hm1, hm2, hm3, hm4, hm5, hm6, hm7, hm8, hm9⟩, hmd⟩⟩, fun h9 => absurd hkn h9, fun q q1 => ⟨(hfa q q1).trans (by rw [had0]), fun q2 => (hfr q ⟨q1, q2⟩).trans (by rw [hct0])⟩⟩ hV hS dX4_drop_70 hlocks
  · have c11f := Bool.and_eq_false_iff.mp c11
    refine lv_aload_n hx hb dX4_drop_14 rfl (lv_at hl 0 rfl) ?_
    refine lv_iconst (v := nI 1) hx hb dX4_drop_15 (by decide) ?_
    refine hv_calli (va_runV (As := [.int (nI (1))]) (rest := []) ⟨hx, hb, hml, hown, hts⟩ (c_X4_no l D N0 ad ct hm0 (1)) (cwV 1 hts gX4_drop_X4_no rfl rfl rfl (by decide +kernel) ⟨Nat.le_of_ble_eq_true rfl, Nat.le_of_ble_eq_true rfl⟩) (hv_preV (r := (RX4, TX4, 15)) hKs hV hS hm0 rfl) rfl rfl hl.1 rfl (lv_room (Nat.le_of_ble_eq_true rfl)) dX4_drop_16 ⟨(Nat.le_of_ble_eq_true rfl), (Nat.le_of_ble_eq_true rfl)⟩) hS (fun r9 u9 H locs hq hV hS => ?_)
    obtain ⟨ad9, ct⟩ := u9
    dsimp only at hq
    obtain ⟨rfl, ha9, he, hne⟩ := hq
    have ha9 := ha9.symm
    subst ha9
    have hV : hv D N0 ad ct H := hV
    have hm1 := (hne (96) (by omega)).trans hm1
    have hm2 := (hne (112) (by omega)).trans hm2
    have hm3 := (hne (128) (by omega)).trans hm3
    have hm4 := (hne (144) (by omega)).trans hm4
    have hm5 := (hne (160) (by omega)).trans hm5
    have hm6 := (hne (176) (by omega)).trans hm6
    have hm7 := (hne (192) (by omega)).trans hm7
    have hm8 := (hne (208) (by omega)).trans hm8
    have hm9 := (hne (224) (by omega)).trans hm9
    have hm0 : ct (80) = some (eO 4 [.int (nI (1)), .int (gMi σ), .int (gFu σ), .int (nI (gNC σ)), .ref (ad (96)), .ref (ad (112)), .ref (ad (128)), .ref (ad (144)), .ref (ad (160)), .int (nI (gNS σ)), .ref (ad (176)), .ref (ad (192)), .int (nI (gNB σ)), .ref (ad (208)), .ref (ad (224))]) := he
    have hfr := fun (q : Nat) (q1 : q ≠ 1 ∧ (q % 16 ≠ 0 ∨ q < 80)) => (hne q (by omega)).trans (hfr q q1)
    have hkn : (k_drop σ y0q y1q) = 1 := by rcases c11f with h9 | h9 <;> simp [k_drop, h9]
    exact hv_iret (v := nI (0)) (u := (ad, ct)) hx hb hr ⟨fun h9 => absurd (hkn.symm.trans h9) (by decide), fun _ => by rw [hkn]; exact ⟨f1, f2, f3, f4, f5, f6, f7, f8, f9, ⟨hm0, hm1, hm2, hm3, hm4, hm5, hm6, hm7, hm8, hm9⟩, hme⟩, fun q q1 => ⟨(hfa q q1).trans (by rw [had0]), fun q2 => (hfr q ⟨q1, q2⟩).trans (by rw [hct0])⟩⟩ hV hS dX4_drop_19 hlocks
