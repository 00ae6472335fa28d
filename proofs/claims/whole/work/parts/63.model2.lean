/-- whether two eyes have slices, and look alike -/
def twn (σ : gS) (a b : Nat) : Bool := match gEy σ a with
  | none => false
  | some p => match gEy σ b with
    | none => false
    | some q => like (sPt σ p.1) (nI p.2 - nI q.2) (sPt σ q.1)
theorem twn_0 {σ : gS} {a b : Nat} (h : gEy σ a = none) : twn σ a b = false := by unfold twn; rw [h]
theorem twn_1 {σ : gS} {a b s t : Nat} (h : gEy σ a = some (s, t)) (h2 : gEy σ b = none) : twn σ a b = false := by
  unfold twn
  rw [h]
  show (match gEy σ b with | none => false | some q => like (sPt σ s) (nI t - nI q.2) (sPt σ q.1)) = false
  rw [h2]
theorem twn_2 {σ : gS} {a b s t s2 t2 : Nat} (h : gEy σ a = some (s, t)) (h2 : gEy σ b = some (s2, t2)) : twn σ a b = like (sPt σ s) (nI t - nI t2) (sPt σ s2) := by
  unfold twn
  rw [h]
  show (match gEy σ b with | none => false | some q => like (sPt σ s) (nI t - nI q.2) (sPt σ q.1)) = _
  rw [h2]
def tw (σ : gS) (a b k : Nat) : Nat := if twn σ a (b + k) = true then 1 else 0
/-- 1 for a free slice that can be turned to look like x -/
def fm (σ : gS) (x s : Nat) : Nat := if (eyv (sEy σ s)).toInt = (-1 : Int32).toInt ∧ sim (sPt σ s) (sPt σ x) = true then 1 else 0
def im (σ : gS) (s : Nat) : Nat := if (eyv (sEy σ s)).toInt = (-1 : Int32).toInt then 0 else 1
def blm (σ : gS) (b : Nat) : Nat := if nsm (tw σ (4 * b + 0) (4 * b)) 4 = 4 then 1 else 0
theorem hN_max1 {a : Nat} (h : a < 2 ^ 31) : (if nI 0 < nI a - nI 1 then nI a - nI 1 else nI 0) = nI (a - 1) := by
  rcases Nat.eq_zero_or_pos a with h0 | h0
  · subst h0; decide
  · rw [pk_sub (show 1 ≤ a from h0)]
    by_cases h2 : 0 < a - 1
    · rw [if_pos ((nI_ltI (by omega) (by omega)).mpr h2)]
    · rw [if_neg (fun q => h2 ((nI_ltI (by omega) (by omega)).mp q)), show a - 1 = 0 by omega]

set_option maxHeartbeats 4000000 in
set_option maxRecDepth 100000 in
theorem c_X4_areTwins (l : Launch) (D : hG) (N0 : Nat) (ad : Nat → Nat) (ct : hC) {σ : gS} {th : Nat} (hM : gM D σ th ad ct) (hO : okS σ) (a9 b9 : Nat) (ha4 : a9 < 4 * gNB σ) (hb4 : b9 < 4 * gNB σ) : Met l yX4_areTwins wsX4_areTwins ({ frames := 3, cells := 0, slots := 0, locals := 70 }) (hPc D N0 ad ct [.ref (ad (80)), .int (nI (a9)), .int (nI (b9))]) (va_Qi (fun (z : Int32) (u : hU) => z = hbv (twn σ a9 b9) ∧ u = (ad, ct)) (hB D N0) (hA N0)) 0 0 (hA N0) := by
  refine Met.ofW (cc := cX4_areTwins) (maxL := 3) (ret := (some .boolean)) (by decide) rfl ?_
  intro p e s m args below meth c s₁ B hml hv0
  obtain ⟨hargs, hKs, hV⟩ := hv0
  have hx := B.exec
  have hb := B.bytes
  have hr := B.returns
  have hts := atoms_spec (ws := wsX4_areTwins) B.pre
  have hown : s.vm.findClass RX4 = some m.cls := findClass_of_methodNamed B.named
  have hlocks := B.notSynchronized
  have hS : va_S (hA N0) s.heap s.heap [] := va_S.rf
  have hiX4 : ∀ w ∈ u_ws RX4 TX4 15, w ∈ wsX4_areTwins := by decide +kernel
  have lk35 := hts (.fieldLink RX4 35 "CaneSlicesModel" "eye" "[I") (by decide +kernel)
  have lk29 := hts (.fieldLink RX4 29 "CaneSlicesModel" "look" "[I") (by decide +kernel)
  have lk38 := hts (.fieldLink RX4 38 "CaneSlicesModel" "turned" "[I") (by decide +kernel)
  have hl := lv_entry ([.ref (ad (80)), .int (nI (a9)), .int (nI (b9))]) (n := 3) (Nat.le_of_ble_eq_true rfl)
  have hE : entryFrame m args 3 = entryFrame m ([.ref (ad (80)), .int (nI (a9)), .int (nI (b9))] : List Value).toArray 3 := by rw [hargs]
  rw [hE, lg_entry_eq]
  generalize (lg_sl ([.ref (ad (80)), .int (nI (a9)), .int (nI (b9))]) ++ List.replicate (3 - (lg_sl ([.ref (ad (80)), .int (nI (a9)), .int (nI (b9))])).length) Slot.unset).toArray = ls at hl ⊢
  have hl : lv_has ls 3 [(0, .ref (ad (80))), (1, .int (nI (a9))), (2, .int (nI (b9)))] := hl
  obtain ⟨hn8, hn60, hn6, -⟩ := id hO
  obtain ⟨f1, f2, f3, f4, f5, f6, f7, f8, f9, ⟨hm0, hm1, hm2, hm3, hm4, hm5, hm6, hm7, hm8, hm9⟩, hme⟩ := id hM
  obtain ⟨em1, em2, em3, em4, em5, em6, em7, em8, em9⟩ := id hme
  refine lv_aload_n hx hb dX4_areTwins_0 rfl (lv_at hl 0 rfl) ?_
  refine hv_get (C := RX4) (T := TX4) (N := 15) hx hb hts hiX4 hown hKs hV hm0 13 rfl (by decide) lk35 (fun _ h9 => h9) rfl dX4_areTwins_1 ?_
  refine lv_iload_n hx hb dX4_areTwins_4 rfl (lv_at hl 1 rfl) ?_
  refine hv_iald hx hb hKs hV hm8 (by omega) (by decide) dX4_areTwins_5 ?_
  rcases hq5 : gEy σ (a9) with _ | ⟨s5, t5⟩
  · refine hv_eqi ((em8 (a9) (by omega)).trans (esl_0 hq5)) ?_
    refine lv_iconst (v := (-1)) hx hb dX4_areTwins_6 (by decide) ?_
    refine hI_icmp_eq (tgt := 63) hx hb dX4_areTwins_7 (by decide) (fun c7 => ?_) (fun c7 => by exact absurd rfl c7)
    refine lv_iconst (v := nI 0) hx hb dX4_areTwins_63 (by decide) ?_
    exact hv_zret (v := nI (0)) (u := (ad, ct)) hx hb hr (by decide +kernel) ⟨hb_0 (twn_0 hq5), rfl⟩ hV hS dX4_areTwins_64 hlocks
  · obtain ⟨he5, hs5, ht5, hy5⟩ := hO.2.2.2.2.2.1 _ _ _ hq5
    refine hv_eqi ((em8 (a9) (by omega)).trans (esl_1 hq5)) ?_
    refine lv_iconst (v := (-1)) hx hb dX4_areTwins_6 (by decide) ?_
    refine hL_icmp_eq (tgt := 63) hx hb (by omega) dX4_areTwins_7 (by decide) (fun c7 => by exact absurd c7 (by rw [h_m1]; omega)) (fun c7 => ?_)
    refine lv_aload_n hx hb dX4_areTwins_10 rfl (lv_at hl 0 rfl) ?_
    refine hv_get (C := RX4) (T := TX4) (N := 15) hx hb hts hiX4 hown hKs hV hm0 13 rfl (by decide) lk35 (fun _ h9 => h9) rfl dX4_areTwins_11 ?_
    refine lv_iload_n hx hb dX4_areTwins_14 rfl (lv_at hl 2 rfl) ?_
    refine hv_iald hx hb hKs hV hm8 (by omega) (by decide) dX4_areTwins_15 ?_
    rcases hq15 : gEy σ (b9) with _ | ⟨s15, t15⟩
    · refine hv_eqi ((em8 (b9) (by omega)).trans (esl_0 hq15)) ?_
      refine lv_iconst (v := (-1)) hx hb dX4_areTwins_16 (by decide) ?_
      refine hI_icmp_eq (tgt := 63) hx hb dX4_areTwins_17 (by decide) (fun c17 => ?_) (fun c17 => by exact absurd rfl c17)
      refine lv_iconst (v := nI 0) hx hb dX4_areTwins_63 (by decide) ?_
      exact hv_zret (v := nI (0)) (u := (ad, ct)) hx hb hr (by decide +kernel) ⟨hb_0 (twn_1 hq5 hq15), rfl⟩ hV hS dX4_areTwins_64 hlocks
    · obtain ⟨he15, hs15, ht15, hy15⟩ := hO.2.2.2.2.2.1 _ _ _ hq15
      refine hv_eqi ((em8 (b9) (by omega)).trans (esl_1 hq15)) ?_
      refine lv_iconst (v := (-1)) hx hb dX4_areTwins_16 (by decide) ?_
      refine hL_icmp_eq (tgt := 63) hx hb (by omega) dX4_areTwins_17 (by decide) (fun c17 => by exact absurd c17 (by rw [h_m1]; omega)) (fun c17 => ?_)
      refine lv_aload_n hx hb dX4_areTwins_20 rfl (lv_at hl 0 rfl) ?_
      refine hv_get (C := RX4) (T := TX4) (N := 15) hx hb hts hiX4 hown hKs hV hm0 10 rfl (by decide) lk29 (fun _ h9 => h9) rfl dX4_areTwins_21 ?_
      refine lv_aload_n hx hb dX4_areTwins_24 rfl (lv_at hl 0 rfl) ?_
      refine hv_get (C := RX4) (T := TX4) (N := 15) hx hb hts hiX4 hown hKs hV hm0 13 rfl (by decide) lk35 (fun _ h9 => h9) rfl dX4_areTwins_25 ?_
      refine lv_iload_n hx hb dX4_areTwins_28 rfl (lv_at hl 1 rfl) ?_
      refine hv_iald hx hb hKs hV hm8 (by omega) (by decide) dX4_areTwins_29 ?_
      refine hv_eqi ((em8 (a9) (by omega)).trans (esl_1 hq5)) ?_
      refine lv_aload_n hx hb dX4_areTwins_30 rfl (lv_at hl 0 rfl) ?_
      refine hv_get (C := RX4) (T := TX4) (N := 15) hx hb hts hiX4 hown hKs hV hm0 14 rfl (by decide) lk38 (fun _ h9 => h9) rfl dX4_areTwins_31 ?_
      refine lv_iload_n hx hb dX4_areTwins_34 rfl (lv_at hl 1 rfl) ?_
      refine hv_iald hx hb hKs hV hm9 (by omega) (by decide) dX4_areTwins_35 ?_
      refine hv_eqi ((em9 (a9) (by omega)).trans (etn_1 hq5)) ?_
      refine lv_aload_n hx hb dX4_areTwins_36 rfl (lv_at hl 0 rfl) ?_
      refine hv_get (C := RX4) (T := TX4) (N := 15) hx hb hts hiX4 hown hKs hV hm0 14 rfl (by decide) lk38 (fun _ h9 => h9) rfl dX4_areTwins_37 ?_
      refine lv_iload_n hx hb dX4_areTwins_40 rfl (lv_at hl 2 rfl) ?_
      refine hv_iald hx hb hKs hV hm9 (by omega) (by decide) dX4_areTwins_41 ?_
      refine hv_eqi ((em9 (b9) (by omega)).trans (etn_1 hq15)) ?_
      refine lv_isub hx hb dX4_areTwins_42 ?_
      refine lv_aload_n hx hb dX4_areTwins_43 rfl (lv_at hl 0 rfl) ?_
      refine hv_get (C := RX4) (T := TX4) (N := 15) hx hb hts hiX4 hown hKs hV hm0 10 rfl (by decide) lk29 (fun _ h9 => h9) rfl dX4_areTwins_44 ?_
      refine lv_aload_n hx hb dX4_areTwins_47 rfl (lv_at hl 0 rfl) ?_
      refine hv_get (C := RX4) (T := TX4) (N := 15) hx hb hts hiX4 hown hKs hV hm0 13 rfl (by decide) lk35 (fun _ h9 => h9) rfl dX4_areTwins_48 ?_
      refine lv_iload_n hx hb dX4_areTwins_51 rfl (lv_at hl 2 rfl) ?_
      refine hv_iald hx hb hKs hV hm8 (by omega) (by decide) dX4_areTwins_52 ?_
      refine hv_eqi ((em8 (b9) (by omega)).trans (esl_1 hq15)) ?_
      refine hv_calli (va_runS (As := [.ref (ad (176)), .int (nI (s5)), .int (nI (t5) - nI (t15)), .ref (ad (176)), .int (nI (s15))]) (rest := []) ⟨hx, hb, hml, hown, hts⟩ (c_X4_areAlike l D N0 ad ct hm6 hm6 (by decide) (by decide) (s5) (s15) (by omega) (by omega) ((nI (t5) - nI (t15))) (P1 := sPt σ (s5)) (P2 := sPt σ (s15)) (hO.2.2.2.2.1 (s5) (by omega)).1 (hO.2.2.2.2.1 (s15) (by omega)).1 (em6 (s5) (by omega)) (em6 (s15) (by omega))) (va_cwS 5 hts gX4_areTwins_X4_areAlike rfl rfl rfl (by decide +kernel) ⟨Nat.le_of_ble_eq_true rfl, Nat.le_of_ble_eq_true rfl⟩) (hv_preS hKs hV hS) rfl rfl hl.1 rfl (lv_room (Nat.le_of_ble_eq_true rfl)) dX4_areTwins_53 ⟨(Nat.le_of_ble_eq_true rfl), (Nat.le_of_ble_eq_true rfl)⟩) hS (fun r9 u9 H locs hq hV hS => ?_)
      obtain ⟨rfl, rfl⟩ := hq
      have hV : hv D N0 ad ct H := hV
      refine hB_if_eq (tgt := 63) hx hb dX4_areTwins_56 (by decide) (fun c56 => ?_) (fun c56 => ?_)
      · refine lv_iconst (v := nI 0) hx hb dX4_areTwins_63 (by decide) ?_
        exact hv_zret (v := nI (0)) (u := (ad, ct)) hx hb hr (by decide +kernel) ⟨hb_0 ((twn_2 hq5 hq15).trans c56), rfl⟩ hV hS dX4_areTwins_64 hlocks
      · refine lv_iconst (v := nI 1) hx hb dX4_areTwins_59 (by decide) ?_
        refine lv_goto (tgt := 64) hx hb dX4_areTwins_60 (by decide) ?_
        exact hv_zret (v := nI (1)) (u := (ad, ct)) hx hb hr (by decide +kernel) ⟨hb_1 ((twn_2 hq5 hq15).trans c56), rfl⟩ hV hS dX4_areTwins_64 hlocks

set_option maxHeartbeats 4000000 in
set_option maxRecDepth 100000 in
theorem c_X4_twins (l : Launch) (D : hG) (N0 : Nat) (ad : Nat → Nat) (ct : hC) {σ : gS} {th : Nat} (hM : gM D σ th ad ct) (hO : okS σ) (b9 k9 : Nat) (hb6 : b9 < gNB σ) (hk4 : k9 < 4) : Met l yX4_twins wsX4_twins ({ frames := 4, cells := 0, slots := 0, locals := 92 }) (hPc D N0 ad ct [.ref (ad (80)), .int (nI (b9)), .int (nI (k9))]) (va_Qi (fun (z : Int32) (u : hU) => z = nI (nsm (tw σ (4 * b9 + k9) (4 * b9)) 4) ∧ u = (ad, ct)) (hB D N0) (hA N0)) 0 0 (hA N0) := by
  refine Met.ofW (cc := cX4_twins) (maxL := 5) (ret := (some .int)) (by decide) rfl ?_
  intro p e s m args below meth c s₁ B hml hv0
  obtain ⟨hargs, hKs, hV⟩ := hv0
  have hx := B.exec
  have hb := B.bytes
  have hr := B.returns
  have hts := atoms_spec (ws := wsX4_twins) B.pre
  have hown : s.vm.findClass RX4 = some m.cls := findClass_of_methodNamed B.named
  have hlocks := B.notSynchronized
  have hS : va_S (hA N0) s.heap s.heap [] := va_S.rf
  have hl := lv_entry ([.ref (ad (80)), .int (nI (b9)), .int (nI (k9))]) (n := 5) (Nat.le_of_ble_eq_true rfl)
  have hE : entryFrame m args 5 = entryFrame m ([.ref (ad (80)), .int (nI (b9)), .int (nI (k9))] : List Value).toArray 5 := by rw [hargs]
  rw [hE, lg_entry_eq]
  generalize (lg_sl ([.ref (ad (80)), .int (nI (b9)), .int (nI (k9))]) ++ List.replicate (5 - (lg_sl ([.ref (ad (80)), .int (nI (b9)), .int (nI (k9))])).length) Slot.unset).toArray = ls at hl ⊢
  have hl : lv_has ls 5 [(0, .ref (ad (80))), (1, .int (nI (b9))), (2, .int (nI (k9)))] := hl
  obtain ⟨hn8, hn60, hn6, -⟩ := id hO
  obtain ⟨f1, f2, f3, f4, f5, f6, f7, f8, f9, ⟨hm0, hm1, hm2, hm3, hm4, hm5, hm6, hm7, hm8, hm9⟩, hme⟩ := id hM
  obtain ⟨em1, em2, em3, em4, em5, em6, em7, em8, em9⟩ := id hme
  refine lv_iconst (v := nI 0) hx hb dX4_twins_0 (by decide) ?_
  refine lv_istore_n (lv' := [(3, .int (nI (0))), (0, .ref (ad (80))), (1, .int (nI (b9))), (2, .int (nI (k9)))]) hx hb dX4_twins_1 rfl hl (by decide) rfl (fun ls hl => ?_)
  refine lv_iconst (v := nI 0) hx hb dX4_twins_2 (by decide) ?_
  refine lv_istore (lv' := [(4, .int (nI (0))), (3, .int (nI (0))), (0, .ref (ad (80))), (1, .int (nI (b9))), (2, .int (nI (k9)))]) hx hb dX4_twins_3 hl (by decide) rfl (fun ls hl => ?_)
  have L5 : ∀ (n i : Nat) (a9 : Nat), i ≤ 4 → 4 < i + n → ∀ (H : Heap) (locs : List Loc), (a9 = nsm (tw σ (4 * b9 + k9) (4 * b9)) i) → hv D N0 ad ct H → va_S (hA N0) s.heap H locs → ∀ ls : Array Slot, lv_has ls 5 [(0, .ref (ad (80))), (1, .int (nI (b9))), (2, .int (nI (k9))), (3, .int (nI (a9))), (4, .int (nI (i)))] → W p l e (headSpec wsX4_twins ({ frames := 4, cells := 0, slots := 0, locals := 92 })).room s m args below meth c H locs 0 0 (MQ below (va_Qi (fun (z : Int32) (u : hU) => z = nI (nsm (tw σ (4 * b9 + k9) (4 * b9)) 4) ∧ u = (ad, ct)) (hB D N0) (hA N0)) args s 0 0 (hA N0)) (F0 m 5 ls []) := by
    intro n
    induction n with
    | zero => intro i a9 h1 h2; exact absurd h2 (by omega)
    | succ n ih5 =>
      intro i a9 hi5 hn5 H locs ga hV hS ls hl
      refine lv_iload hx hb dX4_twins_5 (lv_at hl 4 rfl) ?_
      refine lv_iconst (v := nI 4) hx hb dX4_twins_7 (by decide) ?_
      refine hN_icmp_ge (tgt := 43) hx hb (by omega) (by omega) dX4_twins_8 (by decide) (fun c8 => ?_) (fun c8 => ?_)
      · refine lv_iload_n hx hb dX4_twins_43 rfl (lv_at hl 3 rfl) ?_
        exact hv_iret (v := nI (a9)) (u := (ad, ct)) hx hb hr ⟨by rw [ga, show i = 4 by omega], rfl⟩ hV hS dX4_twins_44 hlocks
      · refine lv_iload_n hx hb dX4_twins_11 rfl (lv_at hl 3 rfl) ?_
        refine lv_aload_n hx hb dX4_twins_12 rfl (lv_at hl 0 rfl) ?_
        refine lv_iconst (v := nI 4) hx hb dX4_twins_13 (by decide) ?_
        refine lv_iload_n hx hb dX4_twins_14 rfl (lv_at hl 1 rfl) ?_
        refine hN_imul hx hb dX4_twins_15 ?_
        refine lv_iload_n hx hb dX4_twins_16 rfl (lv_at hl 2 rfl) ?_
        refine hN_iadd hx hb dX4_twins_17 ?_
        refine lv_iconst (v := nI 4) hx hb dX4_twins_18 (by decide) ?_
        refine lv_iload_n hx hb dX4_twins_19 rfl (lv_at hl 1 rfl) ?_
        refine hN_imul hx hb dX4_twins_20 ?_
        refine lv_iload hx hb dX4_twins_21 (lv_at hl 4 rfl) ?_
        refine hN_iadd hx hb dX4_twins_23 ?_
        refine hv_calli (va_runV (As := [.int (nI ((4) * (b9) + k9)), .int (nI ((4) * (b9) + i))]) (rest := [.int (nI (a9))]) ⟨hx, hb, hml, hown, hts⟩ (c_X4_areTwins l D N0 ad ct (show gM D σ _ ad ct from ⟨f1, f2, f3, f4, f5, f6, f7, f8, f9, ⟨hm0, hm1, hm2, hm3, hm4, hm5, hm6, hm7, hm8, hm9⟩, hme⟩) hO ((4) * (b9) + k9) ((4) * (b9) + i) (by omega) (by omega)) (cwV 2 hts gX4_twins_X4_areTwins rfl rfl rfl (by decide +kernel) ⟨Nat.le_of_ble_eq_true rfl, Nat.le_of_ble_eq_true rfl⟩) (hv_preV (r := (RX4, TX4, 15)) hKs hV hS hm0 rfl) rfl rfl hl.1 rfl (lv_room (Nat.le_of_ble_eq_true rfl)) dX4_twins_24 ⟨(Nat.le_of_ble_eq_true rfl), (Nat.le_of_ble_eq_true rfl)⟩) hS (fun r9 u9 H locs hq hV hS => ?_)
        obtain ⟨rfl, rfl⟩ := hq
        have hV : hv D N0 ad ct H := hV
        refine hB_if_eq (tgt := 34) hx hb dX4_twins_27 (by decide) (fun c27 => ?_) (fun c27 => ?_)
        · refine lv_iconst (v := nI 0) hx hb dX4_twins_34 (by decide) ?_
          refine hN_iadd hx hb dX4_twins_35 ?_
          refine lv_istore_n (lv' := [(3, .int (nI (a9 + 0))), (0, .ref (ad (80))), (1, .int (nI (b9))), (2, .int (nI (k9))), (4, .int (nI (i)))]) hx hb dX4_twins_36 rfl hl (by decide) rfl (fun ls hl => ?_)
          refine lv_iinc (v := nI (i + 1)) (lv' := [(4, .int (nI (i + 1))), (3, .int (nI (a9 + 0))), (0, .ref (ad (80))), (1, .int (nI (b9))), (2, .int (nI (k9)))]) hx hb dX4_twins_37 hl (k := 4) rfl (nI_add (i) 1) (by decide) rfl (fun ls hl => ?_)
          refine lv_goto (tgt := 5) hx hb dX4_twins_40 (by decide) ?_
          exact ih5 (i + 1) (a9 + 0) (by omega) (by omega) _ _ (by rw [nsm, ga, show tw σ (4 * b9 + k9) (4 * b9) i = 0 from if_neg (by rw [c27]; decide)]) hV hS ls (lv_sub hl [2, 3, 4, 1, 0] rfl)
        · refine lv_iconst (v := nI 1) hx hb dX4_twins_30 (by decide) ?_
          refine lv_goto (tgt := 35) hx hb dX4_twins_31 (by decide) ?_
          refine hN_iadd hx hb dX4_twins_35 ?_
          refine lv_istore_n (lv' := [(3, .int (nI (a9 + 1))), (0, .ref (ad (80))), (1, .int (nI (b9))), (2, .int (nI (k9))), (4, .int (nI (i)))]) hx hb dX4_twins_36 rfl hl (by decide) rfl (fun ls hl => ?_)
          refine lv_iinc (v := nI (i + 1)) (lv' := [(4, .int (nI (i + 1))), (3, .int (nI (a9 + 1))), (0, .ref (ad (80))), (1, .int (nI (b9))), (2, .int (nI (k9)))]) hx hb dX4_twins_37 hl (k := 4) rfl (nI_add (i) 1) (by decide) rfl (fun ls hl => ?_)
          refine lv_goto (tgt := 5) hx hb dX4_twins_40 (by decide) ?_
          exact ih5 (i + 1) (a9 + 1) (by omega) (by omega) _ _ (by rw [nsm, ga, show tw σ (4 * b9 + k9) (4 * b9) i = 1 from if_pos c27]) hV hS ls (lv_sub hl [2, 3, 4, 1, 0] rfl)
  exact L5 (4 + 1) (0) (0) (by omega) (by omega) _ _ (rfl) hV hS ls (lv_sub hl [2, 3, 4, 1, 0] rfl)

set_option maxHeartbeats 4000000 in
set_option maxRecDepth 100000 in
theorem c_X4_turnTo (l : Launch) (D : hG) (N0 : Nat) (ad : Nat → Nat) (ct : hC) {σ : gS} {th : Nat} (hM : gM D σ th ad ct) (hO : okS σ) (a9 b9 : Nat) (ha6 : a9 < gNS σ) (hb6 : b9 < gNS σ) : Met l yX4_turnTo wsX4_turnTo ({ frames := 3, cells := 0, slots := 0, locals := 70 }) (hPc D N0 ad ct [.ref (ad (80)), .int (nI (a9)), .int (nI (b9))]) (va_Qi (fun (z : Int32) (u : hU) => z = plc 8 (lturn (sPt σ a9) (sPt σ b9)) ∧ u = (ad, ct)) (hB D N0) (hA N0)) 0 0 (hA N0) := by
  refine Met.ofW (cc := cX4_turnTo) (maxL := 4) (ret := (some .int)) (by decide) rfl ?_
  intro p e s m args below meth c s₁ B hml hv0
  obtain ⟨hargs, hKs, hV⟩ := hv0
  have hx := B.exec
  have hb := B.bytes
  have hr := B.returns
  have hts := atoms_spec (ws := wsX4_turnTo) B.pre
  have hown : s.vm.findClass RX4 = some m.cls := findClass_of_methodNamed B.named
  have hlocks := B.notSynchronized
  have hS : va_S (hA N0) s.heap s.heap [] := va_S.rf
  have hiX4 : ∀ w ∈ u_ws RX4 TX4 15, w ∈ wsX4_turnTo := by decide +kernel
  have lk29 := hts (.fieldLink RX4 29 "CaneSlicesModel" "look" "[I") (by decide +kernel)
  have hl := lv_entry ([.ref (ad (80)), .int (nI (a9)), .int (nI (b9))]) (n := 4) (Nat.le_of_ble_eq_true rfl)
  have hE : entryFrame m args 4 = entryFrame m ([.ref (ad (80)), .int (nI (a9)), .int (nI (b9))] : List Value).toArray 4 := by rw [hargs]
  rw [hE, lg_entry_eq]
  generalize (lg_sl ([.ref (ad (80)), .int (nI (a9)), .int (nI (b9))]) ++ List.replicate (4 - (lg_sl ([.ref (ad (80)), .int (nI (a9)), .int (nI (b9))])).length) Slot.unset).toArray = ls at hl ⊢
  have hl : lv_has ls 4 [(0, .ref (ad (80))), (1, .int (nI (a9))), (2, .int (nI (b9)))] := hl
  obtain ⟨hn8, hn60, hn6, -⟩ := id hO
  obtain ⟨f1, f2, f3, f4, f5, f6, f7, f8, f9, ⟨hm0, hm1, hm2, hm3, hm4, hm5, hm6, hm7, hm8, hm9⟩, hme⟩ := id hM
  obtain ⟨em1, em2, em3, em4, em5, em6, em7, em8, em9⟩ := id hme
  refine lv_iconst (v := nI 0) hx hb dX4_turnTo_0 (by decide) ?_
  refine lv_istore_n (lv' := [(3, .int (nI (0))), (0, .ref (ad (80))), (1, .int (nI (a9))), (2, .int (nI (b9)))]) hx hb dX4_turnTo_1 rfl hl (by decide) rfl (fun ls hl => ?_)
  have L2 : ∀ (n i : Nat), i ≤ 8 → 8 < i + n → ∀ (H : Heap) (locs : List Loc), (∀ k, k < i → like (sPt σ a9) (nI k) (sPt σ b9) = false) → hv D N0 ad ct H → va_S (hA N0) s.heap H locs → ∀ ls : Array Slot, lv_has ls 4 [(0, .ref (ad (80))), (1, .int (nI (a9))), (2, .int (nI (b9))), (3, .int (nI (i)))] → W p l e (headSpec wsX4_turnTo ({ frames := 3, cells := 0, slots := 0, locals := 70 })).room s m args below meth c H locs 0 0 (MQ below (va_Qi (fun (z : Int32) (u : hU) => z = plc 8 (lturn (sPt σ a9) (sPt σ b9)) ∧ u = (ad, ct)) (hB D N0) (hA N0)) args s 0 0 (hA N0)) (F0 m 2 ls []) := by
    intro n
    induction n with
    | zero => intro i h1 h2; exact absurd h2 (by omega)
    | succ n ih2 =>
      intro i hi2 hn2 H locs gi hV hS ls hl
      refine lv_iload_n hx hb dX4_turnTo_2 rfl (lv_at hl 3 rfl) ?_
      refine lv_bipush (v := nI 8) hx hb dX4_turnTo_3 (by decide) ?_
      refine hN_icmp_ge (tgt := 33) hx hb (by omega) (by omega) dX4_turnTo_5 (by decide) (fun c5 => ?_) (fun c5 => ?_)
      · refine lv_iconst (v := (-1)) hx hb dX4_turnTo_33 (by decide) ?_
        exact hv_iret (v := ((-1))) (u := (ad, ct)) hx hb hr ⟨by unfold lturn; rw [frst_is (i := 8) (by omega) (fun k hk => gi k (by omega)) (fun q => absurd q (by omega)), plc_out], rfl⟩ hV hS dX4_turnTo_34 hlocks
      · refine lv_aload_n hx hb dX4_turnTo_8 rfl (lv_at hl 0 rfl) ?_
        refine hv_get (C := RX4) (T := TX4) (N := 15) hx hb hts hiX4 hown hKs hV hm0 10 rfl (by decide) lk29 (fun _ h9 => h9) rfl dX4_turnTo_9 ?_
        refine lv_iload_n hx hb dX4_turnTo_12 rfl (lv_at hl 1 rfl) ?_
        refine lv_iload_n hx hb dX4_turnTo_13 rfl (lv_at hl 3 rfl) ?_
        refine lv_aload_n hx hb dX4_turnTo_14 rfl (lv_at hl 0 rfl) ?_
        refine hv_get (C := RX4) (T := TX4) (N := 15) hx hb hts hiX4 hown hKs hV hm0 10 rfl (by decide) lk29 (fun _ h9 => h9) rfl dX4_turnTo_15 ?_
        refine lv_iload_n hx hb dX4_turnTo_18 rfl (lv_at hl 2 rfl) ?_
        refine hv_calli (va_runS (As := [.ref (ad (176)), .int (nI (a9)), .int (nI (i)), .ref (ad (176)), .int (nI (b9))]) (rest := []) ⟨hx, hb, hml, hown, hts⟩ (c_X4_areAlike l D N0 ad ct hm6 hm6 (by decide) (by decide) (a9) (b9) (by omega) (by omega) (nI (i)) (P1 := sPt σ (a9)) (P2 := sPt σ (b9)) (hO.2.2.2.2.1 (a9) (by omega)).1 (hO.2.2.2.2.1 (b9) (by omega)).1 (em6 (a9) (by omega)) (em6 (b9) (by omega))) (va_cwS 5 hts gX4_turnTo_X4_areAlike rfl rfl rfl (by decide +kernel) ⟨Nat.le_of_ble_eq_true rfl, Nat.le_of_ble_eq_true rfl⟩) (hv_preS hKs hV hS) rfl rfl hl.1 rfl (lv_room (Nat.le_of_ble_eq_true rfl)) dX4_turnTo_19 ⟨(Nat.le_of_ble_eq_true rfl), (Nat.le_of_ble_eq_true rfl)⟩) hS (fun r9 u9 H locs hq hV hS => ?_)
        obtain ⟨rfl, rfl⟩ := hq
        have hV : hv D N0 ad ct H := hV
        refine hB_if_eq (tgt := 27) hx hb dX4_turnTo_22 (by decide) (fun c22 => ?_) (fun c22 => ?_)
        · refine lv_iinc (v := nI (i + 1)) (lv' := [(3, .int (nI (i + 1))), (0, .ref (ad (80))), (1, .int (nI (a9))), (2, .int (nI (b9)))]) hx hb dX4_turnTo_27 hl (k := 3) rfl (nI_add (i) 1) (by decide) rfl (fun ls hl => ?_)
          refine lv_goto (tgt := 2) hx hb dX4_turnTo_30 (by decide) ?_
          exact ih2 (i + 1)  (by omega) (by omega) _ _ (fun k hk => (Nat.lt_or_ge k i).elim (gi k) (fun q => by have e9 : k = i := (by omega); subst e9; exact c22)) hV hS ls (lv_sub hl [1, 2, 3, 0] rfl)
        · refine lv_iload_n hx hb dX4_turnTo_25 rfl (lv_at hl 3 rfl) ?_
          exact hv_iret (v := nI (i)) (u := (ad, ct)) hx hb hr ⟨by unfold lturn; rw [frst_is (i := i) (by omega) gi (fun _ => c22), plc_in (by omega)], rfl⟩ hV hS dX4_turnTo_26 hlocks
  exact L2 (8 + 1) (0)  (by omega) (by omega) _ _ (fun k hk => absurd hk (Nat.not_lt_zero k)) hV hS ls (lv_sub hl [1, 2, 3, 0] rfl)

set_option maxHeartbeats 4000000 in
set_option maxRecDepth 100000 in
theorem c_X4_free (l : Launch) (D : hG) (N0 : Nat) (ad : Nat → Nat) (ct : hC) {σ : gS} {th : Nat} (hM : gM D σ th ad ct) (hO : okS σ) (x9 : Nat) (hx6 : x9 < gNS σ) : Met l yX4_free wsX4_free ({ frames := 4, cells := 0, slots := 0, locals := 93 }) (hPc D N0 ad ct [.ref (ad (80)), .int (nI (x9))]) (va_Qi (fun (z : Int32) (u : hU) => z = nI (nsm (fm σ x9) (gNS σ)) ∧ u = (ad, ct)) (hB D N0) (hA N0)) 0 0 (hA N0) := by
  refine Met.ofW (cc := cX4_free) (maxL := 4) (ret := (some .int)) (by decide) rfl ?_
  intro p e s m args below meth c s₁ B hml hv0
  obtain ⟨hargs, hKs, hV⟩ := hv0
  have hx := B.exec
  have hb := B.bytes
  have hr := B.returns
  have hts := atoms_spec (ws := wsX4_free) B.pre
  have hown : s.vm.findClass RX4 = some m.cls := findClass_of_methodNamed B.named
  have hlocks := B.notSynchronized
  have hS : va_S (hA N0) s.heap s.heap [] := va_S.rf
  have hiX4 : ∀ w ∈ u_ws RX4 TX4 15, w ∈ wsX4_free := by decide +kernel
  have lk51 := hts (.fieldLink RX4 51 "CaneSlicesModel" "slices" "I") (by decide +kernel)
  have lk32 := hts (.fieldLink RX4 32 "CaneSlicesModel" "place" "[I") (by decide +kernel)
  have hl := lv_entry ([.ref (ad (80)), .int (nI (x9))]) (n := 4) (Nat.le_of_ble_eq_true rfl)
  have hE : entryFrame m args 4 = entryFrame m ([.ref (ad (80)), .int (nI (x9))] : List Value).toArray 4 := by rw [hargs]
  rw [hE, lg_entry_eq]
  generalize (lg_sl ([.ref (ad (80)), .int (nI (x9))]) ++ List.replicate (4 - (lg_sl ([.ref (ad (80)), .int (nI (x9))])).length) Slot.unset).toArray = ls at hl ⊢
  have hl : lv_has ls 4 [(0, .ref (ad (80))), (1, .int (nI (x9)))] := hl
  obtain ⟨hn8, hn60, hn6, -⟩ := id hO
  obtain ⟨f1, f2, f3, f4, f5, f6, f7, f8, f9, ⟨hm0, hm1, hm2, hm3, hm4, hm5, hm6, hm7, hm8, hm9⟩, hme⟩ := id hM
  obtain ⟨em1, em2, em3, em4, em5, em6, em7, em8, em9⟩ := id hme
  refine lv_iconst (v := nI 0) hx hb dX4_free_0 (by decide) ?_
  refine lv_istore_n (lv' := [(2, .int (nI (0))), (0, .ref (ad (80))), (1, .int (nI (x9)))]) hx hb dX4_free_1 rfl hl (by decide) rfl (fun ls hl => ?_)
  refine lv_iconst (v := nI 0) hx hb dX4_free_2 (by decide) ?_
  refine lv_istore_n (lv' := [(3, .int (nI (0))), (2, .int (nI (0))), (0, .ref (ad (80))), (1, .int (nI (x9)))]) hx hb dX4_free_3 rfl hl (by decide) rfl (fun ls hl => ?_)
  have L4 : ∀ (n i : Nat) (a9 : Nat), i ≤ gNS σ → gNS σ < i + n → ∀ (H : Heap) (locs : List Loc), (a9 = nsm (fm σ x9) i) → hv D N0 ad ct H → va_S (hA N0) s.heap H locs → ∀ ls : Array Slot, lv_has ls 4 [(0, .ref (ad (80))), (1, .int (nI (x9))), (2, .int (nI (a9))), (3, .int (nI (i)))] → W p l e (headSpec wsX4_free ({ frames := 4, cells := 0, slots := 0, locals := 93 })).room s m args below meth c H locs 0 0 (MQ below (va_Qi (fun (z : Int32) (u : hU) => z = nI (nsm (fm σ x9) (gNS σ)) ∧ u = (ad, ct)) (hB D N0) (hA N0)) args s 0 0 (hA N0)) (F0 m 4 ls []) := by
    intro n
    induction n with
    | zero => intro i a9 h1 h2; exact absurd h2 (by omega)
    | succ n ih4 =>
      intro i a9 hi4 hn4 H locs ga hV hS ls hl
      refine lv_iload_n hx hb dX4_free_4 rfl (lv_at hl 3 rfl) ?_
      refine lv_aload_n hx hb dX4_free_5 rfl (lv_at hl 0 rfl) ?_
      refine hv_get (C := RX4) (T := TX4) (N := 15) hx hb hts hiX4 hown hKs hV hm0 9 rfl (by decide) lk51 (fun _ h9 => h9) rfl dX4_free_6 ?_
      refine hN_icmp_ge (tgt := 46) hx hb (by omega) (by omega) dX4_free_9 (by decide) (fun c9 => ?_) (fun c9 => ?_)
      · refine lv_iload_n hx hb dX4_free_46 rfl (lv_at hl 2 rfl) ?_
        exact hv_iret (v := nI (a9)) (u := (ad, ct)) hx hb hr ⟨by rw [ga, show i = gNS σ by omega], rfl⟩ hV hS dX4_free_47 hlocks
      · refine lv_iload_n hx hb dX4_free_12 rfl (lv_at hl 2 rfl) ?_
        refine lv_aload_n hx hb dX4_free_13 rfl (lv_at hl 0 rfl) ?_
        refine hv_get (C := RX4) (T := TX4) (N := 15) hx hb hts hiX4 hown hKs hV hm0 11 rfl (by decide) lk32 (fun _ h9 => h9) rfl dX4_free_14 ?_
        refine lv_iload_n hx hb dX4_free_17 rfl (lv_at hl 3 rfl) ?_
        refine hv_iald hx hb hKs hV hm7 (by omega) (by decide) dX4_free_18 ?_
        refine hv_eqi (em7 (i) (by omega)) ?_
        refine lv_iconst (v := (-1)) hx hb dX4_free_19 (by decide) ?_
        refine hI_icmp_ne (tgt := 37) hx hb dX4_free_20 (by decide) (fun c20 => ?_) (fun c20 => ?_)
        · refine lv_iconst (v := nI 0) hx hb dX4_free_37 (by decide) ?_
          refine hN_iadd hx hb dX4_free_38 ?_
          refine lv_istore_n (lv' := [(2, .int (nI (a9 + 0))), (0, .ref (ad (80))), (1, .int (nI (x9))), (3, .int (nI (i)))]) hx hb dX4_free_39 rfl hl (by decide) rfl (fun ls hl => ?_)
          refine lv_iinc (v := nI (i + 1)) (lv' := [(3, .int (nI (i + 1))), (2, .int (nI (a9 + 0))), (0, .ref (ad (80))), (1, .int (nI (x9)))]) hx hb dX4_free_40 hl (k := 3) rfl (nI_add (i) 1) (by decide) rfl (fun ls hl => ?_)
          refine lv_goto (tgt := 4) hx hb dX4_free_43 (by decide) ?_
          exact ih4 (i + 1) (a9 + 0) (by omega) (by omega) _ _ (by rw [nsm, ga, show fm σ x9 i = 0 from if_neg (fun q => c20 q.1)]) hV hS ls (lv_sub hl [2, 3, 1, 0] rfl)
        · refine lv_aload_n hx hb dX4_free_23 rfl (lv_at hl 0 rfl) ?_
          refine lv_iload_n hx hb dX4_free_24 rfl (lv_at hl 3 rfl) ?_
          refine lv_iload_n hx hb dX4_free_25 rfl (lv_at hl 1 rfl) ?_
          refine hv_calli (va_runV (As := [.int (nI (i)), .int (nI (x9))]) (rest := [.int (nI (a9))]) ⟨hx, hb, hml, hown, hts⟩ (c_X4_turnTo l D N0 ad ct (show gM D σ _ ad ct from ⟨f1, f2, f3, f4, f5, f6, f7, f8, f9, ⟨hm0, hm1, hm2, hm3, hm4, hm5, hm6, hm7, hm8, hm9⟩, hme⟩) hO (i) (x9) (by omega) (by omega)) (cwV 2 hts gX4_free_X4_turnTo rfl rfl rfl (by decide +kernel) ⟨Nat.le_of_ble_eq_true rfl, Nat.le_of_ble_eq_true rfl⟩) (hv_preV (r := (RX4, TX4, 15)) hKs hV hS hm0 rfl) rfl rfl hl.1 rfl (lv_room (Nat.le_of_ble_eq_true rfl)) dX4_free_26 ⟨(Nat.le_of_ble_eq_true rfl), (Nat.le_of_ble_eq_true rfl)⟩) hS (fun r9 u9 H locs hq hV hS => ?_)
          obtain ⟨rfl, rfl⟩ := hq
          have hV : hv D N0 ad ct H := hV
          refine lv_iconst (v := (-1)) hx hb dX4_free_29 (by decide) ?_
          refine hI_icmp_eq (tgt := 37) hx hb dX4_free_30 (by decide) (fun c30 => ?_) (fun c30 => ?_)
          · refine lv_iconst (v := nI 0) hx hb dX4_free_37 (by decide) ?_
            refine hN_iadd hx hb dX4_free_38 ?_
            refine lv_istore_n (lv' := [(2, .int (nI (a9 + 0))), (0, .ref (ad (80))), (1, .int (nI (x9))), (3, .int (nI (i)))]) hx hb dX4_free_39 rfl hl (by decide) rfl (fun ls hl => ?_)
            refine lv_iinc (v := nI (i + 1)) (lv' := [(3, .int (nI (i + 1))), (2, .int (nI (a9 + 0))), (0, .ref (ad (80))), (1, .int (nI (x9)))]) hx hb dX4_free_40 hl (k := 3) rfl (nI_add (i) 1) (by decide) rfl (fun ls hl => ?_)
            refine lv_goto (tgt := 4) hx hb dX4_free_43 (by decide) ?_
            exact ih4 (i + 1) (a9 + 0) (by omega) (by omega) _ _ (by rw [nsm, ga, show fm σ x9 i = 0 from if_neg (fun q => by rw [plc_m1.mp c30] at q; cases q.2)]) hV hS ls (lv_sub hl [2, 3, 1, 0] rfl)
          · refine lv_iconst (v := nI 1) hx hb dX4_free_33 (by decide) ?_
            refine lv_goto (tgt := 38) hx hb dX4_free_34 (by decide) ?_
            refine hN_iadd hx hb dX4_free_38 ?_
            refine lv_istore_n (lv' := [(2, .int (nI (a9 + 1))), (0, .ref (ad (80))), (1, .int (nI (x9))), (3, .int (nI (i)))]) hx hb dX4_free_39 rfl hl (by decide) rfl (fun ls hl => ?_)
            refine lv_iinc (v := nI (i + 1)) (lv' := [(3, .int (nI (i + 1))), (2, .int (nI (a9 + 1))), (0, .ref (ad (80))), (1, .int (nI (x9)))]) hx hb dX4_free_40 hl (k := 3) rfl (nI_add (i) 1) (by decide) rfl (fun ls hl => ?_)
            refine lv_goto (tgt := 4) hx hb dX4_free_43 (by decide) ?_
            exact ih4 (i + 1) (a9 + 1) (by omega) (by omega) _ _ (by rw [nsm, ga, show fm σ x9 i = 1 from if_pos ⟨c20, by rcases hsm : sim (sPt σ i) (sPt σ x9) with _ | _; exact absurd (plc_m1.mpr hsm) c30; rfl⟩]) hV hS ls (lv_sub hl [2, 3, 1, 0] rfl)
  exact L4 (gNS σ + 1) (0) (0) (by omega) (by omega) _ _ (rfl) hV hS ls (lv_sub hl [2, 3, 1, 0] rfl)

set_option maxHeartbeats 4000000 in
set_option maxRecDepth 100000 in
theorem c_X4_with (l : Launch) (D : hG) (N0 : Nat) (ad : Nat → Nat) (ct : hC) {ta n1 : Nat} {g1 : Nat → Int32} (ha1 : ct ta = some (eI D n1 g1)) (hn1 : n1 < 2 ^ 31) (k1 : Nat) (hk1 : 3 * k1 + 3 ≤ n1) (d0 : Int64) {P1 : Nat → Nat} (hP1 : ok24 P1) (hg1 : ∀ r, r < 3 → g1 (3 * k1 + r) = nI (rgP P1 r)) : Met l yX4_with wsX4_with ({ frames := 1, cells := 0, slots := 0, locals := 21 }) (hPc D N0 ad ct [.ref (ad (80)), .long (d0), .ref (ad (ta)), .int (nI (k1))]) (va_Ql (fun (z : Int64) (u : hU) => z = dgn d0 (fun k => nI (P1 k)) 24 ∧ u = (ad, ct)) (hB D N0) (hA N0)) 0 0 (hA N0) := by
  refine Met.ofW (cc := cX4_with) (maxL := 8) (ret := (some .long)) (by decide) rfl ?_
  intro p e s m args below meth c s₁ B hml hv0
  obtain ⟨hargs, hKs, hV⟩ := hv0
  have hx := B.exec
  have hb := B.bytes
  have hr := B.returns
  have hts := atoms_spec (ws := wsX4_with) B.pre
  have hown : s.vm.findClass RX4 = some m.cls := findClass_of_methodNamed B.named
  have hlocks := B.notSynchronized
  have hS : va_S (hA N0) s.heap s.heap [] := va_S.rf
  have lk132 := hts (.constantLong RX4 132 (31)) (by decide +kernel)
  have hl := lv_entry ([.ref (ad (80)), .long (d0), .ref (ad (ta)), .int (nI (k1))]) (n := 8) (Nat.le_of_ble_eq_true rfl)
  have hE : entryFrame m args 8 = entryFrame m ([.ref (ad (80)), .long (d0), .ref (ad (ta)), .int (nI (k1))] : List Value).toArray 8 := by rw [hargs]
  rw [hE, lg_entry_eq]
  generalize (lg_sl ([.ref (ad (80)), .long (d0), .ref (ad (ta)), .int (nI (k1))]) ++ List.replicate (8 - (lg_sl ([.ref (ad (80)), .long (d0), .ref (ad (ta)), .int (nI (k1))])).length) Slot.unset).toArray = ls at hl ⊢
  have hl : lv_has ls 8 [(0, .ref (ad (80))), (1, .long (d0)), (3, .ref (ad (ta))), (4, .int (nI (k1)))] := hl
  refine lv_lload_n hx hb dX4_with_0 rfl (lv_at hl 1 rfl) ?_
  refine lv_lstore (lv' := [(5, .long (d0)), (0, .ref (ad (80))), (1, .long (d0)), (3, .ref (ad (ta))), (4, .int (nI (k1)))]) hx hb dX4_with_1 hl (by decide) rfl (fun ls hl => ?_)
  refine lv_iconst (v := nI 0) hx hb dX4_with_3 (by decide) ?_
  refine lv_istore (lv' := [(7, .int (nI (0))), (5, .long (d0)), (0, .ref (ad (80))), (1, .long (d0)), (3, .ref (ad (ta))), (4, .int (nI (k1)))]) hx hb dX4_with_4 hl (by decide) rfl (fun ls hl => ?_)
  have L6 : ∀ (n i : Nat) (d9 : Int64), i ≤ 24 → 24 < i + n → ∀ (H : Heap) (locs : List Loc), (d9 = dgn d0 (fun k => nI (P1 k)) i) → hv D N0 ad ct H → va_S (hA N0) s.heap H locs → ∀ ls : Array Slot, lv_has ls 8 [(3, .ref (ad (ta))), (4, .int (nI (k1))), (5, .long (d9)), (7, .int (nI (i)))] → W p l e (headSpec wsX4_with ({ frames := 1, cells := 0, slots := 0, locals := 21 })).room s m args below meth c H locs 0 0 (MQ below (va_Ql (fun (z : Int64) (u : hU) => z = dgn d0 (fun k => nI (P1 k)) 24 ∧ u = (ad, ct)) (hB D N0) (hA N0)) args s 0 0 (hA N0)) (F0 m 6 ls []) := by
    intro n
    induction n with
    | zero => intro i d9 h1 h2; exact absurd h2 (by omega)
    | succ n ih6 =>
      intro i d9 hi6 hn6 H locs gd hV hS ls hl
      refine lv_iload hx hb dX4_with_6 (lv_at hl 3 rfl) ?_
      refine lv_bipush (v := nI 24) hx hb dX4_with_8 (by decide) ?_
      refine hN_icmp_ge (tgt := 49) hx hb (by omega) (by omega) dX4_with_10 (by decide) (fun c10 => ?_) (fun c10 => ?_)
      · refine lv_lload hx hb dX4_with_49 (lv_at hl 2 rfl) ?_
        exact hv_lret (v := d9) (u := (ad, ct)) hx hb hr ⟨by rw [gd, show i = 24 by omega], rfl⟩ hV hS dX4_with_51 hlocks
      · refine lv_lload hx hb dX4_with_13 (lv_at hl 2 rfl) ?_
        refine lv_ldc2 (v := 31) hx hb hown lk132 dX4_with_15 ?_
        refine lv_lmul hx hb dX4_with_18 ?_
        refine lv_aload_n hx hb dX4_with_19 rfl (lv_at hl 0 rfl) ?_
        refine lv_iconst (v := nI 3) hx hb dX4_with_20 (by decide) ?_
        refine lv_iload hx hb dX4_with_21 (lv_at hl 1 rfl) ?_
        refine hN_imul hx hb dX4_with_23 ?_
        refine lv_iload hx hb dX4_with_24 (lv_at hl 3 rfl) ?_
        refine lv_bipush (v := nI 8) hx hb dX4_with_26 (by decide) ?_
        refine hN_idiv hx hb (by omega) (by omega) (by omega) dX4_with_28 ?_
        refine hN_iadd hx hb dX4_with_29 ?_
        refine hv_iald hx hb hKs hV ha1 (by omega) hn1 dX4_with_30 ?_
        refine hv_eqi (hg1 ((i) / (8)) (by omega)) ?_
        refine lv_iload hx hb dX4_with_31 (lv_at hl 3 rfl) ?_
        refine lv_bipush (v := nI 8) hx hb dX4_with_33 (by decide) ?_
        refine hN_irem hx hb (by omega) (by omega) (by omega) dX4_with_35 ?_
        refine hv_calli (va_runS (As := [.int (nI (rgP (P1) ((i) / (8)))), .int (nI ((i) % (8)))]) (rest := [.long ((d9) * (31))]) ⟨hx, hb, hml, hown, hts⟩ (c_X4_colourOf l D N0 ad ct (f := fun z => P1 (8 * ((i) / (8)) + z)) (ok24.dg (P := P1) hP1 (by omega)) ((i) % (8)) (by omega)) (va_cwS 2 hts gX4_with_X4_colourOf rfl rfl rfl (by decide +kernel) ⟨Nat.le_of_ble_eq_true rfl, Nat.le_of_ble_eq_true rfl⟩) (hv_preS hKs hV hS) rfl rfl hl.1 rfl (lv_room (Nat.le_of_ble_eq_true rfl)) dX4_with_36 ⟨(Nat.le_of_ble_eq_true rfl), (Nat.le_of_ble_eq_true rfl)⟩) hS (fun r9 u9 H locs hq hV hS => ?_)
        obtain ⟨rfl, rfl⟩ := hq
        have hV : hv D N0 ad ct H := hV
        refine lv_i2l hx hb dX4_with_39 rfl ?_
        refine lv_ladd hx hb dX4_with_40 ?_
        refine lv_lstore (lv' := [(5, .long (((d9) * (31)) + ((nI (P1 (8 * ((i) / (8)) + ((i) % (8))))).toInt64))), (3, .ref (ad (ta))), (4, .int (nI (k1))), (7, .int (nI (i)))]) hx hb dX4_with_41 hl (by decide) rfl (fun ls hl => ?_)
        refine lv_iinc (v := nI (i + 1)) (lv' := [(7, .int (nI (i + 1))), (5, .long (((d9) * (31)) + ((nI (P1 (8 * ((i) / (8)) + ((i) % (8))))).toInt64))), (3, .ref (ad (ta))), (4, .int (nI (k1)))]) hx hb dX4_with_43 hl (k := 3) rfl (nI_add (i) 1) (by decide) rfl (fun ls hl => ?_)
        refine lv_goto (tgt := 6) hx hb dX4_with_46 (by decide) ?_
        exact ih6 (i + 1) (((d9) * (31)) + ((nI (P1 (8 * ((i) / (8)) + ((i) % (8))))).toInt64)) (by omega) (by omega) _ _ (by rw [gd]; show _ = dgw _ (nI (P1 i)); rw [show 8 * (i / 8) + i % 8 = i by omega]; rfl) hV hS ls (lv_sub hl [2, 3, 1, 0] rfl)
  exact L6 (24 + 1) (0) (d0) (by omega) (by omega) _ _ (rfl) hV hS ls (lv_sub hl [4, 5, 1, 0] rfl)
