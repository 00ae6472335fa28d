set_option maxHeartbeats 4000000 in
set_option maxRecDepth 100000 in
theorem c_L_lay (l : Launch) (D : hG) (N0 : Nat) (ad : Nat → Nat) (ct : hC) (hfl : l.stackTraces = false) {σ : gS} (hG : gX D σ ad ct) (hO : okS σ) (y0q y1q y2q y3q y4q : Int32) {fo : Nat → Int64} (hout : ct 64 = some (eL D 1 fo)) : Met l yL_lay wsL_lay ({ frames := 7, cells := 1, slots := 6, locals := 109 }) (hPc D N0 ad ct [.ref (ad (0)), .int (y0q), .int (y1q), .int (y2q), .int (y3q), .int (y4q), .ref (ad (64))]) (va_Qi (fun (z : Int32) (u : hU) => wPost D (k_lay σ y0q y1q y2q y3q y4q) (hbv (decide (2 ≤ cHt σ y0q.toInt.toNat))) σ (sWk σ y0q.toInt.toNat 2 (q_lay σ y0q.toInt.toNat y1q.toInt.toNat y2q.toInt.toNat y3q.toInt.toNat y4q.toInt.toNat)) ad ct z u) (hB D N0) (hA N0)) 1 6 (hA N0) := by
  refine va_MetW (cc := cL_lay) (maxL := 8) (ret := (some .int)) (hh := [(0, 23, 26, 19), (0, 23, 30, 21), (0, 23, 34, 13)]) (by decide) rfl ?_
  intro p e s m args below meth c s₁ B hml hv0
  obtain ⟨hargs, hKs, hV⟩ := hv0
  have hx := B.exec
  have hb := B.bytes
  have hr := B.returns
  have hts := atoms_spec (ws := wsL_lay) B.pre
  have hown : s.vm.findClass RL = some m.cls := findClass_of_methodNamed B.named
  have hlocks := B.notSynchronized
  have hS : va_S (hA N0) s.heap s.heap [] := va_S.rf
  have kl19 := hts (.classLink RL 19 "java/lang/IndexOutOfBoundsException") (by decide +kernel)
  have kl21 := hts (.classLink RL 21 "java/lang/IllegalArgumentException") (by decide +kernel)
  have kl13 := hts (.classLink RL 13 "java/lang/IllegalStateException") (by decide +kernel)
  have hl := lv_entry ([.ref (ad (0)), .int (y0q), .int (y1q), .int (y2q), .int (y3q), .int (y4q), .ref (ad (64))]) (n := 8) (Nat.le_of_ble_eq_true rfl)
  have hE : entryFrame m args 8 = entryFrame m ([.ref (ad (0)), .int (y0q), .int (y1q), .int (y2q), .int (y3q), .int (y4q), .ref (ad (64))] : List Value).toArray 8 := by rw [hargs]
  rw [hE, lg_entry_eq]
  generalize (lg_sl ([.ref (ad (0)), .int (y0q), .int (y1q), .int (y2q), .int (y3q), .int (y4q), .ref (ad (64))]) ++ List.replicate (8 - (lg_sl ([.ref (ad (0)), .int (y0q), .int (y1q), .int (y2q), .int (y3q), .int (y4q), .ref (ad (64))])).length) Slot.unset).toArray = ls at hl ⊢
  have hl : lv_has ls 8 [(0, .ref (ad (0))), (1, .int (y0q)), (2, .int (y1q)), (3, .int (y2q)), (4, .int (y3q)), (5, .int (y4q)), (6, .ref (ad (64)))] := hl
  have htab := vx_table (x := yL_lay) B (hts _ List.mem_cons_self)
  obtain ⟨-, -, -, -, -, hX6, hX7, hX8⟩ := id hKs
  obtain ⟨ad0, had0⟩ : ∃ z, z = ad := ⟨ad, rfl⟩
  obtain ⟨ct0, hct0⟩ : ∃ z, z = ct := ⟨ct, rfl⟩
  refine lv_aload hx hb dL_lay_0 (lv_at hl 6 rfl) ?_
  refine lv_iconst (v := nI 0) hx hb dL_lay_2 (by decide) ?_
  refine lv_aload_n hx hb dL_lay_3 rfl (lv_at hl 0 rfl) ?_
  refine lv_iload_n hx hb dL_lay_4 rfl (lv_at hl 1 rfl) ?_
  refine lv_iload_n hx hb dL_lay_5 rfl (lv_at hl 2 rfl) ?_
  refine lv_iload_n hx hb dL_lay_6 rfl (lv_at hl 3 rfl) ?_
  refine lv_iload hx hb dL_lay_7 (lv_at hl 4 rfl) ?_
  refine lv_iload hx hb dL_lay_9 (lv_at hl 5 rfl) ?_
  refine hv_callxi (vx_runV (As := [.int (y0q), .int (y1q), .int (y2q), .int (y3q), .int (y4q)]) (rest := [.int (nI (0)), .ref (ad (64))]) ⟨hx, hb, hml, hown, hts⟩ (c_X3_lay l hfl D N0 ad ct hG hO (y0q) (y1q) (y2q) (y3q) (y4q)) (cwV 5 hts gL_lay_X3_lay rfl rfl rfl (by decide +kernel) ⟨Nat.le_of_ble_eq_true rfl, Nat.le_of_ble_eq_true rfl⟩) (hv_preV (r := (RX3, TX3, 8)) hKs hV hS hG.1 rfl) rfl rfl hl.1 rfl (lv_room (Nat.le_of_ble_eq_true rfl)) dL_lay_11 ⟨(Nat.le_of_ble_eq_true rfl), (Nat.le_of_ble_eq_true rfl)⟩) hS (fun hk0 ce q9 H locs hV hS hce hcv hcl => ?_) (fun r9 u9 H locs hq hV hS => ?_)
  · have hkb : k_lay σ y0q y1q y2q y3q y4q ≤ 3 := by unfold k_lay; (repeat' split) <;> omega
    rcases (show k_lay σ y0q y1q y2q y3q y4q = 1 ∨ k_lay σ y0q y1q y2q y3q y4q = 2 ∨ k_lay σ y0q y1q y2q y3q y4q = 3 by omega) with h1 | h1 | h1
    · rw [h1] at hcl
      refine vx_catch (E := "java/lang/IndexOutOfBoundsException") hown [] _ _ (htab.trans rfl) (fun z hz => absurd hz List.not_mem_nil) (by decide) (by decide) kl19 (va_Nw.use rfl (hX6 _ (by decide))) hce hcv hcl ?_
      refine W.eq (g2 := F0 m 26 ls [.ref q9]) rfl ?_
      refine lv_astore (lv' := [(7, .ref (q9)), (0, .ref (ad (0))), (1, .int (y0q)), (2, .int (y1q)), (3, .int (y2q)), (4, .int (y3q)), (5, .int (y4q)), (6, .ref (ad (64)))]) hx hb dL_lay_26 hl (by decide) rfl (fun ls hl => ?_)
      refine lv_iconst (v := nI 1) hx hb dL_lay_28 (by decide) ?_
      refine W.widen (k := 1) (n := 6) (by omega) (by omega) ?_
      exact hv_iret (v := nI (1)) (u := (ad, ct)) hx hb hr ⟨by rw [h1], fun h9 => absurd h9 hk0, fun _ => ⟨hG, fo, hout⟩, fun q q1 => ⟨rfl, fun _ => rfl⟩⟩ hV hS dL_lay_29 hlocks
    · rw [h1] at hcl
      refine vx_catch (E := "java/lang/IllegalArgumentException") hown [_] _ _ (htab.trans rfl) (fun z hz => by rcases List.mem_singleton.mp hz with rfl; exact Or.inr ⟨by decide, "java/lang/IndexOutOfBoundsException", kl19, hX7 _ (by decide) _ (by decide) (by decide)⟩) (by decide) (by decide) kl21 (va_Nw.use rfl (hX6 _ (by decide))) hce hcv hcl ?_
      refine W.eq (g2 := F0 m 30 ls [.ref q9]) rfl ?_
      refine lv_astore (lv' := [(7, .ref (q9)), (0, .ref (ad (0))), (1, .int (y0q)), (2, .int (y1q)), (3, .int (y2q)), (4, .int (y3q)), (5, .int (y4q)), (6, .ref (ad (64)))]) hx hb dL_lay_30 hl (by decide) rfl (fun ls hl => ?_)
      refine lv_iconst (v := nI 2) hx hb dL_lay_32 (by decide) ?_
      refine W.widen (k := 1) (n := 6) (by omega) (by omega) ?_
      exact hv_iret (v := nI (2)) (u := (ad, ct)) hx hb hr ⟨by rw [h1], fun h9 => absurd h9 hk0, fun _ => ⟨hG, fo, hout⟩, fun q q1 => ⟨rfl, fun _ => rfl⟩⟩ hV hS dL_lay_33 hlocks
    · rw [h1] at hcl
      refine vx_catch (E := "java/lang/IllegalStateException") hown [_, _] _ _ (htab.trans rfl) (fun z hz => (List.mem_cons.mp hz).elim (fun h9 => by subst h9; exact Or.inr ⟨by decide, "java/lang/IndexOutOfBoundsException", kl19, hX7 _ (by decide) _ (by decide) (by decide)⟩) (fun h9 => by rcases List.mem_singleton.mp h9 with rfl; exact Or.inr ⟨by decide, "java/lang/IllegalArgumentException", kl21, hX7 _ (by decide) _ (by decide) (by decide)⟩)) (by decide) (by decide) kl13 (va_Nw.use rfl (hX6 _ (by decide))) hce hcv hcl ?_
      refine W.eq (g2 := F0 m 34 ls [.ref q9]) rfl ?_
      refine lv_astore (lv' := [(7, .ref (q9)), (0, .ref (ad (0))), (1, .int (y0q)), (2, .int (y1q)), (3, .int (y2q)), (4, .int (y3q)), (5, .int (y4q)), (6, .ref (ad (64)))]) hx hb dL_lay_34 hl (by decide) rfl (fun ls hl => ?_)
      refine lv_iconst (v := nI 3) hx hb dL_lay_36 (by decide) ?_
      refine W.widen (k := 1) (n := 6) (by omega) (by omega) ?_
      exact hv_iret (v := nI (3)) (u := (ad, ct)) hx hb hr ⟨by rw [h1], fun h9 => absurd h9 hk0, fun _ => ⟨hG, fo, hout⟩, fun q q1 => ⟨rfl, fun _ => rfl⟩⟩ hV hS dL_lay_37 hlocks
  · obtain ⟨ad, ct⟩ := u9
    dsimp only at hq
    obtain ⟨hkz, hr9, hG1, hF1⟩ := hq
    have hV : hv D N0 ad ct H := hV
    have hna := fun (q : Nat) (q1 : q % 16 = 0) => (hF1 q q1).1
    have hF2 : ∀ q : Nat, q % 16 = 0 → ad q = ad0 q ∧ (64 ≤ q → ct q = ct0 q) := fun q q1 => ⟨(hF1 q q1).1.trans (by rw [had0]), fun q2 => ((hF1 q q1).2 q2).trans (by rw [hct0])⟩
    refine hv_stk (st' := [.int r9, .int (nI (0)), .ref (ad (64))]) (by rw [(hF2 64 (by omega)).1, had0]) ?_
    have hout := ((hF1 64 (by omega)).2 (by omega)).trans hout
    have hl : lv_has ls 8 [] := lv_sub hl [] rfl
    refine hI_if_eq (tgt := 21) hx hb dL_lay_14 (by decide) (fun c14 => ?_) (fun c14 => ?_)
    · refine lv_lconst (v := 0) hx hb dL_lay_21 (by decide) ?_
      refine hv_last hx hb hKs hV hS hout (by omega) (by decide) dL_lay_22 (fun ct H locs he hne hV hS => ?_)
      have hout := he
      refine lv_goto (tgt := 38) hx hb dL_lay_23 (by decide) ?_
      refine lv_iconst (v := nI 0) hx hb dL_lay_38 (by decide) ?_
      refine W.widen (k := 1) (n := 6) (by omega) (by omega) ?_
      exact hv_iret (v := nI (0)) (u := (ad, ct)) hx hb hr ⟨by rw [hkz], fun _ => ⟨hG1.out hne, _, hout, (by rw [va_up_self, ← hr9]; subst hr9; exact hbv_0 c14)⟩, fun h9 => absurd hkz h9, fun q q1 => ⟨(hF2 q q1).1.trans (by rw [had0]), fun q2 => ((hne q (by omega)).trans ((hF2 q q1).2 (by omega))).trans (by rw [hct0])⟩⟩ hV hS dL_lay_39 hlocks
    · refine lv_lconst (v := 1) hx hb dL_lay_17 (by decide) ?_
      refine lv_goto (tgt := 22) hx hb dL_lay_18 (by decide) ?_
      refine hv_last hx hb hKs hV hS hout (by omega) (by decide) dL_lay_22 (fun ct H locs he hne hV hS => ?_)
      have hout := he
      refine lv_goto (tgt := 38) hx hb dL_lay_23 (by decide) ?_
      refine lv_iconst (v := nI 0) hx hb dL_lay_38 (by decide) ?_
      refine W.widen (k := 1) (n := 6) (by omega) (by omega) ?_
      exact hv_iret (v := nI (0)) (u := (ad, ct)) hx hb hr ⟨by rw [hkz], fun _ => ⟨hG1.out hne, _, hout, (by rw [va_up_self, ← hr9]; subst hr9; exact hbv_1 c14)⟩, fun h9 => absurd hkz h9, fun q q1 => ⟨(hF2 q q1).1.trans (by rw [had0]), fun q2 => ((hne q (by omega)).trans ((hF2 q q1).2 (by omega))).trans (by rw [hct0])⟩⟩ hV hS dL_lay_39 hlocks

set_option maxHeartbeats 4000000 in
set_option maxRecDepth 100000 in
theorem c_L_twist (l : Launch) (D : hG) (N0 : Nat) (ad : Nat → Nat) (ct : hC) (hfl : l.stackTraces = false) {σ : gS} (hG : gX D σ ad ct) (hO : okS σ) (y0q y1q : Int32) {fo : Nat → Int64} (hout : ct 64 = some (eL D 1 fo)) : Met l yL_twist wsL_twist ({ frames := 7, cells := 1, slots := 6, locals := 106 }) (hPc D N0 ad ct [.ref (ad (0)), .int (y0q), .int (y1q), .ref (ad (64))]) (va_Qi (fun (z : Int32) (u : hU) => wPost D (k_twist σ y0q y1q) (hbv (decide (4 ≤ cHt σ y0q.toInt.toNat))) σ (sWk σ y0q.toInt.toNat 4 (q_twist σ y0q.toInt.toNat y1q)) ad ct z u) (hB D N0) (hA N0)) 1 6 (hA N0) := by
  refine va_MetW (cc := cL_twist) (maxL := 5) (ret := (some .int)) (hh := [(0, 17, 20, 19), (0, 17, 24, 21), (0, 17, 28, 13)]) (by decide) rfl ?_
  intro p e s m args below meth c s₁ B hml hv0
  obtain ⟨hargs, hKs, hV⟩ := hv0
  have hx := B.exec
  have hb := B.bytes
  have hr := B.returns
  have hts := atoms_spec (ws := wsL_twist) B.pre
  have hown : s.vm.findClass RL = some m.cls := findClass_of_methodNamed B.named
  have hlocks := B.notSynchronized
  have hS : va_S (hA N0) s.heap s.heap [] := va_S.rf
  have kl19 := hts (.classLink RL 19 "java/lang/IndexOutOfBoundsException") (by decide +kernel)
  have kl21 := hts (.classLink RL 21 "java/lang/IllegalArgumentException") (by decide +kernel)
  have kl13 := hts (.classLink RL 13 "java/lang/IllegalStateException") (by decide +kernel)
  have hl := lv_entry ([.ref (ad (0)), .int (y0q), .int (y1q), .ref (ad (64))]) (n := 5) (Nat.le_of_ble_eq_true rfl)
  have hE : entryFrame m args 5 = entryFrame m ([.ref (ad (0)), .int (y0q), .int (y1q), .ref (ad (64))] : List Value).toArray 5 := by rw [hargs]
  rw [hE, lg_entry_eq]
  generalize (lg_sl ([.ref (ad (0)), .int (y0q), .int (y1q), .ref (ad (64))]) ++ List.replicate (5 - (lg_sl ([.ref (ad (0)), .int (y0q), .int (y1q), .ref (ad (64))])).length) Slot.unset).toArray = ls at hl ⊢
  have hl : lv_has ls 5 [(0, .ref (ad (0))), (1, .int (y0q)), (2, .int (y1q)), (3, .ref (ad (64)))] := hl
  have htab := vx_table (x := yL_twist) B (hts _ List.mem_cons_self)
  obtain ⟨-, -, -, -, -, hX6, hX7, hX8⟩ := id hKs
  obtain ⟨ad0, had0⟩ : ∃ z, z = ad := ⟨ad, rfl⟩
  obtain ⟨ct0, hct0⟩ : ∃ z, z = ct := ⟨ct, rfl⟩
  refine lv_aload_n hx hb dL_twist_0 rfl (lv_at hl 3 rfl) ?_
  refine lv_iconst (v := nI 0) hx hb dL_twist_1 (by decide) ?_
  refine lv_aload_n hx hb dL_twist_2 rfl (lv_at hl 0 rfl) ?_
  refine lv_iload_n hx hb dL_twist_3 rfl (lv_at hl 1 rfl) ?_
  refine lv_iload_n hx hb dL_twist_4 rfl (lv_at hl 2 rfl) ?_
  refine hv_callxi (vx_runV (As := [.int (y0q), .int (y1q)]) (rest := [.int (nI (0)), .ref (ad (64))]) ⟨hx, hb, hml, hown, hts⟩ (c_X3_twist l hfl D N0 ad ct hG hO (y0q) (y1q)) (cwV 2 hts gL_twist_X3_twist rfl rfl rfl (by decide +kernel) ⟨Nat.le_of_ble_eq_true rfl, Nat.le_of_ble_eq_true rfl⟩) (hv_preV (r := (RX3, TX3, 8)) hKs hV hS hG.1 rfl) rfl rfl hl.1 rfl (lv_room (Nat.le_of_ble_eq_true rfl)) dL_twist_5 ⟨(Nat.le_of_ble_eq_true rfl), (Nat.le_of_ble_eq_true rfl)⟩) hS (fun hk0 ce q9 H locs hV hS hce hcv hcl => ?_) (fun r9 u9 H locs hq hV hS => ?_)
  · have hkb : k_twist σ y0q y1q ≤ 3 := by unfold k_twist; (repeat' split) <;> omega
    rcases (show k_twist σ y0q y1q = 1 ∨ k_twist σ y0q y1q = 2 ∨ k_twist σ y0q y1q = 3 by omega) with h1 | h1 | h1
    · rw [h1] at hcl
      refine vx_catch (E := "java/lang/IndexOutOfBoundsException") hown [] _ _ (htab.trans rfl) (fun z hz => absurd hz List.not_mem_nil) (by decide) (by decide) kl19 (va_Nw.use rfl (hX6 _ (by decide))) hce hcv hcl ?_
      refine W.eq (g2 := F0 m 20 ls [.ref q9]) rfl ?_
      refine lv_astore (lv' := [(4, .ref (q9)), (0, .ref (ad (0))), (1, .int (y0q)), (2, .int (y1q)), (3, .ref (ad (64)))]) hx hb dL_twist_20 hl (by decide) rfl (fun ls hl => ?_)
      refine lv_iconst (v := nI 1) hx hb dL_twist_22 (by decide) ?_
      refine W.widen (k := 1) (n := 6) (by omega) (by omega) ?_
      exact hv_iret (v := nI (1)) (u := (ad, ct)) hx hb hr ⟨by rw [h1], fun h9 => absurd h9 hk0, fun _ => ⟨hG, fo, hout⟩, fun q q1 => ⟨rfl, fun _ => rfl⟩⟩ hV hS dL_twist_23 hlocks
    · rw [h1] at hcl
      refine vx_catch (E := "java/lang/IllegalArgumentException") hown [_] _ _ (htab.trans rfl) (fun z hz => by rcases List.mem_singleton.mp hz with rfl; exact Or.inr ⟨by decide, "java/lang/IndexOutOfBoundsException", kl19, hX7 _ (by decide) _ (by decide) (by decide)⟩) (by decide) (by decide) kl21 (va_Nw.use rfl (hX6 _ (by decide))) hce hcv hcl ?_
      refine W.eq (g2 := F0 m 24 ls [.ref q9]) rfl ?_
      refine lv_astore (lv' := [(4, .ref (q9)), (0, .ref (ad (0))), (1, .int (y0q)), (2, .int (y1q)), (3, .ref (ad (64)))]) hx hb dL_twist_24 hl (by decide) rfl (fun ls hl => ?_)
      refine lv_iconst (v := nI 2) hx hb dL_twist_26 (by decide) ?_
      refine W.widen (k := 1) (n := 6) (by omega) (by omega) ?_
      exact hv_iret (v := nI (2)) (u := (ad, ct)) hx hb hr ⟨by rw [h1], fun h9 => absurd h9 hk0, fun _ => ⟨hG, fo, hout⟩, fun q q1 => ⟨rfl, fun _ => rfl⟩⟩ hV hS dL_twist_27 hlocks
    · rw [h1] at hcl
      refine vx_catch (E := "java/lang/IllegalStateException") hown [_, _] _ _ (htab.trans rfl) (fun z hz => (List.mem_cons.mp hz).elim (fun h9 => by subst h9; exact Or.inr ⟨by decide, "java/lang/IndexOutOfBoundsException", kl19, hX7 _ (by decide) _ (by decide) (by decide)⟩) (fun h9 => by rcases List.mem_singleton.mp h9 with rfl; exact Or.inr ⟨by decide, "java/lang/IllegalArgumentException", kl21, hX7 _ (by decide) _ (by decide) (by decide)⟩)) (by decide) (by decide) kl13 (va_Nw.use rfl (hX6 _ (by decide))) hce hcv hcl ?_
      refine W.eq (g2 := F0 m 28 ls [.ref q9]) rfl ?_
      refine lv_astore (lv' := [(4, .ref (q9)), (0, .ref (ad (0))), (1, .int (y0q)), (2, .int (y1q)), (3, .ref (ad (64)))]) hx hb dL_twist_28 hl (by decide) rfl (fun ls hl => ?_)
      refine lv_iconst (v := nI 3) hx hb dL_twist_30 (by decide) ?_
      refine W.widen (k := 1) (n := 6) (by omega) (by omega) ?_
      exact hv_iret (v := nI (3)) (u := (ad, ct)) hx hb hr ⟨by rw [h1], fun h9 => absurd h9 hk0, fun _ => ⟨hG, fo, hout⟩, fun q q1 => ⟨rfl, fun _ => rfl⟩⟩ hV hS dL_twist_31 hlocks
  · obtain ⟨ad, ct⟩ := u9
    dsimp only at hq
    obtain ⟨hkz, hr9, hG1, hF1⟩ := hq
    have hV : hv D N0 ad ct H := hV
    have hna := fun (q : Nat) (q1 : q % 16 = 0) => (hF1 q q1).1
    have hF2 : ∀ q : Nat, q % 16 = 0 → ad q = ad0 q ∧ (64 ≤ q → ct q = ct0 q) := fun q q1 => ⟨(hF1 q q1).1.trans (by rw [had0]), fun q2 => ((hF1 q q1).2 q2).trans (by rw [hct0])⟩
    refine hv_stk (st' := [.int r9, .int (nI (0)), .ref (ad (64))]) (by rw [(hF2 64 (by omega)).1, had0]) ?_
    have hout := ((hF1 64 (by omega)).2 (by omega)).trans hout
    have hl : lv_has ls 5 [] := lv_sub hl [] rfl
    refine hI_if_eq (tgt := 15) hx hb dL_twist_8 (by decide) (fun c8 => ?_) (fun c8 => ?_)
    · refine lv_lconst (v := 0) hx hb dL_twist_15 (by decide) ?_
      refine hv_last hx hb hKs hV hS hout (by omega) (by decide) dL_twist_16 (fun ct H locs he hne hV hS => ?_)
      have hout := he
      refine lv_goto (tgt := 32) hx hb dL_twist_17 (by decide) ?_
      refine lv_iconst (v := nI 0) hx hb dL_twist_32 (by decide) ?_
      refine W.widen (k := 1) (n := 6) (by omega) (by omega) ?_
      exact hv_iret (v := nI (0)) (u := (ad, ct)) hx hb hr ⟨by rw [hkz], fun _ => ⟨hG1.out hne, _, hout, (by rw [va_up_self, ← hr9]; subst hr9; exact hbv_0 c8)⟩, fun h9 => absurd hkz h9, fun q q1 => ⟨(hF2 q q1).1.trans (by rw [had0]), fun q2 => ((hne q (by omega)).trans ((hF2 q q1).2 (by omega))).trans (by rw [hct0])⟩⟩ hV hS dL_twist_33 hlocks
    · refine lv_lconst (v := 1) hx hb dL_twist_11 (by decide) ?_
      refine lv_goto (tgt := 16) hx hb dL_twist_12 (by decide) ?_
      refine hv_last hx hb hKs hV hS hout (by omega) (by decide) dL_twist_16 (fun ct H locs he hne hV hS => ?_)
      have hout := he
      refine lv_goto (tgt := 32) hx hb dL_twist_17 (by decide) ?_
      refine lv_iconst (v := nI 0) hx hb dL_twist_32 (by decide) ?_
      refine W.widen (k := 1) (n := 6) (by omega) (by omega) ?_
      exact hv_iret (v := nI (0)) (u := (ad, ct)) hx hb hr ⟨by rw [hkz], fun _ => ⟨hG1.out hne, _, hout, (by rw [va_up_self, ← hr9]; subst hr9; exact hbv_1 c8)⟩, fun h9 => absurd hkz h9, fun q q1 => ⟨(hF2 q q1).1.trans (by rw [had0]), fun q2 => ((hne q (by omega)).trans ((hF2 q q1).2 (by omega))).trans (by rw [hct0])⟩⟩ hV hS dL_twist_33 hlocks

set_option maxHeartbeats 4000000 in
set_option maxRecDepth 100000 in
theorem c_L_pull (l : Launch) (D : hG) (N0 : Nat) (ad : Nat → Nat) (ct : hC) (hfl : l.stackTraces = false) {σ : gS} (hG : gX D σ ad ct) (hO : okS σ) (y0q : Int32) {fo : Nat → Int64} (hout : ct 64 = some (eL D 1 fo)) : Met l yL_pull wsL_pull ({ frames := 7, cells := 1, slots := 6, locals := 105 }) (hPc D N0 ad ct [.ref (ad (0)), .int (y0q), .ref (ad (64))]) (va_Qi (fun (z : Int32) (u : hU) => wPost D (k_pull σ y0q) (hbv (decide (6 ≤ cHt σ y0q.toInt.toNat))) σ (sWk σ y0q.toInt.toNat 6 (q_pull σ y0q.toInt.toNat)) ad ct z u) (hB D N0) (hA N0)) 1 6 (hA N0) := by
  refine va_MetW (cc := cL_pull) (maxL := 4) (ret := (some .int)) (hh := [(0, 16, 19, 19), (0, 16, 22, 13)]) (by decide) rfl ?_
  intro p e s m args below meth c s₁ B hml hv0
  obtain ⟨hargs, hKs, hV⟩ := hv0
  have hx := B.exec
  have hb := B.bytes
  have hr := B.returns
  have hts := atoms_spec (ws := wsL_pull) B.pre
  have hown : s.vm.findClass RL = some m.cls := findClass_of_methodNamed B.named
  have hlocks := B.notSynchronized
  have hS : va_S (hA N0) s.heap s.heap [] := va_S.rf
  have kl19 := hts (.classLink RL 19 "java/lang/IndexOutOfBoundsException") (by decide +kernel)
  have kl13 := hts (.classLink RL 13 "java/lang/IllegalStateException") (by decide +kernel)
  have hl := lv_entry ([.ref (ad (0)), .int (y0q), .ref (ad (64))]) (n := 4) (Nat.le_of_ble_eq_true rfl)
  have hE : entryFrame m args 4 = entryFrame m ([.ref (ad (0)), .int (y0q), .ref (ad (64))] : List Value).toArray 4 := by rw [hargs]
  rw [hE, lg_entry_eq]
  generalize (lg_sl ([.ref (ad (0)), .int (y0q), .ref (ad (64))]) ++ List.replicate (4 - (lg_sl ([.ref (ad (0)), .int (y0q), .ref (ad (64))])).length) Slot.unset).toArray = ls at hl ⊢
  have hl : lv_has ls 4 [(0, .ref (ad (0))), (1, .int (y0q)), (2, .ref (ad (64)))] := hl
  have htab := vx_table (x := yL_pull) B (hts _ List.mem_cons_self)
  obtain ⟨-, -, -, -, -, hX6, hX7, hX8⟩ := id hKs
  obtain ⟨ad0, had0⟩ : ∃ z, z = ad := ⟨ad, rfl⟩
  obtain ⟨ct0, hct0⟩ : ∃ z, z = ct := ⟨ct, rfl⟩
  refine lv_aload_n hx hb dL_pull_0 rfl (lv_at hl 2 rfl) ?_
  refine lv_iconst (v := nI 0) hx hb dL_pull_1 (by decide) ?_
  refine lv_aload_n hx hb dL_pull_2 rfl (lv_at hl 0 rfl) ?_
  refine lv_iload_n hx hb dL_pull_3 rfl (lv_at hl 1 rfl) ?_
  refine hv_callxi (vx_runV (As := [.int (y0q)]) (rest := [.int (nI (0)), .ref (ad (64))]) ⟨hx, hb, hml, hown, hts⟩ (c_X3_pull l hfl D N0 ad ct hG hO (y0q)) (cwV 1 hts gL_pull_X3_pull rfl rfl rfl (by decide +kernel) ⟨Nat.le_of_ble_eq_true rfl, Nat.le_of_ble_eq_true rfl⟩) (hv_preV (r := (RX3, TX3, 8)) hKs hV hS hG.1 rfl) rfl rfl hl.1 rfl (lv_room (Nat.le_of_ble_eq_true rfl)) dL_pull_4 ⟨(Nat.le_of_ble_eq_true rfl), (Nat.le_of_ble_eq_true rfl)⟩) hS (fun hk0 ce q9 H locs hV hS hce hcv hcl => ?_) (fun r9 u9 H locs hq hV hS => ?_)
  · have hkb : k_pull σ y0q ≤ 2 := by unfold k_pull; (repeat' split) <;> omega
    rcases (show k_pull σ y0q = 1 ∨ k_pull σ y0q = 2 by omega) with h1 | h1
    · rw [h1] at hcl
      refine vx_catch (E := "java/lang/IndexOutOfBoundsException") hown [] _ _ (htab.trans rfl) (fun z hz => absurd hz List.not_mem_nil) (by decide) (by decide) kl19 (va_Nw.use rfl (hX6 _ (by decide))) hce hcv hcl ?_
      refine W.eq (g2 := F0 m 19 ls [.ref q9]) rfl ?_
      refine lv_astore_n (lv' := [(3, .ref (q9)), (0, .ref (ad (0))), (1, .int (y0q)), (2, .ref (ad (64)))]) hx hb dL_pull_19 rfl hl (by decide) rfl (fun ls hl => ?_)
      refine lv_iconst (v := nI 1) hx hb dL_pull_20 (by decide) ?_
      refine W.widen (k := 1) (n := 6) (by omega) (by omega) ?_
      exact hv_iret (v := nI (1)) (u := (ad, ct)) hx hb hr ⟨by rw [h1], fun h9 => absurd h9 hk0, fun _ => ⟨hG, fo, hout⟩, fun q q1 => ⟨rfl, fun _ => rfl⟩⟩ hV hS dL_pull_21 hlocks
    · rw [h1] at hcl
      refine vx_catch (E := "java/lang/IllegalStateException") hown [_] _ _ (htab.trans rfl) (fun z hz => by rcases List.mem_singleton.mp hz with rfl; exact Or.inr ⟨by decide, "java/lang/IndexOutOfBoundsException", kl19, hX7 _ (by decide) _ (by decide) (by decide)⟩) (by decide) (by decide) kl13 (va_Nw.use rfl (hX6 _ (by decide))) hce hcv hcl ?_
      refine W.eq (g2 := F0 m 22 ls [.ref q9]) rfl ?_
      refine lv_astore_n (lv' := [(3, .ref (q9)), (0, .ref (ad (0))), (1, .int (y0q)), (2, .ref (ad (64)))]) hx hb dL_pull_22 rfl hl (by decide) rfl (fun ls hl => ?_)
      refine lv_iconst (v := nI 2) hx hb dL_pull_23 (by decide) ?_
      refine W.widen (k := 1) (n := 6) (by omega) (by omega) ?_
      exact hv_iret (v := nI (2)) (u := (ad, ct)) hx hb hr ⟨by rw [h1], fun h9 => absurd h9 hk0, fun _ => ⟨hG, fo, hout⟩, fun q q1 => ⟨rfl, fun _ => rfl⟩⟩ hV hS dL_pull_24 hlocks
  · obtain ⟨ad, ct⟩ := u9
    dsimp only at hq
    obtain ⟨hkz, hr9, hG1, hF1⟩ := hq
    have hV : hv D N0 ad ct H := hV
    have hna := fun (q : Nat) (q1 : q % 16 = 0) => (hF1 q q1).1
    have hF2 : ∀ q : Nat, q % 16 = 0 → ad q = ad0 q ∧ (64 ≤ q → ct q = ct0 q) := fun q q1 => ⟨(hF1 q q1).1.trans (by rw [had0]), fun q2 => ((hF1 q q1).2 q2).trans (by rw [hct0])⟩
    refine hv_stk (st' := [.int r9, .int (nI (0)), .ref (ad (64))]) (by rw [(hF2 64 (by omega)).1, had0]) ?_
    have hout := ((hF1 64 (by omega)).2 (by omega)).trans hout
    have hl : lv_has ls 4 [] := lv_sub hl [] rfl
    refine hI_if_eq (tgt := 14) hx hb dL_pull_7 (by decide) (fun c7 => ?_) (fun c7 => ?_)
    · refine lv_lconst (v := 0) hx hb dL_pull_14 (by decide) ?_
      refine hv_last hx hb hKs hV hS hout (by omega) (by decide) dL_pull_15 (fun ct H locs he hne hV hS => ?_)
      have hout := he
      refine lv_goto (tgt := 25) hx hb dL_pull_16 (by decide) ?_
      refine lv_iconst (v := nI 0) hx hb dL_pull_25 (by decide) ?_
      refine W.widen (k := 1) (n := 6) (by omega) (by omega) ?_
      exact hv_iret (v := nI (0)) (u := (ad, ct)) hx hb hr ⟨by rw [hkz], fun _ => ⟨hG1.out hne, _, hout, (by rw [va_up_self, ← hr9]; subst hr9; exact hbv_0 c7)⟩, fun h9 => absurd hkz h9, fun q q1 => ⟨(hF2 q q1).1.trans (by rw [had0]), fun q2 => ((hne q (by omega)).trans ((hF2 q q1).2 (by omega))).trans (by rw [hct0])⟩⟩ hV hS dL_pull_26 hlocks
    · refine lv_lconst (v := 1) hx hb dL_pull_10 (by decide) ?_
      refine lv_goto (tgt := 15) hx hb dL_pull_11 (by decide) ?_
      refine hv_last hx hb hKs hV hS hout (by omega) (by decide) dL_pull_15 (fun ct H locs he hne hV hS => ?_)
      have hout := he
      refine lv_goto (tgt := 25) hx hb dL_pull_16 (by decide) ?_
      refine lv_iconst (v := nI 0) hx hb dL_pull_25 (by decide) ?_
      refine W.widen (k := 1) (n := 6) (by omega) (by omega) ?_
      exact hv_iret (v := nI (0)) (u := (ad, ct)) hx hb hr ⟨by rw [hkz], fun _ => ⟨hG1.out hne, _, hout, (by rw [va_up_self, ← hr9]; subst hr9; exact hbv_1 c7)⟩, fun h9 => absurd hkz h9, fun q q1 => ⟨(hF2 q q1).1.trans (by rw [had0]), fun q2 => ((hne q (by omega)).trans ((hF2 q q1).2 (by omega))).trans (by rw [hct0])⟩⟩ hV hS dL_pull_26 hlocks

set_option maxHeartbeats 4000000 in
set_option maxRecDepth 100000 in
theorem c_L_furnace (l : Launch) (D : hG) (N0 : Nat) (ad : Nat → Nat) (ct : hC) (hfl : l.stackTraces = false) {σ : gS} (hG : gX D σ ad ct) (hO : okS σ) (y0q : Int32) {fo : Nat → Int64} (hout : ct 64 = some (eL D 1 fo)) : Met l yL_furnace wsL_furnace ({ frames := 7, cells := 1, slots := 6, locals := 104 }) (hPc D N0 ad ct [.ref (ad (0)), .int (y0q), .ref (ad (64))]) (va_Qi (fun (z : Int32) (u : hU) => wPost D (k_furnace σ y0q) (gFu σ) σ (uObj σ (gNB σ) y0q (gMi σ)) ad ct z u) (hB D N0) (hA N0)) 1 6 (hA N0) := by
  refine va_MetW (cc := cL_furnace) (maxL := 4) (ret := (some .int)) (hh := [(0, 9, 12, 19)]) (by decide) rfl ?_
  intro p e s m args below meth c s₁ B hml hv0
  obtain ⟨hargs, hKs, hV⟩ := hv0
  have hx := B.exec
  have hb := B.bytes
  have hr := B.returns
  have hts := atoms_spec (ws := wsL_furnace) B.pre
  have hown : s.vm.findClass RL = some m.cls := findClass_of_methodNamed B.named
  have hlocks := B.notSynchronized
  have hS : va_S (hA N0) s.heap s.heap [] := va_S.rf
  have kl19 := hts (.classLink RL 19 "java/lang/IndexOutOfBoundsException") (by decide +kernel)
  have hl := lv_entry ([.ref (ad (0)), .int (y0q), .ref (ad (64))]) (n := 4) (Nat.le_of_ble_eq_true rfl)
  have hE : entryFrame m args 4 = entryFrame m ([.ref (ad (0)), .int (y0q), .ref (ad (64))] : List Value).toArray 4 := by rw [hargs]
  rw [hE, lg_entry_eq]
  generalize (lg_sl ([.ref (ad (0)), .int (y0q), .ref (ad (64))]) ++ List.replicate (4 - (lg_sl ([.ref (ad (0)), .int (y0q), .ref (ad (64))])).length) Slot.unset).toArray = ls at hl ⊢
  have hl : lv_has ls 4 [(0, .ref (ad (0))), (1, .int (y0q)), (2, .ref (ad (64)))] := hl
  have htab := vx_table (x := yL_furnace) B (hts _ List.mem_cons_self)
  obtain ⟨-, -, -, -, -, hX6, hX7, hX8⟩ := id hKs
  obtain ⟨ad0, had0⟩ : ∃ z, z = ad := ⟨ad, rfl⟩
  obtain ⟨ct0, hct0⟩ : ∃ z, z = ct := ⟨ct, rfl⟩
  refine lv_aload_n hx hb dL_furnace_0 rfl (lv_at hl 2 rfl) ?_
  refine lv_iconst (v := nI 0) hx hb dL_furnace_1 (by decide) ?_
  refine lv_aload_n hx hb dL_furnace_2 rfl (lv_at hl 0 rfl) ?_
  refine lv_iload_n hx hb dL_furnace_3 rfl (lv_at hl 1 rfl) ?_
  refine hv_callxi (vx_runV (As := [.int (y0q)]) (rest := [.int (nI (0)), .ref (ad (64))]) ⟨hx, hb, hml, hown, hts⟩ (c_X3_furnace l hfl D N0 ad ct hG hO (y0q)) (cwV 1 hts gL_furnace_X3_furnace rfl rfl rfl (by decide +kernel) ⟨Nat.le_of_ble_eq_true rfl, Nat.le_of_ble_eq_true rfl⟩) (hv_preV (r := (RX3, TX3, 8)) hKs hV hS hG.1 rfl) rfl rfl hl.1 rfl (lv_room (Nat.le_of_ble_eq_true rfl)) dL_furnace_4 ⟨(Nat.le_of_ble_eq_true rfl), (Nat.le_of_ble_eq_true rfl)⟩) hS (fun hk0 ce q9 H locs hV hS hce hcv hcl => ?_) (fun r9 u9 H locs hq hV hS => ?_)
  · have hkb : k_furnace σ y0q ≤ 1 := by unfold k_furnace; (repeat' split) <;> omega
    rcases (show k_furnace σ y0q = 1 by omega) with h1
    rw [h1] at hcl
    refine vx_catch (E := "java/lang/IndexOutOfBoundsException") hown [] _ _ (htab.trans rfl) (fun z hz => absurd hz List.not_mem_nil) (by decide) (by decide) kl19 (va_Nw.use rfl (hX6 _ (by decide))) hce hcv hcl ?_
    refine W.eq (g2 := F0 m 12 ls [.ref q9]) rfl ?_
    refine lv_astore_n (lv' := [(3, .ref (q9)), (0, .ref (ad (0))), (1, .int (y0q)), (2, .ref (ad (64)))]) hx hb dL_furnace_12 rfl hl (by decide) rfl (fun ls hl => ?_)
    refine lv_iconst (v := nI 1) hx hb dL_furnace_13 (by decide) ?_
    refine W.widen (k := 1) (n := 6) (by omega) (by omega) ?_
    exact hv_iret (v := nI (1)) (u := (ad, ct)) hx hb hr ⟨by rw [h1], fun h9 => absurd h9 hk0, fun _ => ⟨hG, fo, hout⟩, fun q q1 => ⟨rfl, fun _ => rfl⟩⟩ hV hS dL_furnace_14 hlocks
  · obtain ⟨ad, ct⟩ := u9
    dsimp only at hq
    obtain ⟨hkz, hr9, hG1, hF1⟩ := hq
    have hV : hv D N0 ad ct H := hV
    have hna := fun (q : Nat) (q1 : q % 16 = 0) => (hF1 q q1).1
    have hF2 : ∀ q : Nat, q % 16 = 0 → ad q = ad0 q ∧ (64 ≤ q → ct q = ct0 q) := fun q q1 => ⟨(hF1 q q1).1.trans (by rw [had0]), fun q2 => ((hF1 q q1).2 q2).trans (by rw [hct0])⟩
    refine hv_stk (st' := [.int r9, .int (nI (0)), .ref (ad (64))]) (by rw [(hF2 64 (by omega)).1, had0]) ?_
    have hout := ((hF1 64 (by omega)).2 (by omega)).trans hout
    have hl : lv_has ls 4 [] := lv_sub hl [] rfl
    refine lv_i2l hx hb dL_furnace_7 rfl ?_
    refine hv_last hx hb hKs hV hS hout (by omega) (by decide) dL_furnace_8 (fun ct H locs he hne hV hS => ?_)
    have hout := he
    refine lv_goto (tgt := 15) hx hb dL_furnace_9 (by decide) ?_
    refine lv_iconst (v := nI 0) hx hb dL_furnace_15 (by decide) ?_
    refine W.widen (k := 1) (n := 6) (by omega) (by omega) ?_
    exact hv_iret (v := nI (0)) (u := (ad, ct)) hx hb hr ⟨by rw [hkz], fun _ => ⟨hG1.out hne, _, hout, (by rw [va_up_self, hr9])⟩, fun h9 => absurd hkz h9, fun q q1 => ⟨(hF2 q q1).1.trans (by rw [had0]), fun q2 => ((hne q (by omega)).trans ((hF2 q q1).2 (by omega))).trans (by rw [hct0])⟩⟩ hV hS dL_furnace_16 hlocks

set_option maxHeartbeats 4000000 in
set_option maxRecDepth 100000 in
theorem c_L_rest (l : Launch) (D : hG) (N0 : Nat) (ad : Nat → Nat) (ct : hC) (hfl : l.stackTraces = false) {σ : gS} (hG : gX D σ ad ct) (hO : okS σ) (y0q : Int32) {fo : Nat → Int64} (hout : ct 64 = some (eL D 1 fo)) : Met l yL_rest wsL_rest ({ frames := 7, cells := 1, slots := 6, locals := 104 }) (hPc D N0 ad ct [.ref (ad (0)), .int (y0q), .ref (ad (64))]) (va_Qi (fun (z : Int32) (u : hU) => wPost D (k_rest y0q) (nI (nsm (cHt (itP σ y0q.toInt.toNat)) (gNC σ))) σ (itP σ y0q.toInt.toNat) ad ct z u) (hB D N0) (hA N0)) 1 6 (hA N0) := by
  refine va_MetW (cc := cL_rest) (maxL := 4) (ret := (some .int)) (hh := [(0, 9, 12, 21)]) (by decide) rfl ?_
  intro p e s m args below meth c s₁ B hml hv0
  obtain ⟨hargs, hKs, hV⟩ := hv0
  have hx := B.exec
  have hb := B.bytes
  have hr := B.returns
  have hts := atoms_spec (ws := wsL_rest) B.pre
  have hown : s.vm.findClass RL = some m.cls := findClass_of_methodNamed B.named
  have hlocks := B.notSynchronized
  have hS : va_S (hA N0) s.heap s.heap [] := va_S.rf
  have kl21 := hts (.classLink RL 21 "java/lang/IllegalArgumentException") (by decide +kernel)
  have hl := lv_entry ([.ref (ad (0)), .int (y0q), .ref (ad (64))]) (n := 4) (Nat.le_of_ble_eq_true rfl)
  have hE : entryFrame m args 4 = entryFrame m ([.ref (ad (0)), .int (y0q), .ref (ad (64))] : List Value).toArray 4 := by rw [hargs]
  rw [hE, lg_entry_eq]
  generalize (lg_sl ([.ref (ad (0)), .int (y0q), .ref (ad (64))]) ++ List.replicate (4 - (lg_sl ([.ref (ad (0)), .int (y0q), .ref (ad (64))])).length) Slot.unset).toArray = ls at hl ⊢
  have hl : lv_has ls 4 [(0, .ref (ad (0))), (1, .int (y0q)), (2, .ref (ad (64)))] := hl
  have htab := vx_table (x := yL_rest) B (hts _ List.mem_cons_self)
  obtain ⟨-, -, -, -, -, hX6, hX7, hX8⟩ := id hKs
  obtain ⟨ad0, had0⟩ : ∃ z, z = ad := ⟨ad, rfl⟩
  obtain ⟨ct0, hct0⟩ : ∃ z, z = ct := ⟨ct, rfl⟩
  refine lv_aload_n hx hb dL_rest_0 rfl (lv_at hl 2 rfl) ?_
  refine lv_iconst (v := nI 0) hx hb dL_rest_1 (by decide) ?_
  refine lv_aload_n hx hb dL_rest_2 rfl (lv_at hl 0 rfl) ?_
  refine lv_iload_n hx hb dL_rest_3 rfl (lv_at hl 1 rfl) ?_
  refine hv_callxi (vx_runV (As := [.int (y0q)]) (rest := [.int (nI (0)), .ref (ad (64))]) ⟨hx, hb, hml, hown, hts⟩ (c_X3_rest l hfl D N0 ad ct hG hO (y0q)) (cwV 1 hts gL_rest_X3_rest rfl rfl rfl (by decide +kernel) ⟨Nat.le_of_ble_eq_true rfl, Nat.le_of_ble_eq_true rfl⟩) (hv_preV (r := (RX3, TX3, 8)) hKs hV hS hG.1 rfl) rfl rfl hl.1 rfl (lv_room (Nat.le_of_ble_eq_true rfl)) dL_rest_4 ⟨(Nat.le_of_ble_eq_true rfl), (Nat.le_of_ble_eq_true rfl)⟩) hS (fun hk0 ce q9 H locs hV hS hce hcv hcl => ?_) (fun r9 u9 H locs hq hV hS => ?_)
  · have hkb : k_rest y0q ≤ 1 := by unfold k_rest; (repeat' split) <;> omega
    rcases (show k_rest y0q = 1 by omega) with h1
    rw [h1] at hcl
    refine vx_catch (E := "java/lang/IllegalArgumentException") hown [] _ _ (htab.trans rfl) (fun z hz => absurd hz List.not_mem_nil) (by decide) (by decide) kl21 (va_Nw.use rfl (hX6 _ (by decide))) hce hcv hcl ?_
    refine W.eq (g2 := F0 m 12 ls [.ref q9]) rfl ?_
    refine lv_astore_n (lv' := [(3, .ref (q9)), (0, .ref (ad (0))), (1, .int (y0q)), (2, .ref (ad (64)))]) hx hb dL_rest_12 rfl hl (by decide) rfl (fun ls hl => ?_)
    refine lv_iconst (v := nI 1) hx hb dL_rest_13 (by decide) ?_
    refine W.widen (k := 1) (n := 6) (by omega) (by omega) ?_
    exact hv_iret (v := nI (1)) (u := (ad, ct)) hx hb hr ⟨by rw [h1], fun h9 => absurd h9 hk0, fun _ => ⟨hG, fo, hout⟩, fun q q1 => ⟨rfl, fun _ => rfl⟩⟩ hV hS dL_rest_14 hlocks
  · obtain ⟨ad, ct⟩ := u9
    dsimp only at hq
    obtain ⟨hkz, hr9, hG1, hF1⟩ := hq
    have hV : hv D N0 ad ct H := hV
    have hna := fun (q : Nat) (q1 : q % 16 = 0) => (hF1 q q1).1
    have hF2 : ∀ q : Nat, q % 16 = 0 → ad q = ad0 q ∧ (64 ≤ q → ct q = ct0 q) := fun q q1 => ⟨(hF1 q q1).1.trans (by rw [had0]), fun q2 => ((hF1 q q1).2 q2).trans (by rw [hct0])⟩
    refine hv_stk (st' := [.int r9, .int (nI (0)), .ref (ad (64))]) (by rw [(hF2 64 (by omega)).1, had0]) ?_
    have hout := ((hF1 64 (by omega)).2 (by omega)).trans hout
    have hl : lv_has ls 4 [] := lv_sub hl [] rfl
    refine lv_i2l hx hb dL_rest_7 rfl ?_
    refine hv_last hx hb hKs hV hS hout (by omega) (by decide) dL_rest_8 (fun ct H locs he hne hV hS => ?_)
    have hout := he
    refine lv_goto (tgt := 15) hx hb dL_rest_9 (by decide) ?_
    refine lv_iconst (v := nI 0) hx hb dL_rest_15 (by decide) ?_
    refine W.widen (k := 1) (n := 6) (by omega) (by omega) ?_
    exact hv_iret (v := nI (0)) (u := (ad, ct)) hx hb hr ⟨by rw [hkz], fun _ => ⟨hG1.out hne, _, hout, (by rw [va_up_self, hr9])⟩, fun h9 => absurd hkz h9, fun q q1 => ⟨(hF2 q q1).1.trans (by rw [had0]), fun q2 => ((hne q (by omega)).trans ((hF2 q q1).2 (by omega))).trans (by rw [hct0])⟩⟩ hV hS dL_rest_16 hlocks

set_option maxHeartbeats 4000000 in
set_option maxRecDepth 100000 in
theorem c_L_cut (l : Launch) (D : hG) (N0 : Nat) (ad : Nat → Nat) (ct : hC) (hfl : l.stackTraces = false) {σ : gS} (hG : gX D σ ad ct) (hO : okS σ) (y0q : Int32) {fo : Nat → Int64} (hout : ct 64 = some (eL D 1 fo)) : Met l yL_cut wsL_cut ({ frames := 7, cells := 3, slots := 30, locals := 159 }) (hPc D N0 ad ct [.ref (ad (0)), .int (y0q), .ref (ad (64))]) (va_Qi (fun (z : Int32) (u : hU) => wPost D (k_cut σ y0q) (nI (gNS σ)) σ (s_cut σ y0q.toInt.toNat) ad ct z u) (hB D N0) (hA N0)) 3 30 (hA N0) := by
  refine va_MetW (cc := cL_cut) (maxL := 4) (ret := (some .int)) (hh := [(0, 9, 12, 19), (0, 9, 15, 13)]) (by decide) rfl ?_
  intro p e s m args below meth c s₁ B hml hv0
  obtain ⟨hargs, hKs, hV⟩ := hv0
  have hx := B.exec
  have hb := B.bytes
  have hr := B.returns
  have hts := atoms_spec (ws := wsL_cut) B.pre
  have hown : s.vm.findClass RL = some m.cls := findClass_of_methodNamed B.named
  have hlocks := B.notSynchronized
  have hS : va_S (hA N0) s.heap s.heap [] := va_S.rf
  have kl19 := hts (.classLink RL 19 "java/lang/IndexOutOfBoundsException") (by decide +kernel)
  have kl13 := hts (.classLink RL 13 "java/lang/IllegalStateException") (by decide +kernel)
  have hl := lv_entry ([.ref (ad (0)), .int (y0q), .ref (ad (64))]) (n := 4) (Nat.le_of_ble_eq_true rfl)
  have hE : entryFrame m args 4 = entryFrame m ([.ref (ad (0)), .int (y0q), .ref (ad (64))] : List Value).toArray 4 := by rw [hargs]
  rw [hE, lg_entry_eq]
  generalize (lg_sl ([.ref (ad (0)), .int (y0q), .ref (ad (64))]) ++ List.replicate (4 - (lg_sl ([.ref (ad (0)), .int (y0q), .ref (ad (64))])).length) Slot.unset).toArray = ls at hl ⊢
  have hl : lv_has ls 4 [(0, .ref (ad (0))), (1, .int (y0q)), (2, .ref (ad (64)))] := hl
  have htab := vx_table (x := yL_cut) B (hts _ List.mem_cons_self)
  obtain ⟨-, -, -, -, -, hX6, hX7, hX8⟩ := id hKs
  obtain ⟨ad0, had0⟩ : ∃ z, z = ad := ⟨ad, rfl⟩
  obtain ⟨ct0, hct0⟩ : ∃ z, z = ct := ⟨ct, rfl⟩
  refine lv_aload_n hx hb dL_cut_0 rfl (lv_at hl 2 rfl) ?_
  refine lv_iconst (v := nI 0) hx hb dL_cut_1 (by decide) ?_
  refine lv_aload_n hx hb dL_cut_2 rfl (lv_at hl 0 rfl) ?_
  refine lv_iload_n hx hb dL_cut_3 rfl (lv_at hl 1 rfl) ?_
  refine hv_callxi (vx_runV (As := [.int (y0q)]) (rest := [.int (nI (0)), .ref (ad (64))]) ⟨hx, hb, hml, hown, hts⟩ (c_X3_cut l hfl D N0 ad ct hG hO (y0q)) (cwV 1 hts gL_cut_X3_cut rfl rfl rfl (by decide +kernel) ⟨Nat.le_of_ble_eq_true rfl, Nat.le_of_ble_eq_true rfl⟩) (hv_preV (r := (RX3, TX3, 8)) hKs hV hS hG.1 rfl) rfl rfl hl.1 rfl (lv_room (Nat.le_of_ble_eq_true rfl)) dL_cut_4 ⟨(Nat.le_of_ble_eq_true rfl), (Nat.le_of_ble_eq_true rfl)⟩) hS (fun hk0 ce q9 H locs hV hS hce hcv hcl => ?_) (fun r9 u9 H locs hq hV hS => ?_)
  · have hkb : k_cut σ y0q ≤ 2 := by unfold k_cut; (repeat' split) <;> omega
    rcases (show k_cut σ y0q = 1 ∨ k_cut σ y0q = 2 by omega) with h1 | h1
    · rw [h1] at hcl
      refine vx_catch (E := "java/lang/IndexOutOfBoundsException") hown [] _ _ (htab.trans rfl) (fun z hz => absurd hz List.not_mem_nil) (by decide) (by decide) kl19 (va_Nw.use rfl (hX6 _ (by decide))) hce hcv hcl ?_
      refine W.eq (g2 := F0 m 12 ls [.ref q9]) rfl ?_
      refine lv_astore_n (lv' := [(3, .ref (q9)), (0, .ref (ad (0))), (1, .int (y0q)), (2, .ref (ad (64)))]) hx hb dL_cut_12 rfl hl (by decide) rfl (fun ls hl => ?_)
      refine lv_iconst (v := nI 1) hx hb dL_cut_13 (by decide) ?_
      refine W.widen (k := 3) (n := 30) (by omega) (by omega) ?_
      exact hv_iret (v := nI (1)) (u := (ad, ct)) hx hb hr ⟨by rw [h1], fun h9 => absurd h9 hk0, fun _ => ⟨hG, fo, hout⟩, fun q q1 => ⟨rfl, fun _ => rfl⟩⟩ hV hS dL_cut_14 hlocks
    · rw [h1] at hcl
      refine vx_catch (E := "java/lang/IllegalStateException") hown [_] _ _ (htab.trans rfl) (fun z hz => by rcases List.mem_singleton.mp hz with rfl; exact Or.inr ⟨by decide, "java/lang/IndexOutOfBoundsException", kl19, hX7 _ (by decide) _ (by decide) (by decide)⟩) (by decide) (by decide) kl13 (va_Nw.use rfl (hX6 _ (by decide))) hce hcv hcl ?_
      refine W.eq (g2 := F0 m 15 ls [.ref q9]) rfl ?_
      refine lv_astore_n (lv' := [(3, .ref (q9)), (0, .ref (ad (0))), (1, .int (y0q)), (2, .ref (ad (64)))]) hx hb dL_cut_15 rfl hl (by decide) rfl (fun ls hl => ?_)
      refine lv_iconst (v := nI 2) hx hb dL_cut_16 (by decide) ?_
      refine W.widen (k := 3) (n := 30) (by omega) (by omega) ?_
      exact hv_iret (v := nI (2)) (u := (ad, ct)) hx hb hr ⟨by rw [h1], fun h9 => absurd h9 hk0, fun _ => ⟨hG, fo, hout⟩, fun q q1 => ⟨rfl, fun _ => rfl⟩⟩ hV hS dL_cut_17 hlocks
  · obtain ⟨ad, ct⟩ := u9
    dsimp only at hq
    obtain ⟨hkz, hr9, hG1, hF1⟩ := hq
    have hV : hv D N0 ad ct H := hV
    have hna := fun (q : Nat) (q1 : q % 16 = 0) => (hF1 q q1).1
    have hF2 : ∀ q : Nat, q % 16 = 0 → ad q = ad0 q ∧ (64 ≤ q → ct q = ct0 q) := fun q q1 => ⟨(hF1 q q1).1.trans (by rw [had0]), fun q2 => ((hF1 q q1).2 q2).trans (by rw [hct0])⟩
    refine hv_stk (st' := [.int r9, .int (nI (0)), .ref (ad (64))]) (by rw [(hF2 64 (by omega)).1, had0]) ?_
    have hout := ((hF1 64 (by omega)).2 (by omega)).trans hout
    have hl : lv_has ls 4 [] := lv_sub hl [] rfl
    refine lv_i2l hx hb dL_cut_7 rfl ?_
    refine hv_last hx hb hKs hV hS hout (by omega) (by decide) dL_cut_8 (fun ct H locs he hne hV hS => ?_)
    have hout := he
    refine lv_goto (tgt := 18) hx hb dL_cut_9 (by decide) ?_
    refine lv_iconst (v := nI 0) hx hb dL_cut_18 (by decide) ?_
    refine W.widen (k := 3) (n := 30) (by omega) (by omega) ?_
    exact hv_iret (v := nI (0)) (u := (ad, ct)) hx hb hr ⟨by rw [hkz], fun _ => ⟨hG1.out hne, _, hout, (by rw [va_up_self, hr9])⟩, fun h9 => absurd hkz h9, fun q q1 => ⟨(hF2 q q1).1.trans (by rw [had0]), fun q2 => ((hne q (by omega)).trans ((hF2 q q1).2 (by omega))).trans (by rw [hct0])⟩⟩ hV hS dL_cut_19 hlocks

set_option maxHeartbeats 4000000 in
set_option maxRecDepth 100000 in
theorem c_L_cane (l : Launch) (D : hG) (N0 : Nat) (ad : Nat → Nat) (ct : hC) (hfl : l.stackTraces = false) {σ : gS} (hG : gX D σ ad ct) (hO : okS σ) (y0q y1q : Int32) {fo : Nat → Int64} (hout : ct 64 = some (eL D 1 fo)) : Met l yL_cane wsL_cane ({ frames := 7, cells := 1, slots := 6, locals := 105 }) (hPc D N0 ad ct [.ref (ad (0)), .int (y0q), .int (y1q), .ref (ad (64))]) (va_Qi (fun (z : Int32) (u : hU) => wPost D (k_cane σ y0q y1q) (tel σ y0q.toInt.toNat y1q.toInt.toNat) σ (σ) ad ct z u) (hB D N0) (hA N0)) 1 6 (hA N0) := by
  refine va_MetW (cc := cL_cane) (maxL := 5) (ret := (some .int)) (hh := [(0, 10, 13, 19)]) (by decide) rfl ?_
  intro p e s m args below meth c s₁ B hml hv0
  obtain ⟨hargs, hKs, hV⟩ := hv0
  have hx := B.exec
  have hb := B.bytes
  have hr := B.returns
  have hts := atoms_spec (ws := wsL_cane) B.pre
  have hown : s.vm.findClass RL = some m.cls := findClass_of_methodNamed B.named
  have hlocks := B.notSynchronized
  have hS : va_S (hA N0) s.heap s.heap [] := va_S.rf
  have kl19 := hts (.classLink RL 19 "java/lang/IndexOutOfBoundsException") (by decide +kernel)
  have hl := lv_entry ([.ref (ad (0)), .int (y0q), .int (y1q), .ref (ad (64))]) (n := 5) (Nat.le_of_ble_eq_true rfl)
  have hE : entryFrame m args 5 = entryFrame m ([.ref (ad (0)), .int (y0q), .int (y1q), .ref (ad (64))] : List Value).toArray 5 := by rw [hargs]
  rw [hE, lg_entry_eq]
  generalize (lg_sl ([.ref (ad (0)), .int (y0q), .int (y1q), .ref (ad (64))]) ++ List.replicate (5 - (lg_sl ([.ref (ad (0)), .int (y0q), .int (y1q), .ref (ad (64))])).length) Slot.unset).toArray = ls at hl ⊢
  have hl : lv_has ls 5 [(0, .ref (ad (0))), (1, .int (y0q)), (2, .int (y1q)), (3, .ref (ad (64)))] := hl
  have htab := vx_table (x := yL_cane) B (hts _ List.mem_cons_self)
  obtain ⟨-, -, -, -, -, hX6, hX7, hX8⟩ := id hKs
  obtain ⟨ad0, had0⟩ : ∃ z, z = ad := ⟨ad, rfl⟩
  obtain ⟨ct0, hct0⟩ : ∃ z, z = ct := ⟨ct, rfl⟩
  refine lv_aload_n hx hb dL_cane_0 rfl (lv_at hl 3 rfl) ?_
  refine lv_iconst (v := nI 0) hx hb dL_cane_1 (by decide) ?_
  refine lv_aload_n hx hb dL_cane_2 rfl (lv_at hl 0 rfl) ?_
  refine lv_iload_n hx hb dL_cane_3 rfl (lv_at hl 1 rfl) ?_
  refine lv_iload_n hx hb dL_cane_4 rfl (lv_at hl 2 rfl) ?_
  refine hv_callxi (vx_runV (As := [.int (y0q), .int (y1q)]) (rest := [.int (nI (0)), .ref (ad (64))]) ⟨hx, hb, hml, hown, hts⟩ (c_X3_cane l hfl D N0 ad ct hG hO (y0q) (y1q)) (cwV 2 hts gL_cane_X3_cane rfl rfl rfl (by decide +kernel) ⟨Nat.le_of_ble_eq_true rfl, Nat.le_of_ble_eq_true rfl⟩) (hv_preV (r := (RX3, TX3, 8)) hKs hV hS hG.1 rfl) rfl rfl hl.1 rfl (lv_room (Nat.le_of_ble_eq_true rfl)) dL_cane_5 ⟨(Nat.le_of_ble_eq_true rfl), (Nat.le_of_ble_eq_true rfl)⟩) hS (fun hk0 ce q9 H locs hV hS hce hcv hcl => ?_) (fun r9 u9 H locs hq hV hS => ?_)
  · have hkb : k_cane σ y0q y1q ≤ 1 := by unfold k_cane; (repeat' split) <;> omega
    rcases (show k_cane σ y0q y1q = 1 by omega) with h1
    rw [h1] at hcl
    refine vx_catch (E := "java/lang/IndexOutOfBoundsException") hown [] _ _ (htab.trans rfl) (fun z hz => absurd hz List.not_mem_nil) (by decide) (by decide) kl19 (va_Nw.use rfl (hX6 _ (by decide))) hce hcv hcl ?_
    refine W.eq (g2 := F0 m 13 ls [.ref q9]) rfl ?_
    refine lv_astore (lv' := [(4, .ref (q9)), (0, .ref (ad (0))), (1, .int (y0q)), (2, .int (y1q)), (3, .ref (ad (64)))]) hx hb dL_cane_13 hl (by decide) rfl (fun ls hl => ?_)
    refine lv_iconst (v := nI 1) hx hb dL_cane_15 (by decide) ?_
    refine W.widen (k := 1) (n := 6) (by omega) (by omega) ?_
    exact hv_iret (v := nI (1)) (u := (ad, ct)) hx hb hr ⟨by rw [h1], fun h9 => absurd h9 hk0, fun _ => ⟨hG, fo, hout⟩, fun q q1 => ⟨rfl, fun _ => rfl⟩⟩ hV hS dL_cane_16 hlocks
  · obtain ⟨hkz, hr9, hu9⟩ := hq
    subst hu9
    have hV : hv D N0 ad ct H := hV
    have hG1 := hG
    have hF1 : hFr ad ct (ad, ct) := fun q _ => ⟨rfl, fun _ => rfl⟩
    have hF2 : ∀ q : Nat, q % 16 = 0 → ad q = ad0 q ∧ (64 ≤ q → ct q = ct0 q) := fun q _ => ⟨by rw [had0], fun _ => by rw [hct0]⟩
    have hl : lv_has ls 5 [] := lv_sub hl [] rfl
    refine lv_i2l hx hb dL_cane_8 rfl ?_
    refine hv_last hx hb hKs hV hS hout (by omega) (by decide) dL_cane_9 (fun ct H locs he hne hV hS => ?_)
    have hout := he
    refine lv_goto (tgt := 17) hx hb dL_cane_10 (by decide) ?_
    refine lv_iconst (v := nI 0) hx hb dL_cane_17 (by decide) ?_
    refine W.widen (k := 1) (n := 6) (by omega) (by omega) ?_
    exact hv_iret (v := nI (0)) (u := (ad, ct)) hx hb hr ⟨by rw [hkz], fun _ => ⟨hG1.out hne, _, hout, (by rw [va_up_self, hr9])⟩, fun h9 => absurd hkz h9, fun q q1 => ⟨(hF2 q q1).1.trans (by rw [had0]), fun q2 => ((hne q (by omega)).trans ((hF2 q q1).2 (by omega))).trans (by rw [hct0])⟩⟩ hV hS dL_cane_18 hlocks

set_option maxHeartbeats 4000000 in
set_option maxRecDepth 100000 in
theorem c_L_shows (l : Launch) (D : hG) (N0 : Nat) (ad : Nat → Nat) (ct : hC) (hfl : l.stackTraces = false) {σ : gS} (hG : gX D σ ad ct) (hO : okS σ) (y0q y1q y2q y3q : Int32) {fo : Nat → Int64} (hout : ct 64 = some (eL D 1 fo)) : Met l yL_shows wsL_shows ({ frames := 7, cells := 1, slots := 6, locals := 107 }) (hPc D N0 ad ct [.ref (ad (0)), .int (y0q), .int (y1q), .int (y2q), .int (y3q), .ref (ad (64))]) (va_Qi (fun (z : Int32) (u : hU) => wPost D (k_shows σ y0q y1q y2q y3q) (nI (rot (cTw σ y0q.toInt.toNat * nI y1q.toInt.toNat) (cPt σ y0q.toInt.toNat) (8 * y2q.toInt.toNat + y3q.toInt.toNat))) σ (σ) ad ct z u) (hB D N0) (hA N0)) 1 6 (hA N0) := by
  refine va_MetW (cc := cL_shows) (maxL := 7) (ret := (some .int)) (hh := [(0, 14, 17, 19)]) (by decide) rfl ?_
  intro p e s m args below meth c s₁ B hml hv0
  obtain ⟨hargs, hKs, hV⟩ := hv0
  have hx := B.exec
  have hb := B.bytes
  have hr := B.returns
  have hts := atoms_spec (ws := wsL_shows) B.pre
  have hown : s.vm.findClass RL = some m.cls := findClass_of_methodNamed B.named
  have hlocks := B.notSynchronized
  have hS : va_S (hA N0) s.heap s.heap [] := va_S.rf
  have kl19 := hts (.classLink RL 19 "java/lang/IndexOutOfBoundsException") (by decide +kernel)
  have hl := lv_entry ([.ref (ad (0)), .int (y0q), .int (y1q), .int (y2q), .int (y3q), .ref (ad (64))]) (n := 7) (Nat.le_of_ble_eq_true rfl)
  have hE : entryFrame m args 7 = entryFrame m ([.ref (ad (0)), .int (y0q), .int (y1q), .int (y2q), .int (y3q), .ref (ad (64))] : List Value).toArray 7 := by rw [hargs]
  rw [hE, lg_entry_eq]
  generalize (lg_sl ([.ref (ad (0)), .int (y0q), .int (y1q), .int (y2q), .int (y3q), .ref (ad (64))]) ++ List.replicate (7 - (lg_sl ([.ref (ad (0)), .int (y0q), .int (y1q), .int (y2q), .int (y3q), .ref (ad (64))])).length) Slot.unset).toArray = ls at hl ⊢
  have hl : lv_has ls 7 [(0, .ref (ad (0))), (1, .int (y0q)), (2, .int (y1q)), (3, .int (y2q)), (4, .int (y3q)), (5, .ref (ad (64)))] := hl
  have htab := vx_table (x := yL_shows) B (hts _ List.mem_cons_self)
  obtain ⟨-, -, -, -, -, hX6, hX7, hX8⟩ := id hKs
  obtain ⟨ad0, had0⟩ : ∃ z, z = ad := ⟨ad, rfl⟩
  obtain ⟨ct0, hct0⟩ : ∃ z, z = ct := ⟨ct, rfl⟩
  refine lv_aload hx hb dL_shows_0 (lv_at hl 5 rfl) ?_
  refine lv_iconst (v := nI 0) hx hb dL_shows_2 (by decide) ?_
  refine lv_aload_n hx hb dL_shows_3 rfl (lv_at hl 0 rfl) ?_
  refine lv_iload_n hx hb dL_shows_4 rfl (lv_at hl 1 rfl) ?_
  refine lv_iload_n hx hb dL_shows_5 rfl (lv_at hl 2 rfl) ?_
  refine lv_iload_n hx hb dL_shows_6 rfl (lv_at hl 3 rfl) ?_
  refine lv_iload hx hb dL_shows_7 (lv_at hl 4 rfl) ?_
  refine hv_callxi (vx_runV (As := [.int (y0q), .int (y1q), .int (y2q), .int (y3q)]) (rest := [.int (nI (0)), .ref (ad (64))]) ⟨hx, hb, hml, hown, hts⟩ (c_X3_shows l hfl D N0 ad ct hG hO (y0q) (y1q) (y2q) (y3q)) (cwV 4 hts gL_shows_X3_shows rfl rfl rfl (by decide +kernel) ⟨Nat.le_of_ble_eq_true rfl, Nat.le_of_ble_eq_true rfl⟩) (hv_preV (r := (RX3, TX3, 8)) hKs hV hS hG.1 rfl) rfl rfl hl.1 rfl (lv_room (Nat.le_of_ble_eq_true rfl)) dL_shows_9 ⟨(Nat.le_of_ble_eq_true rfl), (Nat.le_of_ble_eq_true rfl)⟩) hS (fun hk0 ce q9 H locs hV hS hce hcv hcl => ?_) (fun r9 u9 H locs hq hV hS => ?_)
  · have hkb : k_shows σ y0q y1q y2q y3q ≤ 1 := by unfold k_shows; (repeat' split) <;> omega
    rcases (show k_shows σ y0q y1q y2q y3q = 1 by omega) with h1
    rw [h1] at hcl
    refine vx_catch (E := "java/lang/IndexOutOfBoundsException") hown [] _ _ (htab.trans rfl) (fun z hz => absurd hz List.not_mem_nil) (by decide) (by decide) kl19 (va_Nw.use rfl (hX6 _ (by decide))) hce hcv hcl ?_
    refine W.eq (g2 := F0 m 17 ls [.ref q9]) rfl ?_
    refine lv_astore (lv' := [(6, .ref (q9)), (0, .ref (ad (0))), (1, .int (y0q)), (2, .int (y1q)), (3, .int (y2q)), (4, .int (y3q)), (5, .ref (ad (64)))]) hx hb dL_shows_17 hl (by decide) rfl (fun ls hl => ?_)
    refine lv_iconst (v := nI 1) hx hb dL_shows_19 (by decide) ?_
    refine W.widen (k := 1) (n := 6) (by omega) (by omega) ?_
    exact hv_iret (v := nI (1)) (u := (ad, ct)) hx hb hr ⟨by rw [h1], fun h9 => absurd h9 hk0, fun _ => ⟨hG, fo, hout⟩, fun q q1 => ⟨rfl, fun _ => rfl⟩⟩ hV hS dL_shows_20 hlocks
  · obtain ⟨hkz, hr9, hu9⟩ := hq
    subst hu9
    have hV : hv D N0 ad ct H := hV
    have hG1 := hG
    have hF1 : hFr ad ct (ad, ct) := fun q _ => ⟨rfl, fun _ => rfl⟩
    have hF2 : ∀ q : Nat, q % 16 = 0 → ad q = ad0 q ∧ (64 ≤ q → ct q = ct0 q) := fun q _ => ⟨by rw [had0], fun _ => by rw [hct0]⟩
    have hl : lv_has ls 7 [] := lv_sub hl [] rfl
    refine lv_i2l hx hb dL_shows_12 rfl ?_
    refine hv_last hx hb hKs hV hS hout (by omega) (by decide) dL_shows_13 (fun ct H locs he hne hV hS => ?_)
    have hout := he
    refine lv_goto (tgt := 21) hx hb dL_shows_14 (by decide) ?_
    refine lv_iconst (v := nI 0) hx hb dL_shows_21 (by decide) ?_
    refine W.widen (k := 1) (n := 6) (by omega) (by omega) ?_
    exact hv_iret (v := nI (0)) (u := (ad, ct)) hx hb hr ⟨by rw [hkz], fun _ => ⟨hG1.out hne, _, hout, (by rw [va_up_self, hr9])⟩, fun h9 => absurd hkz h9, fun q q1 => ⟨(hF2 q q1).1.trans (by rw [had0]), fun q2 => ((hne q (by omega)).trans ((hF2 q q1).2 (by omega))).trans (by rw [hct0])⟩⟩ hV hS dL_shows_22 hlocks

set_option maxHeartbeats 4000000 in
set_option maxRecDepth 100000 in
theorem c_L_colour (l : Launch) (D : hG) (N0 : Nat) (ad : Nat → Nat) (ct : hC) (hfl : l.stackTraces = false) {σ : gS} (hG : gX D σ ad ct) (hO : okS σ) (y0q y1q y2q : Int32) {fo : Nat → Int64} (hout : ct 64 = some (eL D 1 fo)) : Met l yL_colour wsL_colour ({ frames := 7, cells := 1, slots := 6, locals := 106 }) (hPc D N0 ad ct [.ref (ad (0)), .int (y0q), .int (y1q), .int (y2q), .ref (ad (64))]) (va_Qi (fun (z : Int32) (u : hU) => wPost D (k_colour σ y0q y1q y2q) (nI (sPt σ y0q.toInt.toNat (8 * y1q.toInt.toNat + y2q.toInt.toNat))) σ (σ) ad ct z u) (hB D N0) (hA N0)) 1 6 (hA N0) := by
  refine va_MetW (cc := cL_colour) (maxL := 6) (ret := (some .int)) (hh := [(0, 12, 15, 19)]) (by decide) rfl ?_
  intro p e s m args below meth c s₁ B hml hv0
  obtain ⟨hargs, hKs, hV⟩ := hv0
  have hx := B.exec
  have hb := B.bytes
  have hr := B.returns
  have hts := atoms_spec (ws := wsL_colour) B.pre
  have hown : s.vm.findClass RL = some m.cls := findClass_of_methodNamed B.named
  have hlocks := B.notSynchronized
  have hS : va_S (hA N0) s.heap s.heap [] := va_S.rf
  have kl19 := hts (.classLink RL 19 "java/lang/IndexOutOfBoundsException") (by decide +kernel)
  have hl := lv_entry ([.ref (ad (0)), .int (y0q), .int (y1q), .int (y2q), .ref (ad (64))]) (n := 6) (Nat.le_of_ble_eq_true rfl)
  have hE : entryFrame m args 6 = entryFrame m ([.ref (ad (0)), .int (y0q), .int (y1q), .int (y2q), .ref (ad (64))] : List Value).toArray 6 := by rw [hargs]
  rw [hE, lg_entry_eq]
  generalize (lg_sl ([.ref (ad (0)), .int (y0q), .int (y1q), .int (y2q), .ref (ad (64))]) ++ List.replicate (6 - (lg_sl ([.ref (ad (0)), .int (y0q), .int (y1q), .int (y2q), .ref (ad (64))])).length) Slot.unset).toArray = ls at hl ⊢
  have hl : lv_has ls 6 [(0, .ref (ad (0))), (1, .int (y0q)), (2, .int (y1q)), (3, .int (y2q)), (4, .ref (ad (64)))] := hl
  have htab := vx_table (x := yL_colour) B (hts _ List.mem_cons_self)
  obtain ⟨-, -, -, -, -, hX6, hX7, hX8⟩ := id hKs
  obtain ⟨ad0, had0⟩ : ∃ z, z = ad := ⟨ad, rfl⟩
  obtain ⟨ct0, hct0⟩ : ∃ z, z = ct := ⟨ct, rfl⟩
  refine lv_aload hx hb dL_colour_0 (lv_at hl 4 rfl) ?_
  refine lv_iconst (v := nI 0) hx hb dL_colour_2 (by decide) ?_
  refine lv_aload_n hx hb dL_colour_3 rfl (lv_at hl 0 rfl) ?_
  refine lv_iload_n hx hb dL_colour_4 rfl (lv_at hl 1 rfl) ?_
  refine lv_iload_n hx hb dL_colour_5 rfl (lv_at hl 2 rfl) ?_
  refine lv_iload_n hx hb dL_colour_6 rfl (lv_at hl 3 rfl) ?_
  refine hv_callxi (vx_runV (As := [.int (y0q), .int (y1q), .int (y2q)]) (rest := [.int (nI (0)), .ref (ad (64))]) ⟨hx, hb, hml, hown, hts⟩ (c_X3_colour l hfl D N0 ad ct hG hO (y0q) (y1q) (y2q)) (cwV 3 hts gL_colour_X3_colour rfl rfl rfl (by decide +kernel) ⟨Nat.le_of_ble_eq_true rfl, Nat.le_of_ble_eq_true rfl⟩) (hv_preV (r := (RX3, TX3, 8)) hKs hV hS hG.1 rfl) rfl rfl hl.1 rfl (lv_room (Nat.le_of_ble_eq_true rfl)) dL_colour_7 ⟨(Nat.le_of_ble_eq_true rfl), (Nat.le_of_ble_eq_true rfl)⟩) hS (fun hk0 ce q9 H locs hV hS hce hcv hcl => ?_) (fun r9 u9 H locs hq hV hS => ?_)
  · have hkb : k_colour σ y0q y1q y2q ≤ 1 := by unfold k_colour; (repeat' split) <;> omega
    rcases (show k_colour σ y0q y1q y2q = 1 by omega) with h1
    rw [h1] at hcl
    refine vx_catch (E := "java/lang/IndexOutOfBoundsException") hown [] _ _ (htab.trans rfl) (fun z hz => absurd hz List.not_mem_nil) (by decide) (by decide) kl19 (va_Nw.use rfl (hX6 _ (by decide))) hce hcv hcl ?_
    refine W.eq (g2 := F0 m 15 ls [.ref q9]) rfl ?_
    refine lv_astore (lv' := [(5, .ref (q9)), (0, .ref (ad (0))), (1, .int (y0q)), (2, .int (y1q)), (3, .int (y2q)), (4, .ref (ad (64)))]) hx hb dL_colour_15 hl (by decide) rfl (fun ls hl => ?_)
    refine lv_iconst (v := nI 1) hx hb dL_colour_17 (by decide) ?_
    refine W.widen (k := 1) (n := 6) (by omega) (by omega) ?_
    exact hv_iret (v := nI (1)) (u := (ad, ct)) hx hb hr ⟨by rw [h1], fun h9 => absurd h9 hk0, fun _ => ⟨hG, fo, hout⟩, fun q q1 => ⟨rfl, fun _ => rfl⟩⟩ hV hS dL_colour_18 hlocks
  · obtain ⟨hkz, hr9, hu9⟩ := hq
    subst hu9
    have hV : hv D N0 ad ct H := hV
    have hG1 := hG
    have hF1 : hFr ad ct (ad, ct) := fun q _ => ⟨rfl, fun _ => rfl⟩
    have hF2 : ∀ q : Nat, q % 16 = 0 → ad q = ad0 q ∧ (64 ≤ q → ct q = ct0 q) := fun q _ => ⟨by rw [had0], fun _ => by rw [hct0]⟩
    have hl : lv_has ls 6 [] := lv_sub hl [] rfl
    refine lv_i2l hx hb dL_colour_10 rfl ?_
    refine hv_last hx hb hKs hV hS hout (by omega) (by decide) dL_colour_11 (fun ct H locs he hne hV hS => ?_)
    have hout := he
    refine lv_goto (tgt := 19) hx hb dL_colour_12 (by decide) ?_
    refine lv_iconst (v := nI 0) hx hb dL_colour_19 (by decide) ?_
    refine W.widen (k := 1) (n := 6) (by omega) (by omega) ?_
    exact hv_iret (v := nI (0)) (u := (ad, ct)) hx hb hr ⟨by rw [hkz], fun _ => ⟨hG1.out hne, _, hout, (by rw [va_up_self, hr9])⟩, fun h9 => absurd hkz h9, fun q q1 => ⟨(hF2 q q1).1.trans (by rw [had0]), fun q2 => ((hne q (by omega)).trans ((hF2 q q1).2 (by omega))).trans (by rw [hct0])⟩⟩ hV hS dL_colour_20 hlocks

set_option maxHeartbeats 4000000 in
set_option maxRecDepth 100000 in
theorem c_L_where (l : Launch) (D : hG) (N0 : Nat) (ad : Nat → Nat) (ct : hC) (hfl : l.stackTraces = false) {σ : gS} (hG : gX D σ ad ct) (hO : okS σ) (y0q : Int32) {fo : Nat → Int64} (hout : ct 64 = some (eL D 1 fo)) : Met l yL_where wsL_where ({ frames := 7, cells := 1, slots := 6, locals := 104 }) (hPc D N0 ad ct [.ref (ad (0)), .int (y0q), .ref (ad (64))]) (va_Qi (fun (z : Int32) (u : hU) => wPost D (k_where σ y0q) (eyv (sEy σ y0q.toInt.toNat)) σ (σ) ad ct z u) (hB D N0) (hA N0)) 1 6 (hA N0) := by
  refine va_MetW (cc := cL_where) (maxL := 4) (ret := (some .int)) (hh := [(0, 9, 12, 19)]) (by decide) rfl ?_
  intro p e s m args below meth c s₁ B hml hv0
  obtain ⟨hargs, hKs, hV⟩ := hv0
  have hx := B.exec
  have hb := B.bytes
  have hr := B.returns
  have hts := atoms_spec (ws := wsL_where) B.pre
  have hown : s.vm.findClass RL = some m.cls := findClass_of_methodNamed B.named
  have hlocks := B.notSynchronized
  have hS : va_S (hA N0) s.heap s.heap [] := va_S.rf
  have kl19 := hts (.classLink RL 19 "java/lang/IndexOutOfBoundsException") (by decide +kernel)
  have hl := lv_entry ([.ref (ad (0)), .int (y0q), .ref (ad (64))]) (n := 4) (Nat.le_of_ble_eq_true rfl)
  have hE : entryFrame m args 4 = entryFrame m ([.ref (ad (0)), .int (y0q), .ref (ad (64))] : List Value).toArray 4 := by rw [hargs]
  rw [hE, lg_entry_eq]
  generalize (lg_sl ([.ref (ad (0)), .int (y0q), .ref (ad (64))]) ++ List.replicate (4 - (lg_sl ([.ref (ad (0)), .int (y0q), .ref (ad (64))])).length) Slot.unset).toArray = ls at hl ⊢
  have hl : lv_has ls 4 [(0, .ref (ad (0))), (1, .int (y0q)), (2, .ref (ad (64)))] := hl
  have htab := vx_table (x := yL_where) B (hts _ List.mem_cons_self)
  obtain ⟨-, -, -, -, -, hX6, hX7, hX8⟩ := id hKs
  obtain ⟨ad0, had0⟩ : ∃ z, z = ad := ⟨ad, rfl⟩
  obtain ⟨ct0, hct0⟩ : ∃ z, z = ct := ⟨ct, rfl⟩
  refine lv_aload_n hx hb dL_where_0 rfl (lv_at hl 2 rfl) ?_
  refine lv_iconst (v := nI 0) hx hb dL_where_1 (by decide) ?_
  refine lv_aload_n hx hb dL_where_2 rfl (lv_at hl 0 rfl) ?_
  refine lv_iload_n hx hb dL_where_3 rfl (lv_at hl 1 rfl) ?_
  refine hv_callxi (vx_runV (As := [.int (y0q)]) (rest := [.int (nI (0)), .ref (ad (64))]) ⟨hx, hb, hml, hown, hts⟩ (c_X3_where l hfl D N0 ad ct hG hO (y0q)) (cwV 1 hts gL_where_X3_where rfl rfl rfl (by decide +kernel) ⟨Nat.le_of_ble_eq_true rfl, Nat.le_of_ble_eq_true rfl⟩) (hv_preV (r := (RX3, TX3, 8)) hKs hV hS hG.1 rfl) rfl rfl hl.1 rfl (lv_room (Nat.le_of_ble_eq_true rfl)) dL_where_4 ⟨(Nat.le_of_ble_eq_true rfl), (Nat.le_of_ble_eq_true rfl)⟩) hS (fun hk0 ce q9 H locs hV hS hce hcv hcl => ?_) (fun r9 u9 H locs hq hV hS => ?_)
  · have hkb : k_where σ y0q ≤ 1 := by unfold k_where; (repeat' split) <;> omega
    rcases (show k_where σ y0q = 1 by omega) with h1
    rw [h1] at hcl
    refine vx_catch (E := "java/lang/IndexOutOfBoundsException") hown [] _ _ (htab.trans rfl) (fun z hz => absurd hz List.not_mem_nil) (by decide) (by decide) kl19 (va_Nw.use rfl (hX6 _ (by decide))) hce hcv hcl ?_
    refine W.eq (g2 := F0 m 12 ls [.ref q9]) rfl ?_
    refine lv_astore_n (lv' := [(3, .ref (q9)), (0, .ref (ad (0))), (1, .int (y0q)), (2, .ref (ad (64)))]) hx hb dL_where_12 rfl hl (by decide) rfl (fun ls hl => ?_)
    refine lv_iconst (v := nI 1) hx hb dL_where_13 (by decide) ?_
    refine W.widen (k := 1) (n := 6) (by omega) (by omega) ?_
    exact hv_iret (v := nI (1)) (u := (ad, ct)) hx hb hr ⟨by rw [h1], fun h9 => absurd h9 hk0, fun _ => ⟨hG, fo, hout⟩, fun q q1 => ⟨rfl, fun _ => rfl⟩⟩ hV hS dL_where_14 hlocks
  · obtain ⟨hkz, hr9, hu9⟩ := hq
    subst hu9
    have hV : hv D N0 ad ct H := hV
    have hG1 := hG
    have hF1 : hFr ad ct (ad, ct) := fun q _ => ⟨rfl, fun _ => rfl⟩
    have hF2 : ∀ q : Nat, q % 16 = 0 → ad q = ad0 q ∧ (64 ≤ q → ct q = ct0 q) := fun q _ => ⟨by rw [had0], fun _ => by rw [hct0]⟩
    have hl : lv_has ls 4 [] := lv_sub hl [] rfl
    refine lv_i2l hx hb dL_where_7 rfl ?_
    refine hv_last hx hb hKs hV hS hout (by omega) (by decide) dL_where_8 (fun ct H locs he hne hV hS => ?_)
    have hout := he
    refine lv_goto (tgt := 15) hx hb dL_where_9 (by decide) ?_
    refine lv_iconst (v := nI 0) hx hb dL_where_15 (by decide) ?_
    refine W.widen (k := 1) (n := 6) (by omega) (by omega) ?_
    exact hv_iret (v := nI (0)) (u := (ad, ct)) hx hb hr ⟨by rw [hkz], fun _ => ⟨hG1.out hne, _, hout, (by rw [va_up_self, hr9])⟩, fun h9 => absurd hkz h9, fun q q1 => ⟨(hF2 q q1).1.trans (by rw [had0]), fun q2 => ((hne q (by omega)).trans ((hF2 q q1).2 (by omega))).trans (by rw [hct0])⟩⟩ hV hS dL_where_16 hlocks

set_option maxHeartbeats 4000000 in
set_option maxRecDepth 100000 in
theorem c_L_bead (l : Launch) (D : hG) (N0 : Nat) (ad : Nat → Nat) (ct : hC) (hfl : l.stackTraces = false) {σ : gS} (hG : gX D σ ad ct) (hO : okS σ) {fo : Nat → Int64} (hout : ct 64 = some (eL D 1 fo)) : Met l yL_bead wsL_bead ({ frames := 7, cells := 1, slots := 6, locals := 103 }) (hPc D N0 ad ct [.ref (ad (0)), .ref (ad (64))]) (va_Qi (fun (z : Int32) (u : hU) => wPost D (k_bead σ) (nI (gNB σ)) σ (uObj σ (gNB σ + 1) (gFu σ) (gMi σ)) ad ct z u) (hB D N0) (hA N0)) 1 6 (hA N0) := by
  refine va_MetW (cc := cL_bead) (maxL := 3) (ret := (some .int)) (hh := [(0, 8, 11, 13)]) (by decide) rfl ?_
  intro p e s m args below meth c s₁ B hml hv0
  obtain ⟨hargs, hKs, hV⟩ := hv0
  have hx := B.exec
  have hb := B.bytes
  have hr := B.returns
  have hts := atoms_spec (ws := wsL_bead) B.pre
  have hown : s.vm.findClass RL = some m.cls := findClass_of_methodNamed B.named
  have hlocks := B.notSynchronized
  have hS : va_S (hA N0) s.heap s.heap [] := va_S.rf
  have kl13 := hts (.classLink RL 13 "java/lang/IllegalStateException") (by decide +kernel)
  have hl := lv_entry ([.ref (ad (0)), .ref (ad (64))]) (n := 3) (Nat.le_of_ble_eq_true rfl)
  have hE : entryFrame m args 3 = entryFrame m ([.ref (ad (0)), .ref (ad (64))] : List Value).toArray 3 := by rw [hargs]
  rw [hE, lg_entry_eq]
  generalize (lg_sl ([.ref (ad (0)), .ref (ad (64))]) ++ List.replicate (3 - (lg_sl ([.ref (ad (0)), .ref (ad (64))])).length) Slot.unset).toArray = ls at hl ⊢
  have hl : lv_has ls 3 [(0, .ref (ad (0))), (1, .ref (ad (64)))] := hl
  have htab := vx_table (x := yL_bead) B (hts _ List.mem_cons_self)
  obtain ⟨-, -, -, -, -, hX6, hX7, hX8⟩ := id hKs
  obtain ⟨ad0, had0⟩ : ∃ z, z = ad := ⟨ad, rfl⟩
  obtain ⟨ct0, hct0⟩ : ∃ z, z = ct := ⟨ct, rfl⟩
  refine lv_aload_n hx hb dL_bead_0 rfl (lv_at hl 1 rfl) ?_
  refine lv_iconst (v := nI 0) hx hb dL_bead_1 (by decide) ?_
  refine lv_aload_n hx hb dL_bead_2 rfl (lv_at hl 0 rfl) ?_
  refine hv_callxi (vx_runV (As := []) (rest := [.int (nI (0)), .ref (ad (64))]) ⟨hx, hb, hml, hown, hts⟩ (c_X3_bead l hfl D N0 ad ct hG hO ) (cwV 0 hts gL_bead_X3_bead rfl rfl rfl (by decide +kernel) ⟨Nat.le_of_ble_eq_true rfl, Nat.le_of_ble_eq_true rfl⟩) (hv_preV (r := (RX3, TX3, 8)) hKs hV hS hG.1 rfl) rfl rfl hl.1 rfl (lv_room (Nat.le_of_ble_eq_true rfl)) dL_bead_3 ⟨(Nat.le_of_ble_eq_true rfl), (Nat.le_of_ble_eq_true rfl)⟩) hS (fun hk0 ce q9 H locs hV hS hce hcv hcl => ?_) (fun r9 u9 H locs hq hV hS => ?_)
  · have hkb : k_bead σ ≤ 1 := by unfold k_bead; (repeat' split) <;> omega
    rcases (show k_bead σ = 1 by omega) with h1
    rw [h1] at hcl
    refine vx_catch (E := "java/lang/IllegalStateException") hown [] _ _ (htab.trans rfl) (fun z hz => absurd hz List.not_mem_nil) (by decide) (by decide) kl13 (va_Nw.use rfl (hX6 _ (by decide))) hce hcv hcl ?_
    refine W.eq (g2 := F0 m 11 ls [.ref q9]) rfl ?_
    refine lv_astore_n (lv' := [(2, .ref (q9)), (0, .ref (ad (0))), (1, .ref (ad (64)))]) hx hb dL_bead_11 rfl hl (by decide) rfl (fun ls hl => ?_)
    refine lv_iconst (v := nI 1) hx hb dL_bead_12 (by decide) ?_
    refine W.widen (k := 1) (n := 6) (by omega) (by omega) ?_
    exact hv_iret (v := nI (1)) (u := (ad, ct)) hx hb hr ⟨by rw [h1], fun h9 => absurd h9 hk0, fun _ => ⟨hG, fo, hout⟩, fun q q1 => ⟨rfl, fun _ => rfl⟩⟩ hV hS dL_bead_13 hlocks
  · obtain ⟨ad, ct⟩ := u9
    dsimp only at hq
    obtain ⟨hkz, hr9, hG1, hF1⟩ := hq
    have hV : hv D N0 ad ct H := hV
    have hna := fun (q : Nat) (q1 : q % 16 = 0) => (hF1 q q1).1
    have hF2 : ∀ q : Nat, q % 16 = 0 → ad q = ad0 q ∧ (64 ≤ q → ct q = ct0 q) := fun q q1 => ⟨(hF1 q q1).1.trans (by rw [had0]), fun q2 => ((hF1 q q1).2 q2).trans (by rw [hct0])⟩
    refine hv_stk (st' := [.int r9, .int (nI (0)), .ref (ad (64))]) (by rw [(hF2 64 (by omega)).1, had0]) ?_
    have hout := ((hF1 64 (by omega)).2 (by omega)).trans hout
    have hl : lv_has ls 3 [] := lv_sub hl [] rfl
    refine lv_i2l hx hb dL_bead_6 rfl ?_
    refine hv_last hx hb hKs hV hS hout (by omega) (by decide) dL_bead_7 (fun ct H locs he hne hV hS => ?_)
    have hout := he
    refine lv_goto (tgt := 14) hx hb dL_bead_8 (by decide) ?_
    refine lv_iconst (v := nI 0) hx hb dL_bead_14 (by decide) ?_
    refine W.widen (k := 1) (n := 6) (by omega) (by omega) ?_
    exact hv_iret (v := nI (0)) (u := (ad, ct)) hx hb hr ⟨by rw [hkz], fun _ => ⟨hG1.out hne, _, hout, (by rw [va_up_self, hr9])⟩, fun h9 => absurd hkz h9, fun q q1 => ⟨(hF2 q q1).1.trans (by rw [had0]), fun q2 => ((hne q (by omega)).trans ((hF2 q q1).2 (by omega))).trans (by rw [hct0])⟩⟩ hV hS dL_bead_15 hlocks

set_option maxHeartbeats 4000000 in
set_option maxRecDepth 100000 in
theorem c_L_set (l : Launch) (D : hG) (N0 : Nat) (ad : Nat → Nat) (ct : hC) (hfl : l.stackTraces = false) {σ : gS} (hG : gX D σ ad ct) (hO : okS σ) (y0q y1q y2q y3q : Int32) {fo : Nat → Int64} (hout : ct 64 = some (eL D 1 fo)) : Met l yL_set wsL_set ({ frames := 7, cells := 1, slots := 6, locals := 108 }) (hPc D N0 ad ct [.ref (ad (0)), .int (y0q), .int (y1q), .int (y2q), .int (y3q), .ref (ad (64))]) (va_Qi (fun (z : Int32) (u : hU) => wPost D (k_set σ y0q y1q y2q y3q) (nI (nsm (fun k => ie (s_set σ (4 * y0q.toInt.toNat + y1q.toInt.toNat) y2q.toInt.toNat y3q.toInt.toNat) (4 * y0q.toInt.toNat + k)) 4)) σ (s_set σ (4 * y0q.toInt.toNat + y1q.toInt.toNat) y2q.toInt.toNat y3q.toInt.toNat) ad ct z u) (hB D N0) (hA N0)) 1 6 (hA N0) := by
  refine va_MetW (cc := cL_set) (maxL := 7) (ret := (some .int)) (hh := [(0, 14, 17, 19), (0, 14, 21, 21), (0, 14, 25, 13)]) (by decide) rfl ?_
  intro p e s m args below meth c s₁ B hml hv0
  obtain ⟨hargs, hKs, hV⟩ := hv0
  have hx := B.exec
  have hb := B.bytes
  have hr := B.returns
  have hts := atoms_spec (ws := wsL_set) B.pre
  have hown : s.vm.findClass RL = some m.cls := findClass_of_methodNamed B.named
  have hlocks := B.notSynchronized
  have hS : va_S (hA N0) s.heap s.heap [] := va_S.rf
  have kl19 := hts (.classLink RL 19 "java/lang/IndexOutOfBoundsException") (by decide +kernel)
  have kl21 := hts (.classLink RL 21 "java/lang/IllegalArgumentException") (by decide +kernel)
  have kl13 := hts (.classLink RL 13 "java/lang/IllegalStateException") (by decide +kernel)
  have hl := lv_entry ([.ref (ad (0)), .int (y0q), .int (y1q), .int (y2q), .int (y3q), .ref (ad (64))]) (n := 7) (Nat.le_of_ble_eq_true rfl)
  have hE : entryFrame m args 7 = entryFrame m ([.ref (ad (0)), .int (y0q), .int (y1q), .int (y2q), .int (y3q), .ref (ad (64))] : List Value).toArray 7 := by rw [hargs]
  rw [hE, lg_entry_eq]
  generalize (lg_sl ([.ref (ad (0)), .int (y0q), .int (y1q), .int (y2q), .int (y3q), .ref (ad (64))]) ++ List.replicate (7 - (lg_sl ([.ref (ad (0)), .int (y0q), .int (y1q), .int (y2q), .int (y3q), .ref (ad (64))])).length) Slot.unset).toArray = ls at hl ⊢
  have hl : lv_has ls 7 [(0, .ref (ad (0))), (1, .int (y0q)), (2, .int (y1q)), (3, .int (y2q)), (4, .int (y3q)), (5, .ref (ad (64)))] := hl
  have htab := vx_table (x := yL_set) B (hts _ List.mem_cons_self)
  obtain ⟨-, -, -, -, -, hX6, hX7, hX8⟩ := id hKs
  obtain ⟨ad0, had0⟩ : ∃ z, z = ad := ⟨ad, rfl⟩
  obtain ⟨ct0, hct0⟩ : ∃ z, z = ct := ⟨ct, rfl⟩
  refine lv_aload hx hb dL_set_0 (lv_at hl 5 rfl) ?_
  refine lv_iconst (v := nI 0) hx hb dL_set_2 (by decide) ?_
  refine lv_aload_n hx hb dL_set_3 rfl (lv_at hl 0 rfl) ?_
  refine lv_iload_n hx hb dL_set_4 rfl (lv_at hl 1 rfl) ?_
  refine lv_iload_n hx hb dL_set_5 rfl (lv_at hl 2 rfl) ?_
  refine lv_iload_n hx hb dL_set_6 rfl (lv_at hl 3 rfl) ?_
  refine lv_iload hx hb dL_set_7 (lv_at hl 4 rfl) ?_
  refine hv_callxi (vx_runV (As := [.int (y0q), .int (y1q), .int (y2q), .int (y3q)]) (rest := [.int (nI (0)), .ref (ad (64))]) ⟨hx, hb, hml, hown, hts⟩ (c_X3_set l hfl D N0 ad ct hG hO (y0q) (y1q) (y2q) (y3q)) (cwV 4 hts gL_set_X3_set rfl rfl rfl (by decide +kernel) ⟨Nat.le_of_ble_eq_true rfl, Nat.le_of_ble_eq_true rfl⟩) (hv_preV (r := (RX3, TX3, 8)) hKs hV hS hG.1 rfl) rfl rfl hl.1 rfl (lv_room (Nat.le_of_ble_eq_true rfl)) dL_set_9 ⟨(Nat.le_of_ble_eq_true rfl), (Nat.le_of_ble_eq_true rfl)⟩) hS (fun hk0 ce q9 H locs hV hS hce hcv hcl => ?_) (fun r9 u9 H locs hq hV hS => ?_)
  · have hkb : k_set σ y0q y1q y2q y3q ≤ 3 := by unfold k_set; (repeat' split) <;> omega
    rcases (show k_set σ y0q y1q y2q y3q = 1 ∨ k_set σ y0q y1q y2q y3q = 2 ∨ k_set σ y0q y1q y2q y3q = 3 by omega) with h1 | h1 | h1
    · rw [h1] at hcl
      refine vx_catch (E := "java/lang/IndexOutOfBoundsException") hown [] _ _ (htab.trans rfl) (fun z hz => absurd hz List.not_mem_nil) (by decide) (by decide) kl19 (va_Nw.use rfl (hX6 _ (by decide))) hce hcv hcl ?_
      refine W.eq (g2 := F0 m 17 ls [.ref q9]) rfl ?_
      refine lv_astore (lv' := [(6, .ref (q9)), (0, .ref (ad (0))), (1, .int (y0q)), (2, .int (y1q)), (3, .int (y2q)), (4, .int (y3q)), (5, .ref (ad (64)))]) hx hb dL_set_17 hl (by decide) rfl (fun ls hl => ?_)
      refine lv_iconst (v := nI 1) hx hb dL_set_19 (by decide) ?_
      refine W.widen (k := 1) (n := 6) (by omega) (by omega) ?_
      exact hv_iret (v := nI (1)) (u := (ad, ct)) hx hb hr ⟨by rw [h1], fun h9 => absurd h9 hk0, fun _ => ⟨hG, fo, hout⟩, fun q q1 => ⟨rfl, fun _ => rfl⟩⟩ hV hS dL_set_20 hlocks
    · rw [h1] at hcl
      refine vx_catch (E := "java/lang/IllegalArgumentException") hown [_] _ _ (htab.trans rfl) (fun z hz => by rcases List.mem_singleton.mp hz with rfl; exact Or.inr ⟨by decide, "java/lang/IndexOutOfBoundsException", kl19, hX7 _ (by decide) _ (by decide) (by decide)⟩) (by decide) (by decide) kl21 (va_Nw.use rfl (hX6 _ (by decide))) hce hcv hcl ?_
      refine W.eq (g2 := F0 m 21 ls [.ref q9]) rfl ?_
      refine lv_astore (lv' := [(6, .ref (q9)), (0, .ref (ad (0))), (1, .int (y0q)), (2, .int (y1q)), (3, .int (y2q)), (4, .int (y3q)), (5, .ref (ad (64)))]) hx hb dL_set_21 hl (by decide) rfl (fun ls hl => ?_)
      refine lv_iconst (v := nI 2) hx hb dL_set_23 (by decide) ?_
      refine W.widen (k := 1) (n := 6) (by omega) (by omega) ?_
      exact hv_iret (v := nI (2)) (u := (ad, ct)) hx hb hr ⟨by rw [h1], fun h9 => absurd h9 hk0, fun _ => ⟨hG, fo, hout⟩, fun q q1 => ⟨rfl, fun _ => rfl⟩⟩ hV hS dL_set_24 hlocks
    · rw [h1] at hcl
      refine vx_catch (E := "java/lang/IllegalStateException") hown [_, _] _ _ (htab.trans rfl) (fun z hz => (List.mem_cons.mp hz).elim (fun h9 => by subst h9; exact Or.inr ⟨by decide, "java/lang/IndexOutOfBoundsException", kl19, hX7 _ (by decide) _ (by decide) (by decide)⟩) (fun h9 => by rcases List.mem_singleton.mp h9 with rfl; exact Or.inr ⟨by decide, "java/lang/IllegalArgumentException", kl21, hX7 _ (by decide) _ (by decide) (by decide)⟩)) (by decide) (by decide) kl13 (va_Nw.use rfl (hX6 _ (by decide))) hce hcv hcl ?_
      refine W.eq (g2 := F0 m 25 ls [.ref q9]) rfl ?_
      refine lv_astore (lv' := [(6, .ref (q9)), (0, .ref (ad (0))), (1, .int (y0q)), (2, .int (y1q)), (3, .int (y2q)), (4, .int (y3q)), (5, .ref (ad (64)))]) hx hb dL_set_25 hl (by decide) rfl (fun ls hl => ?_)
      refine lv_iconst (v := nI 3) hx hb dL_set_27 (by decide) ?_
      refine W.widen (k := 1) (n := 6) (by omega) (by omega) ?_
      exact hv_iret (v := nI (3)) (u := (ad, ct)) hx hb hr ⟨by rw [h1], fun h9 => absurd h9 hk0, fun _ => ⟨hG, fo, hout⟩, fun q q1 => ⟨rfl, fun _ => rfl⟩⟩ hV hS dL_set_28 hlocks
  · obtain ⟨ad, ct⟩ := u9
    dsimp only at hq
    obtain ⟨hkz, hr9, hG1, hF1⟩ := hq
    have hV : hv D N0 ad ct H := hV
    have hna := fun (q : Nat) (q1 : q % 16 = 0) => (hF1 q q1).1
    have hF2 : ∀ q : Nat, q % 16 = 0 → ad q = ad0 q ∧ (64 ≤ q → ct q = ct0 q) := fun q q1 => ⟨(hF1 q q1).1.trans (by rw [had0]), fun q2 => ((hF1 q q1).2 q2).trans (by rw [hct0])⟩
    refine hv_stk (st' := [.int r9, .int (nI (0)), .ref (ad (64))]) (by rw [(hF2 64 (by omega)).1, had0]) ?_
    have hout := ((hF1 64 (by omega)).2 (by omega)).trans hout
    have hl : lv_has ls 7 [] := lv_sub hl [] rfl
    refine lv_i2l hx hb dL_set_12 rfl ?_
    refine hv_last hx hb hKs hV hS hout (by omega) (by decide) dL_set_13 (fun ct H locs he hne hV hS => ?_)
    have hout := he
    refine lv_goto (tgt := 29) hx hb dL_set_14 (by decide) ?_
    refine lv_iconst (v := nI 0) hx hb dL_set_29 (by decide) ?_
    refine W.widen (k := 1) (n := 6) (by omega) (by omega) ?_
    exact hv_iret (v := nI (0)) (u := (ad, ct)) hx hb hr ⟨by rw [hkz], fun _ => ⟨hG1.out hne, _, hout, (by rw [va_up_self, hr9])⟩, fun h9 => absurd hkz h9, fun q q1 => ⟨(hF2 q q1).1.trans (by rw [had0]), fun q2 => ((hne q (by omega)).trans ((hF2 q q1).2 (by omega))).trans (by rw [hct0])⟩⟩ hV hS dL_set_30 hlocks

set_option maxHeartbeats 4000000 in
set_option maxRecDepth 100000 in
theorem c_L_drop (l : Launch) (D : hG) (N0 : Nat) (ad : Nat → Nat) (ct : hC) (hfl : l.stackTraces = false) {σ : gS} (hG : gX D σ ad ct) (hO : okS σ) (y0q y1q : Int32) {fo : Nat → Int64} (hout : ct 64 = some (eL D 1 fo)) : Met l yL_drop wsL_drop ({ frames := 7, cells := 1, slots := 6, locals := 106 }) (hPc D N0 ad ct [.ref (ad (0)), .int (y0q), .int (y1q), .ref (ad (64))]) (va_Qi (fun (z : Int32) (u : hU) => wPost D (k_drop σ y0q y1q) (esl σ (4 * y0q.toInt.toNat + y1q.toInt.toNat)) σ (s_drop σ (4 * y0q.toInt.toNat + y1q.toInt.toNat)) ad ct z u) (hB D N0) (hA N0)) 1 6 (hA N0) := by
  refine va_MetW (cc := cL_drop) (maxL := 5) (ret := (some .int)) (hh := [(0, 10, 13, 19), (0, 10, 17, 13)]) (by decide) rfl ?_
  intro p e s m args below meth c s₁ B hml hv0
  obtain ⟨hargs, hKs, hV⟩ := hv0
  have hx := B.exec
  have hb := B.bytes
  have hr := B.returns
  have hts := atoms_spec (ws := wsL_drop) B.pre
  have hown : s.vm.findClass RL = some m.cls := findClass_of_methodNamed B.named
  have hlocks := B.notSynchronized
  have hS : va_S (hA N0) s.heap s.heap [] := va_S.rf
  have kl19 := hts (.classLink RL 19 "java/lang/IndexOutOfBoundsException") (by decide +kernel)
  have kl13 := hts (.classLink RL 13 "java/lang/IllegalStateException") (by decide +kernel)
  have hl := lv_entry ([.ref (ad (0)), .int (y0q), .int (y1q), .ref (ad (64))]) (n := 5) (Nat.le_of_ble_eq_true rfl)
  have hE : entryFrame m args 5 = entryFrame m ([.ref (ad (0)), .int (y0q), .int (y1q), .ref (ad (64))] : List Value).toArray 5 := by rw [hargs]
  rw [hE, lg_entry_eq]
  generalize (lg_sl ([.ref (ad (0)), .int (y0q), .int (y1q), .ref (ad (64))]) ++ List.replicate (5 - (lg_sl ([.ref (ad (0)), .int (y0q), .int (y1q), .ref (ad (64))])).length) Slot.unset).toArray = ls at hl ⊢
  have hl : lv_has ls 5 [(0, .ref (ad (0))), (1, .int (y0q)), (2, .int (y1q)), (3, .ref (ad (64)))] := hl
  have htab := vx_table (x := yL_drop) B (hts _ List.mem_cons_self)
  obtain ⟨-, -, -, -, -, hX6, hX7, hX8⟩ := id hKs
  obtain ⟨ad0, had0⟩ : ∃ z, z = ad := ⟨ad, rfl⟩
  obtain ⟨ct0, hct0⟩ : ∃ z, z = ct := ⟨ct, rfl⟩
  refine lv_aload_n hx hb dL_drop_0 rfl (lv_at hl 3 rfl) ?_
  refine lv_iconst (v := nI 0) hx hb dL_drop_1 (by decide) ?_
  refine lv_aload_n hx hb dL_drop_2 rfl (lv_at hl 0 rfl) ?_
  refine lv_iload_n hx hb dL_drop_3 rfl (lv_at hl 1 rfl) ?_
  refine lv_iload_n hx hb dL_drop_4 rfl (lv_at hl 2 rfl) ?_
  refine hv_callxi (vx_runV (As := [.int (y0q), .int (y1q)]) (rest := [.int (nI (0)), .ref (ad (64))]) ⟨hx, hb, hml, hown, hts⟩ (c_X3_drop l hfl D N0 ad ct hG hO (y0q) (y1q)) (cwV 2 hts gL_drop_X3_drop rfl rfl rfl (by decide +kernel) ⟨Nat.le_of_ble_eq_true rfl, Nat.le_of_ble_eq_true rfl⟩) (hv_preV (r := (RX3, TX3, 8)) hKs hV hS hG.1 rfl) rfl rfl hl.1 rfl (lv_room (Nat.le_of_ble_eq_true rfl)) dL_drop_5 ⟨(Nat.le_of_ble_eq_true rfl), (Nat.le_of_ble_eq_true rfl)⟩) hS (fun hk0 ce q9 H locs hV hS hce hcv hcl => ?_) (fun r9 u9 H locs hq hV hS => ?_)
  · have hkb : k_drop σ y0q y1q ≤ 2 := by unfold k_drop; (repeat' split) <;> omega
    rcases (show k_drop σ y0q y1q = 1 ∨ k_drop σ y0q y1q = 2 by omega) with h1 | h1
    · rw [h1] at hcl
      refine vx_catch (E := "java/lang/IndexOutOfBoundsException") hown [] _ _ (htab.trans rfl) (fun z hz => absurd hz List.not_mem_nil) (by decide) (by decide) kl19 (va_Nw.use rfl (hX6 _ (by decide))) hce hcv hcl ?_
      refine W.eq (g2 := F0 m 13 ls [.ref q9]) rfl ?_
      refine lv_astore (lv' := [(4, .ref (q9)), (0, .ref (ad (0))), (1, .int (y0q)), (2, .int (y1q)), (3, .ref (ad (64)))]) hx hb dL_drop_13 hl (by decide) rfl (fun ls hl => ?_)
      refine lv_iconst (v := nI 1) hx hb dL_drop_15 (by decide) ?_
      refine W.widen (k := 1) (n := 6) (by omega) (by omega) ?_
      exact hv_iret (v := nI (1)) (u := (ad, ct)) hx hb hr ⟨by rw [h1], fun h9 => absurd h9 hk0, fun _ => ⟨hG, fo, hout⟩, fun q q1 => ⟨rfl, fun _ => rfl⟩⟩ hV hS dL_drop_16 hlocks
    · rw [h1] at hcl
      refine vx_catch (E := "java/lang/IllegalStateException") hown [_] _ _ (htab.trans rfl) (fun z hz => by rcases List.mem_singleton.mp hz with rfl; exact Or.inr ⟨by decide, "java/lang/IndexOutOfBoundsException", kl19, hX7 _ (by decide) _ (by decide) (by decide)⟩) (by decide) (by decide) kl13 (va_Nw.use rfl (hX6 _ (by decide))) hce hcv hcl ?_
      refine W.eq (g2 := F0 m 17 ls [.ref q9]) rfl ?_
      refine lv_astore (lv' := [(4, .ref (q9)), (0, .ref (ad (0))), (1, .int (y0q)), (2, .int (y1q)), (3, .ref (ad (64)))]) hx hb dL_drop_17 hl (by decide) rfl (fun ls hl => ?_)
      refine lv_iconst (v := nI 2) hx hb dL_drop_19 (by decide) ?_
      refine W.widen (k := 1) (n := 6) (by omega) (by omega) ?_
      exact hv_iret (v := nI (2)) (u := (ad, ct)) hx hb hr ⟨by rw [h1], fun h9 => absurd h9 hk0, fun _ => ⟨hG, fo, hout⟩, fun q q1 => ⟨rfl, fun _ => rfl⟩⟩ hV hS dL_drop_20 hlocks
  · obtain ⟨ad, ct⟩ := u9
    dsimp only at hq
    obtain ⟨hkz, hr9, hG1, hF1⟩ := hq
    have hV : hv D N0 ad ct H := hV
    have hna := fun (q : Nat) (q1 : q % 16 = 0) => (hF1 q q1).1
    have hF2 : ∀ q : Nat, q % 16 = 0 → ad q = ad0 q ∧ (64 ≤ q → ct q = ct0 q) := fun q q1 => ⟨(hF1 q q1).1.trans (by rw [had0]), fun q2 => ((hF1 q q1).2 q2).trans (by rw [hct0])⟩
    refine hv_stk (st' := [.int r9, .int (nI (0)), .ref (ad (64))]) (by rw [(hF2 64 (by omega)).1, had0]) ?_
    have hout := ((hF1 64 (by omega)).2 (by omega)).trans hout
    have hl : lv_has ls 5 [] := lv_sub hl [] rfl
    refine lv_i2l hx hb dL_drop_8 rfl ?_
    refine hv_last hx hb hKs hV hS hout (by omega) (by decide) dL_drop_9 (fun ct H locs he hne hV hS => ?_)
    have hout := he
    refine lv_goto (tgt := 21) hx hb dL_drop_10 (by decide) ?_
    refine lv_iconst (v := nI 0) hx hb dL_drop_21 (by decide) ?_
    refine W.widen (k := 1) (n := 6) (by omega) (by omega) ?_
    exact hv_iret (v := nI (0)) (u := (ad, ct)) hx hb hr ⟨by rw [hkz], fun _ => ⟨hG1.out hne, _, hout, (by rw [va_up_self, hr9])⟩, fun h9 => absurd hkz h9, fun q q1 => ⟨(hF2 q q1).1.trans (by rw [had0]), fun q2 => ((hne q (by omega)).trans ((hF2 q q1).2 (by omega))).trans (by rw [hct0])⟩⟩ hV hS dL_drop_22 hlocks

set_option maxHeartbeats 4000000 in
set_option maxRecDepth 100000 in
theorem c_L_seen (l : Launch) (D : hG) (N0 : Nat) (ad : Nat → Nat) (ct : hC) (hfl : l.stackTraces = false) {σ : gS} (hG : gX D σ ad ct) (hO : okS σ) (y0q y1q y2q y3q : Int32) {fo : Nat → Int64} (hout : ct 64 = some (eL D 1 fo)) : Met l yL_seen wsL_seen ({ frames := 7, cells := 1, slots := 6, locals := 107 }) (hPc D N0 ad ct [.ref (ad (0)), .int (y0q), .int (y1q), .int (y2q), .int (y3q), .ref (ad (64))]) (va_Qi (fun (z : Int32) (u : hU) => wPost D (k_seen σ y0q y1q y2q y3q) (r_seen σ (4 * y0q.toInt.toNat + y1q.toInt.toNat) (8 * y2q.toInt.toNat + y3q.toInt.toNat)) σ (σ) ad ct z u) (hB D N0) (hA N0)) 1 6 (hA N0) := by
  refine va_MetW (cc := cL_seen) (maxL := 7) (ret := (some .int)) (hh := [(0, 14, 17, 19)]) (by decide) rfl ?_
  intro p e s m args below meth c s₁ B hml hv0
  obtain ⟨hargs, hKs, hV⟩ := hv0
  have hx := B.exec
  have hb := B.bytes
  have hr := B.returns
  have hts := atoms_spec (ws := wsL_seen) B.pre
  have hown : s.vm.findClass RL = some m.cls := findClass_of_methodNamed B.named
  have hlocks := B.notSynchronized
  have hS : va_S (hA N0) s.heap s.heap [] := va_S.rf
  have kl19 := hts (.classLink RL 19 "java/lang/IndexOutOfBoundsException") (by decide +kernel)
  have hl := lv_entry ([.ref (ad (0)), .int (y0q), .int (y1q), .int (y2q), .int (y3q), .ref (ad (64))]) (n := 7) (Nat.le_of_ble_eq_true rfl)
  have hE : entryFrame m args 7 = entryFrame m ([.ref (ad (0)), .int (y0q), .int (y1q), .int (y2q), .int (y3q), .ref (ad (64))] : List Value).toArray 7 := by rw [hargs]
  rw [hE, lg_entry_eq]
  generalize (lg_sl ([.ref (ad (0)), .int (y0q), .int (y1q), .int (y2q), .int (y3q), .ref (ad (64))]) ++ List.replicate (7 - (lg_sl ([.ref (ad (0)), .int (y0q), .int (y1q), .int (y2q), .int (y3q), .ref (ad (64))])).length) Slot.unset).toArray = ls at hl ⊢
  have hl : lv_has ls 7 [(0, .ref (ad (0))), (1, .int (y0q)), (2, .int (y1q)), (3, .int (y2q)), (4, .int (y3q)), (5, .ref (ad (64)))] := hl
  have htab := vx_table (x := yL_seen) B (hts _ List.mem_cons_self)
  obtain ⟨-, -, -, -, -, hX6, hX7, hX8⟩ := id hKs
  obtain ⟨ad0, had0⟩ : ∃ z, z = ad := ⟨ad, rfl⟩
  obtain ⟨ct0, hct0⟩ : ∃ z, z = ct := ⟨ct, rfl⟩
  refine lv_aload hx hb dL_seen_0 (lv_at hl 5 rfl) ?_
  refine lv_iconst (v := nI 0) hx hb dL_seen_2 (by decide) ?_
  refine lv_aload_n hx hb dL_seen_3 rfl (lv_at hl 0 rfl) ?_
  refine lv_iload_n hx hb dL_seen_4 rfl (lv_at hl 1 rfl) ?_
  refine lv_iload_n hx hb dL_seen_5 rfl (lv_at hl 2 rfl) ?_
  refine lv_iload_n hx hb dL_seen_6 rfl (lv_at hl 3 rfl) ?_
  refine lv_iload hx hb dL_seen_7 (lv_at hl 4 rfl) ?_
  refine hv_callxi (vx_runV (As := [.int (y0q), .int (y1q), .int (y2q), .int (y3q)]) (rest := [.int (nI (0)), .ref (ad (64))]) ⟨hx, hb, hml, hown, hts⟩ (c_X3_seen l hfl D N0 ad ct hG hO (y0q) (y1q) (y2q) (y3q)) (cwV 4 hts gL_seen_X3_seen rfl rfl rfl (by decide +kernel) ⟨Nat.le_of_ble_eq_true rfl, Nat.le_of_ble_eq_true rfl⟩) (hv_preV (r := (RX3, TX3, 8)) hKs hV hS hG.1 rfl) rfl rfl hl.1 rfl (lv_room (Nat.le_of_ble_eq_true rfl)) dL_seen_9 ⟨(Nat.le_of_ble_eq_true rfl), (Nat.le_of_ble_eq_true rfl)⟩) hS (fun hk0 ce q9 H locs hV hS hce hcv hcl => ?_) (fun r9 u9 H locs hq hV hS => ?_)
  · have hkb : k_seen σ y0q y1q y2q y3q ≤ 1 := by unfold k_seen; (repeat' split) <;> omega
    rcases (show k_seen σ y0q y1q y2q y3q = 1 by omega) with h1
    rw [h1] at hcl
    refine vx_catch (E := "java/lang/IndexOutOfBoundsException") hown [] _ _ (htab.trans rfl) (fun z hz => absurd hz List.not_mem_nil) (by decide) (by decide) kl19 (va_Nw.use rfl (hX6 _ (by decide))) hce hcv hcl ?_
    refine W.eq (g2 := F0 m 17 ls [.ref q9]) rfl ?_
    refine lv_astore (lv' := [(6, .ref (q9)), (0, .ref (ad (0))), (1, .int (y0q)), (2, .int (y1q)), (3, .int (y2q)), (4, .int (y3q)), (5, .ref (ad (64)))]) hx hb dL_seen_17 hl (by decide) rfl (fun ls hl => ?_)
    refine lv_iconst (v := nI 1) hx hb dL_seen_19 (by decide) ?_
    refine W.widen (k := 1) (n := 6) (by omega) (by omega) ?_
    exact hv_iret (v := nI (1)) (u := (ad, ct)) hx hb hr ⟨by rw [h1], fun h9 => absurd h9 hk0, fun _ => ⟨hG, fo, hout⟩, fun q q1 => ⟨rfl, fun _ => rfl⟩⟩ hV hS dL_seen_20 hlocks
  · obtain ⟨hkz, hr9, hu9⟩ := hq
    subst hu9
    have hV : hv D N0 ad ct H := hV
    have hG1 := hG
    have hF1 : hFr ad ct (ad, ct) := fun q _ => ⟨rfl, fun _ => rfl⟩
    have hF2 : ∀ q : Nat, q % 16 = 0 → ad q = ad0 q ∧ (64 ≤ q → ct q = ct0 q) := fun q _ => ⟨by rw [had0], fun _ => by rw [hct0]⟩
    have hl : lv_has ls 7 [] := lv_sub hl [] rfl
    refine lv_i2l hx hb dL_seen_12 rfl ?_
    refine hv_last hx hb hKs hV hS hout (by omega) (by decide) dL_seen_13 (fun ct H locs he hne hV hS => ?_)
    have hout := he
    refine lv_goto (tgt := 21) hx hb dL_seen_14 (by decide) ?_
    refine lv_iconst (v := nI 0) hx hb dL_seen_21 (by decide) ?_
    refine W.widen (k := 1) (n := 6) (by omega) (by omega) ?_
    exact hv_iret (v := nI (0)) (u := (ad, ct)) hx hb hr ⟨by rw [hkz], fun _ => ⟨hG1.out hne, _, hout, (by rw [va_up_self, hr9])⟩, fun h9 => absurd hkz h9, fun q q1 => ⟨(hF2 q q1).1.trans (by rw [had0]), fun q2 => ((hne q (by omega)).trans ((hF2 q q1).2 (by omega))).trans (by rw [hct0])⟩⟩ hV hS dL_seen_22 hlocks

set_option maxHeartbeats 4000000 in
set_option maxRecDepth 100000 in
theorem c_L_count (l : Launch) (D : hG) (N0 : Nat) (ad : Nat → Nat) (ct : hC) (hfl : l.stackTraces = false) {σ : gS} (hG : gX D σ ad ct) (hO : okS σ) (y0q : Int32) {fo : Nat → Int64} (hout : ct 64 = some (eL D 1 fo)) : Met l yL_count wsL_count ({ frames := 8, cells := 1, slots := 6, locals := 180 }) (hPc D N0 ad ct [.ref (ad (0)), .int (y0q), .ref (ad (64))]) (va_Qi (fun (z : Int32) (u : hU) => wPost D (k_count y0q) (tal σ y0q.toInt.toNat) σ (σ) ad ct z u) (hB D N0) (hA N0)) 1 6 (hA N0) := by
  refine va_MetW (cc := cL_count) (maxL := 4) (ret := (some .int)) (hh := [(0, 9, 12, 19)]) (by decide) rfl ?_
  intro p e s m args below meth c s₁ B hml hv0
  obtain ⟨hargs, hKs, hV⟩ := hv0
  have hx := B.exec
  have hb := B.bytes
  have hr := B.returns
  have hts := atoms_spec (ws := wsL_count) B.pre
  have hown : s.vm.findClass RL = some m.cls := findClass_of_methodNamed B.named
  have hlocks := B.notSynchronized
  have hS : va_S (hA N0) s.heap s.heap [] := va_S.rf
  have kl19 := hts (.classLink RL 19 "java/lang/IndexOutOfBoundsException") (by decide +kernel)
  have hl := lv_entry ([.ref (ad (0)), .int (y0q), .ref (ad (64))]) (n := 4) (Nat.le_of_ble_eq_true rfl)
  have hE : entryFrame m args 4 = entryFrame m ([.ref (ad (0)), .int (y0q), .ref (ad (64))] : List Value).toArray 4 := by rw [hargs]
  rw [hE, lg_entry_eq]
  generalize (lg_sl ([.ref (ad (0)), .int (y0q), .ref (ad (64))]) ++ List.replicate (4 - (lg_sl ([.ref (ad (0)), .int (y0q), .ref (ad (64))])).length) Slot.unset).toArray = ls at hl ⊢
  have hl : lv_has ls 4 [(0, .ref (ad (0))), (1, .int (y0q)), (2, .ref (ad (64)))] := hl
  have htab := vx_table (x := yL_count) B (hts _ List.mem_cons_self)
  obtain ⟨-, -, -, -, -, hX6, hX7, hX8⟩ := id hKs
  obtain ⟨ad0, had0⟩ : ∃ z, z = ad := ⟨ad, rfl⟩
  obtain ⟨ct0, hct0⟩ : ∃ z, z = ct := ⟨ct, rfl⟩
  refine lv_aload_n hx hb dL_count_0 rfl (lv_at hl 2 rfl) ?_
  refine lv_iconst (v := nI 0) hx hb dL_count_1 (by decide) ?_
  refine lv_aload_n hx hb dL_count_2 rfl (lv_at hl 0 rfl) ?_
  refine lv_iload_n hx hb dL_count_3 rfl (lv_at hl 1 rfl) ?_
  refine hv_callxi (vx_runV (As := [.int (y0q)]) (rest := [.int (nI (0)), .ref (ad (64))]) ⟨hx, hb, hml, hown, hts⟩ (c_X3_count l hfl D N0 ad ct hG hO (y0q)) (cwV 1 hts gL_count_X3_count rfl rfl rfl (by decide +kernel) ⟨Nat.le_of_ble_eq_true rfl, Nat.le_of_ble_eq_true rfl⟩) (hv_preV (r := (RX3, TX3, 8)) hKs hV hS hG.1 rfl) rfl rfl hl.1 rfl (lv_room (Nat.le_of_ble_eq_true rfl)) dL_count_4 ⟨(Nat.le_of_ble_eq_true rfl), (Nat.le_of_ble_eq_true rfl)⟩) hS (fun hk0 ce q9 H locs hV hS hce hcv hcl => ?_) (fun r9 u9 H locs hq hV hS => ?_)
  · have hkb : k_count y0q ≤ 1 := by unfold k_count; (repeat' split) <;> omega
    rcases (show k_count y0q = 1 by omega) with h1
    rw [h1] at hcl
    refine vx_catch (E := "java/lang/IndexOutOfBoundsException") hown [] _ _ (htab.trans rfl) (fun z hz => absurd hz List.not_mem_nil) (by decide) (by decide) kl19 (va_Nw.use rfl (hX6 _ (by decide))) hce hcv hcl ?_
    refine W.eq (g2 := F0 m 12 ls [.ref q9]) rfl ?_
    refine lv_astore_n (lv' := [(3, .ref (q9)), (0, .ref (ad (0))), (1, .int (y0q)), (2, .ref (ad (64)))]) hx hb dL_count_12 rfl hl (by decide) rfl (fun ls hl => ?_)
    refine lv_iconst (v := nI 1) hx hb dL_count_13 (by decide) ?_
    refine W.widen (k := 1) (n := 6) (by omega) (by omega) ?_
    exact hv_iret (v := nI (1)) (u := (ad, ct)) hx hb hr ⟨by rw [h1], fun h9 => absurd h9 hk0, fun _ => ⟨hG, fo, hout⟩, fun q q1 => ⟨rfl, fun _ => rfl⟩⟩ hV hS dL_count_14 hlocks
  · obtain ⟨hkz, hr9, hu9⟩ := hq
    subst hu9
    have hV : hv D N0 ad ct H := hV
    have hG1 := hG
    have hF1 : hFr ad ct (ad, ct) := fun q _ => ⟨rfl, fun _ => rfl⟩
    have hF2 : ∀ q : Nat, q % 16 = 0 → ad q = ad0 q ∧ (64 ≤ q → ct q = ct0 q) := fun q _ => ⟨by rw [had0], fun _ => by rw [hct0]⟩
    have hl : lv_has ls 4 [] := lv_sub hl [] rfl
    refine lv_i2l hx hb dL_count_7 rfl ?_
    refine hv_last hx hb hKs hV hS hout (by omega) (by decide) dL_count_8 (fun ct H locs he hne hV hS => ?_)
    have hout := he
    refine lv_goto (tgt := 15) hx hb dL_count_9 (by decide) ?_
    refine lv_iconst (v := nI 0) hx hb dL_count_15 (by decide) ?_
    refine W.widen (k := 1) (n := 6) (by omega) (by omega) ?_
    exact hv_iret (v := nI (0)) (u := (ad, ct)) hx hb hr ⟨by rw [hkz], fun _ => ⟨hG1.out hne, _, hout, (by rw [va_up_self, hr9])⟩, fun h9 => absurd hkz h9, fun q q1 => ⟨(hF2 q q1).1.trans (by rw [had0]), fun q2 => ((hne q (by omega)).trans ((hF2 q q1).2 (by omega))).trans (by rw [hct0])⟩⟩ hV hS dL_count_16 hlocks

set_option maxHeartbeats 4000000 in
set_option maxRecDepth 100000 in
theorem c_L_again (l : Launch) (D : hG) (N0 : Nat) (ad : Nat → Nat) (ct : hC) (hfl : l.stackTraces = false) {σ : gS} (hG : gX D σ ad ct) (hO : okS σ) (y0q y1q : Int32) {fo : Nat → Int64} (hout : ct 64 = some (eL D 1 fo)) : Met l yL_again wsL_again ({ frames := 7, cells := 1, slots := 6, locals := 114 }) (hPc D N0 ad ct [.ref (ad (0)), .int (y0q), .int (y1q), .ref (ad (64))]) (va_Qi (fun (z : Int32) (u : hU) => wPost D (k_again σ y0q y1q) (r_again σ y0q.toInt.toNat y1q.toInt.toNat) σ (σ) ad ct z u) (hB D N0) (hA N0)) 1 6 (hA N0) := by
  refine va_MetW (cc := cL_again) (maxL := 5) (ret := (some .int)) (hh := [(0, 10, 13, 19)]) (by decide) rfl ?_
  intro p e s m args below meth c s₁ B hml hv0
  obtain ⟨hargs, hKs, hV⟩ := hv0
  have hx := B.exec
  have hb := B.bytes
  have hr := B.returns
  have hts := atoms_spec (ws := wsL_again) B.pre
  have hown : s.vm.findClass RL = some m.cls := findClass_of_methodNamed B.named
  have hlocks := B.notSynchronized
  have hS : va_S (hA N0) s.heap s.heap [] := va_S.rf
  have kl19 := hts (.classLink RL 19 "java/lang/IndexOutOfBoundsException") (by decide +kernel)
  have hl := lv_entry ([.ref (ad (0)), .int (y0q), .int (y1q), .ref (ad (64))]) (n := 5) (Nat.le_of_ble_eq_true rfl)
  have hE : entryFrame m args 5 = entryFrame m ([.ref (ad (0)), .int (y0q), .int (y1q), .ref (ad (64))] : List Value).toArray 5 := by rw [hargs]
  rw [hE, lg_entry_eq]
  generalize (lg_sl ([.ref (ad (0)), .int (y0q), .int (y1q), .ref (ad (64))]) ++ List.replicate (5 - (lg_sl ([.ref (ad (0)), .int (y0q), .int (y1q), .ref (ad (64))])).length) Slot.unset).toArray = ls at hl ⊢
  have hl : lv_has ls 5 [(0, .ref (ad (0))), (1, .int (y0q)), (2, .int (y1q)), (3, .ref (ad (64)))] := hl
  have htab := vx_table (x := yL_again) B (hts _ List.mem_cons_self)
  obtain ⟨-, -, -, -, -, hX6, hX7, hX8⟩ := id hKs
  obtain ⟨ad0, had0⟩ : ∃ z, z = ad := ⟨ad, rfl⟩
  obtain ⟨ct0, hct0⟩ : ∃ z, z = ct := ⟨ct, rfl⟩
  refine lv_aload_n hx hb dL_again_0 rfl (lv_at hl 3 rfl) ?_
  refine lv_iconst (v := nI 0) hx hb dL_again_1 (by decide) ?_
  refine lv_aload_n hx hb dL_again_2 rfl (lv_at hl 0 rfl) ?_
  refine lv_iload_n hx hb dL_again_3 rfl (lv_at hl 1 rfl) ?_
  refine lv_iload_n hx hb dL_again_4 rfl (lv_at hl 2 rfl) ?_
  refine hv_callxi (vx_runV (As := [.int (y0q), .int (y1q)]) (rest := [.int (nI (0)), .ref (ad (64))]) ⟨hx, hb, hml, hown, hts⟩ (c_X3_again l hfl D N0 ad ct hG hO (y0q) (y1q)) (cwV 2 hts gL_again_X3_again rfl rfl rfl (by decide +kernel) ⟨Nat.le_of_ble_eq_true rfl, Nat.le_of_ble_eq_true rfl⟩) (hv_preV (r := (RX3, TX3, 8)) hKs hV hS hG.1 rfl) rfl rfl hl.1 rfl (lv_room (Nat.le_of_ble_eq_true rfl)) dL_again_5 ⟨(Nat.le_of_ble_eq_true rfl), (Nat.le_of_ble_eq_true rfl)⟩) hS (fun hk0 ce q9 H locs hV hS hce hcv hcl => ?_) (fun r9 u9 H locs hq hV hS => ?_)
  · have hkb : k_again σ y0q y1q ≤ 1 := by unfold k_again; (repeat' split) <;> omega
    rcases (show k_again σ y0q y1q = 1 by omega) with h1
    rw [h1] at hcl
    refine vx_catch (E := "java/lang/IndexOutOfBoundsException") hown [] _ _ (htab.trans rfl) (fun z hz => absurd hz List.not_mem_nil) (by decide) (by decide) kl19 (va_Nw.use rfl (hX6 _ (by decide))) hce hcv hcl ?_
    refine W.eq (g2 := F0 m 13 ls [.ref q9]) rfl ?_
    refine lv_astore (lv' := [(4, .ref (q9)), (0, .ref (ad (0))), (1, .int (y0q)), (2, .int (y1q)), (3, .ref (ad (64)))]) hx hb dL_again_13 hl (by decide) rfl (fun ls hl => ?_)
    refine lv_iconst (v := nI 1) hx hb dL_again_15 (by decide) ?_
    refine W.widen (k := 1) (n := 6) (by omega) (by omega) ?_
    exact hv_iret (v := nI (1)) (u := (ad, ct)) hx hb hr ⟨by rw [h1], fun h9 => absurd h9 hk0, fun _ => ⟨hG, fo, hout⟩, fun q q1 => ⟨rfl, fun _ => rfl⟩⟩ hV hS dL_again_16 hlocks
  · obtain ⟨hkz, hr9, hu9⟩ := hq
    subst hu9
    have hV : hv D N0 ad ct H := hV
    have hG1 := hG
    have hF1 : hFr ad ct (ad, ct) := fun q _ => ⟨rfl, fun _ => rfl⟩
    have hF2 : ∀ q : Nat, q % 16 = 0 → ad q = ad0 q ∧ (64 ≤ q → ct q = ct0 q) := fun q _ => ⟨by rw [had0], fun _ => by rw [hct0]⟩
    have hl : lv_has ls 5 [] := lv_sub hl [] rfl
    refine lv_i2l hx hb dL_again_8 rfl ?_
    refine hv_last hx hb hKs hV hS hout (by omega) (by decide) dL_again_9 (fun ct H locs he hne hV hS => ?_)
    have hout := he
    refine lv_goto (tgt := 17) hx hb dL_again_10 (by decide) ?_
    refine lv_iconst (v := nI 0) hx hb dL_again_17 (by decide) ?_
    refine W.widen (k := 1) (n := 6) (by omega) (by omega) ?_
    exact hv_iret (v := nI (0)) (u := (ad, ct)) hx hb hr ⟨by rw [hkz], fun _ => ⟨hG1.out hne, _, hout, (by rw [va_up_self, hr9])⟩, fun h9 => absurd hkz h9, fun q q1 => ⟨(hF2 q q1).1.trans (by rw [had0]), fun q2 => ((hne q (by omega)).trans ((hF2 q q1).2 (by omega))).trans (by rw [hct0])⟩⟩ hV hS dL_again_18 hlocks

set_option maxHeartbeats 4000000 in
set_option maxRecDepth 100000 in
theorem c_L_turn (l : Launch) (D : hG) (N0 : Nat) (ad : Nat → Nat) (ct : hC) (hfl : l.stackTraces = false) {σ : gS} (hG : gX D σ ad ct) (hO : okS σ) (y0q y1q : Int32) {fo : Nat → Int64} (hout : ct 64 = some (eL D 1 fo)) : Met l yL_turn wsL_turn ({ frames := 7, cells := 1, slots := 6, locals := 136 }) (hPc D N0 ad ct [.ref (ad (0)), .int (y0q), .int (y1q), .ref (ad (64))]) (va_Qi (fun (z : Int32) (u : hU) => wPost D (k_turn σ y0q y1q) (plc 8 (lturn (sPt σ y0q.toInt.toNat) (sPt σ y1q.toInt.toNat))) σ (σ) ad ct z u) (hB D N0) (hA N0)) 1 6 (hA N0) := by
  refine va_MetW (cc := cL_turn) (maxL := 5) (ret := (some .int)) (hh := [(0, 10, 13, 19)]) (by decide) rfl ?_
  intro p e s m args below meth c s₁ B hml hv0
  obtain ⟨hargs, hKs, hV⟩ := hv0
  have hx := B.exec
  have hb := B.bytes
  have hr := B.returns
  have hts := atoms_spec (ws := wsL_turn) B.pre
  have hown : s.vm.findClass RL = some m.cls := findClass_of_methodNamed B.named
  have hlocks := B.notSynchronized
  have hS : va_S (hA N0) s.heap s.heap [] := va_S.rf
  have kl19 := hts (.classLink RL 19 "java/lang/IndexOutOfBoundsException") (by decide +kernel)
  have hl := lv_entry ([.ref (ad (0)), .int (y0q), .int (y1q), .ref (ad (64))]) (n := 5) (Nat.le_of_ble_eq_true rfl)
  have hE : entryFrame m args 5 = entryFrame m ([.ref (ad (0)), .int (y0q), .int (y1q), .ref (ad (64))] : List Value).toArray 5 := by rw [hargs]
  rw [hE, lg_entry_eq]
  generalize (lg_sl ([.ref (ad (0)), .int (y0q), .int (y1q), .ref (ad (64))]) ++ List.replicate (5 - (lg_sl ([.ref (ad (0)), .int (y0q), .int (y1q), .ref (ad (64))])).length) Slot.unset).toArray = ls at hl ⊢
  have hl : lv_has ls 5 [(0, .ref (ad (0))), (1, .int (y0q)), (2, .int (y1q)), (3, .ref (ad (64)))] := hl
  have htab := vx_table (x := yL_turn) B (hts _ List.mem_cons_self)
  obtain ⟨-, -, -, -, -, hX6, hX7, hX8⟩ := id hKs
  obtain ⟨ad0, had0⟩ : ∃ z, z = ad := ⟨ad, rfl⟩
  obtain ⟨ct0, hct0⟩ : ∃ z, z = ct := ⟨ct, rfl⟩
  refine lv_aload_n hx hb dL_turn_0 rfl (lv_at hl 3 rfl) ?_
  refine lv_iconst (v := nI 0) hx hb dL_turn_1 (by decide) ?_
  refine lv_aload_n hx hb dL_turn_2 rfl (lv_at hl 0 rfl) ?_
  refine lv_iload_n hx hb dL_turn_3 rfl (lv_at hl 1 rfl) ?_
  refine lv_iload_n hx hb dL_turn_4 rfl (lv_at hl 2 rfl) ?_
  refine hv_callxi (vx_runV (As := [.int (y0q), .int (y1q)]) (rest := [.int (nI (0)), .ref (ad (64))]) ⟨hx, hb, hml, hown, hts⟩ (c_X3_turn l hfl D N0 ad ct hG hO (y0q) (y1q)) (cwV 2 hts gL_turn_X3_turn rfl rfl rfl (by decide +kernel) ⟨Nat.le_of_ble_eq_true rfl, Nat.le_of_ble_eq_true rfl⟩) (hv_preV (r := (RX3, TX3, 8)) hKs hV hS hG.1 rfl) rfl rfl hl.1 rfl (lv_room (Nat.le_of_ble_eq_true rfl)) dL_turn_5 ⟨(Nat.le_of_ble_eq_true rfl), (Nat.le_of_ble_eq_true rfl)⟩) hS (fun hk0 ce q9 H locs hV hS hce hcv hcl => ?_) (fun r9 u9 H locs hq hV hS => ?_)
  · have hkb : k_turn σ y0q y1q ≤ 1 := by unfold k_turn; (repeat' split) <;> omega
    rcases (show k_turn σ y0q y1q = 1 by omega) with h1
    rw [h1] at hcl
    refine vx_catch (E := "java/lang/IndexOutOfBoundsException") hown [] _ _ (htab.trans rfl) (fun z hz => absurd hz List.not_mem_nil) (by decide) (by decide) kl19 (va_Nw.use rfl (hX6 _ (by decide))) hce hcv hcl ?_
    refine W.eq (g2 := F0 m 13 ls [.ref q9]) rfl ?_
    refine lv_astore (lv' := [(4, .ref (q9)), (0, .ref (ad (0))), (1, .int (y0q)), (2, .int (y1q)), (3, .ref (ad (64)))]) hx hb dL_turn_13 hl (by decide) rfl (fun ls hl => ?_)
    refine lv_iconst (v := nI 1) hx hb dL_turn_15 (by decide) ?_
    refine W.widen (k := 1) (n := 6) (by omega) (by omega) ?_
    exact hv_iret (v := nI (1)) (u := (ad, ct)) hx hb hr ⟨by rw [h1], fun h9 => absurd h9 hk0, fun _ => ⟨hG, fo, hout⟩, fun q q1 => ⟨rfl, fun _ => rfl⟩⟩ hV hS dL_turn_16 hlocks
  · obtain ⟨hkz, hr9, hu9⟩ := hq
    subst hu9
    have hV : hv D N0 ad ct H := hV
    have hG1 := hG
    have hF1 : hFr ad ct (ad, ct) := fun q _ => ⟨rfl, fun _ => rfl⟩
    have hF2 : ∀ q : Nat, q % 16 = 0 → ad q = ad0 q ∧ (64 ≤ q → ct q = ct0 q) := fun q _ => ⟨by rw [had0], fun _ => by rw [hct0]⟩
    have hl : lv_has ls 5 [] := lv_sub hl [] rfl
    refine lv_i2l hx hb dL_turn_8 rfl ?_
    refine hv_last hx hb hKs hV hS hout (by omega) (by decide) dL_turn_9 (fun ct H locs he hne hV hS => ?_)
    have hout := he
    refine lv_goto (tgt := 17) hx hb dL_turn_10 (by decide) ?_
    refine lv_iconst (v := nI 0) hx hb dL_turn_17 (by decide) ?_
    refine W.widen (k := 1) (n := 6) (by omega) (by omega) ?_
    exact hv_iret (v := nI (0)) (u := (ad, ct)) hx hb hr ⟨by rw [hkz], fun _ => ⟨hG1.out hne, _, hout, (by rw [va_up_self, hr9])⟩, fun h9 => absurd hkz h9, fun q q1 => ⟨(hF2 q q1).1.trans (by rw [had0]), fun q2 => ((hne q (by omega)).trans ((hF2 q q1).2 (by omega))).trans (by rw [hct0])⟩⟩ hV hS dL_turn_18 hlocks

set_option maxHeartbeats 4000000 in
set_option maxRecDepth 100000 in
theorem c_L_cuts (l : Launch) (D : hG) (N0 : Nat) (ad : Nat → Nat) (ct : hC) (hfl : l.stackTraces = false) {σ : gS} (hG : gX D σ ad ct) (hO : okS σ) (y0q y1q : Int32) {fo : Nat → Int64} (hout : ct 64 = some (eL D 1 fo)) : Met l yL_cuts wsL_cuts ({ frames := 7, cells := 1, slots := 6, locals := 115 }) (hPc D N0 ad ct [.ref (ad (0)), .int (y0q), .int (y1q), .ref (ad (64))]) (va_Qi (fun (z : Int32) (u : hU) => wPost D (k_cuts σ y0q y1q) (r_cuts σ y0q.toInt.toNat y1q.toInt.toNat) σ (σ) ad ct z u) (hB D N0) (hA N0)) 1 6 (hA N0) := by
  refine va_MetW (cc := cL_cuts) (maxL := 5) (ret := (some .int)) (hh := [(0, 10, 13, 19)]) (by decide) rfl ?_
  intro p e s m args below meth c s₁ B hml hv0
  obtain ⟨hargs, hKs, hV⟩ := hv0
  have hx := B.exec
  have hb := B.bytes
  have hr := B.returns
  have hts := atoms_spec (ws := wsL_cuts) B.pre
  have hown : s.vm.findClass RL = some m.cls := findClass_of_methodNamed B.named
  have hlocks := B.notSynchronized
  have hS : va_S (hA N0) s.heap s.heap [] := va_S.rf
  have kl19 := hts (.classLink RL 19 "java/lang/IndexOutOfBoundsException") (by decide +kernel)
  have hl := lv_entry ([.ref (ad (0)), .int (y0q), .int (y1q), .ref (ad (64))]) (n := 5) (Nat.le_of_ble_eq_true rfl)
  have hE : entryFrame m args 5 = entryFrame m ([.ref (ad (0)), .int (y0q), .int (y1q), .ref (ad (64))] : List Value).toArray 5 := by rw [hargs]
  rw [hE, lg_entry_eq]
  generalize (lg_sl ([.ref (ad (0)), .int (y0q), .int (y1q), .ref (ad (64))]) ++ List.replicate (5 - (lg_sl ([.ref (ad (0)), .int (y0q), .int (y1q), .ref (ad (64))])).length) Slot.unset).toArray = ls at hl ⊢
  have hl : lv_has ls 5 [(0, .ref (ad (0))), (1, .int (y0q)), (2, .int (y1q)), (3, .ref (ad (64)))] := hl
  have htab := vx_table (x := yL_cuts) B (hts _ List.mem_cons_self)
  obtain ⟨-, -, -, -, -, hX6, hX7, hX8⟩ := id hKs
  obtain ⟨ad0, had0⟩ : ∃ z, z = ad := ⟨ad, rfl⟩
  obtain ⟨ct0, hct0⟩ : ∃ z, z = ct := ⟨ct, rfl⟩
  refine lv_aload_n hx hb dL_cuts_0 rfl (lv_at hl 3 rfl) ?_
  refine lv_iconst (v := nI 0) hx hb dL_cuts_1 (by decide) ?_
  refine lv_aload_n hx hb dL_cuts_2 rfl (lv_at hl 0 rfl) ?_
  refine lv_iload_n hx hb dL_cuts_3 rfl (lv_at hl 1 rfl) ?_
  refine lv_iload_n hx hb dL_cuts_4 rfl (lv_at hl 2 rfl) ?_
  refine hv_callxi (vx_runV (As := [.int (y0q), .int (y1q)]) (rest := [.int (nI (0)), .ref (ad (64))]) ⟨hx, hb, hml, hown, hts⟩ (c_X3_cuts l hfl D N0 ad ct hG hO (y0q) (y1q)) (cwV 2 hts gL_cuts_X3_cuts rfl rfl rfl (by decide +kernel) ⟨Nat.le_of_ble_eq_true rfl, Nat.le_of_ble_eq_true rfl⟩) (hv_preV (r := (RX3, TX3, 8)) hKs hV hS hG.1 rfl) rfl rfl hl.1 rfl (lv_room (Nat.le_of_ble_eq_true rfl)) dL_cuts_5 ⟨(Nat.le_of_ble_eq_true rfl), (Nat.le_of_ble_eq_true rfl)⟩) hS (fun hk0 ce q9 H locs hV hS hce hcv hcl => ?_) (fun r9 u9 H locs hq hV hS => ?_)
  · have hkb : k_cuts σ y0q y1q ≤ 1 := by unfold k_cuts; (repeat' split) <;> omega
    rcases (show k_cuts σ y0q y1q = 1 by omega) with h1
    rw [h1] at hcl
    refine vx_catch (E := "java/lang/IndexOutOfBoundsException") hown [] _ _ (htab.trans rfl) (fun z hz => absurd hz List.not_mem_nil) (by decide) (by decide) kl19 (va_Nw.use rfl (hX6 _ (by decide))) hce hcv hcl ?_
    refine W.eq (g2 := F0 m 13 ls [.ref q9]) rfl ?_
    refine lv_astore (lv' := [(4, .ref (q9)), (0, .ref (ad (0))), (1, .int (y0q)), (2, .int (y1q)), (3, .ref (ad (64)))]) hx hb dL_cuts_13 hl (by decide) rfl (fun ls hl => ?_)
    refine lv_iconst (v := nI 1) hx hb dL_cuts_15 (by decide) ?_
    refine W.widen (k := 1) (n := 6) (by omega) (by omega) ?_
    exact hv_iret (v := nI (1)) (u := (ad, ct)) hx hb hr ⟨by rw [h1], fun h9 => absurd h9 hk0, fun _ => ⟨hG, fo, hout⟩, fun q q1 => ⟨rfl, fun _ => rfl⟩⟩ hV hS dL_cuts_16 hlocks
  · obtain ⟨hkz, hr9, hu9⟩ := hq
    subst hu9
    have hV : hv D N0 ad ct H := hV
    have hG1 := hG
    have hF1 : hFr ad ct (ad, ct) := fun q _ => ⟨rfl, fun _ => rfl⟩
    have hF2 : ∀ q : Nat, q % 16 = 0 → ad q = ad0 q ∧ (64 ≤ q → ct q = ct0 q) := fun q _ => ⟨by rw [had0], fun _ => by rw [hct0]⟩
    have hl : lv_has ls 5 [] := lv_sub hl [] rfl
    refine lv_i2l hx hb dL_cuts_8 rfl ?_
    refine hv_last hx hb hKs hV hS hout (by omega) (by decide) dL_cuts_9 (fun ct H locs he hne hV hS => ?_)
    have hout := he
    refine lv_goto (tgt := 17) hx hb dL_cuts_10 (by decide) ?_
    refine lv_iconst (v := nI 0) hx hb dL_cuts_17 (by decide) ?_
    refine W.widen (k := 1) (n := 6) (by omega) (by omega) ?_
    exact hv_iret (v := nI (0)) (u := (ad, ct)) hx hb hr ⟨by rw [hkz], fun _ => ⟨hG1.out hne, _, hout, (by rw [va_up_self, hr9])⟩, fun h9 => absurd hkz h9, fun q q1 => ⟨(hF2 q q1).1.trans (by rw [had0]), fun q2 => ((hne q (by omega)).trans ((hF2 q q1).2 (by omega))).trans (by rw [hct0])⟩⟩ hV hS dL_cuts_18 hlocks

set_option maxHeartbeats 4000000 in
set_option maxRecDepth 100000 in
theorem c_L_mends (l : Launch) (D : hG) (N0 : Nat) (ad : Nat → Nat) (ct : hC) (hfl : l.stackTraces = false) {σ : gS} (hG : gX D σ ad ct) (hO : okS σ) (y0q : Int32) {fo : Nat → Int64} (hout : ct 64 = some (eL D 1 fo)) : Met l yL_mends wsL_mends ({ frames := 7, cells := 1, slots := 6, locals := 141 }) (hPc D N0 ad ct [.ref (ad (0)), .int (y0q), .ref (ad (64))]) (va_Qi (fun (z : Int32) (u : hU) => wPost D (k_mends σ y0q) (r_mends σ y0q.toInt.toNat) σ (σ) ad ct z u) (hB D N0) (hA N0)) 1 6 (hA N0) := by
  refine va_MetW (cc := cL_mends) (maxL := 4) (ret := (some .int)) (hh := [(0, 9, 12, 19)]) (by decide) rfl ?_
  intro p e s m args below meth c s₁ B hml hv0
  obtain ⟨hargs, hKs, hV⟩ := hv0
  have hx := B.exec
  have hb := B.bytes
  have hr := B.returns
  have hts := atoms_spec (ws := wsL_mends) B.pre
  have hown : s.vm.findClass RL = some m.cls := findClass_of_methodNamed B.named
  have hlocks := B.notSynchronized
  have hS : va_S (hA N0) s.heap s.heap [] := va_S.rf
  have kl19 := hts (.classLink RL 19 "java/lang/IndexOutOfBoundsException") (by decide +kernel)
  have hl := lv_entry ([.ref (ad (0)), .int (y0q), .ref (ad (64))]) (n := 4) (Nat.le_of_ble_eq_true rfl)
  have hE : entryFrame m args 4 = entryFrame m ([.ref (ad (0)), .int (y0q), .ref (ad (64))] : List Value).toArray 4 := by rw [hargs]
  rw [hE, lg_entry_eq]
  generalize (lg_sl ([.ref (ad (0)), .int (y0q), .ref (ad (64))]) ++ List.replicate (4 - (lg_sl ([.ref (ad (0)), .int (y0q), .ref (ad (64))])).length) Slot.unset).toArray = ls at hl ⊢
  have hl : lv_has ls 4 [(0, .ref (ad (0))), (1, .int (y0q)), (2, .ref (ad (64)))] := hl
  have htab := vx_table (x := yL_mends) B (hts _ List.mem_cons_self)
  obtain ⟨-, -, -, -, -, hX6, hX7, hX8⟩ := id hKs
  obtain ⟨ad0, had0⟩ : ∃ z, z = ad := ⟨ad, rfl⟩
  obtain ⟨ct0, hct0⟩ : ∃ z, z = ct := ⟨ct, rfl⟩
  refine lv_aload_n hx hb dL_mends_0 rfl (lv_at hl 2 rfl) ?_
  refine lv_iconst (v := nI 0) hx hb dL_mends_1 (by decide) ?_
  refine lv_aload_n hx hb dL_mends_2 rfl (lv_at hl 0 rfl) ?_
  refine lv_iload_n hx hb dL_mends_3 rfl (lv_at hl 1 rfl) ?_
  refine hv_callxi (vx_runV (As := [.int (y0q)]) (rest := [.int (nI (0)), .ref (ad (64))]) ⟨hx, hb, hml, hown, hts⟩ (c_X3_mends l hfl D N0 ad ct hG hO (y0q)) (cwV 1 hts gL_mends_X3_mends rfl rfl rfl (by decide +kernel) ⟨Nat.le_of_ble_eq_true rfl, Nat.le_of_ble_eq_true rfl⟩) (hv_preV (r := (RX3, TX3, 8)) hKs hV hS hG.1 rfl) rfl rfl hl.1 rfl (lv_room (Nat.le_of_ble_eq_true rfl)) dL_mends_4 ⟨(Nat.le_of_ble_eq_true rfl), (Nat.le_of_ble_eq_true rfl)⟩) hS (fun hk0 ce q9 H locs hV hS hce hcv hcl => ?_) (fun r9 u9 H locs hq hV hS => ?_)
  · have hkb : k_mends σ y0q ≤ 1 := by unfold k_mends; (repeat' split) <;> omega
    rcases (show k_mends σ y0q = 1 by omega) with h1
    rw [h1] at hcl
    refine vx_catch (E := "java/lang/IndexOutOfBoundsException") hown [] _ _ (htab.trans rfl) (fun z hz => absurd hz List.not_mem_nil) (by decide) (by decide) kl19 (va_Nw.use rfl (hX6 _ (by decide))) hce hcv hcl ?_
    refine W.eq (g2 := F0 m 12 ls [.ref q9]) rfl ?_
    refine lv_astore_n (lv' := [(3, .ref (q9)), (0, .ref (ad (0))), (1, .int (y0q)), (2, .ref (ad (64)))]) hx hb dL_mends_12 rfl hl (by decide) rfl (fun ls hl => ?_)
    refine lv_iconst (v := nI 1) hx hb dL_mends_13 (by decide) ?_
    refine W.widen (k := 1) (n := 6) (by omega) (by omega) ?_
    exact hv_iret (v := nI (1)) (u := (ad, ct)) hx hb hr ⟨by rw [h1], fun h9 => absurd h9 hk0, fun _ => ⟨hG, fo, hout⟩, fun q q1 => ⟨rfl, fun _ => rfl⟩⟩ hV hS dL_mends_14 hlocks
  · obtain ⟨hkz, hr9, hu9⟩ := hq
    subst hu9
    have hV : hv D N0 ad ct H := hV
    have hG1 := hG
    have hF1 : hFr ad ct (ad, ct) := fun q _ => ⟨rfl, fun _ => rfl⟩
    have hF2 : ∀ q : Nat, q % 16 = 0 → ad q = ad0 q ∧ (64 ≤ q → ct q = ct0 q) := fun q _ => ⟨by rw [had0], fun _ => by rw [hct0]⟩
    have hl : lv_has ls 4 [] := lv_sub hl [] rfl
    refine lv_i2l hx hb dL_mends_7 rfl ?_
    refine hv_last hx hb hKs hV hS hout (by omega) (by decide) dL_mends_8 (fun ct H locs he hne hV hS => ?_)
    have hout := he
    refine lv_goto (tgt := 15) hx hb dL_mends_9 (by decide) ?_
    refine lv_iconst (v := nI 0) hx hb dL_mends_15 (by decide) ?_
    refine W.widen (k := 1) (n := 6) (by omega) (by omega) ?_
    exact hv_iret (v := nI (0)) (u := (ad, ct)) hx hb hr ⟨by rw [hkz], fun _ => ⟨hG1.out hne, _, hout, (by rw [va_up_self, hr9])⟩, fun h9 => absurd hkz h9, fun q q1 => ⟨(hF2 q q1).1.trans (by rw [had0]), fun q2 => ((hne q (by omega)).trans ((hF2 q q1).2 (by omega))).trans (by rw [hct0])⟩⟩ hV hS dL_mends_16 hlocks
