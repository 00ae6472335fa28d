set_option maxHeartbeats 4000000 in
set_option maxRecDepth 100000 in
theorem c_L_below (l : Launch) (D : hG) (N0 : Nat) (ad : Nat → Nat) (ct : hC) (v : Int32) {n : Nat} (hn : 0 < n) (hn2 : n < 2 ^ 31) : Met l yL_below wsL_below ({ frames := 0, cells := 0, slots := 0, locals := 0 }) (hPc D N0 ad ct [.int (v), .int (nI (n))]) (va_Qi (fun (r : Int32) (u : hU) => r = nI (blw v n) ∧ u = (ad, ct)) (hB D N0) (hA N0)) 0 0 (hA N0) := by
  refine Met.ofW (cc := cL_below) (maxL := 2) (ret := (some .int)) (by decide) rfl ?_
  intro p e s m args below meth c s₁ B hml hv0
  obtain ⟨hargs, hKs, hV⟩ := hv0
  have hx := B.exec
  have hb := B.bytes
  have hr := B.returns
  have hts := atoms_spec (ws := wsL_below) B.pre
  have hown : s.vm.findClass RL = some m.cls := findClass_of_methodNamed B.named
  have hlocks := B.notSynchronized
  have hS : va_S (hA N0) s.heap s.heap [] := va_S.rf
  have lk7 := hts (.constant RL 7 (2147483647)) (by decide +kernel)
  have hl := lv_entry ([.int (v), .int (nI (n))]) (n := 2) (Nat.le_of_ble_eq_true rfl)
  have hE : entryFrame m args 2 = entryFrame m ([.int (v), .int (nI (n))] : List Value).toArray 2 := by rw [hargs]
  rw [hE, lg_entry_eq]
  generalize (lg_sl ([.int (v), .int (nI (n))]) ++ List.replicate (2 - (lg_sl ([.int (v), .int (nI (n))])).length) Slot.unset).toArray = ls at hl ⊢
  have hl : lv_has ls 2 [(0, .int (v)), (1, .int (nI (n)))] := hl
  have h31 := v31_lt v
  refine lv_iload_n hx hb dL_below_0 rfl (lv_at hl 0 rfl) ?_
  refine lv_ldc (v := 2147483647) hx hb hown lk7 dL_below_1 ?_
  refine lv_iand hx hb dL_below_3 ?_
  refine hv_eqi (v31_eq v) ?_
  refine lv_iload_n hx hb dL_below_4 rfl (lv_at hl 1 rfl) ?_
  refine hN_irem hx hb (by omega) (by omega) (by omega) dL_below_5 ?_
  exact hv_iret (v := nI ((v31 v) % (n))) (u := (ad, ct)) hx hb hr ⟨rfl, rfl⟩ hV hS dL_below_6 hlocks

set_option maxHeartbeats 4000000 in
set_option maxRecDepth 100000 in
theorem c_L_cell (l : Launch) (D : hG) (N0 : Nat) (ad : Nat → Nat) (ct : hC) {b L : Nat} {xs : Nat → Int32} (hbl : b < N0) (hL : L ≤ 260) {k : Nat} (hk : k < 1000) : Met l yL_cell wsL_cell ({ frames := 0, cells := 0, slots := 0, locals := 0 }) (hPcX D N0 ad ct b L xs [.ref (b), .int (nI (k))]) (va_Qi (fun (r : Int32) (u : hU) => u = (ad, ct)) (hB D N0) (hA N0)) 0 0 (hA N0) := by
  refine Met.ofW (cc := cL_cell) (maxL := 2) (ret := (some .int)) (by decide) rfl ?_
  intro p e s m args below meth c s₁ B hml hv0
  obtain ⟨hargs, hX, hKs, hV⟩ := hv0
  have hbs : b < s.heap.size := Nat.lt_of_lt_of_le hbl hV.1
  have hbA : ¬ hA N0 b := Nat.not_le.mpr hbl
  have hx := B.exec
  have hb := B.bytes
  have hr := B.returns
  have hts := atoms_spec (ws := wsL_cell) B.pre
  have hown : s.vm.findClass RL = some m.cls := findClass_of_methodNamed B.named
  have hlocks := B.notSynchronized
  have hS : va_S (hA N0) s.heap s.heap [] := va_S.rf
  have lk8 := hts (.constant RL 8 (790386105)) (by decide +kernel)
  have hl := lv_entry ([.ref (b), .int (nI (k))]) (n := 2) (Nat.le_of_ble_eq_true rfl)
  have hE : entryFrame m args 2 = entryFrame m ([.ref (b), .int (nI (k))] : List Value).toArray 2 := by rw [hargs]
  rw [hE, lg_entry_eq]
  generalize (lg_sl ([.ref (b), .int (nI (k))]) ++ List.replicate (2 - (lg_sl ([.ref (b), .int (nI (k))])).length) Slot.unset).toArray = ls at hl ⊢
  have hl : lv_has ls 2 [(0, .ref (b)), (1, .int (nI (k)))] := hl
  refine lv_iload_n hx hb dL_cell_0 rfl (lv_at hl 1 rfl) ?_
  refine lv_aload_n hx hb dL_cell_1 rfl (lv_at hl 0 rfl) ?_
  refine va_slen hx hb hX hbs hbA hS dL_cell_2 ?_
  refine hv_eqi (y := nI L) rfl ?_
  refine hN_icmp_ge (tgt := 12) hx hb (by omega) (by omega) dL_cell_3 (by decide) (fun c3 => ?_) (fun c3 => ?_)
  · refine lv_ldc (v := 790386105) hx hb hown lk8 dL_cell_12 ?_
    refine lv_iload_n hx hb dL_cell_14 rfl (lv_at hl 1 rfl) ?_
    refine lv_iconst (v := nI 3) hx hb dL_cell_15 (by decide) ?_
    refine hN_iadd hx hb dL_cell_16 ?_
    refine lv_imul hx hb dL_cell_17 ?_
    exact hv_iret (v := ((790386105) * nI (k + 3))) (u := (ad, ct)) hx hb hr rfl hV hS dL_cell_18 hlocks
  · refine lv_aload_n hx hb dL_cell_6 rfl (lv_at hl 0 rfl) ?_
    refine lv_iload_n hx hb dL_cell_7 rfl (lv_at hl 1 rfl) ?_
    refine va_sld hx hb hX hbs hbA hS (nI_in (by omega) (by omega)) dL_cell_8 ?_
    refine hv_eqi (y := xs (k)) (by rw [nI_clamp (by omega)]) ?_
    refine lv_goto (tgt := 18) hx hb dL_cell_9 (by decide) ?_
    exact hv_iret (v := (xs (k))) (u := (ad, ct)) hx hb hr rfl hV hS dL_cell_18 hlocks

set_option maxHeartbeats 4000000 in
set_option maxRecDepth 100000 in
theorem c_L_look (l : Launch) (D : hG) (N0 : Nat) (ad : Nat → Nat) (ct : hC) (hfl : l.stackTraces = false) {σ : gS} (hG : gX D σ ad ct) (hO : okS σ) {sl tg : Nat} (hsl : sl < gNS σ) (htg : tg % 16 = 0 ∧ 64 ≤ tg) : Met l yL_look wsL_look ({ frames := 7, cells := 25, slots := 168, locals := 106 }) (hPc D N0 ad ct [.ref (ad (0)), .int (nI (sl))]) (va_Qq (fun (r : Option Nat) (u : hU) => r = some (u.1 tg) ∧ (∃ F : Nat → Int32, u.2 tg = some (eI D 24 F) ∧ ∀ j, j < 24 → F j = nI (sPt σ sl j)) ∧ ∀ q : Nat, q ≠ tg → u.1 q = ad q ∧ u.2 q = ct q) (hB D N0) (hA N0)) 25 168 (hA N0) := by
  refine Met.ofW (cc := cL_look) (maxL := 4) (ret := (some (.array .int))) (by decide) rfl ?_
  intro p e s m args below meth c s₁ B hml hv0
  obtain ⟨hargs, hKs, hV⟩ := hv0
  have hx := B.exec
  have hb := B.bytes
  have hr := B.returns
  have hts := atoms_spec (ws := wsL_look) B.pre
  have hown : s.vm.findClass RL = some m.cls := findClass_of_methodNamed B.named
  have hlocks := B.notSynchronized
  have hS : va_S (hA N0) s.heap s.heap [] := va_S.rf
  have karr := hts (.arrayClass .int) (by decide +kernel)
  have hl := lv_entry ([.ref (ad (0)), .int (nI (sl))]) (n := 4) (Nat.le_of_ble_eq_true rfl)
  have hE : entryFrame m args 4 = entryFrame m ([.ref (ad (0)), .int (nI (sl))] : List Value).toArray 4 := by rw [hargs]
  rw [hE, lg_entry_eq]
  generalize (lg_sl ([.ref (ad (0)), .int (nI (sl))]) ++ List.replicate (4 - (lg_sl ([.ref (ad (0)), .int (nI (sl))])).length) Slot.unset).toArray = ls at hl ⊢
  have hl : lv_has ls 4 [(0, .ref (ad (0))), (1, .int (nI (sl)))] := hl
  obtain ⟨Qz, hQz⟩ : ∃ z : State → Prop, z = (MQ below (va_Qq (fun (r : Option Nat) (u : hU) => r = some (u.1 tg) ∧ (∃ F : Nat → Int32, u.2 tg = some (eI D 24 F) ∧ ∀ j, j < 24 → F j = nI (sPt σ sl j)) ∧ ∀ q : Nat, q ≠ tg → u.1 q = ad q ∧ u.2 q = ct q) (hB D N0) (hA N0)) args s 25 168 (hA N0)) := ⟨_, rfl⟩
  rw [← hQz]
  obtain ⟨hn8, hn60, hn6, -⟩ := id hO
  have h00 := hG.1
  obtain ⟨ad0, had0⟩ : ∃ z, z = ad := ⟨ad, rfl⟩
  obtain ⟨ct0, hct0⟩ : ∃ z, z = ct := ⟨ct, rfl⟩
  refine lv_bipush (v := nI 24) hx hb dL_look_0 (by decide) ?_
  refine hv_newI hx hb karr hKs hV hS (tg) (n := 24) (by decide) (Nat.le_of_ble_eq_true rfl) (Nat.le_of_ble_eq_true rfl) dL_look_2 (fun ad ct H he hne hna hV hS => ?_)
  have hl : lv_has ls 4 [(0, .ref (ad (0))), (1, .int (nI (sl)))] := by rw [hna (0) (by omega)]; exact hl
  have h00 : ct (0) = some (eO 3 [.ref (ad (16)), .ref (ad (32)), .ref (ad (48)), .int (nI (gNC σ)), .int (nI (gNS σ)), .int (nI (gNB σ)), .int (gFu σ), .int (gMi σ)]) := by rw [hne (0) (by omega), hna (16) (by omega), hna (32) (by omega), hna (48) (by omega)]; exact h00
  have hn1 := he
  have hG := hG.keep (ct' := ct) (ad' := ad) (fun z h1 h2 => hne z (by omega)) (fun z h1 h2 => hna z (by omega))
  have h00 := hG.1
  have hfr : ∀ q : Nat, q ≠ tg → ad q = ad0 q ∧ ct q = ct0 q := fun q hq => ⟨(hna q hq).trans (by rw [had0]), (hne q hq).trans (by rw [hct0])⟩
  refine lv_astore_n (lv' := [(2, .ref (ad (tg))), (0, .ref (ad (0))), (1, .int (nI (sl)))]) hx hb dL_look_4 rfl hl (by decide) rfl (fun ls hl => ?_)
  refine lv_iconst (v := nI 0) hx hb dL_look_5 (by decide) ?_
  refine lv_istore_n (lv' := [(3, .int (nI (0))), (2, .ref (ad (tg))), (0, .ref (ad (0))), (1, .int (nI (sl)))]) hx hb dL_look_6 rfl hl (by decide) rfl (fun ls hl => ?_)
  have L7 : ∀ (n i : Nat) (F : Nat → Int32), i ≤ 24 → 24 < i + n → ∀ (ct : hC) (H : Heap) (locs : List Loc), (ct tg = some (eI D 24 F)) → (∀ j, j < i → F j = nI (sPt σ sl j)) → (gX D σ ad ct) → (∀ q : Nat, q ≠ tg → ad q = ad0 q ∧ ct q = ct0 q) → hv D N0 ad ct H → va_S (hA N0) s.heap H locs → ∀ ls : Array Slot, lv_has ls 4 [(3, .int (nI (i))), (2, .ref (ad (tg))), (0, .ref (ad (0))), (1, .int (nI (sl)))] → W p l e (headSpec wsL_look ({ frames := 7, cells := 25, slots := 168, locals := 106 })).room s m args below meth c H locs (1 + 1 * i) (24 + 6 * i) Qz (F0 m 7 ls []) := by
    intro n
    induction n with
    | zero => intro i F h1 h2; exact absurd h2 (by omega)
    | succ n ih7 =>
      intro i F hi7 hn7 ct H locs hF9 hFj hG hfr hV hS ls hl
      have h00 := hG.1
      refine lv_iload_n hx hb dL_look_7 rfl (lv_at hl 0 rfl) ?_
      refine lv_bipush (v := nI 24) hx hb dL_look_8 (by decide) ?_
      refine hN_icmp_ge (tgt := 35) hx hb (by omega) (by omega) dL_look_10 (by decide) (fun c10 => ?_) (fun c10 => ?_)
      · refine lv_aload_n hx hb dL_look_35 rfl (lv_at hl 1 rfl) ?_
        refine W.widen (k := 25) (n := 168) (by omega) (by omega) ?_
        rw [hQz]
        exact hv_qretA (r := some (ad (tg))) (u := (ad, ct)) hx hb hr ⟨rfl, ⟨F, hF9, fun j hj => hFj j (by omega)⟩, fun q hq => ⟨(hfr q hq).1.trans (by rw [had0]), (hfr q hq).2.trans (by rw [hct0])⟩⟩ hV hS dL_look_36 hlocks
      · refine lv_aload_n hx hb dL_look_13 rfl (lv_at hl 1 rfl) ?_
        refine lv_iload_n hx hb dL_look_14 rfl (lv_at hl 0 rfl) ?_
        refine lv_aload_n hx hb dL_look_15 rfl (lv_at hl 2 rfl) ?_
        refine lv_iload_n hx hb dL_look_16 rfl (lv_at hl 3 rfl) ?_
        refine lv_iload_n hx hb dL_look_17 rfl (lv_at hl 0 rfl) ?_
        refine lv_bipush (v := nI 8) hx hb dL_look_18 (by decide) ?_
        refine hN_idiv hx hb (by omega) (by omega) (by omega) dL_look_20 ?_
        refine lv_iload_n hx hb dL_look_21 rfl (lv_at hl 0 rfl) ?_
        refine lv_bipush (v := nI 8) hx hb dL_look_22 (by decide) ?_
        refine hN_irem hx hb (by omega) (by omega) (by omega) dL_look_24 ?_
        refine hv_call0 (kz_colour hO (by omega : sl < gNS σ) (by omega : (i) / (8) < 3) (by omega : (i) % (8) < 8)) (vx_runV (As := [.int (nI (sl)), .int (nI ((i) / (8))), .int (nI ((i) % (8)))]) (rest := [.int (nI (i)), .ref (ad (tg))]) ⟨hx, hb, hml, hown, hts⟩ (c_X3_colour l hfl D N0 ad ct hG hO (nI (sl)) (nI ((i) / (8))) (nI ((i) % (8)))) (cwV 3 hts gL_look_X3_colour rfl rfl rfl (by decide +kernel) ⟨Nat.le_of_ble_eq_true rfl, Nat.le_of_ble_eq_true rfl⟩) (hv_preV (r := (RX3, TX3, 8)) hKs hV hS h00 rfl) rfl rfl hl.1 rfl (lv_room (Nat.le_of_ble_eq_true rfl)) dL_look_25 ⟨(show 1 + 1 * i + 1 ≤ 25 by omega), (show 24 + 6 * i + 6 ≤ 168 by omega)⟩) hS (fun r9 u9 H locs hq hV hS => ?_)
        obtain ⟨-, hq, hu9⟩ := hq
        subst hu9
        have hV : hv D N0 ad ct H := hV
        simp only [toNat_nI (by omega : (sl) < 2 ^ 31), toNat_nI (by omega : ((i) / (8)) < 2 ^ 31), toNat_nI (by omega : ((i) % (8)) < 2 ^ 31)] at hq
        subst hq
        refine hv_iast hx hb hKs hV hS hF9 (by omega) (by decide) dL_look_28 (fun ct H locs he hne hV hS => ?_)
        have h00 := (hne (0) (by omega)).trans h00
        have hF9 := he
        have hG := hG.keep (ct' := ct) (ad' := ad) (fun z h1 h2 => hne z (by omega)) (fun _ _ _ => rfl)
        have h00 := hG.1
        have hfr : ∀ q : Nat, q ≠ tg → ad q = ad0 q ∧ ct q = ct0 q := fun q hq => ⟨(hfr q hq).1, (hne q hq).trans (hfr q hq).2⟩
        have hFj : ∀ j, j < i + 1 → va_up F i (nI (sPt σ sl (8 * (i / 8) + i % 8))) j = nI (sPt σ sl j) := fun j hj => by
          by_cases e : j = i
          · subst e
            rw [va_up_self, show 8 * (j / 8) + j % 8 = j by omega]
          · rw [va_up_ne _ _ e]
            exact hFj j (by omega)
        refine lv_iinc (v := nI (i + 1)) (lv' := [(3, .int (nI (i + 1))), (2, .ref (ad (tg))), (0, .ref (ad (0))), (1, .int (nI (sl)))]) hx hb dL_look_29 hl (k := 0) rfl (nI_add (i) 1) (by decide) rfl (fun ls hl => ?_)
        refine lv_goto (tgt := 7) hx hb dL_look_32 (by decide) ?_
        refine W.widen (k := 1 + 1 * (i + 1)) (n := 24 + 6 * (i + 1)) (by omega) (by omega) ?_
        exact ih7 (i + 1) (_) (by omega) (by omega) ct _ _ (hF9) (hFj) (hG) (hfr) hV hS ls (lv_sub hl [0, 1, 2, 3] rfl)
  refine W.widen (k := 1 + 1 * (0)) (n := 24 + 6 * (0)) (by omega) (by omega) ?_
  exact L7 (24 + 1) (0) (fun _ => 0) (by omega) (by omega) ct _ _ (hn1) (fun j hj => absurd hj (Nat.not_lt_zero j)) (hG) (hfr) hV hS ls (lv_sub hl [0, 1, 2, 3] rfl)

set_option maxHeartbeats 4000000 in
set_option maxRecDepth 100000 in
theorem c_L_work (l : Launch) (D : hG) (N0 : Nat) (ad : Nat → Nat) (ct : hC) (hfl : l.stackTraces = false) {σ : gS} (hG : gX D σ ad ct) (hO : okS σ) (h2 : ok2 σ) {cn wh : Nat} (hcn : cn < gNC σ) (hwh : wh < 3) (x : Int32) : Met l yL_work wsL_work ({ frames := 7, cells := 1, slots := 6, locals := 109 }) (hPc D N0 ad ct [.ref (ad (0)), .int (nI (cn)), .int (nI (wh)), .int (x)]) (va_Qi (fun (r : Int32) (u : hU) => ∃ τ : gS, wkP σ cn wh r τ ∧ gX D τ u.1 u.2 ∧ hFr ad ct u) (hB D N0) (hA N0)) 1 6 (hA N0) := by
  refine va_MetW (cc := cL_work) (maxL := 5) (ret := (some .int)) (hh := [(0, 97, 98, 63)]) (by decide) rfl ?_
  intro p e s m args below meth c s₁ B hml hv0
  obtain ⟨hargs, hKs, hV⟩ := hv0
  have hx := B.exec
  have hb := B.bytes
  have hr := B.returns
  have hts := atoms_spec (ws := wsL_work) B.pre
  have hown : s.vm.findClass RL = some m.cls := findClass_of_methodNamed B.named
  have hlocks := B.notSynchronized
  have hS : va_S (hA N0) s.heap s.heap [] := va_S.rf
  have kl63 := hts (.classLink RL 63 "java/lang/IllegalStateException") (by decide +kernel)
  have hl := lv_entry ([.ref (ad (0)), .int (nI (cn)), .int (nI (wh)), .int (x)]) (n := 5) (Nat.le_of_ble_eq_true rfl)
  have hE : entryFrame m args 5 = entryFrame m ([.ref (ad (0)), .int (nI (cn)), .int (nI (wh)), .int (x)] : List Value).toArray 5 := by rw [hargs]
  rw [hE, lg_entry_eq]
  generalize (lg_sl ([.ref (ad (0)), .int (nI (cn)), .int (nI (wh)), .int (x)]) ++ List.replicate (5 - (lg_sl ([.ref (ad (0)), .int (nI (cn)), .int (nI (wh)), .int (x)])).length) Slot.unset).toArray = ls at hl ⊢
  have hl : lv_has ls 5 [(0, .ref (ad (0))), (1, .int (nI (cn))), (2, .int (nI (wh))), (3, .int (x))] := hl
  obtain ⟨hn8, hn60, hn6, -⟩ := id hO
  have h00 := hG.1
  have htab := vx_table (x := yL_work) B (hts _ List.mem_cons_self)
  obtain ⟨-, -, -, -, -, ⟨hX6, hX7, hX8⟩, -⟩ := id hKs
  refine lv_iload_n hx hb dL_work_0 rfl (lv_at hl 2 rfl) ?_
  refine hN_if_ne (tgt := 43) hx hb (by omega) dL_work_1 (by decide) (fun c1 => ?_) (fun c1 => ?_)
  · refine lv_iload_n hx hb dL_work_43 rfl (lv_at hl 2 rfl) ?_
    refine lv_iconst (v := nI 1) hx hb dL_work_44 (by decide) ?_
    refine hN_icmp_ne (tgt := 80) hx hb (by omega) (by omega) dL_work_45 (by decide) (fun c45 => ?_) (fun c45 => ?_)
    · have hw2 : wh = 2 := by omega
      subst hw2
      refine lv_aload_n hx hb dL_work_80 rfl (lv_at hl 0 rfl) ?_
      refine lv_iload_n hx hb dL_work_81 rfl (lv_at hl 1 rfl) ?_
      refine hv_callxi (vx_runV (As := [.int (nI (cn))]) (rest := []) ⟨hx, hb, hml, hown, hts⟩ (c_X3_pull l hfl D N0 ad ct hG hO (nI (cn))) (cwV 1 hts gL_work_X3_pull rfl rfl rfl (by decide +kernel) ⟨Nat.le_of_ble_eq_true rfl, Nat.le_of_ble_eq_true rfl⟩) (hv_preV (r := (RX3, TX3, 8)) hKs hV hS h00 rfl) rfl rfl hl.1 rfl (lv_room (Nat.le_of_ble_eq_true rfl)) dL_work_82 ⟨(Nat.le_of_ble_eq_true rfl), (Nat.le_of_ble_eq_true rfl)⟩) hS (fun hk0 ce q9 H locs hV hS hce hcv hcl => ?_) (fun r9 u9 H locs hq hV hS => ?_)
      · have h1 : k_pull σ (nI (cn)) = 2 := by
          have h9 := kc_pull hO (by omega : cn < gNC σ)
          split at h9
          · exact h9
          · exact absurd h9 hk0
        rw [h1] at hcl
        refine vx_catch (E := "java/lang/IllegalStateException") hown [] _ _ (htab.trans rfl) (fun z hz => absurd hz List.not_mem_nil) (by decide) (by decide) kl63 (va_Nw.use rfl (hX6 _ (by decide))) hce hcv hcl ?_
        refine W.eq (g2 := F0 m 98 ls [.ref q9]) rfl ?_
        refine lv_astore (lv' := [(4, .ref (q9)), (0, .ref (ad (0))), (1, .int (nI (cn))), (2, .int (nI (2))), (3, .int (x))]) hx hb dL_work_98 hl (by decide) rfl (fun ls hl => ?_)
        refine lv_iconst (v := (-1)) hx hb dL_work_100 (by decide) ?_
        refine W.widen (k := 1) (n := 6) (by omega) (by omega) ?_
        exact hv_iret (v := ((-1))) (u := (ad, ct)) hx hb hr ⟨σ, Or.inl ⟨rfl, rfl⟩, hG, hFr.rf⟩ hV hS dL_work_101 hlocks
      · obtain ⟨ad, ct⟩ := u9
        dsimp only at hq
        obtain ⟨hkz, hr9, hG1, hF1⟩ := hq
        have hV : hv D N0 ad ct H := hV
        have hl : lv_has ls 5 [] := lv_sub hl [] rfl
        have hwk := wk_pull hO h2 (by omega : cn < gNC σ) hkz
        refine hv_eqi hr9 ?_
        refine lv_istore (lv' := [(4, .int (hbv (decide (6 ≤ cHt σ (nI (cn)).toInt.toNat))))]) hx hb dL_work_85 hl (by decide) rfl (fun ls hl => ?_)
        refine lv_iload hx hb dL_work_87 (lv_at hl 0 rfl) ?_
        refine hB_if_eq (tgt := 96) hx hb dL_work_89 (by decide) (fun c89 => ?_) (fun c89 => ?_)
        · refine lv_iconst (v := nI 0) hx hb dL_work_96 (by decide) ?_
          refine W.widen (k := 1) (n := 6) (by omega) (by omega) ?_
          exact hv_iret (v := nI (0)) (u := (ad, ct)) hx hb hr ⟨_, by rw [← hbv_f c89] at hwk; exact hwk, hG1, hF1⟩ hV hS dL_work_97 hlocks
        · refine lv_iconst (v := nI 1) hx hb dL_work_92 (by decide) ?_
          refine lv_goto (tgt := 97) hx hb dL_work_93 (by decide) ?_
          refine W.widen (k := 1) (n := 6) (by omega) (by omega) ?_
          exact hv_iret (v := nI (1)) (u := (ad, ct)) hx hb hr ⟨_, by rw [← hbv_t c89] at hwk; exact hwk, hG1, hF1⟩ hV hS dL_work_97 hlocks
    · subst c45
      refine lv_aload_n hx hb dL_work_48 rfl (lv_at hl 0 rfl) ?_
      refine lv_iload_n hx hb dL_work_49 rfl (lv_at hl 1 rfl) ?_
      refine lv_iload_n hx hb dL_work_50 rfl (lv_at hl 3 rfl) ?_
      refine lv_bipush (v := nI 8) hx hb dL_work_51 (by decide) ?_
      refine hv_calli (va_runS (As := [.int (x), .int (nI (8))]) (rest := [.int (nI (cn)), .ref (ad (0))]) ⟨hx, hb, hml, hown, hts⟩ (c_L_below l D N0 ad ct ((x)) (by omega : 0 < 8) (by omega : 8 < 2 ^ 31)) (va_cwS 2 hts gL_work_L_below rfl rfl rfl (by decide +kernel) ⟨Nat.le_of_ble_eq_true rfl, Nat.le_of_ble_eq_true rfl⟩) (hv_preS hKs hV hS) rfl rfl hl.1 rfl (lv_room (Nat.le_of_ble_eq_true rfl)) dL_work_53 ⟨(Nat.le_of_ble_eq_true rfl), (Nat.le_of_ble_eq_true rfl)⟩) hS (fun r9 u9 H locs hq hV hS => ?_)
      obtain ⟨rfl, rfl⟩ := hq
      have hV : hv D N0 ad ct H := hV
      have hbl0 := blw_lt ((x)) (by omega : 0 < 8)
      refine lv_iconst (v := nI 4) hx hb dL_work_56 (by decide) ?_
      refine lv_isub hx hb dL_work_57 ?_
      refine lv_iload_n hx hb dL_work_58 rfl (lv_at hl 3 rfl) ?_
      refine lv_bipush (v := nI 8) hx hb dL_work_59 (by decide) ?_
      refine hv_calli (va_runS (As := [.int (x), .int (nI (8))]) (rest := [.int (nI (blw ((x)) (8)) - nI (4)), .int (nI (cn)), .ref (ad (0))]) ⟨hx, hb, hml, hown, hts⟩ (c_L_below l D N0 ad ct ((x)) (by omega : 0 < 8) (by omega : 8 < 2 ^ 31)) (va_cwS 2 hts gL_work_L_below rfl rfl rfl (by decide +kernel) ⟨Nat.le_of_ble_eq_true rfl, Nat.le_of_ble_eq_true rfl⟩) (hv_preS hKs hV hS) rfl rfl hl.1 rfl (lv_room (Nat.le_of_ble_eq_true rfl)) dL_work_61 ⟨(Nat.le_of_ble_eq_true rfl), (Nat.le_of_ble_eq_true rfl)⟩) hS (fun r9 u9 H locs hq hV hS => ?_)
      obtain ⟨rfl, rfl⟩ := hq
      have hV : hv D N0 ad ct H := hV
      have hbl1 := blw_lt ((x)) (by omega : 0 < 8)
      refine lv_iconst (v := nI 3) hx hb dL_work_64 (by decide) ?_
      refine hN_icmp_le (tgt := 72) hx hb (by omega) (by omega) dL_work_65 (by decide) (fun c65 => ?_) (fun c65 => ?_)
      · refine lv_iconst (v := nI 0) hx hb dL_work_72 (by decide) ?_
        refine lv_iadd hx hb dL_work_73 ?_
        have htw : (!decide ((((nI (blw ((x)) (8)) - nI (4)) + nI (0))).toInt = 0) && inT ((nI (blw ((x)) (8)) - nI (4)) + nI (0))) = true := tw_0 _ (blw_lt _ (by omega)) (by omega)
        refine hv_callxi (vx_runV (As := [.int (nI (cn)), .int ((nI (blw ((x)) (8)) - nI (4)) + nI (0))]) (rest := []) ⟨hx, hb, hml, hown, hts⟩ (c_X3_twist l hfl D N0 ad ct hG hO (nI (cn)) (((nI (blw ((x)) (8)) - nI (4)) + nI (0)))) (cwV 2 hts gL_work_X3_twist rfl rfl rfl (by decide +kernel) ⟨Nat.le_of_ble_eq_true rfl, Nat.le_of_ble_eq_true rfl⟩) (hv_preV (r := (RX3, TX3, 8)) hKs hV hS h00 rfl) rfl rfl hl.1 rfl (lv_room (Nat.le_of_ble_eq_true rfl)) dL_work_74 ⟨(Nat.le_of_ble_eq_true rfl), (Nat.le_of_ble_eq_true rfl)⟩) hS (fun hk0 ce q9 H locs hV hS hce hcv hcl => ?_) (fun r9 u9 H locs hq hV hS => ?_)
        · have h1 : k_twist σ (nI (cn)) (((nI (blw ((x)) (8)) - nI (4)) + nI (0))) = 3 := by
            have h9 := kc_twist hO (by omega : cn < gNC σ) htw
            split at h9
            · exact h9
            · exact absurd h9 hk0
          rw [h1] at hcl
          refine vx_catch (E := "java/lang/IllegalStateException") hown [] _ _ (htab.trans rfl) (fun z hz => absurd hz List.not_mem_nil) (by decide) (by decide) kl63 (va_Nw.use rfl (hX6 _ (by decide))) hce hcv hcl ?_
          refine W.eq (g2 := F0 m 98 ls [.ref q9]) rfl ?_
          refine lv_astore (lv' := [(4, .ref (q9)), (0, .ref (ad (0))), (1, .int (nI (cn))), (2, .int (nI (1))), (3, .int (x))]) hx hb dL_work_98 hl (by decide) rfl (fun ls hl => ?_)
          refine lv_iconst (v := (-1)) hx hb dL_work_100 (by decide) ?_
          refine W.widen (k := 1) (n := 6) (by omega) (by omega) ?_
          exact hv_iret (v := ((-1))) (u := (ad, ct)) hx hb hr ⟨σ, Or.inl ⟨rfl, rfl⟩, hG, hFr.rf⟩ hV hS dL_work_101 hlocks
        · obtain ⟨ad, ct⟩ := u9
          dsimp only at hq
          obtain ⟨hkz, hr9, hG1, hF1⟩ := hq
          have hV : hv D N0 ad ct H := hV
          have hl : lv_has ls 5 [] := lv_sub hl [] rfl
          have hwk := wk_twist hO h2 (by omega : cn < gNC σ) htw hkz
          refine hv_eqi hr9 ?_
          refine lv_goto (tgt := 85) hx hb dL_work_77 (by decide) ?_
          refine lv_istore (lv' := [(4, .int (hbv (decide (4 ≤ cHt σ (nI (cn)).toInt.toNat))))]) hx hb dL_work_85 hl (by decide) rfl (fun ls hl => ?_)
          refine lv_iload hx hb dL_work_87 (lv_at hl 0 rfl) ?_
          refine hB_if_eq (tgt := 96) hx hb dL_work_89 (by decide) (fun c89 => ?_) (fun c89 => ?_)
          · refine lv_iconst (v := nI 0) hx hb dL_work_96 (by decide) ?_
            refine W.widen (k := 1) (n := 6) (by omega) (by omega) ?_
            exact hv_iret (v := nI (0)) (u := (ad, ct)) hx hb hr ⟨_, by rw [← hbv_f c89] at hwk; exact hwk, hG1, hF1⟩ hV hS dL_work_97 hlocks
          · refine lv_iconst (v := nI 1) hx hb dL_work_92 (by decide) ?_
            refine lv_goto (tgt := 97) hx hb dL_work_93 (by decide) ?_
            refine W.widen (k := 1) (n := 6) (by omega) (by omega) ?_
            exact hv_iret (v := nI (1)) (u := (ad, ct)) hx hb hr ⟨_, by rw [← hbv_t c89] at hwk; exact hwk, hG1, hF1⟩ hV hS dL_work_97 hlocks
      · refine lv_iconst (v := nI 1) hx hb dL_work_68 (by decide) ?_
        refine lv_goto (tgt := 73) hx hb dL_work_69 (by decide) ?_
        refine lv_iadd hx hb dL_work_73 ?_
        have htw : (!decide ((((nI (blw ((x)) (8)) - nI (4)) + nI (1))).toInt = 0) && inT ((nI (blw ((x)) (8)) - nI (4)) + nI (1))) = true := tw_1 _ (blw_lt _ (by omega)) (by omega)
        refine hv_callxi (vx_runV (As := [.int (nI (cn)), .int ((nI (blw ((x)) (8)) - nI (4)) + nI (1))]) (rest := []) ⟨hx, hb, hml, hown, hts⟩ (c_X3_twist l hfl D N0 ad ct hG hO (nI (cn)) (((nI (blw ((x)) (8)) - nI (4)) + nI (1)))) (cwV 2 hts gL_work_X3_twist rfl rfl rfl (by decide +kernel) ⟨Nat.le_of_ble_eq_true rfl, Nat.le_of_ble_eq_true rfl⟩) (hv_preV (r := (RX3, TX3, 8)) hKs hV hS h00 rfl) rfl rfl hl.1 rfl (lv_room (Nat.le_of_ble_eq_true rfl)) dL_work_74 ⟨(Nat.le_of_ble_eq_true rfl), (Nat.le_of_ble_eq_true rfl)⟩) hS (fun hk0 ce q9 H locs hV hS hce hcv hcl => ?_) (fun r9 u9 H locs hq hV hS => ?_)
        · have h1 : k_twist σ (nI (cn)) (((nI (blw ((x)) (8)) - nI (4)) + nI (1))) = 3 := by
            have h9 := kc_twist hO (by omega : cn < gNC σ) htw
            split at h9
            · exact h9
            · exact absurd h9 hk0
          rw [h1] at hcl
          refine vx_catch (E := "java/lang/IllegalStateException") hown [] _ _ (htab.trans rfl) (fun z hz => absurd hz List.not_mem_nil) (by decide) (by decide) kl63 (va_Nw.use rfl (hX6 _ (by decide))) hce hcv hcl ?_
          refine W.eq (g2 := F0 m 98 ls [.ref q9]) rfl ?_
          refine lv_astore (lv' := [(4, .ref (q9)), (0, .ref (ad (0))), (1, .int (nI (cn))), (2, .int (nI (1))), (3, .int (x))]) hx hb dL_work_98 hl (by decide) rfl (fun ls hl => ?_)
          refine lv_iconst (v := (-1)) hx hb dL_work_100 (by decide) ?_
          refine W.widen (k := 1) (n := 6) (by omega) (by omega) ?_
          exact hv_iret (v := ((-1))) (u := (ad, ct)) hx hb hr ⟨σ, Or.inl ⟨rfl, rfl⟩, hG, hFr.rf⟩ hV hS dL_work_101 hlocks
        · obtain ⟨ad, ct⟩ := u9
          dsimp only at hq
          obtain ⟨hkz, hr9, hG1, hF1⟩ := hq
          have hV : hv D N0 ad ct H := hV
          have hl : lv_has ls 5 [] := lv_sub hl [] rfl
          have hwk := wk_twist hO h2 (by omega : cn < gNC σ) htw hkz
          refine hv_eqi hr9 ?_
          refine lv_goto (tgt := 85) hx hb dL_work_77 (by decide) ?_
          refine lv_istore (lv' := [(4, .int (hbv (decide (4 ≤ cHt σ (nI (cn)).toInt.toNat))))]) hx hb dL_work_85 hl (by decide) rfl (fun ls hl => ?_)
          refine lv_iload hx hb dL_work_87 (lv_at hl 0 rfl) ?_
          refine hB_if_eq (tgt := 96) hx hb dL_work_89 (by decide) (fun c89 => ?_) (fun c89 => ?_)
          · refine lv_iconst (v := nI 0) hx hb dL_work_96 (by decide) ?_
            refine W.widen (k := 1) (n := 6) (by omega) (by omega) ?_
            exact hv_iret (v := nI (0)) (u := (ad, ct)) hx hb hr ⟨_, by rw [← hbv_f c89] at hwk; exact hwk, hG1, hF1⟩ hV hS dL_work_97 hlocks
          · refine lv_iconst (v := nI 1) hx hb dL_work_92 (by decide) ?_
            refine lv_goto (tgt := 97) hx hb dL_work_93 (by decide) ?_
            refine W.widen (k := 1) (n := 6) (by omega) (by omega) ?_
            exact hv_iret (v := nI (1)) (u := (ad, ct)) hx hb hr ⟨_, by rw [← hbv_t c89] at hwk; exact hwk, hG1, hF1⟩ hV hS dL_work_97 hlocks
  · subst c1
    refine lv_aload_n hx hb dL_work_4 rfl (lv_at hl 0 rfl) ?_
    refine lv_iload_n hx hb dL_work_5 rfl (lv_at hl 1 rfl) ?_
    refine lv_iload_n hx hb dL_work_6 rfl (lv_at hl 3 rfl) ?_
    refine lv_iconst (v := nI 3) hx hb dL_work_7 (by decide) ?_
    refine hv_calli (va_runS (As := [.int (x), .int (nI (3))]) (rest := [.int (nI (cn)), .ref (ad (0))]) ⟨hx, hb, hml, hown, hts⟩ (c_L_below l D N0 ad ct ((x)) (by omega : 0 < 3) (by omega : 3 < 2 ^ 31)) (va_cwS 2 hts gL_work_L_below rfl rfl rfl (by decide +kernel) ⟨Nat.le_of_ble_eq_true rfl, Nat.le_of_ble_eq_true rfl⟩) (hv_preS hKs hV hS) rfl rfl hl.1 rfl (lv_room (Nat.le_of_ble_eq_true rfl)) dL_work_8 ⟨(Nat.le_of_ble_eq_true rfl), (Nat.le_of_ble_eq_true rfl)⟩) hS (fun r9 u9 H locs hq hV hS => ?_)
    obtain ⟨rfl, rfl⟩ := hq
    have hV : hv D N0 ad ct H := hV
    have hbl2 := blw_lt ((x)) (by omega : 0 < 3)
    refine lv_iload_n hx hb dL_work_11 rfl (lv_at hl 3 rfl) ?_
    refine lv_iconst (v := nI 2) hx hb dL_work_12 (by decide) ?_
    refine lv_ishr hx hb dL_work_13 ?_
    refine lv_bipush (v := nI 8) hx hb dL_work_14 (by decide) ?_
    refine hv_calli (va_runS (As := [.int ((x) >>> (nI (2) &&& 31)), .int (nI (8))]) (rest := [.int (nI (blw ((x)) (3))), .int (nI (cn)), .ref (ad (0))]) ⟨hx, hb, hml, hown, hts⟩ (c_L_below l D N0 ad ct (((x) >>> (nI (2) &&& 31))) (by omega : 0 < 8) (by omega : 8 < 2 ^ 31)) (va_cwS 2 hts gL_work_L_below rfl rfl rfl (by decide +kernel) ⟨Nat.le_of_ble_eq_true rfl, Nat.le_of_ble_eq_true rfl⟩) (hv_preS hKs hV hS) rfl rfl hl.1 rfl (lv_room (Nat.le_of_ble_eq_true rfl)) dL_work_16 ⟨(Nat.le_of_ble_eq_true rfl), (Nat.le_of_ble_eq_true rfl)⟩) hS (fun r9 u9 H locs hq hV hS => ?_)
    obtain ⟨rfl, rfl⟩ := hq
    have hV : hv D N0 ad ct H := hV
    have hbl3 := blw_lt (((x) >>> (nI (2) &&& 31))) (by omega : 0 < 8)
    refine lv_iconst (v := nI 1) hx hb dL_work_19 (by decide) ?_
    refine lv_iload_n hx hb dL_work_20 rfl (lv_at hl 3 rfl) ?_
    refine lv_iconst (v := nI 4) hx hb dL_work_21 (by decide) ?_
    refine lv_ishr hx hb dL_work_22 ?_
    refine lv_bipush (v := nI 8) hx hb dL_work_23 (by decide) ?_
    refine hv_calli (va_runS (As := [.int ((x) >>> (nI (4) &&& 31)), .int (nI (8))]) (rest := [.int (nI (1)), .int (nI (blw (((x) >>> (nI (2) &&& 31))) (8))), .int (nI (blw ((x)) (3))), .int (nI (cn)), .ref (ad (0))]) ⟨hx, hb, hml, hown, hts⟩ (c_L_below l D N0 ad ct (((x) >>> (nI (4) &&& 31))) (by omega : 0 < 8) (by omega : 8 < 2 ^ 31)) (va_cwS 2 hts gL_work_L_below rfl rfl rfl (by decide +kernel) ⟨Nat.le_of_ble_eq_true rfl, Nat.le_of_ble_eq_true rfl⟩) (hv_preS hKs hV hS) rfl rfl hl.1 rfl (lv_room (Nat.le_of_ble_eq_true rfl)) dL_work_25 ⟨(Nat.le_of_ble_eq_true rfl), (Nat.le_of_ble_eq_true rfl)⟩) hS (fun r9 u9 H locs hq hV hS => ?_)
    obtain ⟨rfl, rfl⟩ := hq
    have hV : hv D N0 ad ct H := hV
    have hbl4 := blw_lt (((x) >>> (nI (4) &&& 31))) (by omega : 0 < 8)
    refine hN_iadd hx hb dL_work_28 ?_
    refine lv_iload_n hx hb dL_work_29 rfl (lv_at hl 3 rfl) ?_
    refine lv_iconst (v := nI 3) hx hb dL_work_30 (by decide) ?_
    refine lv_ishr hx hb dL_work_31 ?_
    refine lv_bipush (v := nI 8) hx hb dL_work_32 (by decide) ?_
    refine hv_calli (va_runS (As := [.int ((x) >>> (nI (3) &&& 31)), .int (nI (8))]) (rest := [.int (nI (1 + blw (((x) >>> (nI (4) &&& 31))) (8))), .int (nI (blw (((x) >>> (nI (2) &&& 31))) (8))), .int (nI (blw ((x)) (3))), .int (nI (cn)), .ref (ad (0))]) ⟨hx, hb, hml, hown, hts⟩ (c_L_below l D N0 ad ct (((x) >>> (nI (3) &&& 31))) (by omega : 0 < 8) (by omega : 8 < 2 ^ 31)) (va_cwS 2 hts gL_work_L_below rfl rfl rfl (by decide +kernel) ⟨Nat.le_of_ble_eq_true rfl, Nat.le_of_ble_eq_true rfl⟩) (hv_preS hKs hV hS) rfl rfl hl.1 rfl (lv_room (Nat.le_of_ble_eq_true rfl)) dL_work_34 ⟨(Nat.le_of_ble_eq_true rfl), (Nat.le_of_ble_eq_true rfl)⟩) hS (fun r9 u9 H locs hq hV hS => ?_)
    obtain ⟨rfl, rfl⟩ := hq
    have hV : hv D N0 ad ct H := hV
    have hbl5 := blw_lt (((x) >>> (nI (3) &&& 31))) (by omega : 0 < 8)
    refine hv_callxi (vx_runV (As := [.int (nI (cn)), .int (nI (blw ((x)) (3))), .int (nI (blw (((x) >>> (nI (2) &&& 31))) (8))), .int (nI (1 + blw (((x) >>> (nI (4) &&& 31))) (8))), .int (nI (blw (((x) >>> (nI (3) &&& 31))) (8)))]) (rest := []) ⟨hx, hb, hml, hown, hts⟩ (c_X3_lay l hfl D N0 ad ct hG hO (nI (cn)) (nI (blw ((x)) (3))) (nI (blw (((x) >>> (nI (2) &&& 31))) (8))) (nI (1 + blw (((x) >>> (nI (4) &&& 31))) (8))) (nI (blw (((x) >>> (nI (3) &&& 31))) (8)))) (cwV 5 hts gL_work_X3_lay rfl rfl rfl (by decide +kernel) ⟨Nat.le_of_ble_eq_true rfl, Nat.le_of_ble_eq_true rfl⟩) (hv_preV (r := (RX3, TX3, 8)) hKs hV hS h00 rfl) rfl rfl hl.1 rfl (lv_room (Nat.le_of_ble_eq_true rfl)) dL_work_37 ⟨(Nat.le_of_ble_eq_true rfl), (Nat.le_of_ble_eq_true rfl)⟩) hS (fun hk0 ce q9 H locs hV hS hce hcv hcl => ?_) (fun r9 u9 H locs hq hV hS => ?_)
    · have h1 : k_lay σ (nI (cn)) (nI (blw ((x)) (3))) (nI (blw (((x) >>> (nI (2) &&& 31))) (8))) (nI (1 + blw (((x) >>> (nI (4) &&& 31))) (8))) (nI (blw (((x) >>> (nI (3) &&& 31))) (8))) = 3 := by
        have h9 := kc_lay hO (by omega : cn < gNC σ) (by omega : blw ((x)) (3) < 3) (by omega : blw (((x) >>> (nI (2) &&& 31))) (8) < 8) (by omega : 1 ≤ 1 + blw (((x) >>> (nI (4) &&& 31))) (8) ∧ 1 + blw (((x) >>> (nI (4) &&& 31))) (8) ≤ 8) (by omega : blw (((x) >>> (nI (3) &&& 31))) (8) < 8)
        split at h9
        · exact h9
        · exact absurd h9 hk0
      rw [h1] at hcl
      refine vx_catch (E := "java/lang/IllegalStateException") hown [] _ _ (htab.trans rfl) (fun z hz => absurd hz List.not_mem_nil) (by decide) (by decide) kl63 (va_Nw.use rfl (hX6 _ (by decide))) hce hcv hcl ?_
      refine W.eq (g2 := F0 m 98 ls [.ref q9]) rfl ?_
      refine lv_astore (lv' := [(4, .ref (q9)), (0, .ref (ad (0))), (1, .int (nI (cn))), (2, .int (nI (0))), (3, .int (x))]) hx hb dL_work_98 hl (by decide) rfl (fun ls hl => ?_)
      refine lv_iconst (v := (-1)) hx hb dL_work_100 (by decide) ?_
      refine W.widen (k := 1) (n := 6) (by omega) (by omega) ?_
      exact hv_iret (v := ((-1))) (u := (ad, ct)) hx hb hr ⟨σ, Or.inl ⟨rfl, rfl⟩, hG, hFr.rf⟩ hV hS dL_work_101 hlocks
    · obtain ⟨ad, ct⟩ := u9
      dsimp only at hq
      obtain ⟨hkz, hr9, hG1, hF1⟩ := hq
      have hV : hv D N0 ad ct H := hV
      have hl : lv_has ls 5 [] := lv_sub hl [] rfl
      have hwk := wk_lay hO h2 (by omega : cn < gNC σ) (by omega : blw ((x)) (3) < 3) (by omega : blw (((x) >>> (nI (2) &&& 31))) (8) < 8) (by omega : 1 ≤ 1 + blw (((x) >>> (nI (4) &&& 31))) (8) ∧ 1 + blw (((x) >>> (nI (4) &&& 31))) (8) ≤ 8) (by omega : blw (((x) >>> (nI (3) &&& 31))) (8) < 8) hkz
      refine hv_eqi hr9 ?_
      refine lv_goto (tgt := 85) hx hb dL_work_40 (by decide) ?_
      refine lv_istore (lv' := [(4, .int (hbv (decide (2 ≤ cHt σ (nI (cn)).toInt.toNat))))]) hx hb dL_work_85 hl (by decide) rfl (fun ls hl => ?_)
      refine lv_iload hx hb dL_work_87 (lv_at hl 0 rfl) ?_
      refine hB_if_eq (tgt := 96) hx hb dL_work_89 (by decide) (fun c89 => ?_) (fun c89 => ?_)
      · refine lv_iconst (v := nI 0) hx hb dL_work_96 (by decide) ?_
        refine W.widen (k := 1) (n := 6) (by omega) (by omega) ?_
        exact hv_iret (v := nI (0)) (u := (ad, ct)) hx hb hr ⟨_, by rw [← hbv_f c89] at hwk; exact hwk, hG1, hF1⟩ hV hS dL_work_97 hlocks
      · refine lv_iconst (v := nI 1) hx hb dL_work_92 (by decide) ?_
        refine lv_goto (tgt := 97) hx hb dL_work_93 (by decide) ?_
        refine W.widen (k := 1) (n := 6) (by omega) (by omega) ?_
        exact hv_iret (v := nI (1)) (u := (ad, ct)) hx hb hr ⟨_, by rw [← hbv_t c89] at hwk; exact hwk, hG1, hF1⟩ hV hS dL_work_97 hlocks

set_option maxHeartbeats 4000000 in
set_option maxRecDepth 100000 in
theorem c_L_cut (l : Launch) (D : hG) (N0 : Nat) (ad : Nat → Nat) (ct : hC) (hfl : l.stackTraces = false) {σ : gS} (hG : gX D σ ad ct) (hO : okS σ) {cn : Nat} (hcn : cn < gNC σ) : Met l yL_cut wsL_cut ({ frames := 7, cells := 3, slots := 30, locals := 159 }) (hPc D N0 ad ct [.ref (ad (0)), .int (nI (cn))]) (va_Qi (fun (r : Int32) (u : hU) => ((k_cut σ (nI cn) = 0 ∧ r = nI (gNS σ) ∧ gX D (s_cut σ cn) u.1 u.2) ∨ (k_cut σ (nI cn) ≠ 0 ∧ r = -1 ∧ gX D σ u.1 u.2)) ∧ hFr ad ct u) (hB D N0) (hA N0)) 3 30 (hA N0) := by
  refine va_MetW (cc := cL_cut) (maxL := 3) (ret := (some .int)) (hh := [(0, 5, 6, 63)]) (by decide) rfl ?_
  intro p e s m args below meth c s₁ B hml hv0
  obtain ⟨hargs, hKs, hV⟩ := hv0
  have hx := B.exec
  have hb := B.bytes
  have hr := B.returns
  have hts := atoms_spec (ws := wsL_cut) B.pre
  have hown : s.vm.findClass RL = some m.cls := findClass_of_methodNamed B.named
  have hlocks := B.notSynchronized
  have hS : va_S (hA N0) s.heap s.heap [] := va_S.rf
  have kl63 := hts (.classLink RL 63 "java/lang/IllegalStateException") (by decide +kernel)
  have hl := lv_entry ([.ref (ad (0)), .int (nI (cn))]) (n := 3) (Nat.le_of_ble_eq_true rfl)
  have hE : entryFrame m args 3 = entryFrame m ([.ref (ad (0)), .int (nI (cn))] : List Value).toArray 3 := by rw [hargs]
  rw [hE, lg_entry_eq]
  generalize (lg_sl ([.ref (ad (0)), .int (nI (cn))]) ++ List.replicate (3 - (lg_sl ([.ref (ad (0)), .int (nI (cn))])).length) Slot.unset).toArray = ls at hl ⊢
  have hl : lv_has ls 3 [(0, .ref (ad (0))), (1, .int (nI (cn)))] := hl
  obtain ⟨hn8, hn60, hn6, -⟩ := id hO
  have h00 := hG.1
  have htab := vx_table (x := yL_cut) B (hts _ List.mem_cons_self)
  obtain ⟨-, -, -, -, -, ⟨hX6, hX7, hX8⟩, -⟩ := id hKs
  refine lv_aload_n hx hb dL_cut_0 rfl (lv_at hl 0 rfl) ?_
  refine lv_iload_n hx hb dL_cut_1 rfl (lv_at hl 1 rfl) ?_
  refine hv_callxi (vx_runV (As := [.int (nI (cn))]) (rest := []) ⟨hx, hb, hml, hown, hts⟩ (c_X3_cut l hfl D N0 ad ct hG hO (nI (cn))) (cwV 1 hts gL_cut_X3_cut rfl rfl rfl (by decide +kernel) ⟨Nat.le_of_ble_eq_true rfl, Nat.le_of_ble_eq_true rfl⟩) (hv_preV (r := (RX3, TX3, 8)) hKs hV hS h00 rfl) rfl rfl hl.1 rfl (lv_room (Nat.le_of_ble_eq_true rfl)) dL_cut_2 ⟨(Nat.le_of_ble_eq_true rfl), (Nat.le_of_ble_eq_true rfl)⟩) hS (fun hk0 ce q9 H locs hV hS hce hcv hcl => ?_) (fun r9 u9 H locs hq hV hS => ?_)
  · have h1 : k_cut σ (nI (cn)) = 2 := by
      have h9 := kc_cut hO (by omega : cn < gNC σ)
      split at h9
      · exact h9
      · exact absurd h9 hk0
    rw [h1] at hcl
    refine vx_catch (E := "java/lang/IllegalStateException") hown [] _ _ (htab.trans rfl) (fun z hz => absurd hz List.not_mem_nil) (by decide) (by decide) kl63 (va_Nw.use rfl (hX6 _ (by decide))) hce hcv hcl ?_
    refine W.eq (g2 := F0 m 6 ls [.ref q9]) rfl ?_
    refine lv_astore_n (lv' := [(2, .ref (q9)), (0, .ref (ad (0))), (1, .int (nI (cn)))]) hx hb dL_cut_6 rfl hl (by decide) rfl (fun ls hl => ?_)
    refine lv_iconst (v := (-1)) hx hb dL_cut_7 (by decide) ?_
    refine W.widen (k := 3) (n := 30) (by omega) (by omega) ?_
    exact hv_iret (v := ((-1))) (u := (ad, ct)) hx hb hr ⟨Or.inr ⟨hk0, rfl, hG⟩, hFr.rf⟩ hV hS dL_cut_8 hlocks
  · obtain ⟨ad, ct⟩ := u9
    dsimp only at hq
    obtain ⟨hkz, hr9, hG1, hF1⟩ := hq
    have hV : hv D N0 ad ct H := hV
    have hl : lv_has ls 3 [] := lv_sub hl [] rfl
    simp only [toNat_nI (by omega : (cn) < 2 ^ 31)] at hr9 hG1
    refine W.widen (k := 3) (n := 30) (by omega) (by omega) ?_
    exact hv_iret (v := (r9)) (u := (ad, ct)) hx hb hr ⟨Or.inl ⟨hkz, hr9, hG1⟩, hF1⟩ hV hS dL_cut_5 hlocks

set_option maxHeartbeats 4000000 in
set_option maxRecDepth 100000 in
theorem c_L_set (l : Launch) (D : hG) (N0 : Nat) (ad : Nat → Nat) (ct : hC) (hfl : l.stackTraces = false) {σ : gS} (hG : gX D σ ad ct) (hO : okS σ) {bd ey sl tn : Nat} (hbd : bd < gNB σ) (hey : ey < 4) (hsl : sl < gNS σ) (htn : tn < 8) : Met l yL_set wsL_set ({ frames := 7, cells := 1, slots := 6, locals := 108 }) (hPc D N0 ad ct [.ref (ad (0)), .int (nI (bd)), .int (nI (ey)), .int (nI (sl)), .int (nI (tn))]) (va_Qi (fun (r : Int32) (u : hU) => ((k_set σ (nI bd) (nI ey) (nI sl) (nI tn) = 0 ∧ r = nI (nsm (fun k => ie (s_set σ (4 * bd + ey) sl tn) (4 * bd + k)) 4) ∧ gX D (s_set σ (4 * bd + ey) sl tn) u.1 u.2) ∨ (k_set σ (nI bd) (nI ey) (nI sl) (nI tn) ≠ 0 ∧ r = -1 ∧ gX D σ u.1 u.2)) ∧ hFr ad ct u) (hB D N0) (hA N0)) 1 6 (hA N0) := by
  refine va_MetW (cc := cL_set) (maxL := 6) (ret := (some .int)) (hh := [(0, 9, 10, 63)]) (by decide) rfl ?_
  intro p e s m args below meth c s₁ B hml hv0
  obtain ⟨hargs, hKs, hV⟩ := hv0
  have hx := B.exec
  have hb := B.bytes
  have hr := B.returns
  have hts := atoms_spec (ws := wsL_set) B.pre
  have hown : s.vm.findClass RL = some m.cls := findClass_of_methodNamed B.named
  have hlocks := B.notSynchronized
  have hS : va_S (hA N0) s.heap s.heap [] := va_S.rf
  have kl63 := hts (.classLink RL 63 "java/lang/IllegalStateException") (by decide +kernel)
  have hl := lv_entry ([.ref (ad (0)), .int (nI (bd)), .int (nI (ey)), .int (nI (sl)), .int (nI (tn))]) (n := 6) (Nat.le_of_ble_eq_true rfl)
  have hE : entryFrame m args 6 = entryFrame m ([.ref (ad (0)), .int (nI (bd)), .int (nI (ey)), .int (nI (sl)), .int (nI (tn))] : List Value).toArray 6 := by rw [hargs]
  rw [hE, lg_entry_eq]
  generalize (lg_sl ([.ref (ad (0)), .int (nI (bd)), .int (nI (ey)), .int (nI (sl)), .int (nI (tn))]) ++ List.replicate (6 - (lg_sl ([.ref (ad (0)), .int (nI (bd)), .int (nI (ey)), .int (nI (sl)), .int (nI (tn))])).length) Slot.unset).toArray = ls at hl ⊢
  have hl : lv_has ls 6 [(0, .ref (ad (0))), (1, .int (nI (bd))), (2, .int (nI (ey))), (3, .int (nI (sl))), (4, .int (nI (tn)))] := hl
  obtain ⟨hn8, hn60, hn6, -⟩ := id hO
  have h00 := hG.1
  have htab := vx_table (x := yL_set) B (hts _ List.mem_cons_self)
  obtain ⟨-, -, -, -, -, ⟨hX6, hX7, hX8⟩, -⟩ := id hKs
  refine lv_aload_n hx hb dL_set_0 rfl (lv_at hl 0 rfl) ?_
  refine lv_iload_n hx hb dL_set_1 rfl (lv_at hl 1 rfl) ?_
  refine lv_iload_n hx hb dL_set_2 rfl (lv_at hl 2 rfl) ?_
  refine lv_iload_n hx hb dL_set_3 rfl (lv_at hl 3 rfl) ?_
  refine lv_iload hx hb dL_set_4 (lv_at hl 4 rfl) ?_
  refine hv_callxi (vx_runV (As := [.int (nI (bd)), .int (nI (ey)), .int (nI (sl)), .int (nI (tn))]) (rest := []) ⟨hx, hb, hml, hown, hts⟩ (c_X3_set l hfl D N0 ad ct hG hO (nI (bd)) (nI (ey)) (nI (sl)) (nI (tn))) (cwV 4 hts gL_set_X3_set rfl rfl rfl (by decide +kernel) ⟨Nat.le_of_ble_eq_true rfl, Nat.le_of_ble_eq_true rfl⟩) (hv_preV (r := (RX3, TX3, 8)) hKs hV hS h00 rfl) rfl rfl hl.1 rfl (lv_room (Nat.le_of_ble_eq_true rfl)) dL_set_6 ⟨(Nat.le_of_ble_eq_true rfl), (Nat.le_of_ble_eq_true rfl)⟩) hS (fun hk0 ce q9 H locs hV hS hce hcv hcl => ?_) (fun r9 u9 H locs hq hV hS => ?_)
  · have h1 : k_set σ (nI (bd)) (nI (ey)) (nI (sl)) (nI (tn)) = 3 := by
      have h9 := kc_set hO (by omega : bd < gNB σ) (by omega : ey < 4) (by omega : sl < gNS σ) (by omega : tn < 8)
      split at h9
      · exact h9
      · exact absurd h9 hk0
    rw [h1] at hcl
    refine vx_catch (E := "java/lang/IllegalStateException") hown [] _ _ (htab.trans rfl) (fun z hz => absurd hz List.not_mem_nil) (by decide) (by decide) kl63 (va_Nw.use rfl (hX6 _ (by decide))) hce hcv hcl ?_
    refine W.eq (g2 := F0 m 10 ls [.ref q9]) rfl ?_
    refine lv_astore (lv' := [(5, .ref (q9)), (0, .ref (ad (0))), (1, .int (nI (bd))), (2, .int (nI (ey))), (3, .int (nI (sl))), (4, .int (nI (tn)))]) hx hb dL_set_10 hl (by decide) rfl (fun ls hl => ?_)
    refine lv_iconst (v := (-1)) hx hb dL_set_12 (by decide) ?_
    refine W.widen (k := 1) (n := 6) (by omega) (by omega) ?_
    exact hv_iret (v := ((-1))) (u := (ad, ct)) hx hb hr ⟨Or.inr ⟨hk0, rfl, hG⟩, hFr.rf⟩ hV hS dL_set_13 hlocks
  · obtain ⟨ad, ct⟩ := u9
    dsimp only at hq
    obtain ⟨hkz, hr9, hG1, hF1⟩ := hq
    have hV : hv D N0 ad ct H := hV
    have hl : lv_has ls 6 [] := lv_sub hl [] rfl
    simp only [toNat_nI (by omega : (bd) < 2 ^ 31), toNat_nI (by omega : (ey) < 2 ^ 31), toNat_nI (by omega : (sl) < 2 ^ 31), toNat_nI (by omega : (tn) < 2 ^ 31)] at hr9 hG1
    refine W.widen (k := 1) (n := 6) (by omega) (by omega) ?_
    exact hv_iret (v := (r9)) (u := (ad, ct)) hx hb hr ⟨Or.inl ⟨hkz, hr9, hG1⟩, hF1⟩ hV hS dL_set_9 hlocks
