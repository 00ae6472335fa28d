/-! THE LAW'S SHOP -/
theorem wkP_ok {σ τ : gS} {c w : Nat} {z : Int32} (h : wkP σ c w z τ) (hO : okS σ) (h2 : ok2 σ) : okS τ ∧ ok2 τ ∧ gNC τ = gNC σ ∧ gNB τ = gNB σ := by
  rcases h with ⟨-, h⟩ | ⟨-, -, h3, h4, h5, -⟩
  · subst h; exact ⟨hO, h2, rfl, rfl⟩
  · exact ⟨h4, h5, h3.1, h3.2.1⟩
theorem oks_set {σ : gS} (hO : okS σ) {b k x t : Nat} (hb : b < gNB σ) (hk : k < 4) (hx : x < gNS σ) (ht : t < 8) (h : k_set σ (nI b) (nI k) (nI x) (nI t) = 0) : okS (s_set σ (4 * b + k) x t) := by
  have h6 := hO.2.2.1
  have h60 := hO.2.1
  have h9 := okk_set hO h
  rw [toNat_nI (by omega), toNat_nI (by omega), toNat_nI (by omega), toNat_nI (by omega)] at h9
  exact h9
theorem oks_cut {σ : gS} (hO : okS σ) {c : Nat} (hc : c < gNC σ) (h : k_cut σ (nI c) = 0) : okS (s_cut σ c) := by
  have h8 := hO.1
  have h9 := okk_cut hO h
  rw [toNat_nI (by omega)] at h9
  exact h9
theorem fu_arg {a n : Nat} (h : a < n + 1) (hn : n ≤ 8) : -1 ≤ (nI a - nI 1).toInt ∧ (nI a - nI 1).toInt < (n : Int) := by
  rw [pk_sub_toInt (by omega) (by omega)]
  omega
theorem dn_1 {j : Nat} (h : 1 ≤ j) : nI j - nI 1 + (-1) = nI (j - 1) - nI 1 := by
  rw [pk_sub h, Int32.sub_eq_add_neg]
  rfl
theorem dn_lt {j : Nat} (h : j < 2 ^ 30) : (nI j - nI 1).toInt < 0 ↔ j = 0 := by
  rw [pk_sub_toInt h (by omega)]
  omega

set_option maxHeartbeats 4000000 in
set_option maxRecDepth 100000 in
theorem c_L_shop (l : Launch) (D : hG) (N0 : Nat) (ad : Nat → Nat) (ct : hC) (hfl : l.stackTraces = false) {b L : Nat} {xs : Nat → Int32} (hbl : b < N0) (hL : L ≤ 260) : Met l yL_shop wsL_shop ({ frames := 8, cells := 834, slots := 8376, locals := 181 }) (hPcX D N0 ad ct b L xs [.ref (b)]) (va_Qq (fun (r : Option Nat) (u : hU) => r = some (u.1 0) ∧ ∃ σ : gS, okS σ ∧ ok2 σ ∧ 1 ≤ gNC σ ∧ gX D σ u.1 u.2) (hB D N0) (hA N0)) 834 8376 (hA N0) := by
  refine Met.ofW (cc := cL_shop) (maxL := 8) (ret := (some (.object "CaneSlices"))) (by decide) rfl ?_
  intro p e s m args below meth c s₁ B hml hv0
  obtain ⟨hargs, hX, hKs, hV⟩ := hv0
  have hbs : b < s.heap.size := Nat.lt_of_lt_of_le hbl hV.1
  have hbA : ¬ hA N0 b := Nat.not_le.mpr hbl
  have hx := B.exec
  have hb := B.bytes
  have hr := B.returns
  have hts := atoms_spec (ws := wsL_shop) B.pre
  have hown : s.vm.findClass RL = some m.cls := findClass_of_methodNamed B.named
  have hlocks := B.notSynchronized
  have hS : va_S (hA N0) s.heap s.heap [] := va_S.rf
  have hiX3 : ∀ w ∈ u_ws RX3 TX3 8, w ∈ wsL_shop := by decide +kernel
  have kc9 := hts (.classLink RL 9 RX3) (by decide +kernel)
  have kiX3 := hts (.instantiable RX3 8) (by decide +kernel)
  have kjX3 := hts (.initialized RX3) (by decide +kernel)
  have lk11 := hts (.methodLink RL 11 yX3_init) (by decide +kernel)
  have hl := lv_entry ([.ref (b)]) (n := 8) (Nat.le_of_ble_eq_true rfl)
  have hE : entryFrame m args 8 = entryFrame m ([.ref (b)] : List Value).toArray 8 := by rw [hargs]
  rw [hE, lg_entry_eq]
  generalize (lg_sl ([.ref (b)]) ++ List.replicate (8 - (lg_sl ([.ref (b)])).length) Slot.unset).toArray = ls at hl ⊢
  have hl : lv_has ls 8 [(0, .ref (b))] := hl
  obtain ⟨Qz, hQz⟩ : ∃ z : State → Prop, z = (MQ below (va_Qq (fun (r : Option Nat) (u : hU) => r = some (u.1 0) ∧ ∃ σ : gS, okS σ ∧ ok2 σ ∧ 1 ≤ gNC σ ∧ gX D σ u.1 u.2) (hB D N0) (hA N0)) args s 834 8376 (hA N0)) := ⟨_, rfl⟩
  rw [← hQz]
  refine hv_new (C := RX3) (T := TX3) (N := 8) hx hb hts hiX3 tyX3 tyX3_ok hown kc9 kiX3 kjX3 hKs hV hS (0) (ci := 3) rfl dv_X3 (Nat.le_of_ble_eq_true rfl) (Nat.le_of_ble_eq_true rfl) dL_shop_0 (fun ad ct H he hne hna hV hS => ?_)
  have hn1 : ct (0) = some (eO 3 [.null, .null, .null, .int (nI (0)), .int (nI (0)), .int (nI (0)), .int (nI (0)), .int (nI (0))]) := he
  refine lv_dup hx hb dL_shop_3 rfl ?_
  refine hv_callv (va_runI (As := []) (rest := [.ref (ad (0))]) ⟨hx, hb, hml, hown, hts⟩ (c_X3_init l D N0 ad ct hn1) (cwI 0 hts gL_shop_X3_init rfl rfl rfl (hts (.initialized RX3) (by decide +kernel)) lk11 (hts (.instanceMethod yX3_init) (by decide +kernel)) rfl (by decide +kernel) ⟨Nat.le_of_ble_eq_true rfl, Nat.le_of_ble_eq_true rfl⟩) (hv_preSO hKs hV hS) rfl rfl hl.1 rfl (lv_room (Nat.le_of_ble_eq_true rfl)) dL_shop_4 ⟨(Nat.le_of_ble_eq_true rfl), (Nat.le_of_ble_eq_true rfl)⟩) hS (fun u9 H locs hq hV hS => ?_)
  obtain ⟨ad, ct⟩ := u9
  dsimp only at hq
  obtain ⟨hG, hna0, hne0⟩ := hq
  have hV : hv D N0 ad ct H := hV
  have hna := fun (q : Nat) (q1 : q ≠ 16 ∧ q ≠ 32 ∧ q ≠ 48) => hna0 q q1.1 q1.2.1 q1.2.2
  refine hv_stk (st' := [.ref (ad (0))]) (by rw [hna (0) (by omega)]) ?_
  refine lv_astore_n (lv' := [(1, .ref (ad (0))), (0, .ref (b))]) hx hb dL_shop_7 rfl hl (by decide) rfl (fun ls hl => ?_)
  refine lv_iconst (v := nI 1) hx hb dL_shop_8 (by decide) ?_
  refine lv_aload_n hx hb dL_shop_9 rfl (lv_at hl 1 rfl) ?_
  refine lv_iconst (v := nI 0) hx hb dL_shop_10 (by decide) ?_
  refine hv_calli (va_runS (As := [.ref (b), .int (nI (0))]) (rest := [.int (nI (1))]) ⟨hx, hb, hml, hown, hts⟩ (c_L_cell l D N0 ad ct hbl hL (by omega : 0 < 1000)) (va_cwS 2 hts gL_shop_L_cell rfl rfl rfl (by decide +kernel) ⟨Nat.le_of_ble_eq_true rfl, Nat.le_of_ble_eq_true rfl⟩) (hv_preSX hX hbs hbA hKs hV hS) rfl rfl hl.1 rfl (lv_room (Nat.le_of_ble_eq_true rfl)) dL_shop_11 ⟨(Nat.le_of_ble_eq_true rfl), (Nat.le_of_ble_eq_true rfl)⟩) hS (fun r9 u9 H locs hq hV hS => ?_)
  subst hq
  have hV : hv D N0 ad ct H := hV
  obtain ⟨xa2, hxa2⟩ : ∃ z, z = r9 := ⟨_, rfl⟩
  refine hv_eqi (y := xa2) hxa2.symm ?_
  refine lv_bipush (v := nI 8) hx hb dL_shop_14 (by decide) ?_
  refine hv_calli (va_runS (As := [.int (xa2), .int (nI (8))]) (rest := [.int (nI (1))]) ⟨hx, hb, hml, hown, hts⟩ (c_L_below l D N0 ad ct ((xa2)) (by omega : 0 < 8) (by omega : 8 < 2 ^ 31)) (va_cwS 2 hts gL_shop_L_below rfl rfl rfl (by decide +kernel) ⟨Nat.le_of_ble_eq_true rfl, Nat.le_of_ble_eq_true rfl⟩) (hv_preS hKs hV hS) rfl rfl hl.1 rfl (lv_room (Nat.le_of_ble_eq_true rfl)) dL_shop_16 ⟨(Nat.le_of_ble_eq_true rfl), (Nat.le_of_ble_eq_true rfl)⟩) hS (fun r9 u9 H locs hq hV hS => ?_)
  obtain ⟨rfl, rfl⟩ := hq
  have hV : hv D N0 ad ct H := hV
  have hbl2 := blw_lt ((xa2)) (by omega : 0 < 8)
  refine hN_iadd hx hb dL_shop_19 ?_
  obtain ⟨nc, hnc⟩ : ∃ z, z = 1 + blw ((xa2)) (8) := ⟨_, rfl⟩
  have hnc1 : 1 ≤ nc ∧ nc ≤ 8 := by omega
  refine hv_eqi (y := nI nc) (by rw [hnc]) ?_
  refine lv_istore_n (lv' := [(2, .int (nI (nc))), (1, .ref (ad (0))), (0, .ref (b))]) hx hb dL_shop_20 rfl hl (by decide) rfl (fun ls hl => ?_)
  refine lv_iconst (v := nI 0) hx hb dL_shop_21 (by decide) ?_
  refine lv_istore_n (lv' := [(3, .int (nI (0))), (2, .int (nI (nc))), (1, .ref (ad (0))), (0, .ref (b))]) hx hb dL_shop_22 rfl hl (by decide) rfl (fun ls hl => ?_)
  have L23 : ∀ (n i : Nat) (σ : gS), i ≤ nc → nc < i + n → ∀ (ad : Nat → Nat) (ct : hC) (H : Heap) (locs : List Loc), (gX D σ ad ct) → (okS σ) → (ok2 σ) → (gNC σ = i) → (gNB σ = 0) → hv D N0 ad ct H → va_S (hA N0) s.heap H locs → ∀ ls : Array Slot, lv_has ls 8 [(3, .int (nI (i))), (2, .int (nI (nc))), (1, .ref (ad (0))), (0, .ref (b))] → W p l e (headSpec wsL_shop ({ frames := 8, cells := 834, slots := 8376, locals := 181 })).room s m args below meth c H locs (4 + 3 * i) (100 + 30 * i) Qz (F0 m 23 ls []) := by
    intro n
    induction n with
    | zero => intro i σ h1 h2; exact absurd h2 (by omega)
    | succ n ih23 =>
      intro i σ hi23 hn23 ad ct H locs hG hO h2 hc hbb hV hS ls hl
      have h00 := hG.1
      obtain ⟨hn8, hn60, hn6, -⟩ := id hO
      refine lv_iload_n hx hb dL_shop_23 rfl (lv_at hl 0 rfl) ?_
      refine lv_iload_n hx hb dL_shop_24 rfl (lv_at hl 1 rfl) ?_
      refine hN_icmp_ge (tgt := 39) hx hb (by omega) (by omega) dL_shop_25 (by decide) (fun c25 => ?_) (fun c25 => ?_)
      · refine lv_aload_n hx hb dL_shop_39 rfl (lv_at hl 3 rfl) ?_
        refine lv_iconst (v := nI 1) hx hb dL_shop_40 (by decide) ?_
        refine hv_calli (va_runS (As := [.ref (b), .int (nI (1))]) (rest := []) ⟨hx, hb, hml, hown, hts⟩ (c_L_cell l D N0 ad ct hbl hL (by omega : 1 < 1000)) (va_cwS 2 hts gL_shop_L_cell rfl rfl rfl (by decide +kernel) ⟨Nat.le_of_ble_eq_true rfl, Nat.le_of_ble_eq_true rfl⟩) (hv_preSX hX hbs hbA hKs hV hS) rfl rfl hl.1 rfl (lv_room (Nat.le_of_ble_eq_true rfl)) dL_shop_41 ⟨(show 4 + 3 * i + 0 ≤ 834 by omega), (show 100 + 30 * i + 0 ≤ 8376 by omega)⟩) hS (fun r9 u9 H locs hq hV hS => ?_)
        subst hq
        have hV : hv D N0 ad ct H := hV
        obtain ⟨xa4, hxa4⟩ : ∃ z, z = r9 := ⟨_, rfl⟩
        refine hv_eqi (y := xa4) hxa4.symm ?_
        refine lv_bipush (v := nI 7) hx hb dL_shop_44 (by decide) ?_
        refine hv_calli (va_runS (As := [.int (xa4), .int (nI (7))]) (rest := []) ⟨hx, hb, hml, hown, hts⟩ (c_L_below l D N0 ad ct ((xa4)) (by omega : 0 < 7) (by omega : 7 < 2 ^ 31)) (va_cwS 2 hts gL_shop_L_below rfl rfl rfl (by decide +kernel) ⟨Nat.le_of_ble_eq_true rfl, Nat.le_of_ble_eq_true rfl⟩) (hv_preS hKs hV hS) rfl rfl hl.1 rfl (lv_room (Nat.le_of_ble_eq_true rfl)) dL_shop_46 ⟨(show 4 + 3 * i + 0 ≤ 834 by omega), (show 100 + 30 * i + 0 ≤ 8376 by omega)⟩) hS (fun r9 u9 H locs hq hV hS => ?_)
        obtain ⟨rfl, rfl⟩ := hq
        have hV : hv D N0 ad ct H := hV
        have hbl4 := blw_lt ((xa4)) (by omega : 0 < 7)
        obtain ⟨nb, hnb⟩ : ∃ z, z = blw ((xa4)) (7) := ⟨_, rfl⟩
        have hnb6 : nb ≤ 6 := by omega
        refine hv_eqi (y := nI nb) (by rw [hnb]) ?_
        refine lv_istore_n (lv' := [(3, .int (nI (nb))), (2, .int (nI (nc))), (1, .ref (ad (0))), (0, .ref (b))]) hx hb dL_shop_49 rfl hl (by decide) rfl (fun ls hl => ?_)
        refine lv_iconst (v := nI 0) hx hb dL_shop_50 (by decide) ?_
        refine lv_istore (lv' := [(4, .int (nI (0))), (3, .int (nI (nb))), (2, .int (nI (nc))), (1, .ref (ad (0))), (0, .ref (b))]) hx hb dL_shop_51 hl (by decide) rfl (fun ls hl => ?_)
        have L53 : ∀ (n i : Nat) (σ : gS), i ≤ nb → nb < i + n → ∀ (ad : Nat → Nat) (ct : hC) (H : Heap) (locs : List Loc), (gX D σ ad ct) → (okS σ) → (ok2 σ) → (gNC σ = nc) → (gNB σ = i) → hv D N0 ad ct H → va_S (hA N0) s.heap H locs → ∀ ls : Array Slot, lv_has ls 8 [(4, .int (nI (i))), (3, .int (nI (nb))), (2, .int (nI (nc))), (1, .ref (ad (0))), (0, .ref (b))] → W p l e (headSpec wsL_shop ({ frames := 8, cells := 834, slots := 8376, locals := 181 })).room s m args below meth c H locs (28 + 1 * i) (340 + 6 * i) Qz (F0 m 53 ls []) := by
          intro n
          induction n with
          | zero => intro i σ h1 h2; exact absurd h2 (by omega)
          | succ n ih53 =>
            intro i σ hi53 hn53 ad ct H locs hG hO h2 hc hbb hV hS ls hl
            have h00 := hG.1
            obtain ⟨hn8, hn60, hn6, -⟩ := id hO
            refine lv_iload hx hb dL_shop_53 (lv_at hl 0 rfl) ?_
            refine lv_iload_n hx hb dL_shop_55 rfl (lv_at hl 1 rfl) ?_
            refine hN_icmp_ge (tgt := 70) hx hb (by omega) (by omega) dL_shop_56 (by decide) (fun c56 => ?_) (fun c56 => ?_)
            · refine lv_iconst (v := nI 0) hx hb dL_shop_70 (by decide) ?_
              refine lv_istore (lv' := [(4, .int (nI (0))), (3, .int (nI (nb))), (2, .int (nI (nc))), (1, .ref (ad (0))), (0, .ref (b))]) hx hb dL_shop_71 hl (by decide) rfl (fun ls hl => ?_)
              have L73 : ∀ (n i : Nat) (σ : gS), i ≤ 40 → 40 < i + n → ∀ (ad : Nat → Nat) (ct : hC) (H : Heap) (locs : List Loc), (gX D σ ad ct) → (okS σ) → (ok2 σ) → (gNC σ = nc) → (gNB σ = nb) → hv D N0 ad ct H → va_S (hA N0) s.heap H locs → ∀ ls : Array Slot, lv_has ls 8 [(4, .int (nI (i))), (3, .int (nI (nb))), (2, .int (nI (nc))), (1, .ref (ad (0))), (0, .ref (b))] → W p l e (headSpec wsL_shop ({ frames := 8, cells := 834, slots := 8376, locals := 181 })).room s m args below meth c H locs (34 + 20 * i) (376 + 200 * i) Qz (F0 m 73 ls []) := by
                intro n
                induction n with
                | zero => intro i σ h1 h2; exact absurd h2 (by omega)
                | succ n ih73 =>
                  intro i σ hi73 hn73 ad ct H locs hG hO h2 hc hbb hV hS ls hl
                  have h00 := hG.1
                  obtain ⟨hn8, hn60, hn6, -⟩ := id hO
                  refine lv_iload hx hb dL_shop_73 (lv_at hl 0 rfl) ?_
                  refine lv_bipush (v := nI 40) hx hb dL_shop_75 (by decide) ?_
                  refine hN_icmp_ge (tgt := 379) hx hb (by omega) (by omega) dL_shop_77 (by decide) (fun c77 => ?_) (fun c77 => ?_)
                  · refine lv_aload_n hx hb dL_shop_379 rfl (lv_at hl 3 rfl) ?_
                    refine W.widen (k := 834) (n := 8376) (by omega) (by omega) ?_
                    rw [hQz]
                    exact hv_qret (r := some (ad (0))) (u := (ad, ct)) hx hb hr ⟨rfl, σ, hO, h2, by omega, hG⟩ hV hS dL_shop_380 hlocks
                  · refine lv_aload_n hx hb dL_shop_80 rfl (lv_at hl 4 rfl) ?_
                    refine lv_iconst (v := nI 2) hx hb dL_shop_81 (by decide) ?_
                    refine lv_iload hx hb dL_shop_82 (lv_at hl 0 rfl) ?_
                    refine lv_bipush (v := nI 13) hx hb dL_shop_84 (by decide) ?_
                    refine hN_irem hx hb (by omega) (by omega) (by omega) dL_shop_86 ?_
                    refine hN_iadd hx hb dL_shop_87 ?_
                    refine hv_calli (va_runS (As := [.ref (b), .int (nI (2 + (i) % (13)))]) (rest := []) ⟨hx, hb, hml, hown, hts⟩ (c_L_cell l D N0 ad ct hbl hL (by omega : 2 + (i) % (13) < 1000)) (va_cwS 2 hts gL_shop_L_cell rfl rfl rfl (by decide +kernel) ⟨Nat.le_of_ble_eq_true rfl, Nat.le_of_ble_eq_true rfl⟩) (hv_preSX hX hbs hbA hKs hV hS) rfl rfl hl.1 rfl (lv_room (Nat.le_of_ble_eq_true rfl)) dL_shop_88 ⟨(show 34 + 20 * i + 0 ≤ 834 by omega), (show 376 + 200 * i + 0 ≤ 8376 by omega)⟩) hS (fun r9 u9 H locs hq hV hS => ?_)
                    subst hq
                    have hV : hv D N0 ad ct H := hV
                    obtain ⟨xa6, hxa6⟩ : ∃ z, z = r9 := ⟨_, rfl⟩
                    refine hv_eqi (y := xa6) hxa6.symm ?_
                    refine lv_iload hx hb dL_shop_91 (lv_at hl 0 rfl) ?_
                    refine lv_bipush (v := nI 13) hx hb dL_shop_93 (by decide) ?_
                    refine hN_idiv hx hb (by omega) (by omega) (by omega) dL_shop_95 ?_
                    refine lv_iconst (v := nI 5) hx hb dL_shop_96 (by decide) ?_
                    refine hN_imul hx hb dL_shop_97 ?_
                    refine lv_ishr hx hb dL_shop_98 ?_
                    refine lv_bipush (v := nI 29) hx hb dL_shop_99 (by decide) ?_
                    refine lv_iload hx hb dL_shop_101 (lv_at hl 0 rfl) ?_
                    refine hN_imul hx hb dL_shop_103 ?_
                    refine lv_iadd hx hb dL_shop_104 ?_
                    obtain ⟨xv, hxv⟩ : ∃ z, z = (((xa6) >>> (nI (((i) / (13)) * (5)) &&& 31)) + nI ((29) * (i))) := ⟨_, rfl⟩
                    refine hv_eqi (y := xv) (by rw [hxv]) ?_
                    refine lv_istore (lv' := [(5, .int (xv)), (4, .int (nI (i))), (3, .int (nI (nb))), (2, .int (nI (nc))), (1, .ref (ad (0))), (0, .ref (b))]) hx hb dL_shop_105 hl (by decide) rfl (fun ls hl => ?_)
                    refine lv_iload hx hb dL_shop_107 (lv_at hl 0 rfl) ?_
                    refine lv_iconst (v := nI 2) hx hb dL_shop_109 (by decide) ?_
                    refine lv_ishr hx hb dL_shop_110 ?_
                    refine lv_iload_n hx hb dL_shop_111 rfl (lv_at hl 3 rfl) ?_
                    refine hv_calli (va_runS (As := [.int ((xv) >>> (nI (2) &&& 31)), .int (nI (nc))]) (rest := []) ⟨hx, hb, hml, hown, hts⟩ (c_L_below l D N0 ad ct (((xv) >>> (nI (2) &&& 31))) (by omega : 0 < nc) (by omega : nc < 2 ^ 31)) (va_cwS 2 hts gL_shop_L_below rfl rfl rfl (by decide +kernel) ⟨Nat.le_of_ble_eq_true rfl, Nat.le_of_ble_eq_true rfl⟩) (hv_preS hKs hV hS) rfl rfl hl.1 rfl (lv_room (Nat.le_of_ble_eq_true rfl)) dL_shop_112 ⟨(show 34 + 20 * i + 0 ≤ 834 by omega), (show 376 + 200 * i + 0 ≤ 8376 by omega)⟩) hS (fun r9 u9 H locs hq hV hS => ?_)
                    obtain ⟨rfl, rfl⟩ := hq
                    have hV : hv D N0 ad ct H := hV
                    have hbl6 := blw_lt (((xv) >>> (nI (2) &&& 31))) (by omega : 0 < nc)
                    obtain ⟨cn, hcn⟩ : ∃ z, z = blw (((xv) >>> (nI (2) &&& 31))) (nc) := ⟨_, rfl⟩
                    have hcn1 : cn < nc := by omega
                    refine hv_eqi (y := nI cn) (by rw [hcn]) ?_
                    refine lv_istore (lv' := [(6, .int (nI (cn))), (5, .int (xv)), (4, .int (nI (i))), (3, .int (nI (nb))), (2, .int (nI (nc))), (1, .ref (ad (0))), (0, .ref (b))]) hx hb dL_shop_115 hl (by decide) rfl (fun ls hl => ?_)
                    refine lv_iload hx hb dL_shop_117 (lv_at hl 1 rfl) ?_
                    refine lv_bipush (v := nI 6) hx hb dL_shop_119 (by decide) ?_
                    refine lv_ishr hx hb dL_shop_121 ?_
                    refine lv_bipush (v := nI 12) hx hb dL_shop_122 (by decide) ?_
                    refine hv_calli (va_runS (As := [.int ((xv) >>> (nI (6) &&& 31)), .int (nI (12))]) (rest := []) ⟨hx, hb, hml, hown, hts⟩ (c_L_below l D N0 ad ct (((xv) >>> (nI (6) &&& 31))) (by omega : 0 < 12) (by omega : 12 < 2 ^ 31)) (va_cwS 2 hts gL_shop_L_below rfl rfl rfl (by decide +kernel) ⟨Nat.le_of_ble_eq_true rfl, Nat.le_of_ble_eq_true rfl⟩) (hv_preS hKs hV hS) rfl rfl hl.1 rfl (lv_room (Nat.le_of_ble_eq_true rfl)) dL_shop_124 ⟨(show 34 + 20 * i + 0 ≤ 834 by omega), (show 376 + 200 * i + 0 ≤ 8376 by omega)⟩) hS (fun r9 u9 H locs hq hV hS => ?_)
                    obtain ⟨rfl, rfl⟩ := hq
                    have hV : hv D N0 ad ct H := hV
                    have hbl7 := blw_lt (((xv) >>> (nI (6) &&& 31))) (by omega : 0 < 12)
                    obtain ⟨k9, hk9⟩ : ∃ z, z = blw (((xv) >>> (nI (6) &&& 31))) (12) := ⟨_, rfl⟩
                    have hk12 : k9 < 12 := by rw [hk9]; exact blw_lt _ (by omega)
                    refine hv_eqi (y := nI k9) (by rw [hk9]) ?_
                    clear hk9
                    rcases (show k9 = 0 ∨ k9 = 1 ∨ k9 = 2 ∨ k9 = 3 ∨ k9 = 4 ∨ k9 = 5 ∨ k9 = 6 ∨ k9 = 7 ∨ k9 = 8 ∨ k9 = 9 ∨ k9 = 10 ∨ k9 = 11 by omega) with rfl | rfl | rfl | rfl | rfl | rfl | rfl | rfl | rfl | rfl | rfl | rfl
                    · refine lv_tableIn (tgt := 184) hx hb dL_shop_127 (by decide) (by decide) rfl (by decide) ?_
                      refine lv_aload_n hx hb dL_shop_184 rfl (lv_at hl 5 rfl) ?_
                      refine lv_iload hx hb dL_shop_185 (lv_at hl 0 rfl) ?_
                      refine lv_iconst (v := nI 0) hx hb dL_shop_187 (by decide) ?_
                      refine lv_iload hx hb dL_shop_188 (lv_at hl 1 rfl) ?_
                      refine hv_calli (vx_runSW (hh := [(0, 97, 98, 63)]) (As := [.ref (ad (0)), .int (nI (cn)), .int (nI (0)), .int (xv)]) (rest := []) ⟨hx, hb, hml, hown, hts⟩ (c_L_work l D N0 ad ct hfl hG hO h2 (by omega : cn < gNC σ) (by omega : 0 < 3) (xv)) (vx_cwSW (hh := [(0, 97, 98, 63)]) 4 hts gL_shop_L_work rfl rfl rfl (by decide +kernel) ⟨Nat.le_of_ble_eq_true rfl, Nat.le_of_ble_eq_true rfl⟩) (hv_preS hKs hV hS) rfl rfl hl.1 rfl (lv_room (Nat.le_of_ble_eq_true rfl)) dL_shop_190 ⟨(show 34 + 20 * i + 1 ≤ 834 by omega), (show 376 + 200 * i + 6 ≤ 8376 by omega)⟩) hS (fun r9 u9 H locs hq hV hS => ?_)
                      obtain ⟨ad, ct⟩ := u9
                      dsimp only at hq
                      obtain ⟨τ, hwk, hG1, hF1⟩ := hq
                      have hV : hv D N0 ad ct H := hV
                      have hna := fun (q : Nat) (q1 : q % 16 = 0) => (hF1 q q1).1
                      dsimp only at hna
                      have hl : lv_has ls 8 [(6, .int (nI (cn))), (5, .int (xv)), (4, .int (nI (i))), (3, .int (nI (nb))), (2, .int (nI (nc))), (1, .ref (ad (0))), (0, .ref (b))] := by rw [hna (0) (by omega)]; exact hl
                      obtain ⟨hO1, h21, hC1, hB1⟩ := wkP_ok hwk hO h2
                      refine lv_pop hx hb dL_shop_193 rfl ?_
                      refine lv_goto (tgt := 373) hx hb dL_shop_194 (by decide) ?_
                      refine lv_iinc (v := nI (i + 1)) (lv' := [(4, .int (nI (i + 1))), (6, .int (nI (cn))), (5, .int (xv)), (3, .int (nI (nb))), (2, .int (nI (nc))), (1, .ref (ad (0))), (0, .ref (b))]) hx hb dL_shop_373 hl (k := 2) rfl (nI_add (i) 1) (by decide) rfl (fun ls hl => ?_)
                      refine lv_goto (tgt := 73) hx hb dL_shop_376 (by decide) ?_
                      refine W.widen (k := 34 + 20 * (i + 1)) (n := 376 + 200 * (i + 1)) (by omega) (by omega) ?_
                      exact ih73 (i + 1) (τ) (by omega) (by omega) ad ct _ _ (hG1) (hO1) (h21) ((by omega)) ((by omega)) hV hS ls (lv_sub hl [0, 3, 4, 5, 6] rfl)
                    · refine lv_tableIn (tgt := 184) hx hb dL_shop_127 (by decide) (by decide) rfl (by decide) ?_
                      refine lv_aload_n hx hb dL_shop_184 rfl (lv_at hl 5 rfl) ?_
                      refine lv_iload hx hb dL_shop_185 (lv_at hl 0 rfl) ?_
                      refine lv_iconst (v := nI 0) hx hb dL_shop_187 (by decide) ?_
                      refine lv_iload hx hb dL_shop_188 (lv_at hl 1 rfl) ?_
                      refine hv_calli (vx_runSW (hh := [(0, 97, 98, 63)]) (As := [.ref (ad (0)), .int (nI (cn)), .int (nI (0)), .int (xv)]) (rest := []) ⟨hx, hb, hml, hown, hts⟩ (c_L_work l D N0 ad ct hfl hG hO h2 (by omega : cn < gNC σ) (by omega : 0 < 3) (xv)) (vx_cwSW (hh := [(0, 97, 98, 63)]) 4 hts gL_shop_L_work rfl rfl rfl (by decide +kernel) ⟨Nat.le_of_ble_eq_true rfl, Nat.le_of_ble_eq_true rfl⟩) (hv_preS hKs hV hS) rfl rfl hl.1 rfl (lv_room (Nat.le_of_ble_eq_true rfl)) dL_shop_190 ⟨(show 34 + 20 * i + 1 ≤ 834 by omega), (show 376 + 200 * i + 6 ≤ 8376 by omega)⟩) hS (fun r9 u9 H locs hq hV hS => ?_)
                      obtain ⟨ad, ct⟩ := u9
                      dsimp only at hq
                      obtain ⟨τ, hwk, hG1, hF1⟩ := hq
                      have hV : hv D N0 ad ct H := hV
                      have hna := fun (q : Nat) (q1 : q % 16 = 0) => (hF1 q q1).1
                      dsimp only at hna
                      have hl : lv_has ls 8 [(6, .int (nI (cn))), (5, .int (xv)), (4, .int (nI (i))), (3, .int (nI (nb))), (2, .int (nI (nc))), (1, .ref (ad (0))), (0, .ref (b))] := by rw [hna (0) (by omega)]; exact hl
                      obtain ⟨hO1, h21, hC1, hB1⟩ := wkP_ok hwk hO h2
                      refine lv_pop hx hb dL_shop_193 rfl ?_
                      refine lv_goto (tgt := 373) hx hb dL_shop_194 (by decide) ?_
                      refine lv_iinc (v := nI (i + 1)) (lv' := [(4, .int (nI (i + 1))), (6, .int (nI (cn))), (5, .int (xv)), (3, .int (nI (nb))), (2, .int (nI (nc))), (1, .ref (ad (0))), (0, .ref (b))]) hx hb dL_shop_373 hl (k := 2) rfl (nI_add (i) 1) (by decide) rfl (fun ls hl => ?_)
                      refine lv_goto (tgt := 73) hx hb dL_shop_376 (by decide) ?_
                      refine W.widen (k := 34 + 20 * (i + 1)) (n := 376 + 200 * (i + 1)) (by omega) (by omega) ?_
                      exact ih73 (i + 1) (τ) (by omega) (by omega) ad ct _ _ (hG1) (hO1) (h21) ((by omega)) ((by omega)) hV hS ls (lv_sub hl [0, 3, 4, 5, 6] rfl)
                    · refine lv_tableIn (tgt := 197) hx hb dL_shop_127 (by decide) (by decide) rfl (by decide) ?_
                      refine lv_aload_n hx hb dL_shop_197 rfl (lv_at hl 5 rfl) ?_
                      refine lv_iload hx hb dL_shop_198 (lv_at hl 0 rfl) ?_
                      refine lv_iconst (v := nI 1) hx hb dL_shop_200 (by decide) ?_
                      refine lv_iload hx hb dL_shop_201 (lv_at hl 1 rfl) ?_
                      refine hv_calli (vx_runSW (hh := [(0, 97, 98, 63)]) (As := [.ref (ad (0)), .int (nI (cn)), .int (nI (1)), .int (xv)]) (rest := []) ⟨hx, hb, hml, hown, hts⟩ (c_L_work l D N0 ad ct hfl hG hO h2 (by omega : cn < gNC σ) (by omega : 1 < 3) (xv)) (vx_cwSW (hh := [(0, 97, 98, 63)]) 4 hts gL_shop_L_work rfl rfl rfl (by decide +kernel) ⟨Nat.le_of_ble_eq_true rfl, Nat.le_of_ble_eq_true rfl⟩) (hv_preS hKs hV hS) rfl rfl hl.1 rfl (lv_room (Nat.le_of_ble_eq_true rfl)) dL_shop_203 ⟨(show 34 + 20 * i + 1 ≤ 834 by omega), (show 376 + 200 * i + 6 ≤ 8376 by omega)⟩) hS (fun r9 u9 H locs hq hV hS => ?_)
                      obtain ⟨ad, ct⟩ := u9
                      dsimp only at hq
                      obtain ⟨τ, hwk, hG1, hF1⟩ := hq
                      have hV : hv D N0 ad ct H := hV
                      have hna := fun (q : Nat) (q1 : q % 16 = 0) => (hF1 q q1).1
                      dsimp only at hna
                      have hl : lv_has ls 8 [(6, .int (nI (cn))), (5, .int (xv)), (4, .int (nI (i))), (3, .int (nI (nb))), (2, .int (nI (nc))), (1, .ref (ad (0))), (0, .ref (b))] := by rw [hna (0) (by omega)]; exact hl
                      obtain ⟨hO1, h21, hC1, hB1⟩ := wkP_ok hwk hO h2
                      refine lv_pop hx hb dL_shop_206 rfl ?_
                      refine lv_goto (tgt := 373) hx hb dL_shop_207 (by decide) ?_
                      refine lv_iinc (v := nI (i + 1)) (lv' := [(4, .int (nI (i + 1))), (6, .int (nI (cn))), (5, .int (xv)), (3, .int (nI (nb))), (2, .int (nI (nc))), (1, .ref (ad (0))), (0, .ref (b))]) hx hb dL_shop_373 hl (k := 2) rfl (nI_add (i) 1) (by decide) rfl (fun ls hl => ?_)
                      refine lv_goto (tgt := 73) hx hb dL_shop_376 (by decide) ?_
                      refine W.widen (k := 34 + 20 * (i + 1)) (n := 376 + 200 * (i + 1)) (by omega) (by omega) ?_
                      exact ih73 (i + 1) (τ) (by omega) (by omega) ad ct _ _ (hG1) (hO1) (h21) ((by omega)) ((by omega)) hV hS ls (lv_sub hl [0, 3, 4, 5, 6] rfl)
                    · refine lv_tableIn (tgt := 197) hx hb dL_shop_127 (by decide) (by decide) rfl (by decide) ?_
                      refine lv_aload_n hx hb dL_shop_197 rfl (lv_at hl 5 rfl) ?_
                      refine lv_iload hx hb dL_shop_198 (lv_at hl 0 rfl) ?_
                      refine lv_iconst (v := nI 1) hx hb dL_shop_200 (by decide) ?_
                      refine lv_iload hx hb dL_shop_201 (lv_at hl 1 rfl) ?_
                      refine hv_calli (vx_runSW (hh := [(0, 97, 98, 63)]) (As := [.ref (ad (0)), .int (nI (cn)), .int (nI (1)), .int (xv)]) (rest := []) ⟨hx, hb, hml, hown, hts⟩ (c_L_work l D N0 ad ct hfl hG hO h2 (by omega : cn < gNC σ) (by omega : 1 < 3) (xv)) (vx_cwSW (hh := [(0, 97, 98, 63)]) 4 hts gL_shop_L_work rfl rfl rfl (by decide +kernel) ⟨Nat.le_of_ble_eq_true rfl, Nat.le_of_ble_eq_true rfl⟩) (hv_preS hKs hV hS) rfl rfl hl.1 rfl (lv_room (Nat.le_of_ble_eq_true rfl)) dL_shop_203 ⟨(show 34 + 20 * i + 1 ≤ 834 by omega), (show 376 + 200 * i + 6 ≤ 8376 by omega)⟩) hS (fun r9 u9 H locs hq hV hS => ?_)
                      obtain ⟨ad, ct⟩ := u9
                      dsimp only at hq
                      obtain ⟨τ, hwk, hG1, hF1⟩ := hq
                      have hV : hv D N0 ad ct H := hV
                      have hna := fun (q : Nat) (q1 : q % 16 = 0) => (hF1 q q1).1
                      dsimp only at hna
                      have hl : lv_has ls 8 [(6, .int (nI (cn))), (5, .int (xv)), (4, .int (nI (i))), (3, .int (nI (nb))), (2, .int (nI (nc))), (1, .ref (ad (0))), (0, .ref (b))] := by rw [hna (0) (by omega)]; exact hl
                      obtain ⟨hO1, h21, hC1, hB1⟩ := wkP_ok hwk hO h2
                      refine lv_pop hx hb dL_shop_206 rfl ?_
                      refine lv_goto (tgt := 373) hx hb dL_shop_207 (by decide) ?_
                      refine lv_iinc (v := nI (i + 1)) (lv' := [(4, .int (nI (i + 1))), (6, .int (nI (cn))), (5, .int (xv)), (3, .int (nI (nb))), (2, .int (nI (nc))), (1, .ref (ad (0))), (0, .ref (b))]) hx hb dL_shop_373 hl (k := 2) rfl (nI_add (i) 1) (by decide) rfl (fun ls hl => ?_)
                      refine lv_goto (tgt := 73) hx hb dL_shop_376 (by decide) ?_
                      refine W.widen (k := 34 + 20 * (i + 1)) (n := 376 + 200 * (i + 1)) (by omega) (by omega) ?_
                      exact ih73 (i + 1) (τ) (by omega) (by omega) ad ct _ _ (hG1) (hO1) (h21) ((by omega)) ((by omega)) hV hS ls (lv_sub hl [0, 3, 4, 5, 6] rfl)
                    · refine lv_tableIn (tgt := 210) hx hb dL_shop_127 (by decide) (by decide) rfl (by decide) ?_
                      refine lv_aload_n hx hb dL_shop_210 rfl (lv_at hl 5 rfl) ?_
                      refine lv_iload hx hb dL_shop_211 (lv_at hl 0 rfl) ?_
                      refine lv_iconst (v := nI 2) hx hb dL_shop_213 (by decide) ?_
                      refine lv_iload hx hb dL_shop_214 (lv_at hl 1 rfl) ?_
                      refine hv_calli (vx_runSW (hh := [(0, 97, 98, 63)]) (As := [.ref (ad (0)), .int (nI (cn)), .int (nI (2)), .int (xv)]) (rest := []) ⟨hx, hb, hml, hown, hts⟩ (c_L_work l D N0 ad ct hfl hG hO h2 (by omega : cn < gNC σ) (by omega : 2 < 3) (xv)) (vx_cwSW (hh := [(0, 97, 98, 63)]) 4 hts gL_shop_L_work rfl rfl rfl (by decide +kernel) ⟨Nat.le_of_ble_eq_true rfl, Nat.le_of_ble_eq_true rfl⟩) (hv_preS hKs hV hS) rfl rfl hl.1 rfl (lv_room (Nat.le_of_ble_eq_true rfl)) dL_shop_216 ⟨(show 34 + 20 * i + 1 ≤ 834 by omega), (show 376 + 200 * i + 6 ≤ 8376 by omega)⟩) hS (fun r9 u9 H locs hq hV hS => ?_)
                      obtain ⟨ad, ct⟩ := u9
                      dsimp only at hq
                      obtain ⟨τ, hwk, hG1, hF1⟩ := hq
                      have hV : hv D N0 ad ct H := hV
                      have hna := fun (q : Nat) (q1 : q % 16 = 0) => (hF1 q q1).1
                      dsimp only at hna
                      have hl : lv_has ls 8 [(6, .int (nI (cn))), (5, .int (xv)), (4, .int (nI (i))), (3, .int (nI (nb))), (2, .int (nI (nc))), (1, .ref (ad (0))), (0, .ref (b))] := by rw [hna (0) (by omega)]; exact hl
                      obtain ⟨hO1, h21, hC1, hB1⟩ := wkP_ok hwk hO h2
                      refine lv_pop hx hb dL_shop_219 rfl ?_
                      refine lv_goto (tgt := 373) hx hb dL_shop_220 (by decide) ?_
                      refine lv_iinc (v := nI (i + 1)) (lv' := [(4, .int (nI (i + 1))), (6, .int (nI (cn))), (5, .int (xv)), (3, .int (nI (nb))), (2, .int (nI (nc))), (1, .ref (ad (0))), (0, .ref (b))]) hx hb dL_shop_373 hl (k := 2) rfl (nI_add (i) 1) (by decide) rfl (fun ls hl => ?_)
                      refine lv_goto (tgt := 73) hx hb dL_shop_376 (by decide) ?_
                      refine W.widen (k := 34 + 20 * (i + 1)) (n := 376 + 200 * (i + 1)) (by omega) (by omega) ?_
                      exact ih73 (i + 1) (τ) (by omega) (by omega) ad ct _ _ (hG1) (hO1) (h21) ((by omega)) ((by omega)) hV hS ls (lv_sub hl [0, 3, 4, 5, 6] rfl)
                    · refine lv_tableIn (tgt := 223) hx hb dL_shop_127 (by decide) (by decide) rfl (by decide) ?_
                      refine lv_aload_n hx hb dL_shop_223 rfl (lv_at hl 5 rfl) ?_
                      refine lv_iload hx hb dL_shop_224 (lv_at hl 1 rfl) ?_
                      refine lv_iload_n hx hb dL_shop_226 rfl (lv_at hl 4 rfl) ?_
                      refine lv_iconst (v := nI 1) hx hb dL_shop_227 (by decide) ?_
                      refine hN_iadd hx hb dL_shop_228 ?_
                      refine hv_calli (va_runS (As := [.int (xv), .int (nI (nc + 1))]) (rest := [.ref (ad (0))]) ⟨hx, hb, hml, hown, hts⟩ (c_L_below l D N0 ad ct ((xv)) (by omega : 0 < nc + 1) (by omega : nc + 1 < 2 ^ 31)) (va_cwS 2 hts gL_shop_L_below rfl rfl rfl (by decide +kernel) ⟨Nat.le_of_ble_eq_true rfl, Nat.le_of_ble_eq_true rfl⟩) (hv_preS hKs hV hS) rfl rfl hl.1 rfl (lv_room (Nat.le_of_ble_eq_true rfl)) dL_shop_229 ⟨(show 34 + 20 * i + 0 ≤ 834 by omega), (show 376 + 200 * i + 0 ≤ 8376 by omega)⟩) hS (fun r9 u9 H locs hq hV hS => ?_)
                      obtain ⟨rfl, rfl⟩ := hq
                      have hV : hv D N0 ad ct H := hV
                      have hbl8 := blw_lt ((xv)) (by omega : 0 < nc + 1)
                      refine lv_iconst (v := nI 1) hx hb dL_shop_232 (by decide) ?_
                      refine lv_isub hx hb dL_shop_233 ?_
                      have hfa := fu_arg (n := nc) (blw_lt xv (by omega : 0 < nc + 1)) (by omega)
                      refine hv_call0 (kz_furn1 hO hfa.1 (by rw [hc]; exact hfa.2)) (vx_runV (As := [.int (nI (blw ((xv)) (nc + 1)) - nI (1))]) (rest := []) ⟨hx, hb, hml, hown, hts⟩ (c_X3_furnace l hfl D N0 ad ct hG hO ((nI (blw ((xv)) (nc + 1)) - nI (1)))) (cwV 1 hts gL_shop_X3_furnace rfl rfl rfl (by decide +kernel) ⟨Nat.le_of_ble_eq_true rfl, Nat.le_of_ble_eq_true rfl⟩) (hv_preV (r := (RX3, TX3, 8)) hKs hV hS h00 rfl) rfl rfl hl.1 rfl (lv_room (Nat.le_of_ble_eq_true rfl)) dL_shop_234 ⟨(show 34 + 20 * i + 1 ≤ 834 by omega), (show 376 + 200 * i + 6 ≤ 8376 by omega)⟩) hS (fun r9 u9 H locs hq hV hS => ?_)
                      obtain ⟨ad, ct⟩ := u9
                      dsimp only at hq
                      obtain ⟨-, hz9, hG1, hF1⟩ := hq
                      have hV : hv D N0 ad ct H := hV
                      have hna := fun (q : Nat) (q1 : q % 16 = 0) => (hF1 q q1).1
                      have hne := fun (q : Nat) (q1 : q % 16 = 0 ∧ 64 ≤ q) => (hF1 q q1.1).2 q1.2
                      dsimp only at hna hne
                      subst hz9
                      have hG1 : gX D (uObj σ (gNB σ) ((nI (blw ((xv)) (nc + 1)) - nI (1))) (gMi σ)) ad ct := hG1
                      have hl : lv_has ls 8 [(6, .int (nI (cn))), (5, .int (xv)), (4, .int (nI (i))), (3, .int (nI (nb))), (2, .int (nI (nc))), (1, .ref (ad (0))), (0, .ref (b))] := by rw [hna (0) (by omega)]; exact hl
                      refine lv_pop hx hb dL_shop_237 rfl ?_
                      refine lv_goto (tgt := 373) hx hb dL_shop_238 (by decide) ?_
                      refine lv_iinc (v := nI (i + 1)) (lv' := [(4, .int (nI (i + 1))), (6, .int (nI (cn))), (5, .int (xv)), (3, .int (nI (nb))), (2, .int (nI (nc))), (1, .ref (ad (0))), (0, .ref (b))]) hx hb dL_shop_373 hl (k := 2) rfl (nI_add (i) 1) (by decide) rfl (fun ls hl => ?_)
                      refine lv_goto (tgt := 73) hx hb dL_shop_376 (by decide) ?_
                      refine W.widen (k := 34 + 20 * (i + 1)) (n := 376 + 200 * (i + 1)) (by omega) (by omega) ?_
                      exact ih73 (i + 1) (uObj σ (gNB σ) ((nI (blw ((xv)) (nc + 1)) - nI (1))) (gMi σ)) (by omega) (by omega) ad ct _ _ (hG1) (okk_furnace hO) (ok2_fu h2 hfa.1 (by rw [hc]; exact hfa.2)) (hc) (hbb) hV hS ls (lv_sub hl [0, 3, 4, 5, 6] rfl)
                    · refine lv_tableIn (tgt := 241) hx hb dL_shop_127 (by decide) (by decide) rfl (by decide) ?_
                      refine lv_aload_n hx hb dL_shop_241 rfl (lv_at hl 5 rfl) ?_
                      refine lv_iconst (v := nI 1) hx hb dL_shop_242 (by decide) ?_
                      refine lv_iload hx hb dL_shop_243 (lv_at hl 1 rfl) ?_
                      refine lv_bipush (v := nI 6) hx hb dL_shop_245 (by decide) ?_
                      refine hv_calli (va_runS (As := [.int (xv), .int (nI (6))]) (rest := [.int (nI (1)), .ref (ad (0))]) ⟨hx, hb, hml, hown, hts⟩ (c_L_below l D N0 ad ct ((xv)) (by omega : 0 < 6) (by omega : 6 < 2 ^ 31)) (va_cwS 2 hts gL_shop_L_below rfl rfl rfl (by decide +kernel) ⟨Nat.le_of_ble_eq_true rfl, Nat.le_of_ble_eq_true rfl⟩) (hv_preS hKs hV hS) rfl rfl hl.1 rfl (lv_room (Nat.le_of_ble_eq_true rfl)) dL_shop_247 ⟨(show 34 + 20 * i + 0 ≤ 834 by omega), (show 376 + 200 * i + 0 ≤ 8376 by omega)⟩) hS (fun r9 u9 H locs hq hV hS => ?_)
                      obtain ⟨rfl, rfl⟩ := hq
                      have hV : hv D N0 ad ct H := hV
                      have hbl9 := blw_lt ((xv)) (by omega : 0 < 6)
                      refine hN_iadd hx hb dL_shop_250 ?_
                      refine hv_call0 (kz_rest (by omega) (by omega)) (vx_runV (As := [.int (nI (1 + blw ((xv)) (6)))]) (rest := []) ⟨hx, hb, hml, hown, hts⟩ (c_X3_rest l hfl D N0 ad ct hG hO (nI (1 + blw ((xv)) (6)))) (cwV 1 hts gL_shop_X3_rest rfl rfl rfl (by decide +kernel) ⟨Nat.le_of_ble_eq_true rfl, Nat.le_of_ble_eq_true rfl⟩) (hv_preV (r := (RX3, TX3, 8)) hKs hV hS h00 rfl) rfl rfl hl.1 rfl (lv_room (Nat.le_of_ble_eq_true rfl)) dL_shop_251 ⟨(show 34 + 20 * i + 1 ≤ 834 by omega), (show 376 + 200 * i + 6 ≤ 8376 by omega)⟩) hS (fun r9 u9 H locs hq hV hS => ?_)
                      obtain ⟨ad, ct⟩ := u9
                      dsimp only at hq
                      obtain ⟨-, hz9, hG1, hF1⟩ := hq
                      have hV : hv D N0 ad ct H := hV
                      simp only [toNat_nI (by omega : (1 + blw ((xv)) (6)) < 2 ^ 31)] at hz9
                      simp only [toNat_nI (by omega : (1 + blw ((xv)) (6)) < 2 ^ 31)] at hG1
                      have hna := fun (q : Nat) (q1 : q % 16 = 0) => (hF1 q q1).1
                      have hne := fun (q : Nat) (q1 : q % 16 = 0 ∧ 64 ≤ q) => (hF1 q q1.1).2 q1.2
                      dsimp only at hna hne
                      subst hz9
                      have hl : lv_has ls 8 [(6, .int (nI (cn))), (5, .int (xv)), (4, .int (nI (i))), (3, .int (nI (nb))), (2, .int (nI (nc))), (1, .ref (ad (0))), (0, .ref (b))] := by rw [hna (0) (by omega)]; exact hl
                      refine lv_pop hx hb dL_shop_254 rfl ?_
                      refine lv_goto (tgt := 373) hx hb dL_shop_255 (by decide) ?_
                      refine lv_iinc (v := nI (i + 1)) (lv' := [(4, .int (nI (i + 1))), (6, .int (nI (cn))), (5, .int (xv)), (3, .int (nI (nb))), (2, .int (nI (nc))), (1, .ref (ad (0))), (0, .ref (b))]) hx hb dL_shop_373 hl (k := 2) rfl (nI_add (i) 1) (by decide) rfl (fun ls hl => ?_)
                      refine lv_goto (tgt := 73) hx hb dL_shop_376 (by decide) ?_
                      refine W.widen (k := 34 + 20 * (i + 1)) (n := 376 + 200 * (i + 1)) (by omega) (by omega) ?_
                      exact ih73 (i + 1) (itP σ (1 + blw ((xv)) (6))) (by omega) (by omega) ad ct _ _ (hG1) (ok_itP hO _) (ok2_itP h2 _) ((by have := (rel_itP hO (1 + blw ((xv)) (6))).1; omega)) ((by have := (rel_itP hO (1 + blw ((xv)) (6))).2.1; omega)) hV hS ls (lv_sub hl [0, 3, 4, 5, 6] rfl)
                    · refine lv_tableIn (tgt := 241) hx hb dL_shop_127 (by decide) (by decide) rfl (by decide) ?_
                      refine lv_aload_n hx hb dL_shop_241 rfl (lv_at hl 5 rfl) ?_
                      refine lv_iconst (v := nI 1) hx hb dL_shop_242 (by decide) ?_
                      refine lv_iload hx hb dL_shop_243 (lv_at hl 1 rfl) ?_
                      refine lv_bipush (v := nI 6) hx hb dL_shop_245 (by decide) ?_
                      refine hv_calli (va_runS (As := [.int (xv), .int (nI (6))]) (rest := [.int (nI (1)), .ref (ad (0))]) ⟨hx, hb, hml, hown, hts⟩ (c_L_below l D N0 ad ct ((xv)) (by omega : 0 < 6) (by omega : 6 < 2 ^ 31)) (va_cwS 2 hts gL_shop_L_below rfl rfl rfl (by decide +kernel) ⟨Nat.le_of_ble_eq_true rfl, Nat.le_of_ble_eq_true rfl⟩) (hv_preS hKs hV hS) rfl rfl hl.1 rfl (lv_room (Nat.le_of_ble_eq_true rfl)) dL_shop_247 ⟨(show 34 + 20 * i + 0 ≤ 834 by omega), (show 376 + 200 * i + 0 ≤ 8376 by omega)⟩) hS (fun r9 u9 H locs hq hV hS => ?_)
                      obtain ⟨rfl, rfl⟩ := hq
                      have hV : hv D N0 ad ct H := hV
                      have hbl10 := blw_lt ((xv)) (by omega : 0 < 6)
                      refine hN_iadd hx hb dL_shop_250 ?_
                      refine hv_call0 (kz_rest (by omega) (by omega)) (vx_runV (As := [.int (nI (1 + blw ((xv)) (6)))]) (rest := []) ⟨hx, hb, hml, hown, hts⟩ (c_X3_rest l hfl D N0 ad ct hG hO (nI (1 + blw ((xv)) (6)))) (cwV 1 hts gL_shop_X3_rest rfl rfl rfl (by decide +kernel) ⟨Nat.le_of_ble_eq_true rfl, Nat.le_of_ble_eq_true rfl⟩) (hv_preV (r := (RX3, TX3, 8)) hKs hV hS h00 rfl) rfl rfl hl.1 rfl (lv_room (Nat.le_of_ble_eq_true rfl)) dL_shop_251 ⟨(show 34 + 20 * i + 1 ≤ 834 by omega), (show 376 + 200 * i + 6 ≤ 8376 by omega)⟩) hS (fun r9 u9 H locs hq hV hS => ?_)
                      obtain ⟨ad, ct⟩ := u9
                      dsimp only at hq
                      obtain ⟨-, hz9, hG1, hF1⟩ := hq
                      have hV : hv D N0 ad ct H := hV
                      simp only [toNat_nI (by omega : (1 + blw ((xv)) (6)) < 2 ^ 31)] at hz9
                      simp only [toNat_nI (by omega : (1 + blw ((xv)) (6)) < 2 ^ 31)] at hG1
                      have hna := fun (q : Nat) (q1 : q % 16 = 0) => (hF1 q q1).1
                      have hne := fun (q : Nat) (q1 : q % 16 = 0 ∧ 64 ≤ q) => (hF1 q q1.1).2 q1.2
                      dsimp only at hna hne
                      subst hz9
                      have hl : lv_has ls 8 [(6, .int (nI (cn))), (5, .int (xv)), (4, .int (nI (i))), (3, .int (nI (nb))), (2, .int (nI (nc))), (1, .ref (ad (0))), (0, .ref (b))] := by rw [hna (0) (by omega)]; exact hl
                      refine lv_pop hx hb dL_shop_254 rfl ?_
                      refine lv_goto (tgt := 373) hx hb dL_shop_255 (by decide) ?_
                      refine lv_iinc (v := nI (i + 1)) (lv' := [(4, .int (nI (i + 1))), (6, .int (nI (cn))), (5, .int (xv)), (3, .int (nI (nb))), (2, .int (nI (nc))), (1, .ref (ad (0))), (0, .ref (b))]) hx hb dL_shop_373 hl (k := 2) rfl (nI_add (i) 1) (by decide) rfl (fun ls hl => ?_)
                      refine lv_goto (tgt := 73) hx hb dL_shop_376 (by decide) ?_
                      refine W.widen (k := 34 + 20 * (i + 1)) (n := 376 + 200 * (i + 1)) (by omega) (by omega) ?_
                      exact ih73 (i + 1) (itP σ (1 + blw ((xv)) (6))) (by omega) (by omega) ad ct _ _ (hG1) (ok_itP hO _) (ok2_itP h2 _) ((by have := (rel_itP hO (1 + blw ((xv)) (6))).1; omega)) ((by have := (rel_itP hO (1 + blw ((xv)) (6))).2.1; omega)) hV hS ls (lv_sub hl [0, 3, 4, 5, 6] rfl)
                    · refine lv_tableIn (tgt := 258) hx hb dL_shop_127 (by decide) (by decide) rfl (by decide) ?_
                      refine lv_iload hx hb dL_shop_258 (lv_at hl 1 rfl) ?_
                      refine lv_iconst (v := nI 4) hx hb dL_shop_260 (by decide) ?_
                      refine hv_calli (va_runS (As := [.int (xv), .int (nI (4))]) (rest := []) ⟨hx, hb, hml, hown, hts⟩ (c_L_below l D N0 ad ct ((xv)) (by omega : 0 < 4) (by omega : 4 < 2 ^ 31)) (va_cwS 2 hts gL_shop_L_below rfl rfl rfl (by decide +kernel) ⟨Nat.le_of_ble_eq_true rfl, Nat.le_of_ble_eq_true rfl⟩) (hv_preS hKs hV hS) rfl rfl hl.1 rfl (lv_room (Nat.le_of_ble_eq_true rfl)) dL_shop_261 ⟨(show 34 + 20 * i + 0 ≤ 834 by omega), (show 376 + 200 * i + 0 ≤ 8376 by omega)⟩) hS (fun r9 u9 H locs hq hV hS => ?_)
                      obtain ⟨rfl, rfl⟩ := hq
                      have hV : hv D N0 ad ct H := hV
                      have hbl11 := blw_lt ((xv)) (by omega : 0 < 4)
                      obtain ⟨bt, hbt⟩ : ∃ z, z = blw ((xv)) (4) + 1 := ⟨_, rfl⟩
                      have hbt4 : bt ≤ 4 := by omega
                      refine hv_eqi (y := nI (bt - 0) - nI (1)) (by rw [hbt, Nat.sub_zero, ← nI_add]; simp) ?_
                      refine lv_istore (lv' := [(7, .int (nI (bt - 0) - nI (1))), (6, .int (nI (cn))), (5, .int (xv)), (4, .int (nI (i))), (3, .int (nI (nb))), (2, .int (nI (nc))), (1, .ref (ad (0))), (0, .ref (b))]) hx hb dL_shop_264 hl (by decide) rfl (fun ls hl => ?_)
                      have L266 : ∀ (n jj : Nat) (σ : gS), jj ≤ bt → bt < jj + n → ∀ (ad : Nat → Nat) (ct : hC) (H : Heap) (locs : List Loc), (gX D σ ad ct) → (okS σ) → (ok2 σ) → (gNC σ = nc) → (gNB σ = nb) → hv D N0 ad ct H → va_S (hA N0) s.heap H locs → ∀ ls : Array Slot, lv_has ls 8 [(7, .int (nI (bt - jj) - nI (1))), (5, .int (xv)), (6, .int (nI (cn))), (4, .int (nI (i))), (3, .int (nI (nb))), (2, .int (nI (nc))), (1, .ref (ad (0))), (0, .ref (b))] → W p l e (headSpec wsL_shop ({ frames := 8, cells := 834, slots := 8376, locals := 181 })).room s m args below meth c H locs (34 + 20 * i + 3 * jj) (376 + 200 * i + 30 * jj) Qz (F0 m 266 ls []) := by
                        intro n
                        induction n with
                        | zero => intro jj σ h1 h2; exact absurd h2 (by omega)
                        | succ n ih266 =>
                          intro jj σ hi266 hn266 ad ct H locs hG hO h2 hc hbb hV hS ls hl
                          have h00 := hG.1
                          obtain ⟨hn8, hn60, hn6, -⟩ := id hO
                          refine lv_iload hx hb dL_shop_266 (lv_at hl 0 rfl) ?_
                          refine hI_if_lt (tgt := 284) hx hb dL_shop_268 (by decide) (fun c268 => ?_) (fun c268 => ?_)
                          · refine lv_goto (tgt := 373) hx hb dL_shop_284 (by decide) ?_
                            refine lv_iinc (v := nI (i + 1)) (lv' := [(4, .int (nI (i + 1))), (7, .int (nI (bt - jj) - nI (1))), (5, .int (xv)), (6, .int (nI (cn))), (3, .int (nI (nb))), (2, .int (nI (nc))), (1, .ref (ad (0))), (0, .ref (b))]) hx hb dL_shop_373 hl (k := 3) rfl (nI_add (i) 1) (by decide) rfl (fun ls hl => ?_)
                            refine lv_goto (tgt := 73) hx hb dL_shop_376 (by decide) ?_
                            refine W.widen (k := 34 + 20 * (i + 1)) (n := 376 + 200 * (i + 1)) (by omega) (by omega) ?_
                            exact ih73 (i + 1) (σ) (by omega) (by omega) ad ct _ _ (hG) (hO) (h2) (hc) (hbb) hV hS ls (lv_sub hl [0, 4, 5, 6, 7] rfl)
                          · have hjj : jj < bt := by
                              rcases Nat.lt_or_ge jj bt with q | q
                              · exact q
                              · have e : bt - jj = 0 := by omega
                                rw [e] at c268
                                exact absurd c268 (by decide)
                            refine lv_aload_n hx hb dL_shop_271 rfl (lv_at hl 6 rfl) ?_
                            refine lv_iload hx hb dL_shop_272 (lv_at hl 2 rfl) ?_
                            refine hv_calli (vx_runSW (hh := [(0, 5, 6, 63)]) (As := [.ref (ad (0)), .int (nI (cn))]) (rest := []) ⟨hx, hb, hml, hown, hts⟩ (c_L_cut l D N0 ad ct hfl hG hO (by omega : cn < gNC σ)) (vx_cwSW (hh := [(0, 5, 6, 63)]) 2 hts gL_shop_L_cut rfl rfl rfl (by decide +kernel) ⟨Nat.le_of_ble_eq_true rfl, Nat.le_of_ble_eq_true rfl⟩) (hv_preS hKs hV hS) rfl rfl hl.1 rfl (lv_room (Nat.le_of_ble_eq_true rfl)) dL_shop_274 ⟨(show 34 + 20 * i + 3 * jj + 3 ≤ 834 by omega), (show 376 + 200 * i + 30 * jj + 30 ≤ 8376 by omega)⟩) hS (fun r9 u9 H locs hq hV hS => ?_)
                            obtain ⟨ad, ct⟩ := u9
                            dsimp only at hq
                            obtain ⟨hq, hF1⟩ := hq
                            have hV : hv D N0 ad ct H := hV
                            have hna := fun (q : Nat) (q1 : q % 16 = 0) => (hF1 q q1).1
                            dsimp only at hna
                            have hl : lv_has ls 8 [(7, .int (nI (bt - jj) - nI (1))), (5, .int (xv)), (6, .int (nI (cn))), (4, .int (nI (i))), (3, .int (nI (nb))), (2, .int (nI (nc))), (1, .ref (ad (0))), (0, .ref (b))] := by rw [hna (0) (by omega)]; exact hl
                            obtain ⟨τ, hG1, hO1, h21, hC1, hB1⟩ : ∃ τ : gS, gX D τ ad ct ∧ okS τ ∧ ok2 τ ∧ gNC τ = gNC σ ∧ gNB τ = gNB σ := by
                              rcases hq with ⟨hk, -, hg⟩ | ⟨-, -, hg⟩
                              · exact ⟨_, hg, oks_cut hO (by omega) hk, ok2_cut h2 (by omega), rfl, rfl⟩
                              · exact ⟨σ, hg, hO, h2, rfl, rfl⟩
                            refine lv_pop hx hb dL_shop_277 rfl ?_
                            refine lv_iinc (v := nI (bt - (jj + 1)) - nI (1)) (lv' := [(7, .int (nI (bt - (jj + 1)) - nI (1))), (5, .int (xv)), (6, .int (nI (cn))), (4, .int (nI (i))), (3, .int (nI (nb))), (2, .int (nI (nc))), (1, .ref (ad (0))), (0, .ref (b))]) hx hb dL_shop_278 hl (k := 0) rfl (dn_1 (by omega : 1 ≤ bt - jj)) (by decide) rfl (fun ls hl => ?_)
                            refine lv_goto (tgt := 266) hx hb dL_shop_281 (by decide) ?_
                            refine W.widen (k := 34 + 20 * i + 3 * (jj + 1)) (n := 376 + 200 * i + 30 * (jj + 1)) (by omega) (by omega) ?_
                            exact ih266 (jj + 1) (τ) (by omega) (by omega) ad ct _ _ (hG1) (hO1) (h21) ((by omega)) ((by omega)) hV hS ls (lv_sub hl [0, 1, 2, 3, 4, 5, 6, 7] rfl)
                      refine W.widen (k := 34 + 20 * i + 3 * (0)) (n := 376 + 200 * i + 30 * (0)) (by omega) (by omega) ?_
                      exact L266 (bt + 1) (0) (σ) (by omega) (by omega) ad ct _ _ (hG) (hO) (h2) (hc) (hbb) hV hS ls (lv_sub hl [0, 2, 1, 3, 4, 5, 6, 7] rfl)
                    · refine lv_tableIn (tgt := 258) hx hb dL_shop_127 (by decide) (by decide) rfl (by decide) ?_
                      refine lv_iload hx hb dL_shop_258 (lv_at hl 1 rfl) ?_
                      refine lv_iconst (v := nI 4) hx hb dL_shop_260 (by decide) ?_
                      refine hv_calli (va_runS (As := [.int (xv), .int (nI (4))]) (rest := []) ⟨hx, hb, hml, hown, hts⟩ (c_L_below l D N0 ad ct ((xv)) (by omega : 0 < 4) (by omega : 4 < 2 ^ 31)) (va_cwS 2 hts gL_shop_L_below rfl rfl rfl (by decide +kernel) ⟨Nat.le_of_ble_eq_true rfl, Nat.le_of_ble_eq_true rfl⟩) (hv_preS hKs hV hS) rfl rfl hl.1 rfl (lv_room (Nat.le_of_ble_eq_true rfl)) dL_shop_261 ⟨(show 34 + 20 * i + 0 ≤ 834 by omega), (show 376 + 200 * i + 0 ≤ 8376 by omega)⟩) hS (fun r9 u9 H locs hq hV hS => ?_)
                      obtain ⟨rfl, rfl⟩ := hq
                      have hV : hv D N0 ad ct H := hV
                      have hbl12 := blw_lt ((xv)) (by omega : 0 < 4)
                      obtain ⟨bt, hbt⟩ : ∃ z, z = blw ((xv)) (4) + 1 := ⟨_, rfl⟩
                      have hbt4 : bt ≤ 4 := by omega
                      refine hv_eqi (y := nI (bt - 0) - nI (1)) (by rw [hbt, Nat.sub_zero, ← nI_add]; simp) ?_
                      refine lv_istore (lv' := [(7, .int (nI (bt - 0) - nI (1))), (6, .int (nI (cn))), (5, .int (xv)), (4, .int (nI (i))), (3, .int (nI (nb))), (2, .int (nI (nc))), (1, .ref (ad (0))), (0, .ref (b))]) hx hb dL_shop_264 hl (by decide) rfl (fun ls hl => ?_)
                      have L266 : ∀ (n jj : Nat) (σ : gS), jj ≤ bt → bt < jj + n → ∀ (ad : Nat → Nat) (ct : hC) (H : Heap) (locs : List Loc), (gX D σ ad ct) → (okS σ) → (ok2 σ) → (gNC σ = nc) → (gNB σ = nb) → hv D N0 ad ct H → va_S (hA N0) s.heap H locs → ∀ ls : Array Slot, lv_has ls 8 [(7, .int (nI (bt - jj) - nI (1))), (5, .int (xv)), (6, .int (nI (cn))), (4, .int (nI (i))), (3, .int (nI (nb))), (2, .int (nI (nc))), (1, .ref (ad (0))), (0, .ref (b))] → W p l e (headSpec wsL_shop ({ frames := 8, cells := 834, slots := 8376, locals := 181 })).room s m args below meth c H locs (34 + 20 * i + 3 * jj) (376 + 200 * i + 30 * jj) Qz (F0 m 266 ls []) := by
                        intro n
                        induction n with
                        | zero => intro jj σ h1 h2; exact absurd h2 (by omega)
                        | succ n ih266 =>
                          intro jj σ hi266 hn266 ad ct H locs hG hO h2 hc hbb hV hS ls hl
                          have h00 := hG.1
                          obtain ⟨hn8, hn60, hn6, -⟩ := id hO
                          refine lv_iload hx hb dL_shop_266 (lv_at hl 0 rfl) ?_
                          refine hI_if_lt (tgt := 284) hx hb dL_shop_268 (by decide) (fun c268 => ?_) (fun c268 => ?_)
                          · refine lv_goto (tgt := 373) hx hb dL_shop_284 (by decide) ?_
                            refine lv_iinc (v := nI (i + 1)) (lv' := [(4, .int (nI (i + 1))), (7, .int (nI (bt - jj) - nI (1))), (5, .int (xv)), (6, .int (nI (cn))), (3, .int (nI (nb))), (2, .int (nI (nc))), (1, .ref (ad (0))), (0, .ref (b))]) hx hb dL_shop_373 hl (k := 3) rfl (nI_add (i) 1) (by decide) rfl (fun ls hl => ?_)
                            refine lv_goto (tgt := 73) hx hb dL_shop_376 (by decide) ?_
                            refine W.widen (k := 34 + 20 * (i + 1)) (n := 376 + 200 * (i + 1)) (by omega) (by omega) ?_
                            exact ih73 (i + 1) (σ) (by omega) (by omega) ad ct _ _ (hG) (hO) (h2) (hc) (hbb) hV hS ls (lv_sub hl [0, 4, 5, 6, 7] rfl)
                          · have hjj : jj < bt := by
                              rcases Nat.lt_or_ge jj bt with q | q
                              · exact q
                              · have e : bt - jj = 0 := by omega
                                rw [e] at c268
                                exact absurd c268 (by decide)
                            refine lv_aload_n hx hb dL_shop_271 rfl (lv_at hl 6 rfl) ?_
                            refine lv_iload hx hb dL_shop_272 (lv_at hl 2 rfl) ?_
                            refine hv_calli (vx_runSW (hh := [(0, 5, 6, 63)]) (As := [.ref (ad (0)), .int (nI (cn))]) (rest := []) ⟨hx, hb, hml, hown, hts⟩ (c_L_cut l D N0 ad ct hfl hG hO (by omega : cn < gNC σ)) (vx_cwSW (hh := [(0, 5, 6, 63)]) 2 hts gL_shop_L_cut rfl rfl rfl (by decide +kernel) ⟨Nat.le_of_ble_eq_true rfl, Nat.le_of_ble_eq_true rfl⟩) (hv_preS hKs hV hS) rfl rfl hl.1 rfl (lv_room (Nat.le_of_ble_eq_true rfl)) dL_shop_274 ⟨(show 34 + 20 * i + 3 * jj + 3 ≤ 834 by omega), (show 376 + 200 * i + 30 * jj + 30 ≤ 8376 by omega)⟩) hS (fun r9 u9 H locs hq hV hS => ?_)
                            obtain ⟨ad, ct⟩ := u9
                            dsimp only at hq
                            obtain ⟨hq, hF1⟩ := hq
                            have hV : hv D N0 ad ct H := hV
                            have hna := fun (q : Nat) (q1 : q % 16 = 0) => (hF1 q q1).1
                            dsimp only at hna
                            have hl : lv_has ls 8 [(7, .int (nI (bt - jj) - nI (1))), (5, .int (xv)), (6, .int (nI (cn))), (4, .int (nI (i))), (3, .int (nI (nb))), (2, .int (nI (nc))), (1, .ref (ad (0))), (0, .ref (b))] := by rw [hna (0) (by omega)]; exact hl
                            obtain ⟨τ, hG1, hO1, h21, hC1, hB1⟩ : ∃ τ : gS, gX D τ ad ct ∧ okS τ ∧ ok2 τ ∧ gNC τ = gNC σ ∧ gNB τ = gNB σ := by
                              rcases hq with ⟨hk, -, hg⟩ | ⟨-, -, hg⟩
                              · exact ⟨_, hg, oks_cut hO (by omega) hk, ok2_cut h2 (by omega), rfl, rfl⟩
                              · exact ⟨σ, hg, hO, h2, rfl, rfl⟩
                            refine lv_pop hx hb dL_shop_277 rfl ?_
                            refine lv_iinc (v := nI (bt - (jj + 1)) - nI (1)) (lv' := [(7, .int (nI (bt - (jj + 1)) - nI (1))), (5, .int (xv)), (6, .int (nI (cn))), (4, .int (nI (i))), (3, .int (nI (nb))), (2, .int (nI (nc))), (1, .ref (ad (0))), (0, .ref (b))]) hx hb dL_shop_278 hl (k := 0) rfl (dn_1 (by omega : 1 ≤ bt - jj)) (by decide) rfl (fun ls hl => ?_)
                            refine lv_goto (tgt := 266) hx hb dL_shop_281 (by decide) ?_
                            refine W.widen (k := 34 + 20 * i + 3 * (jj + 1)) (n := 376 + 200 * i + 30 * (jj + 1)) (by omega) (by omega) ?_
                            exact ih266 (jj + 1) (τ) (by omega) (by omega) ad ct _ _ (hG1) (hO1) (h21) ((by omega)) ((by omega)) hV hS ls (lv_sub hl [0, 1, 2, 3, 4, 5, 6, 7] rfl)
                      refine W.widen (k := 34 + 20 * i + 3 * (0)) (n := 376 + 200 * i + 30 * (0)) (by omega) (by omega) ?_
                      exact L266 (bt + 1) (0) (σ) (by omega) (by omega) ad ct _ _ (hG) (hO) (h2) (hc) (hbb) hV hS ls (lv_sub hl [0, 2, 1, 3, 4, 5, 6, 7] rfl)
                    · refine lv_tableIn (tgt := 258) hx hb dL_shop_127 (by decide) (by decide) rfl (by decide) ?_
                      refine lv_iload hx hb dL_shop_258 (lv_at hl 1 rfl) ?_
                      refine lv_iconst (v := nI 4) hx hb dL_shop_260 (by decide) ?_
                      refine hv_calli (va_runS (As := [.int (xv), .int (nI (4))]) (rest := []) ⟨hx, hb, hml, hown, hts⟩ (c_L_below l D N0 ad ct ((xv)) (by omega : 0 < 4) (by omega : 4 < 2 ^ 31)) (va_cwS 2 hts gL_shop_L_below rfl rfl rfl (by decide +kernel) ⟨Nat.le_of_ble_eq_true rfl, Nat.le_of_ble_eq_true rfl⟩) (hv_preS hKs hV hS) rfl rfl hl.1 rfl (lv_room (Nat.le_of_ble_eq_true rfl)) dL_shop_261 ⟨(show 34 + 20 * i + 0 ≤ 834 by omega), (show 376 + 200 * i + 0 ≤ 8376 by omega)⟩) hS (fun r9 u9 H locs hq hV hS => ?_)
                      obtain ⟨rfl, rfl⟩ := hq
                      have hV : hv D N0 ad ct H := hV
                      have hbl13 := blw_lt ((xv)) (by omega : 0 < 4)
                      obtain ⟨bt, hbt⟩ : ∃ z, z = blw ((xv)) (4) + 1 := ⟨_, rfl⟩
                      have hbt4 : bt ≤ 4 := by omega
                      refine hv_eqi (y := nI (bt - 0) - nI (1)) (by rw [hbt, Nat.sub_zero, ← nI_add]; simp) ?_
                      refine lv_istore (lv' := [(7, .int (nI (bt - 0) - nI (1))), (6, .int (nI (cn))), (5, .int (xv)), (4, .int (nI (i))), (3, .int (nI (nb))), (2, .int (nI (nc))), (1, .ref (ad (0))), (0, .ref (b))]) hx hb dL_shop_264 hl (by decide) rfl (fun ls hl => ?_)
                      have L266 : ∀ (n jj : Nat) (σ : gS), jj ≤ bt → bt < jj + n → ∀ (ad : Nat → Nat) (ct : hC) (H : Heap) (locs : List Loc), (gX D σ ad ct) → (okS σ) → (ok2 σ) → (gNC σ = nc) → (gNB σ = nb) → hv D N0 ad ct H → va_S (hA N0) s.heap H locs → ∀ ls : Array Slot, lv_has ls 8 [(7, .int (nI (bt - jj) - nI (1))), (5, .int (xv)), (6, .int (nI (cn))), (4, .int (nI (i))), (3, .int (nI (nb))), (2, .int (nI (nc))), (1, .ref (ad (0))), (0, .ref (b))] → W p l e (headSpec wsL_shop ({ frames := 8, cells := 834, slots := 8376, locals := 181 })).room s m args below meth c H locs (34 + 20 * i + 3 * jj) (376 + 200 * i + 30 * jj) Qz (F0 m 266 ls []) := by
                        intro n
                        induction n with
                        | zero => intro jj σ h1 h2; exact absurd h2 (by omega)
                        | succ n ih266 =>
                          intro jj σ hi266 hn266 ad ct H locs hG hO h2 hc hbb hV hS ls hl
                          have h00 := hG.1
                          obtain ⟨hn8, hn60, hn6, -⟩ := id hO
                          refine lv_iload hx hb dL_shop_266 (lv_at hl 0 rfl) ?_
                          refine hI_if_lt (tgt := 284) hx hb dL_shop_268 (by decide) (fun c268 => ?_) (fun c268 => ?_)
                          · refine lv_goto (tgt := 373) hx hb dL_shop_284 (by decide) ?_
                            refine lv_iinc (v := nI (i + 1)) (lv' := [(4, .int (nI (i + 1))), (7, .int (nI (bt - jj) - nI (1))), (5, .int (xv)), (6, .int (nI (cn))), (3, .int (nI (nb))), (2, .int (nI (nc))), (1, .ref (ad (0))), (0, .ref (b))]) hx hb dL_shop_373 hl (k := 3) rfl (nI_add (i) 1) (by decide) rfl (fun ls hl => ?_)
                            refine lv_goto (tgt := 73) hx hb dL_shop_376 (by decide) ?_
                            refine W.widen (k := 34 + 20 * (i + 1)) (n := 376 + 200 * (i + 1)) (by omega) (by omega) ?_
                            exact ih73 (i + 1) (σ) (by omega) (by omega) ad ct _ _ (hG) (hO) (h2) (hc) (hbb) hV hS ls (lv_sub hl [0, 4, 5, 6, 7] rfl)
                          · have hjj : jj < bt := by
                              rcases Nat.lt_or_ge jj bt with q | q
                              · exact q
                              · have e : bt - jj = 0 := by omega
                                rw [e] at c268
                                exact absurd c268 (by decide)
                            refine lv_aload_n hx hb dL_shop_271 rfl (lv_at hl 6 rfl) ?_
                            refine lv_iload hx hb dL_shop_272 (lv_at hl 2 rfl) ?_
                            refine hv_calli (vx_runSW (hh := [(0, 5, 6, 63)]) (As := [.ref (ad (0)), .int (nI (cn))]) (rest := []) ⟨hx, hb, hml, hown, hts⟩ (c_L_cut l D N0 ad ct hfl hG hO (by omega : cn < gNC σ)) (vx_cwSW (hh := [(0, 5, 6, 63)]) 2 hts gL_shop_L_cut rfl rfl rfl (by decide +kernel) ⟨Nat.le_of_ble_eq_true rfl, Nat.le_of_ble_eq_true rfl⟩) (hv_preS hKs hV hS) rfl rfl hl.1 rfl (lv_room (Nat.le_of_ble_eq_true rfl)) dL_shop_274 ⟨(show 34 + 20 * i + 3 * jj + 3 ≤ 834 by omega), (show 376 + 200 * i + 30 * jj + 30 ≤ 8376 by omega)⟩) hS (fun r9 u9 H locs hq hV hS => ?_)
                            obtain ⟨ad, ct⟩ := u9
                            dsimp only at hq
                            obtain ⟨hq, hF1⟩ := hq
                            have hV : hv D N0 ad ct H := hV
                            have hna := fun (q : Nat) (q1 : q % 16 = 0) => (hF1 q q1).1
                            dsimp only at hna
                            have hl : lv_has ls 8 [(7, .int (nI (bt - jj) - nI (1))), (5, .int (xv)), (6, .int (nI (cn))), (4, .int (nI (i))), (3, .int (nI (nb))), (2, .int (nI (nc))), (1, .ref (ad (0))), (0, .ref (b))] := by rw [hna (0) (by omega)]; exact hl
                            obtain ⟨τ, hG1, hO1, h21, hC1, hB1⟩ : ∃ τ : gS, gX D τ ad ct ∧ okS τ ∧ ok2 τ ∧ gNC τ = gNC σ ∧ gNB τ = gNB σ := by
                              rcases hq with ⟨hk, -, hg⟩ | ⟨-, -, hg⟩
                              · exact ⟨_, hg, oks_cut hO (by omega) hk, ok2_cut h2 (by omega), rfl, rfl⟩
                              · exact ⟨σ, hg, hO, h2, rfl, rfl⟩
                            refine lv_pop hx hb dL_shop_277 rfl ?_
                            refine lv_iinc (v := nI (bt - (jj + 1)) - nI (1)) (lv' := [(7, .int (nI (bt - (jj + 1)) - nI (1))), (5, .int (xv)), (6, .int (nI (cn))), (4, .int (nI (i))), (3, .int (nI (nb))), (2, .int (nI (nc))), (1, .ref (ad (0))), (0, .ref (b))]) hx hb dL_shop_278 hl (k := 0) rfl (dn_1 (by omega : 1 ≤ bt - jj)) (by decide) rfl (fun ls hl => ?_)
                            refine lv_goto (tgt := 266) hx hb dL_shop_281 (by decide) ?_
                            refine W.widen (k := 34 + 20 * i + 3 * (jj + 1)) (n := 376 + 200 * i + 30 * (jj + 1)) (by omega) (by omega) ?_
                            exact ih266 (jj + 1) (τ) (by omega) (by omega) ad ct _ _ (hG1) (hO1) (h21) ((by omega)) ((by omega)) hV hS ls (lv_sub hl [0, 1, 2, 3, 4, 5, 6, 7] rfl)
                      refine W.widen (k := 34 + 20 * i + 3 * (0)) (n := 376 + 200 * i + 30 * (0)) (by omega) (by omega) ?_
                      exact L266 (bt + 1) (0) (σ) (by omega) (by omega) ad ct _ _ (hG) (hO) (h2) (hc) (hbb) hV hS ls (lv_sub hl [0, 2, 1, 3, 4, 5, 6, 7] rfl)
                    · refine lv_tableOut (tgt := 287) hx hb dL_shop_127 (by decide) (by decide) ?_
                      refine lv_iload_n hx hb dL_shop_287 rfl (lv_at hl 3 rfl) ?_
                      refine hN_if_eq (tgt := 373) hx hb (by omega) dL_shop_288 (by decide) (fun c288 => ?_) (fun c288 => ?_)
                      · refine lv_iinc (v := nI (i + 1)) (lv' := [(4, .int (nI (i + 1))), (6, .int (nI (cn))), (5, .int (xv)), (3, .int (nI (nb))), (2, .int (nI (nc))), (1, .ref (ad (0))), (0, .ref (b))]) hx hb dL_shop_373 hl (k := 2) rfl (nI_add (i) 1) (by decide) rfl (fun ls hl => ?_)
                        refine lv_goto (tgt := 73) hx hb dL_shop_376 (by decide) ?_
                        refine W.widen (k := 34 + 20 * (i + 1)) (n := 376 + 200 * (i + 1)) (by omega) (by omega) ?_
                        exact ih73 (i + 1) (σ) (by omega) (by omega) ad ct _ _ (hG) (hO) (h2) (hc) (hbb) hV hS ls (lv_sub hl [0, 3, 4, 5, 6] rfl)
                      · refine lv_aload_n hx hb dL_shop_291 rfl (lv_at hl 5 rfl) ?_
                        refine lv_iconst (v := nI 3) hx hb dL_shop_292 (by decide) ?_
                        refine hv_call0 (by decide) (vx_runV (As := [.int (nI (3))]) (rest := []) ⟨hx, hb, hml, hown, hts⟩ (c_X3_count l hfl D N0 ad ct hG hO (nI (3))) (cwV 1 hts gL_shop_X3_count rfl rfl rfl (by decide +kernel) ⟨Nat.le_of_ble_eq_true rfl, Nat.le_of_ble_eq_true rfl⟩) (hv_preV (r := (RX3, TX3, 8)) hKs hV hS h00 rfl) rfl rfl hl.1 rfl (lv_room (Nat.le_of_ble_eq_true rfl)) dL_shop_293 ⟨(show 34 + 20 * i + 1 ≤ 834 by omega), (show 376 + 200 * i + 6 ≤ 8376 by omega)⟩) hS (fun r9 u9 H locs hq hV hS => ?_)
                        obtain ⟨-, hq, hu9⟩ := hq
                        subst hu9
                        have hV : hv D N0 ad ct H := hV
                        have hq : r9 = nI (gNS σ) := hq
                        subst hq
                        refine hN_if_ne (tgt := 302) hx hb (by omega) dL_shop_296 (by decide) (fun c296 => ?_) (fun c296 => ?_)
                        · refine lv_iconst (v := nI 0) hx hb dL_shop_302 (by decide) ?_
                          refine lv_istore (lv' := [(7, .int (nI (0))), (6, .int (nI (cn))), (5, .int (xv)), (4, .int (nI (i))), (3, .int (nI (nb))), (2, .int (nI (nc))), (1, .ref (ad (0))), (0, .ref (b))]) hx hb dL_shop_303 hl (by decide) rfl (fun ls hl => ?_)
                          have L305 : ∀ (n jj : Nat) (σ : gS), jj ≤ 4 → 4 < jj + n → ∀ (ad : Nat → Nat) (ct : hC) (H : Heap) (locs : List Loc), (gX D σ ad ct) → (okS σ) → (ok2 σ) → (gNC σ = nc) → (gNB σ = nb) → (0 < gNS σ) → hv D N0 ad ct H → va_S (hA N0) s.heap H locs → ∀ ls : Array Slot, lv_has ls 8 [(7, .int (nI (jj))), (5, .int (xv)), (6, .int (nI (cn))), (4, .int (nI (i))), (3, .int (nI (nb))), (2, .int (nI (nc))), (1, .ref (ad (0))), (0, .ref (b))] → W p l e (headSpec wsL_shop ({ frames := 8, cells := 834, slots := 8376, locals := 181 })).room s m args below meth c H locs (34 + 20 * i + 1 + 2 * jj) (376 + 200 * i + 6 + 12 * jj) Qz (F0 m 305 ls []) := by
                            intro n
                            induction n with
                            | zero => intro jj σ h1 h2; exact absurd h2 (by omega)
                            | succ n ih305 =>
                              intro jj σ hi305 hn305 ad ct H locs hG hO h2 hc hbb hns hV hS ls hl
                              have h00 := hG.1
                              obtain ⟨hn8, hn60, hn6, -⟩ := id hO
                              refine lv_iload hx hb dL_shop_305 (lv_at hl 0 rfl) ?_
                              refine lv_iconst (v := nI 4) hx hb dL_shop_307 (by decide) ?_
                              refine hN_icmp_ge (tgt := 373) hx hb (by omega) (by omega) dL_shop_308 (by decide) (fun c308 => ?_) (fun c308 => ?_)
                              · refine lv_iinc (v := nI (i + 1)) (lv' := [(4, .int (nI (i + 1))), (7, .int (nI (jj))), (5, .int (xv)), (6, .int (nI (cn))), (3, .int (nI (nb))), (2, .int (nI (nc))), (1, .ref (ad (0))), (0, .ref (b))]) hx hb dL_shop_373 hl (k := 3) rfl (nI_add (i) 1) (by decide) rfl (fun ls hl => ?_)
                                refine lv_goto (tgt := 73) hx hb dL_shop_376 (by decide) ?_
                                refine W.widen (k := 34 + 20 * (i + 1)) (n := 376 + 200 * (i + 1)) (by omega) (by omega) ?_
                                exact ih73 (i + 1) (σ) (by omega) (by omega) ad ct _ _ (hG) (hO) (h2) (hc) (hbb) hV hS ls (lv_sub hl [0, 4, 5, 6, 7] rfl)
                              · refine lv_aload_n hx hb dL_shop_311 rfl (lv_at hl 6 rfl) ?_
                                refine lv_iload hx hb dL_shop_312 (lv_at hl 1 rfl) ?_
                                refine lv_iload hx hb dL_shop_314 (lv_at hl 0 rfl) ?_
                                refine lv_ishr hx hb dL_shop_316 ?_
                                refine lv_iload_n hx hb dL_shop_317 rfl (lv_at hl 4 rfl) ?_
                                refine hv_calli (va_runS (As := [.int ((xv) >>> (nI (jj) &&& 31)), .int (nI (nb))]) (rest := [.ref (ad (0))]) ⟨hx, hb, hml, hown, hts⟩ (c_L_below l D N0 ad ct (((xv) >>> (nI (jj) &&& 31))) (by omega : 0 < nb) (by omega : nb < 2 ^ 31)) (va_cwS 2 hts gL_shop_L_below rfl rfl rfl (by decide +kernel) ⟨Nat.le_of_ble_eq_true rfl, Nat.le_of_ble_eq_true rfl⟩) (hv_preS hKs hV hS) rfl rfl hl.1 rfl (lv_room (Nat.le_of_ble_eq_true rfl)) dL_shop_318 ⟨(show 34 + 20 * i + 1 + 2 * jj + 0 ≤ 834 by omega), (show 376 + 200 * i + 6 + 12 * jj + 0 ≤ 8376 by omega)⟩) hS (fun r9 u9 H locs hq hV hS => ?_)
                                obtain ⟨rfl, rfl⟩ := hq
                                have hV : hv D N0 ad ct H := hV
                                have hbl14 := blw_lt (((xv) >>> (nI (jj) &&& 31))) (by omega : 0 < nb)
                                refine lv_iload hx hb dL_shop_321 (lv_at hl 0 rfl) ?_
                                refine lv_iload hx hb dL_shop_323 (lv_at hl 1 rfl) ?_
                                refine lv_iconst (v := nI 2) hx hb dL_shop_325 (by decide) ?_
                                refine lv_iload hx hb dL_shop_326 (lv_at hl 0 rfl) ?_
                                refine hN_imul hx hb dL_shop_328 ?_
                                refine lv_ishr hx hb dL_shop_329 ?_
                                refine lv_aload_n hx hb dL_shop_330 rfl (lv_at hl 6 rfl) ?_
                                refine lv_iconst (v := nI 3) hx hb dL_shop_331 (by decide) ?_
                                refine hv_call0 (by decide) (vx_runV (As := [.int (nI (3))]) (rest := [.int ((xv) >>> (nI ((2) * (jj)) &&& 31)), .int (nI (jj)), .int (nI (blw (((xv) >>> (nI (jj) &&& 31))) (nb))), .ref (ad (0))]) ⟨hx, hb, hml, hown, hts⟩ (c_X3_count l hfl D N0 ad ct hG hO (nI (3))) (cwV 1 hts gL_shop_X3_count rfl rfl rfl (by decide +kernel) ⟨Nat.le_of_ble_eq_true rfl, Nat.le_of_ble_eq_true rfl⟩) (hv_preV (r := (RX3, TX3, 8)) hKs hV hS h00 rfl) rfl rfl hl.1 rfl (lv_room (Nat.le_of_ble_eq_true rfl)) dL_shop_332 ⟨(show 34 + 20 * i + 1 + 2 * jj + 1 ≤ 834 by omega), (show 376 + 200 * i + 6 + 12 * jj + 6 ≤ 8376 by omega)⟩) hS (fun r9 u9 H locs hq hV hS => ?_)
                                obtain ⟨-, hq, hu9⟩ := hq
                                subst hu9
                                have hV : hv D N0 ad ct H := hV
                                have hq : r9 = nI (gNS σ) := hq
                                subst hq
                                refine hv_calli (va_runS (As := [.int ((xv) >>> (nI ((2) * (jj)) &&& 31)), .int (nI (gNS σ))]) (rest := [.int (nI (jj)), .int (nI (blw (((xv) >>> (nI (jj) &&& 31))) (nb))), .ref (ad (0))]) ⟨hx, hb, hml, hown, hts⟩ (c_L_below l D N0 ad ct (((xv) >>> (nI ((2) * (jj)) &&& 31))) (by omega : 0 < gNS σ) (by omega : gNS σ < 2 ^ 31)) (va_cwS 2 hts gL_shop_L_below rfl rfl rfl (by decide +kernel) ⟨Nat.le_of_ble_eq_true rfl, Nat.le_of_ble_eq_true rfl⟩) (hv_preS hKs hV hS) rfl rfl hl.1 rfl (lv_room (Nat.le_of_ble_eq_true rfl)) dL_shop_335 ⟨(show 34 + 20 * i + 1 + 2 * jj + 1 + 0 ≤ 834 by omega), (show 376 + 200 * i + 6 + 12 * jj + 6 + 0 ≤ 8376 by omega)⟩) hS (fun r9 u9 H locs hq hV hS => ?_)
                                obtain ⟨rfl, rfl⟩ := hq
                                have hV : hv D N0 ad ct H := hV
                                have hbl15 := blw_lt (((xv) >>> (nI ((2) * (jj)) &&& 31))) (by omega : 0 < gNS σ)
                                refine lv_iload hx hb dL_shop_338 (lv_at hl 1 rfl) ?_
                                refine lv_iconst (v := nI 3) hx hb dL_shop_340 (by decide) ?_
                                refine lv_ishr hx hb dL_shop_341 ?_
                                refine lv_iconst (v := nI 4) hx hb dL_shop_342 (by decide) ?_
                                refine hv_calli (va_runS (As := [.int ((xv) >>> (nI (3) &&& 31)), .int (nI (4))]) (rest := [.int (nI (blw (((xv) >>> (nI ((2) * (jj)) &&& 31))) (gNS σ))), .int (nI (jj)), .int (nI (blw (((xv) >>> (nI (jj) &&& 31))) (nb))), .ref (ad (0))]) ⟨hx, hb, hml, hown, hts⟩ (c_L_below l D N0 ad ct (((xv) >>> (nI (3) &&& 31))) (by omega : 0 < 4) (by omega : 4 < 2 ^ 31)) (va_cwS 2 hts gL_shop_L_below rfl rfl rfl (by decide +kernel) ⟨Nat.le_of_ble_eq_true rfl, Nat.le_of_ble_eq_true rfl⟩) (hv_preS hKs hV hS) rfl rfl hl.1 rfl (lv_room (Nat.le_of_ble_eq_true rfl)) dL_shop_343 ⟨(show 34 + 20 * i + 1 + 2 * jj + 1 + 0 ≤ 834 by omega), (show 376 + 200 * i + 6 + 12 * jj + 6 + 0 ≤ 8376 by omega)⟩) hS (fun r9 u9 H locs hq hV hS => ?_)
                                obtain ⟨rfl, rfl⟩ := hq
                                have hV : hv D N0 ad ct H := hV
                                have hbl16 := blw_lt (((xv) >>> (nI (3) &&& 31))) (by omega : 0 < 4)
                                refine hN_if_ne (tgt := 362) hx hb (by omega) dL_shop_346 (by decide) (fun c346 => ?_) (fun c346 => ?_)
                                · refine lv_iconst (v := nI 0) hx hb dL_shop_362 (by decide) ?_
                                  refine hv_calli (vx_runSW (hh := [(0, 9, 10, 63)]) (As := [.ref (ad (0)), .int (nI (blw (((xv) >>> (nI (jj) &&& 31))) (nb))), .int (nI (jj)), .int (nI (blw (((xv) >>> (nI ((2) * (jj)) &&& 31))) (gNS σ))), .int (nI (0))]) (rest := []) ⟨hx, hb, hml, hown, hts⟩ (c_L_set l D N0 ad ct hfl hG hO (by omega : blw (((xv) >>> (nI (jj) &&& 31))) (nb) < gNB σ) (by omega : jj < 4) (by omega : blw (((xv) >>> (nI ((2) * (jj)) &&& 31))) (gNS σ) < gNS σ) (by omega : 0 < 8)) (vx_cwSW (hh := [(0, 9, 10, 63)]) 5 hts gL_shop_L_set rfl rfl rfl (by decide +kernel) ⟨Nat.le_of_ble_eq_true rfl, Nat.le_of_ble_eq_true rfl⟩) (hv_preS hKs hV hS) rfl rfl hl.1 rfl (lv_room (Nat.le_of_ble_eq_true rfl)) dL_shop_363 ⟨(show 34 + 20 * i + 1 + 2 * jj + 1 + 1 ≤ 834 by omega), (show 376 + 200 * i + 6 + 12 * jj + 6 + 6 ≤ 8376 by omega)⟩) hS (fun r9 u9 H locs hq hV hS => ?_)
                                  obtain ⟨ad, ct⟩ := u9
                                  dsimp only at hq
                                  obtain ⟨hq, hF1⟩ := hq
                                  have hV : hv D N0 ad ct H := hV
                                  have hna := fun (q : Nat) (q1 : q % 16 = 0) => (hF1 q q1).1
                                  dsimp only at hna
                                  have hl : lv_has ls 8 [(7, .int (nI (jj))), (5, .int (xv)), (6, .int (nI (cn))), (4, .int (nI (i))), (3, .int (nI (nb))), (2, .int (nI (nc))), (1, .ref (ad (0))), (0, .ref (b))] := by rw [hna (0) (by omega)]; exact hl
                                  obtain ⟨τ, hG1, hO1, h21, hC1, hB1, hS1⟩ : ∃ τ : gS, gX D τ ad ct ∧ okS τ ∧ ok2 τ ∧ gNC τ = gNC σ ∧ gNB τ = gNB σ ∧ gNS τ = gNS σ := by
                                    rcases hq with ⟨hk, -, hg⟩ | ⟨-, -, hg⟩
                                    · exact ⟨_, hg, oks_set hO (by omega) (by omega) (by omega) (by omega) hk, ok2_set h2, rfl, rfl, rfl⟩
                                    · exact ⟨σ, hg, hO, h2, rfl, rfl, rfl⟩
                                  refine lv_pop hx hb dL_shop_366 rfl ?_
                                  refine lv_iinc (v := nI (jj + 1)) (lv' := [(7, .int (nI (jj + 1))), (5, .int (xv)), (6, .int (nI (cn))), (4, .int (nI (i))), (3, .int (nI (nb))), (2, .int (nI (nc))), (1, .ref (ad (0))), (0, .ref (b))]) hx hb dL_shop_367 hl (k := 0) rfl (nI_add (jj) 1) (by decide) rfl (fun ls hl => ?_)
                                  refine lv_goto (tgt := 305) hx hb dL_shop_370 (by decide) ?_
                                  refine W.widen (k := 34 + 20 * i + 1 + 2 * (jj + 1)) (n := 376 + 200 * i + 6 + 12 * (jj + 1)) (by omega) (by omega) ?_
                                  exact ih305 (jj + 1) (τ) (by omega) (by omega) ad ct _ _ (hG1) (hO1) (h21) ((by omega)) ((by omega)) ((by omega)) hV hS ls (lv_sub hl [0, 1, 2, 3, 4, 5, 6, 7] rfl)
                                · refine lv_iload hx hb dL_shop_349 (lv_at hl 1 rfl) ?_
                                  refine lv_iload hx hb dL_shop_351 (lv_at hl 0 rfl) ?_
                                  refine lv_ishr hx hb dL_shop_353 ?_
                                  refine lv_bipush (v := nI 8) hx hb dL_shop_354 (by decide) ?_
                                  refine hv_calli (va_runS (As := [.int ((xv) >>> (nI (jj) &&& 31)), .int (nI (8))]) (rest := [.int (nI (blw (((xv) >>> (nI ((2) * (jj)) &&& 31))) (gNS σ))), .int (nI (jj)), .int (nI (blw (((xv) >>> (nI (jj) &&& 31))) (nb))), .ref (ad (0))]) ⟨hx, hb, hml, hown, hts⟩ (c_L_below l D N0 ad ct (((xv) >>> (nI (jj) &&& 31))) (by omega : 0 < 8) (by omega : 8 < 2 ^ 31)) (va_cwS 2 hts gL_shop_L_below rfl rfl rfl (by decide +kernel) ⟨Nat.le_of_ble_eq_true rfl, Nat.le_of_ble_eq_true rfl⟩) (hv_preS hKs hV hS) rfl rfl hl.1 rfl (lv_room (Nat.le_of_ble_eq_true rfl)) dL_shop_356 ⟨(show 34 + 20 * i + 1 + 2 * jj + 1 + 0 ≤ 834 by omega), (show 376 + 200 * i + 6 + 12 * jj + 6 + 0 ≤ 8376 by omega)⟩) hS (fun r9 u9 H locs hq hV hS => ?_)
                                  obtain ⟨rfl, rfl⟩ := hq
                                  have hV : hv D N0 ad ct H := hV
                                  have hbl17 := blw_lt (((xv) >>> (nI (jj) &&& 31))) (by omega : 0 < 8)
                                  refine lv_goto (tgt := 363) hx hb dL_shop_359 (by decide) ?_
                                  refine hv_calli (vx_runSW (hh := [(0, 9, 10, 63)]) (As := [.ref (ad (0)), .int (nI (blw (((xv) >>> (nI (jj) &&& 31))) (nb))), .int (nI (jj)), .int (nI (blw (((xv) >>> (nI ((2) * (jj)) &&& 31))) (gNS σ))), .int (nI (blw (((xv) >>> (nI (jj) &&& 31))) (8)))]) (rest := []) ⟨hx, hb, hml, hown, hts⟩ (c_L_set l D N0 ad ct hfl hG hO (by omega : blw (((xv) >>> (nI (jj) &&& 31))) (nb) < gNB σ) (by omega : jj < 4) (by omega : blw (((xv) >>> (nI ((2) * (jj)) &&& 31))) (gNS σ) < gNS σ) (by omega : blw (((xv) >>> (nI (jj) &&& 31))) (8) < 8)) (vx_cwSW (hh := [(0, 9, 10, 63)]) 5 hts gL_shop_L_set rfl rfl rfl (by decide +kernel) ⟨Nat.le_of_ble_eq_true rfl, Nat.le_of_ble_eq_true rfl⟩) (hv_preS hKs hV hS) rfl rfl hl.1 rfl (lv_room (Nat.le_of_ble_eq_true rfl)) dL_shop_363 ⟨(show 34 + 20 * i + 1 + 2 * jj + 1 + 1 ≤ 834 by omega), (show 376 + 200 * i + 6 + 12 * jj + 6 + 6 ≤ 8376 by omega)⟩) hS (fun r9 u9 H locs hq hV hS => ?_)
                                  obtain ⟨ad, ct⟩ := u9
                                  dsimp only at hq
                                  obtain ⟨hq, hF1⟩ := hq
                                  have hV : hv D N0 ad ct H := hV
                                  have hna := fun (q : Nat) (q1 : q % 16 = 0) => (hF1 q q1).1
                                  dsimp only at hna
                                  have hl : lv_has ls 8 [(7, .int (nI (jj))), (5, .int (xv)), (6, .int (nI (cn))), (4, .int (nI (i))), (3, .int (nI (nb))), (2, .int (nI (nc))), (1, .ref (ad (0))), (0, .ref (b))] := by rw [hna (0) (by omega)]; exact hl
                                  obtain ⟨τ, hG1, hO1, h21, hC1, hB1, hS1⟩ : ∃ τ : gS, gX D τ ad ct ∧ okS τ ∧ ok2 τ ∧ gNC τ = gNC σ ∧ gNB τ = gNB σ ∧ gNS τ = gNS σ := by
                                    rcases hq with ⟨hk, -, hg⟩ | ⟨-, -, hg⟩
                                    · exact ⟨_, hg, oks_set hO (by omega) (by omega) (by omega) (by omega) hk, ok2_set h2, rfl, rfl, rfl⟩
                                    · exact ⟨σ, hg, hO, h2, rfl, rfl, rfl⟩
                                  refine lv_pop hx hb dL_shop_366 rfl ?_
                                  refine lv_iinc (v := nI (jj + 1)) (lv' := [(7, .int (nI (jj + 1))), (5, .int (xv)), (6, .int (nI (cn))), (4, .int (nI (i))), (3, .int (nI (nb))), (2, .int (nI (nc))), (1, .ref (ad (0))), (0, .ref (b))]) hx hb dL_shop_367 hl (k := 0) rfl (nI_add (jj) 1) (by decide) rfl (fun ls hl => ?_)
                                  refine lv_goto (tgt := 305) hx hb dL_shop_370 (by decide) ?_
                                  refine W.widen (k := 34 + 20 * i + 1 + 2 * (jj + 1)) (n := 376 + 200 * i + 6 + 12 * (jj + 1)) (by omega) (by omega) ?_
                                  exact ih305 (jj + 1) (τ) (by omega) (by omega) ad ct _ _ (hG1) (hO1) (h21) ((by omega)) ((by omega)) ((by omega)) hV hS ls (lv_sub hl [0, 1, 2, 3, 4, 5, 6, 7] rfl)
                          refine W.widen (k := 34 + 20 * i + 1 + 2 * (0)) (n := 376 + 200 * i + 6 + 12 * (0)) (by omega) (by omega) ?_
                          exact L305 (4 + 1) (0) (σ) (by omega) (by omega) ad ct _ _ (hG) (hO) (h2) (hc) (hbb) ((by omega)) hV hS ls (lv_sub hl [0, 2, 1, 3, 4, 5, 6, 7] rfl)
                        · refine lv_goto (tgt := 373) hx hb dL_shop_299 (by decide) ?_
                          refine lv_iinc (v := nI (i + 1)) (lv' := [(4, .int (nI (i + 1))), (6, .int (nI (cn))), (5, .int (xv)), (3, .int (nI (nb))), (2, .int (nI (nc))), (1, .ref (ad (0))), (0, .ref (b))]) hx hb dL_shop_373 hl (k := 2) rfl (nI_add (i) 1) (by decide) rfl (fun ls hl => ?_)
                          refine lv_goto (tgt := 73) hx hb dL_shop_376 (by decide) ?_
                          refine W.widen (k := 34 + 20 * (i + 1)) (n := 376 + 200 * (i + 1)) (by omega) (by omega) ?_
                          exact ih73 (i + 1) (σ) (by omega) (by omega) ad ct _ _ (hG) (hO) (h2) (hc) (hbb) hV hS ls (lv_sub hl [0, 3, 4, 5, 6] rfl)
              refine W.widen (k := 34 + 20 * (0)) (n := 376 + 200 * (0)) (by omega) (by omega) ?_
              exact L73 (40 + 1) (0) (σ) (by omega) (by omega) ad ct _ _ (hG) (hO) (h2) (hc) ((by omega)) hV hS ls (lv_sub hl [0, 1, 2, 3, 4] rfl)
            · refine lv_aload_n hx hb dL_shop_59 rfl (lv_at hl 3 rfl) ?_
              refine hv_call0 (kz_bead (by omega)) (vx_runV (As := []) (rest := []) ⟨hx, hb, hml, hown, hts⟩ (c_X3_bead l hfl D N0 ad ct hG hO ) (cwV 0 hts gL_shop_X3_bead rfl rfl rfl (by decide +kernel) ⟨Nat.le_of_ble_eq_true rfl, Nat.le_of_ble_eq_true rfl⟩) (hv_preV (r := (RX3, TX3, 8)) hKs hV hS h00 rfl) rfl rfl hl.1 rfl (lv_room (Nat.le_of_ble_eq_true rfl)) dL_shop_60 ⟨(show 28 + 1 * i + 1 ≤ 834 by omega), (show 340 + 6 * i + 6 ≤ 8376 by omega)⟩) hS (fun r9 u9 H locs hq hV hS => ?_)
              obtain ⟨ad, ct⟩ := u9
              dsimp only at hq
              obtain ⟨-, hz9, hG1, hF1⟩ := hq
              have hV : hv D N0 ad ct H := hV
              have hna := fun (q : Nat) (q1 : q % 16 = 0) => (hF1 q q1).1
              have hne := fun (q : Nat) (q1 : q % 16 = 0 ∧ 64 ≤ q) => (hF1 q q1.1).2 q1.2
              dsimp only at hna hne
              subst hz9
              have hl : lv_has ls 8 [(4, .int (nI (i))), (3, .int (nI (nb))), (2, .int (nI (nc))), (1, .ref (ad (0))), (0, .ref (b))] := by rw [hna (0) (by omega)]; exact hl
              refine lv_pop hx hb dL_shop_63 rfl ?_
              refine lv_iinc (v := nI (i + 1)) (lv' := [(4, .int (nI (i + 1))), (3, .int (nI (nb))), (2, .int (nI (nc))), (1, .ref (ad (0))), (0, .ref (b))]) hx hb dL_shop_64 hl (k := 0) rfl (nI_add (i) 1) (by decide) rfl (fun ls hl => ?_)
              refine lv_goto (tgt := 53) hx hb dL_shop_67 (by decide) ?_
              refine W.widen (k := 28 + 1 * (i + 1)) (n := 340 + 6 * (i + 1)) (by omega) (by omega) ?_
              exact ih53 (i + 1) (uObj σ (gNB σ + 1) (gFu σ) (gMi σ)) (by omega) (by omega) ad ct _ _ (hG1) (okk_bead hO (kz_bead (by omega))) (ok2_bead h2) (hc) ((by show gNB σ + 1 = i + 1; omega)) hV hS ls (lv_sub hl [0, 1, 2, 3, 4] rfl)
        refine W.widen (k := 28 + 1 * (0)) (n := 340 + 6 * (0)) (by omega) (by omega) ?_
        exact L53 (nb + 1) (0) (σ) (by omega) (by omega) ad ct _ _ (hG) (hO) (h2) ((by omega)) (hbb) hV hS ls (lv_sub hl [0, 1, 2, 3, 4] rfl)
      · refine lv_aload_n hx hb dL_shop_28 rfl (lv_at hl 2 rfl) ?_
        refine hv_call0 (kz_begin (by omega)) (vx_runV (As := []) (rest := []) ⟨hx, hb, hml, hown, hts⟩ (c_X3_begin l hfl D N0 ad ct hG hO ) (cwV 0 hts gL_shop_X3_begin rfl rfl rfl (by decide +kernel) ⟨Nat.le_of_ble_eq_true rfl, Nat.le_of_ble_eq_true rfl⟩) (hv_preV (r := (RX3, TX3, 8)) hKs hV hS h00 rfl) rfl rfl hl.1 rfl (lv_room (Nat.le_of_ble_eq_true rfl)) dL_shop_29 ⟨(show 4 + 3 * i + 3 ≤ 834 by omega), (show 100 + 30 * i + 30 ≤ 8376 by omega)⟩) hS (fun r9 u9 H locs hq hV hS => ?_)
        obtain ⟨ad, ct⟩ := u9
        dsimp only at hq
        obtain ⟨-, hz9, hG1, hF1⟩ := hq
        have hV : hv D N0 ad ct H := hV
        have hna := fun (q : Nat) (q1 : q % 16 = 0) => (hF1 q q1).1
        have hne := fun (q : Nat) (q1 : q % 16 = 0 ∧ 64 ≤ q) => (hF1 q q1.1).2 q1.2
        dsimp only at hna hne
        subst hz9
        have hl : lv_has ls 8 [(3, .int (nI (i))), (2, .int (nI (nc))), (1, .ref (ad (0))), (0, .ref (b))] := by rw [hna (0) (by omega)]; exact hl
        refine lv_pop hx hb dL_shop_32 rfl ?_
        refine lv_iinc (v := nI (i + 1)) (lv' := [(3, .int (nI (i + 1))), (2, .int (nI (nc))), (1, .ref (ad (0))), (0, .ref (b))]) hx hb dL_shop_33 hl (k := 0) rfl (nI_add (i) 1) (by decide) rfl (fun ls hl => ?_)
        refine lv_goto (tgt := 23) hx hb dL_shop_36 (by decide) ?_
        refine W.widen (k := 4 + 3 * (i + 1)) (n := 100 + 30 * (i + 1)) (by omega) (by omega) ?_
        exact ih23 (i + 1) (s_begin σ) (by omega) (by omega) ad ct _ _ (hG1) (okk_begin hO (kz_begin (by omega))) (ok2_begin h2) ((by show gNC σ + 1 = i + 1; omega)) (hbb) hV hS ls (lv_sub hl [0, 1, 2, 3] rfl)
  refine W.widen (k := 4 + 3 * (0)) (n := 100 + 30 * (0)) (by omega) (by omega) ?_
  exact L23 (nc + 1) (0) (s_0) (by omega) (by omega) ad ct _ _ (hG) (ok_0) (ok2_0) (rfl) (rfl) hV hS ls (lv_sub hl [0, 1, 2, 3] rfl)
