set_option maxHeartbeats 4000000 in
set_option maxRecDepth 100000 in
/-- from the entry, for every script of at most 3072 ints, the law comes to its end with true -/
theorem whole_start {p : Program} {e : Env} {s : State} {m : MethodId} {below : List Frame} {meth : Method} {c : Code} (l : Launch) (hflags : l.flags = flags0) {b L : Nat} {xs : Nat → Int32} (hL : L ≤ 3072) (C0 : lw_At p s m meth c b L xs) : W p l e room_1 s m #[Value.ref b] below meth c s.heap [] 0 0 (lw_Z below #[Value.ref b] s) (entryFrame m ([Value.ref b] : List Value).toArray 9) := by
  obtain ⟨hx, hb, hr, hml, hown, hts0, hX, hbl, hlocks, hgv⟩ := id C0
  have hts : ∀ w ∈ wsL_law, w.before #[Value.ref b] s = true := fun w h => hts0 w (wsL_law_in w h)
  have hfl : l.stackTraces = false := by unfold Launch.stackTraces; rw [hflags]; decide +kernel
  obtain ⟨D, hKs, hAO0, hAO2⟩ := hK_start hts0 hgv
  obtain ⟨N0, hN0⟩ : ∃ z, z = s.heap.size := ⟨_, rfl⟩
  rw [← hN0] at hKs
  have hbA : ¬ hA N0 b := fun q => absurd hbl (Nat.not_lt.mpr (by rw [← hN0]; exact q))
  obtain ⟨ad, ct, hct, hV⟩ : ∃ (ad : Nat → Nat) (ct : hC), (∀ q, ct q = none) ∧ hv D N0 ad ct s.heap := ⟨fun _ => 0, fun _ => none, fun _ => rfl, by rw [hN0]; exact Nat.le_refl _, (fun t x hx9 => by cases hx9), (fun t u x y hx9 => by cases hx9)⟩
  have hS : va_S (hA N0) s.heap s.heap [] := va_S.rf
  have hl := lv_entry ([.ref b]) (n := 9) (Nat.le_of_ble_eq_true rfl)
  rw [lg_entry_eq]
  generalize (lg_sl ([.ref b]) ++ List.replicate (9 - (lg_sl ([.ref b])).length) Slot.unset).toArray = ls at hl ⊢
  have hl : lv_has ls 9 [(0, .ref b)] := hl
  have hiX3 : ∀ w ∈ u_ws RX3 TX3 8, w ∈ wsL_law := by decide +kernel
  have hiX4 : ∀ w ∈ u_ws RX4 TX4 15, w ∈ wsL_law := by decide +kernel
  have kc8 := hts (.classLink RL 8 RX3) (by decide +kernel)
  have kiX3 := hts (.instantiable RX3 8) (by decide +kernel)
  have kjX3 := hts (.initialized RX3) (by decide +kernel)
  have lk83 := hts (.methodLink RL 83 yX3_init) (by decide +kernel)
  have kc84 := hts (.classLink RL 84 RX4) (by decide +kernel)
  have kiX4 := hts (.instantiable RX4 15) (by decide +kernel)
  have kjX4 := hts (.initialized RX4) (by decide +kernel)
  have lk86 := hts (.methodLink RL 86 yX4_init) (by decide +kernel)
  have karl := hts (.arrayClass .long) (by decide +kernel)
  refine hv_new (C := RX3) (T := TX3) (N := 8) hx hb hts hiX3 tyX3 tyX3_ok hown kc8 kiX3 kjX3 hKs hV hS (0) (ci := 3) rfl dv_X3 (Nat.le_of_ble_eq_true rfl) (Nat.le_of_ble_eq_true rfl) dL_law_0 (fun ad ct H he hne hna hV hS => ?_)
  have hn1 : ct (0) = some (eO 3 [.null, .null, .null, .int (nI (0)), .int (nI (0)), .int (nI (0)), .int (nI (0)), .int (nI (0))]) := he
  refine lv_dup hx hb dL_law_3 rfl ?_
  refine hv_callv (va_runI (As := []) (rest := [.ref (ad (0))]) ⟨hx, hb, hml, hown, hts⟩ (c_X3_init l D N0 ad ct hn1) (cwI 0 hts gL_law_X3_init rfl rfl rfl (hts (.initialized RX3) (by decide +kernel)) lk83 (hts (.instanceMethod yX3_init) (by decide +kernel)) rfl (by decide +kernel) ⟨Nat.le_of_ble_eq_true rfl, Nat.le_of_ble_eq_true rfl⟩) (hv_preSO hAO0 hAO2 hKs hV hS) rfl rfl hl.1 rfl (lv_room (Nat.le_of_ble_eq_true rfl)) dL_law_4 ⟨(Nat.le_of_ble_eq_true rfl), (Nat.le_of_ble_eq_true rfl)⟩) hS (fun u9 H locs hq hV hS => ?_)
  obtain ⟨ad, ct⟩ := u9
  dsimp only at hq
  obtain ⟨hG, hna0, hne0⟩ := hq
  have hV : hv D N0 ad ct H := hV
  have hna := fun (q : Nat) (q1 : q ≠ 16 ∧ q ≠ 32 ∧ q ≠ 48) => hna0 q q1.1 q1.2.1 q1.2.2
  refine hv_stk (st' := [.ref (ad (0))]) (by rw [hna (0) (by omega)]) ?_
  refine lv_astore_n (lv' := [(1, .ref (ad (0))), (0, .ref (b))]) hx hb dL_law_7 rfl hl (by decide) rfl (fun ls hl => ?_)
  refine hv_new (C := RX4) (T := TX4) (N := 15) hx hb hts hiX4 tyX4 tyX4_ok hown kc84 kiX4 kjX4 hKs hV hS (80) (ci := 4) rfl dv_X4 (Nat.le_of_ble_eq_true rfl) (Nat.le_of_ble_eq_true rfl) dL_law_8 (fun ad ct H he hne hna hV hS => ?_)
  have hl : lv_has ls 9 [(1, .ref (ad (0))), (0, .ref (b))] := by rw [hna (0) (by omega)]; exact hl
  have hn2 : ct (80) = some (eO 4 [.int (nI (0)), .int (nI (0)), .int (nI (0)), .int (nI (0)), .null, .null, .null, .null, .null, .int (nI (0)), .null, .null, .int (nI (0)), .null, .null]) := he
  have hG := hG.keep (ct' := ct) (ad' := ad) (fun z z1 z2 => hne z (by omega)) (fun z z1 z2 => hna z (by omega))
  refine lv_dup hx hb dL_law_11 rfl ?_
  refine hv_callv (va_runI (As := []) (rest := [.ref (ad (80))]) ⟨hx, hb, hml, hown, hts⟩ (c_X4_init l D N0 ad ct hn2) (cwI 0 hts gL_law_X4_init rfl rfl rfl (hts (.initialized RX4) (by decide +kernel)) lk86 (hts (.instanceMethod yX4_init) (by decide +kernel)) rfl (by decide +kernel) ⟨Nat.le_of_ble_eq_true rfl, Nat.le_of_ble_eq_true rfl⟩) (hv_preS hKs hV hS) rfl rfl hl.1 rfl (lv_room (Nat.le_of_ble_eq_true rfl)) dL_law_12 ⟨(Nat.le_of_ble_eq_true rfl), (Nat.le_of_ble_eq_true rfl)⟩) hS (fun u9 H locs hq hV hS => ?_)
  obtain ⟨ad, ct⟩ := u9
  dsimp only at hq
  obtain ⟨hM, hna0, hne0⟩ := hq
  have hV : hv D N0 ad ct H := hV
  have hna := fun (q : Nat) (q1 : q % 16 ≠ 0 ∨ q < 96) => hna0 q q1
  refine hv_stk (st' := [.ref (ad (80))]) (by rw [hna (80) (by omega)]) ?_
  have hl : lv_has ls 9 [(1, .ref (ad (0))), (0, .ref (b))] := by rw [hna (0) (by omega)]; exact hl
  have hG := hG.keep (ct' := ct) (ad' := ad) (fun z z1 z2 => hne0 z (by omega)) (fun z z1 z2 => hna0 z (by omega))
  refine lv_astore_n (lv' := [(2, .ref (ad (80))), (1, .ref (ad (0))), (0, .ref (b))]) hx hb dL_law_15 rfl hl (by decide) rfl (fun ls hl => ?_)
  refine lv_iconst (v := nI 1) hx hb dL_law_16 (by decide) ?_
  refine hv_newL hx hb karl hKs hV hS (64) (n := 1) (by decide) (Nat.le_of_ble_eq_true rfl) (Nat.le_of_ble_eq_true rfl) dL_law_17 (fun ad ct H he hne hna hV hS => ?_)
  have hl : lv_has ls 9 [(2, .ref (ad (80))), (1, .ref (ad (0))), (0, .ref (b))] := by rw [hna (80) (by omega), hna (0) (by omega)]; exact hl
  have hn3 := he
  have hG := hG.keep (ct' := ct) (ad' := ad) (fun z z1 z2 => hne z (by omega)) (fun z z1 z2 => hna z (by omega))
  have hM := hM.keep (ct' := ct) (ad' := ad) (fun q q1 q2 => hne q (by omega)) (fun q q1 q2 => hna q (by omega))
  refine lv_astore_n (lv' := [(3, .ref (ad (64))), (2, .ref (ad (80))), (1, .ref (ad (0))), (0, .ref (b))]) hx hb dL_law_19 rfl hl (by decide) rfl (fun ls hl => ?_)
  refine lv_iconst (v := nI 0) hx hb dL_law_20 (by decide) ?_
  refine lv_istore (lv' := [(4, .int (nI (0))), (3, .ref (ad (64))), (2, .ref (ad (80))), (1, .ref (ad (0))), (0, .ref (b))]) hx hb dL_law_21 hl (by decide) rfl (fun ls hl => ?_)
  refine W.widen (k := 16 + 64 * 0) (n := 480 + 400 * 0) (by omega) (by omega) ?_
  exact L_loop hfl hts hx hb hr hlocks hml hown hX hbl hbA hN0 hL hKs (L + 13) 0 (by omega) (by omega) s_0 ad ct H _ ls ⟨ok_0, hG, ⟨_, hM⟩, _, hn3⟩ hV hS (lv_sub hl [4, 3, 2, 1, 0] rfl)
