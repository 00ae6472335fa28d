set_option maxHeartbeats 4000000 in
set_option maxRecDepth 100000 in
/-- from the entry, for every script of at most 260 ints, the law comes to its end with true -/
theorem whole_start {p : Program} {e : Env} {s : State} {m : MethodId} {below : List Frame} {meth : Method} {c : Code} (l : Launch) (hflags : l.flags = flags0) {b L : Nat} {xs : Nat → Int32} (hL : L ≤ 260) (C0 : lw_At p s m meth c b L xs) : W p l e room_1 s m #[Value.ref b] below meth c s.heap [] 0 0 (lw_Z below #[Value.ref b] s) (entryFrame m ([Value.ref b] : List Value).toArray 22) := by
  obtain ⟨hx, hb, hr, hml, hown, hts0, hX, hbs, hlocks, hgv⟩ := id C0
  have hts : ∀ w ∈ wsL_law, w.before #[Value.ref b] s = true := fun w h => hts0 w (wsL_law_in w h)
  have hfl : l.stackTraces = false := by unfold Launch.stackTraces; rw [hflags]; decide +kernel
  obtain ⟨D, hKs⟩ := hK_start hts0 hgv
  obtain ⟨N0, hN0⟩ : ∃ z, z = s.heap.size := ⟨_, rfl⟩
  rw [← hN0] at hKs
  have hbA : ¬ hA N0 b := fun q => absurd hbs (Nat.not_lt.mpr (by rw [← hN0]; exact q))
  have hbl : b < N0 := by rw [hN0]; exact hbs
  have CT : LC p l s m c b L N0 xs D := ⟨hfl, hts, hts0, hx, hb, hml, hown, hX, hbs, hbA, hbl, hL, hKs⟩
  obtain ⟨ad, ct, hct, hV⟩ : ∃ (ad : Nat → Nat) (ct : hC), (∀ q, ct q = none) ∧ hv D N0 ad ct s.heap := ⟨fun _ => 0, fun _ => none, fun _ => rfl, by rw [hN0]; exact Nat.le_refl _, (fun t x hx9 => by cases hx9), (fun t u x y hx9 => by cases hx9)⟩
  have hS : va_S (hA N0) s.heap s.heap [] := va_S.rf
  have hl := lv_entry ([.ref b]) (n := 22) (Nat.le_of_ble_eq_true rfl)
  rw [lg_entry_eq]
  generalize (lg_sl ([.ref b]) ++ List.replicate (22 - (lg_sl ([.ref b])).length) Slot.unset).toArray = ls at hl ⊢
  have hl : lv_has ls 22 [(0, .ref b)] := hl
  refine lv_aload_n hx hb dL_law_0 rfl (lv_at hl 0 rfl) ?_
  refine hv_callq (va_runS (As := [.ref (b)]) (rest := []) ⟨hx, hb, hml, hown, hts⟩ (c_L_shop l D N0 ad ct hfl hbl hL) (va_cwS 1 hts gL_law_L_shop rfl rfl rfl (by decide +kernel) ⟨Nat.le_of_ble_eq_true rfl, Nat.le_of_ble_eq_true rfl⟩) (hv_preSX hX hbs hbA hKs hV hS) rfl rfl hl.1 rfl (lv_room (Nat.le_of_ble_eq_true rfl)) dL_law_1 ⟨(Nat.le_of_ble_eq_true rfl), (Nat.le_of_ble_eq_true rfl)⟩) hS (fun r9 u9 H locs hq hV hS => ?_)
  obtain ⟨ad, ct⟩ := u9
  dsimp only at hq
  obtain ⟨hz9, σ, hO, h2, hnc0, hG⟩ := hq
  have hV : hv D N0 ad ct H := hV
  subst hz9
  refine hv_eq (w := .ref (ad (0))) rfl ?_
  have h00 := hG.1
  obtain ⟨hn8, hn60, hn6, -⟩ := id hO
  refine lv_astore_n (lv' := [(1, .ref (ad (0))), (0, .ref (b))]) hx hb dL_law_4 rfl hl (by decide) rfl (fun ls hl => ?_)
  refine lv_aload_n hx hb dL_law_5 rfl (lv_at hl 0 rfl) ?_
  refine lv_iconst (v := nI 1) hx hb dL_law_6 (by decide) ?_
  refine hv_call0 (by decide) (vx_runV (As := [.int (nI (1))]) (rest := []) ⟨hx, hb, hml, hown, hts⟩ (c_X3_count l hfl D N0 ad ct hG hO (nI (1))) (cwV 1 hts gL_law_X3_count rfl rfl rfl (by decide +kernel) ⟨Nat.le_of_ble_eq_true rfl, Nat.le_of_ble_eq_true rfl⟩) (hv_preV (r := (RX3, TX3, 8)) hKs hV hS h00 rfl) rfl rfl hl.1 rfl (lv_room (Nat.le_of_ble_eq_true rfl)) dL_law_7 ⟨(Nat.le_of_ble_eq_true rfl), (Nat.le_of_ble_eq_true rfl)⟩) hS (fun r9 u9 H locs hq hV hS => ?_)
  obtain ⟨-, hq, hu9⟩ := hq
  subst hu9
  have hV : hv D N0 ad ct H := hV
  have hq : r9 = nI (gNC σ) := hq
  subst hq
  refine lv_istore_n (lv' := [(2, .int (nI (gNC σ))), (1, .ref (ad (0))), (0, .ref (b))]) hx hb dL_law_10 rfl hl (by decide) rfl (fun ls hl => ?_)
  refine lv_iconst (v := nI 0) hx hb dL_law_11 (by decide) ?_
  refine lv_istore_n (lv' := [(3, .int (nI (0))), (2, .int (nI (gNC σ))), (1, .ref (ad (0))), (0, .ref (b))]) hx hb dL_law_12 rfl hl (by decide) rfl (fun ls hl => ?_)
  refine W.widen (k := 840 + 1000 * 0) (n := 8400 + 7000 * 0) (by omega) (by omega) ?_
  exact L_loop CT hr hlocks hN0 31 0 (by omega) (by omega) σ ad ct H _ ls ⟨hO, h2, hnc0, rfl, hG⟩ hV hS (lv_sub hl [3, 2, 1, 0] rfl)
