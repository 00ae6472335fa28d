set_option maxHeartbeats 4000000 in
set_option maxRecDepth 100000 in
theorem c_X1_turned (l : Launch) (D : hG) (N0 : Nat) (ad : Nat → Nat) (ct : hC) {t : Nat} {P : Nat → Nat} (hp0 : hPat D ad ct t P) (v : Nat) (hv1 : t ≠ v) (hv2 : t ≠ v + 1) (hv3 : t + 1 ≠ v) (x : Int32) : Met l yX1_turned wsX1_turned ({ frames := 3, cells := 2, slots := 25, locals := 66 }) (hPc D N0 ad ct [.ref (ad (t)), .int (x)]) (va_Qq (fun (z : Option Nat) (u : hU) => z = some (u.1 v) ∧ (∀ q : Nat, q ≠ v → q ≠ v + 1 → u.1 q = ad q) ∧ (∀ q : Nat, q ≠ v → q ≠ v + 1 → u.2 q = ct q) ∧ hPat D u.1 u.2 v (rot x P)) (hB D N0) (hA N0)) 2 25 (hA N0) := by
  refine Met.ofW (cc := cX1_turned) (maxL := 5) (ret := (some (.object "CaneSlices$Pattern"))) (by decide) rfl ?_
  intro p e s m args below meth c s₁ B hml hv0
  obtain ⟨hargs, hKs, hV⟩ := hv0
  have hx := B.exec
  have hb := B.bytes
  have hr := B.returns
  have hts := atoms_spec (ws := wsX1_turned) B.pre
  have hown : s.vm.findClass RX1 = some m.cls := findClass_of_methodNamed B.named
  have hlocks := B.notSynchronized
  have hS : va_S (hA N0) s.heap s.heap [] := va_S.rf
  have hiX1 : ∀ w ∈ u_ws RX1 TX1 1, w ∈ wsX1_turned := by decide +kernel
  have kc10 := hts (.classLink RX1 10 RX1) (by decide +kernel)
  have kiX1 := hts (.instantiable RX1 1) (by decide +kernel)
  have kjX1 := hts (.initialized RX1) (by decide +kernel)
  have lk24 := hts (.methodLink RX1 24 yX1_init) (by decide +kernel)
  have lk9 := hts (.fieldLink RX1 9 "CaneSlices$Pattern" "colours" "[I") (by decide +kernel)
  have hl := lv_entry ([.ref (ad (t)), .int (x)]) (n := 5) (Nat.le_of_ble_eq_true rfl)
  have hE : entryFrame m args 5 = entryFrame m ([.ref (ad (t)), .int (x)] : List Value).toArray 5 := by rw [hargs]
  rw [hE, lg_entry_eq]
  generalize (lg_sl ([.ref (ad (t)), .int (x)]) ++ List.replicate (5 - (lg_sl ([.ref (ad (t)), .int (x)])).length) Slot.unset).toArray = ls at hl ⊢
  have hl : lv_has ls 5 [(0, .ref (ad (t))), (1, .int (x))] := hl
  obtain ⟨Qz, hQz⟩ : ∃ z : State → Prop, z = (MQ below (va_Qq (fun (z : Option Nat) (u : hU) => z = some (u.1 v) ∧ (∀ q : Nat, q ≠ v → q ≠ v + 1 → u.1 q = ad q) ∧ (∀ q : Nat, q ≠ v → q ≠ v + 1 → u.2 q = ct q) ∧ hPat D u.1 u.2 v (rot x P)) (hB D N0) (hA N0)) args s 2 25 (hA N0)) := ⟨_, rfl⟩
  rw [← hQz]
  obtain ⟨ct0, hct0⟩ : ∃ z, z = ct := ⟨ct, rfl⟩
  refine hv_new (C := RX1) (T := TX1) (N := 1) hx hb hts hiX1 tyX1 tyX1_ok hown kc10 kiX1 kjX1 hKs hV hS (v) (ci := 1) rfl dv_X1 (Nat.le_of_ble_eq_true rfl) (Nat.le_of_ble_eq_true rfl) dX1_turned_0 (fun ad ct H he hne hna hV hS => ?_)
  have hl : lv_has ls 5 [(0, .ref (ad (t))), (1, .int (x))] := by rw [hna (t) (by omega)]; exact hl
  have hn1 : ct (v) = some (eO 1 [.null]) := he
  have hnaN := hna
  have hneN := hne
  refine lv_dup hx hb dX1_turned_3 rfl ?_
  refine hv_callv (va_runI (As := []) (rest := [.ref (ad (v))]) ⟨hx, hb, hml, hown, hts⟩ (c_X1_init l D N0 ad ct hn1) (cwI 0 hts gX1_turned_X1_init rfl rfl rfl (hts (.initialized RX1) (by decide +kernel)) lk24 (hts (.instanceMethod yX1_init) (by decide +kernel)) rfl (by decide +kernel) ⟨Nat.le_of_ble_eq_true rfl, Nat.le_of_ble_eq_true rfl⟩) (hv_preS hKs hV hS) rfl rfl hl.1 rfl (lv_room (Nat.le_of_ble_eq_true rfl)) dX1_turned_4 ⟨(Nat.le_of_ble_eq_true rfl), (Nat.le_of_ble_eq_true rfl)⟩) hS (fun u9 H locs hq hV hS => ?_)
  obtain ⟨ad, ct⟩ := u9
  dsimp only at hq
  obtain ⟨hna0, hne0, hp1, hp2⟩ := hq
  have hV : hv D N0 ad ct H := hV
  have hna := hna0
  have hne := fun (q : Nat) (q1 : q ≠ v ∧ q ≠ v + 1) => hne0 q q1.1 q1.2
  refine hv_stk (st' := [.ref (ad (v))]) (by rw [hna (v) (by omega)]) ?_
  have hl : lv_has ls 5 [(0, .ref (ad (t))), (1, .int (x))] := by rw [hna (t) (by omega)]; exact hl
  have hna1 := hna0
  have hne1 := hne0
  refine lv_astore_n (lv' := [(2, .ref (ad (v))), (0, .ref (ad (t))), (1, .int (x))]) hx hb dX1_turned_7 rfl hl (by decide) rfl (fun ls hl => ?_)
  refine lv_iconst (v := nI 0) hx hb dX1_turned_8 (by decide) ?_
  refine lv_istore_n (lv' := [(3, .int (nI (0))), (2, .ref (ad (v))), (0, .ref (ad (t))), (1, .int (x))]) hx hb dX1_turned_9 rfl hl (by decide) rfl (fun ls hl => ?_)
  have L10 : ∀ (n i : Nat) (F : Nat → Int32), i ≤ 3 → 3 < i + n → ∀ (ct : hC) (H : Heap) (locs : List Loc), (hPat D ad ct t P) → (ct v = some (eO 1 [.ref (ad (v + 1))])) → (ct (v + 1) = some (eI D 24 F)) → (∀ k, k < 8 * i → F k = nI (rot x P k)) → (∀ q : Nat, q ≠ v → q ≠ v + 1 → ct q = ct0 q) → hv D N0 ad ct H → va_S (hA N0) s.heap H locs → ∀ ls : Array Slot, lv_has ls 5 [(0, .ref (ad (t))), (1, .int (x)), (2, .ref (ad (v))), (3, .int (nI (i)))] → W p l e (headSpec wsX1_turned ({ frames := 3, cells := 2, slots := 25, locals := 66 })).room s m args below meth c H locs 2 25 Qz (F0 m 10 ls []) := by
    intro n
    induction n with
    | zero => intro i F h1 h2; exact absurd h2 (by omega)
    | succ n ih10 =>
      intro i F hi10 hn10 ct H locs hpi hr1 hr2 hF hfr hV hS ls hl
      have hp1 := hpi.1
      refine lv_iload_n hx hb dX1_turned_10 rfl (lv_at hl 3 rfl) ?_
      refine lv_iconst (v := nI 3) hx hb dX1_turned_11 (by decide) ?_
      refine hN_icmp_ge (tgt := 57) hx hb (by omega) (by omega) dX1_turned_12 (by decide) (fun c12 => ?_) (fun c12 => ?_)
      · refine lv_aload_n hx hb dX1_turned_57 rfl (lv_at hl 2 rfl) ?_
        refine W.widen (k := 2) (n := 25) (by omega) (by omega) ?_
        rw [hQz]
        exact hv_qret (r := some (ad (v))) (u := (ad, ct)) hx hb hr ⟨rfl, fun q q1 q2 => (hna1 q q2).trans (hnaN q q1), fun q q1 q2 => (hfr q q1 q2).trans (by rw [hct0]), hr1, F, hr2, fun k hk => hF k (by omega), rot_8 hpi.2.choose_spec.2.2⟩ hV hS dX1_turned_58 hlocks
      · refine lv_iconst (v := nI 0) hx hb dX1_turned_15 (by decide) ?_
        refine lv_istore (lv' := [(4, .int (nI (0))), (0, .ref (ad (t))), (1, .int (x)), (2, .ref (ad (v))), (3, .int (nI (i)))]) hx hb dX1_turned_16 hl (by decide) rfl (fun ls hl => ?_)
        have L18 : ∀ (n j : Nat) (F : Nat → Int32), j ≤ 8 → 8 < j + n → ∀ (ct : hC) (H : Heap) (locs : List Loc), (hPat D ad ct t P) → (ct v = some (eO 1 [.ref (ad (v + 1))])) → (ct (v + 1) = some (eI D 24 F)) → (∀ k, k < 8 * i + j → F k = nI (rot x P k)) → (∀ q : Nat, q ≠ v → q ≠ v + 1 → ct q = ct0 q) → hv D N0 ad ct H → va_S (hA N0) s.heap H locs → ∀ ls : Array Slot, lv_has ls 5 [(0, .ref (ad (t))), (1, .int (x)), (2, .ref (ad (v))), (3, .int (nI (i))), (4, .int (nI (j)))] → W p l e (headSpec wsX1_turned ({ frames := 3, cells := 2, slots := 25, locals := 66 })).room s m args below meth c H locs 2 25 Qz (F0 m 18 ls []) := by
          intro n
          induction n with
          | zero => intro j F h1 h2; exact absurd h2 (by omega)
          | succ n ih18 =>
            intro j F hi18 hn18 ct H locs hpi hr1 hr2 hF hfr hV hS ls hl
            have hp1 := hpi.1
            refine lv_iload hx hb dX1_turned_18 (lv_at hl 4 rfl) ?_
            refine lv_bipush (v := nI 8) hx hb dX1_turned_20 (by decide) ?_
            refine hN_icmp_ge (tgt := 51) hx hb (by omega) (by omega) dX1_turned_22 (by decide) (fun c22 => ?_) (fun c22 => ?_)
            · refine lv_iinc (v := nI (i + 1)) (lv' := [(3, .int (nI (i + 1))), (0, .ref (ad (t))), (1, .int (x)), (2, .ref (ad (v))), (4, .int (nI (j)))]) hx hb dX1_turned_51 hl (k := 3) rfl (nI_add (i) 1) (by decide) rfl (fun ls hl => ?_)
              refine lv_goto (tgt := 10) hx hb dX1_turned_54 (by decide) ?_
              exact ih10 (i + 1) (F) (by omega) (by omega) ct _ _ (hpi) (hr1) (hr2) (fun k hk => hF k (by omega)) (hfr) hV hS ls (lv_sub hl [1, 2, 3, 0] rfl)
            · refine lv_aload_n hx hb dX1_turned_25 rfl (lv_at hl 2 rfl) ?_
              refine hv_get (C := RX1) (T := TX1) (N := 1) hx hb hts hiX1 hown hKs hV hr1 0 rfl (by decide) lk9 (fun _ h9 => h9) rfl dX1_turned_26 ?_
              refine lv_bipush (v := nI 8) hx hb dX1_turned_29 (by decide) ?_
              refine lv_iload_n hx hb dX1_turned_31 rfl (lv_at hl 3 rfl) ?_
              refine hN_imul hx hb dX1_turned_32 ?_
              refine lv_iload hx hb dX1_turned_33 (lv_at hl 4 rfl) ?_
              refine hN_iadd hx hb dX1_turned_35 ?_
              refine lv_aload_n hx hb dX1_turned_36 rfl (lv_at hl 0 rfl) ?_
              refine lv_iload_n hx hb dX1_turned_37 rfl (lv_at hl 3 rfl) ?_
              refine lv_iload hx hb dX1_turned_38 (lv_at hl 4 rfl) ?_
              refine lv_iload_n hx hb dX1_turned_40 rfl (lv_at hl 1 rfl) ?_
              refine hv_calli (va_runV (As := [.int (nI (i)), .int (nI (j)), .int (x)]) (rest := [.int (nI ((8) * (i) + j)), .ref (ad (v + 1))]) ⟨hx, hb, hml, hown, hts⟩ (c_X1_colourAt l D N0 ad ct hpi (i) (by omega) (j) (by omega) ((x))) (cwV 3 hts gX1_turned_X1_colourAt rfl rfl rfl (by decide +kernel) ⟨Nat.le_of_ble_eq_true rfl, Nat.le_of_ble_eq_true rfl⟩) (hv_preV (r := (RX1, TX1, 1)) hKs hV hS hp1 rfl) rfl rfl hl.1 rfl (lv_room (Nat.le_of_ble_eq_true rfl)) dX1_turned_41 ⟨(Nat.le_of_ble_eq_true rfl), (Nat.le_of_ble_eq_true rfl)⟩) hS (fun r9 u9 H locs hq hV hS => ?_)
              obtain ⟨rfl, rfl⟩ := hq
              have hV : hv D N0 ad ct H := hV
              refine hv_iast hx hb hKs hV hS hr2 (by omega) (by decide) dX1_turned_44 (fun ct H locs he hne hV hS => ?_)
              have hp1 := (hne (t) (by omega)).trans hp1
              have hr1 := (hne (v) (by omega)).trans hr1
              have hr2 := he
              refine lv_iinc (v := nI (j + 1)) (lv' := [(4, .int (nI (j + 1))), (0, .ref (ad (t))), (1, .int (x)), (2, .ref (ad (v))), (3, .int (nI (i)))]) hx hb dX1_turned_45 hl (k := 4) rfl (nI_add (j) 1) (by decide) rfl (fun ls hl => ?_)
              refine lv_goto (tgt := 18) hx hb dX1_turned_48 (by decide) ?_
              exact ih18 (j + 1) (va_up (F) ((8) * (i) + j) (nI (P (8 * (i) + (j + 8 - m8 (x)) % 8)))) (by omega) (by omega) ct _ _ (hpi.keep (hne _ (by omega)) (hne _ (by omega)) rfl) (hr1) (hr2) (turn_F (by omega) hF) (fun q q1 q2 => (hne q q2).trans (hfr q q1 q2)) hV hS ls (lv_sub hl [1, 2, 3, 4, 0] rfl)
        refine W.widen (k := 2) (n := 25) (by omega) (by omega) ?_
        exact L18 (8 + 1) (0) (F) (by omega) (by omega) ct _ _ (hpi) (hr1) (hr2) (hF) (hfr) hV hS ls (lv_sub hl [1, 2, 3, 4, 0] rfl)
  refine W.widen (k := 2) (n := 25) (by omega) (by omega) ?_
  exact L10 (3 + 1) (0) (fun _ => 0) (by omega) (by omega) ct _ _ (hp0.keep ((hne1 _ (by omega) (by omega)).trans (hneN _ (by omega))) ((hne1 _ (by omega) (by omega)).trans (hneN _ (by omega))) ((hna1 _ (by omega)).trans (hnaN _ (by omega)))) (hp1) (hp2) (fun k hk => absurd hk (by omega)) (fun q q1 q2 => (hne1 q q1 q2).trans ((hneN q q1).trans (by rw [hct0]))) hV hS ls (lv_sub hl [2, 3, 1, 0] rfl)
