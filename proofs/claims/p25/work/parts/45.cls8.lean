set_option maxHeartbeats 4000000 in
set_option maxRecDepth 100000 in
theorem c_X3_rest (l : Launch) (hfl : l.stackTraces = false) (D : hG) (N0 : Nat) (ad : Nat → Nat) (ct : hC) {σ : gS} (hG : gX D σ ad ct) (hO : okS σ) (y0q : Int32) : vx_Met l yX3_rest wsX3_rest ({ frames := 6, cells := 1, slots := 6, locals := 82 }) (hPc D N0 ad ct [.ref (ad (0)), .int (y0q)]) (va_Qi (fun (z : Int32) (u : hU) => (k_rest y0q) = 0 ∧ z = nI (nsm (cHt (itP σ y0q.toInt.toNat)) (gNC σ)) ∧ gX D (itP σ y0q.toInt.toNat) u.1 u.2 ∧ hFr ad ct u) (hB D N0) (hA N0)) (hXC D N0 ad ct nmA (k_rest y0q)) 1 6 (hA N0) := by
  refine vx_ofW (cc := cX3_rest) (maxL := 3) (ret := (some .int)) (by decide) rfl ?_
  intro p e s m args below meth c s₁ B hml hnx hv0
  obtain ⟨hargs, hKs, hV⟩ := hv0
  have hx := B.exec
  have hb := B.bytes
  have hr := B.returns
  have hts := atoms_spec (ws := wsX3_rest) B.pre
  have hown : s.vm.findClass RX3 = some m.cls := findClass_of_methodNamed B.named
  have hlocks := B.notSynchronized
  have hS : va_S (hA N0) s.heap s.heap [] := va_S.rf
  have kx2 := hts (.classLink RX3 55 "java/lang/IllegalArgumentException") (by decide +kernel)
  have ky2 := hts (.initialized "java/lang/IllegalArgumentException") (by decide +kernel)
  have ka2 := vx_hat (fun w h => hts w (List.mem_cons_of_mem _ (List.mem_append_right _ h))) xb2 (xB_of hKs (by decide))
  have hl := lv_entry ([.ref (ad (0)), .int (y0q)]) (n := 3) (Nat.le_of_ble_eq_true rfl)
  have hE : entryFrame m args 3 = entryFrame m ([.ref (ad (0)), .int (y0q)] : List Value).toArray 3 := by rw [hargs]
  rw [hE, lg_entry_eq]
  generalize (lg_sl ([.ref (ad (0)), .int (y0q)]) ++ List.replicate (3 - (lg_sl ([.ref (ad (0)), .int (y0q)])).length) Slot.unset).toArray = ls at hl ⊢
  have hl : lv_has ls 3 [(0, .ref (ad (0))), (1, .int (y0q))] := hl
  obtain ⟨Qz, hQz⟩ : ∃ z : State → Prop, z = (vx_MQ below (va_Qi (fun (z : Int32) (u : hU) => (k_rest y0q) = 0 ∧ z = nI (nsm (cHt (itP σ y0q.toInt.toNat)) (gNC σ)) ∧ gX D (itP σ y0q.toInt.toNat) u.1 u.2 ∧ hFr ad ct u) (hB D N0) (hA N0)) (hXC D N0 ad ct nmA (k_rest y0q)) args s 1 6 (hA N0)) := ⟨_, rfl⟩
  rw [← hQz]
  obtain ⟨hn8, hn60, hn6, -⟩ := id hO
  have hz0 : ct (0) = some (eO 3 [.ref (ad (16)), .ref (ad (32)), .ref (ad (48)), .int (nI (gNC σ)), .int (nI (gNS σ)), .int (nI (gNB σ)), .int (gFu σ), .int (gMi σ)]) := hG.1
  have hz1 : ct (16) = some (eQ (D.2 1) 8 (fun i => if i < gNC σ then some (ad (16 * i + 3)) else none)) := hG.2.1
  have hz2 : ct (32) = some (eQ (D.2 2) 60 (fun i => if i < gNS σ then some (ad (16 * i + 6)) else none)) := hG.2.2.1
  have hz3 : ct (48) = some (eQ (D.2 2) 24 (fun e => (gEy σ e).map (fun q => ad (16 * q.1 + 6)))) := hG.2.2.2.1
  obtain ⟨ct0, hct0⟩ : ∃ z, z = ct := ⟨ct, rfl⟩
  refine lv_iload_n hx hb dX3_rest_0 rfl (lv_at hl 1 rfl) ?_
  refine lv_iconst (v := nI 1) hx hb dX3_rest_1 (by decide) ?_
  refine hR_icmp_lt (tgt := 11) hx hb (by omega) dX3_rest_2 (by decide) (fun c2 => ?_) (fun c2 => ?_)
  · rw [hQz]
    exact hv_throw (text := "not 1 to 60 minutes") hx hb hfl hown hKs hV hS (by decide +kernel) kx2 ky2 (by decide +kernel) ka2 xg2 (hl.1.trans hml.symm) dX3_rest_11 dX3_rest_14 dX3_rest_15 dX3_rest_17 dX3_rest_20 hnx (Nat.le_of_ble_eq_true rfl) (Nat.le_of_ble_eq_true rfl) (Nat.le_of_ble_eq_true rfl) (Nat.le_of_ble_eq_true rfl) hlocks (by unfold k_rest; rw [inB_0 (Or.inl c2)]; rfl) (j := 1) (by decide) rfl (Nat.le_of_ble_eq_true rfl) (Nat.le_of_ble_eq_true rfl)
  · refine lv_iload_n hx hb dX3_rest_5 rfl (lv_at hl 1 rfl) ?_
    refine lv_bipush (v := nI 60) hx hb dX3_rest_6 (by decide) ?_
    refine hR_icmp_le (tgt := 21) hx hb (by omega) dX3_rest_8 (by decide) (fun c8 => ?_) (fun c8 => ?_)
    · obtain ⟨y0qn, hy0qn, rfl⟩ := hI_of (x := y0q) (n := 61) (by omega) (by omega)
      have e_y0q : (nI y0qn).toInt.toNat = y0qn := toNat_nI (by omega)
      have h_y0q : inB (nI y0qn) 1 60 = true := inB_1 c2 c8
      refine lv_iconst (v := nI 0) hx hb dX3_rest_21 (by decide) ?_
      refine lv_istore_n (lv' := [(2, .int (nI (0))), (0, .ref (ad (0))), (1, .int (nI (y0qn)))]) hx hb dX3_rest_22 rfl hl (by decide) rfl (fun ls hl => ?_)
      have L23 : ∀ (n i : Nat), i ≤ y0qn → y0qn < i + n → ∀ (ct : hC) (H : Heap) (locs : List Loc), (gX D (itP σ i) ad ct) → (∀ z : Nat, z % 16 = 0 → 64 ≤ z → ct z = ct0 z) → hv D N0 ad ct H → va_S (hA N0) s.heap H locs → ∀ ls : Array Slot, lv_has ls 3 [(0, .ref (ad (0))), (1, .int (nI (y0qn))), (2, .int (nI (i)))] → W p l e (headSpec wsX3_rest ({ frames := 6, cells := 1, slots := 6, locals := 82 })).room s m args below meth c H locs 0 0 Qz (F0 m 23 ls []) := by
        intro n
        induction n with
        | zero => intro i h1 h2; exact absurd h2 (by omega)
        | succ n ih23 =>
          intro i hi23 hn23 ct H locs hGi hfr hV hS ls hl
          refine lv_iload_n hx hb dX3_rest_23 rfl (lv_at hl 2 rfl) ?_
          refine lv_iload_n hx hb dX3_rest_24 rfl (lv_at hl 1 rfl) ?_
          refine hN_icmp_ge (tgt := 38) hx hb (by omega) (by omega) dX3_rest_25 (by decide) (fun c25 => ?_) (fun c25 => ?_)
          · refine lv_aload_n hx hb dX3_rest_38 rfl (lv_at hl 0 rfl) ?_
            refine hv_calli (va_runV (As := []) (rest := []) ⟨hx, hb, hml, hown, hts⟩ (c_X3_heatOfAll l D N0 ad ct hGi (ok_itP hO i)) (cwV 0 hts gX3_rest_X3_heatOfAll rfl rfl rfl (by decide +kernel) ⟨Nat.le_of_ble_eq_true rfl, Nat.le_of_ble_eq_true rfl⟩) (hv_preV (r := (RX3, TX3, 8)) hKs hV hS hGi.1 rfl) rfl rfl hl.1 rfl (lv_room (Nat.le_of_ble_eq_true rfl)) dX3_rest_39 ⟨(Nat.le_of_ble_eq_true rfl), (Nat.le_of_ble_eq_true rfl)⟩) hS (fun r9 u9 H locs hq hV hS => ?_)
            obtain ⟨rfl, rfl⟩ := hq
            have hV : hv D N0 ad ct H := hV
            refine W.widen (k := 1) (n := 6) (by omega) (by omega) ?_
            rw [hQz]
            refine vx_ret ?_
            exact hv_iret (v := nI (nsm (cHt (itP σ i)) (gNC (itP σ i)))) (u := (ad, ct)) hx hb hr ⟨by unfold k_rest; rw [h_y0q]; rfl, by rw [e_y0q, show y0qn = i by omega, itP_nC], by rw [e_y0q, show y0qn = i by omega]; exact hGi, fun q q1 => ⟨rfl, fun q2 => (hfr q q1 q2).trans (by rw [hct0])⟩⟩ hV hS dX3_rest_42 hlocks
          · refine lv_aload_n hx hb dX3_rest_28 rfl (lv_at hl 0 rfl) ?_
            refine hv_callv (va_runV (As := []) (rest := []) ⟨hx, hb, hml, hown, hts⟩ (c_X3_passMinute l D N0 ad ct hGi (okH_of (ok_itP hO i))) (cwV 0 hts gX3_rest_X3_passMinute rfl rfl rfl (by decide +kernel) ⟨Nat.le_of_ble_eq_true rfl, Nat.le_of_ble_eq_true rfl⟩) (hv_preV (r := (RX3, TX3, 8)) hKs hV hS hGi.1 rfl) rfl rfl hl.1 rfl (lv_room (Nat.le_of_ble_eq_true rfl)) dX3_rest_29 ⟨(Nat.le_of_ble_eq_true rfl), (Nat.le_of_ble_eq_true rfl)⟩) hS (fun u9 H locs hq hV hS => ?_)
            obtain ⟨ad9, ct⟩ := u9
            dsimp only at hq
            obtain ⟨ha9, hGp, hnp⟩ := hq
            have ha9 := ha9.symm
            subst ha9
            have hV : hv D N0 ad ct H := hV
            have hfr := fun (z : Nat) (z1 : z % 16 = 0) (z2 : 64 ≤ z) => (hnp z (by omega) (by omega)).trans (hfr z z1 z2)
            refine lv_iinc (v := nI (i + 1)) (lv' := [(2, .int (nI (i + 1))), (0, .ref (ad (0))), (1, .int (nI (y0qn)))]) hx hb dX3_rest_32 hl (k := 2) rfl (nI_add (i) 1) (by decide) rfl (fun ls hl => ?_)
            refine lv_goto (tgt := 23) hx hb dX3_rest_35 (by decide) ?_
            exact ih23 (i + 1)  (by omega) (by omega) ct _ _ (hGp) (hfr) hV hS ls (lv_sub hl [1, 2, 0] rfl)
      exact L23 (y0qn + 1) (0)  (by omega) (by omega) ct _ _ (hG) (fun q _ _ => by rw [hct0]) hV hS ls (lv_sub hl [1, 2, 0] rfl)
    · rw [hQz]
      exact hv_throw (text := "not 1 to 60 minutes") hx hb hfl hown hKs hV hS (by decide +kernel) kx2 ky2 (by decide +kernel) ka2 xg2 (hl.1.trans hml.symm) dX3_rest_11 dX3_rest_14 dX3_rest_15 dX3_rest_17 dX3_rest_20 hnx (Nat.le_of_ble_eq_true rfl) (Nat.le_of_ble_eq_true rfl) (Nat.le_of_ble_eq_true rfl) (Nat.le_of_ble_eq_true rfl) hlocks (by unfold k_rest; rw [inB_0 (Or.inr c8)]; rfl) (j := 1) (by decide) rfl (Nat.le_of_ble_eq_true rfl) (Nat.le_of_ble_eq_true rfl)
