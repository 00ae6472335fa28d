set_option maxHeartbeats 4000000 in
set_option maxRecDepth 100000 in
theorem S_G {p : Program} {l : Launch} {e : Env} {s : State} {m : MethodId} {below : List Frame} {meth : Method} {c : Code} {b L N0 : Nat} {xs : Nat → Int32} {Q : State → Prop} {D : hG} (CT : LC p l s m c b L N0 xs D) {ad : Nat → Nat} {ct : hC} {H : Heap} {locs : List Loc} {cells slots : Nat} (hV : hv D N0 ad ct H) (hS : va_S (hA N0) s.heap H locs) {ls : Array Slot} {σ0 σ : gS} {nc i g : Nat} {xv : Int32} {cn rr : Nat} (hi : i < 30) (hcn1 : cn < nc) (hrr : rr = i % 5) (hg4 : g ≤ 4) (hA9 : lA D σ nc ad ct) (hrel : rel g σ0 σ) (hl : lv_has ls 22 [(8, .int (nI (gNB σ0))), (7, .int (nI (gNS σ0))), (6, .int (gMi σ0)), (5, .int (nI (cn))), (4, .int (xv)), (0, .ref (b)), (1, .ref (ad (0))), (2, .int (nI (nc))), (3, .int (nI (i)))]) (hr1 : cells + 123 ≤ 600086) (hr2 : slots + 756 ≤ 7301442)
    (K : ∀  (ad1 : Nat → Nat) (ct1 : hC) (H1 : Heap) (locs1 : List Loc) (ls1 : Array Slot), lA D σ nc ad1 ct1 → hv D N0 ad1 ct1 H1 → va_S (hA N0) s.heap H1 locs1 → lv_has ls1 22 [(11, .long (dgt σ)), (15, .int (nI (inE σ (gNS σ)))), (8, .int (nI (gNB σ0))), (7, .int (nI (gNS σ0))), (6, .int (gMi σ0)), (5, .int (nI (cn))), (4, .int (xv)), (0, .ref (b)), (1, .ref (ad1 (0))), (2, .int (nI (nc))), (3, .int (nI (i)))] → W p l e room_1 s m #[Value.ref b] below meth c H1 locs1 (cells + 123) (slots + 756) Q (F0 m 987 ls1 [])) : W p l e room_1 s m #[Value.ref b] below meth c H locs cells slots Q (F0 m 886 ls []) := by
  obtain ⟨hfl, hts, hts0, hx, hb, hml, hown, hX, hbs, hbA, hbl, hL, hKs⟩ := CT
  have karz := hts (.arrayClass .boolean) (by decide +kernel)
  obtain ⟨hO, h2, hnc0, hc, hG⟩ := hA9
  have h00 := hG.1
  obtain ⟨hn8, hn60, hn6, -⟩ := id hO
  obtain ⟨hrC, hrB, hrS, hrP, hrH, hrM⟩ := id hrel
  refine lv_iconst (v := nI 0) hx hb dL_law_886 (by decide) ?_
  refine lv_istore (lv' := [(15, .int (nI (0))), (8, .int (nI (gNB σ0))), (7, .int (nI (gNS σ0))), (6, .int (gMi σ0)), (5, .int (nI (cn))), (4, .int (xv)), (0, .ref (b)), (1, .ref (ad (0))), (2, .int (nI (nc))), (3, .int (nI (i)))]) hx hb dL_law_887 hl (by decide) rfl (fun ls hl => ?_)
  refine lv_bipush (v := nI 24) hx hb dL_law_889 (by decide) ?_
  refine hv_newZ hx hb karz hKs hV hS (1216) (n := 24) (by decide) (show cells + 1 ≤ 600086 by omega) (show slots + 24 ≤ 7301442 by omega) dL_law_891 (fun ad ct H hz9 hne hna hV hS => ?_)
  have hl : lv_has ls 22 [(15, .int (nI (0))), (8, .int (nI (gNB σ0))), (7, .int (nI (gNS σ0))), (6, .int (gMi σ0)), (5, .int (nI (cn))), (4, .int (xv)), (0, .ref (b)), (1, .ref (ad (0))), (2, .int (nI (nc))), (3, .int (nI (i)))] := by rw [hna (0) (by omega)]; exact hl
  have h00 : ct (0) = some (eO 3 [.ref (ad (16)), .ref (ad (32)), .ref (ad (48)), .int (nI (gNC σ)), .int (nI (gNS σ)), .int (nI (gNB σ)), .int (gFu σ), .int (gMi σ)]) := by rw [hne (0) (by omega), hna (16) (by omega), hna (32) (by omega), hna (48) (by omega)]; exact h00
  have hG := hG.keep (ct' := ct) (ad' := ad) (fun z h1 h2 => hne z (by omega)) (fun z h1 h2 => hna z (by omega))
  refine lv_astore (lv' := [(16, .ref (ad (1216))), (15, .int (nI (0))), (8, .int (nI (gNB σ0))), (7, .int (nI (gNS σ0))), (6, .int (gMi σ0)), (5, .int (nI (cn))), (4, .int (xv)), (0, .ref (b)), (1, .ref (ad (0))), (2, .int (nI (nc))), (3, .int (nI (i)))]) hx hb dL_law_893 hl (by decide) rfl (fun ls hl => ?_)
  refine lv_iconst (v := nI 0) hx hb dL_law_895 (by decide) ?_
  refine lv_istore (lv' := [(17, .int (nI (0))), (16, .ref (ad (1216))), (15, .int (nI (0))), (8, .int (nI (gNB σ0))), (7, .int (nI (gNS σ0))), (6, .int (gMi σ0)), (5, .int (nI (cn))), (4, .int (xv)), (0, .ref (b)), (1, .ref (ad (0))), (2, .int (nI (nc))), (3, .int (nI (i)))]) hx hb dL_law_896 hl (by decide) rfl (fun ls hl => ?_)
  have L898 : ∀ (n k : Nat) (F : Nat → Int32), k ≤ gNS σ → gNS σ < k + n → ∀ (ct : hC) (H : Heap) (locs : List Loc), (gX D σ ad ct) → (ct 1216 = some (eZ D 24 F)) → (∀ a, a < 24 → (F a = 1 ∧ ∃ j, j < k ∧ sEy σ j = some a) ∨ (F a = 0 ∧ ∀ j, j < k → sEy σ j ≠ some a)) → hv D N0 ad ct H → va_S (hA N0) s.heap H locs → ∀ ls : Array Slot, lv_has ls 22 [(17, .int (nI (k))), (16, .ref (ad (1216))), (15, .int (nI (inE σ k))), (8, .int (nI (gNB σ0))), (7, .int (nI (gNS σ0))), (6, .int (gMi σ0)), (5, .int (nI (cn))), (4, .int (xv)), (0, .ref (b)), (1, .ref (ad (0))), (2, .int (nI (nc))), (3, .int (nI (i)))] → W p l e room_1 s m #[Value.ref b] below meth c H locs (cells + 1 + 2 * k) (slots + 24 + 12 * k) Q (F0 m 898 ls []) := by
    intro n
    induction n with
    | zero => intro k F h1 h2; exact absurd h2 (by omega)
    | succ n ih898 =>
      intro k F hi898 hn898 ct H locs hG hz9 hzF hV hS ls hl
      have h00 := hG.1
      have hil := inE_le (σ := σ) (n := k)
      refine lv_iload hx hb dL_law_898 (lv_at hl 0 rfl) ?_
      refine lv_aload_n hx hb dL_law_900 rfl (lv_at hl 9 rfl) ?_
      refine lv_iconst (v := nI 3) hx hb dL_law_901 (by decide) ?_
      refine hv_call0 (by decide) (vx_runV (As := [.int (nI (3))]) (rest := [.int (nI (k))]) ⟨hx, hb, hml, hown, hts⟩ (c_X3_count l hfl D N0 ad ct hG hO (nI (3))) (cwV 1 hts gL_law_X3_count rfl rfl rfl (by decide +kernel) ⟨Nat.le_of_ble_eq_true rfl, Nat.le_of_ble_eq_true rfl⟩) (hv_preV (r := (RX3, TX3, 8)) hKs hV hS h00 rfl) rfl rfl hl.1 rfl (lv_room (Nat.le_of_ble_eq_true rfl)) dL_law_902 ⟨(show cells + 1 + 2 * k + 1 ≤ 600086 by omega), (show slots + 24 + 12 * k + 6 ≤ 7301442 by omega)⟩) hS (fun r9 u9 H locs hq hV hS => ?_)
      obtain ⟨-, hq, hu9⟩ := hq
      subst hu9
      have hV : hv D N0 ad ct H := hV
      have hq : r9 = nI (gNS σ) := hq
      subst hq
      refine hN_icmp_ge (tgt := 969) hx hb (by omega) (by omega) dL_law_905 (by decide) (fun c905 => ?_) (fun c905 => ?_)
      · have hkn : k = gNS σ := by omega
        have hia := inE_all hO
        have hia2 := nsm_le (f := ie σ) (c := 1) (n := 24) (fun k _ => ie_le σ k)
        refine lv_iload hx hb dL_law_969 (lv_at hl 2 rfl) ?_
        refine lv_aload_n hx hb dL_law_971 rfl (lv_at hl 9 rfl) ?_
        refine lv_iconst (v := nI 4) hx hb dL_law_972 (by decide) ?_
        refine hv_call0 (by decide) (vx_runV (As := [.int (nI (4))]) (rest := [.int (nI (inE σ k))]) ⟨hx, hb, hml, hown, hts⟩ (c_X3_count l hfl D N0 ad ct hG hO (nI (4))) (cwV 1 hts gL_law_X3_count rfl rfl rfl (by decide +kernel) ⟨Nat.le_of_ble_eq_true rfl, Nat.le_of_ble_eq_true rfl⟩) (hv_preV (r := (RX3, TX3, 8)) hKs hV hS h00 rfl) rfl rfl hl.1 rfl (lv_room (Nat.le_of_ble_eq_true rfl)) dL_law_973 ⟨(show cells + 1 + 2 * k + 1 + 1 ≤ 600086 by omega), (show slots + 24 + 12 * k + 6 + 6 ≤ 7301442 by omega)⟩) hS (fun r9 u9 H locs hq hV hS => ?_)
        obtain ⟨-, hq, hu9⟩ := hq
        subst hu9
        have hV : hv D N0 ad ct H := hV
        have hq : r9 = nI (nsm (ie σ) 24) := hq
        subst hq
        refine hN_icmp_eq (tgt := 981) hx hb (by omega) (by omega) dL_law_976 (by decide) (fun c976 => ?_) (fun c976 => by exact absurd (by rw [hkn]; exact hia) c976)
        rw [hkn] at hl
        have hl : lv_has ls 22 [(15, .int (nI (inE σ (gNS σ)))), (8, .int (nI (gNB σ0))), (7, .int (nI (gNS σ0))), (6, .int (gMi σ0)), (5, .int (nI (cn))), (4, .int (xv)), (0, .ref (b)), (1, .ref (ad (0))), (2, .int (nI (nc))), (3, .int (nI (i)))] := lv_sub hl [2, 3, 4, 5, 6, 7, 8, 9, 10, 11] rfl
        refine lv_aload_n hx hb dL_law_981 rfl (lv_at hl 7 rfl) ?_
        refine hv_calll (va_runV (As := []) (rest := []) ⟨hx, hb, hml, hown, hts⟩ (c_X3_digest l D N0 ad ct hG hO) (cwV 0 hts gL_law_X3_digest rfl rfl rfl (by decide +kernel) ⟨Nat.le_of_ble_eq_true rfl, Nat.le_of_ble_eq_true rfl⟩) (hv_preV (r := (RX3, TX3, 8)) hKs hV hS h00 rfl) rfl rfl hl.1 rfl (lv_room (Nat.le_of_ble_eq_true rfl)) dL_law_982 ⟨(show cells + 1 + 2 * k + 1 + 1 + 0 ≤ 600086 by omega), (show slots + 24 + 12 * k + 6 + 6 + 0 ≤ 7301442 by omega)⟩) hS (fun r9 u9 H locs hq hV hS => ?_)
        obtain ⟨rfl, rfl⟩ := hq
        have hV : hv D N0 ad ct H := hV
        refine lv_lstore (lv' := [(11, .long (dgt σ)), (15, .int (nI (inE σ (gNS σ)))), (8, .int (nI (gNB σ0))), (7, .int (nI (gNS σ0))), (6, .int (gMi σ0)), (5, .int (nI (cn))), (4, .int (xv)), (0, .ref (b)), (1, .ref (ad (0))), (2, .int (nI (nc))), (3, .int (nI (i)))]) hx hb dL_law_985 hl (by decide) rfl (fun ls hl => ?_)
        refine W.widen (k := cells + 123) (n := slots + 756) (by omega) (by omega) ?_
        exact K  ad ct _ _ _ (⟨hO, h2, hnc0, hc, hG⟩) hV hS (lv_sub hl [0, 1, 2, 3, 4, 5, 6, 7, 8, 9, 10] rfl)
      · refine lv_aload_n hx hb dL_law_908 rfl (lv_at hl 9 rfl) ?_
        refine lv_iload hx hb dL_law_909 (lv_at hl 0 rfl) ?_
        refine hv_call0 (kz_where hO (by omega : k < gNS σ)) (vx_runV (As := [.int (nI (k))]) (rest := []) ⟨hx, hb, hml, hown, hts⟩ (c_X3_where l hfl D N0 ad ct hG hO (nI (k))) (cwV 1 hts gL_law_X3_where rfl rfl rfl (by decide +kernel) ⟨Nat.le_of_ble_eq_true rfl, Nat.le_of_ble_eq_true rfl⟩) (hv_preV (r := (RX3, TX3, 8)) hKs hV hS h00 rfl) rfl rfl hl.1 rfl (lv_room (Nat.le_of_ble_eq_true rfl)) dL_law_911 ⟨(show cells + 1 + 2 * k + 1 + 1 ≤ 600086 by omega), (show slots + 24 + 12 * k + 6 + 6 ≤ 7301442 by omega)⟩) hS (fun r9 u9 H locs hq hV hS => ?_)
        obtain ⟨-, hq, hu9⟩ := hq
        subst hu9
        have hV : hv D N0 ad ct H := hV
        simp only [toNat_nI (by omega : (k) < 2 ^ 31)] at hq
        subst hq
        rcases hq : sEy σ k with _ | a
        · refine hv_eqi (y := (-1)) rfl ?_
          refine lv_istore (lv' := [(18, .int ((-1))), (17, .int (nI (k))), (16, .ref (ad (1216))), (15, .int (nI (inE σ k))), (8, .int (nI (gNB σ0))), (7, .int (nI (gNS σ0))), (6, .int (gMi σ0)), (5, .int (nI (cn))), (4, .int (xv)), (0, .ref (b)), (1, .ref (ad (0))), (2, .int (nI (nc))), (3, .int (nI (i)))]) hx hb dL_law_914 hl (by decide) rfl (fun ls hl => ?_)
          refine lv_iload hx hb dL_law_916 (lv_at hl 0 rfl) ?_
          refine lv_iconst (v := (-1)) hx hb dL_law_918 (by decide) ?_
          refine hI_icmp_lt (tgt := 944) hx hb dL_law_919 (by decide) (fun c919 => by exact absurd c919 (by decide)) (fun c919 => ?_)
          refine lv_iload hx hb dL_law_922 (lv_at hl 0 rfl) ?_
          refine lv_iconst (v := nI 4) hx hb dL_law_924 (by decide) ?_
          refine lv_iload hx hb dL_law_925 (lv_at hl 4 rfl) ?_
          refine hN_imul hx hb dL_law_927 ?_
          refine hR_icmp_ge (tgt := 944) hx hb (by omega) dL_law_928 (by decide) (fun c928 => by rw [h_m1] at c928; omega) (fun c928 => ?_)
          refine lv_iload hx hb dL_law_931 (lv_at hl 0 rfl) ?_
          refine hI_if_lt (tgt := 946) hx hb dL_law_933 (by decide) (fun c933 => ?_) (fun c933 => by exact absurd c933 (by decide))
          refine lv_iload hx hb dL_law_946 (lv_at hl 0 rfl) ?_
          refine hI_if_ge (tgt := 954) hx hb dL_law_948 (by decide) (fun c948 => by exact absurd c948 (by decide)) (fun c948 => ?_)
          have hin := inE_0 hq
          rw [← hin] at hl
          refine lv_goto (tgt := 963) hx hb dL_law_951 (by decide) ?_
          refine lv_iinc (v := nI (k + 1)) (lv' := [(17, .int (nI (k + 1))), (18, .int ((-1))), (16, .ref (ad (1216))), (15, .int (nI (inE σ (k + 1)))), (8, .int (nI (gNB σ0))), (7, .int (nI (gNS σ0))), (6, .int (gMi σ0)), (5, .int (nI (cn))), (4, .int (xv)), (0, .ref (b)), (1, .ref (ad (0))), (2, .int (nI (nc))), (3, .int (nI (i)))]) hx hb dL_law_963 hl (k := 1) rfl (nI_add (k) 1) (by decide) rfl (fun ls hl => ?_)
          refine lv_goto (tgt := 898) hx hb dL_law_966 (by decide) ?_
          refine W.widen (k := cells + 1 + 2 * (k + 1)) (n := slots + 24 + 12 * (k + 1)) (by omega) (by omega) ?_
          exact ih898 (k + 1) (F) (by omega) (by omega) ct _ _ (hG) (hz9) (fun a ha => (hzF a ha).imp (fun h => ⟨h.1, h.2.elim fun j q => ⟨j, by omega, q.2⟩⟩) (fun h => ⟨h.1, fun j hj => by
            by_cases e : j = k
            · subst e; rw [hq]; intro q; cases q
            · exact h.2 j (by omega)⟩)) hV hS ls (lv_sub hl [0, 2, 3, 4, 5, 6, 7, 8, 9, 10, 11, 12] rfl)
        · have ha4 := ey_lt hO (by omega) hq
          refine hv_eqi (y := nI a) rfl ?_
          refine lv_istore (lv' := [(18, .int (nI (a))), (17, .int (nI (k))), (16, .ref (ad (1216))), (15, .int (nI (inE σ k))), (8, .int (nI (gNB σ0))), (7, .int (nI (gNS σ0))), (6, .int (gMi σ0)), (5, .int (nI (cn))), (4, .int (xv)), (0, .ref (b)), (1, .ref (ad (0))), (2, .int (nI (nc))), (3, .int (nI (i)))]) hx hb dL_law_914 hl (by decide) rfl (fun ls hl => ?_)
          refine lv_iload hx hb dL_law_916 (lv_at hl 0 rfl) ?_
          refine lv_iconst (v := (-1)) hx hb dL_law_918 (by decide) ?_
          refine hL_icmp_lt (tgt := 944) hx hb (by omega) dL_law_919 (by decide) (fun c919 => by rw [h_m1] at c919; omega) (fun c919 => ?_)
          refine lv_iload hx hb dL_law_922 (lv_at hl 0 rfl) ?_
          refine lv_iconst (v := nI 4) hx hb dL_law_924 (by decide) ?_
          refine lv_iload hx hb dL_law_925 (lv_at hl 4 rfl) ?_
          refine hN_imul hx hb dL_law_927 ?_
          refine hN_icmp_ge (tgt := 944) hx hb (by omega) (by omega) dL_law_928 (by decide) (fun c928 => by exact absurd c928 (by omega)) (fun c928 => ?_)
          refine lv_iload hx hb dL_law_931 (lv_at hl 0 rfl) ?_
          refine hN_if_lt (tgt := 946) hx hb (by omega) dL_law_933 (by decide) ?_
          refine lv_aload hx hb dL_law_936 (lv_at hl 2 rfl) ?_
          refine lv_iload hx hb dL_law_938 (lv_at hl 0 rfl) ?_
          refine hv_zald hx hb hKs hV hz9 (by omega) (by decide) dL_law_940 ?_
          have hF0 : F a = 0 := by
            rcases hzF a (by omega) with ⟨-, j, hj, hja⟩ | ⟨h0, -⟩
            · exact absurd (ey_uniq hO (by omega) (by omega) hja hq) (by omega)
            · exact h0
          refine hv_eqi (y := nI 0) hF0 ?_
          refine hN_if_eq (tgt := 946) hx hb (by omega) dL_law_941 (by decide) (fun c941 => ?_) (fun c941 => by exact absurd c941 (by omega))
          refine lv_iload hx hb dL_law_946 (lv_at hl 0 rfl) ?_
          refine hN_if_ge (tgt := 954) hx hb (by omega) dL_law_948 (by decide) ?_
          refine lv_aload hx hb dL_law_954 (lv_at hl 2 rfl) ?_
          refine lv_iload hx hb dL_law_956 (lv_at hl 0 rfl) ?_
          refine lv_iconst (v := nI 1) hx hb dL_law_958 (by decide) ?_
          refine hv_zast hx hb hKs hV hS hz9 (by omega) (by decide) dL_law_959 (fun ct H locs hz9 hne hV hS => ?_)
          have h00 := (hne (0) (by omega)).trans h00
          have hG := hG.keep (ct' := ct) (ad' := ad) (fun z h1 h2 => hne z (by omega)) (fun _ _ _ => rfl)
          refine lv_iinc (v := nI (inE σ (k + 1))) (lv' := [(15, .int (nI (inE σ (k + 1)))), (18, .int (nI (a))), (17, .int (nI (k))), (16, .ref (ad (1216))), (8, .int (nI (gNB σ0))), (7, .int (nI (gNS σ0))), (6, .int (gMi σ0)), (5, .int (nI (cn))), (4, .int (xv)), (0, .ref (b)), (1, .ref (ad (0))), (2, .int (nI (nc))), (3, .int (nI (i)))]) hx hb dL_law_960 hl (k := 3) rfl (by rw [inE_1 hq]; exact nI_add _ _) (by decide) rfl (fun ls hl => ?_)
          refine lv_iinc (v := nI (k + 1)) (lv' := [(17, .int (nI (k + 1))), (15, .int (nI (inE σ (k + 1)))), (18, .int (nI (a))), (16, .ref (ad (1216))), (8, .int (nI (gNB σ0))), (7, .int (nI (gNS σ0))), (6, .int (gMi σ0)), (5, .int (nI (cn))), (4, .int (xv)), (0, .ref (b)), (1, .ref (ad (0))), (2, .int (nI (nc))), (3, .int (nI (i)))]) hx hb dL_law_963 hl (k := 2) rfl (nI_add (k) 1) (by decide) rfl (fun ls hl => ?_)
          refine lv_goto (tgt := 898) hx hb dL_law_966 (by decide) ?_
          refine W.widen (k := cells + 1 + 2 * (k + 1)) (n := slots + 24 + 12 * (k + 1)) (by omega) (by omega) ?_
          exact ih898 (k + 1) (va_up F a 1) (by omega) (by omega) ct _ _ (hG) (hz9) (fun x hx9 => by
            by_cases e : x = a
            · subst e
              exact Or.inl ⟨va_up_self _ _ _, k, by omega, hq⟩
            · rw [va_up_ne _ _ e]
              exact (hzF x hx9).imp (fun h => ⟨h.1, h.2.elim fun j q => ⟨j, by omega, q.2⟩⟩) (fun h => ⟨h.1, fun j hj => by
                by_cases e2 : j = k
                · subst e2; rw [hq]; intro q; exact e (Option.some.inj q).symm
                · exact h.2 j (by omega)⟩)) hV hS ls (lv_sub hl [0, 3, 1, 4, 5, 6, 7, 8, 9, 10, 11, 12] rfl)
  refine W.widen (k := cells + 1 + 2 * (0)) (n := slots + 24 + 12 * (0)) (by omega) (by omega) ?_
  exact L898 (gNS σ + 1) (0) (fun _ => 0) (by omega) (by omega) ct _ _ (hG) (hz9) (fun a _ => Or.inr ⟨rfl, fun j hj => absurd hj (Nat.not_lt_zero j)⟩) hV hS ls (lv_sub hl [0, 1, 2, 3, 4, 5, 6, 7, 8, 9, 10, 11] rfl)

set_option maxHeartbeats 4000000 in
set_option maxRecDepth 100000 in
theorem S_H {p : Program} {l : Launch} {e : Env} {s : State} {m : MethodId} {below : List Frame} {meth : Method} {c : Code} {b L N0 : Nat} {xs : Nat → Int32} {Q : State → Prop} {D : hG} (CT : LC p l s m c b L N0 xs D) {ad : Nat → Nat} {ct : hC} {H : Heap} {locs : List Loc} {cells slots : Nat} (hV : hv D N0 ad ct H) (hS : va_S (hA N0) s.heap H locs) {ls : Array Slot} {σ0 σ : gS} {nc i g : Nat} {xv : Int32} {cn rr : Nat} (hi : i < 30) (hcn1 : cn < nc) (hrr : rr = i % 5) (hg4 : g ≤ 4) (hA9 : lA D σ nc ad ct) (hrel : rel g σ0 σ) (hl : lv_has ls 22 [(11, .long (dgt σ)), (15, .int (nI (inE σ (gNS σ)))), (8, .int (nI (gNB σ0))), (7, .int (nI (gNS σ0))), (6, .int (gMi σ0)), (5, .int (nI (cn))), (4, .int (xv)), (0, .ref (b)), (1, .ref (ad (0))), (2, .int (nI (nc))), (3, .int (nI (i)))]) (hr1 : cells + 37 ≤ 600086) (hr2 : slots + 222 ≤ 7301442)
    (K : ∀  (ad1 : Nat → Nat) (ct1 : hC) (H1 : Heap) (locs1 : List Loc) (ls1 : Array Slot), lA D σ nc ad1 ct1 → hv D N0 ad1 ct1 H1 → va_S (hA N0) s.heap H1 locs1 → lv_has ls1 22 [(8, .int (nI (gNB σ0))), (7, .int (nI (gNS σ0))), (6, .int (gMi σ0)), (5, .int (nI (cn))), (4, .int (xv)), (0, .ref (b)), (1, .ref (ad1 (0))), (2, .int (nI (nc))), (3, .int (nI (i)))] → W p l e room_1 s m #[Value.ref b] below meth c H1 locs1 (cells + 37) (slots + 222) Q (F0 m 1136 ls1 [])) : W p l e room_1 s m #[Value.ref b] below meth c H locs cells slots Q (F0 m 987 ls []) := by
  obtain ⟨hfl, hts, hts0, hx, hb, hml, hown, hX, hbs, hbA, hbl, hL, hKs⟩ := CT
  obtain ⟨hO, h2, hnc0, hc, hG⟩ := hA9
  have h00 := hG.1
  obtain ⟨hn8, hn60, hn6, -⟩ := id hO
  obtain ⟨hrC, hrB, hrS, hrP, hrH, hrM⟩ := id hrel
  refine lv_iconst (v := nI 0) hx hb dL_law_987 (by decide) ?_
  refine lv_istore (lv' := [(17, .int (nI (0))), (11, .long (dgt σ)), (15, .int (nI (inE σ (gNS σ)))), (8, .int (nI (gNB σ0))), (7, .int (nI (gNS σ0))), (6, .int (gMi σ0)), (5, .int (nI (cn))), (4, .int (xv)), (0, .ref (b)), (1, .ref (ad (0))), (2, .int (nI (nc))), (3, .int (nI (i)))]) hx hb dL_law_988 hl (by decide) rfl (fun ls hl => ?_)
  refine lv_iconst (v := nI 0) hx hb dL_law_990 (by decide) ?_
  refine lv_istore (lv' := [(18, .int (nI (0))), (17, .int (nI (0))), (11, .long (dgt σ)), (15, .int (nI (inE σ (gNS σ)))), (8, .int (nI (gNB σ0))), (7, .int (nI (gNS σ0))), (6, .int (gMi σ0)), (5, .int (nI (cn))), (4, .int (xv)), (0, .ref (b)), (1, .ref (ad (0))), (2, .int (nI (nc))), (3, .int (nI (i)))]) hx hb dL_law_991 hl (by decide) rfl (fun ls hl => ?_)
  have L993 : ∀ (n bd : Nat), bd ≤ gNB σ → gNB σ < bd + n → ∀ (H : Heap) (locs : List Loc), hv D N0 ad ct H → va_S (hA N0) s.heap H locs → ∀ ls : Array Slot, lv_has ls 22 [(18, .int (nI (bd))), (17, .int (nI (nsm (bl σ) bd))), (11, .long (dgt σ)), (15, .int (nI (inE σ (gNS σ)))), (8, .int (nI (gNB σ0))), (7, .int (nI (gNS σ0))), (6, .int (gMi σ0)), (5, .int (nI (cn))), (4, .int (xv)), (0, .ref (b)), (1, .ref (ad (0))), (2, .int (nI (nc))), (3, .int (nI (i)))] → W p l e room_1 s m #[Value.ref b] below meth c H locs (cells + 6 * bd) (slots + 36 * bd) Q (F0 m 993 ls []) := by
    intro n
    induction n with
    | zero => intro bd h1 h2; exact absurd h2 (by omega)
    | succ n ih993 =>
      intro bd hi993 hn993 H locs hV hS ls hl
      have hbn := bl_n (σ := σ) (n := bd)
      refine lv_iload hx hb dL_law_993 (lv_at hl 0 rfl) ?_
      refine lv_iload hx hb dL_law_995 (lv_at hl 4 rfl) ?_
      refine hN_icmp_ge (tgt := 1113) hx hb (by omega) (by omega) dL_law_997 (by decide) (fun c997 => ?_) (fun c997 => ?_)
      · have hbg := bl_n (σ := σ) (n := gNB σ)
        have hbdn : bd = gNB σ := by omega
        refine lv_iload hx hb dL_law_1113 (lv_at hl 1 rfl) ?_
        refine lv_aload_n hx hb dL_law_1115 rfl (lv_at hl 10 rfl) ?_
        refine lv_bipush (v := nI 6) hx hb dL_law_1116 (by decide) ?_
        refine hv_call0 (by decide) (vx_runV (As := [.int (nI (6))]) (rest := [.int (nI (nsm (bl σ) bd))]) ⟨hx, hb, hml, hown, hts⟩ (c_X3_count l hfl D N0 ad ct hG hO (nI (6))) (cwV 1 hts gL_law_X3_count rfl rfl rfl (by decide +kernel) ⟨Nat.le_of_ble_eq_true rfl, Nat.le_of_ble_eq_true rfl⟩) (hv_preV (r := (RX3, TX3, 8)) hKs hV hS h00 rfl) rfl rfl hl.1 rfl (lv_room (Nat.le_of_ble_eq_true rfl)) dL_law_1118 ⟨(show cells + 6 * bd + 1 ≤ 600086 by omega), (show slots + 36 * bd + 6 ≤ 7301442 by omega)⟩) hS (fun r9 u9 H locs hq hV hS => ?_)
        obtain ⟨-, hq, hu9⟩ := hq
        subst hu9
        have hV : hv D N0 ad ct H := hV
        have hq : r9 = nI (nsm (bl σ) (gNB σ)) := hq
        subst hq
        refine hN_icmp_ne (tgt := 1134) hx hb (by omega) (by omega) dL_law_1121 (by decide) (fun c1121 => by exact absurd (show nsm (bl σ) bd = nsm (bl σ) (gNB σ) by rw [hbdn]) c1121) (fun c1121 => ?_)
        refine lv_aload_n hx hb dL_law_1124 rfl (lv_at hl 10 rfl) ?_
        refine hv_calll (va_runV (As := []) (rest := []) ⟨hx, hb, hml, hown, hts⟩ (c_X3_digest l D N0 ad ct hG hO) (cwV 0 hts gL_law_X3_digest rfl rfl rfl (by decide +kernel) ⟨Nat.le_of_ble_eq_true rfl, Nat.le_of_ble_eq_true rfl⟩) (hv_preV (r := (RX3, TX3, 8)) hKs hV hS h00 rfl) rfl rfl hl.1 rfl (lv_room (Nat.le_of_ble_eq_true rfl)) dL_law_1125 ⟨(show cells + 6 * bd + 1 + 0 ≤ 600086 by omega), (show slots + 36 * bd + 6 + 0 ≤ 7301442 by omega)⟩) hS (fun r9 u9 H locs hq hV hS => ?_)
        obtain ⟨rfl, rfl⟩ := hq
        have hV : hv D N0 ad ct H := hV
        refine lv_lload hx hb dL_law_1128 (lv_at hl 2 rfl) ?_
        refine W.lcmp hx hb dL_law_1130 ?_
        refine hv_eqi (y := nI 0) (jl_self _) ?_
        refine hN_if_eq (tgt := 1136) hx hb (by omega) dL_law_1131 (by decide) (fun c1131 => ?_) (fun c1131 => by exact absurd c1131 (by omega))
        refine W.widen (k := cells + 37) (n := slots + 222) (by omega) (by omega) ?_
        exact K  ad ct _ _ _ (⟨hO, h2, hnc0, hc, hG⟩) hV hS (lv_sub hl [4, 5, 6, 7, 8, 9, 10, 11, 12] rfl)
      · refine lv_aload_n hx hb dL_law_1000 rfl (lv_at hl 10 rfl) ?_
        refine lv_iload hx hb dL_law_1001 (lv_at hl 0 rfl) ?_
        refine hv_call0 (kz_mends hO (by omega : bd < gNB σ)) (vx_runV (As := [.int (nI (bd))]) (rest := []) ⟨hx, hb, hml, hown, hts⟩ (c_X3_mends l hfl D N0 ad ct hG hO (nI (bd))) (cwV 1 hts gL_law_X3_mends rfl rfl rfl (by decide +kernel) ⟨Nat.le_of_ble_eq_true rfl, Nat.le_of_ble_eq_true rfl⟩) (hv_preV (r := (RX3, TX3, 8)) hKs hV hS h00 rfl) rfl rfl hl.1 rfl (lv_room (Nat.le_of_ble_eq_true rfl)) dL_law_1003 ⟨(show cells + 6 * bd + 1 ≤ 600086 by omega), (show slots + 36 * bd + 6 ≤ 7301442 by omega)⟩) hS (fun r9 u9 H locs hq hV hS => ?_)
        obtain ⟨-, hq, hu9⟩ := hq
        subst hu9
        have hV : hv D N0 ad ct H := hV
        simp only [toNat_nI (by omega : (bd) < 2 ^ 31)] at hq
        subst hq
        refine lv_istore (lv' := [(19, .int (r_mends σ (bd))), (18, .int (nI (bd))), (17, .int (nI (nsm (bl σ) bd))), (11, .long (dgt σ)), (15, .int (nI (inE σ (gNS σ)))), (8, .int (nI (gNB σ0))), (7, .int (nI (gNS σ0))), (6, .int (gMi σ0)), (5, .int (nI (cn))), (4, .int (xv)), (0, .ref (b)), (1, .ref (ad (0))), (2, .int (nI (nc))), (3, .int (nI (i)))]) hx hb dL_law_1006 hl (by decide) rfl (fun ls hl => ?_)
        refine lv_iconst (v := nI 0) hx hb dL_law_1008 (by decide) ?_
        refine lv_istore (lv' := [(20, .int (nI (0))), (19, .int (r_mends σ (bd))), (18, .int (nI (bd))), (17, .int (nI (nsm (bl σ) bd))), (11, .long (dgt σ)), (15, .int (nI (inE σ (gNS σ)))), (8, .int (nI (gNB σ0))), (7, .int (nI (gNS σ0))), (6, .int (gMi σ0)), (5, .int (nI (cn))), (4, .int (xv)), (0, .ref (b)), (1, .ref (ad (0))), (2, .int (nI (nc))), (3, .int (nI (i)))]) hx hb dL_law_1009 hl (by decide) rfl (fun ls hl => ?_)
        refine lv_iconst (v := nI 0) hx hb dL_law_1011 (by decide) ?_
        refine lv_istore (lv' := [(21, .int (nI (0))), (20, .int (nI (0))), (19, .int (r_mends σ (bd))), (18, .int (nI (bd))), (17, .int (nI (nsm (bl σ) bd))), (11, .long (dgt σ)), (15, .int (nI (inE σ (gNS σ)))), (8, .int (nI (gNB σ0))), (7, .int (nI (gNS σ0))), (6, .int (gMi σ0)), (5, .int (nI (cn))), (4, .int (xv)), (0, .ref (b)), (1, .ref (ad (0))), (2, .int (nI (nc))), (3, .int (nI (i)))]) hx hb dL_law_1012 hl (by decide) rfl (fun ls hl => ?_)
        have L1014 : ∀ (n ee : Nat), ee ≤ 4 → 4 < ee + n → ∀ (H : Heap) (locs : List Loc), hv D N0 ad ct H → va_S (hA N0) s.heap H locs → ∀ ls : Array Slot, lv_has ls 22 [(21, .int (nI (ee))), (20, .int (nI (emp σ bd ee))), (19, .int (r_mends σ (bd))), (18, .int (nI (bd))), (17, .int (nI (nsm (bl σ) bd))), (11, .long (dgt σ)), (15, .int (nI (inE σ (gNS σ)))), (8, .int (nI (gNB σ0))), (7, .int (nI (gNS σ0))), (6, .int (gMi σ0)), (5, .int (nI (cn))), (4, .int (xv)), (0, .ref (b)), (1, .ref (ad (0))), (2, .int (nI (nc))), (3, .int (nI (i)))] → W p l e room_1 s m #[Value.ref b] below meth c H locs (cells + 6 * bd + 1 + 1 * ee) (slots + 36 * bd + 6 + 6 * ee) Q (F0 m 1014 ls []) := by
          intro n
          induction n with
          | zero => intro ee h1 h2; exact absurd h2 (by omega)
          | succ n ih1014 =>
            intro ee hi1014 hn1014 H locs hV hS ls hl
            have hen := emp_n (σ := σ) (b := bd) (n := ee)
            refine lv_iload hx hb dL_law_1014 (lv_at hl 0 rfl) ?_
            refine lv_iconst (v := nI 4) hx hb dL_law_1016 (by decide) ?_
            refine hN_icmp_ge (tgt := 1049) hx hb (by omega) (by omega) dL_law_1017 (by decide) (fun c1017 => ?_) (fun c1017 => ?_)
            · have hee : ee = 4 := by omega
              subst hee
              have hil := inE_le (σ := σ) (n := gNS σ)
              obtain ⟨mm, hmm⟩ : ∃ z, z = mnd σ bd 4 := ⟨_, rfl⟩
              have hmb := mnd_b hO (b := bd) 4
              have hbm := bl_mnd hO (b := bd)
              rw [← hmm] at hmb hbm
              rcases hmb with h5 | ⟨hm4, hme, hmi⟩
              · have hrm : r_mends σ bd = -1 := by unfold r_mends; rw [← hmm, if_pos h5]
                rw [hrm] at hl
                refine lv_iload hx hb dL_law_1049 (lv_at hl 2 rfl) ?_
                refine lv_iconst (v := nI 4) hx hb dL_law_1051 (by decide) ?_
                refine hR_icmp_gt (tgt := 1090) hx hb (by omega) dL_law_1052 (by decide) (fun c1052 => by exact absurd c1052 (by decide)) (fun c1052 => ?_)
                refine lv_iload hx hb dL_law_1055 (lv_at hl 2 rfl) ?_
                refine hI_if_lt (tgt := 1067) hx hb dL_law_1057 (by decide) (fun c1057 => ?_) (fun c1057 => by exact absurd c1057 (by decide))
                refine lv_iload hx hb dL_law_1067 (lv_at hl 2 rfl) ?_
                refine lv_aload_n hx hb dL_law_1069 rfl (lv_at hl 13 rfl) ?_
                refine lv_iconst (v := nI 3) hx hb dL_law_1070 (by decide) ?_
                refine hv_call0 (by decide) (vx_runV (As := [.int (nI (3))]) (rest := [.int ((-1))]) ⟨hx, hb, hml, hown, hts⟩ (c_X3_count l hfl D N0 ad ct hG hO (nI (3))) (cwV 1 hts gL_law_X3_count rfl rfl rfl (by decide +kernel) ⟨Nat.le_of_ble_eq_true rfl, Nat.le_of_ble_eq_true rfl⟩) (hv_preV (r := (RX3, TX3, 8)) hKs hV hS h00 rfl) rfl rfl hl.1 rfl (lv_room (Nat.le_of_ble_eq_true rfl)) dL_law_1071 ⟨(show cells + 6 * bd + 1 + 1 * 4 + 1 ≤ 600086 by omega), (show slots + 36 * bd + 6 + 6 * 4 + 6 ≤ 7301442 by omega)⟩) hS (fun r9 u9 H locs hq hV hS => ?_)
                obtain ⟨-, hq, hu9⟩ := hq
                subst hu9
                have hV : hv D N0 ad ct H := hV
                have hq : r9 = nI (gNS σ) := hq
                subst hq
                refine lv_iload hx hb dL_law_1074 (lv_at hl 6 rfl) ?_
                refine hN_isub hx hb (by omega) dL_law_1076 ?_
                refine hR_icmp_gt (tgt := 1090) hx hb (by omega) dL_law_1077 (by decide) (fun c1077 => by rw [h_m1] at c1077; omega) (fun c1077 => ?_)
                refine lv_iload hx hb dL_law_1080 (lv_at hl 1 rfl) ?_
                refine hN_if_le (tgt := 1092) hx hb (by omega) dL_law_1082 (by decide) (fun c1082 => ?_) (fun c1082 => ?_)
                · refine lv_iload hx hb dL_law_1092 (lv_at hl 4 rfl) ?_
                  refine lv_iload hx hb dL_law_1094 (lv_at hl 2 rfl) ?_
                  refine hI_if_ne (tgt := 1103) hx hb dL_law_1096 (by decide) (fun c1096 => ?_) (fun c1096 => by exact absurd c1096 (by decide))
                  refine lv_iconst (v := nI 0) hx hb dL_law_1103 (by decide) ?_
                  refine hN_iadd hx hb dL_law_1104 ?_
                  refine hv_eqi (y := nI (nsm (bl σ) (bd + 1))) (by rw [nsm, hbm, if_neg (by omega)]) ?_
                  refine lv_istore (lv' := [(17, .int (nI (nsm (bl σ) (bd + 1)))), (21, .int (nI (4))), (20, .int (nI (emp σ bd 4))), (19, .int ((-1))), (18, .int (nI (bd))), (11, .long (dgt σ)), (15, .int (nI (inE σ (gNS σ)))), (8, .int (nI (gNB σ0))), (7, .int (nI (gNS σ0))), (6, .int (gMi σ0)), (5, .int (nI (cn))), (4, .int (xv)), (0, .ref (b)), (1, .ref (ad (0))), (2, .int (nI (nc))), (3, .int (nI (i)))]) hx hb dL_law_1105 hl (by decide) rfl (fun ls hl => ?_)
                  refine lv_iinc (v := nI (bd + 1)) (lv' := [(18, .int (nI (bd + 1))), (17, .int (nI (nsm (bl σ) (bd + 1)))), (21, .int (nI (4))), (20, .int (nI (emp σ bd 4))), (19, .int ((-1))), (11, .long (dgt σ)), (15, .int (nI (inE σ (gNS σ)))), (8, .int (nI (gNB σ0))), (7, .int (nI (gNS σ0))), (6, .int (gMi σ0)), (5, .int (nI (cn))), (4, .int (xv)), (0, .ref (b)), (1, .ref (ad (0))), (2, .int (nI (nc))), (3, .int (nI (i)))]) hx hb dL_law_1107 hl (k := 4) rfl (nI_add (bd) 1) (by decide) rfl (fun ls hl => ?_)
                  refine lv_goto (tgt := 993) hx hb dL_law_1110 (by decide) ?_
                  refine W.widen (k := cells + 6 * (bd + 1)) (n := slots + 36 * (bd + 1)) (by omega) (by omega) ?_
                  exact ih993 (bd + 1)  (by omega) (by omega) _ _  hV hS ls (lv_sub hl [0, 1, 5, 6, 7, 8, 9, 10, 11, 12, 13, 14, 15] rfl)
                · refine lv_iload hx hb dL_law_1085 (lv_at hl 2 rfl) ?_
                  refine hI_if_ne (tgt := 1092) hx hb dL_law_1087 (by decide) (fun c1087 => ?_) (fun c1087 => by exact absurd c1087 (by decide))
                  refine lv_iload hx hb dL_law_1092 (lv_at hl 4 rfl) ?_
                  refine lv_iload hx hb dL_law_1094 (lv_at hl 2 rfl) ?_
                  refine hI_if_ne (tgt := 1103) hx hb dL_law_1096 (by decide) (fun c1096 => ?_) (fun c1096 => by exact absurd c1096 (by decide))
                  refine lv_iconst (v := nI 0) hx hb dL_law_1103 (by decide) ?_
                  refine hN_iadd hx hb dL_law_1104 ?_
                  refine hv_eqi (y := nI (nsm (bl σ) (bd + 1))) (by rw [nsm, hbm, if_neg (by omega)]) ?_
                  refine lv_istore (lv' := [(17, .int (nI (nsm (bl σ) (bd + 1)))), (21, .int (nI (4))), (20, .int (nI (emp σ bd 4))), (19, .int ((-1))), (18, .int (nI (bd))), (11, .long (dgt σ)), (15, .int (nI (inE σ (gNS σ)))), (8, .int (nI (gNB σ0))), (7, .int (nI (gNS σ0))), (6, .int (gMi σ0)), (5, .int (nI (cn))), (4, .int (xv)), (0, .ref (b)), (1, .ref (ad (0))), (2, .int (nI (nc))), (3, .int (nI (i)))]) hx hb dL_law_1105 hl (by decide) rfl (fun ls hl => ?_)
                  refine lv_iinc (v := nI (bd + 1)) (lv' := [(18, .int (nI (bd + 1))), (17, .int (nI (nsm (bl σ) (bd + 1)))), (21, .int (nI (4))), (20, .int (nI (emp σ bd 4))), (19, .int ((-1))), (11, .long (dgt σ)), (15, .int (nI (inE σ (gNS σ)))), (8, .int (nI (gNB σ0))), (7, .int (nI (gNS σ0))), (6, .int (gMi σ0)), (5, .int (nI (cn))), (4, .int (xv)), (0, .ref (b)), (1, .ref (ad (0))), (2, .int (nI (nc))), (3, .int (nI (i)))]) hx hb dL_law_1107 hl (k := 4) rfl (nI_add (bd) 1) (by decide) rfl (fun ls hl => ?_)
                  refine lv_goto (tgt := 993) hx hb dL_law_1110 (by decide) ?_
                  refine W.widen (k := cells + 6 * (bd + 1)) (n := slots + 36 * (bd + 1)) (by omega) (by omega) ?_
                  exact ih993 (bd + 1)  (by omega) (by omega) _ _  hV hS ls (lv_sub hl [0, 1, 5, 6, 7, 8, 9, 10, 11, 12, 13, 14, 15] rfl)
              · have hrm : r_mends σ bd = nI mm := by unfold r_mends; rw [← hmm, if_neg (by omega)]
                rw [hrm] at hl
                refine lv_iload hx hb dL_law_1049 (lv_at hl 2 rfl) ?_
                refine lv_iconst (v := nI 4) hx hb dL_law_1051 (by decide) ?_
                refine hN_icmp_gt (tgt := 1090) hx hb (by omega) (by omega) dL_law_1052 (by decide) (fun c1052 => by exact absurd c1052 (by omega)) (fun c1052 => ?_)
                refine lv_iload hx hb dL_law_1055 (lv_at hl 2 rfl) ?_
                refine hN_if_lt (tgt := 1067) hx hb (by omega) dL_law_1057 (by decide) ?_
                refine lv_iload hx hb dL_law_1060 (lv_at hl 2 rfl) ?_
                refine lv_iload hx hb dL_law_1062 (lv_at hl 1 rfl) ?_
                refine hN_icmp_lt (tgt := 1090) hx hb (by omega) (by omega) dL_law_1064 (by decide) (fun c1064 => by exact absurd c1064 (by omega)) (fun c1064 => ?_)
                refine lv_iload hx hb dL_law_1067 (lv_at hl 2 rfl) ?_
                refine lv_aload_n hx hb dL_law_1069 rfl (lv_at hl 13 rfl) ?_
                refine lv_iconst (v := nI 3) hx hb dL_law_1070 (by decide) ?_
                refine hv_call0 (by decide) (vx_runV (As := [.int (nI (3))]) (rest := [.int (nI (mm))]) ⟨hx, hb, hml, hown, hts⟩ (c_X3_count l hfl D N0 ad ct hG hO (nI (3))) (cwV 1 hts gL_law_X3_count rfl rfl rfl (by decide +kernel) ⟨Nat.le_of_ble_eq_true rfl, Nat.le_of_ble_eq_true rfl⟩) (hv_preV (r := (RX3, TX3, 8)) hKs hV hS h00 rfl) rfl rfl hl.1 rfl (lv_room (Nat.le_of_ble_eq_true rfl)) dL_law_1071 ⟨(show cells + 6 * bd + 1 + 1 * 4 + 1 ≤ 600086 by omega), (show slots + 36 * bd + 6 + 6 * 4 + 6 ≤ 7301442 by omega)⟩) hS (fun r9 u9 H locs hq hV hS => ?_)
                obtain ⟨-, hq, hu9⟩ := hq
                subst hu9
                have hV : hv D N0 ad ct H := hV
                have hq : r9 = nI (gNS σ) := hq
                subst hq
                refine lv_iload hx hb dL_law_1074 (lv_at hl 6 rfl) ?_
                refine hN_isub hx hb (by omega) dL_law_1076 ?_
                refine hN_icmp_gt (tgt := 1090) hx hb (by omega) (by omega) dL_law_1077 (by decide) (fun c1077 => by exact absurd c1077 (by omega)) (fun c1077 => ?_)
                refine lv_iload hx hb dL_law_1080 (lv_at hl 1 rfl) ?_
                refine hN_if_le (tgt := 1092) hx hb (by omega) dL_law_1082 (by decide) (fun c1082 => ?_) (fun c1082 => ?_)
                · refine lv_iload hx hb dL_law_1092 (lv_at hl 4 rfl) ?_
                  refine lv_iload hx hb dL_law_1094 (lv_at hl 2 rfl) ?_
                  refine hN_if_ne (tgt := 1103) hx hb (by omega) dL_law_1096 (by decide) (fun c1096 => ?_) (fun c1096 => ?_)
                  · refine lv_iconst (v := nI 0) hx hb dL_law_1103 (by decide) ?_
                    refine hN_iadd hx hb dL_law_1104 ?_
                    refine hv_eqi (y := nI (nsm (bl σ) (bd + 1))) (by rw [nsm, hbm, if_neg (by omega)]) ?_
                    refine lv_istore (lv' := [(17, .int (nI (nsm (bl σ) (bd + 1)))), (21, .int (nI (4))), (20, .int (nI (emp σ bd 4))), (19, .int (nI (mm))), (18, .int (nI (bd))), (11, .long (dgt σ)), (15, .int (nI (inE σ (gNS σ)))), (8, .int (nI (gNB σ0))), (7, .int (nI (gNS σ0))), (6, .int (gMi σ0)), (5, .int (nI (cn))), (4, .int (xv)), (0, .ref (b)), (1, .ref (ad (0))), (2, .int (nI (nc))), (3, .int (nI (i)))]) hx hb dL_law_1105 hl (by decide) rfl (fun ls hl => ?_)
                    refine lv_iinc (v := nI (bd + 1)) (lv' := [(18, .int (nI (bd + 1))), (17, .int (nI (nsm (bl σ) (bd + 1)))), (21, .int (nI (4))), (20, .int (nI (emp σ bd 4))), (19, .int (nI (mm))), (11, .long (dgt σ)), (15, .int (nI (inE σ (gNS σ)))), (8, .int (nI (gNB σ0))), (7, .int (nI (gNS σ0))), (6, .int (gMi σ0)), (5, .int (nI (cn))), (4, .int (xv)), (0, .ref (b)), (1, .ref (ad (0))), (2, .int (nI (nc))), (3, .int (nI (i)))]) hx hb dL_law_1107 hl (k := 4) rfl (nI_add (bd) 1) (by decide) rfl (fun ls hl => ?_)
                    refine lv_goto (tgt := 993) hx hb dL_law_1110 (by decide) ?_
                    refine W.widen (k := cells + 6 * (bd + 1)) (n := slots + 36 * (bd + 1)) (by omega) (by omega) ?_
                    exact ih993 (bd + 1)  (by omega) (by omega) _ _  hV hS ls (lv_sub hl [0, 1, 5, 6, 7, 8, 9, 10, 11, 12, 13, 14, 15] rfl)
                  · refine lv_iconst (v := nI 1) hx hb dL_law_1099 (by decide) ?_
                    refine lv_goto (tgt := 1104) hx hb dL_law_1100 (by decide) ?_
                    refine hN_iadd hx hb dL_law_1104 ?_
                    refine hv_eqi (y := nI (nsm (bl σ) (bd + 1))) (by rw [nsm, hbm, if_pos (by omega)]) ?_
                    refine lv_istore (lv' := [(17, .int (nI (nsm (bl σ) (bd + 1)))), (21, .int (nI (4))), (20, .int (nI (emp σ bd 4))), (19, .int (nI (mm))), (18, .int (nI (bd))), (11, .long (dgt σ)), (15, .int (nI (inE σ (gNS σ)))), (8, .int (nI (gNB σ0))), (7, .int (nI (gNS σ0))), (6, .int (gMi σ0)), (5, .int (nI (cn))), (4, .int (xv)), (0, .ref (b)), (1, .ref (ad (0))), (2, .int (nI (nc))), (3, .int (nI (i)))]) hx hb dL_law_1105 hl (by decide) rfl (fun ls hl => ?_)
                    refine lv_iinc (v := nI (bd + 1)) (lv' := [(18, .int (nI (bd + 1))), (17, .int (nI (nsm (bl σ) (bd + 1)))), (21, .int (nI (4))), (20, .int (nI (emp σ bd 4))), (19, .int (nI (mm))), (11, .long (dgt σ)), (15, .int (nI (inE σ (gNS σ)))), (8, .int (nI (gNB σ0))), (7, .int (nI (gNS σ0))), (6, .int (gMi σ0)), (5, .int (nI (cn))), (4, .int (xv)), (0, .ref (b)), (1, .ref (ad (0))), (2, .int (nI (nc))), (3, .int (nI (i)))]) hx hb dL_law_1107 hl (k := 4) rfl (nI_add (bd) 1) (by decide) rfl (fun ls hl => ?_)
                    refine lv_goto (tgt := 993) hx hb dL_law_1110 (by decide) ?_
                    refine W.widen (k := cells + 6 * (bd + 1)) (n := slots + 36 * (bd + 1)) (by omega) (by omega) ?_
                    exact ih993 (bd + 1)  (by omega) (by omega) _ _  hV hS ls (lv_sub hl [0, 1, 5, 6, 7, 8, 9, 10, 11, 12, 13, 14, 15] rfl)
                · refine lv_iload hx hb dL_law_1085 (lv_at hl 2 rfl) ?_
                  refine hN_if_ne (tgt := 1092) hx hb (by omega) dL_law_1087 (by decide) (fun c1087 => ?_) (fun c1087 => by exact absurd c1087 (by omega))
                  refine lv_iload hx hb dL_law_1092 (lv_at hl 4 rfl) ?_
                  refine lv_iload hx hb dL_law_1094 (lv_at hl 2 rfl) ?_
                  refine hN_if_ne (tgt := 1103) hx hb (by omega) dL_law_1096 (by decide) (fun c1096 => ?_) (fun c1096 => ?_)
                  · refine lv_iconst (v := nI 0) hx hb dL_law_1103 (by decide) ?_
                    refine hN_iadd hx hb dL_law_1104 ?_
                    refine hv_eqi (y := nI (nsm (bl σ) (bd + 1))) (by rw [nsm, hbm, if_neg (by omega)]) ?_
                    refine lv_istore (lv' := [(17, .int (nI (nsm (bl σ) (bd + 1)))), (21, .int (nI (4))), (20, .int (nI (emp σ bd 4))), (19, .int (nI (mm))), (18, .int (nI (bd))), (11, .long (dgt σ)), (15, .int (nI (inE σ (gNS σ)))), (8, .int (nI (gNB σ0))), (7, .int (nI (gNS σ0))), (6, .int (gMi σ0)), (5, .int (nI (cn))), (4, .int (xv)), (0, .ref (b)), (1, .ref (ad (0))), (2, .int (nI (nc))), (3, .int (nI (i)))]) hx hb dL_law_1105 hl (by decide) rfl (fun ls hl => ?_)
                    refine lv_iinc (v := nI (bd + 1)) (lv' := [(18, .int (nI (bd + 1))), (17, .int (nI (nsm (bl σ) (bd + 1)))), (21, .int (nI (4))), (20, .int (nI (emp σ bd 4))), (19, .int (nI (mm))), (11, .long (dgt σ)), (15, .int (nI (inE σ (gNS σ)))), (8, .int (nI (gNB σ0))), (7, .int (nI (gNS σ0))), (6, .int (gMi σ0)), (5, .int (nI (cn))), (4, .int (xv)), (0, .ref (b)), (1, .ref (ad (0))), (2, .int (nI (nc))), (3, .int (nI (i)))]) hx hb dL_law_1107 hl (k := 4) rfl (nI_add (bd) 1) (by decide) rfl (fun ls hl => ?_)
                    refine lv_goto (tgt := 993) hx hb dL_law_1110 (by decide) ?_
                    refine W.widen (k := cells + 6 * (bd + 1)) (n := slots + 36 * (bd + 1)) (by omega) (by omega) ?_
                    exact ih993 (bd + 1)  (by omega) (by omega) _ _  hV hS ls (lv_sub hl [0, 1, 5, 6, 7, 8, 9, 10, 11, 12, 13, 14, 15] rfl)
                  · refine lv_iconst (v := nI 1) hx hb dL_law_1099 (by decide) ?_
                    refine lv_goto (tgt := 1104) hx hb dL_law_1100 (by decide) ?_
                    refine hN_iadd hx hb dL_law_1104 ?_
                    refine hv_eqi (y := nI (nsm (bl σ) (bd + 1))) (by rw [nsm, hbm, if_pos (by omega)]) ?_
                    refine lv_istore (lv' := [(17, .int (nI (nsm (bl σ) (bd + 1)))), (21, .int (nI (4))), (20, .int (nI (emp σ bd 4))), (19, .int (nI (mm))), (18, .int (nI (bd))), (11, .long (dgt σ)), (15, .int (nI (inE σ (gNS σ)))), (8, .int (nI (gNB σ0))), (7, .int (nI (gNS σ0))), (6, .int (gMi σ0)), (5, .int (nI (cn))), (4, .int (xv)), (0, .ref (b)), (1, .ref (ad (0))), (2, .int (nI (nc))), (3, .int (nI (i)))]) hx hb dL_law_1105 hl (by decide) rfl (fun ls hl => ?_)
                    refine lv_iinc (v := nI (bd + 1)) (lv' := [(18, .int (nI (bd + 1))), (17, .int (nI (nsm (bl σ) (bd + 1)))), (21, .int (nI (4))), (20, .int (nI (emp σ bd 4))), (19, .int (nI (mm))), (11, .long (dgt σ)), (15, .int (nI (inE σ (gNS σ)))), (8, .int (nI (gNB σ0))), (7, .int (nI (gNS σ0))), (6, .int (gMi σ0)), (5, .int (nI (cn))), (4, .int (xv)), (0, .ref (b)), (1, .ref (ad (0))), (2, .int (nI (nc))), (3, .int (nI (i)))]) hx hb dL_law_1107 hl (k := 4) rfl (nI_add (bd) 1) (by decide) rfl (fun ls hl => ?_)
                    refine lv_goto (tgt := 993) hx hb dL_law_1110 (by decide) ?_
                    refine W.widen (k := cells + 6 * (bd + 1)) (n := slots + 36 * (bd + 1)) (by omega) (by omega) ?_
                    exact ih993 (bd + 1)  (by omega) (by omega) _ _  hV hS ls (lv_sub hl [0, 1, 5, 6, 7, 8, 9, 10, 11, 12, 13, 14, 15] rfl)
            · refine lv_iload hx hb dL_law_1020 (lv_at hl 1 rfl) ?_
              refine lv_aload_n hx hb dL_law_1022 rfl (lv_at hl 13 rfl) ?_
              refine lv_iload hx hb dL_law_1023 (lv_at hl 3 rfl) ?_
              refine lv_iload hx hb dL_law_1025 (lv_at hl 0 rfl) ?_
              refine lv_iconst (v := nI 0) hx hb dL_law_1027 (by decide) ?_
              refine lv_iconst (v := nI 0) hx hb dL_law_1028 (by decide) ?_
              refine hv_call0 (kz_seen hO (by omega : bd < gNB σ) (by omega : ee < 4) (by omega : 0 < 3) (by omega : 0 < 8)) (vx_runV (As := [.int (nI (bd)), .int (nI (ee)), .int (nI (0)), .int (nI (0))]) (rest := [.int (nI (emp σ bd ee))]) ⟨hx, hb, hml, hown, hts⟩ (c_X3_seen l hfl D N0 ad ct hG hO (nI (bd)) (nI (ee)) (nI (0)) (nI (0))) (cwV 4 hts gL_law_X3_seen rfl rfl rfl (by decide +kernel) ⟨Nat.le_of_ble_eq_true rfl, Nat.le_of_ble_eq_true rfl⟩) (hv_preV (r := (RX3, TX3, 8)) hKs hV hS h00 rfl) rfl rfl hl.1 rfl (lv_room (Nat.le_of_ble_eq_true rfl)) dL_law_1029 ⟨(show cells + 6 * bd + 1 + 1 * ee + 1 ≤ 600086 by omega), (show slots + 36 * bd + 6 + 6 * ee + 6 ≤ 7301442 by omega)⟩) hS (fun r9 u9 H locs hq hV hS => ?_)
              obtain ⟨-, hq, hu9⟩ := hq
              subst hu9
              have hV : hv D N0 ad ct H := hV
              simp only [toNat_nI (by omega : (bd) < 2 ^ 31), toNat_nI (by omega : (ee) < 2 ^ 31), toNat_nI (by omega : (0) < 2 ^ 31)] at hq
              subst hq
              rcases hq : gEy σ (4 * bd + ee) with _ | ⟨s9, t9⟩
              · refine hv_eqi (y := (-1)) (by unfold r_seen; rw [hq]) ?_
                refine hI_if_ge (tgt := 1039) hx hb dL_law_1032 (by decide) (fun c1032 => by exact absurd c1032 (by decide)) (fun c1032 => ?_)
                refine lv_iconst (v := nI 1) hx hb dL_law_1035 (by decide) ?_
                refine lv_goto (tgt := 1040) hx hb dL_law_1036 (by decide) ?_
                refine hN_iadd hx hb dL_law_1040 ?_
                refine hv_eqi (y := nI (emp σ bd (ee + 1))) (by rw [emp_s0 hq]) ?_
                refine lv_istore (lv' := [(20, .int (nI (emp σ bd (ee + 1)))), (21, .int (nI (ee))), (19, .int (r_mends σ (bd))), (18, .int (nI (bd))), (17, .int (nI (nsm (bl σ) bd))), (11, .long (dgt σ)), (15, .int (nI (inE σ (gNS σ)))), (8, .int (nI (gNB σ0))), (7, .int (nI (gNS σ0))), (6, .int (gMi σ0)), (5, .int (nI (cn))), (4, .int (xv)), (0, .ref (b)), (1, .ref (ad (0))), (2, .int (nI (nc))), (3, .int (nI (i)))]) hx hb dL_law_1041 hl (by decide) rfl (fun ls hl => ?_)
                refine lv_iinc (v := nI (ee + 1)) (lv' := [(21, .int (nI (ee + 1))), (20, .int (nI (emp σ bd (ee + 1)))), (19, .int (r_mends σ (bd))), (18, .int (nI (bd))), (17, .int (nI (nsm (bl σ) bd))), (11, .long (dgt σ)), (15, .int (nI (inE σ (gNS σ)))), (8, .int (nI (gNB σ0))), (7, .int (nI (gNS σ0))), (6, .int (gMi σ0)), (5, .int (nI (cn))), (4, .int (xv)), (0, .ref (b)), (1, .ref (ad (0))), (2, .int (nI (nc))), (3, .int (nI (i)))]) hx hb dL_law_1043 hl (k := 1) rfl (nI_add (ee) 1) (by decide) rfl (fun ls hl => ?_)
                refine lv_goto (tgt := 1014) hx hb dL_law_1046 (by decide) ?_
                refine W.widen (k := cells + 6 * bd + 1 + 1 * (ee + 1)) (n := slots + 36 * bd + 6 + 6 * (ee + 1)) (by omega) (by omega) ?_
                exact ih1014 (ee + 1)  (by omega) (by omega) _ _  hV hS ls (lv_sub hl [0, 1, 2, 3, 4, 5, 6, 7, 8, 9, 10, 11, 12, 13, 14, 15] rfl)
              · have hr8 : rot (nI t9) (sPt σ s9) (8 * 0 + 0) < 8 := rot_8 (hO.2.2.2.2.1 _ (hO.2.2.2.2.2.1 _ _ _ hq).2.1).1 _ (by omega)
                obtain ⟨rw9, hrw9⟩ : ∃ z, z = rot (nI t9) (sPt σ s9) (8 * 0 + 0) := ⟨_, rfl⟩
                rw [← hrw9] at hr8
                refine hv_eqi (y := nI rw9) (by unfold r_seen; rw [hq, hrw9]) ?_
                refine hN_if_ge (tgt := 1039) hx hb (by omega) dL_law_1032 (by decide) ?_
                refine lv_iconst (v := nI 0) hx hb dL_law_1039 (by decide) ?_
                refine hN_iadd hx hb dL_law_1040 ?_
                refine hv_eqi (y := nI (emp σ bd (ee + 1))) (by rw [emp_s1 hq]) ?_
                refine lv_istore (lv' := [(20, .int (nI (emp σ bd (ee + 1)))), (21, .int (nI (ee))), (19, .int (r_mends σ (bd))), (18, .int (nI (bd))), (17, .int (nI (nsm (bl σ) bd))), (11, .long (dgt σ)), (15, .int (nI (inE σ (gNS σ)))), (8, .int (nI (gNB σ0))), (7, .int (nI (gNS σ0))), (6, .int (gMi σ0)), (5, .int (nI (cn))), (4, .int (xv)), (0, .ref (b)), (1, .ref (ad (0))), (2, .int (nI (nc))), (3, .int (nI (i)))]) hx hb dL_law_1041 hl (by decide) rfl (fun ls hl => ?_)
                refine lv_iinc (v := nI (ee + 1)) (lv' := [(21, .int (nI (ee + 1))), (20, .int (nI (emp σ bd (ee + 1)))), (19, .int (r_mends σ (bd))), (18, .int (nI (bd))), (17, .int (nI (nsm (bl σ) bd))), (11, .long (dgt σ)), (15, .int (nI (inE σ (gNS σ)))), (8, .int (nI (gNB σ0))), (7, .int (nI (gNS σ0))), (6, .int (gMi σ0)), (5, .int (nI (cn))), (4, .int (xv)), (0, .ref (b)), (1, .ref (ad (0))), (2, .int (nI (nc))), (3, .int (nI (i)))]) hx hb dL_law_1043 hl (k := 1) rfl (nI_add (ee) 1) (by decide) rfl (fun ls hl => ?_)
                refine lv_goto (tgt := 1014) hx hb dL_law_1046 (by decide) ?_
                refine W.widen (k := cells + 6 * bd + 1 + 1 * (ee + 1)) (n := slots + 36 * bd + 6 + 6 * (ee + 1)) (by omega) (by omega) ?_
                exact ih1014 (ee + 1)  (by omega) (by omega) _ _  hV hS ls (lv_sub hl [0, 1, 2, 3, 4, 5, 6, 7, 8, 9, 10, 11, 12, 13, 14, 15] rfl)
        refine W.widen (k := cells + 6 * bd + 1 + 1 * (0)) (n := slots + 36 * bd + 6 + 6 * (0)) (by omega) (by omega) ?_
        exact L1014 (4 + 1) (0)  (by omega) (by omega) _ _  hV hS ls (lv_sub hl [0, 1, 2, 3, 4, 5, 6, 7, 8, 9, 10, 11, 12, 13, 14, 15] rfl)
  refine W.widen (k := cells + 6 * (0)) (n := slots + 36 * (0)) (by omega) (by omega) ?_
  exact L993 (gNB σ + 1) (0)  (by omega) (by omega) _ _  hV hS ls (lv_sub hl [0, 1, 2, 3, 4, 5, 6, 7, 8, 9, 10, 11, 12] rfl)

set_option maxHeartbeats 4000000 in
set_option maxRecDepth 100000 in
theorem S_I {p : Program} {l : Launch} {e : Env} {s : State} {m : MethodId} {below : List Frame} {meth : Method} {c : Code} {b L N0 : Nat} {xs : Nat → Int32} {Q : State → Prop} {D : hG} (CT : LC p l s m c b L N0 xs D) {ad : Nat → Nat} {ct : hC} {H : Heap} {locs : List Loc} {cells slots : Nat} (hV : hv D N0 ad ct H) (hS : va_S (hA N0) s.heap H locs) {ls : Array Slot} {σ0 σ : gS} {nc i g : Nat} {xv : Int32} {cn rr : Nat} (hi : i < 30) (hcn1 : cn < nc) (hrr : rr = i % 5) (hg4 : g ≤ 4) (hA9 : lA D σ nc ad ct) (hrel : rel g σ0 σ) (hl : lv_has ls 22 [(8, .int (nI (gNB σ0))), (7, .int (nI (gNS σ0))), (6, .int (gMi σ0)), (5, .int (nI (cn))), (4, .int (xv)), (0, .ref (b)), (1, .ref (ad (0))), (2, .int (nI (nc))), (3, .int (nI (i)))]) (hr1 : cells + 9 ≤ 600086) (hr2 : slots + 54 ≤ 7301442)
    (K : ∀  (ad1 : Nat → Nat) (ct1 : hC) (H1 : Heap) (locs1 : List Loc) (ls1 : Array Slot), lA D σ nc ad1 ct1 → hv D N0 ad1 ct1 H1 → va_S (hA N0) s.heap H1 locs1 → lv_has ls1 22 [(0, .ref (b)), (1, .ref (ad1 (0))), (2, .int (nI (nc))), (3, .int (nI (i)))] → W p l e room_1 s m #[Value.ref b] below meth c H1 locs1 (cells + 9) (slots + 54) Q (F0 m 1283 ls1 [])) : W p l e room_1 s m #[Value.ref b] below meth c H locs cells slots Q (F0 m 1136 ls []) := by
  obtain ⟨hfl, hts, hts0, hx, hb, hml, hown, hX, hbs, hbA, hbl, hL, hKs⟩ := CT
  obtain ⟨hO, h2, hnc0, hc, hG⟩ := hA9
  have h00 := hG.1
  obtain ⟨hn8, hn60, hn6, -⟩ := id hO
  obtain ⟨hrC, hrB, hrS, hrP, hrH, hrM⟩ := id hrel
  refine lv_aload_n hx hb dL_law_1136 rfl (lv_at hl 6 rfl) ?_
  refine lv_iconst (v := nI 3) hx hb dL_law_1137 (by decide) ?_
  refine hv_call0 (by decide) (vx_runV (As := [.int (nI (3))]) (rest := []) ⟨hx, hb, hml, hown, hts⟩ (c_X3_count l hfl D N0 ad ct hG hO (nI (3))) (cwV 1 hts gL_law_X3_count rfl rfl rfl (by decide +kernel) ⟨Nat.le_of_ble_eq_true rfl, Nat.le_of_ble_eq_true rfl⟩) (hv_preV (r := (RX3, TX3, 8)) hKs hV hS h00 rfl) rfl rfl hl.1 rfl (lv_room (Nat.le_of_ble_eq_true rfl)) dL_law_1138 ⟨(show cells + 1 ≤ 600086 by omega), (show slots + 6 ≤ 7301442 by omega)⟩) hS (fun r9 u9 H locs hq hV hS => ?_)
  obtain ⟨-, hq, hu9⟩ := hq
  subst hu9
  have hV : hv D N0 ad ct H := hV
  have hq : r9 = nI (gNS σ) := hq
  subst hq
  refine lv_iconst (v := nI 2) hx hb dL_law_1141 (by decide) ?_
  refine hN_icmp_ge (tgt := 1148) hx hb (by omega) (by omega) dL_law_1142 (by decide) (fun c1142 => ?_) (fun c1142 => ?_)
  · refine lv_iload hx hb dL_law_1148 (lv_at hl 4 rfl) ?_
    refine lv_iconst (v := nI 4) hx hb dL_law_1150 (by decide) ?_
    refine lv_ishr hx hb dL_law_1151 ?_
    refine lv_aload_n hx hb dL_law_1152 rfl (lv_at hl 6 rfl) ?_
    refine lv_iconst (v := nI 3) hx hb dL_law_1153 (by decide) ?_
    refine hv_call0 (by decide) (vx_runV (As := [.int (nI (3))]) (rest := [.int ((xv) >>> (nI (4) &&& 31))]) ⟨hx, hb, hml, hown, hts⟩ (c_X3_count l hfl D N0 ad ct hG hO (nI (3))) (cwV 1 hts gL_law_X3_count rfl rfl rfl (by decide +kernel) ⟨Nat.le_of_ble_eq_true rfl, Nat.le_of_ble_eq_true rfl⟩) (hv_preV (r := (RX3, TX3, 8)) hKs hV hS h00 rfl) rfl rfl hl.1 rfl (lv_room (Nat.le_of_ble_eq_true rfl)) dL_law_1154 ⟨(show cells + 1 + 1 ≤ 600086 by omega), (show slots + 6 + 6 ≤ 7301442 by omega)⟩) hS (fun r9 u9 H locs hq hV hS => ?_)
    obtain ⟨-, hq, hu9⟩ := hq
    subst hu9
    have hV : hv D N0 ad ct H := hV
    have hq : r9 = nI (gNS σ) := hq
    subst hq
    refine hv_calli (va_runS (As := [.int ((xv) >>> (nI (4) &&& 31)), .int (nI (gNS σ))]) (rest := []) ⟨hx, hb, hml, hown, hts⟩ (c_L_below l D N0 ad ct (((xv) >>> (nI (4) &&& 31))) (by omega : 0 < gNS σ) (by omega : gNS σ < 2 ^ 31)) (va_cwS 2 hts gL_law_L_below rfl rfl rfl (by decide +kernel) ⟨Nat.le_of_ble_eq_true rfl, Nat.le_of_ble_eq_true rfl⟩) (hv_preS hKs hV hS) rfl rfl hl.1 rfl (lv_room (Nat.le_of_ble_eq_true rfl)) dL_law_1157 ⟨(show cells + 1 + 1 + 0 ≤ 600086 by omega), (show slots + 6 + 6 + 0 ≤ 7301442 by omega)⟩) hS (fun r9 u9 H locs hq hV hS => ?_)
    obtain ⟨rfl, rfl⟩ := hq
    have hV : hv D N0 ad ct H := hV
    have hbl0 := blw_lt (((xv) >>> (nI (4) &&& 31))) (by omega : 0 < gNS σ)
    obtain ⟨sa, hsa⟩ : ∃ z, z = blw (((xv) >>> (nI (4) &&& 31))) (gNS σ) := ⟨_, rfl⟩
    have hsa9 : sa < gNS σ := by omega
    refine hv_eqi (y := nI sa) (by rw [hsa]) ?_
    refine lv_istore (lv' := [(18, .int (nI (sa))), (8, .int (nI (gNB σ0))), (7, .int (nI (gNS σ0))), (6, .int (gMi σ0)), (5, .int (nI (cn))), (4, .int (xv)), (0, .ref (b)), (1, .ref (ad (0))), (2, .int (nI (nc))), (3, .int (nI (i)))]) hx hb dL_law_1160 hl (by decide) rfl (fun ls hl => ?_)
    refine lv_iload hx hb dL_law_1162 (lv_at hl 5 rfl) ?_
    refine lv_bipush (v := nI 6) hx hb dL_law_1164 (by decide) ?_
    refine lv_ishr hx hb dL_law_1166 ?_
    refine lv_aload_n hx hb dL_law_1167 rfl (lv_at hl 7 rfl) ?_
    refine lv_iconst (v := nI 3) hx hb dL_law_1168 (by decide) ?_
    refine hv_call0 (by decide) (vx_runV (As := [.int (nI (3))]) (rest := [.int ((xv) >>> (nI (6) &&& 31))]) ⟨hx, hb, hml, hown, hts⟩ (c_X3_count l hfl D N0 ad ct hG hO (nI (3))) (cwV 1 hts gL_law_X3_count rfl rfl rfl (by decide +kernel) ⟨Nat.le_of_ble_eq_true rfl, Nat.le_of_ble_eq_true rfl⟩) (hv_preV (r := (RX3, TX3, 8)) hKs hV hS h00 rfl) rfl rfl hl.1 rfl (lv_room (Nat.le_of_ble_eq_true rfl)) dL_law_1169 ⟨(show cells + 1 + 1 + 1 ≤ 600086 by omega), (show slots + 6 + 6 + 6 ≤ 7301442 by omega)⟩) hS (fun r9 u9 H locs hq hV hS => ?_)
    obtain ⟨-, hq, hu9⟩ := hq
    subst hu9
    have hV : hv D N0 ad ct H := hV
    have hq : r9 = nI (gNS σ) := hq
    subst hq
    refine hv_calli (va_runS (As := [.int ((xv) >>> (nI (6) &&& 31)), .int (nI (gNS σ))]) (rest := []) ⟨hx, hb, hml, hown, hts⟩ (c_L_below l D N0 ad ct (((xv) >>> (nI (6) &&& 31))) (by omega : 0 < gNS σ) (by omega : gNS σ < 2 ^ 31)) (va_cwS 2 hts gL_law_L_below rfl rfl rfl (by decide +kernel) ⟨Nat.le_of_ble_eq_true rfl, Nat.le_of_ble_eq_true rfl⟩) (hv_preS hKs hV hS) rfl rfl hl.1 rfl (lv_room (Nat.le_of_ble_eq_true rfl)) dL_law_1172 ⟨(show cells + 1 + 1 + 1 + 0 ≤ 600086 by omega), (show slots + 6 + 6 + 6 + 0 ≤ 7301442 by omega)⟩) hS (fun r9 u9 H locs hq hV hS => ?_)
    obtain ⟨rfl, rfl⟩ := hq
    have hV : hv D N0 ad ct H := hV
    have hbl1 := blw_lt (((xv) >>> (nI (6) &&& 31))) (by omega : 0 < gNS σ)
    obtain ⟨so, hso⟩ : ∃ z, z = blw (((xv) >>> (nI (6) &&& 31))) (gNS σ) := ⟨_, rfl⟩
    have hso9 : so < gNS σ := by omega
    refine hv_eqi (y := nI so) (by rw [hso]) ?_
    refine lv_istore (lv' := [(19, .int (nI (so))), (18, .int (nI (sa))), (8, .int (nI (gNB σ0))), (7, .int (nI (gNS σ0))), (6, .int (gMi σ0)), (5, .int (nI (cn))), (4, .int (xv)), (0, .ref (b)), (1, .ref (ad (0))), (2, .int (nI (nc))), (3, .int (nI (i)))]) hx hb dL_law_1175 hl (by decide) rfl (fun ls hl => ?_)
    obtain ⟨ta, hta⟩ : ∃ z, z = lturn (sPt σ sa) (sPt σ so) := ⟨_, rfl⟩
    obtain ⟨tb, htb⟩ : ∃ z, z = lturn (sPt σ so) (sPt σ sa) := ⟨_, rfl⟩
    have hsy : ta < 8 ↔ tb < 8 := by rw [hta, htb]; exact lturn_sym
    have hsz : ta = 0 ↔ tb = 0 := by rw [hta, htb]; exact lturn_0s
    have pa := plc_b (n := 8) (k := ta) (by decide)
    have pna := plc_neg (n := 8) (k := ta) (by decide)
    have pnb := plc_neg (n := 8) (k := tb) (by decide)
    have pza := plc_z (n := 8) (k := ta) (by decide) (by decide)
    have pzb := plc_z (n := 8) (k := tb) (by decide) (by decide)
    refine lv_aload_n hx hb dL_law_1177 rfl (lv_at hl 8 rfl) ?_
    refine lv_iload hx hb dL_law_1178 (lv_at hl 1 rfl) ?_
    refine lv_iload hx hb dL_law_1180 (lv_at hl 0 rfl) ?_
    refine hv_call0 (kz_turn hO (by omega : sa < gNS σ) (by omega : so < gNS σ)) (vx_runV (As := [.int (nI (sa)), .int (nI (so))]) (rest := []) ⟨hx, hb, hml, hown, hts⟩ (c_X3_turn l hfl D N0 ad ct hG hO (nI (sa)) (nI (so))) (cwV 2 hts gL_law_X3_turn rfl rfl rfl (by decide +kernel) ⟨Nat.le_of_ble_eq_true rfl, Nat.le_of_ble_eq_true rfl⟩) (hv_preV (r := (RX3, TX3, 8)) hKs hV hS h00 rfl) rfl rfl hl.1 rfl (lv_room (Nat.le_of_ble_eq_true rfl)) dL_law_1182 ⟨(show cells + 1 + 1 + 1 + 1 ≤ 600086 by omega), (show slots + 6 + 6 + 6 + 6 ≤ 7301442 by omega)⟩) hS (fun r9 u9 H locs hq hV hS => ?_)
    obtain ⟨-, hq, hu9⟩ := hq
    subst hu9
    have hV : hv D N0 ad ct H := hV
    simp only [toNat_nI (by omega : (sa) < 2 ^ 31), toNat_nI (by omega : (so) < 2 ^ 31)] at hq
    subst hq
    refine hv_eqi (y := plc 8 ta) (by rw [hta]) ?_
    refine lv_istore (lv' := [(20, .int (plc 8 ta)), (19, .int (nI (so))), (18, .int (nI (sa))), (8, .int (nI (gNB σ0))), (7, .int (nI (gNS σ0))), (6, .int (gMi σ0)), (5, .int (nI (cn))), (4, .int (xv)), (0, .ref (b)), (1, .ref (ad (0))), (2, .int (nI (nc))), (3, .int (nI (i)))]) hx hb dL_law_1185 hl (by decide) rfl (fun ls hl => ?_)
    refine lv_iload hx hb dL_law_1187 (lv_at hl 0 rfl) ?_
    refine lv_bipush (v := nI 7) hx hb dL_law_1189 (by decide) ?_
    refine hR_icmp_gt (tgt := 1281) hx hb (by omega) dL_law_1191 (by decide) (fun c1191 => by omega) (fun c1191 => ?_)
    refine lv_iload hx hb dL_law_1194 (lv_at hl 0 rfl) ?_
    refine hI_if_ge (tgt := 1203) hx hb dL_law_1196 (by decide) (fun c1196 => ?_) (fun c1196 => ?_)
    · refine lv_iconst (v := nI 0) hx hb dL_law_1203 (by decide) ?_
      refine lv_aload_n hx hb dL_law_1204 rfl (lv_at hl 9 rfl) ?_
      refine lv_iload hx hb dL_law_1205 (lv_at hl 1 rfl) ?_
      refine lv_iload hx hb dL_law_1207 (lv_at hl 2 rfl) ?_
      refine hv_call0 (kz_turn hO (by omega : so < gNS σ) (by omega : sa < gNS σ)) (vx_runV (As := [.int (nI (so)), .int (nI (sa))]) (rest := [.int (nI (0))]) ⟨hx, hb, hml, hown, hts⟩ (c_X3_turn l hfl D N0 ad ct hG hO (nI (so)) (nI (sa))) (cwV 2 hts gL_law_X3_turn rfl rfl rfl (by decide +kernel) ⟨Nat.le_of_ble_eq_true rfl, Nat.le_of_ble_eq_true rfl⟩) (hv_preV (r := (RX3, TX3, 8)) hKs hV hS h00 rfl) rfl rfl hl.1 rfl (lv_room (Nat.le_of_ble_eq_true rfl)) dL_law_1209 ⟨(show cells + 1 + 1 + 1 + 1 + 1 ≤ 600086 by omega), (show slots + 6 + 6 + 6 + 6 + 6 ≤ 7301442 by omega)⟩) hS (fun r9 u9 H locs hq hV hS => ?_)
      obtain ⟨-, hq, hu9⟩ := hq
      subst hu9
      have hV : hv D N0 ad ct H := hV
      simp only [toNat_nI (by omega : (so) < 2 ^ 31), toNat_nI (by omega : (sa) < 2 ^ 31)] at hq
      subst hq
      refine hv_eqi (y := plc 8 tb) (by rw [htb]) ?_
      refine hI_if_ge (tgt := 1219) hx hb dL_law_1212 (by decide) (fun c1212 => ?_) (fun c1212 => ?_)
      · refine lv_iconst (v := nI 0) hx hb dL_law_1219 (by decide) ?_
        refine hN_icmp_ne (tgt := 1281) hx hb (by omega) (by omega) dL_law_1220 (by decide) (fun c1220 => by exact absurd rfl c1220) (fun c1220 => ?_)
        refine lv_iload hx hb dL_law_1223 (lv_at hl 0 rfl) ?_
        refine hI_if_ne (tgt := 1232) hx hb dL_law_1225 (by decide) (fun c1225 => ?_) (fun c1225 => ?_)
        · refine lv_iconst (v := nI 0) hx hb dL_law_1232 (by decide) ?_
          refine lv_aload_n hx hb dL_law_1233 rfl (lv_at hl 9 rfl) ?_
          refine lv_iload hx hb dL_law_1234 (lv_at hl 1 rfl) ?_
          refine lv_iload hx hb dL_law_1236 (lv_at hl 2 rfl) ?_
          refine hv_call0 (kz_turn hO (by omega : so < gNS σ) (by omega : sa < gNS σ)) (vx_runV (As := [.int (nI (so)), .int (nI (sa))]) (rest := [.int (nI (0))]) ⟨hx, hb, hml, hown, hts⟩ (c_X3_turn l hfl D N0 ad ct hG hO (nI (so)) (nI (sa))) (cwV 2 hts gL_law_X3_turn rfl rfl rfl (by decide +kernel) ⟨Nat.le_of_ble_eq_true rfl, Nat.le_of_ble_eq_true rfl⟩) (hv_preV (r := (RX3, TX3, 8)) hKs hV hS h00 rfl) rfl rfl hl.1 rfl (lv_room (Nat.le_of_ble_eq_true rfl)) dL_law_1238 ⟨(show cells + 1 + 1 + 1 + 1 + 1 + 1 ≤ 600086 by omega), (show slots + 6 + 6 + 6 + 6 + 6 + 6 ≤ 7301442 by omega)⟩) hS (fun r9 u9 H locs hq hV hS => ?_)
          obtain ⟨-, hq, hu9⟩ := hq
          subst hu9
          have hV : hv D N0 ad ct H := hV
          simp only [toNat_nI (by omega : (so) < 2 ^ 31), toNat_nI (by omega : (sa) < 2 ^ 31)] at hq
          subst hq
          refine hv_eqi (y := plc 8 tb) (by rw [htb]) ?_
          refine hI_if_ne (tgt := 1248) hx hb dL_law_1241 (by decide) (fun c1241 => ?_) (fun c1241 => ?_)
          · refine lv_iconst (v := nI 0) hx hb dL_law_1248 (by decide) ?_
            refine hN_icmp_ne (tgt := 1281) hx hb (by omega) (by omega) dL_law_1249 (by decide) (fun c1249 => by exact absurd rfl c1249) (fun c1249 => ?_)
            have hrc := rcuts_b hO (x := sa) (by omega : cn < gNC σ)
            have hl60 := (hO.2.2.2.1 cn (by omega)).1
            refine lv_aload_n hx hb dL_law_1252 rfl (lv_at hl 9 rfl) ?_
            refine lv_iload hx hb dL_law_1253 (lv_at hl 6 rfl) ?_
            refine lv_iload hx hb dL_law_1255 (lv_at hl 2 rfl) ?_
            refine hv_call0 (kz_cuts hO (by omega : cn < gNC σ) (by omega : sa < gNS σ)) (vx_runV (As := [.int (nI (cn)), .int (nI (sa))]) (rest := []) ⟨hx, hb, hml, hown, hts⟩ (c_X3_cuts l hfl D N0 ad ct hG hO (nI (cn)) (nI (sa))) (cwV 2 hts gL_law_X3_cuts rfl rfl rfl (by decide +kernel) ⟨Nat.le_of_ble_eq_true rfl, Nat.le_of_ble_eq_true rfl⟩) (hv_preV (r := (RX3, TX3, 8)) hKs hV hS h00 rfl) rfl rfl hl.1 rfl (lv_room (Nat.le_of_ble_eq_true rfl)) dL_law_1257 ⟨(show cells + 1 + 1 + 1 + 1 + 1 + 1 + 1 ≤ 600086 by omega), (show slots + 6 + 6 + 6 + 6 + 6 + 6 + 6 ≤ 7301442 by omega)⟩) hS (fun r9 u9 H locs hq hV hS => ?_)
            obtain ⟨-, hq, hu9⟩ := hq
            subst hu9
            have hV : hv D N0 ad ct H := hV
            simp only [toNat_nI (by omega : (cn) < 2 ^ 31), toNat_nI (by omega : (sa) < 2 ^ 31)] at hq
            subst hq
            refine lv_aload_n hx hb dL_law_1260 rfl (lv_at hl 9 rfl) ?_
            refine lv_iload hx hb dL_law_1261 (lv_at hl 6 rfl) ?_
            refine lv_iconst (v := nI 0) hx hb dL_law_1263 (by decide) ?_
            refine hv_call0 (kz_cane hO (by omega : cn < gNC σ) (by omega : 0 < 5)) (vx_runV (As := [.int (nI (cn)), .int (nI (0))]) (rest := [.int (r_cuts σ (cn) (sa))]) ⟨hx, hb, hml, hown, hts⟩ (c_X3_cane l hfl D N0 ad ct hG hO (nI (cn)) (nI (0))) (cwV 2 hts gL_law_X3_cane rfl rfl rfl (by decide +kernel) ⟨Nat.le_of_ble_eq_true rfl, Nat.le_of_ble_eq_true rfl⟩) (hv_preV (r := (RX3, TX3, 8)) hKs hV hS h00 rfl) rfl rfl hl.1 rfl (lv_room (Nat.le_of_ble_eq_true rfl)) dL_law_1264 ⟨(show cells + 1 + 1 + 1 + 1 + 1 + 1 + 1 + 1 ≤ 600086 by omega), (show slots + 6 + 6 + 6 + 6 + 6 + 6 + 6 + 6 ≤ 7301442 by omega)⟩) hS (fun r9 u9 H locs hq hV hS => ?_)
            obtain ⟨-, hq, hu9⟩ := hq
            subst hu9
            have hV : hv D N0 ad ct H := hV
            simp only [toNat_nI (by omega : (cn) < 2 ^ 31)] at hq
            refine hv_eqi (y := nI (cLen σ (cn))) hq ?_
            refine hR_icmp_gt (tgt := 1281) hx hb (by omega) dL_law_1267 (by decide) (fun c1267 => by omega) (fun c1267 => ?_)
            refine lv_aload_n hx hb dL_law_1270 rfl (lv_at hl 9 rfl) ?_
            refine lv_iload hx hb dL_law_1271 (lv_at hl 6 rfl) ?_
            refine lv_iload hx hb dL_law_1273 (lv_at hl 2 rfl) ?_
            refine hv_call0 (kz_cuts hO (by omega : cn < gNC σ) (by omega : sa < gNS σ)) (vx_runV (As := [.int (nI (cn)), .int (nI (sa))]) (rest := []) ⟨hx, hb, hml, hown, hts⟩ (c_X3_cuts l hfl D N0 ad ct hG hO (nI (cn)) (nI (sa))) (cwV 2 hts gL_law_X3_cuts rfl rfl rfl (by decide +kernel) ⟨Nat.le_of_ble_eq_true rfl, Nat.le_of_ble_eq_true rfl⟩) (hv_preV (r := (RX3, TX3, 8)) hKs hV hS h00 rfl) rfl rfl hl.1 rfl (lv_room (Nat.le_of_ble_eq_true rfl)) dL_law_1275 ⟨(show cells + 1 + 1 + 1 + 1 + 1 + 1 + 1 + 1 + 1 ≤ 600086 by omega), (show slots + 6 + 6 + 6 + 6 + 6 + 6 + 6 + 6 + 6 ≤ 7301442 by omega)⟩) hS (fun r9 u9 H locs hq hV hS => ?_)
            obtain ⟨-, hq, hu9⟩ := hq
            subst hu9
            have hV : hv D N0 ad ct H := hV
            simp only [toNat_nI (by omega : (cn) < 2 ^ 31), toNat_nI (by omega : (sa) < 2 ^ 31)] at hq
            subst hq
            refine hI_if_ne (tgt := 1283) hx hb dL_law_1278 (by decide) (fun c1278 => ?_) (fun c1278 => by exact absurd c1278 hrc.2)
            refine W.widen (k := cells + 9) (n := slots + 54) (by omega) (by omega) ?_
            exact K  ad ct _ _ _ (⟨hO, h2, hnc0, hc, hG⟩) hV hS (lv_sub hl [8, 9, 10, 11] rfl)
          · refine lv_iconst (v := nI 1) hx hb dL_law_1244 (by decide) ?_
            refine lv_goto (tgt := 1249) hx hb dL_law_1245 (by decide) ?_
            exfalso
            omega
        · refine lv_iconst (v := nI 1) hx hb dL_law_1228 (by decide) ?_
          refine lv_goto (tgt := 1233) hx hb dL_law_1229 (by decide) ?_
          refine lv_aload_n hx hb dL_law_1233 rfl (lv_at hl 9 rfl) ?_
          refine lv_iload hx hb dL_law_1234 (lv_at hl 1 rfl) ?_
          refine lv_iload hx hb dL_law_1236 (lv_at hl 2 rfl) ?_
          refine hv_call0 (kz_turn hO (by omega : so < gNS σ) (by omega : sa < gNS σ)) (vx_runV (As := [.int (nI (so)), .int (nI (sa))]) (rest := [.int (nI (1))]) ⟨hx, hb, hml, hown, hts⟩ (c_X3_turn l hfl D N0 ad ct hG hO (nI (so)) (nI (sa))) (cwV 2 hts gL_law_X3_turn rfl rfl rfl (by decide +kernel) ⟨Nat.le_of_ble_eq_true rfl, Nat.le_of_ble_eq_true rfl⟩) (hv_preV (r := (RX3, TX3, 8)) hKs hV hS h00 rfl) rfl rfl hl.1 rfl (lv_room (Nat.le_of_ble_eq_true rfl)) dL_law_1238 ⟨(show cells + 1 + 1 + 1 + 1 + 1 + 1 ≤ 600086 by omega), (show slots + 6 + 6 + 6 + 6 + 6 + 6 ≤ 7301442 by omega)⟩) hS (fun r9 u9 H locs hq hV hS => ?_)
          obtain ⟨-, hq, hu9⟩ := hq
          subst hu9
          have hV : hv D N0 ad ct H := hV
          simp only [toNat_nI (by omega : (so) < 2 ^ 31), toNat_nI (by omega : (sa) < 2 ^ 31)] at hq
          subst hq
          refine hv_eqi (y := plc 8 tb) (by rw [htb]) ?_
          refine hI_if_ne (tgt := 1248) hx hb dL_law_1241 (by decide) (fun c1241 => ?_) (fun c1241 => ?_)
          · refine lv_iconst (v := nI 0) hx hb dL_law_1248 (by decide) ?_
            exfalso
            omega
          · refine lv_iconst (v := nI 1) hx hb dL_law_1244 (by decide) ?_
            refine lv_goto (tgt := 1249) hx hb dL_law_1245 (by decide) ?_
            refine hN_icmp_ne (tgt := 1281) hx hb (by omega) (by omega) dL_law_1249 (by decide) (fun c1249 => by exact absurd rfl c1249) (fun c1249 => ?_)
            have hrc := rcuts_b hO (x := sa) (by omega : cn < gNC σ)
            have hl60 := (hO.2.2.2.1 cn (by omega)).1
            refine lv_aload_n hx hb dL_law_1252 rfl (lv_at hl 9 rfl) ?_
            refine lv_iload hx hb dL_law_1253 (lv_at hl 6 rfl) ?_
            refine lv_iload hx hb dL_law_1255 (lv_at hl 2 rfl) ?_
            refine hv_call0 (kz_cuts hO (by omega : cn < gNC σ) (by omega : sa < gNS σ)) (vx_runV (As := [.int (nI (cn)), .int (nI (sa))]) (rest := []) ⟨hx, hb, hml, hown, hts⟩ (c_X3_cuts l hfl D N0 ad ct hG hO (nI (cn)) (nI (sa))) (cwV 2 hts gL_law_X3_cuts rfl rfl rfl (by decide +kernel) ⟨Nat.le_of_ble_eq_true rfl, Nat.le_of_ble_eq_true rfl⟩) (hv_preV (r := (RX3, TX3, 8)) hKs hV hS h00 rfl) rfl rfl hl.1 rfl (lv_room (Nat.le_of_ble_eq_true rfl)) dL_law_1257 ⟨(show cells + 1 + 1 + 1 + 1 + 1 + 1 + 1 ≤ 600086 by omega), (show slots + 6 + 6 + 6 + 6 + 6 + 6 + 6 ≤ 7301442 by omega)⟩) hS (fun r9 u9 H locs hq hV hS => ?_)
            obtain ⟨-, hq, hu9⟩ := hq
            subst hu9
            have hV : hv D N0 ad ct H := hV
            simp only [toNat_nI (by omega : (cn) < 2 ^ 31), toNat_nI (by omega : (sa) < 2 ^ 31)] at hq
            subst hq
            refine lv_aload_n hx hb dL_law_1260 rfl (lv_at hl 9 rfl) ?_
            refine lv_iload hx hb dL_law_1261 (lv_at hl 6 rfl) ?_
            refine lv_iconst (v := nI 0) hx hb dL_law_1263 (by decide) ?_
            refine hv_call0 (kz_cane hO (by omega : cn < gNC σ) (by omega : 0 < 5)) (vx_runV (As := [.int (nI (cn)), .int (nI (0))]) (rest := [.int (r_cuts σ (cn) (sa))]) ⟨hx, hb, hml, hown, hts⟩ (c_X3_cane l hfl D N0 ad ct hG hO (nI (cn)) (nI (0))) (cwV 2 hts gL_law_X3_cane rfl rfl rfl (by decide +kernel) ⟨Nat.le_of_ble_eq_true rfl, Nat.le_of_ble_eq_true rfl⟩) (hv_preV (r := (RX3, TX3, 8)) hKs hV hS h00 rfl) rfl rfl hl.1 rfl (lv_room (Nat.le_of_ble_eq_true rfl)) dL_law_1264 ⟨(show cells + 1 + 1 + 1 + 1 + 1 + 1 + 1 + 1 ≤ 600086 by omega), (show slots + 6 + 6 + 6 + 6 + 6 + 6 + 6 + 6 ≤ 7301442 by omega)⟩) hS (fun r9 u9 H locs hq hV hS => ?_)
            obtain ⟨-, hq, hu9⟩ := hq
            subst hu9
            have hV : hv D N0 ad ct H := hV
            simp only [toNat_nI (by omega : (cn) < 2 ^ 31)] at hq
            refine hv_eqi (y := nI (cLen σ (cn))) hq ?_
            refine hR_icmp_gt (tgt := 1281) hx hb (by omega) dL_law_1267 (by decide) (fun c1267 => by omega) (fun c1267 => ?_)
            refine lv_aload_n hx hb dL_law_1270 rfl (lv_at hl 9 rfl) ?_
            refine lv_iload hx hb dL_law_1271 (lv_at hl 6 rfl) ?_
            refine lv_iload hx hb dL_law_1273 (lv_at hl 2 rfl) ?_
            refine hv_call0 (kz_cuts hO (by omega : cn < gNC σ) (by omega : sa < gNS σ)) (vx_runV (As := [.int (nI (cn)), .int (nI (sa))]) (rest := []) ⟨hx, hb, hml, hown, hts⟩ (c_X3_cuts l hfl D N0 ad ct hG hO (nI (cn)) (nI (sa))) (cwV 2 hts gL_law_X3_cuts rfl rfl rfl (by decide +kernel) ⟨Nat.le_of_ble_eq_true rfl, Nat.le_of_ble_eq_true rfl⟩) (hv_preV (r := (RX3, TX3, 8)) hKs hV hS h00 rfl) rfl rfl hl.1 rfl (lv_room (Nat.le_of_ble_eq_true rfl)) dL_law_1275 ⟨(show cells + 1 + 1 + 1 + 1 + 1 + 1 + 1 + 1 + 1 ≤ 600086 by omega), (show slots + 6 + 6 + 6 + 6 + 6 + 6 + 6 + 6 + 6 ≤ 7301442 by omega)⟩) hS (fun r9 u9 H locs hq hV hS => ?_)
            obtain ⟨-, hq, hu9⟩ := hq
            subst hu9
            have hV : hv D N0 ad ct H := hV
            simp only [toNat_nI (by omega : (cn) < 2 ^ 31), toNat_nI (by omega : (sa) < 2 ^ 31)] at hq
            subst hq
            refine hI_if_ne (tgt := 1283) hx hb dL_law_1278 (by decide) (fun c1278 => ?_) (fun c1278 => by exact absurd c1278 hrc.2)
            refine W.widen (k := cells + 9) (n := slots + 54) (by omega) (by omega) ?_
            exact K  ad ct _ _ _ (⟨hO, h2, hnc0, hc, hG⟩) hV hS (lv_sub hl [8, 9, 10, 11] rfl)
      · refine lv_iconst (v := nI 1) hx hb dL_law_1215 (by decide) ?_
        refine lv_goto (tgt := 1220) hx hb dL_law_1216 (by decide) ?_
        exfalso
        omega
    · refine lv_iconst (v := nI 1) hx hb dL_law_1199 (by decide) ?_
      refine lv_goto (tgt := 1204) hx hb dL_law_1200 (by decide) ?_
      refine lv_aload_n hx hb dL_law_1204 rfl (lv_at hl 9 rfl) ?_
      refine lv_iload hx hb dL_law_1205 (lv_at hl 1 rfl) ?_
      refine lv_iload hx hb dL_law_1207 (lv_at hl 2 rfl) ?_
      refine hv_call0 (kz_turn hO (by omega : so < gNS σ) (by omega : sa < gNS σ)) (vx_runV (As := [.int (nI (so)), .int (nI (sa))]) (rest := [.int (nI (1))]) ⟨hx, hb, hml, hown, hts⟩ (c_X3_turn l hfl D N0 ad ct hG hO (nI (so)) (nI (sa))) (cwV 2 hts gL_law_X3_turn rfl rfl rfl (by decide +kernel) ⟨Nat.le_of_ble_eq_true rfl, Nat.le_of_ble_eq_true rfl⟩) (hv_preV (r := (RX3, TX3, 8)) hKs hV hS h00 rfl) rfl rfl hl.1 rfl (lv_room (Nat.le_of_ble_eq_true rfl)) dL_law_1209 ⟨(show cells + 1 + 1 + 1 + 1 + 1 ≤ 600086 by omega), (show slots + 6 + 6 + 6 + 6 + 6 ≤ 7301442 by omega)⟩) hS (fun r9 u9 H locs hq hV hS => ?_)
      obtain ⟨-, hq, hu9⟩ := hq
      subst hu9
      have hV : hv D N0 ad ct H := hV
      simp only [toNat_nI (by omega : (so) < 2 ^ 31), toNat_nI (by omega : (sa) < 2 ^ 31)] at hq
      subst hq
      refine hv_eqi (y := plc 8 tb) (by rw [htb]) ?_
      refine hI_if_ge (tgt := 1219) hx hb dL_law_1212 (by decide) (fun c1212 => ?_) (fun c1212 => ?_)
      · refine lv_iconst (v := nI 0) hx hb dL_law_1219 (by decide) ?_
        exfalso
        omega
      · refine lv_iconst (v := nI 1) hx hb dL_law_1215 (by decide) ?_
        refine lv_goto (tgt := 1220) hx hb dL_law_1216 (by decide) ?_
        refine hN_icmp_ne (tgt := 1281) hx hb (by omega) (by omega) dL_law_1220 (by decide) (fun c1220 => by exact absurd rfl c1220) (fun c1220 => ?_)
        refine lv_iload hx hb dL_law_1223 (lv_at hl 0 rfl) ?_
        refine hI_if_ne (tgt := 1232) hx hb dL_law_1225 (by decide) (fun c1225 => ?_) (fun c1225 => ?_)
        · refine lv_iconst (v := nI 0) hx hb dL_law_1232 (by decide) ?_
          refine lv_aload_n hx hb dL_law_1233 rfl (lv_at hl 9 rfl) ?_
          refine lv_iload hx hb dL_law_1234 (lv_at hl 1 rfl) ?_
          refine lv_iload hx hb dL_law_1236 (lv_at hl 2 rfl) ?_
          refine hv_call0 (kz_turn hO (by omega : so < gNS σ) (by omega : sa < gNS σ)) (vx_runV (As := [.int (nI (so)), .int (nI (sa))]) (rest := [.int (nI (0))]) ⟨hx, hb, hml, hown, hts⟩ (c_X3_turn l hfl D N0 ad ct hG hO (nI (so)) (nI (sa))) (cwV 2 hts gL_law_X3_turn rfl rfl rfl (by decide +kernel) ⟨Nat.le_of_ble_eq_true rfl, Nat.le_of_ble_eq_true rfl⟩) (hv_preV (r := (RX3, TX3, 8)) hKs hV hS h00 rfl) rfl rfl hl.1 rfl (lv_room (Nat.le_of_ble_eq_true rfl)) dL_law_1238 ⟨(show cells + 1 + 1 + 1 + 1 + 1 + 1 ≤ 600086 by omega), (show slots + 6 + 6 + 6 + 6 + 6 + 6 ≤ 7301442 by omega)⟩) hS (fun r9 u9 H locs hq hV hS => ?_)
          obtain ⟨-, hq, hu9⟩ := hq
          subst hu9
          have hV : hv D N0 ad ct H := hV
          simp only [toNat_nI (by omega : (so) < 2 ^ 31), toNat_nI (by omega : (sa) < 2 ^ 31)] at hq
          subst hq
          refine hv_eqi (y := plc 8 tb) (by rw [htb]) ?_
          refine hI_if_ne (tgt := 1248) hx hb dL_law_1241 (by decide) (fun c1241 => ?_) (fun c1241 => ?_)
          · refine lv_iconst (v := nI 0) hx hb dL_law_1248 (by decide) ?_
            refine hN_icmp_ne (tgt := 1281) hx hb (by omega) (by omega) dL_law_1249 (by decide) (fun c1249 => by exact absurd rfl c1249) (fun c1249 => ?_)
            have hrc := rcuts_b hO (x := sa) (by omega : cn < gNC σ)
            have hl60 := (hO.2.2.2.1 cn (by omega)).1
            refine lv_aload_n hx hb dL_law_1252 rfl (lv_at hl 9 rfl) ?_
            refine lv_iload hx hb dL_law_1253 (lv_at hl 6 rfl) ?_
            refine lv_iload hx hb dL_law_1255 (lv_at hl 2 rfl) ?_
            refine hv_call0 (kz_cuts hO (by omega : cn < gNC σ) (by omega : sa < gNS σ)) (vx_runV (As := [.int (nI (cn)), .int (nI (sa))]) (rest := []) ⟨hx, hb, hml, hown, hts⟩ (c_X3_cuts l hfl D N0 ad ct hG hO (nI (cn)) (nI (sa))) (cwV 2 hts gL_law_X3_cuts rfl rfl rfl (by decide +kernel) ⟨Nat.le_of_ble_eq_true rfl, Nat.le_of_ble_eq_true rfl⟩) (hv_preV (r := (RX3, TX3, 8)) hKs hV hS h00 rfl) rfl rfl hl.1 rfl (lv_room (Nat.le_of_ble_eq_true rfl)) dL_law_1257 ⟨(show cells + 1 + 1 + 1 + 1 + 1 + 1 + 1 ≤ 600086 by omega), (show slots + 6 + 6 + 6 + 6 + 6 + 6 + 6 ≤ 7301442 by omega)⟩) hS (fun r9 u9 H locs hq hV hS => ?_)
            obtain ⟨-, hq, hu9⟩ := hq
            subst hu9
            have hV : hv D N0 ad ct H := hV
            simp only [toNat_nI (by omega : (cn) < 2 ^ 31), toNat_nI (by omega : (sa) < 2 ^ 31)] at hq
            subst hq
            refine lv_aload_n hx hb dL_law_1260 rfl (lv_at hl 9 rfl) ?_
            refine lv_iload hx hb dL_law_1261 (lv_at hl 6 rfl) ?_
            refine lv_iconst (v := nI 0) hx hb dL_law_1263 (by decide) ?_
            refine hv_call0 (kz_cane hO (by omega : cn < gNC σ) (by omega : 0 < 5)) (vx_runV (As := [.int (nI (cn)), .int (nI (0))]) (rest := [.int (r_cuts σ (cn) (sa))]) ⟨hx, hb, hml, hown, hts⟩ (c_X3_cane l hfl D N0 ad ct hG hO (nI (cn)) (nI (0))) (cwV 2 hts gL_law_X3_cane rfl rfl rfl (by decide +kernel) ⟨Nat.le_of_ble_eq_true rfl, Nat.le_of_ble_eq_true rfl⟩) (hv_preV (r := (RX3, TX3, 8)) hKs hV hS h00 rfl) rfl rfl hl.1 rfl (lv_room (Nat.le_of_ble_eq_true rfl)) dL_law_1264 ⟨(show cells + 1 + 1 + 1 + 1 + 1 + 1 + 1 + 1 ≤ 600086 by omega), (show slots + 6 + 6 + 6 + 6 + 6 + 6 + 6 + 6 ≤ 7301442 by omega)⟩) hS (fun r9 u9 H locs hq hV hS => ?_)
            obtain ⟨-, hq, hu9⟩ := hq
            subst hu9
            have hV : hv D N0 ad ct H := hV
            simp only [toNat_nI (by omega : (cn) < 2 ^ 31)] at hq
            refine hv_eqi (y := nI (cLen σ (cn))) hq ?_
            refine hR_icmp_gt (tgt := 1281) hx hb (by omega) dL_law_1267 (by decide) (fun c1267 => by omega) (fun c1267 => ?_)
            refine lv_aload_n hx hb dL_law_1270 rfl (lv_at hl 9 rfl) ?_
            refine lv_iload hx hb dL_law_1271 (lv_at hl 6 rfl) ?_
            refine lv_iload hx hb dL_law_1273 (lv_at hl 2 rfl) ?_
            refine hv_call0 (kz_cuts hO (by omega : cn < gNC σ) (by omega : sa < gNS σ)) (vx_runV (As := [.int (nI (cn)), .int (nI (sa))]) (rest := []) ⟨hx, hb, hml, hown, hts⟩ (c_X3_cuts l hfl D N0 ad ct hG hO (nI (cn)) (nI (sa))) (cwV 2 hts gL_law_X3_cuts rfl rfl rfl (by decide +kernel) ⟨Nat.le_of_ble_eq_true rfl, Nat.le_of_ble_eq_true rfl⟩) (hv_preV (r := (RX3, TX3, 8)) hKs hV hS h00 rfl) rfl rfl hl.1 rfl (lv_room (Nat.le_of_ble_eq_true rfl)) dL_law_1275 ⟨(show cells + 1 + 1 + 1 + 1 + 1 + 1 + 1 + 1 + 1 ≤ 600086 by omega), (show slots + 6 + 6 + 6 + 6 + 6 + 6 + 6 + 6 + 6 ≤ 7301442 by omega)⟩) hS (fun r9 u9 H locs hq hV hS => ?_)
            obtain ⟨-, hq, hu9⟩ := hq
            subst hu9
            have hV : hv D N0 ad ct H := hV
            simp only [toNat_nI (by omega : (cn) < 2 ^ 31), toNat_nI (by omega : (sa) < 2 ^ 31)] at hq
            subst hq
            refine hI_if_ne (tgt := 1283) hx hb dL_law_1278 (by decide) (fun c1278 => ?_) (fun c1278 => by exact absurd c1278 hrc.2)
            refine W.widen (k := cells + 9) (n := slots + 54) (by omega) (by omega) ?_
            exact K  ad ct _ _ _ (⟨hO, h2, hnc0, hc, hG⟩) hV hS (lv_sub hl [8, 9, 10, 11] rfl)
          · refine lv_iconst (v := nI 1) hx hb dL_law_1244 (by decide) ?_
            refine lv_goto (tgt := 1249) hx hb dL_law_1245 (by decide) ?_
            exfalso
            omega
        · refine lv_iconst (v := nI 1) hx hb dL_law_1228 (by decide) ?_
          refine lv_goto (tgt := 1233) hx hb dL_law_1229 (by decide) ?_
          refine lv_aload_n hx hb dL_law_1233 rfl (lv_at hl 9 rfl) ?_
          refine lv_iload hx hb dL_law_1234 (lv_at hl 1 rfl) ?_
          refine lv_iload hx hb dL_law_1236 (lv_at hl 2 rfl) ?_
          refine hv_call0 (kz_turn hO (by omega : so < gNS σ) (by omega : sa < gNS σ)) (vx_runV (As := [.int (nI (so)), .int (nI (sa))]) (rest := [.int (nI (1))]) ⟨hx, hb, hml, hown, hts⟩ (c_X3_turn l hfl D N0 ad ct hG hO (nI (so)) (nI (sa))) (cwV 2 hts gL_law_X3_turn rfl rfl rfl (by decide +kernel) ⟨Nat.le_of_ble_eq_true rfl, Nat.le_of_ble_eq_true rfl⟩) (hv_preV (r := (RX3, TX3, 8)) hKs hV hS h00 rfl) rfl rfl hl.1 rfl (lv_room (Nat.le_of_ble_eq_true rfl)) dL_law_1238 ⟨(show cells + 1 + 1 + 1 + 1 + 1 + 1 ≤ 600086 by omega), (show slots + 6 + 6 + 6 + 6 + 6 + 6 ≤ 7301442 by omega)⟩) hS (fun r9 u9 H locs hq hV hS => ?_)
          obtain ⟨-, hq, hu9⟩ := hq
          subst hu9
          have hV : hv D N0 ad ct H := hV
          simp only [toNat_nI (by omega : (so) < 2 ^ 31), toNat_nI (by omega : (sa) < 2 ^ 31)] at hq
          subst hq
          refine hv_eqi (y := plc 8 tb) (by rw [htb]) ?_
          refine hI_if_ne (tgt := 1248) hx hb dL_law_1241 (by decide) (fun c1241 => ?_) (fun c1241 => ?_)
          · refine lv_iconst (v := nI 0) hx hb dL_law_1248 (by decide) ?_
            exfalso
            omega
          · refine lv_iconst (v := nI 1) hx hb dL_law_1244 (by decide) ?_
            refine lv_goto (tgt := 1249) hx hb dL_law_1245 (by decide) ?_
            refine hN_icmp_ne (tgt := 1281) hx hb (by omega) (by omega) dL_law_1249 (by decide) (fun c1249 => by exact absurd rfl c1249) (fun c1249 => ?_)
            have hrc := rcuts_b hO (x := sa) (by omega : cn < gNC σ)
            have hl60 := (hO.2.2.2.1 cn (by omega)).1
            refine lv_aload_n hx hb dL_law_1252 rfl (lv_at hl 9 rfl) ?_
            refine lv_iload hx hb dL_law_1253 (lv_at hl 6 rfl) ?_
            refine lv_iload hx hb dL_law_1255 (lv_at hl 2 rfl) ?_
            refine hv_call0 (kz_cuts hO (by omega : cn < gNC σ) (by omega : sa < gNS σ)) (vx_runV (As := [.int (nI (cn)), .int (nI (sa))]) (rest := []) ⟨hx, hb, hml, hown, hts⟩ (c_X3_cuts l hfl D N0 ad ct hG hO (nI (cn)) (nI (sa))) (cwV 2 hts gL_law_X3_cuts rfl rfl rfl (by decide +kernel) ⟨Nat.le_of_ble_eq_true rfl, Nat.le_of_ble_eq_true rfl⟩) (hv_preV (r := (RX3, TX3, 8)) hKs hV hS h00 rfl) rfl rfl hl.1 rfl (lv_room (Nat.le_of_ble_eq_true rfl)) dL_law_1257 ⟨(show cells + 1 + 1 + 1 + 1 + 1 + 1 + 1 ≤ 600086 by omega), (show slots + 6 + 6 + 6 + 6 + 6 + 6 + 6 ≤ 7301442 by omega)⟩) hS (fun r9 u9 H locs hq hV hS => ?_)
            obtain ⟨-, hq, hu9⟩ := hq
            subst hu9
            have hV : hv D N0 ad ct H := hV
            simp only [toNat_nI (by omega : (cn) < 2 ^ 31), toNat_nI (by omega : (sa) < 2 ^ 31)] at hq
            subst hq
            refine lv_aload_n hx hb dL_law_1260 rfl (lv_at hl 9 rfl) ?_
            refine lv_iload hx hb dL_law_1261 (lv_at hl 6 rfl) ?_
            refine lv_iconst (v := nI 0) hx hb dL_law_1263 (by decide) ?_
            refine hv_call0 (kz_cane hO (by omega : cn < gNC σ) (by omega : 0 < 5)) (vx_runV (As := [.int (nI (cn)), .int (nI (0))]) (rest := [.int (r_cuts σ (cn) (sa))]) ⟨hx, hb, hml, hown, hts⟩ (c_X3_cane l hfl D N0 ad ct hG hO (nI (cn)) (nI (0))) (cwV 2 hts gL_law_X3_cane rfl rfl rfl (by decide +kernel) ⟨Nat.le_of_ble_eq_true rfl, Nat.le_of_ble_eq_true rfl⟩) (hv_preV (r := (RX3, TX3, 8)) hKs hV hS h00 rfl) rfl rfl hl.1 rfl (lv_room (Nat.le_of_ble_eq_true rfl)) dL_law_1264 ⟨(show cells + 1 + 1 + 1 + 1 + 1 + 1 + 1 + 1 ≤ 600086 by omega), (show slots + 6 + 6 + 6 + 6 + 6 + 6 + 6 + 6 ≤ 7301442 by omega)⟩) hS (fun r9 u9 H locs hq hV hS => ?_)
            obtain ⟨-, hq, hu9⟩ := hq
            subst hu9
            have hV : hv D N0 ad ct H := hV
            simp only [toNat_nI (by omega : (cn) < 2 ^ 31)] at hq
            refine hv_eqi (y := nI (cLen σ (cn))) hq ?_
            refine hR_icmp_gt (tgt := 1281) hx hb (by omega) dL_law_1267 (by decide) (fun c1267 => by omega) (fun c1267 => ?_)
            refine lv_aload_n hx hb dL_law_1270 rfl (lv_at hl 9 rfl) ?_
            refine lv_iload hx hb dL_law_1271 (lv_at hl 6 rfl) ?_
            refine lv_iload hx hb dL_law_1273 (lv_at hl 2 rfl) ?_
            refine hv_call0 (kz_cuts hO (by omega : cn < gNC σ) (by omega : sa < gNS σ)) (vx_runV (As := [.int (nI (cn)), .int (nI (sa))]) (rest := []) ⟨hx, hb, hml, hown, hts⟩ (c_X3_cuts l hfl D N0 ad ct hG hO (nI (cn)) (nI (sa))) (cwV 2 hts gL_law_X3_cuts rfl rfl rfl (by decide +kernel) ⟨Nat.le_of_ble_eq_true rfl, Nat.le_of_ble_eq_true rfl⟩) (hv_preV (r := (RX3, TX3, 8)) hKs hV hS h00 rfl) rfl rfl hl.1 rfl (lv_room (Nat.le_of_ble_eq_true rfl)) dL_law_1275 ⟨(show cells + 1 + 1 + 1 + 1 + 1 + 1 + 1 + 1 + 1 ≤ 600086 by omega), (show slots + 6 + 6 + 6 + 6 + 6 + 6 + 6 + 6 + 6 ≤ 7301442 by omega)⟩) hS (fun r9 u9 H locs hq hV hS => ?_)
            obtain ⟨-, hq, hu9⟩ := hq
            subst hu9
            have hV : hv D N0 ad ct H := hV
            simp only [toNat_nI (by omega : (cn) < 2 ^ 31), toNat_nI (by omega : (sa) < 2 ^ 31)] at hq
            subst hq
            refine hI_if_ne (tgt := 1283) hx hb dL_law_1278 (by decide) (fun c1278 => ?_) (fun c1278 => by exact absurd c1278 hrc.2)
            refine W.widen (k := cells + 9) (n := slots + 54) (by omega) (by omega) ?_
            exact K  ad ct _ _ _ (⟨hO, h2, hnc0, hc, hG⟩) hV hS (lv_sub hl [8, 9, 10, 11] rfl)
  · refine lv_goto (tgt := 1283) hx hb dL_law_1145 (by decide) ?_
    refine W.widen (k := cells + 9) (n := slots + 54) (by omega) (by omega) ?_
    exact K  ad ct _ _ _ (⟨hO, h2, hnc0, hc, hG⟩) hV hS (lv_sub hl [5, 6, 7, 8] rfl)
