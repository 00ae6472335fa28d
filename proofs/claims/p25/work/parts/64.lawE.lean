theorem sub2_int {a b : Nat} (ha : a < 1048576) (hb : b < 1048576) : (nI a - nI b - nI 1).toInt = (a : Int) - b - 1 := by
  have e : (nI 1).toInt = 1 := by decide
  rw [Int32.toInt_sub, pk_sub_toInt (by omega) (by omega), e, Int.bmod_eq_of_le (by omega) (by omega)]
theorem crk {a b : Bool} (h : a = true → b = true) : ¬ ((hbv (!a)).toInt < (hbv (!b)).toInt) := by
  cases a <;> cases b
  · decide
  · decide
  · exact absurd (h rfl) (by decide)
  · decide
theorem ey_uniq {σ : gS} (hO : okS σ) {j k a : Nat} (hj : j < gNS σ) (hk : k < gNS σ) (h1 : sEy σ j = some a) (h2 : sEy σ k = some a) : j = k := by
  obtain ⟨t, ht⟩ := hO.2.2.2.2.2.2.1 j a hj h1
  obtain ⟨u, hu⟩ := hO.2.2.2.2.2.2.1 k a hk h2
  rw [ht] at hu
  cases hu
  rfl
theorem ey_lt {σ : gS} (hO : okS σ) {k a : Nat} (hk : k < gNS σ) (h : sEy σ k = some a) : a < 4 * gNB σ := by
  obtain ⟨t, ht⟩ := hO.2.2.2.2.2.2.1 k a hk h
  exact (hO.2.2.2.2.2.1 _ _ _ ht).1
theorem inE_0 {σ : gS} {k : Nat} (h : sEy σ k = none) : inE σ (k + 1) = inE σ k := by unfold inE; rw [nsm, h]; rfl
theorem inE_1 {σ : gS} {k a : Nat} (h : sEy σ k = some a) : inE σ (k + 1) = inE σ k + 1 := by unfold inE; rw [nsm, h]; rfl
theorem emp_s0 {σ : gS} {b e : Nat} (h : gEy σ (4 * b + e) = none) : emp σ b (e + 1) = emp σ b e + 1 := by unfold emp; rw [nsm, ie_0 h]
theorem emp_s1 {σ : gS} {b e s t : Nat} (h : gEy σ (4 * b + e) = some (s, t)) : emp σ b (e + 1) = emp σ b e + 0 := by unfold emp; rw [nsm, ie_1 h]
theorem emp_n {σ : gS} {b n : Nat} : emp σ b n ≤ n := by
  have := nsm_le (f := fun k => 1 - ie σ (4 * b + k)) (c := 1) (n := n) (fun k _ => by show 1 - _ ≤ 1; omega)
  unfold emp
  omega
theorem bl_n {σ : gS} {n : Nat} : nsm (bl σ) n ≤ n := by
  have := nsm_le (f := bl σ) (c := 1) (n := n) (fun k _ => by unfold bl; split; omega; split <;> omega)
  omega
theorem rcuts_b {σ : gS} (hO : okS σ) {c x : Nat} (hc : c < gNC σ) : (r_cuts σ c x).toInt ≤ (cLen σ c : Int) ∧ (r_cuts σ c x).toInt ≠ 0 := by
  have h60 := (hO.2.2.2.1 c hc).1
  unfold r_cuts
  split
  · rw [nI_toInt (by omega)]; omega
  · rw [h_m1]; omega

set_option maxHeartbeats 4000000 in
set_option maxRecDepth 100000 in
theorem S_E {p : Program} {l : Launch} {e : Env} {s : State} {m : MethodId} {below : List Frame} {meth : Method} {c : Code} {b L N0 : Nat} {xs : Nat → Int32} {Q : State → Prop} {D : hG} (CT : LC p l s m c b L N0 xs D) {ad : Nat → Nat} {ct : hC} {H : Heap} {locs : List Loc} {cells slots : Nat} (hV : hv D N0 ad ct H) (hS : va_S (hA N0) s.heap H locs) {ls : Array Slot} {σ0 σ : gS} {nc i g : Nat} {xv : Int32} {cn rr : Nat} (hi : i < 30) (hcn1 : cn < nc) (hrr : rr = i % 5) (hg4 : g ≤ 4) (hA9 : lA D σ nc ad ct) (hrel : rel g σ0 σ) (hW : wasN D σ0 nc (5 * nc) ad ct) (hLk : lookN D σ0 rr (gNS σ0) 12 ad ct) (hl : lv_has ls 22 [(13, .int (nI (g))), (10, .ref (ad (208))), (9, .ref (ad (64))), (8, .int (nI (gNB σ0))), (7, .int (nI (gNS σ0))), (6, .int (gMi σ0)), (5, .int (nI (cn))), (4, .int (xv)), (0, .ref (b)), (1, .ref (ad (0))), (2, .int (nI (nc))), (3, .int (nI (i)))]) (hr1 : cells + 33 ≤ 600086) (hr2 : slots + 198 ≤ 7301442)
    (K : ∀  (ad1 : Nat → Nat) (ct1 : hC) (H1 : Heap) (locs1 : List Loc) (ls1 : Array Slot), lA D σ nc ad1 ct1 → lookN D σ0 rr (gNS σ0) 12 ad1 ct1 → hv D N0 ad1 ct1 H1 → va_S (hA N0) s.heap H1 locs1 → lv_has ls1 22 [(10, .ref (ad1 (208))), (8, .int (nI (gNB σ0))), (7, .int (nI (gNS σ0))), (6, .int (gMi σ0)), (5, .int (nI (cn))), (4, .int (xv)), (0, .ref (b)), (1, .ref (ad1 (0))), (2, .int (nI (nc))), (3, .int (nI (i)))] → W p l e room_1 s m #[Value.ref b] below meth c H1 locs1 (cells + 33) (slots + 198) Q (F0 m 849 ls1 [])) : W p l e room_1 s m #[Value.ref b] below meth c H locs cells slots Q (F0 m 676 ls []) := by
  obtain ⟨hfl, hts, hts0, hx, hb, hml, hown, hX, hbs, hbA, hbl, hL, hKs⟩ := CT
  have lk101 := hts (.methodLink RL 101 Lib.Math.abs.name) (by decide +kernel)
  obtain ⟨hO, h2, hnc0, hc, hG⟩ := hA9
  have h00 := hG.1
  obtain ⟨hn8, hn60, hn6, -⟩ := id hO
  obtain ⟨hrC, hrB, hrS, hrP, hrH, hrM⟩ := id hrel
  have h64 := hW.1
  refine lv_aload_n hx hb dL_law_676 rfl (lv_at hl 9 rfl) ?_
  refine lv_iconst (v := nI 0) hx hb dL_law_677 (by decide) ?_
  refine hv_call0 (by decide) (vx_runV (As := [.int (nI (0))]) (rest := []) ⟨hx, hb, hml, hown, hts⟩ (c_X3_count l hfl D N0 ad ct hG hO (nI (0))) (cwV 1 hts gL_law_X3_count rfl rfl rfl (by decide +kernel) ⟨Nat.le_of_ble_eq_true rfl, Nat.le_of_ble_eq_true rfl⟩) (hv_preV (r := (RX3, TX3, 8)) hKs hV hS h00 rfl) rfl rfl hl.1 rfl (lv_room (Nat.le_of_ble_eq_true rfl)) dL_law_678 ⟨(show cells + 1 ≤ 600086 by omega), (show slots + 6 ≤ 7301442 by omega)⟩) hS (fun r9 u9 H locs hq hV hS => ?_)
  obtain ⟨-, hq, hu9⟩ := hq
  subst hu9
  have hV : hv D N0 ad ct H := hV
  have hq : r9 = (gMi σ) := hq
  subst hq
  refine lv_iload hx hb dL_law_681 (lv_at hl 5 rfl) ?_
  refine lv_iload hx hb dL_law_683 (lv_at hl 0 rfl) ?_
  refine lv_iadd hx hb dL_law_685 ?_
  refine hI_icmp_eq (tgt := 691) hx hb dL_law_686 (by decide) (fun c686 => ?_) (fun c686 => by exact absurd (congrArg Int32.toInt hrM) c686)
  refine lv_iconst (v := nI 0) hx hb dL_law_691 (by decide) ?_
  refine lv_istore (lv' := [(14, .int (nI (0))), (13, .int (nI (g))), (10, .ref (ad (208))), (9, .ref (ad (64))), (8, .int (nI (gNB σ0))), (7, .int (nI (gNS σ0))), (6, .int (gMi σ0)), (5, .int (nI (cn))), (4, .int (xv)), (0, .ref (b)), (1, .ref (ad (0))), (2, .int (nI (nc))), (3, .int (nI (i)))]) hx hb dL_law_692 hl (by decide) rfl (fun ls hl => ?_)
  refine lv_iconst (v := nI 0) hx hb dL_law_694 (by decide) ?_
  refine lv_istore (lv' := [(15, .int (nI (0))), (14, .int (nI (0))), (13, .int (nI (g))), (10, .ref (ad (208))), (9, .ref (ad (64))), (8, .int (nI (gNB σ0))), (7, .int (nI (gNS σ0))), (6, .int (gMi σ0)), (5, .int (nI (cn))), (4, .int (xv)), (0, .ref (b)), (1, .ref (ad (0))), (2, .int (nI (nc))), (3, .int (nI (i)))]) hx hb dL_law_695 hl (by decide) rfl (fun ls hl => ?_)
  have L697 : ∀ (n k : Nat), k ≤ nc → nc < k + n → ∀ (H : Heap) (locs : List Loc), hv D N0 ad ct H → va_S (hA N0) s.heap H locs → ∀ ls : Array Slot, lv_has ls 22 [(15, .int (nI (k))), (14, .int (nI (nsm (cHt σ) k))), (13, .int (nI (g))), (10, .ref (ad (208))), (9, .ref (ad (64))), (8, .int (nI (gNB σ0))), (7, .int (nI (gNS σ0))), (6, .int (gMi σ0)), (5, .int (nI (cn))), (4, .int (xv)), (0, .ref (b)), (1, .ref (ad (0))), (2, .int (nI (nc))), (3, .int (nI (i)))] → W p l e room_1 s m #[Value.ref b] below meth c H locs (cells + 1 + 4 * k) (slots + 6 + 24 * k) Q (F0 m 697 ls []) := by
    intro n
    induction n with
    | zero => intro k h1 h2; exact absurd h2 (by omega)
    | succ n ih697 =>
      intro k hi697 hn697 H locs hV hS ls hl
      refine lv_iload hx hb dL_law_697 (lv_at hl 0 rfl) ?_
      refine lv_iload_n hx hb dL_law_699 rfl (lv_at hl 12 rfl) ?_
      refine hN_icmp_ge (tgt := 833) hx hb (by omega) (by omega) dL_law_700 (by decide) (fun c700 => ?_) (fun c700 => ?_)
      · have hsum := nsm_le (f := cHt σ) (c := 10) (n := k) (fun j hj => (hO.2.2.2.1 j (by omega)).2.1)
        have hmn : FP.ddiv (FP.i2d (nI (nsm (cHt σ) k))) (FP.i2d (nI nc)) = r_mean σ := by
          have hkn : k = gNC σ := by omega
          unfold r_mean
          rw [if_neg (by omega), hkn, ← hc]
        refine lv_aload_n hx hb dL_law_833 rfl (lv_at hl 11 rfl) ?_
        refine hv_calld (va_runV (As := []) (rest := []) ⟨hx, hb, hml, hown, hts⟩ (c_X3_mean l D N0 ad ct hG hO) (cwV 0 hts gL_law_X3_mean rfl rfl rfl (by decide +kernel) ⟨Nat.le_of_ble_eq_true rfl, Nat.le_of_ble_eq_true rfl⟩) (hv_preV (r := (RX3, TX3, 8)) hKs hV hS h00 rfl) rfl rfl hl.1 rfl (lv_room (Nat.le_of_ble_eq_true rfl)) dL_law_834 ⟨(show cells + 1 + 4 * k + 0 ≤ 600086 by omega), (show slots + 6 + 24 * k + 0 ≤ 7301442 by omega)⟩) hS (fun r9 u9 H locs hq hV hS => ?_)
        obtain ⟨rfl, rfl⟩ := hq
        have hV : hv D N0 ad ct H := hV
        refine lv_iload hx hb dL_law_837 (lv_at hl 1 rfl) ?_
        refine lv_i2d hx hb dL_law_839 ?_
        refine lv_iload_n hx hb dL_law_840 rfl (lv_at hl 12 rfl) ?_
        refine lv_i2d hx hb dL_law_841 ?_
        refine lv_ddiv hx hb dL_law_842 (mean_n (by omega) (by omega) (by omega)) ?_
        refine hv_eq (w := .double (r_mean σ)) (by rw [hmn]) ?_
        refine lv_dcmp hx hb dL_law_843 ?_
        refine hv_eqi (y := nI 0) (by rw [mean_c hO]; rfl) ?_
        refine hN_if_eq (tgt := 849) hx hb (by omega) dL_law_844 (by decide) (fun c844 => ?_) (fun c844 => by exact absurd c844 (by omega))
        refine W.widen (k := cells + 33) (n := slots + 198) (by omega) (by omega) ?_
        exact K  ad ct _ _ _ (⟨hO, h2, hnc0, hc, hG⟩) (hLk) hV hS (lv_sub hl [3, 5, 6, 7, 8, 9, 10, 11, 12, 13] rfl)
      · have hk9 := hO.2.2.2.1 k (by omega)
        have hH9 := hrH k (by omega)
        have hsum := nsm_le (f := cHt σ) (c := 10) (n := k) (fun j hj => (hO.2.2.2.1 j (by omega)).2.1)
        refine lv_aload_n hx hb dL_law_703 rfl (lv_at hl 11 rfl) ?_
        refine lv_iload hx hb dL_law_704 (lv_at hl 0 rfl) ?_
        refine lv_iconst (v := nI 2) hx hb dL_law_706 (by decide) ?_
        refine hv_call0 (kz_cane hO (by omega : k < gNC σ) (by omega : 2 < 5)) (vx_runV (As := [.int (nI (k)), .int (nI (2))]) (rest := []) ⟨hx, hb, hml, hown, hts⟩ (c_X3_cane l hfl D N0 ad ct hG hO (nI (k)) (nI (2))) (cwV 2 hts gL_law_X3_cane rfl rfl rfl (by decide +kernel) ⟨Nat.le_of_ble_eq_true rfl, Nat.le_of_ble_eq_true rfl⟩) (hv_preV (r := (RX3, TX3, 8)) hKs hV hS h00 rfl) rfl rfl hl.1 rfl (lv_room (Nat.le_of_ble_eq_true rfl)) dL_law_707 ⟨(show cells + 1 + 4 * k + 1 ≤ 600086 by omega), (show slots + 6 + 24 * k + 6 ≤ 7301442 by omega)⟩) hS (fun r9 u9 H locs hq hV hS => ?_)
        obtain ⟨-, hq, hu9⟩ := hq
        subst hu9
        have hV : hv D N0 ad ct H := hV
        simp only [toNat_nI (by omega : (k) < 2 ^ 31)] at hq
        refine hv_eqi (y := nI (cHt σ (k))) hq ?_
        refine lv_istore (lv' := [(16, .int (nI (cHt σ (k)))), (15, .int (nI (k))), (14, .int (nI (nsm (cHt σ) k))), (13, .int (nI (g))), (10, .ref (ad (208))), (9, .ref (ad (64))), (8, .int (nI (gNB σ0))), (7, .int (nI (gNS σ0))), (6, .int (gMi σ0)), (5, .int (nI (cn))), (4, .int (xv)), (0, .ref (b)), (1, .ref (ad (0))), (2, .int (nI (nc))), (3, .int (nI (i)))]) hx hb dL_law_710 hl (by decide) rfl (fun ls hl => ?_)
        refine lv_iload hx hb dL_law_712 (lv_at hl 2 rfl) ?_
        refine lv_iload hx hb dL_law_714 (lv_at hl 0 rfl) ?_
        refine hN_iadd hx hb dL_law_716 ?_
        refine lv_istore (lv' := [(14, .int (nI (nsm (cHt σ) k + cHt σ (k)))), (16, .int (nI (cHt σ (k)))), (15, .int (nI (k))), (13, .int (nI (g))), (10, .ref (ad (208))), (9, .ref (ad (64))), (8, .int (nI (gNB σ0))), (7, .int (nI (gNS σ0))), (6, .int (gMi σ0)), (5, .int (nI (cn))), (4, .int (xv)), (0, .ref (b)), (1, .ref (ad (0))), (2, .int (nI (nc))), (3, .int (nI (i)))]) hx hb dL_law_717 hl (by decide) rfl (fun ls hl => ?_)
        refine lv_iload hx hb dL_law_719 (lv_at hl 1 rfl) ?_
        refine hN_if_lt (tgt := 825) hx hb (by omega) dL_law_721 (by decide) ?_
        refine lv_iload hx hb dL_law_724 (lv_at hl 1 rfl) ?_
        refine lv_bipush (v := nI 10) hx hb dL_law_726 (by decide) ?_
        refine hN_icmp_gt (tgt := 825) hx hb (by omega) (by omega) dL_law_728 (by decide) (fun c728 => by exact absurd c728 (by omega)) (fun c728 => ?_)
        refine lv_iload hx hb dL_law_731 (lv_at hl 1 rfl) ?_
        refine lv_aload hx hb dL_law_733 (lv_at hl 5 rfl) ?_
        refine lv_iload hx hb dL_law_735 (lv_at hl 2 rfl) ?_
        refine hv_aaldA hx hb hKs hV h64 (by omega) (by omega) dL_law_737 ?_
        refine hv_eq (w := .ref (ad (16 * (k) + 80))) (by rw [if_pos (by omega : k < nc)]; rfl) ?_
        obtain ⟨fw1, fw1c, fw1j⟩ := hW.at (k := k) (by omega)
        refine lv_iconst (v := nI 2) hx hb dL_law_738 (by decide) ?_
        refine hv_iald hx hb hKs hV fw1c (by omega) (by decide) dL_law_739 ?_
        refine hv_eqi (y := nI (cHt σ0 (k))) (fw1j 2 (by omega)) ?_
        refine lv_iconst (v := nI 3) hx hb dL_law_740 (by decide) ?_
        refine lv_iload hx hb dL_law_741 (lv_at hl 3 rfl) ?_
        refine hN_imul hx hb dL_law_743 ?_
        refine hN_iadd hx hb dL_law_744 ?_
        refine hN_icmp_gt (tgt := 825) hx hb (by omega) (by omega) dL_law_745 (by decide) (fun c745 => by exact absurd c745 (by omega)) (fun c745 => ?_)
        refine lv_iload hx hb dL_law_748 (lv_at hl 1 rfl) ?_
        refine lv_aload hx hb dL_law_750 (lv_at hl 5 rfl) ?_
        refine lv_iload hx hb dL_law_752 (lv_at hl 2 rfl) ?_
        refine hv_aaldA hx hb hKs hV h64 (by omega) (by omega) dL_law_754 ?_
        refine hv_eq (w := .ref (ad (16 * (k) + 80))) (by rw [if_pos (by omega : k < nc)]; rfl) ?_
        obtain ⟨fw2, fw2c, fw2j⟩ := hW.at (k := k) (by omega)
        refine lv_iconst (v := nI 2) hx hb dL_law_755 (by decide) ?_
        refine hv_iald hx hb hKs hV fw2c (by omega) (by decide) dL_law_756 ?_
        refine hv_eqi (y := nI (cHt σ0 (k))) (fw2j 2 (by omega)) ?_
        refine lv_iload hx hb dL_law_757 (lv_at hl 3 rfl) ?_
        refine lv_isub hx hb dL_law_759 ?_
        refine lv_iconst (v := nI 1) hx hb dL_law_760 (by decide) ?_
        refine lv_isub hx hb dL_law_761 ?_
        refine hL_icmp_lt (tgt := 825) hx hb (by omega) dL_law_762 (by decide) (fun c762 => by rw [sub2_int (by omega) (by omega)] at c762; omega) (fun c762 => ?_)
        refine lv_iload hx hb dL_law_765 (lv_at hl 3 rfl) ?_
        refine hN_if_ne (tgt := 782) hx hb (by omega) dL_law_767 (by decide) (fun c767 => ?_) (fun c767 => ?_)
        · refine lv_aload_n hx hb dL_law_782 rfl (lv_at hl 12 rfl) ?_
          refine lv_iload hx hb dL_law_783 (lv_at hl 2 rfl) ?_
          refine lv_iconst (v := nI 3) hx hb dL_law_785 (by decide) ?_
          refine hv_call0 (kz_cane hO (by omega : k < gNC σ) (by omega : 3 < 5)) (vx_runV (As := [.int (nI (k)), .int (nI (3))]) (rest := []) ⟨hx, hb, hml, hown, hts⟩ (c_X3_cane l hfl D N0 ad ct hG hO (nI (k)) (nI (3))) (cwV 2 hts gL_law_X3_cane rfl rfl rfl (by decide +kernel) ⟨Nat.le_of_ble_eq_true rfl, Nat.le_of_ble_eq_true rfl⟩) (hv_preV (r := (RX3, TX3, 8)) hKs hV hS h00 rfl) rfl rfl hl.1 rfl (lv_room (Nat.le_of_ble_eq_true rfl)) dL_law_786 ⟨(show cells + 1 + 4 * k + 1 + 1 ≤ 600086 by omega), (show slots + 6 + 24 * k + 6 + 6 ≤ 7301442 by omega)⟩) hS (fun r9 u9 H locs hq hV hS => ?_)
          obtain ⟨-, hq, hu9⟩ := hq
          subst hu9
          have hV : hv D N0 ad ct H := hV
          simp only [toNat_nI (by omega : (k) < 2 ^ 31)] at hq
          refine hv_eqi (y := hbv (!cCr σ (k))) hq ?_
          refine lv_aload hx hb dL_law_789 (lv_at hl 5 rfl) ?_
          refine lv_iload hx hb dL_law_791 (lv_at hl 2 rfl) ?_
          refine hv_aaldA hx hb hKs hV h64 (by omega) (by omega) dL_law_793 ?_
          refine hv_eq (w := .ref (ad (16 * (k) + 80))) (by rw [if_pos (by omega : k < nc)]; rfl) ?_
          obtain ⟨fw3, fw3c, fw3j⟩ := hW.at (k := k) (by omega)
          refine lv_iconst (v := nI 3) hx hb dL_law_794 (by decide) ?_
          refine hv_iald hx hb hKs hV fw3c (by omega) (by decide) dL_law_795 ?_
          refine hv_eqi (y := hbv (!cCr σ0 (k))) (fw3j 3 (by omega)) ?_
          refine hI_icmp_gt (tgt := 825) hx hb dL_law_796 (by decide) (fun c796 => by exact absurd c796 (crk hH9.2.2.2)) (fun c796 => ?_)
          refine lv_aload_n hx hb dL_law_799 rfl (lv_at hl 12 rfl) ?_
          refine lv_iload hx hb dL_law_800 (lv_at hl 2 rfl) ?_
          refine lv_iconst (v := nI 1) hx hb dL_law_802 (by decide) ?_
          refine hv_call0 (kz_cane hO (by omega : k < gNC σ) (by omega : 1 < 5)) (vx_runV (As := [.int (nI (k)), .int (nI (1))]) (rest := []) ⟨hx, hb, hml, hown, hts⟩ (c_X3_cane l hfl D N0 ad ct hG hO (nI (k)) (nI (1))) (cwV 2 hts gL_law_X3_cane rfl rfl rfl (by decide +kernel) ⟨Nat.le_of_ble_eq_true rfl, Nat.le_of_ble_eq_true rfl⟩) (hv_preV (r := (RX3, TX3, 8)) hKs hV hS h00 rfl) rfl rfl hl.1 rfl (lv_room (Nat.le_of_ble_eq_true rfl)) dL_law_803 ⟨(show cells + 1 + 4 * k + 1 + 1 + 1 ≤ 600086 by omega), (show slots + 6 + 24 * k + 6 + 6 + 6 ≤ 7301442 by omega)⟩) hS (fun r9 u9 H locs hq hV hS => ?_)
          obtain ⟨-, hq, hu9⟩ := hq
          subst hu9
          have hV : hv D N0 ad ct H := hV
          simp only [toNat_nI (by omega : (k) < 2 ^ 31)] at hq
          refine hv_eqi (y := (cTw σ (k))) hq ?_
          refine va_mabs hx hb (hml.trans hl.1.symm) hown lk101 (hts (.static Lib.Math.abs.name) (by decide +kernel)) (hts (.initialized "java/lang/Math") (by decide +kernel)) (hts (.code Lib.Math.abs.name Lib.Math.abs.code 1 (some .int)) (by decide +kernel)) (Nat.le_of_ble_eq_true rfl) (Nat.le_of_ble_eq_true rfl) (show cells + 1 + 4 * k + 1 + 1 + 1 ≤ 600086 by omega) (show slots + 6 + 24 * k + 6 + 6 + 6 ≤ 7301442 by omega) dL_law_806 ?_
          refine lv_iconst (v := nI 4) hx hb dL_law_809 (by decide) ?_
          refine hR_icmp_gt (tgt := 825) hx hb (by omega) dL_law_810 (by decide) (fun c810 => by have := abs_4 (h2.1 k (by omega)); omega) (fun c810 => ?_)
          refine lv_aload_n hx hb dL_law_813 rfl (lv_at hl 12 rfl) ?_
          refine lv_iload hx hb dL_law_814 (lv_at hl 2 rfl) ?_
          refine lv_iconst (v := nI 0) hx hb dL_law_816 (by decide) ?_
          refine hv_call0 (kz_cane hO (by omega : k < gNC σ) (by omega : 0 < 5)) (vx_runV (As := [.int (nI (k)), .int (nI (0))]) (rest := []) ⟨hx, hb, hml, hown, hts⟩ (c_X3_cane l hfl D N0 ad ct hG hO (nI (k)) (nI (0))) (cwV 2 hts gL_law_X3_cane rfl rfl rfl (by decide +kernel) ⟨Nat.le_of_ble_eq_true rfl, Nat.le_of_ble_eq_true rfl⟩) (hv_preV (r := (RX3, TX3, 8)) hKs hV hS h00 rfl) rfl rfl hl.1 rfl (lv_room (Nat.le_of_ble_eq_true rfl)) dL_law_817 ⟨(show cells + 1 + 4 * k + 1 + 1 + 1 + 1 ≤ 600086 by omega), (show slots + 6 + 24 * k + 6 + 6 + 6 + 6 ≤ 7301442 by omega)⟩) hS (fun r9 u9 H locs hq hV hS => ?_)
          obtain ⟨-, hq, hu9⟩ := hq
          subst hu9
          have hV : hv D N0 ad ct H := hV
          simp only [toNat_nI (by omega : (k) < 2 ^ 31)] at hq
          refine hv_eqi (y := nI (cLen σ (k))) hq ?_
          refine lv_bipush (v := nI 60) hx hb dL_law_820 (by decide) ?_
          refine hN_icmp_le (tgt := 827) hx hb (by omega) (by omega) dL_law_822 (by decide) (fun c822 => ?_) (fun c822 => by exact absurd c822 (by omega))
          refine lv_iinc (v := nI (k + 1)) (lv' := [(15, .int (nI (k + 1))), (14, .int (nI (nsm (cHt σ) k + cHt σ (k)))), (16, .int (nI (cHt σ (k)))), (13, .int (nI (g))), (10, .ref (ad (208))), (9, .ref (ad (64))), (8, .int (nI (gNB σ0))), (7, .int (nI (gNS σ0))), (6, .int (gMi σ0)), (5, .int (nI (cn))), (4, .int (xv)), (0, .ref (b)), (1, .ref (ad (0))), (2, .int (nI (nc))), (3, .int (nI (i)))]) hx hb dL_law_827 hl (k := 2) rfl (nI_add (k) 1) (by decide) rfl (fun ls hl => ?_)
          refine lv_goto (tgt := 697) hx hb dL_law_830 (by decide) ?_
          refine W.widen (k := cells + 1 + 4 * (k + 1)) (n := slots + 6 + 24 * (k + 1)) (by omega) (by omega) ?_
          exact ih697 (k + 1)  (by omega) (by omega) _ _  hV hS ls (lv_sub hl [0, 1, 3, 4, 5, 6, 7, 8, 9, 10, 11, 12, 13, 14] rfl)
        · refine lv_iload hx hb dL_law_770 (lv_at hl 1 rfl) ?_
          refine lv_aload hx hb dL_law_772 (lv_at hl 5 rfl) ?_
          refine lv_iload hx hb dL_law_774 (lv_at hl 2 rfl) ?_
          refine hv_aaldA hx hb hKs hV h64 (by omega) (by omega) dL_law_776 ?_
          refine hv_eq (w := .ref (ad (16 * (k) + 80))) (by rw [if_pos (by omega : k < nc)]; rfl) ?_
          obtain ⟨fw4, fw4c, fw4j⟩ := hW.at (k := k) (by omega)
          refine lv_iconst (v := nI 2) hx hb dL_law_777 (by decide) ?_
          refine hv_iald hx hb hKs hV fw4c (by omega) (by decide) dL_law_778 ?_
          refine hv_eqi (y := nI (cHt σ0 (k))) (fw4j 2 (by omega)) ?_
          refine hN_icmp_ne (tgt := 825) hx hb (by omega) (by omega) dL_law_779 (by decide) (fun c779 => by exact absurd (hH9.2.2.1 c767) c779) (fun c779 => ?_)
          refine lv_aload_n hx hb dL_law_782 rfl (lv_at hl 12 rfl) ?_
          refine lv_iload hx hb dL_law_783 (lv_at hl 2 rfl) ?_
          refine lv_iconst (v := nI 3) hx hb dL_law_785 (by decide) ?_
          refine hv_call0 (kz_cane hO (by omega : k < gNC σ) (by omega : 3 < 5)) (vx_runV (As := [.int (nI (k)), .int (nI (3))]) (rest := []) ⟨hx, hb, hml, hown, hts⟩ (c_X3_cane l hfl D N0 ad ct hG hO (nI (k)) (nI (3))) (cwV 2 hts gL_law_X3_cane rfl rfl rfl (by decide +kernel) ⟨Nat.le_of_ble_eq_true rfl, Nat.le_of_ble_eq_true rfl⟩) (hv_preV (r := (RX3, TX3, 8)) hKs hV hS h00 rfl) rfl rfl hl.1 rfl (lv_room (Nat.le_of_ble_eq_true rfl)) dL_law_786 ⟨(show cells + 1 + 4 * k + 1 + 1 ≤ 600086 by omega), (show slots + 6 + 24 * k + 6 + 6 ≤ 7301442 by omega)⟩) hS (fun r9 u9 H locs hq hV hS => ?_)
          obtain ⟨-, hq, hu9⟩ := hq
          subst hu9
          have hV : hv D N0 ad ct H := hV
          simp only [toNat_nI (by omega : (k) < 2 ^ 31)] at hq
          refine hv_eqi (y := hbv (!cCr σ (k))) hq ?_
          refine lv_aload hx hb dL_law_789 (lv_at hl 5 rfl) ?_
          refine lv_iload hx hb dL_law_791 (lv_at hl 2 rfl) ?_
          refine hv_aaldA hx hb hKs hV h64 (by omega) (by omega) dL_law_793 ?_
          refine hv_eq (w := .ref (ad (16 * (k) + 80))) (by rw [if_pos (by omega : k < nc)]; rfl) ?_
          obtain ⟨fw5, fw5c, fw5j⟩ := hW.at (k := k) (by omega)
          refine lv_iconst (v := nI 3) hx hb dL_law_794 (by decide) ?_
          refine hv_iald hx hb hKs hV fw5c (by omega) (by decide) dL_law_795 ?_
          refine hv_eqi (y := hbv (!cCr σ0 (k))) (fw5j 3 (by omega)) ?_
          refine hI_icmp_gt (tgt := 825) hx hb dL_law_796 (by decide) (fun c796 => by exact absurd c796 (crk hH9.2.2.2)) (fun c796 => ?_)
          refine lv_aload_n hx hb dL_law_799 rfl (lv_at hl 12 rfl) ?_
          refine lv_iload hx hb dL_law_800 (lv_at hl 2 rfl) ?_
          refine lv_iconst (v := nI 1) hx hb dL_law_802 (by decide) ?_
          refine hv_call0 (kz_cane hO (by omega : k < gNC σ) (by omega : 1 < 5)) (vx_runV (As := [.int (nI (k)), .int (nI (1))]) (rest := []) ⟨hx, hb, hml, hown, hts⟩ (c_X3_cane l hfl D N0 ad ct hG hO (nI (k)) (nI (1))) (cwV 2 hts gL_law_X3_cane rfl rfl rfl (by decide +kernel) ⟨Nat.le_of_ble_eq_true rfl, Nat.le_of_ble_eq_true rfl⟩) (hv_preV (r := (RX3, TX3, 8)) hKs hV hS h00 rfl) rfl rfl hl.1 rfl (lv_room (Nat.le_of_ble_eq_true rfl)) dL_law_803 ⟨(show cells + 1 + 4 * k + 1 + 1 + 1 ≤ 600086 by omega), (show slots + 6 + 24 * k + 6 + 6 + 6 ≤ 7301442 by omega)⟩) hS (fun r9 u9 H locs hq hV hS => ?_)
          obtain ⟨-, hq, hu9⟩ := hq
          subst hu9
          have hV : hv D N0 ad ct H := hV
          simp only [toNat_nI (by omega : (k) < 2 ^ 31)] at hq
          refine hv_eqi (y := (cTw σ (k))) hq ?_
          refine va_mabs hx hb (hml.trans hl.1.symm) hown lk101 (hts (.static Lib.Math.abs.name) (by decide +kernel)) (hts (.initialized "java/lang/Math") (by decide +kernel)) (hts (.code Lib.Math.abs.name Lib.Math.abs.code 1 (some .int)) (by decide +kernel)) (Nat.le_of_ble_eq_true rfl) (Nat.le_of_ble_eq_true rfl) (show cells + 1 + 4 * k + 1 + 1 + 1 ≤ 600086 by omega) (show slots + 6 + 24 * k + 6 + 6 + 6 ≤ 7301442 by omega) dL_law_806 ?_
          refine lv_iconst (v := nI 4) hx hb dL_law_809 (by decide) ?_
          refine hR_icmp_gt (tgt := 825) hx hb (by omega) dL_law_810 (by decide) (fun c810 => by have := abs_4 (h2.1 k (by omega)); omega) (fun c810 => ?_)
          refine lv_aload_n hx hb dL_law_813 rfl (lv_at hl 12 rfl) ?_
          refine lv_iload hx hb dL_law_814 (lv_at hl 2 rfl) ?_
          refine lv_iconst (v := nI 0) hx hb dL_law_816 (by decide) ?_
          refine hv_call0 (kz_cane hO (by omega : k < gNC σ) (by omega : 0 < 5)) (vx_runV (As := [.int (nI (k)), .int (nI (0))]) (rest := []) ⟨hx, hb, hml, hown, hts⟩ (c_X3_cane l hfl D N0 ad ct hG hO (nI (k)) (nI (0))) (cwV 2 hts gL_law_X3_cane rfl rfl rfl (by decide +kernel) ⟨Nat.le_of_ble_eq_true rfl, Nat.le_of_ble_eq_true rfl⟩) (hv_preV (r := (RX3, TX3, 8)) hKs hV hS h00 rfl) rfl rfl hl.1 rfl (lv_room (Nat.le_of_ble_eq_true rfl)) dL_law_817 ⟨(show cells + 1 + 4 * k + 1 + 1 + 1 + 1 ≤ 600086 by omega), (show slots + 6 + 24 * k + 6 + 6 + 6 + 6 ≤ 7301442 by omega)⟩) hS (fun r9 u9 H locs hq hV hS => ?_)
          obtain ⟨-, hq, hu9⟩ := hq
          subst hu9
          have hV : hv D N0 ad ct H := hV
          simp only [toNat_nI (by omega : (k) < 2 ^ 31)] at hq
          refine hv_eqi (y := nI (cLen σ (k))) hq ?_
          refine lv_bipush (v := nI 60) hx hb dL_law_820 (by decide) ?_
          refine hN_icmp_le (tgt := 827) hx hb (by omega) (by omega) dL_law_822 (by decide) (fun c822 => ?_) (fun c822 => by exact absurd c822 (by omega))
          refine lv_iinc (v := nI (k + 1)) (lv' := [(15, .int (nI (k + 1))), (14, .int (nI (nsm (cHt σ) k + cHt σ (k)))), (16, .int (nI (cHt σ (k)))), (13, .int (nI (g))), (10, .ref (ad (208))), (9, .ref (ad (64))), (8, .int (nI (gNB σ0))), (7, .int (nI (gNS σ0))), (6, .int (gMi σ0)), (5, .int (nI (cn))), (4, .int (xv)), (0, .ref (b)), (1, .ref (ad (0))), (2, .int (nI (nc))), (3, .int (nI (i)))]) hx hb dL_law_827 hl (k := 2) rfl (nI_add (k) 1) (by decide) rfl (fun ls hl => ?_)
          refine lv_goto (tgt := 697) hx hb dL_law_830 (by decide) ?_
          refine W.widen (k := cells + 1 + 4 * (k + 1)) (n := slots + 6 + 24 * (k + 1)) (by omega) (by omega) ?_
          exact ih697 (k + 1)  (by omega) (by omega) _ _  hV hS ls (lv_sub hl [0, 1, 3, 4, 5, 6, 7, 8, 9, 10, 11, 12, 13, 14] rfl)
  refine W.widen (k := cells + 1 + 4 * (0)) (n := slots + 6 + 24 * (0)) (by omega) (by omega) ?_
  exact L697 (nc + 1) (0)  (by omega) (by omega) _ _  hV hS ls (lv_sub hl [0, 1, 2, 3, 4, 5, 6, 7, 8, 9, 10, 11, 12, 13] rfl)

set_option maxHeartbeats 4000000 in
set_option maxRecDepth 100000 in
theorem S_F {p : Program} {l : Launch} {e : Env} {s : State} {m : MethodId} {below : List Frame} {meth : Method} {c : Code} {b L N0 : Nat} {xs : Nat → Int32} {Q : State → Prop} {D : hG} (CT : LC p l s m c b L N0 xs D) {ad : Nat → Nat} {ct : hC} {H : Heap} {locs : List Loc} {cells slots : Nat} (hV : hv D N0 ad ct H) (hS : va_S (hA N0) s.heap H locs) {ls : Array Slot} {σ0 σ : gS} {nc i g : Nat} {xv : Int32} {cn rr : Nat} (hi : i < 30) (hcn1 : cn < nc) (hrr : rr = i % 5) (hg4 : g ≤ 4) (hA9 : lA D σ nc ad ct) (hrel : rel g σ0 σ) (hLk : lookN D σ0 rr (gNS σ0) 12 ad ct) (hl : lv_has ls 22 [(10, .ref (ad (208))), (8, .int (nI (gNB σ0))), (7, .int (nI (gNS σ0))), (6, .int (gMi σ0)), (5, .int (nI (cn))), (4, .int (xv)), (0, .ref (b)), (1, .ref (ad (0))), (2, .int (nI (nc))), (3, .int (nI (i)))]) (hr1 : cells + 300 ≤ 600086) (hr2 : slots + 2016 ≤ 7301442)
    (K : ∀  (ad1 : Nat → Nat) (ct1 : hC) (H1 : Heap) (locs1 : List Loc) (ls1 : Array Slot), lA D σ nc ad1 ct1 → hv D N0 ad1 ct1 H1 → va_S (hA N0) s.heap H1 locs1 → lv_has ls1 22 [(8, .int (nI (gNB σ0))), (7, .int (nI (gNS σ0))), (6, .int (gMi σ0)), (5, .int (nI (cn))), (4, .int (xv)), (0, .ref (b)), (1, .ref (ad1 (0))), (2, .int (nI (nc))), (3, .int (nI (i)))] → W p l e room_1 s m #[Value.ref b] below meth c H1 locs1 (cells + 300) (slots + 2016) Q (F0 m 886 ls1 [])) : W p l e room_1 s m #[Value.ref b] below meth c H locs cells slots Q (F0 m 849 ls []) := by
  obtain ⟨hfl, hts, hts0, hx, hb, hml, hown, hX, hbs, hbA, hbl, hL, hKs⟩ := CT
  obtain ⟨hO, h2, hnc0, hc, hG⟩ := hA9
  have h00 := hG.1
  obtain ⟨hn8, hn60, hn6, -⟩ := id hO
  obtain ⟨hrC, hrB, hrS, hrP, hrH, hrM⟩ := id hrel
  refine lv_iload_n hx hb dL_law_849 rfl (lv_at hl 9 rfl) ?_
  refine lv_iconst (v := nI 5) hx hb dL_law_850 (by decide) ?_
  refine hN_irem hx hb (by omega) (by omega) (by omega) dL_law_851 ?_
  refine hv_eqi (y := nI rr) (by rw [hrr]) ?_
  have hrr5 : rr < 5 := by omega
  refine lv_istore (lv' := [(15, .int (nI (rr))), (10, .ref (ad (208))), (8, .int (nI (gNB σ0))), (7, .int (nI (gNS σ0))), (6, .int (gMi σ0)), (5, .int (nI (cn))), (4, .int (xv)), (0, .ref (b)), (1, .ref (ad (0))), (2, .int (nI (nc))), (3, .int (nI (i)))]) hx hb dL_law_852 hl (by decide) rfl (fun ls hl => ?_)
  have L854 : ∀ (n jj : Nat), jj ≤ 12 → 12 < jj + n → ∀ (ad : Nat → Nat) (ct : hC) (H : Heap) (locs : List Loc), (gX D σ ad ct) → (lookN D σ0 rr (gNS σ0) 12 ad ct) → hv D N0 ad ct H → va_S (hA N0) s.heap H locs → ∀ ls : Array Slot, lv_has ls 22 [(15, .int (nI (rr + 5 * jj))), (10, .ref (ad (208))), (8, .int (nI (gNB σ0))), (7, .int (nI (gNS σ0))), (6, .int (gMi σ0)), (5, .int (nI (cn))), (4, .int (xv)), (0, .ref (b)), (1, .ref (ad (0))), (2, .int (nI (nc))), (3, .int (nI (i)))] → W p l e room_1 s m #[Value.ref b] below meth c H locs (cells + 25 * jj) (slots + 168 * jj) Q (F0 m 854 ls []) := by
    intro n
    induction n with
    | zero => intro jj h1 h2; exact absurd h2 (by omega)
    | succ n ih854 =>
      intro jj hi854 hn854 ad ct H locs hG hLk hV hS ls hl
      have h00 := hG.1
      refine lv_iload hx hb dL_law_854 (lv_at hl 0 rfl) ?_
      refine lv_iload hx hb dL_law_856 (lv_at hl 3 rfl) ?_
      refine hN_icmp_ge (tgt := 886) hx hb (by omega) (by omega) dL_law_858 (by decide) (fun c858 => ?_) (fun c858 => ?_)
      · refine W.widen (k := cells + 300) (n := slots + 2016) (by omega) (by omega) ?_
        exact K  ad ct _ _ _ (⟨hO, h2, hnc0, hc, hG⟩) hV hS (lv_sub hl [2, 3, 4, 5, 6, 7, 8, 9, 10] rfl)
      · refine lv_aload_n hx hb dL_law_861 rfl (lv_at hl 8 rfl) ?_
        refine lv_iload hx hb dL_law_862 (lv_at hl 0 rfl) ?_
        refine hv_callq (va_runS (As := [.ref (ad (0)), .int (nI (rr + 5 * jj))]) (rest := []) ⟨hx, hb, hml, hown, hts⟩ (c_L_look l D N0 ad ct hfl hG hO (by omega : rr + 5 * jj < gNS σ) (tg := 1200) (by omega)) (va_cwS 2 hts gL_law_L_look rfl rfl rfl (by decide +kernel) ⟨Nat.le_of_ble_eq_true rfl, Nat.le_of_ble_eq_true rfl⟩) (hv_preS hKs hV hS) rfl rfl hl.1 rfl (lv_room (Nat.le_of_ble_eq_true rfl)) dL_law_864 ⟨(show cells + 25 * jj + 25 ≤ 600086 by omega), (show slots + 168 * jj + 168 ≤ 7301442 by omega)⟩) hS (fun r9 u9 H locs hq hV hS => ?_)
        obtain ⟨ad, ct⟩ := u9
        dsimp only at hq
        obtain ⟨hz9, ⟨F, hF9, hFj⟩, hfr⟩ := hq
        have hV : hv D N0 ad ct H := hV
        subst hz9
        have hna := fun (q : Nat) (q1 : q ≠ 1200) => (hfr q q1).1
        have hne := fun (q : Nat) (q1 : q ≠ 1200) => (hfr q q1).2
        try dsimp only at hna hne
        refine hv_eq (w := .ref (ad (1200))) rfl ?_
        have hl : lv_has ls 22 [(15, .int (nI (rr + 5 * jj))), (10, .ref (ad (208))), (8, .int (nI (gNB σ0))), (7, .int (nI (gNS σ0))), (6, .int (gMi σ0)), (5, .int (nI (cn))), (4, .int (xv)), (0, .ref (b)), (1, .ref (ad (0))), (2, .int (nI (nc))), (3, .int (nI (i)))] := by rw [hna (208) (by omega), hna (0) (by omega)]; exact hl
        have h00 : ct (0) = some (eO 3 [.ref (ad (16)), .ref (ad (32)), .ref (ad (48)), .int (nI (gNC σ)), .int (nI (gNS σ)), .int (nI (gNB σ)), .int (gFu σ), .int (gMi σ)]) := by rw [hne (0) (by omega), hna (16) (by omega), hna (32) (by omega), hna (48) (by omega)]; exact h00
        have hG := hG.keep (ct' := ct) (ad' := ad) (fun z h1 h2 => hne z (by omega)) (fun z h1 h2 => hna z (by omega))
        have hLk := hLk.keep (ct' := ct) (ad' := ad) (by omega) (fun q h1 h2 h3 h4 => hne q (by omega)) (fun q h1 h2 h3 h4 => hna q (by omega))
        refine lv_aload hx hb dL_law_867 (lv_at hl 1 rfl) ?_
        refine lv_iload hx hb dL_law_869 (lv_at hl 0 rfl) ?_
        obtain ⟨gg, hg1, hg2⟩ := hLk
        obtain ⟨hg3, f5, hg4, hg5⟩ := hg2 (rr + 5 * jj) (by omega) (by omega) (by omega)
        refine hv_aaldA hx hb hKs hV hg1 (by omega) (by omega) dL_law_871 ?_
        refine hv_eq (w := .ref (ad (16 * (rr + 5 * jj) + 224))) (by rw [hg3]; rfl) ?_
        have hLk : lookN D σ0 rr (gNS σ0) 12 ad ct := ⟨gg, hg1, hg2⟩
        refine hv_calli (va_runS (As := [.ref (ad (1200)), .ref (ad (16 * (rr + 5 * jj) + 224))]) (rest := []) ⟨hx, hb, hml, hown, hts0⟩ (c_JE l D N0 ad ct hF9 hg4 (fun j hj => by rw [hFj j hj, hg5 j hj, hrP (rr + 5 * jj) (by omega)])) (va_cwS 2 hts0 gLE rfl rfl rfl (by decide +kernel) ⟨Nat.le_of_ble_eq_true rfl, Nat.le_of_ble_eq_true rfl⟩) (hv_preS hKs hV hS) rfl rfl hl.1 rfl (lv_room (Nat.le_of_ble_eq_true rfl)) dL_law_872 ⟨(show cells + 25 * jj + 25 + 0 ≤ 600086 by omega), (show slots + 168 * jj + 168 + 0 ≤ 7301442 by omega)⟩) hS (fun r9 u9 H locs hq hV hS => ?_)
        obtain ⟨rfl, rfl⟩ := hq
        have hV : hv D N0 ad ct H := hV
        refine hN_if_ne (tgt := 880) hx hb (by omega) dL_law_875 (by decide) (fun c875 => ?_) (fun c875 => by exact absurd c875 (by omega))
        refine lv_iinc (v := nI (rr + 5 * (jj + 1))) (lv' := [(15, .int (nI (rr + 5 * (jj + 1)))), (10, .ref (ad (208))), (8, .int (nI (gNB σ0))), (7, .int (nI (gNS σ0))), (6, .int (gMi σ0)), (5, .int (nI (cn))), (4, .int (xv)), (0, .ref (b)), (1, .ref (ad (0))), (2, .int (nI (nc))), (3, .int (nI (i)))]) hx hb dL_law_880 hl (k := 0) rfl (by rw [show rr + 5 * (jj + 1) = rr + 5 * jj + 5 by omega]; exact nI_add _ _) (by decide) rfl (fun ls hl => ?_)
        refine lv_goto (tgt := 854) hx hb dL_law_883 (by decide) ?_
        refine W.widen (k := cells + 25 * (jj + 1)) (n := slots + 168 * (jj + 1)) (by omega) (by omega) ?_
        exact ih854 (jj + 1)  (by omega) (by omega) ad ct _ _ (hG) (hLk) hV hS ls (lv_sub hl [0, 1, 2, 3, 4, 5, 6, 7, 8, 9, 10] rfl)
  refine W.widen (k := cells + 25 * (0)) (n := slots + 168 * (0)) (by omega) (by omega) ?_
  exact L854 (12 + 1) (0)  (by omega) (by omega) ad ct _ _ (hG) (hLk) hV hS ls (lv_sub hl [0, 1, 2, 3, 4, 5, 6, 7, 8, 9, 10] rfl)
