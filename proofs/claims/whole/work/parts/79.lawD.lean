set_option maxHeartbeats 4000000 in
set_option maxRecDepth 100000 in
/-- the law's loop, from its head -/
theorem L_loop {p : Program} {l : Launch} {e : Env} {s : State} {m : MethodId} {below : List Frame} {meth : Method} {c : Code} {b L N0 : Nat} {xs : Nat → Int32} (hfl : l.stackTraces = false) (hts : ∀ w ∈ wsL_law, w.before #[Value.ref b] s = true) (hx : p.tables.exec = Jvm.exec) (hb : c.code = code) (hr : meth.sig.returnType = ret) (hlocks : meth.locks = false) (hml : c.maxLocals = 9) (hown : s.vm.findClass RL = some m.cls) (hX : va_X b L xs s s.heap) (hbl : b < s.heap.size) (hbA : ¬ hA N0 b) (hN0 : N0 = s.heap.size) (hL : L ≤ 3072) {D : hG} (hKs : hK D N0 s) :
    ∀ (n j : Nat), L + 12 < 6 * j + n → 6 * j ≤ L + 6 → ∀ (σ : gS) (ad : Nat → Nat) (ct : hC) (H : Heap) (locs : List Loc) (ls : Array Slot), gL D σ ad ct → hv D N0 ad ct H → va_S (hA N0) s.heap H locs → lv_has ls 9 [(0, .ref b), (1, .ref (ad 0)), (2, .ref (ad 80)), (3, .ref (ad 64)), (4, .int (nI (6 * j)))] → W p l e room_1 s m #[Value.ref b] below meth c H locs (16 + 64 * j) (480 + 400 * j) (lw_Z below #[Value.ref b] s) (F0 m 23 ls []) := by
  intro n
  induction n with
  | zero => intro j h1 h2; omega
  | succ n ih =>
    intro j h1 h2 σ ad ct H locs ls hI hV hS hl
    refine lv_iload hx hb dL_law_23 (lv_at hl 4 rfl) ?_
    refine lv_aload_n hx hb dL_law_25 rfl (lv_at hl 0 rfl) ?_
    refine va_slen hx hb hX hbl hbA hS dL_law_26 ?_
    refine hv_eqi (y := nI L) rfl ?_
    refine lv_bipush (v := nI 6) hx hb dL_law_27 (by decide) ?_
    refine lv_isub hx hb dL_law_29 ?_
    refine hL_icmp_gt (tgt := 1574) hx hb (by omega) dL_law_30 (by decide) (fun c30 => ?_) (fun c30 => ?_)
    · refine lv_iconst (v := nI 1) hx hb dL_law_1574 (by decide) ?_
      rw [sub6_int (by omega)] at c30
      refine W.widen (k := 601024) (n := 7293033) (by omega) (by omega) ?_
      refine va_forget (fun q hq => by have := hS.2.2 q hq; rw [hN0] at this; exact this) ?_
      exact lw_ret (d0 := s.drawn) (Drawn.sameBut.refl s.drawn lw_cs) hx hb hr hlocks dL_law_1575
    · rw [sub6_int (by omega)] at c30
      refine lv_aload_n hx hb dL_law_33 rfl (lv_at hl 0 rfl) ?_
      refine lv_iload hx hb dL_law_34 (lv_at hl 4 rfl) ?_
      refine va_sld hx hb hX hbl hbA hS (nI_in (by omega) (by omega)) dL_law_36 ?_
      refine lv_bipush (v := nI 31) hx hb dL_law_37 (by decide) ?_
      refine lv_iand hx hb dL_law_39 ?_
      obtain ⟨k, hk, hkv⟩ := and31 (xs (nI (6 * j)).toNatClampNeg)
      refine hv_eqi hkv ?_
      have K : ∀ (σ1 : gS) (ad1 : Nat → Nat) (ct1 : hC) (H1 : Heap) (locs1 : List Loc) (ls1 : Array Slot), gL D σ1 ad1 ct1 → hv D N0 ad1 ct1 H1 → va_S (hA N0) s.heap H1 locs1 → lv_has ls1 9 [(0, .ref b), (1, .ref (ad1 0)), (2, .ref (ad1 80)), (3, .ref (ad1 64)), (4, .int (nI (6 * j + 6)))] → W p l e room_1 s m #[Value.ref b] below meth c H1 locs1 (16 + 64 * j + 64) (480 + 400 * j + 400) (lw_Z below #[Value.ref b] s) (F0 m 23 ls1 []) := by
        intro σ1 ad1 ct1 H1 locs1 ls1 q1 q2 q3 q4
        refine W.widen (k := 16 + 64 * (j + 1)) (n := 480 + 400 * (j + 1)) (by omega) (by omega) ?_
        exact ih (j + 1) (by omega) (by omega) σ1 ad1 ct1 H1 locs1 ls1 q1 q2 q3 (by rw [show 6 * (j + 1) = 6 * j + 6 by omega]; exact q4)
      rcases (show k = 0 ∨ k = 1 ∨ k = 2 ∨ k = 3 ∨ k = 4 ∨ k = 5 ∨ k = 6 ∨ k = 7 ∨ k = 8 ∨ k = 9 ∨ k = 10 ∨ k = 11 ∨ k = 12 ∨ k = 13 ∨ k = 14 ∨ k = 15 ∨ k = 16 ∨ k = 17 ∨ k = 18 ∨ k = 19 ∨ k = 20 ∨ k = 21 ∨ k = 22 ∨ k = 23 ∨ k = 24 ∨ k = 25 ∨ k = 26 ∨ k = 27 ∨ k = 28 ∨ k = 29 ∨ k = 30 ∨ k = 31 by omega) with rfl | rfl | rfl | rfl | rfl | rfl | rfl | rfl | rfl | rfl | rfl | rfl | rfl | rfl | rfl | rfl | rfl | rfl | rfl | rfl | rfl | rfl | rfl | rfl | rfl | rfl | rfl | rfl | rfl | rfl | rfl | rfl
      · refine lv_tableIn (tgt := 144) hx hb dL_law_40 (by decide) (by decide) rfl (by decide) ?_
        exact L_begin hfl hts hx hb hml hown hX hbl hbA hL hKs hI hV hS (by omega) hl (by omega) (by omega) K
      · refine lv_tableIn (tgt := 188) hx hb dL_law_40 (by decide) (by decide) rfl (by decide) ?_
        exact L_lay hfl hts hx hb hml hown hX hbl hbA hL hKs hI hV hS (by omega) hl (by omega) (by omega) K
      · refine lv_tableIn (tgt := 299) hx hb dL_law_40 (by decide) (by decide) rfl (by decide) ?_
        exact L_twist hfl hts hx hb hml hown hX hbl hbA hL hKs hI hV hS (by omega) hl (by omega) (by omega) K
      · refine lv_tableIn (tgt := 374) hx hb dL_law_40 (by decide) (by decide) rfl (by decide) ?_
        exact L_pull hfl hts hx hb hml hown hX hbl hbA hL hKs hI hV hS (by omega) hl (by omega) (by omega) K
      · refine lv_tableIn (tgt := 437) hx hb dL_law_40 (by decide) (by decide) rfl (by decide) ?_
        exact L_furnace hfl hts hx hb hml hown hX hbl hbA hL hKs hI hV hS (by omega) hl (by omega) (by omega) K
      · refine lv_tableIn (tgt := 493) hx hb dL_law_40 (by decide) (by decide) rfl (by decide) ?_
        exact L_rest hfl hts hx hb hml hown hX hbl hbA hL hKs hI hV hS (by omega) hl (by omega) (by omega) K
      · refine lv_tableIn (tgt := 549) hx hb dL_law_40 (by decide) (by decide) rfl (by decide) ?_
        exact L_cut hfl hts hx hb hml hown hX hbl hbA hL hKs hI hV hS (by omega) hl (by omega) (by omega) K
      · refine lv_tableIn (tgt := 605) hx hb dL_law_40 (by decide) (by decide) rfl (by decide) ?_
        exact L_cane hfl hts hx hb hml hown hX hbl hbA hL hKs hI hV hS (by omega) hl (by omega) (by omega) K
      · refine lv_tableIn (tgt := 673) hx hb dL_law_40 (by decide) (by decide) rfl (by decide) ?_
        exact L_shows hfl hts hx hb hml hown hX hbl hbA hL hKs hI hV hS (by omega) hl (by omega) (by omega) K
      · refine lv_tableIn (tgt := 765) hx hb dL_law_40 (by decide) (by decide) rfl (by decide) ?_
        exact L_colour hfl hts hx hb hml hown hX hbl hbA hL hKs hI hV hS (by omega) hl (by omega) (by omega) K
      · refine lv_tableIn (tgt := 845) hx hb dL_law_40 (by decide) (by decide) rfl (by decide) ?_
        exact L_where hfl hts hx hb hml hown hX hbl hbA hL hKs hI hV hS (by omega) hl (by omega) (by omega) K
      · refine lv_tableIn (tgt := 901) hx hb dL_law_40 (by decide) (by decide) rfl (by decide) ?_
        exact L_bead hfl hts hx hb hml hown hX hbl hbA hL hKs hI hV hS (by omega) hl (by omega) (by omega) K
      · refine lv_tableIn (tgt := 945) hx hb dL_law_40 (by decide) (by decide) rfl (by decide) ?_
        exact L_set hfl hts hx hb hml hown hX hbl hbA hL hKs hI hV hS (by omega) hl (by omega) (by omega) K
      · refine lv_tableIn (tgt := 1037) hx hb dL_law_40 (by decide) (by decide) rfl (by decide) ?_
        exact L_drop hfl hts hx hb hml hown hX hbl hbA hL hKs hI hV hS (by omega) hl (by omega) (by omega) K
      · refine lv_tableIn (tgt := 1105) hx hb dL_law_40 (by decide) (by decide) rfl (by decide) ?_
        exact L_seen hfl hts hx hb hml hown hX hbl hbA hL hKs hI hV hS (by omega) hl (by omega) (by omega) K
      · refine lv_tableIn (tgt := 1197) hx hb dL_law_40 (by decide) (by decide) rfl (by decide) ?_
        exact L_count hfl hts hx hb hml hown hX hbl hbA hL hKs hI hV hS (by omega) hl (by omega) (by omega) K
      · refine lv_tableIn (tgt := 1253) hx hb dL_law_40 (by decide) (by decide) rfl (by decide) ?_
        exact L_again hfl hts hx hb hml hown hX hbl hbA hL hKs hI hV hS (by omega) hl (by omega) (by omega) K
      · refine lv_tableIn (tgt := 1321) hx hb dL_law_40 (by decide) (by decide) rfl (by decide) ?_
        exact L_turn hfl hts hx hb hml hown hX hbl hbA hL hKs hI hV hS (by omega) hl (by omega) (by omega) K
      · refine lv_tableIn (tgt := 1389) hx hb dL_law_40 (by decide) (by decide) rfl (by decide) ?_
        exact L_cuts hfl hts hx hb hml hown hX hbl hbA hL hKs hI hV hS (by omega) hl (by omega) (by omega) K
      · refine lv_tableIn (tgt := 1457) hx hb dL_law_40 (by decide) (by decide) rfl (by decide) ?_
        exact L_mends hfl hts hx hb hml hown hX hbl hbA hL hKs hI hV hS (by omega) hl (by omega) (by omega) K
      · refine lv_tableIn (tgt := 1513) hx hb dL_law_40 (by decide) (by decide) rfl (by decide) ?_
        exact L_mean hfl hts hx hb hml hown hX hbl hbA hL hKs hI hV hS (by omega) hl (by omega) (by omega) K
      · refine lv_tableIn (tgt := 1554) hx hb dL_law_40 (by decide) (by decide) rfl (by decide) ?_
        exact L_digest hfl hts hx hb hml hown hX hbl hbA hL hKs hI hV hS (by omega) hl (by omega) (by omega) K
      · refine lv_tableOut (tgt := 1568) hx hb dL_law_40 (by decide) (by decide) ?_
        refine lv_iinc (v := nI (6 * j + 6)) (lv' := [(4, .int (nI (6 * j + 6))), (0, .ref b), (1, .ref (ad 0)), (2, .ref (ad 80)), (3, .ref (ad 64))]) hx hb dL_law_1568 hl (k := 4) rfl (nI_add (6 * j) 6) (by decide) rfl (fun ls hl => ?_)
        refine lv_goto (tgt := 23) hx hb dL_law_1571 (by decide) ?_
        refine W.widen (k := 16 + 64 * j + 64) (n := 480 + 400 * j + 400) (by omega) (by omega) ?_
        exact K σ ad ct H locs ls hI hV hS (lv_sub hl [1, 2, 3, 4, 0] rfl)
      · refine lv_tableOut (tgt := 1568) hx hb dL_law_40 (by decide) (by decide) ?_
        refine lv_iinc (v := nI (6 * j + 6)) (lv' := [(4, .int (nI (6 * j + 6))), (0, .ref b), (1, .ref (ad 0)), (2, .ref (ad 80)), (3, .ref (ad 64))]) hx hb dL_law_1568 hl (k := 4) rfl (nI_add (6 * j) 6) (by decide) rfl (fun ls hl => ?_)
        refine lv_goto (tgt := 23) hx hb dL_law_1571 (by decide) ?_
        refine W.widen (k := 16 + 64 * j + 64) (n := 480 + 400 * j + 400) (by omega) (by omega) ?_
        exact K σ ad ct H locs ls hI hV hS (lv_sub hl [1, 2, 3, 4, 0] rfl)
      · refine lv_tableOut (tgt := 1568) hx hb dL_law_40 (by decide) (by decide) ?_
        refine lv_iinc (v := nI (6 * j + 6)) (lv' := [(4, .int (nI (6 * j + 6))), (0, .ref b), (1, .ref (ad 0)), (2, .ref (ad 80)), (3, .ref (ad 64))]) hx hb dL_law_1568 hl (k := 4) rfl (nI_add (6 * j) 6) (by decide) rfl (fun ls hl => ?_)
        refine lv_goto (tgt := 23) hx hb dL_law_1571 (by decide) ?_
        refine W.widen (k := 16 + 64 * j + 64) (n := 480 + 400 * j + 400) (by omega) (by omega) ?_
        exact K σ ad ct H locs ls hI hV hS (lv_sub hl [1, 2, 3, 4, 0] rfl)
      · refine lv_tableOut (tgt := 1568) hx hb dL_law_40 (by decide) (by decide) ?_
        refine lv_iinc (v := nI (6 * j + 6)) (lv' := [(4, .int (nI (6 * j + 6))), (0, .ref b), (1, .ref (ad 0)), (2, .ref (ad 80)), (3, .ref (ad 64))]) hx hb dL_law_1568 hl (k := 4) rfl (nI_add (6 * j) 6) (by decide) rfl (fun ls hl => ?_)
        refine lv_goto (tgt := 23) hx hb dL_law_1571 (by decide) ?_
        refine W.widen (k := 16 + 64 * j + 64) (n := 480 + 400 * j + 400) (by omega) (by omega) ?_
        exact K σ ad ct H locs ls hI hV hS (lv_sub hl [1, 2, 3, 4, 0] rfl)
      · refine lv_tableOut (tgt := 1568) hx hb dL_law_40 (by decide) (by decide) ?_
        refine lv_iinc (v := nI (6 * j + 6)) (lv' := [(4, .int (nI (6 * j + 6))), (0, .ref b), (1, .ref (ad 0)), (2, .ref (ad 80)), (3, .ref (ad 64))]) hx hb dL_law_1568 hl (k := 4) rfl (nI_add (6 * j) 6) (by decide) rfl (fun ls hl => ?_)
        refine lv_goto (tgt := 23) hx hb dL_law_1571 (by decide) ?_
        refine W.widen (k := 16 + 64 * j + 64) (n := 480 + 400 * j + 400) (by omega) (by omega) ?_
        exact K σ ad ct H locs ls hI hV hS (lv_sub hl [1, 2, 3, 4, 0] rfl)
      · refine lv_tableOut (tgt := 1568) hx hb dL_law_40 (by decide) (by decide) ?_
        refine lv_iinc (v := nI (6 * j + 6)) (lv' := [(4, .int (nI (6 * j + 6))), (0, .ref b), (1, .ref (ad 0)), (2, .ref (ad 80)), (3, .ref (ad 64))]) hx hb dL_law_1568 hl (k := 4) rfl (nI_add (6 * j) 6) (by decide) rfl (fun ls hl => ?_)
        refine lv_goto (tgt := 23) hx hb dL_law_1571 (by decide) ?_
        refine W.widen (k := 16 + 64 * j + 64) (n := 480 + 400 * j + 400) (by omega) (by omega) ?_
        exact K σ ad ct H locs ls hI hV hS (lv_sub hl [1, 2, 3, 4, 0] rfl)
      · refine lv_tableOut (tgt := 1568) hx hb dL_law_40 (by decide) (by decide) ?_
        refine lv_iinc (v := nI (6 * j + 6)) (lv' := [(4, .int (nI (6 * j + 6))), (0, .ref b), (1, .ref (ad 0)), (2, .ref (ad 80)), (3, .ref (ad 64))]) hx hb dL_law_1568 hl (k := 4) rfl (nI_add (6 * j) 6) (by decide) rfl (fun ls hl => ?_)
        refine lv_goto (tgt := 23) hx hb dL_law_1571 (by decide) ?_
        refine W.widen (k := 16 + 64 * j + 64) (n := 480 + 400 * j + 400) (by omega) (by omega) ?_
        exact K σ ad ct H locs ls hI hV hS (lv_sub hl [1, 2, 3, 4, 0] rfl)
      · refine lv_tableOut (tgt := 1568) hx hb dL_law_40 (by decide) (by decide) ?_
        refine lv_iinc (v := nI (6 * j + 6)) (lv' := [(4, .int (nI (6 * j + 6))), (0, .ref b), (1, .ref (ad 0)), (2, .ref (ad 80)), (3, .ref (ad 64))]) hx hb dL_law_1568 hl (k := 4) rfl (nI_add (6 * j) 6) (by decide) rfl (fun ls hl => ?_)
        refine lv_goto (tgt := 23) hx hb dL_law_1571 (by decide) ?_
        refine W.widen (k := 16 + 64 * j + 64) (n := 480 + 400 * j + 400) (by omega) (by omega) ?_
        exact K σ ad ct H locs ls hI hV hS (lv_sub hl [1, 2, 3, 4, 0] rfl)
      · refine lv_tableOut (tgt := 1568) hx hb dL_law_40 (by decide) (by decide) ?_
        refine lv_iinc (v := nI (6 * j + 6)) (lv' := [(4, .int (nI (6 * j + 6))), (0, .ref b), (1, .ref (ad 0)), (2, .ref (ad 80)), (3, .ref (ad 64))]) hx hb dL_law_1568 hl (k := 4) rfl (nI_add (6 * j) 6) (by decide) rfl (fun ls hl => ?_)
        refine lv_goto (tgt := 23) hx hb dL_law_1571 (by decide) ?_
        refine W.widen (k := 16 + 64 * j + 64) (n := 480 + 400 * j + 400) (by omega) (by omega) ?_
        exact K σ ad ct H locs ls hI hV hS (lv_sub hl [1, 2, 3, 4, 0] rfl)
      · refine lv_tableOut (tgt := 1568) hx hb dL_law_40 (by decide) (by decide) ?_
        refine lv_iinc (v := nI (6 * j + 6)) (lv' := [(4, .int (nI (6 * j + 6))), (0, .ref b), (1, .ref (ad 0)), (2, .ref (ad 80)), (3, .ref (ad 64))]) hx hb dL_law_1568 hl (k := 4) rfl (nI_add (6 * j) 6) (by decide) rfl (fun ls hl => ?_)
        refine lv_goto (tgt := 23) hx hb dL_law_1571 (by decide) ?_
        refine W.widen (k := 16 + 64 * j + 64) (n := 480 + 400 * j + 400) (by omega) (by omega) ?_
        exact K σ ad ct H locs ls hI hV hS (lv_sub hl [1, 2, 3, 4, 0] rfl)
