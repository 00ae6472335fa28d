/-! THE JDK's COMPARING OF TWO EQUAL ROWS OF 24 NUMBERS -/
def wsJU : List Cond := .code yJx9a822_getLongUnaligned_f02c6 cJx9a822_getLongUnaligned_f02c6 4 (some .long) :: [.constantLong RJx9a822 696 7, .methodLink RJx9a822 27 yGL, .selects RJx9a822 yGL yGL, .instanceMethod yGL, .native yGL]
def wsJV : List Cond := .code yJ8_vectorizedMismatch_456ae cJ8_vectorizedMismatch_456ae 19 (some .int) :: ([.fieldLink RJ8 20 "jdk/internal/util/ArraysSupport" "LOG2_ARRAY_LONG_INDEX_SCALE" "I", .fieldLink RJ8 26 "jdk/internal/util/ArraysSupport" "U" "Ljdk/internal/misc/Unsafe;", .fieldLink RJ8 51 "jdk/internal/util/ArraysSupport" "LOG2_ARRAY_INT_INDEX_SCALE" "I"] ++ wsV RJ8 30 RJx9a822 yJx9a822_getLongUnaligned_f02c6 wsJU)
def wsJM : List Cond := .code yJ8_mismatch_05dfe cJ8_mismatch_05dfe 4 (some .int) :: ([.fieldLink RJ8 144 "jdk/internal/misc/Unsafe" "ARRAY_INT_BASE_OFFSET" "I", .fieldLink RJ8 51 "jdk/internal/util/ArraysSupport" "LOG2_ARRAY_INT_INDEX_SCALE" "I"] ++ va_wsS RJ8 122 yJ8_vectorizedMismatch_456ae wsJV)
def wsJE : List Cond := .code yJ7_equals_bbcde cJ7_equals_bbcde 3 (some .boolean) :: va_wsS RJ7 254 yJ8_mismatch_05dfe wsJM
theorem wsJU_good : (wsV RJ8 30 RJx9a822 yJx9a822_getLongUnaligned_f02c6 wsJU).all goodWord = true := by decide +kernel
theorem wsJV_good : (va_wsS RJ8 122 yJ8_vectorizedMismatch_456ae wsJV).all goodWord = true := by decide +kernel
theorem wsJM_good : (va_wsS RJ7 254 yJ8_mismatch_05dfe wsJM).all goodWord = true := by decide +kernel
theorem gJV : GoodIn wsJV (wsV RJ8 30 RJx9a822 yJx9a822_getLongUnaligned_f02c6 wsJU) := goodIn_sub (fun _ h => List.mem_cons_of_mem _ (List.mem_append_right _ h)) wsJU_good
theorem gJM : GoodIn wsJM (va_wsS RJ8 122 yJ8_vectorizedMismatch_456ae wsJV) := goodIn_sub (fun _ h => List.mem_cons_of_mem _ (List.mem_append_right _ h)) wsJV_good
theorem gJE : GoodIn wsJE (va_wsS RJ7 254 yJ8_mismatch_05dfe wsJM) := goodIn_sub (fun _ h => List.mem_cons_of_mem _ h) wsJM_good
theorem jv_off : ∀ w, w < 12 → (nI w).toInt64 <<< ((3 : Int32).toInt64 &&& 63) = Int64.ofNat (8 * w) := by decide +kernel
theorem jv_1 : ∀ w, w < 12 → ((16 : Int64) + Int64.ofNat (8 * w)) &&& 7 = 0 ∧ ¬ ((16 : Int64) + Int64.ofNat (8 * w) < 0) ∧ ((16 : Int64) + Int64.ofNat (8 * w)).toNatClampNeg = 16 + 8 * w := by decide +kernel
theorem jl_self (x : Int64) : lg_cmp x x = nI 0 := by
  unfold lg_cmp
  rw [if_neg (by simp), if_pos rfl]
  rfl
def hPcU (D : hG) (N0 : Nat) (ad : Nat → Nat) (ct : hC) (a1 : Nat) (av : List Value) : Array Value → State → Prop := va_Pc av (fun U => va_O RJx9a822 a1 (hA N0) U U.heap ∧ hK D N0 U ∧ hv D N0 ad ct U.heap)
theorem hPcU.blind {D : hG} {N0 : Nat} {ad : Nat → Nat} {ct : hC} {a1 : Nat} {av : List Value} : FrameBlind (hPcU D N0 ad ct a1 av) := by
  intro a U g mk h
  obtain ⟨h1, h4, h2, h3⟩ := h
  exact ⟨h1, va_O.moved (u := U) (U := U.calling g mk a) (Vm.Alike.refl U.vm) h4, h2.blind, h3⟩
theorem hv_preVU {s : State} {H : Heap} {locs : List Loc} {D : hG} {N0 : Nat} {ad : Nat → Nat} {ct : hC} {a1 : Nat} {As : List Value} (hO : va_O RJx9a822 a1 (hA N0) s s.heap) (hKs : hK D N0 s) (hV : hv D N0 ad ct H) (hS : va_S (hA N0) s.heap H locs) : PreV s H RJx9a822 a1 (hPcU D N0 ad ct a1 (.ref a1 :: As)) As := by
  have hO1 : va_O RJx9a822 a1 (hA N0) s H := hO.kept (fun a _ h2 => hS.2.1 a (by assumption) h2)
  refine ⟨hPcU.blind, ?_, fun U hU hW => ⟨rfl, by rw [hU]; exact hO1.moved hW.alike, hKs.to hS hU hW, by rw [hU]; exact hV⟩⟩
  obtain ⟨cell, q1, q2, q3, -⟩ := hO1
  exact ⟨cell, q1, q2, q3⟩

set_option maxHeartbeats 4000000 in
set_option maxRecDepth 100000 in
theorem c_JU (l : Launch) (D : hG) (N0 : Nat) (ad : Nat → Nat) (ct : hC) {t n w : Nat} {f : Nat → Int32} (he : ct t = some (eI D n f)) (hw : 2 * w + 1 < n) (a1 : Nat) (off : Int64) (h7 : off &&& 7 = 0) (hneg : ¬ off < 0) (hoff : off.toNatClampNeg = 16 + 8 * w) : Met l yJx9a822_getLongUnaligned_f02c6 wsJU ({ frames := 1, cells := 0, slots := 0, locals := 17 }) (hPcU D N0 ad ct a1 [.ref (a1), .ref (ad (t)), .long (off)]) (va_Ql (fun (r : Int64) (u : hU) => r = jw (f (2 * w)) (f (2 * w + 1)) ∧ u = (ad, ct)) (hB D N0) (hA N0)) 0 0 (hA N0) := by
  refine va_MetF (cc := cJx9a822_getLongUnaligned_f02c6) (maxL := 4) (ret := (some .long)) (by decide +kernel) rfl ?_
  intro p e s m args below meth c s₁ B hml hv0
  obtain ⟨hargs, hO, hKs, hV⟩ := hv0
  have hx := B.exec
  have hb := B.bytes
  have hr := B.returns
  have hts := atoms_spec (ws := wsJU) B.pre
  have hown : s.vm.findClass RJx9a822 = some m.cls := findClass_of_methodNamed B.named
  have hlocks := B.notSynchronized
  have hS : va_S (hA N0) s.heap s.heap [] := va_S.rf
  have hl := lv_entry ([.ref (a1), .ref (ad (t)), .long (off)]) (n := 4) (Nat.le_of_ble_eq_true rfl)
  have hE : entryFrame m args 4 = entryFrame m ([.ref (a1), .ref (ad (t)), .long (off)] : List Value).toArray 4 := by rw [hargs]
  rw [hE, lg_entry_eq]
  generalize (lg_sl ([.ref (a1), .ref (ad (t)), .long (off)]) ++ List.replicate (4 - (lg_sl ([.ref (a1), .ref (ad (t)), .long (off)])).length) Slot.unset).toArray = ls at hl ⊢
  have hl : lv_has ls 4 [(0, .ref (a1)), (1, .ref (ad (t))), (2, .long (off))] := hl
  refine lv_lload_n hx hb dJx9a822_getLongUnaligned_f02c6_0 rfl (lv_at hl 2 rfl) ?_
  refine lv_ldc2 (v := 7) hx hb hown (hts (.constantLong RJx9a822 696 7) (by decide +kernel)) dJx9a822_getLongUnaligned_f02c6_1 ?_
  refine lv_land hx hb dJx9a822_getLongUnaligned_f02c6_4 ?_
  refine lv_lconst (v := 0) hx hb dJx9a822_getLongUnaligned_f02c6_5 (by decide) ?_
  refine W.lcmp hx hb dJx9a822_getLongUnaligned_f02c6_6 ?_
  refine hv_eqi (y := nI 0) (by rw [h7]; decide) ?_
  refine hN_if_ne (tgt := 17) hx hb (by omega) dJx9a822_getLongUnaligned_f02c6_7 (by decide) (fun c7 => by exact absurd c7 (by omega)) (fun c7 => ?_)
  refine lv_aload_n hx hb dJx9a822_getLongUnaligned_f02c6_10 rfl (lv_at hl 0 rfl) ?_
  refine lv_aload_n hx hb dJx9a822_getLongUnaligned_f02c6_11 rfl (lv_at hl 1 rfl) ?_
  refine lv_lload_n hx hb dJx9a822_getLongUnaligned_f02c6_12 rfl (lv_at hl 2 rfl) ?_
  refine hv_getLong hx hb hown (hts (.methodLink RJx9a822 27 yGL) (by decide +kernel)) (hts (.selects RJx9a822 yGL yGL) (by decide +kernel)) (hts (.instanceMethod yGL) (by decide +kernel)) (hts (.native yGL) (by decide +kernel)) hKs hV (by obtain ⟨cell, q1, q2, q3, -⟩ := hO; exact ⟨cell, q1, q2, q3⟩) (hl.1.trans hml.symm) he hw hneg hoff (Nat.le_of_ble_eq_true rfl) (Nat.le_of_ble_eq_true rfl) dJx9a822_getLongUnaligned_f02c6_13 ?_
  exact hv_lret (v := jw (f (2 * w)) (f (2 * w + 1))) (u := (ad, ct)) hx hb hr ⟨rfl, rfl⟩ hV hS dJx9a822_getLongUnaligned_f02c6_16 hlocks

set_option maxHeartbeats 4000000 in
set_option maxRecDepth 100000 in
theorem c_JV (l : Launch) (D : hG) (N0 : Nat) (ad : Nat → Nat) (ct : hC) {t1 t2 : Nat} {f1 f2 : Nat → Int32} (he1 : ct t1 = some (eI D 24 f1)) (he2 : ct t2 = some (eI D 24 f2)) (hf : ∀ i, i < 24 → f1 i = f2 i) : Met l yJ8_vectorizedMismatch_456ae wsJV ({ frames := 2, cells := 0, slots := 0, locals := 60 }) (hPc D N0 ad ct [.ref (ad (t1)), .long (16), .ref (ad (t2)), .long (16), .int (nI (24)), .int (nI (2))]) (va_Qi (fun (r : Int32) (u : hU) => r = -1 ∧ u = (ad, ct)) (hB D N0) (hA N0)) 0 0 (hA N0) := by
  refine Met.ofW (cc := cJ8_vectorizedMismatch_456ae) (maxL := 19) (ret := (some .int)) (by decide) rfl ?_
  intro p e s m args below meth c s₁ B hml hv0
  obtain ⟨hargs, hKs, hV⟩ := hv0
  have hx := B.exec
  have hb := B.bytes
  have hr := B.returns
  have hts := atoms_spec (ws := wsJV) B.pre
  have hown : s.vm.findClass RJ8 = some m.cls := findClass_of_methodNamed B.named
  have hlocks := B.notSynchronized
  have hS : va_S (hA N0) s.heap s.heap [] := va_S.rf
  obtain ⟨hzb, hz2, hz3, a1, hzu, hOu⟩ := hKs.2.2.2.2.2.2.2
  have hl := lv_entry ([.ref (ad (t1)), .long (16), .ref (ad (t2)), .long (16), .int (nI (24)), .int (nI (2))]) (n := 19) (Nat.le_of_ble_eq_true rfl)
  have hE : entryFrame m args 19 = entryFrame m ([.ref (ad (t1)), .long (16), .ref (ad (t2)), .long (16), .int (nI (24)), .int (nI (2))] : List Value).toArray 19 := by rw [hargs]
  rw [hE, lg_entry_eq]
  generalize (lg_sl ([.ref (ad (t1)), .long (16), .ref (ad (t2)), .long (16), .int (nI (24)), .int (nI (2))]) ++ List.replicate (19 - (lg_sl ([.ref (ad (t1)), .long (16), .ref (ad (t2)), .long (16), .int (nI (24)), .int (nI (2))])).length) Slot.unset).toArray = ls at hl ⊢
  have hl : lv_has ls 19 [(0, .ref (ad (t1))), (1, .long (16)), (3, .ref (ad (t2))), (4, .long (16)), (6, .int (nI (24))), (7, .int (nI (2)))] := hl
  refine va_gets (C := "jdk/internal/util/ArraysSupport") (n := "LOG2_ARRAY_LONG_INDEX_SCALE") (d := "I") hx hb hz3 hS hown (hts (.fieldLink RJ8 20 "jdk/internal/util/ArraysSupport" "LOG2_ARRAY_LONG_INDEX_SCALE" "I") (by decide +kernel)) (fun _ h9 => h9) dJ8_vectorizedMismatch_456ae_0 ?_
  refine hv_eqi (y := nI 3) rfl ?_
  refine lv_iload hx hb dJ8_vectorizedMismatch_456ae_3 (lv_at hl 5 rfl) ?_
  refine hN_isub hx hb (by omega) dJ8_vectorizedMismatch_456ae_5 ?_
  refine hv_eqi (y := nI 1) (rfl) ?_
  refine lv_istore (lv' := [(8, .int (nI (1))), (0, .ref (ad (t1))), (1, .long (16)), (3, .ref (ad (t2))), (4, .long (16)), (6, .int (nI (24))), (7, .int (nI (2)))]) hx hb dJ8_vectorizedMismatch_456ae_6 hl (by decide) rfl (fun ls hl => ?_)
  refine lv_iconst (v := nI 0) hx hb dJ8_vectorizedMismatch_456ae_8 (by decide) ?_
  refine lv_istore (lv' := [(9, .int (nI (0))), (8, .int (nI (1))), (0, .ref (ad (t1))), (1, .long (16)), (3, .ref (ad (t2))), (4, .long (16)), (6, .int (nI (24))), (7, .int (nI (2)))]) hx hb dJ8_vectorizedMismatch_456ae_9 hl (by decide) rfl (fun ls hl => ?_)
  have L11 : ∀ (n i : Nat), i ≤ 12 → 12 < i + n → ∀ (H : Heap) (locs : List Loc), hv D N0 ad ct H → va_S (hA N0) s.heap H locs → ∀ ls : Array Slot, lv_has ls 19 [(9, .int (nI (i))), (8, .int (nI (1))), (0, .ref (ad (t1))), (1, .long (16)), (3, .ref (ad (t2))), (4, .long (16)), (6, .int (nI (24))), (7, .int (nI (2)))] → W p l e (headSpec wsJV ({ frames := 2, cells := 0, slots := 0, locals := 60 })).room s m args below meth c H locs 0 0 (MQ below (va_Qi (fun (r : Int32) (u : hU) => r = -1 ∧ u = (ad, ct)) (hB D N0) (hA N0)) args s 0 0 (hA N0)) (F0 m 11 ls []) := by
    intro n
    induction n with
    | zero => intro i h1 h2; exact absurd h2 (by omega)
    | succ n ih11 =>
      intro i hi11 hn11 H locs hV hS ls hl
      refine lv_iload hx hb dJ8_vectorizedMismatch_456ae_11 (lv_at hl 0 rfl) ?_
      refine lv_iload hx hb dJ8_vectorizedMismatch_456ae_13 (lv_at hl 6 rfl) ?_
      refine lv_iload hx hb dJ8_vectorizedMismatch_456ae_15 (lv_at hl 1 rfl) ?_
      refine lv_ishr hx hb dJ8_vectorizedMismatch_456ae_17 ?_
      refine hv_eqi (y := nI 12) (by decide) ?_
      refine hN_icmp_ge (tgt := 122) hx hb (by omega) (by omega) dJ8_vectorizedMismatch_456ae_18 (by decide) (fun c18 => ?_) (fun c18 => ?_)
      · have hi12 : i = 12 := by omega
        subst hi12
        refine lv_iload hx hb dJ8_vectorizedMismatch_456ae_122 (lv_at hl 6 rfl) ?_
        refine lv_iload hx hb dJ8_vectorizedMismatch_456ae_124 (lv_at hl 0 rfl) ?_
        refine lv_iload hx hb dJ8_vectorizedMismatch_456ae_126 (lv_at hl 1 rfl) ?_
        refine lv_ishl hx hb dJ8_vectorizedMismatch_456ae_128 ?_
        refine hv_eqi (y := nI 24) (by decide) ?_
        refine hN_isub hx hb (by omega) dJ8_vectorizedMismatch_456ae_129 ?_
        refine hv_eqi (y := nI 0) (rfl) ?_
        refine lv_istore (lv' := [(10, .int (nI (0))), (9, .int (nI (12))), (8, .int (nI (1))), (0, .ref (ad (t1))), (1, .long (16)), (3, .ref (ad (t2))), (4, .long (16)), (6, .int (nI (24))), (7, .int (nI (2)))]) hx hb dJ8_vectorizedMismatch_456ae_130 hl (by decide) rfl (fun ls hl => ?_)
        refine lv_iload hx hb dJ8_vectorizedMismatch_456ae_132 (lv_at hl 8 rfl) ?_
        refine va_gets (C := "jdk/internal/util/ArraysSupport") (n := "LOG2_ARRAY_INT_INDEX_SCALE") (d := "I") hx hb hz2 hS hown (hts (.fieldLink RJ8 51 "jdk/internal/util/ArraysSupport" "LOG2_ARRAY_INT_INDEX_SCALE" "I") (by decide +kernel)) (fun _ h9 => h9) dJ8_vectorizedMismatch_456ae_134 ?_
        refine hv_eqi (y := nI 2) rfl ?_
        refine hN_icmp_ge (tgt := 263) hx hb (by omega) (by omega) dJ8_vectorizedMismatch_456ae_137 (by decide) (fun c137 => ?_) (fun c137 => by exact absurd c137 (by omega))
        refine lv_iload hx hb dJ8_vectorizedMismatch_456ae_263 (lv_at hl 0 rfl) ?_
        refine lv_iconst (v := (-1)) hx hb dJ8_vectorizedMismatch_456ae_265 (by decide) ?_
        refine lv_ixor hx hb dJ8_vectorizedMismatch_456ae_266 ?_
        refine hv_eqi (y := (-1)) (by decide) ?_
        exact hv_iret (v := ((-1))) (u := (ad, ct)) hx hb hr ⟨rfl, rfl⟩ hV hS dJ8_vectorizedMismatch_456ae_267 hlocks
      · have hi12 : i < 12 := by omega
        refine lv_iload hx hb dJ8_vectorizedMismatch_456ae_21 (lv_at hl 0 rfl) ?_
        refine lv_i2l hx hb dJ8_vectorizedMismatch_456ae_23 rfl ?_
        refine va_gets (C := "jdk/internal/util/ArraysSupport") (n := "LOG2_ARRAY_LONG_INDEX_SCALE") (d := "I") hx hb hz3 hS hown (hts (.fieldLink RJ8 20 "jdk/internal/util/ArraysSupport" "LOG2_ARRAY_LONG_INDEX_SCALE" "I") (by decide +kernel)) (fun _ h9 => h9) dJ8_vectorizedMismatch_456ae_24 ?_
        refine hv_eqi (y := nI 3) rfl ?_
        refine lv_lshl (v := Int64.ofNat (8 * i)) hx hb dJ8_vectorizedMismatch_456ae_27 (jv_off i hi12) ?_
        refine lv_lstore (lv' := [(10, .long (Int64.ofNat (8 * i))), (9, .int (nI (i))), (8, .int (nI (1))), (0, .ref (ad (t1))), (1, .long (16)), (3, .ref (ad (t2))), (4, .long (16)), (6, .int (nI (24))), (7, .int (nI (2)))]) hx hb dJ8_vectorizedMismatch_456ae_28 hl (by decide) rfl (fun ls hl => ?_)
        refine va_gets (C := "jdk/internal/util/ArraysSupport") (n := "U") (d := "Ljdk/internal/misc/Unsafe;") hx hb hzu hS hown (hts (.fieldLink RJ8 26 "jdk/internal/util/ArraysSupport" "U" "Ljdk/internal/misc/Unsafe;") (by decide +kernel)) (fun _ h9 => h9) dJ8_vectorizedMismatch_456ae_30 ?_
        refine lv_aload_n hx hb dJ8_vectorizedMismatch_456ae_33 rfl (lv_at hl 3 rfl) ?_
        refine lv_lload_n hx hb dJ8_vectorizedMismatch_456ae_34 rfl (lv_at hl 4 rfl) ?_
        refine lv_lload hx hb dJ8_vectorizedMismatch_456ae_35 (lv_at hl 0 rfl) ?_
        refine lv_ladd hx hb dJ8_vectorizedMismatch_456ae_37 ?_
        refine hv_calll (va_runV (As := [.ref (ad (t1)), .long ((16) + (Int64.ofNat (8 * i)))]) (rest := []) ⟨hx, hb, hml, hown, hts⟩ (c_JU l D N0 ad ct he1 (by omega : 2 * i + 1 < 24) a1 ((16) + (Int64.ofNat (8 * i))) (jv_1 i hi12).1 (jv_1 i hi12).2.1 (jv_1 i hi12).2.2) (cwV 2 hts gJV rfl rfl rfl (by decide +kernel) ⟨Nat.le_of_ble_eq_true rfl, Nat.le_of_ble_eq_true rfl⟩) (hv_preVU hOu hKs hV hS) rfl rfl hl.1 rfl (lv_room (Nat.le_of_ble_eq_true rfl)) dJ8_vectorizedMismatch_456ae_38 ⟨(Nat.le_of_ble_eq_true rfl), (Nat.le_of_ble_eq_true rfl)⟩) hS (fun r9 u9 H locs hq hV hS => ?_)
        obtain ⟨rfl, rfl⟩ := hq
        have hV : hv D N0 ad ct H := hV
        refine lv_lstore (lv' := [(12, .long (jw (f1 (2 * i)) (f1 (2 * i + 1)))), (10, .long (Int64.ofNat (8 * i))), (9, .int (nI (i))), (8, .int (nI (1))), (0, .ref (ad (t1))), (1, .long (16)), (3, .ref (ad (t2))), (4, .long (16)), (6, .int (nI (24))), (7, .int (nI (2)))]) hx hb dJ8_vectorizedMismatch_456ae_41 hl (by decide) rfl (fun ls hl => ?_)
        refine va_gets (C := "jdk/internal/util/ArraysSupport") (n := "U") (d := "Ljdk/internal/misc/Unsafe;") hx hb hzu hS hown (hts (.fieldLink RJ8 26 "jdk/internal/util/ArraysSupport" "U" "Ljdk/internal/misc/Unsafe;") (by decide +kernel)) (fun _ h9 => h9) dJ8_vectorizedMismatch_456ae_43 ?_
        refine lv_aload_n hx hb dJ8_vectorizedMismatch_456ae_46 rfl (lv_at hl 6 rfl) ?_
        refine lv_lload hx hb dJ8_vectorizedMismatch_456ae_47 (lv_at hl 7 rfl) ?_
        refine lv_lload hx hb dJ8_vectorizedMismatch_456ae_49 (lv_at hl 1 rfl) ?_
        refine lv_ladd hx hb dJ8_vectorizedMismatch_456ae_51 ?_
        refine hv_calll (va_runV (As := [.ref (ad (t2)), .long ((16) + (Int64.ofNat (8 * i)))]) (rest := []) ⟨hx, hb, hml, hown, hts⟩ (c_JU l D N0 ad ct he2 (by omega : 2 * i + 1 < 24) a1 ((16) + (Int64.ofNat (8 * i))) (jv_1 i hi12).1 (jv_1 i hi12).2.1 (jv_1 i hi12).2.2) (cwV 2 hts gJV rfl rfl rfl (by decide +kernel) ⟨Nat.le_of_ble_eq_true rfl, Nat.le_of_ble_eq_true rfl⟩) (hv_preVU hOu hKs hV hS) rfl rfl hl.1 rfl (lv_room (Nat.le_of_ble_eq_true rfl)) dJ8_vectorizedMismatch_456ae_52 ⟨(Nat.le_of_ble_eq_true rfl), (Nat.le_of_ble_eq_true rfl)⟩) hS (fun r9 u9 H locs hq hV hS => ?_)
        obtain ⟨rfl, rfl⟩ := hq
        have hV : hv D N0 ad ct H := hV
        refine lv_lstore (lv' := [(14, .long (jw (f2 (2 * i)) (f2 (2 * i + 1)))), (12, .long (jw (f1 (2 * i)) (f1 (2 * i + 1)))), (10, .long (Int64.ofNat (8 * i))), (9, .int (nI (i))), (8, .int (nI (1))), (0, .ref (ad (t1))), (1, .long (16)), (3, .ref (ad (t2))), (4, .long (16)), (6, .int (nI (24))), (7, .int (nI (2)))]) hx hb dJ8_vectorizedMismatch_456ae_55 hl (by decide) rfl (fun ls hl => ?_)
        refine lv_lload hx hb dJ8_vectorizedMismatch_456ae_57 (lv_at hl 1 rfl) ?_
        refine lv_lload hx hb dJ8_vectorizedMismatch_456ae_59 (lv_at hl 0 rfl) ?_
        refine W.lcmp hx hb dJ8_vectorizedMismatch_456ae_61 ?_
        refine hv_eqi (y := nI 0) (by rw [hf (2 * i) (by omega), hf (2 * i + 1) (by omega)]; exact jl_self _) ?_
        refine hN_if_eq (tgt := 116) hx hb (by omega) dJ8_vectorizedMismatch_456ae_62 (by decide) (fun c62 => ?_) (fun c62 => by exact absurd c62 (by omega))
        refine lv_iinc (v := nI (i + 1)) (lv' := [(9, .int (nI (i + 1))), (14, .long (jw (f2 (2 * i)) (f2 (2 * i + 1)))), (12, .long (jw (f1 (2 * i)) (f1 (2 * i + 1)))), (10, .long (Int64.ofNat (8 * i))), (8, .int (nI (1))), (0, .ref (ad (t1))), (1, .long (16)), (3, .ref (ad (t2))), (4, .long (16)), (6, .int (nI (24))), (7, .int (nI (2)))]) hx hb dJ8_vectorizedMismatch_456ae_116 hl (k := 3) rfl (nI_add (i) 1) (by decide) rfl (fun ls hl => ?_)
        refine lv_goto (tgt := 11) hx hb dJ8_vectorizedMismatch_456ae_119 (by decide) ?_
        exact ih11 (i + 1)  (by omega) (by omega) _ _  hV hS ls (lv_sub hl [0, 4, 5, 6, 7, 8, 9, 10] rfl)
  exact L11 (12 + 1) (0)  (by omega) (by omega) _ _  hV hS ls (lv_sub hl [0, 1, 2, 3, 4, 5, 6, 7] rfl)

set_option maxHeartbeats 4000000 in
set_option maxRecDepth 100000 in
theorem c_JM (l : Launch) (D : hG) (N0 : Nat) (ad : Nat → Nat) (ct : hC) {t1 t2 : Nat} {f1 f2 : Nat → Int32} (he1 : ct t1 = some (eI D 24 f1)) (he2 : ct t2 = some (eI D 24 f2)) (hf : ∀ i, i < 24 → f1 i = f2 i) : Met l yJ8_mismatch_05dfe wsJM ({ frames := 3, cells := 0, slots := 0, locals := 110 }) (hPc D N0 ad ct [.ref (ad (t1)), .ref (ad (t2)), .int (nI (24))]) (va_Qi (fun (r : Int32) (u : hU) => r = -1 ∧ u = (ad, ct)) (hB D N0) (hA N0)) 0 0 (hA N0) := by
  refine Met.ofW (cc := cJ8_mismatch_05dfe) (maxL := 4) (ret := (some .int)) (by decide) rfl ?_
  intro p e s m args below meth c s₁ B hml hv0
  obtain ⟨hargs, hKs, hV⟩ := hv0
  have hx := B.exec
  have hb := B.bytes
  have hr := B.returns
  have hts := atoms_spec (ws := wsJM) B.pre
  have hown : s.vm.findClass RJ8 = some m.cls := findClass_of_methodNamed B.named
  have hlocks := B.notSynchronized
  have hS : va_S (hA N0) s.heap s.heap [] := va_S.rf
  obtain ⟨hzb, hz2, hz3, a1, hzu, hOu⟩ := hKs.2.2.2.2.2.2.2
  have hl := lv_entry ([.ref (ad (t1)), .ref (ad (t2)), .int (nI (24))]) (n := 4) (Nat.le_of_ble_eq_true rfl)
  have hE : entryFrame m args 4 = entryFrame m ([.ref (ad (t1)), .ref (ad (t2)), .int (nI (24))] : List Value).toArray 4 := by rw [hargs]
  rw [hE, lg_entry_eq]
  generalize (lg_sl ([.ref (ad (t1)), .ref (ad (t2)), .int (nI (24))]) ++ List.replicate (4 - (lg_sl ([.ref (ad (t1)), .ref (ad (t2)), .int (nI (24))])).length) Slot.unset).toArray = ls at hl ⊢
  have hl : lv_has ls 4 [(0, .ref (ad (t1))), (1, .ref (ad (t2))), (2, .int (nI (24)))] := hl
  refine lv_iconst (v := nI 0) hx hb dJ8_mismatch_05dfe_0 (by decide) ?_
  refine lv_istore_n (lv' := [(3, .int (nI (0))), (0, .ref (ad (t1))), (1, .ref (ad (t2))), (2, .int (nI (24)))]) hx hb dJ8_mismatch_05dfe_1 rfl hl (by decide) rfl (fun ls hl => ?_)
  refine lv_iload_n hx hb dJ8_mismatch_05dfe_2 rfl (lv_at hl 3 rfl) ?_
  refine lv_iconst (v := nI 1) hx hb dJ8_mismatch_05dfe_3 (by decide) ?_
  refine hN_icmp_le (tgt := 48) hx hb (by omega) (by omega) dJ8_mismatch_05dfe_4 (by decide) (fun c4 => by exact absurd c4 (by omega)) (fun c4 => ?_)
  refine lv_aload_n hx hb dJ8_mismatch_05dfe_7 rfl (lv_at hl 1 rfl) ?_
  refine lv_iconst (v := nI 0) hx hb dJ8_mismatch_05dfe_8 (by decide) ?_
  refine hv_iald hx hb hKs hV he1 (by omega) (by decide) dJ8_mismatch_05dfe_9 ?_
  refine lv_aload_n hx hb dJ8_mismatch_05dfe_10 rfl (lv_at hl 2 rfl) ?_
  refine lv_iconst (v := nI 0) hx hb dJ8_mismatch_05dfe_11 (by decide) ?_
  refine hv_iald hx hb hKs hV he2 (by omega) (by decide) dJ8_mismatch_05dfe_12 ?_
  refine hI_icmp_eq (tgt := 18) hx hb dJ8_mismatch_05dfe_13 (by decide) (fun c13 => ?_) (fun c13 => by exact absurd (congrArg Int32.toInt (hf 0 (by omega))) c13)
  refine lv_aload_n hx hb dJ8_mismatch_05dfe_18 rfl (lv_at hl 1 rfl) ?_
  refine va_gets (C := "jdk/internal/misc/Unsafe") (n := "ARRAY_INT_BASE_OFFSET") (d := "I") hx hb hzb hS hown (hts (.fieldLink RJ8 144 "jdk/internal/misc/Unsafe" "ARRAY_INT_BASE_OFFSET" "I") (by decide +kernel)) (fun _ h9 => h9) dJ8_mismatch_05dfe_19 ?_
  refine hv_eqi (y := nI 16) rfl ?_
  refine lv_i2l (v := 16) hx hb dJ8_mismatch_05dfe_22 (by decide) ?_
  refine lv_aload_n hx hb dJ8_mismatch_05dfe_23 rfl (lv_at hl 2 rfl) ?_
  refine va_gets (C := "jdk/internal/misc/Unsafe") (n := "ARRAY_INT_BASE_OFFSET") (d := "I") hx hb hzb hS hown (hts (.fieldLink RJ8 144 "jdk/internal/misc/Unsafe" "ARRAY_INT_BASE_OFFSET" "I") (by decide +kernel)) (fun _ h9 => h9) dJ8_mismatch_05dfe_24 ?_
  refine hv_eqi (y := nI 16) rfl ?_
  refine lv_i2l (v := 16) hx hb dJ8_mismatch_05dfe_27 (by decide) ?_
  refine lv_iload_n hx hb dJ8_mismatch_05dfe_28 rfl (lv_at hl 3 rfl) ?_
  refine va_gets (C := "jdk/internal/util/ArraysSupport") (n := "LOG2_ARRAY_INT_INDEX_SCALE") (d := "I") hx hb hz2 hS hown (hts (.fieldLink RJ8 51 "jdk/internal/util/ArraysSupport" "LOG2_ARRAY_INT_INDEX_SCALE" "I") (by decide +kernel)) (fun _ h9 => h9) dJ8_mismatch_05dfe_29 ?_
  refine hv_eqi (y := nI 2) rfl ?_
  refine hv_calli (va_runS (As := [.ref (ad (t1)), .long (16), .ref (ad (t2)), .long (16), .int (nI (24)), .int (nI (2))]) (rest := []) ⟨hx, hb, hml, hown, hts⟩ (c_JV l D N0 ad ct he1 he2 hf) (va_cwS 6 hts gJM rfl rfl rfl (by decide +kernel) ⟨Nat.le_of_ble_eq_true rfl, Nat.le_of_ble_eq_true rfl⟩) (hv_preS hKs hV hS) rfl rfl hl.1 rfl (lv_room (Nat.le_of_ble_eq_true rfl)) dJ8_mismatch_05dfe_32 ⟨(Nat.le_of_ble_eq_true rfl), (Nat.le_of_ble_eq_true rfl)⟩) hS (fun r9 u9 H locs hq hV hS => ?_)
  obtain ⟨rfl, rfl⟩ := hq
  have hV : hv D N0 ad ct H := hV
  refine lv_istore_n (lv' := [(3, .int ((-1))), (0, .ref (ad (t1))), (1, .ref (ad (t2))), (2, .int (nI (24)))]) hx hb dJ8_mismatch_05dfe_35 rfl hl (by decide) rfl (fun ls hl => ?_)
  refine lv_iload_n hx hb dJ8_mismatch_05dfe_36 rfl (lv_at hl 0 rfl) ?_
  refine hI_if_lt (tgt := 42) hx hb dJ8_mismatch_05dfe_37 (by decide) (fun c37 => ?_) (fun c37 => by exact absurd c37 (by decide))
  refine lv_iload_n hx hb dJ8_mismatch_05dfe_42 rfl (lv_at hl 3 rfl) ?_
  refine lv_iload_n hx hb dJ8_mismatch_05dfe_43 rfl (lv_at hl 0 rfl) ?_
  refine lv_iconst (v := (-1)) hx hb dJ8_mismatch_05dfe_44 (by decide) ?_
  refine lv_ixor hx hb dJ8_mismatch_05dfe_45 ?_
  refine hv_eqi (y := nI 0) (by decide) ?_
  refine hN_isub hx hb (by omega) dJ8_mismatch_05dfe_46 ?_
  refine hv_eqi (y := nI 24) (rfl) ?_
  refine lv_istore_n (lv' := [(3, .int (nI (24))), (0, .ref (ad (t1))), (1, .ref (ad (t2))), (2, .int (nI (24)))]) hx hb dJ8_mismatch_05dfe_47 rfl hl (by decide) rfl (fun ls hl => ?_)
  refine lv_iload_n hx hb dJ8_mismatch_05dfe_48 rfl (lv_at hl 0 rfl) ?_
  refine lv_iload_n hx hb dJ8_mismatch_05dfe_49 rfl (lv_at hl 3 rfl) ?_
  refine hN_icmp_ge (tgt := 70) hx hb (by omega) (by omega) dJ8_mismatch_05dfe_50 (by decide) (fun c50 => ?_) (fun c50 => by exact absurd c50 (by omega))
  refine lv_iconst (v := (-1)) hx hb dJ8_mismatch_05dfe_70 (by decide) ?_
  exact hv_iret (v := ((-1))) (u := (ad, ct)) hx hb hr ⟨rfl, rfl⟩ hV hS dJ8_mismatch_05dfe_71 hlocks

set_option maxHeartbeats 4000000 in
set_option maxRecDepth 100000 in
theorem c_JE (l : Launch) (D : hG) (N0 : Nat) (ad : Nat → Nat) (ct : hC) {t1 t2 : Nat} {f1 f2 : Nat → Int32} (he1 : ct t1 = some (eI D 24 f1)) (he2 : ct t2 = some (eI D 24 f2)) (hf : ∀ i, i < 24 → f1 i = f2 i) : Met l yJ7_equals_bbcde wsJE ({ frames := 4, cells := 0, slots := 0, locals := 150 }) (hPc D N0 ad ct [.ref (ad (t1)), .ref (ad (t2))]) (va_Qi (fun (r : Int32) (u : hU) => r = nI 1 ∧ u = (ad, ct)) (hB D N0) (hA N0)) 0 0 (hA N0) := by
  refine Met.ofW (cc := cJ7_equals_bbcde) (maxL := 3) (ret := (some .boolean)) (by decide) rfl ?_
  intro p e s m args below meth c s₁ B hml hv0
  obtain ⟨hargs, hKs, hV⟩ := hv0
  have hx := B.exec
  have hb := B.bytes
  have hr := B.returns
  have hts := atoms_spec (ws := wsJE) B.pre
  have hown : s.vm.findClass RJ7 = some m.cls := findClass_of_methodNamed B.named
  have hlocks := B.notSynchronized
  have hS : va_S (hA N0) s.heap s.heap [] := va_S.rf
  have hl := lv_entry ([.ref (ad (t1)), .ref (ad (t2))]) (n := 3) (Nat.le_of_ble_eq_true rfl)
  have hE : entryFrame m args 3 = entryFrame m ([.ref (ad (t1)), .ref (ad (t2))] : List Value).toArray 3 := by rw [hargs]
  rw [hE, lg_entry_eq]
  generalize (lg_sl ([.ref (ad (t1)), .ref (ad (t2))]) ++ List.replicate (3 - (lg_sl ([.ref (ad (t1)), .ref (ad (t2))])).length) Slot.unset).toArray = ls at hl ⊢
  have hl : lv_has ls 3 [(0, .ref (ad (t1))), (1, .ref (ad (t2)))] := hl
  refine lv_aload_n hx hb dJ7_equals_bbcde_0 rfl (lv_at hl 0 rfl) ?_
  refine lv_aload_n hx hb dJ7_equals_bbcde_1 rfl (lv_at hl 1 rfl) ?_
  refine lv_acmp_ne (rx := some (ad t1)) (ry := some (ad t2)) (tgt := 7) hx hb dJ7_equals_bbcde_2 (by decide) (fun c2 => ?_) (fun c2 => ?_)
  · refine lv_aload_n hx hb dJ7_equals_bbcde_7 rfl (lv_at hl 0 rfl) ?_
    refine lv_ifnull hx hb dJ7_equals_bbcde_8 ?_
    refine lv_aload_n hx hb dJ7_equals_bbcde_11 rfl (lv_at hl 1 rfl) ?_
    refine lv_ifnonnull (tgt := 17) hx hb dJ7_equals_bbcde_12 (by decide) ?_
    refine lv_aload_n hx hb dJ7_equals_bbcde_17 rfl (lv_at hl 0 rfl) ?_
    refine hv_alen hx hb hKs hV 0 he1 rfl dJ7_equals_bbcde_18 ?_
    refine lv_istore_n (lv' := [(2, .int (nI (24))), (0, .ref (ad (t1))), (1, .ref (ad (t2)))]) hx hb dJ7_equals_bbcde_19 rfl hl (by decide) rfl (fun ls hl => ?_)
    refine lv_aload_n hx hb dJ7_equals_bbcde_20 rfl (lv_at hl 2 rfl) ?_
    refine hv_alen hx hb hKs hV 0 he2 rfl dJ7_equals_bbcde_21 ?_
    refine lv_iload_n hx hb dJ7_equals_bbcde_22 rfl (lv_at hl 0 rfl) ?_
    refine hN_icmp_eq (tgt := 28) hx hb (by omega) (by omega) dJ7_equals_bbcde_23 (by decide) (fun c23 => ?_) (fun c23 => by exact absurd rfl c23)
    refine lv_aload_n hx hb dJ7_equals_bbcde_28 rfl (lv_at hl 1 rfl) ?_
    refine lv_aload_n hx hb dJ7_equals_bbcde_29 rfl (lv_at hl 2 rfl) ?_
    refine lv_iload_n hx hb dJ7_equals_bbcde_30 rfl (lv_at hl 0 rfl) ?_
    refine hv_calli (va_runS (As := [.ref (ad (t1)), .ref (ad (t2)), .int (nI (24))]) (rest := []) ⟨hx, hb, hml, hown, hts⟩ (c_JM l D N0 ad ct he1 he2 hf) (va_cwS 3 hts gJE rfl rfl rfl (by decide +kernel) ⟨Nat.le_of_ble_eq_true rfl, Nat.le_of_ble_eq_true rfl⟩) (hv_preS hKs hV hS) rfl rfl hl.1 rfl (lv_room (Nat.le_of_ble_eq_true rfl)) dJ7_equals_bbcde_31 ⟨(Nat.le_of_ble_eq_true rfl), (Nat.le_of_ble_eq_true rfl)⟩) hS (fun r9 u9 H locs hq hV hS => ?_)
    obtain ⟨rfl, rfl⟩ := hq
    have hV : hv D N0 ad ct H := hV
    refine hI_if_ge (tgt := 41) hx hb dJ7_equals_bbcde_34 (by decide) (fun c34 => by exact absurd c34 (by decide)) (fun c34 => ?_)
    refine lv_iconst (v := nI 1) hx hb dJ7_equals_bbcde_37 (by decide) ?_
    refine lv_goto (tgt := 42) hx hb dJ7_equals_bbcde_38 (by decide) ?_
    exact hv_zret (v := nI (1)) (u := (ad, ct)) hx hb hr (by decide +kernel) ⟨rfl, rfl⟩ hV hS dJ7_equals_bbcde_42 hlocks
  · refine lv_iconst (v := nI 1) hx hb dJ7_equals_bbcde_5 (by decide) ?_
    exact hv_zret (v := nI (1)) (u := (ad, ct)) hx hb hr (by decide +kernel) ⟨rfl, rfl⟩ hV hS dJ7_equals_bbcde_6 hlocks
