set_option maxHeartbeats 4000000 in
set_option maxRecDepth 100000 in
theorem c_X1_init (l : Launch) (D : hG) (N0 : Nat) (ad : Nat → Nat) (ct : hC) {t : Nat} (h0 : ct t = some (eO 1 [.null])) : Met l yX1_init wsX1_init ({ frames := 1, cells := 1, slots := 24, locals := 12 }) (hPc D N0 ad ct [.ref (ad (t))]) (va_Qv (fun (u : hU) => (∀ q : Nat, q ≠ t + 1 → u.1 q = ad q) ∧ (∀ q : Nat, q ≠ t → q ≠ t + 1 → u.2 q = ct q) ∧ u.2 t = some (eO 1 [.ref (u.1 (t + 1))]) ∧ u.2 (t + 1) = some (eI D 24 (fun _ => 0))) (hB D N0) (hA N0)) 1 24 (hA N0) := by
  refine Met.ofW (cc := cX1_init) (maxL := 1) (ret := none) (by decide) rfl ?_
  intro p e s m args below meth c s₁ B hml hv0
  obtain ⟨hargs, hKs, hV⟩ := hv0
  have hx := B.exec
  have hb := B.bytes
  have hr := B.returns
  have hts := atoms_spec (ws := wsX1_init) B.pre
  have hown : s.vm.findClass RX1 = some m.cls := findClass_of_methodNamed B.named
  have hlocks := B.notSynchronized
  have hS : va_S (hA N0) s.heap s.heap [] := va_S.rf
  have hin0 : meth.name = "<init>" := (name_of_methodNamed B.named B.method).1
  have hiX1 : ∀ w ∈ u_ws RX1 TX1 1, w ∈ wsX1_init := by decide +kernel
  have lk3 := hts (.methodLink RX1 3 objectInit) (by decide +kernel)
  have karr := hts (.arrayClass .int) (by decide +kernel)
  have lk9 := hts (.fieldLink RX1 9 "CaneSlices$Pattern" "colours" "[I") (by decide +kernel)
  have hl := lv_entry ([.ref (ad (t))]) (n := 1) (Nat.le_of_ble_eq_true rfl)
  have hE : entryFrame m args 1 = entryFrame m ([.ref (ad (t))] : List Value).toArray 1 := by rw [hargs]
  rw [hE, lg_entry_eq]
  generalize (lg_sl ([.ref (ad (t))]) ++ List.replicate (1 - (lg_sl ([.ref (ad (t))])).length) Slot.unset).toArray = ls at hl ⊢
  have hl : lv_has ls 1 [(0, .ref (ad (t)))] := hl
  refine lv_aload_n hx hb dX1_init_0 rfl (lv_at hl 0 rfl) ?_
  refine W.objInit hx hb hown lk3 (hts (.instanceMethod objectInit) (by decide +kernel)) (hts (.code objectInit ⟨#[0xb1]⟩ 1 none) (by decide +kernel)) rfl (by rw [hml]; exact hl.1) rfl dX1_init_1 (Nat.le_of_ble_eq_true rfl) (Nat.le_of_ble_eq_true rfl) ?_
  refine W.eq (g2 := F0 m 4 ls []) rfl ?_
  refine lv_aload_n hx hb dX1_init_4 rfl (lv_at hl 0 rfl) ?_
  refine lv_bipush (v := nI 24) hx hb dX1_init_5 (by decide) ?_
  refine hv_newI hx hb karr hKs hV hS (t + 1) (n := 24) (by decide) (Nat.le_of_ble_eq_true rfl) (Nat.le_of_ble_eq_true rfl) dX1_init_7 (fun ad ct H he hne hna hV hS => ?_)
  refine hv_stk (st' := [.ref (ad (t + 1)), .ref (ad (t))]) (by rw [hna (t) (by omega)]) ?_
  have hl : lv_has ls 1 [(0, .ref (ad (t)))] := by rw [hna (t) (by omega)]; exact hl
  have h0 : ct (t) = some (eO 1 [.null]) := by rw [hne (t) (by omega)]; exact h0
  have hn1 := he
  have hne1 := hne
  have hna1 := hna
  refine hv_put (ty := .array .int) (C := RX1) (T := TX1) (N := 1) hx hb hts hiX1 tyX1 tyX1_ok nmX1 hown hKs hV hS h0 0 rfl (by decide) lk9 (fun _ h9 => h9) (Or.inr ⟨hin0, rfl⟩) (by decide +kernel) rfl rfl (Nat.le_of_ble_eq_true rfl) dX1_init_9 (fun ct H locs he hne hV hS => ?_)
  have hn1 := (hne (t + 1) (by omega)).trans hn1
  have h0 : ct (t) = some (eO 1 [.ref (ad (t + 1))]) := he
  refine W.widen (k := 1) (n := 24) (by omega) (by omega) ?_
  exact hv_vret (u := (ad, ct)) hx hb hr ⟨hna1, fun q q1 q2 => (hne q q1).trans (hne1 q q2), h0, hn1⟩ hV hS dX1_init_12 hlocks

set_option maxHeartbeats 4000000 in
set_option maxRecDepth 100000 in
theorem c_X1_paint (l : Launch) (D : hG) (N0 : Nat) (ad : Nat → Nat) (ct : hC) {t : Nat} {P : Nat → Nat} (hp : hPat D ad ct t P) (r f9 n9 k9 : Nat) (hr3 : r < 3) (hf8 : f9 < 8) (hn8 : n9 ≤ 8) (hk8 : k9 < 8) : Met l yX1_paint wsX1_paint ({ frames := 2, cells := 0, slots := 0, locals := 43 }) (hPc D N0 ad ct [.ref (ad (t)), .int (nI (r)), .int (nI (f9)), .int (nI (n9)), .int (nI (k9))]) (va_Qv (fun (u : hU) => u.1 = ad ∧ hPat D ad u.2 t (pnt P r f9 n9 k9) ∧ ∀ q : Nat, q ≠ t + 1 → u.2 q = ct q) (hB D N0) (hA N0)) 0 0 (hA N0) := by
  refine Met.ofW (cc := cX1_paint) (maxL := 6) (ret := none) (by decide) rfl ?_
  intro p e s m args below meth c s₁ B hml hv0
  obtain ⟨hargs, hKs, hV⟩ := hv0
  have hx := B.exec
  have hb := B.bytes
  have hr := B.returns
  have hts := atoms_spec (ws := wsX1_paint) B.pre
  have hown : s.vm.findClass RX1 = some m.cls := findClass_of_methodNamed B.named
  have hlocks := B.notSynchronized
  have hS : va_S (hA N0) s.heap s.heap [] := va_S.rf
  have hiX1 : ∀ w ∈ u_ws RX1 TX1 1, w ∈ wsX1_paint := by decide +kernel
  have lk9 := hts (.fieldLink RX1 9 "CaneSlices$Pattern" "colours" "[I") (by decide +kernel)
  have hl := lv_entry ([.ref (ad (t)), .int (nI (r)), .int (nI (f9)), .int (nI (n9)), .int (nI (k9))]) (n := 6) (Nat.le_of_ble_eq_true rfl)
  have hE : entryFrame m args 6 = entryFrame m ([.ref (ad (t)), .int (nI (r)), .int (nI (f9)), .int (nI (n9)), .int (nI (k9))] : List Value).toArray 6 := by rw [hargs]
  rw [hE, lg_entry_eq]
  generalize (lg_sl ([.ref (ad (t)), .int (nI (r)), .int (nI (f9)), .int (nI (n9)), .int (nI (k9))]) ++ List.replicate (6 - (lg_sl ([.ref (ad (t)), .int (nI (r)), .int (nI (f9)), .int (nI (n9)), .int (nI (k9))])).length) Slot.unset).toArray = ls at hl ⊢
  have hl : lv_has ls 6 [(0, .ref (ad (t))), (1, .int (nI (r))), (2, .int (nI (f9))), (3, .int (nI (n9))), (4, .int (nI (k9)))] := hl
  obtain ⟨Qz, hQz⟩ : ∃ z : State → Prop, z = (MQ below (va_Qv (fun (u : hU) => u.1 = ad ∧ hPat D ad u.2 t (pnt P r f9 n9 k9) ∧ ∀ q : Nat, q ≠ t + 1 → u.2 q = ct q) (hB D N0) (hA N0)) args s 0 0 (hA N0)) := ⟨_, rfl⟩
  rw [← hQz]
  have hg0 : ∀ q : Nat, q ≠ t + 1 → ct q = ct q := fun _ _ => rfl
  obtain ⟨ct0, hct0⟩ : ∃ z, z = ct := ⟨ct, rfl⟩
  refine lv_iconst (v := nI 0) hx hb dX1_paint_0 (by decide) ?_
  refine lv_istore (lv' := [(5, .int (nI (0))), (0, .ref (ad (t))), (1, .int (nI (r))), (2, .int (nI (f9))), (3, .int (nI (n9))), (4, .int (nI (k9)))]) hx hb dX1_paint_1 hl (by decide) rfl (fun ls hl => ?_)
  have L3 : ∀ (n i : Nat), i ≤ n9 → n9 < i + n → ∀ (ct : hC) (H : Heap) (locs : List Loc), (hPat D ad ct t (pnt P r f9 i k9)) → (∀ q : Nat, q ≠ t + 1 → ct q = ct0 q) → hv D N0 ad ct H → va_S (hA N0) s.heap H locs → ∀ ls : Array Slot, lv_has ls 6 [(0, .ref (ad (t))), (1, .int (nI (r))), (2, .int (nI (f9))), (3, .int (nI (n9))), (4, .int (nI (k9))), (5, .int (nI (i)))] → W p l e (headSpec wsX1_paint ({ frames := 2, cells := 0, slots := 0, locals := 43 })).room s m args below meth c H locs 0 0 Qz (F0 m 3 ls []) := by
    intro n
    induction n with
    | zero => intro i h1 h2; exact absurd h2 (by omega)
    | succ n ih3 =>
      intro i hi3 hn3 ct H locs hpi gi hV hS ls hl
      obtain ⟨hp1, F, hp2, hF, hP⟩ := id hpi
      refine lv_iload hx hb dX1_paint_3 (lv_at hl 5 rfl) ?_
      refine lv_iload_n hx hb dX1_paint_5 rfl (lv_at hl 3 rfl) ?_
      refine hN_icmp_ge (tgt := 30) hx hb (by omega) (by omega) dX1_paint_6 (by decide) (fun c6 => ?_) (fun c6 => ?_)
      · rw [hQz]
        exact hv_vret (u := (ad, ct)) hx hb hr ⟨rfl, (show n9 = i by omega) ▸ hpi, fun q q1 => (gi q q1).trans (by rw [hct0])⟩ hV hS dX1_paint_30 hlocks
      · refine lv_aload_n hx hb dX1_paint_9 rfl (lv_at hl 0 rfl) ?_
        refine hv_get (C := RX1) (T := TX1) (N := 1) hx hb hts hiX1 hown hKs hV hp1 0 rfl (by decide) lk9 (fun _ h9 => h9) rfl dX1_paint_10 ?_
        refine lv_iload_n hx hb dX1_paint_13 rfl (lv_at hl 1 rfl) ?_
        refine lv_iload_n hx hb dX1_paint_14 rfl (lv_at hl 2 rfl) ?_
        refine lv_iload hx hb dX1_paint_15 (lv_at hl 5 rfl) ?_
        refine hN_iadd hx hb dX1_paint_17 ?_
        refine hv_calli (va_runS (As := [.int (nI (r)), .int (nI (f9 + i))]) (rest := [.ref (ad (t + 1))]) ⟨hx, hb, hml, hown, hts⟩ (c_X1_indexOf l D N0 ad ct (r) (by omega) (nI (f9 + i))) (va_cwS 2 hts gX1_paint_X1_indexOf rfl rfl rfl (by decide +kernel) ⟨Nat.le_of_ble_eq_true rfl, Nat.le_of_ble_eq_true rfl⟩) (hv_preS hKs hV hS) rfl rfl hl.1 rfl (lv_room (Nat.le_of_ble_eq_true rfl)) dX1_paint_18 ⟨(Nat.le_of_ble_eq_true rfl), (Nat.le_of_ble_eq_true rfl)⟩) hS (fun r9 u9 H locs hq hV hS => ?_)
        obtain ⟨rfl, rfl⟩ := hq
        have hV : hv D N0 ad ct H := hV
        have hm := m8_lt (nI (f9 + i))
        refine lv_iload hx hb dX1_paint_21 (lv_at hl 4 rfl) ?_
        refine hv_iast hx hb hKs hV hS hp2 (by omega) (by decide) dX1_paint_23 (fun ct H locs he hne hV hS => ?_)
        have hp1 := (hne (t) (by omega)).trans hp1
        have hp2 := he
        refine lv_iinc (v := nI (i + 1)) (lv' := [(5, .int (nI (i + 1))), (0, .ref (ad (t))), (1, .int (nI (r))), (2, .int (nI (f9))), (3, .int (nI (n9))), (4, .int (nI (k9)))]) hx hb dX1_paint_24 hl (k := 5) rfl (nI_add (i) 1) (by decide) rfl (fun ls hl => ?_)
        refine lv_goto (tgt := 3) hx hb dX1_paint_27 (by decide) ?_
        exact ih3 (i + 1)  (by omega) (by omega) ct _ _ (⟨hp1, va_up F (8 * r + m8 (nI (f9 + i))) (nI k9), hp2, paint_F hr3 (by omega) (by omega) hF, paint_8 hk8 hP⟩) (fun q q1 => (hne q q1).trans (gi q q1)) hV hS ls (lv_sub hl [1, 2, 3, 4, 5, 0] rfl)
  exact L3 (n9 + 1) (0)  (by omega) (by omega) ct _ _ (paint_0 hp) (fun q _ => by rw [hct0]) hV hS ls (lv_sub hl [1, 2, 3, 4, 5, 0] rfl)

set_option maxHeartbeats 4000000 in
set_option maxRecDepth 100000 in
theorem c_X2_init (l : Launch) (D : hG) (N0 : Nat) (ad : Nat → Nat) (ct : hC) {t v : Nat} (h0 : ct t = some (eO 2 [.int (nI 0), .null, .int (nI 0), .int (nI 0), .int (nI 0)])) (num kd : Nat) : Met l yX2_init wsX2_init ({ frames := 1, cells := 0, slots := 0, locals := 12 }) (hPc D N0 ad ct [.ref (ad (t)), .int (nI (num)), .ref (ad (v)), .int (nI (kd))]) (va_Qv (fun (u : hU) => u.1 = ad ∧ u.2 t = some (eO 2 [.int (nI num), .ref (ad v), .int (nI kd), .int (-1), .int (nI 0)]) ∧ ∀ q : Nat, q ≠ t → u.2 q = ct q) (hB D N0) (hA N0)) 0 0 (hA N0) := by
  refine Met.ofW (cc := cX2_init) (maxL := 4) (ret := none) (by decide) rfl ?_
  intro p e s m args below meth c s₁ B hml hv0
  obtain ⟨hargs, hKs, hV⟩ := hv0
  have hx := B.exec
  have hb := B.bytes
  have hr := B.returns
  have hts := atoms_spec (ws := wsX2_init) B.pre
  have hown : s.vm.findClass RX2 = some m.cls := findClass_of_methodNamed B.named
  have hlocks := B.notSynchronized
  have hS : va_S (hA N0) s.heap s.heap [] := va_S.rf
  have hin0 : meth.name = "<init>" := (name_of_methodNamed B.named B.method).1
  have hiX2 : ∀ w ∈ u_ws RX2 TX2 5, w ∈ wsX2_init := by decide +kernel
  have lk3 := hts (.methodLink RX2 3 objectInit) (by decide +kernel)
  have lk9 := hts (.fieldLink RX2 9 "CaneSlices$Slice" "number" "I") (by decide +kernel)
  have lk15 := hts (.fieldLink RX2 15 "CaneSlices$Slice" "pattern" "LCaneSlices$Pattern;") (by decide +kernel)
  have lk19 := hts (.fieldLink RX2 19 "CaneSlices$Slice" "kind" "I") (by decide +kernel)
  have lk22 := hts (.fieldLink RX2 22 "CaneSlices$Slice" "eye" "I") (by decide +kernel)
  have hl := lv_entry ([.ref (ad (t)), .int (nI (num)), .ref (ad (v)), .int (nI (kd))]) (n := 4) (Nat.le_of_ble_eq_true rfl)
  have hE : entryFrame m args 4 = entryFrame m ([.ref (ad (t)), .int (nI (num)), .ref (ad (v)), .int (nI (kd))] : List Value).toArray 4 := by rw [hargs]
  rw [hE, lg_entry_eq]
  generalize (lg_sl ([.ref (ad (t)), .int (nI (num)), .ref (ad (v)), .int (nI (kd))]) ++ List.replicate (4 - (lg_sl ([.ref (ad (t)), .int (nI (num)), .ref (ad (v)), .int (nI (kd))])).length) Slot.unset).toArray = ls at hl ⊢
  have hl : lv_has ls 4 [(0, .ref (ad (t))), (1, .int (nI (num))), (2, .ref (ad (v))), (3, .int (nI (kd)))] := hl
  refine lv_aload_n hx hb dX2_init_0 rfl (lv_at hl 0 rfl) ?_
  refine W.objInit hx hb hown lk3 (hts (.instanceMethod objectInit) (by decide +kernel)) (hts (.code objectInit ⟨#[0xb1]⟩ 1 none) (by decide +kernel)) rfl (by rw [hml]; exact hl.1) rfl dX2_init_1 (Nat.le_of_ble_eq_true rfl) (Nat.le_of_ble_eq_true rfl) ?_
  refine W.eq (g2 := F0 m 4 ls []) rfl ?_
  refine lv_aload_n hx hb dX2_init_4 rfl (lv_at hl 0 rfl) ?_
  refine lv_iload_n hx hb dX2_init_5 rfl (lv_at hl 1 rfl) ?_
  refine hv_put (ty := .int) (C := RX2) (T := TX2) (N := 5) hx hb hts hiX2 tyX2 tyX2_ok nmX2 hown hKs hV hS h0 0 rfl (by decide) lk9 (fun _ h9 => h9) (Or.inr ⟨hin0, rfl⟩) (by decide +kernel) rfl rfl (Nat.le_of_ble_eq_true rfl) dX2_init_6 (fun ct H locs he hne hV hS => ?_)
  have h0 : ct (t) = some (eO 2 [.int (nI (num)), .null, .int (nI (0)), .int (nI (0)), .int (nI (0))]) := he
  have hnenumber := hne
  refine lv_aload_n hx hb dX2_init_9 rfl (lv_at hl 0 rfl) ?_
  refine lv_aload_n hx hb dX2_init_10 rfl (lv_at hl 2 rfl) ?_
  refine hv_put (ty := .object "CaneSlices$Pattern") (C := RX2) (T := TX2) (N := 5) hx hb hts hiX2 tyX2 tyX2_ok nmX2 hown hKs hV hS h0 1 rfl (by decide) lk15 (fun _ h9 => h9) (Or.inr ⟨hin0, rfl⟩) (by decide +kernel) rfl rfl (Nat.le_of_ble_eq_true rfl) dX2_init_11 (fun ct H locs he hne hV hS => ?_)
  have h0 : ct (t) = some (eO 2 [.int (nI (num)), .ref (ad (v)), .int (nI (0)), .int (nI (0)), .int (nI (0))]) := he
  have hnepattern := hne
  refine lv_aload_n hx hb dX2_init_14 rfl (lv_at hl 0 rfl) ?_
  refine lv_iload_n hx hb dX2_init_15 rfl (lv_at hl 3 rfl) ?_
  refine hv_put (ty := .int) (C := RX2) (T := TX2) (N := 5) hx hb hts hiX2 tyX2 tyX2_ok nmX2 hown hKs hV hS h0 2 rfl (by decide) lk19 (fun _ h9 => h9) (Or.inr ⟨hin0, rfl⟩) (by decide +kernel) rfl rfl (Nat.le_of_ble_eq_true rfl) dX2_init_16 (fun ct H locs he hne hV hS => ?_)
  have h0 : ct (t) = some (eO 2 [.int (nI (num)), .ref (ad (v)), .int (nI (kd)), .int (nI (0)), .int (nI (0))]) := he
  have hnekind := hne
  refine lv_aload_n hx hb dX2_init_19 rfl (lv_at hl 0 rfl) ?_
  refine lv_iconst (v := (-1)) hx hb dX2_init_20 (by decide) ?_
  refine hv_put (ty := .int) (C := RX2) (T := TX2) (N := 5) hx hb hts hiX2 tyX2 tyX2_ok nmX2 hown hKs hV hS h0 3 rfl (by decide) lk22 (fun _ h9 => h9) (Or.inl (by decide +kernel)) (by decide +kernel) rfl rfl (Nat.le_of_ble_eq_true rfl) dX2_init_21 (fun ct H locs he hne hV hS => ?_)
  have h0 : ct (t) = some (eO 2 [.int (nI (num)), .ref (ad (v)), .int (nI (kd)), .int ((-1)), .int (nI (0))]) := he
  have hneeye := hne
  exact hv_vret (u := (ad, ct)) hx hb hr ⟨rfl, h0, fun q q1 => (hneeye q q1).trans ((hnekind q q1).trans ((hnepattern q q1).trans (hnenumber q q1)))⟩ hV hS dX2_init_24 hlocks

set_option maxHeartbeats 4000000 in
set_option maxRecDepth 100000 in
theorem c_X2_isFree (l : Launch) (D : hG) (N0 : Nat) (ad : Nat → Nat) (ct : hC) {t : Nat} {v1 v2 v3 v5 : Value} {x : Int32} (h0 : ct t = some (eO 2 [v1, v2, v3, .int x, v5])) : Met l yX2_isFree wsX2_isFree ({ frames := 0, cells := 0, slots := 0, locals := 0 }) (hPc D N0 ad ct [.ref (ad (t))]) (va_Qi (fun (z : Int32) (u : hU) => z = hbv (decide (x = -1)) ∧ u = (ad, ct)) (hB D N0) (hA N0)) 0 0 (hA N0) := by
  refine Met.ofW (cc := cX2_isFree) (maxL := 1) (ret := (some .boolean)) (by decide) rfl ?_
  intro p e s m args below meth c s₁ B hml hv0
  obtain ⟨hargs, hKs, hV⟩ := hv0
  have hx := B.exec
  have hb := B.bytes
  have hr := B.returns
  have hts := atoms_spec (ws := wsX2_isFree) B.pre
  have hown : s.vm.findClass RX2 = some m.cls := findClass_of_methodNamed B.named
  have hlocks := B.notSynchronized
  have hS : va_S (hA N0) s.heap s.heap [] := va_S.rf
  have hiX2 : ∀ w ∈ u_ws RX2 TX2 5, w ∈ wsX2_isFree := by decide +kernel
  have lk22 := hts (.fieldLink RX2 22 "CaneSlices$Slice" "eye" "I") (by decide +kernel)
  have hl := lv_entry ([.ref (ad (t))]) (n := 1) (Nat.le_of_ble_eq_true rfl)
  have hE : entryFrame m args 1 = entryFrame m ([.ref (ad (t))] : List Value).toArray 1 := by rw [hargs]
  rw [hE, lg_entry_eq]
  generalize (lg_sl ([.ref (ad (t))]) ++ List.replicate (1 - (lg_sl ([.ref (ad (t))])).length) Slot.unset).toArray = ls at hl ⊢
  have hl : lv_has ls 1 [(0, .ref (ad (t)))] := hl
  refine lv_aload_n hx hb dX2_isFree_0 rfl (lv_at hl 0 rfl) ?_
  refine hv_get (C := RX2) (T := TX2) (N := 5) hx hb hts hiX2 hown hKs hV h0 3 rfl (by decide) lk22 (fun _ h9 => h9) rfl dX2_isFree_1 ?_
  refine lv_iconst (v := (-1)) hx hb dX2_isFree_4 (by decide) ?_
  refine hI_icmp_ne (tgt := 12) hx hb dX2_isFree_5 (by decide) (fun c5 => ?_) (fun c5 => ?_)
  · refine lv_iconst (v := nI 0) hx hb dX2_isFree_12 (by decide) ?_
    exact hv_zret (v := nI (0)) (u := (ad, ct)) hx hb hr (by decide +kernel) ⟨hb_0 (decide_eq_false (fun q => c5 (hI_eq.mp q))), rfl⟩ hV hS dX2_isFree_13 hlocks
  · refine lv_iconst (v := nI 1) hx hb dX2_isFree_8 (by decide) ?_
    refine lv_goto (tgt := 13) hx hb dX2_isFree_9 (by decide) ?_
    exact hv_zret (v := nI (1)) (u := (ad, ct)) hx hb hr (by decide +kernel) ⟨hb_1 (decide_eq_true (hI_eq.mpr c5)), rfl⟩ hV hS dX2_isFree_13 hlocks

set_option maxHeartbeats 4000000 in
set_option maxRecDepth 100000 in
theorem c_X2_enter (l : Launch) (D : hG) (N0 : Nat) (ad : Nat → Nat) (ct : hC) {t : Nat} {v1 v2 v3 : Value} {x y : Int32} (h0 : ct t = some (eO 2 [v1, v2, v3, .int x, .int y])) (en tn : Nat) : Met l yX2_enter wsX2_enter ({ frames := 0, cells := 0, slots := 0, locals := 0 }) (hPc D N0 ad ct [.ref (ad (t)), .int (nI (en)), .int (nI (tn))]) (va_Qv (fun (u : hU) => u.1 = ad ∧ u.2 t = some (eO 2 [v1, v2, v3, .int (nI en), .int (nI tn)]) ∧ ∀ q : Nat, q ≠ t → u.2 q = ct q) (hB D N0) (hA N0)) 0 0 (hA N0) := by
  refine Met.ofW (cc := cX2_enter) (maxL := 3) (ret := none) (by decide) rfl ?_
  intro p e s m args below meth c s₁ B hml hv0
  obtain ⟨hargs, hKs, hV⟩ := hv0
  have hx := B.exec
  have hb := B.bytes
  have hr := B.returns
  have hts := atoms_spec (ws := wsX2_enter) B.pre
  have hown : s.vm.findClass RX2 = some m.cls := findClass_of_methodNamed B.named
  have hlocks := B.notSynchronized
  have hS : va_S (hA N0) s.heap s.heap [] := va_S.rf
  have hiX2 : ∀ w ∈ u_ws RX2 TX2 5, w ∈ wsX2_enter := by decide +kernel
  have lk22 := hts (.fieldLink RX2 22 "CaneSlices$Slice" "eye" "I") (by decide +kernel)
  have lk25 := hts (.fieldLink RX2 25 "CaneSlices$Slice" "turn" "I") (by decide +kernel)
  have hl := lv_entry ([.ref (ad (t)), .int (nI (en)), .int (nI (tn))]) (n := 3) (Nat.le_of_ble_eq_true rfl)
  have hE : entryFrame m args 3 = entryFrame m ([.ref (ad (t)), .int (nI (en)), .int (nI (tn))] : List Value).toArray 3 := by rw [hargs]
  rw [hE, lg_entry_eq]
  generalize (lg_sl ([.ref (ad (t)), .int (nI (en)), .int (nI (tn))]) ++ List.replicate (3 - (lg_sl ([.ref (ad (t)), .int (nI (en)), .int (nI (tn))])).length) Slot.unset).toArray = ls at hl ⊢
  have hl : lv_has ls 3 [(0, .ref (ad (t))), (1, .int (nI (en))), (2, .int (nI (tn)))] := hl
  refine lv_aload_n hx hb dX2_enter_0 rfl (lv_at hl 0 rfl) ?_
  refine lv_iload_n hx hb dX2_enter_1 rfl (lv_at hl 1 rfl) ?_
  refine hv_put (ty := .int) (C := RX2) (T := TX2) (N := 5) hx hb hts hiX2 tyX2 tyX2_ok nmX2 hown hKs hV hS h0 3 rfl (by decide) lk22 (fun _ h9 => h9) (Or.inl (by decide +kernel)) (by decide +kernel) rfl rfl (Nat.le_of_ble_eq_true rfl) dX2_enter_2 (fun ct H locs he hne hV hS => ?_)
  have h0 : ct (t) = some (eO 2 [v1, v2, v3, .int (nI (en)), .int (y)]) := he
  have hneeye := hne
  refine lv_aload_n hx hb dX2_enter_5 rfl (lv_at hl 0 rfl) ?_
  refine lv_iload_n hx hb dX2_enter_6 rfl (lv_at hl 2 rfl) ?_
  refine hv_put (ty := .int) (C := RX2) (T := TX2) (N := 5) hx hb hts hiX2 tyX2 tyX2_ok nmX2 hown hKs hV hS h0 4 rfl (by decide) lk25 (fun _ h9 => h9) (Or.inl (by decide +kernel)) (by decide +kernel) rfl rfl (Nat.le_of_ble_eq_true rfl) dX2_enter_7 (fun ct H locs he hne hV hS => ?_)
  have h0 : ct (t) = some (eO 2 [v1, v2, v3, .int (nI (en)), .int (nI (tn))]) := he
  have hneturn := hne
  exact hv_vret (u := (ad, ct)) hx hb hr ⟨rfl, h0, fun q q1 => (hneturn q q1).trans (hneeye q q1)⟩ hV hS dX2_enter_10 hlocks

set_option maxHeartbeats 4000000 in
set_option maxRecDepth 100000 in
theorem c_X0_hasPlace (l : Launch) (D : hG) (N0 : Nat) (ad : Nat → Nat) (ct : hC) {t : Nat} {pv : Value} {len ht : Nat} {tw : Int32} {cr : Bool} (h0 : ct t = some (eO 0 [pv, .int (nI len), .int tw, .int (nI ht), .int (hbv cr)])) (hl60 : len ≤ 60) (x : Int32) : Met l yX0_hasPlace wsX0_hasPlace ({ frames := 0, cells := 0, slots := 0, locals := 0 }) (hPc D N0 ad ct [.ref (ad (t)), .int (x)]) (va_Qi (fun (z : Int32) (u : hU) => z = hbv (inR x len) ∧ u = (ad, ct)) (hB D N0) (hA N0)) 0 0 (hA N0) := by
  refine Met.ofW (cc := cX0_hasPlace) (maxL := 2) (ret := (some .boolean)) (by decide) rfl ?_
  intro p e s m args below meth c s₁ B hml hv0
  obtain ⟨hargs, hKs, hV⟩ := hv0
  have hx := B.exec
  have hb := B.bytes
  have hr := B.returns
  have hts := atoms_spec (ws := wsX0_hasPlace) B.pre
  have hown : s.vm.findClass RX0 = some m.cls := findClass_of_methodNamed B.named
  have hlocks := B.notSynchronized
  have hS : va_S (hA N0) s.heap s.heap [] := va_S.rf
  have hiX0 : ∀ w ∈ u_ws RX0 TX0 5, w ∈ wsX0_hasPlace := by decide +kernel
  have lk18 := hts (.fieldLink RX0 18 "CaneSlices$Cane" "length" "I") (by decide +kernel)
  have hl := lv_entry ([.ref (ad (t)), .int (x)]) (n := 2) (Nat.le_of_ble_eq_true rfl)
  have hE : entryFrame m args 2 = entryFrame m ([.ref (ad (t)), .int (x)] : List Value).toArray 2 := by rw [hargs]
  rw [hE, lg_entry_eq]
  generalize (lg_sl ([.ref (ad (t)), .int (x)]) ++ List.replicate (2 - (lg_sl ([.ref (ad (t)), .int (x)])).length) Slot.unset).toArray = ls at hl ⊢
  have hl : lv_has ls 2 [(0, .ref (ad (t))), (1, .int (x))] := hl
  refine lv_iload_n hx hb dX0_hasPlace_0 rfl (lv_at hl 1 rfl) ?_
  refine hI_if_lt (tgt := 16) hx hb dX0_hasPlace_1 (by decide) (fun c1 => ?_) (fun c1 => ?_)
  · refine lv_iconst (v := nI 0) hx hb dX0_hasPlace_16 (by decide) ?_
    exact hv_zret (v := nI (0)) (u := (ad, ct)) hx hb hr (by decide +kernel) ⟨hb_0 (inR_0 (Or.inl c1)), rfl⟩ hV hS dX0_hasPlace_17 hlocks
  · refine lv_iload_n hx hb dX0_hasPlace_4 rfl (lv_at hl 1 rfl) ?_
    refine lv_aload_n hx hb dX0_hasPlace_5 rfl (lv_at hl 0 rfl) ?_
    refine hv_get (C := RX0) (T := TX0) (N := 5) hx hb hts hiX0 hown hKs hV h0 1 rfl (by decide) lk18 (fun _ h9 => h9) rfl dX0_hasPlace_6 ?_
    refine hR_icmp_ge (tgt := 16) hx hb (by omega) dX0_hasPlace_9 (by decide) (fun c9 => ?_) (fun c9 => ?_)
    · refine lv_iconst (v := nI 0) hx hb dX0_hasPlace_16 (by decide) ?_
      exact hv_zret (v := nI (0)) (u := (ad, ct)) hx hb hr (by decide +kernel) ⟨hb_0 (inR_0 (Or.inr c9)), rfl⟩ hV hS dX0_hasPlace_17 hlocks
    · refine lv_iconst (v := nI 1) hx hb dX0_hasPlace_12 (by decide) ?_
      refine lv_goto (tgt := 17) hx hb dX0_hasPlace_13 (by decide) ?_
      exact hv_zret (v := nI (1)) (u := (ad, ct)) hx hb hr (by decide +kernel) ⟨hb_1 (inR_1 c1 c9), rfl⟩ hV hS dX0_hasPlace_17 hlocks

set_option maxHeartbeats 4000000 in
set_option maxRecDepth 100000 in
theorem c_X0_turnAt (l : Launch) (D : hG) (N0 : Nat) (ad : Nat → Nat) (ct : hC) {t : Nat} {pv : Value} {len ht : Nat} {tw : Int32} {cr : Bool} (h0 : ct t = some (eO 0 [pv, .int (nI len), .int tw, .int (nI ht), .int (hbv cr)])) (x : Int32) : Met l yX0_turnAt wsX0_turnAt ({ frames := 0, cells := 0, slots := 0, locals := 0 }) (hPc D N0 ad ct [.ref (ad (t)), .int (x)]) (va_Qi (fun (z : Int32) (u : hU) => z = tw * x ∧ u = (ad, ct)) (hB D N0) (hA N0)) 0 0 (hA N0) := by
  refine Met.ofW (cc := cX0_turnAt) (maxL := 2) (ret := (some .int)) (by decide) rfl ?_
  intro p e s m args below meth c s₁ B hml hv0
  obtain ⟨hargs, hKs, hV⟩ := hv0
  have hx := B.exec
  have hb := B.bytes
  have hr := B.returns
  have hts := atoms_spec (ws := wsX0_turnAt) B.pre
  have hown : s.vm.findClass RX0 = some m.cls := findClass_of_methodNamed B.named
  have hlocks := B.notSynchronized
  have hS : va_S (hA N0) s.heap s.heap [] := va_S.rf
  have hiX0 : ∀ w ∈ u_ws RX0 TX0 5, w ∈ wsX0_turnAt := by decide +kernel
  have lk25 := hts (.fieldLink RX0 25 "CaneSlices$Cane" "twist" "I") (by decide +kernel)
  have hl := lv_entry ([.ref (ad (t)), .int (x)]) (n := 2) (Nat.le_of_ble_eq_true rfl)
  have hE : entryFrame m args 2 = entryFrame m ([.ref (ad (t)), .int (x)] : List Value).toArray 2 := by rw [hargs]
  rw [hE, lg_entry_eq]
  generalize (lg_sl ([.ref (ad (t)), .int (x)]) ++ List.replicate (2 - (lg_sl ([.ref (ad (t)), .int (x)])).length) Slot.unset).toArray = ls at hl ⊢
  have hl : lv_has ls 2 [(0, .ref (ad (t))), (1, .int (x))] := hl
  refine lv_aload_n hx hb dX0_turnAt_0 rfl (lv_at hl 0 rfl) ?_
  refine hv_get (C := RX0) (T := TX0) (N := 5) hx hb hts hiX0 hown hKs hV h0 2 rfl (by decide) lk25 (fun _ h9 => h9) rfl dX0_turnAt_1 ?_
  refine lv_iload_n hx hb dX0_turnAt_4 rfl (lv_at hl 1 rfl) ?_
  refine lv_imul hx hb dX0_turnAt_5 ?_
  exact hv_iret (v := ((tw) * (x))) (u := (ad, ct)) hx hb hr ⟨rfl, rfl⟩ hV hS dX0_turnAt_6 hlocks

set_option maxHeartbeats 4000000 in
set_option maxRecDepth 100000 in
theorem c_X0_startWorking (l : Launch) (D : hG) (N0 : Nat) (ad : Nat → Nat) (ct : hC) {t : Nat} {pv : Value} {len ht : Nat} {tw : Int32} {cr : Bool} (h0 : ct t = some (eO 0 [pv, .int (nI len), .int tw, .int (nI ht), .int (hbv cr)])) (hh10 : ht ≤ 10) (k9 : Nat) (hk10 : k9 ≤ 10) (hk1 : 1 ≤ k9) : Met l yX0_startWorking wsX0_startWorking ({ frames := 0, cells := 0, slots := 0, locals := 0 }) (hPc D N0 ad ct [.ref (ad (t)), .int (nI (k9))]) (va_Qi (fun (z : Int32) (u : hU) => z = hbv (decide (k9 ≤ ht)) ∧ u.1 = ad ∧ u.2 t = some (eO 0 [pv, .int (nI len), .int tw, .int (nI (if k9 ≤ ht then ht - 1 else ht)), .int (hbv (if k9 ≤ ht then cr else true))]) ∧ ∀ q : Nat, q ≠ t → u.2 q = ct q) (hB D N0) (hA N0)) 0 0 (hA N0) := by
  refine Met.ofW (cc := cX0_startWorking) (maxL := 2) (ret := (some .boolean)) (by decide) rfl ?_
  intro p e s m args below meth c s₁ B hml hv0
  obtain ⟨hargs, hKs, hV⟩ := hv0
  have hx := B.exec
  have hb := B.bytes
  have hr := B.returns
  have hts := atoms_spec (ws := wsX0_startWorking) B.pre
  have hown : s.vm.findClass RX0 = some m.cls := findClass_of_methodNamed B.named
  have hlocks := B.notSynchronized
  have hS : va_S (hA N0) s.heap s.heap [] := va_S.rf
  have hiX0 : ∀ w ∈ u_ws RX0 TX0 5, w ∈ wsX0_startWorking := by decide +kernel
  have lk22 := hts (.fieldLink RX0 22 "CaneSlices$Cane" "heat" "I") (by decide +kernel)
  have lk28 := hts (.fieldLink RX0 28 "CaneSlices$Cane" "cracked" "Z") (by decide +kernel)
  have hl := lv_entry ([.ref (ad (t)), .int (nI (k9))]) (n := 2) (Nat.le_of_ble_eq_true rfl)
  have hE : entryFrame m args 2 = entryFrame m ([.ref (ad (t)), .int (nI (k9))] : List Value).toArray 2 := by rw [hargs]
  rw [hE, lg_entry_eq]
  generalize (lg_sl ([.ref (ad (t)), .int (nI (k9))]) ++ List.replicate (2 - (lg_sl ([.ref (ad (t)), .int (nI (k9))])).length) Slot.unset).toArray = ls at hl ⊢
  have hl : lv_has ls 2 [(0, .ref (ad (t))), (1, .int (nI (k9)))] := hl
  refine lv_aload_n hx hb dX0_startWorking_0 rfl (lv_at hl 0 rfl) ?_
  refine hv_get (C := RX0) (T := TX0) (N := 5) hx hb hts hiX0 hown hKs hV h0 3 rfl (by decide) lk22 (fun _ h9 => h9) rfl dX0_startWorking_1 ?_
  refine lv_iload_n hx hb dX0_startWorking_4 rfl (lv_at hl 1 rfl) ?_
  refine hN_icmp_ge (tgt := 15) hx hb (by omega) (by omega) dX0_startWorking_5 (by decide) (fun c5 => ?_) (fun c5 => ?_)
  · refine lv_aload_n hx hb dX0_startWorking_15 rfl (lv_at hl 0 rfl) ?_
    refine lv_dup hx hb dX0_startWorking_16 rfl ?_
    refine hv_get (C := RX0) (T := TX0) (N := 5) hx hb hts hiX0 hown hKs hV h0 3 rfl (by decide) lk22 (fun _ h9 => h9) rfl dX0_startWorking_17 ?_
    refine lv_iconst (v := nI 1) hx hb dX0_startWorking_20 (by decide) ?_
    refine hN_isub hx hb (by omega) dX0_startWorking_21 ?_
    refine hv_put (ty := .int) (C := RX0) (T := TX0) (N := 5) hx hb hts hiX0 tyX0 tyX0_ok nmX0 hown hKs hV hS h0 3 rfl (by decide) lk22 (fun _ h9 => h9) (Or.inl (by decide +kernel)) (by decide +kernel) rfl rfl (Nat.le_of_ble_eq_true rfl) dX0_startWorking_22 (fun ct H locs he hne hV hS => ?_)
    have h0 : ct (t) = some (eO 0 [pv, .int (nI (len)), .int (tw), .int (nI (ht - (1))), .int (hbv (cr))]) := he
    refine lv_iconst (v := nI 1) hx hb dX0_startWorking_25 (by decide) ?_
    exact hv_zret (v := nI (1)) (u := (ad, ct)) hx hb hr (by decide +kernel) ⟨hb_1 (decide_eq_true (by omega)), rfl, by rw [if_pos (show k9 ≤ ht by omega), if_pos (show k9 ≤ ht by omega)]; exact h0, hne⟩ hV hS dX0_startWorking_26 hlocks
  · refine lv_aload_n hx hb dX0_startWorking_8 rfl (lv_at hl 0 rfl) ?_
    refine lv_iconst (v := nI 1) hx hb dX0_startWorking_9 (by decide) ?_
    refine hv_put (ty := .boolean) (C := RX0) (T := TX0) (N := 5) hx hb hts hiX0 tyX0 tyX0_ok nmX0 hown hKs hV hS h0 4 rfl (by decide) lk28 (fun _ h9 => h9) (Or.inl (by decide +kernel)) (by decide +kernel) (by decide +kernel) (by decide +kernel) (Nat.le_of_ble_eq_true rfl) dX0_startWorking_10 (fun ct H locs he hne hV hS => ?_)
    have h0 : ct (t) = some (eO 0 [pv, .int (nI (len)), .int (tw), .int (nI (ht)), .int (nI (1))]) := he
    refine lv_iconst (v := nI 0) hx hb dX0_startWorking_13 (by decide) ?_
    exact hv_zret (v := nI (0)) (u := (ad, ct)) hx hb hr (by decide +kernel) ⟨hb_0 (decide_eq_false (by omega)), rfl, by rw [if_neg (show ¬ k9 ≤ ht by omega), if_neg (show ¬ k9 ≤ ht by omega)]; exact h0, hne⟩ hV hS dX0_startWorking_14 hlocks

set_option maxHeartbeats 4000000 in
set_option maxRecDepth 100000 in
theorem c_X0_stretch (l : Launch) (D : hG) (N0 : Nat) (ad : Nat → Nat) (ct : hC) {t : Nat} {pv : Value} {len ht : Nat} {tw : Int32} {cr : Bool} (h0 : ct t = some (eO 0 [pv, .int (nI len), .int tw, .int (nI ht), .int (hbv cr)])) (hl60 : len ≤ 60) : Met l yX0_stretch wsX0_stretch ({ frames := 1, cells := 0, slots := 0, locals := 14 }) (hPc D N0 ad ct [.ref (ad (t))]) (va_Qv (fun (u : hU) => u.1 = ad ∧ u.2 t = some (eO 0 [pv, .int (nI (min (2 * len) 60)), .int (tw / nI 2), .int (nI ht), .int (hbv cr)]) ∧ ∀ q : Nat, q ≠ t → u.2 q = ct q) (hB D N0) (hA N0)) 0 0 (hA N0) := by
  refine Met.ofW (cc := cX0_stretch) (maxL := 1) (ret := none) (by decide) rfl ?_
  intro p e s m args below meth c s₁ B hml hv0
  obtain ⟨hargs, hKs, hV⟩ := hv0
  have hx := B.exec
  have hb := B.bytes
  have hr := B.returns
  have hts := atoms_spec (ws := wsX0_stretch) B.pre
  have hown : s.vm.findClass RX0 = some m.cls := findClass_of_methodNamed B.named
  have hlocks := B.notSynchronized
  have hS : va_S (hA N0) s.heap s.heap [] := va_S.rf
  have hiX0 : ∀ w ∈ u_ws RX0 TX0 5, w ∈ wsX0_stretch := by decide +kernel
  have lk18 := hts (.fieldLink RX0 18 "CaneSlices$Cane" "length" "I") (by decide +kernel)
  have lk32 := hts (.methodLink RX0 32 Lib.Math.min.name) (by decide +kernel)
  have lk25 := hts (.fieldLink RX0 25 "CaneSlices$Cane" "twist" "I") (by decide +kernel)
  have hl := lv_entry ([.ref (ad (t))]) (n := 1) (Nat.le_of_ble_eq_true rfl)
  have hE : entryFrame m args 1 = entryFrame m ([.ref (ad (t))] : List Value).toArray 1 := by rw [hargs]
  rw [hE, lg_entry_eq]
  generalize (lg_sl ([.ref (ad (t))]) ++ List.replicate (1 - (lg_sl ([.ref (ad (t))])).length) Slot.unset).toArray = ls at hl ⊢
  have hl : lv_has ls 1 [(0, .ref (ad (t)))] := hl
  refine lv_aload_n hx hb dX0_stretch_0 rfl (lv_at hl 0 rfl) ?_
  refine lv_iconst (v := nI 2) hx hb dX0_stretch_1 (by decide) ?_
  refine lv_aload_n hx hb dX0_stretch_2 rfl (lv_at hl 0 rfl) ?_
  refine hv_get (C := RX0) (T := TX0) (N := 5) hx hb hts hiX0 hown hKs hV h0 1 rfl (by decide) lk18 (fun _ h9 => h9) rfl dX0_stretch_3 ?_
  refine hN_imul hx hb dX0_stretch_6 ?_
  refine lv_bipush (v := nI 60) hx hb dX0_stretch_7 (by decide) ?_
  refine va_mmin hx hb (hml.trans hl.1.symm) hown lk32 (hts (.static Lib.Math.min.name) (by decide +kernel)) (hts (.initialized "java/lang/Math") (by decide +kernel)) (hts (.code Lib.Math.min.name Lib.Math.min.code 2 (some .int)) (by decide +kernel)) (Nat.le_of_ble_eq_true rfl) (Nat.le_of_ble_eq_true rfl) (Nat.le_of_ble_eq_true rfl) (Nat.le_of_ble_eq_true rfl) dX0_stretch_9 ?_
  refine hv_eqi (hN_min (by omega) (by omega)) ?_
  refine hv_put (ty := .int) (C := RX0) (T := TX0) (N := 5) hx hb hts hiX0 tyX0 tyX0_ok nmX0 hown hKs hV hS h0 1 rfl (by decide) lk18 (fun _ h9 => h9) (Or.inl (by decide +kernel)) (by decide +kernel) rfl rfl (Nat.le_of_ble_eq_true rfl) dX0_stretch_12 (fun ct H locs he hne hV hS => ?_)
  have h0 : ct (t) = some (eO 0 [pv, .int (nI (min ((2) * (len)) (60))), .int (tw), .int (nI (ht)), .int (hbv (cr))]) := he
  have hnelength := hne
  refine lv_aload_n hx hb dX0_stretch_15 rfl (lv_at hl 0 rfl) ?_
  refine lv_aload_n hx hb dX0_stretch_16 rfl (lv_at hl 0 rfl) ?_
  refine hv_get (C := RX0) (T := TX0) (N := 5) hx hb hts hiX0 hown hKs hV h0 2 rfl (by decide) lk25 (fun _ h9 => h9) rfl dX0_stretch_17 ?_
  refine lv_iconst (v := nI 2) hx hb dX0_stretch_20 (by decide) ?_
  refine lv_idiv hx hb dX0_stretch_21 (by decide) ?_
  refine hv_put (ty := .int) (C := RX0) (T := TX0) (N := 5) hx hb hts hiX0 tyX0 tyX0_ok nmX0 hown hKs hV hS h0 2 rfl (by decide) lk25 (fun _ h9 => h9) (Or.inl (by decide +kernel)) (by decide +kernel) rfl rfl (Nat.le_of_ble_eq_true rfl) dX0_stretch_22 (fun ct H locs he hne hV hS => ?_)
  have h0 : ct (t) = some (eO 0 [pv, .int (nI (min ((2) * (len)) (60))), .int ((tw) / nI (2)), .int (nI (ht)), .int (hbv (cr))]) := he
  have hnetwist := hne
  exact hv_vret (u := (ad, ct)) hx hb hr ⟨rfl, h0, fun q q1 => (hnetwist q q1).trans (hnelength q q1)⟩ hV hS dX0_stretch_25 hlocks

set_option maxHeartbeats 4000000 in
set_option maxRecDepth 100000 in
theorem c_X0_passMinute (l : Launch) (D : hG) (N0 : Nat) (ad : Nat → Nat) (ct : hC) {t : Nat} {pv : Value} {len ht : Nat} {tw : Int32} {cr : Bool} (h0 : ct t = some (eO 0 [pv, .int (nI len), .int tw, .int (nI ht), .int (hbv cr)])) (hh10 : ht ≤ 10) (b : Bool) : Met l yX0_passMinute wsX0_passMinute ({ frames := 1, cells := 0, slots := 0, locals := 14 }) (hPc D N0 ad ct [.ref (ad (t)), .int (hbv (b))]) (va_Qv (fun (u : hU) => u.1 = ad ∧ u.2 t = some (eO 0 [pv, .int (nI len), .int tw, .int (nI (if b = true then min (ht + 3) 10 else ht - 1)), .int (hbv cr)]) ∧ ∀ q : Nat, q ≠ t → u.2 q = ct q) (hB D N0) (hA N0)) 0 0 (hA N0) := by
  refine Met.ofW (cc := cX0_passMinute) (maxL := 2) (ret := none) (by decide) rfl ?_
  intro p e s m args below meth c s₁ B hml hv0
  obtain ⟨hargs, hKs, hV⟩ := hv0
  have hx := B.exec
  have hb := B.bytes
  have hr := B.returns
  have hts := atoms_spec (ws := wsX0_passMinute) B.pre
  have hown : s.vm.findClass RX0 = some m.cls := findClass_of_methodNamed B.named
  have hlocks := B.notSynchronized
  have hS : va_S (hA N0) s.heap s.heap [] := va_S.rf
  have hiX0 : ∀ w ∈ u_ws RX0 TX0 5, w ∈ wsX0_passMinute := by decide +kernel
  have lk22 := hts (.fieldLink RX0 22 "CaneSlices$Cane" "heat" "I") (by decide +kernel)
  have lk38 := hts (.methodLink RX0 38 Lib.Math.max.name) (by decide +kernel)
  have lk32 := hts (.methodLink RX0 32 Lib.Math.min.name) (by decide +kernel)
  have hl := lv_entry ([.ref (ad (t)), .int (hbv (b))]) (n := 2) (Nat.le_of_ble_eq_true rfl)
  have hE : entryFrame m args 2 = entryFrame m ([.ref (ad (t)), .int (hbv (b))] : List Value).toArray 2 := by rw [hargs]
  rw [hE, lg_entry_eq]
  generalize (lg_sl ([.ref (ad (t)), .int (hbv (b))]) ++ List.replicate (2 - (lg_sl ([.ref (ad (t)), .int (hbv (b))])).length) Slot.unset).toArray = ls at hl ⊢
  have hl : lv_has ls 2 [(0, .ref (ad (t))), (1, .int (hbv (b)))] := hl
  refine lv_aload_n hx hb dX0_passMinute_0 rfl (lv_at hl 0 rfl) ?_
  refine lv_iload_n hx hb dX0_passMinute_1 rfl (lv_at hl 1 rfl) ?_
  refine hB_if_eq (tgt := 19) hx hb dX0_passMinute_2 (by decide) (fun c2 => ?_) (fun c2 => ?_)
  · refine lv_aload_n hx hb dX0_passMinute_19 rfl (lv_at hl 0 rfl) ?_
    refine hv_get (C := RX0) (T := TX0) (N := 5) hx hb hts hiX0 hown hKs hV h0 3 rfl (by decide) lk22 (fun _ h9 => h9) rfl dX0_passMinute_20 ?_
    refine lv_iconst (v := nI 1) hx hb dX0_passMinute_23 (by decide) ?_
    refine lv_isub hx hb dX0_passMinute_24 ?_
    refine lv_iconst (v := nI 0) hx hb dX0_passMinute_25 (by decide) ?_
    refine va_mmax hx hb (hml.trans hl.1.symm) hown lk38 (hts (.static Lib.Math.max.name) (by decide +kernel)) (hts (.initialized "java/lang/Math") (by decide +kernel)) (hts (.code Lib.Math.max.name Lib.Math.max.code 2 (some .int)) (by decide +kernel)) (Nat.le_of_ble_eq_true rfl) (Nat.le_of_ble_eq_true rfl) (Nat.le_of_ble_eq_true rfl) (Nat.le_of_ble_eq_true rfl) dX0_passMinute_26 ?_
    refine hv_eqi (hN_max0 (by omega)) ?_
    refine hv_put (ty := .int) (C := RX0) (T := TX0) (N := 5) hx hb hts hiX0 tyX0 tyX0_ok nmX0 hown hKs hV hS h0 3 rfl (by decide) lk22 (fun _ h9 => h9) (Or.inl (by decide +kernel)) (by decide +kernel) rfl rfl (Nat.le_of_ble_eq_true rfl) dX0_passMinute_29 (fun ct H locs he hne hV hS => ?_)
    have h0 : ct (t) = some (eO 0 [pv, .int (nI (len)), .int (tw), .int (nI (ht - 1)), .int (hbv (cr))]) := he
    exact hv_vret (u := (ad, ct)) hx hb hr ⟨rfl, by rw [if_neg (by rw [c2]; decide)]; exact h0, hne⟩ hV hS dX0_passMinute_32 hlocks
  · refine lv_aload_n hx hb dX0_passMinute_5 rfl (lv_at hl 0 rfl) ?_
    refine hv_get (C := RX0) (T := TX0) (N := 5) hx hb hts hiX0 hown hKs hV h0 3 rfl (by decide) lk22 (fun _ h9 => h9) rfl dX0_passMinute_6 ?_
    refine lv_iconst (v := nI 3) hx hb dX0_passMinute_9 (by decide) ?_
    refine hN_iadd hx hb dX0_passMinute_10 ?_
    refine lv_bipush (v := nI 10) hx hb dX0_passMinute_11 (by decide) ?_
    refine va_mmin hx hb (hml.trans hl.1.symm) hown lk32 (hts (.static Lib.Math.min.name) (by decide +kernel)) (hts (.initialized "java/lang/Math") (by decide +kernel)) (hts (.code Lib.Math.min.name Lib.Math.min.code 2 (some .int)) (by decide +kernel)) (Nat.le_of_ble_eq_true rfl) (Nat.le_of_ble_eq_true rfl) (Nat.le_of_ble_eq_true rfl) (Nat.le_of_ble_eq_true rfl) dX0_passMinute_13 ?_
    refine hv_eqi (hN_min (by omega) (by omega)) ?_
    refine lv_goto (tgt := 29) hx hb dX0_passMinute_16 (by decide) ?_
    refine hv_put (ty := .int) (C := RX0) (T := TX0) (N := 5) hx hb hts hiX0 tyX0 tyX0_ok nmX0 hown hKs hV hS h0 3 rfl (by decide) lk22 (fun _ h9 => h9) (Or.inl (by decide +kernel)) (by decide +kernel) rfl rfl (Nat.le_of_ble_eq_true rfl) dX0_passMinute_29 (fun ct H locs he hne hV hS => ?_)
    have h0 : ct (t) = some (eO 0 [pv, .int (nI (len)), .int (tw), .int (nI (min (ht + 3) (10))), .int (hbv (cr))]) := he
    exact hv_vret (u := (ad, ct)) hx hb hr ⟨rfl, by rw [if_pos c2]; exact h0, hne⟩ hV hS dX0_passMinute_32 hlocks

set_option maxHeartbeats 4000000 in
set_option maxRecDepth 100000 in
theorem c_X0_tell (l : Launch) (D : hG) (N0 : Nat) (ad : Nat → Nat) (ct : hC) {t : Nat} {pv : Value} {len ht : Nat} {tw : Int32} {cr : Bool} (h0 : ct t = some (eO 0 [pv, .int (nI len), .int tw, .int (nI ht), .int (hbv cr)])) (k9 : Nat) (hk5 : k9 < 5) (b : Bool) : Met l yX0_tell wsX0_tell ({ frames := 0, cells := 0, slots := 0, locals := 0 }) (hPc D N0 ad ct [.ref (ad (t)), .int (nI (k9)), .int (hbv (b))]) (va_Qi (fun (z : Int32) (u : hU) => z = ctell len tw ht cr b k9 ∧ u = (ad, ct)) (hB D N0) (hA N0)) 0 0 (hA N0) := by
  refine Met.ofW (cc := cX0_tell) (maxL := 3) (ret := (some .int)) (by decide) rfl ?_
  intro p e s m args below meth c s₁ B hml hv0
  obtain ⟨hargs, hKs, hV⟩ := hv0
  have hx := B.exec
  have hb := B.bytes
  have hr := B.returns
  have hts := atoms_spec (ws := wsX0_tell) B.pre
  have hown : s.vm.findClass RX0 = some m.cls := findClass_of_methodNamed B.named
  have hlocks := B.notSynchronized
  have hS : va_S (hA N0) s.heap s.heap [] := va_S.rf
  have hiX0 : ∀ w ∈ u_ws RX0 TX0 5, w ∈ wsX0_tell := by decide +kernel
  have lk18 := hts (.fieldLink RX0 18 "CaneSlices$Cane" "length" "I") (by decide +kernel)
  have lk25 := hts (.fieldLink RX0 25 "CaneSlices$Cane" "twist" "I") (by decide +kernel)
  have lk22 := hts (.fieldLink RX0 22 "CaneSlices$Cane" "heat" "I") (by decide +kernel)
  have lk28 := hts (.fieldLink RX0 28 "CaneSlices$Cane" "cracked" "Z") (by decide +kernel)
  have hl := lv_entry ([.ref (ad (t)), .int (nI (k9)), .int (hbv (b))]) (n := 3) (Nat.le_of_ble_eq_true rfl)
  have hE : entryFrame m args 3 = entryFrame m ([.ref (ad (t)), .int (nI (k9)), .int (hbv (b))] : List Value).toArray 3 := by rw [hargs]
  rw [hE, lg_entry_eq]
  generalize (lg_sl ([.ref (ad (t)), .int (nI (k9)), .int (hbv (b))]) ++ List.replicate (3 - (lg_sl ([.ref (ad (t)), .int (nI (k9)), .int (hbv (b))])).length) Slot.unset).toArray = ls at hl ⊢
  have hl : lv_has ls 3 [(0, .ref (ad (t))), (1, .int (nI (k9))), (2, .int (hbv (b)))] := hl
  refine lv_iload_n hx hb dX0_tell_0 rfl (lv_at hl 1 rfl) ?_
  rcases (show k9 = 0 ∨ k9 = 1 ∨ k9 = 2 ∨ k9 = 3 ∨ k9 = 4 by omega) with rfl | rfl | rfl | rfl | rfl
  · refine lv_tableIn (tgt := 32) hx hb dX0_tell_1 (by decide) (by decide) rfl (by decide) ?_
    refine lv_aload_n hx hb dX0_tell_32 rfl (lv_at hl 0 rfl) ?_
    refine hv_get (C := RX0) (T := TX0) (N := 5) hx hb hts hiX0 hown hKs hV h0 1 rfl (by decide) lk18 (fun _ h9 => h9) rfl dX0_tell_33 ?_
    exact hv_iret (v := nI (len)) (u := (ad, ct)) hx hb hr ⟨rfl, rfl⟩ hV hS dX0_tell_36 hlocks
  · refine lv_tableIn (tgt := 37) hx hb dX0_tell_1 (by decide) (by decide) rfl (by decide) ?_
    refine lv_aload_n hx hb dX0_tell_37 rfl (lv_at hl 0 rfl) ?_
    refine hv_get (C := RX0) (T := TX0) (N := 5) hx hb hts hiX0 hown hKs hV h0 2 rfl (by decide) lk25 (fun _ h9 => h9) rfl dX0_tell_38 ?_
    exact hv_iret (v := (tw)) (u := (ad, ct)) hx hb hr ⟨rfl, rfl⟩ hV hS dX0_tell_41 hlocks
  · refine lv_tableIn (tgt := 42) hx hb dX0_tell_1 (by decide) (by decide) rfl (by decide) ?_
    refine lv_aload_n hx hb dX0_tell_42 rfl (lv_at hl 0 rfl) ?_
    refine hv_get (C := RX0) (T := TX0) (N := 5) hx hb hts hiX0 hown hKs hV h0 3 rfl (by decide) lk22 (fun _ h9 => h9) rfl dX0_tell_43 ?_
    exact hv_iret (v := nI (ht)) (u := (ad, ct)) hx hb hr ⟨rfl, rfl⟩ hV hS dX0_tell_46 hlocks
  · refine lv_tableIn (tgt := 47) hx hb dX0_tell_1 (by decide) (by decide) rfl (by decide) ?_
    refine lv_aload_n hx hb dX0_tell_47 rfl (lv_at hl 0 rfl) ?_
    refine hv_get (C := RX0) (T := TX0) (N := 5) hx hb hts hiX0 hown hKs hV h0 4 rfl (by decide) lk28 (fun _ h9 => h9) rfl dX0_tell_48 ?_
    refine hB_if_eq (tgt := 58) hx hb dX0_tell_51 (by decide) (fun c51 => ?_) (fun c51 => ?_)
    · refine lv_iconst (v := nI 1) hx hb dX0_tell_58 (by decide) ?_
      exact hv_iret (v := nI (1)) (u := (ad, ct)) hx hb hr ⟨hb_1 (by rw [c51]; rfl), rfl⟩ hV hS dX0_tell_59 hlocks
    · refine lv_iconst (v := nI 0) hx hb dX0_tell_54 (by decide) ?_
      refine lv_goto (tgt := 59) hx hb dX0_tell_55 (by decide) ?_
      exact hv_iret (v := nI (0)) (u := (ad, ct)) hx hb hr ⟨hb_0 (by rw [c51]; rfl), rfl⟩ hV hS dX0_tell_59 hlocks
  · refine lv_tableOut (tgt := 60) hx hb dX0_tell_1 (by decide) (by decide) ?_
    refine lv_iload_n hx hb dX0_tell_60 rfl (lv_at hl 2 rfl) ?_
    refine hB_if_eq (tgt := 68) hx hb dX0_tell_61 (by decide) (fun c61 => ?_) (fun c61 => ?_)
    · refine lv_iconst (v := nI 0) hx hb dX0_tell_68 (by decide) ?_
      exact hv_iret (v := nI (0)) (u := (ad, ct)) hx hb hr ⟨hb_0 c61, rfl⟩ hV hS dX0_tell_69 hlocks
    · refine lv_iconst (v := nI 1) hx hb dX0_tell_64 (by decide) ?_
      refine lv_goto (tgt := 69) hx hb dX0_tell_65 (by decide) ?_
      exact hv_iret (v := nI (1)) (u := (ad, ct)) hx hb hr ⟨hb_1 c61, rfl⟩ hV hS dX0_tell_69 hlocks

set_option maxHeartbeats 4000000 in
set_option maxRecDepth 100000 in
theorem c_X0_init (l : Launch) (D : hG) (N0 : Nat) (ad : Nat → Nat) (ct : hC) {t : Nat} (h0 : ct t = some (eO 0 [.null, .int (nI 0), .int (nI 0), .int (nI 0), .int (nI 0)])) : Met l yX0_init wsX0_init ({ frames := 2, cells := 2, slots := 25, locals := 32 }) (hPc D N0 ad ct [.ref (ad (t))]) (va_Qv (fun (u : hU) => (∀ q : Nat, q ≠ t + 1 → q ≠ t + 2 → u.1 q = ad q) ∧ (∀ q : Nat, q ≠ t → q ≠ t + 1 → q ≠ t + 2 → u.2 q = ct q) ∧ u.2 t = some (eO 0 [.ref (u.1 (t + 1)), .int (nI 8), .int (nI 0), .int (nI 10), .int (nI 0)]) ∧ hPat D u.1 u.2 (t + 1) (fun _ => 0)) (hB D N0) (hA N0)) 2 25 (hA N0) := by
  refine Met.ofW (cc := cX0_init) (maxL := 1) (ret := none) (by decide) rfl ?_
  intro p e s m args below meth c s₁ B hml hv0
  obtain ⟨hargs, hKs, hV⟩ := hv0
  have hx := B.exec
  have hb := B.bytes
  have hr := B.returns
  have hts := atoms_spec (ws := wsX0_init) B.pre
  have hown : s.vm.findClass RX0 = some m.cls := findClass_of_methodNamed B.named
  have hlocks := B.notSynchronized
  have hS : va_S (hA N0) s.heap s.heap [] := va_S.rf
  have hin0 : meth.name = "<init>" := (name_of_methodNamed B.named B.method).1
  have hiX0 : ∀ w ∈ u_ws RX0 TX0 5, w ∈ wsX0_init := by decide +kernel
  have hiX1 : ∀ w ∈ u_ws RX1 TX1 1, w ∈ wsX0_init := by decide +kernel
  have lk3 := hts (.methodLink RX0 3 objectInit) (by decide +kernel)
  have kc9 := hts (.classLink RX0 9 RX1) (by decide +kernel)
  have kiX1 := hts (.instantiable RX1 1) (by decide +kernel)
  have kjX1 := hts (.initialized RX1) (by decide +kernel)
  have lk11 := hts (.methodLink RX0 11 yX1_init) (by decide +kernel)
  have lk12 := hts (.fieldLink RX0 12 "CaneSlices$Cane" "pattern" "LCaneSlices$Pattern;") (by decide +kernel)
  have lk18 := hts (.fieldLink RX0 18 "CaneSlices$Cane" "length" "I") (by decide +kernel)
  have lk22 := hts (.fieldLink RX0 22 "CaneSlices$Cane" "heat" "I") (by decide +kernel)
  have hl := lv_entry ([.ref (ad (t))]) (n := 1) (Nat.le_of_ble_eq_true rfl)
  have hE : entryFrame m args 1 = entryFrame m ([.ref (ad (t))] : List Value).toArray 1 := by rw [hargs]
  rw [hE, lg_entry_eq]
  generalize (lg_sl ([.ref (ad (t))]) ++ List.replicate (1 - (lg_sl ([.ref (ad (t))])).length) Slot.unset).toArray = ls at hl ⊢
  have hl : lv_has ls 1 [(0, .ref (ad (t)))] := hl
  refine lv_aload_n hx hb dX0_init_0 rfl (lv_at hl 0 rfl) ?_
  refine W.objInit hx hb hown lk3 (hts (.instanceMethod objectInit) (by decide +kernel)) (hts (.code objectInit ⟨#[0xb1]⟩ 1 none) (by decide +kernel)) rfl (by rw [hml]; exact hl.1) rfl dX0_init_1 (Nat.le_of_ble_eq_true rfl) (Nat.le_of_ble_eq_true rfl) ?_
  refine W.eq (g2 := F0 m 4 ls []) rfl ?_
  refine lv_aload_n hx hb dX0_init_4 rfl (lv_at hl 0 rfl) ?_
  refine hv_new (C := RX1) (T := TX1) (N := 1) hx hb hts hiX1 tyX1 tyX1_ok hown kc9 kiX1 kjX1 hKs hV hS (t + 1) (ci := 1) rfl dv_X1 (Nat.le_of_ble_eq_true rfl) (Nat.le_of_ble_eq_true rfl) dX0_init_5 (fun ad ct H he hne hna hV hS => ?_)
  refine hv_stk (st' := [.ref (ad (t + 1)), .ref (ad (t))]) (by rw [hna (t) (by omega)]) ?_
  have hl : lv_has ls 1 [(0, .ref (ad (t)))] := by rw [hna (t) (by omega)]; exact hl
  have h0 : ct (t) = some (eO 0 [.null, .int (nI (0)), .int (nI (0)), .int (nI (0)), .int (nI (0))]) := by rw [hne (t) (by omega)]; exact h0
  have hn1 : ct (t + 1) = some (eO 1 [.null]) := he
  have hnaN := hna
  have hneN := hne
  refine lv_dup hx hb dX0_init_8 rfl ?_
  refine hv_callv (va_runI (As := []) (rest := [.ref (ad (t + 1)), .ref (ad (t))]) ⟨hx, hb, hml, hown, hts⟩ (c_X1_init l D N0 ad ct hn1) (cwI 0 hts gX0_init_X1_init rfl rfl rfl (hts (.initialized RX1) (by decide +kernel)) lk11 (hts (.instanceMethod yX1_init) (by decide +kernel)) rfl (by decide +kernel) ⟨Nat.le_of_ble_eq_true rfl, Nat.le_of_ble_eq_true rfl⟩) (hv_preS hKs hV hS) rfl rfl hl.1 rfl (lv_room (Nat.le_of_ble_eq_true rfl)) dX0_init_9 ⟨(Nat.le_of_ble_eq_true rfl), (Nat.le_of_ble_eq_true rfl)⟩) hS (fun u9 H locs hq hV hS => ?_)
  obtain ⟨ad, ct⟩ := u9
  dsimp only at hq
  obtain ⟨hna0, hne0, hp1, hp2⟩ := hq
  have hV : hv D N0 ad ct H := hV
  have hna := hna0
  have hne := fun (q : Nat) (q1 : q ≠ t + 1 ∧ q ≠ t + 1 + 1) => hne0 q q1.1 q1.2
  refine hv_stk (st' := [.ref (ad (t + 1)), .ref (ad (t))]) (by rw [hna (t) (by omega), hna (t + 1) (by omega)]) ?_
  have hl : lv_has ls 1 [(0, .ref (ad (t)))] := by rw [hna (t) (by omega)]; exact hl
  have h0 : ct (t) = some (eO 0 [.null, .int (nI (0)), .int (nI (0)), .int (nI (0)), .int (nI (0))]) := by rw [hne (t) (by omega)]; exact h0
  have hnaI := hna0
  have hneI := hne0
  refine hv_put (ty := .object "CaneSlices$Pattern") (C := RX0) (T := TX0) (N := 5) hx hb hts hiX0 tyX0 tyX0_ok nmX0 hown hKs hV hS h0 0 rfl (by decide) lk12 (fun _ h9 => h9) (Or.inr ⟨hin0, rfl⟩) (by decide +kernel) rfl rfl (Nat.le_of_ble_eq_true rfl) dX0_init_12 (fun ct H locs he hne hV hS => ?_)
  have hp1 := (hne (t + 1) (by omega)).trans hp1
  have hp2 := (hne (t + 1 + 1) (by omega)).trans hp2
  have h0 : ct (t) = some (eO 0 [.ref (ad (t + 1)), .int (nI (0)), .int (nI (0)), .int (nI (0)), .int (nI (0))]) := he
  have hnepattern := hne
  refine lv_aload_n hx hb dX0_init_15 rfl (lv_at hl 0 rfl) ?_
  refine lv_bipush (v := nI 8) hx hb dX0_init_16 (by decide) ?_
  refine hv_put (ty := .int) (C := RX0) (T := TX0) (N := 5) hx hb hts hiX0 tyX0 tyX0_ok nmX0 hown hKs hV hS h0 1 rfl (by decide) lk18 (fun _ h9 => h9) (Or.inl (by decide +kernel)) (by decide +kernel) rfl rfl (Nat.le_of_ble_eq_true rfl) dX0_init_18 (fun ct H locs he hne hV hS => ?_)
  have hp1 := (hne (t + 1) (by omega)).trans hp1
  have hp2 := (hne (t + 1 + 1) (by omega)).trans hp2
  have h0 : ct (t) = some (eO 0 [.ref (ad (t + 1)), .int (nI (8)), .int (nI (0)), .int (nI (0)), .int (nI (0))]) := he
  have hnelength := hne
  refine lv_aload_n hx hb dX0_init_21 rfl (lv_at hl 0 rfl) ?_
  refine lv_bipush (v := nI 10) hx hb dX0_init_22 (by decide) ?_
  refine hv_put (ty := .int) (C := RX0) (T := TX0) (N := 5) hx hb hts hiX0 tyX0 tyX0_ok nmX0 hown hKs hV hS h0 3 rfl (by decide) lk22 (fun _ h9 => h9) (Or.inl (by decide +kernel)) (by decide +kernel) rfl rfl (Nat.le_of_ble_eq_true rfl) dX0_init_24 (fun ct H locs he hne hV hS => ?_)
  have hp1 := (hne (t + 1) (by omega)).trans hp1
  have hp2 := (hne (t + 1 + 1) (by omega)).trans hp2
  have h0 : ct (t) = some (eO 0 [.ref (ad (t + 1)), .int (nI (8)), .int (nI (0)), .int (nI (10)), .int (nI (0))]) := he
  have hneheat := hne
  refine W.widen (k := 2) (n := 25) (by omega) (by omega) ?_
  exact hv_vret (u := (ad, ct)) hx hb hr ⟨fun q q1 q2 => (hnaI q q2).trans (hnaN q q1), fun q q1 q2 q3 => (hneheat q q1).trans ((hnelength q q1).trans ((hnepattern q q1).trans ((hneI q q2 q3).trans (hneN q q2)))), h0, hp1, _, hp2, fun _ _ => rfl, fun _ _ => Nat.zero_lt_succ 7⟩ hV hS dX0_init_27 hlocks
