section
-- ===== PART A: goes FIRST, ahead of the names: the tables' words, and 'selects' of the private methods out of them =====
/-- a private method of a class that the tables say can be made, by its rows of tables_1 -/
def lw_okq (q : MethodName × Nat) : Prop := (q.1.cls ≠ "java/lang/invoke/MethodHandle" ∧ q.1.cls ≠ "java/lang/invoke/VarHandle") ∧ Cond.instantiable q.1.cls q.2 ∈ tables_1 ∧ Cond.privateMethod q.1 ∈ tables_1 ∧ Cond.instanceMethod q.1 ∈ tables_1
theorem lw_p0 : lw_okq (⟨"CaneSlices", "heatOfAll", "()I"⟩, 8) := ⟨⟨by decide +kernel, by decide +kernel⟩, List.mem_of_getElem? (i := 14) (by decide +kernel), List.mem_of_getElem? (i := 55) (by decide +kernel), List.mem_of_getElem? (i := 56) (by decide +kernel)⟩
theorem lw_p1 : lw_okq (⟨"CaneSlices", "tally", "(I)I"⟩, 8) := ⟨⟨by decide +kernel, by decide +kernel⟩, List.mem_of_getElem? (i := 14) (by decide +kernel), List.mem_of_getElem? (i := 64) (by decide +kernel), List.mem_of_getElem? (i := 65) (by decide +kernel)⟩
theorem lw_p2 : lw_okq (⟨"CaneSlices", "wholeCanes", "()I"⟩, 8) := ⟨⟨by decide +kernel, by decide +kernel⟩, List.mem_of_getElem? (i := 14) (by decide +kernel), List.mem_of_getElem? (i := 68) (by decide +kernel), List.mem_of_getElem? (i := 69) (by decide +kernel)⟩
theorem lw_p3 : lw_okq (⟨"CaneSlices", "slicesInEyes", "()I"⟩, 8) := ⟨⟨by decide +kernel, by decide +kernel⟩, List.mem_of_getElem? (i := 14) (by decide +kernel), List.mem_of_getElem? (i := 72) (by decide +kernel), List.mem_of_getElem? (i := 73) (by decide +kernel)⟩
theorem lw_p4 : lw_okq (⟨"CaneSlices", "beadsOfOneLook", "()I"⟩, 8) := ⟨⟨by decide +kernel, by decide +kernel⟩, List.mem_of_getElem? (i := 14) (by decide +kernel), List.mem_of_getElem? (i := 76) (by decide +kernel), List.mem_of_getElem? (i := 77) (by decide +kernel)⟩
theorem lw_p5 : lw_okq (⟨"CaneSlices", "eyesLike", "(ILCaneSlices$Slice;)I"⟩, 8) := ⟨⟨by decide +kernel, by decide +kernel⟩, List.mem_of_getElem? (i := 14) (by decide +kernel), List.mem_of_getElem? (i := 80) (by decide +kernel), List.mem_of_getElem? (i := 81) (by decide +kernel)⟩
theorem lw_p6 : lw_okq (⟨"CaneSlices", "lengthOfAll", "()I"⟩, 8) := ⟨⟨by decide +kernel, by decide +kernel⟩, List.mem_of_getElem? (i := 14) (by decide +kernel), List.mem_of_getElem? (i := 98) (by decide +kernel), List.mem_of_getElem? (i := 99) (by decide +kernel)⟩
theorem lw_p7 : lw_okq (⟨"CaneSlices", "digestWithCanes", "(J)J"⟩, 8) := ⟨⟨by decide +kernel, by decide +kernel⟩, List.mem_of_getElem? (i := 14) (by decide +kernel), List.mem_of_getElem? (i := 106) (by decide +kernel), List.mem_of_getElem? (i := 107) (by decide +kernel)⟩
theorem lw_p8 : lw_okq (⟨"CaneSlices", "digestWithSlices", "(J)J"⟩, 8) := ⟨⟨by decide +kernel, by decide +kernel⟩, List.mem_of_getElem? (i := 14) (by decide +kernel), List.mem_of_getElem? (i := 117) (by decide +kernel), List.mem_of_getElem? (i := 118) (by decide +kernel)⟩
theorem lw_p9 : lw_okq (⟨"CaneSlices", "digestWithEyes", "(J)J"⟩, 8) := ⟨⟨by decide +kernel, by decide +kernel⟩, List.mem_of_getElem? (i := 14) (by decide +kernel), List.mem_of_getElem? (i := 121) (by decide +kernel), List.mem_of_getElem? (i := 122) (by decide +kernel)⟩
theorem lw_p10 : lw_okq (⟨"java/lang/Throwable", "fillInStackTrace", "(I)Ljava/lang/Throwable;"⟩, 6) := ⟨⟨by decide +kernel, by decide +kernel⟩, List.mem_of_getElem? (i := 171) (by decide +kernel), List.mem_of_getElem? (i := 169) (by decide +kernel), List.mem_of_getElem? (i := 170) (by decide +kernel)⟩
theorem lw_p11 : lw_okq (⟨"CaneSlices", "caneAt", "(I)LCaneSlices$Cane;"⟩, 8) := ⟨⟨by decide +kernel, by decide +kernel⟩, List.mem_of_getElem? (i := 14) (by decide +kernel), List.mem_of_getElem? (i := 248) (by decide +kernel), List.mem_of_getElem? (i := 249) (by decide +kernel)⟩
theorem lw_p12 : lw_okq (⟨"CaneSlices", "passMinute", "()V"⟩, 8) := ⟨⟨by decide +kernel, by decide +kernel⟩, List.mem_of_getElem? (i := 14) (by decide +kernel), List.mem_of_getElem? (i := 300) (by decide +kernel), List.mem_of_getElem? (i := 301) (by decide +kernel)⟩
theorem lw_p13 : lw_okq (⟨"CaneSlices", "kindOf", "(LCaneSlices$Pattern;)I"⟩, 8) := ⟨⟨by decide +kernel, by decide +kernel⟩, List.mem_of_getElem? (i := 14) (by decide +kernel), List.mem_of_getElem? (i := 372) (by decide +kernel), List.mem_of_getElem? (i := 373) (by decide +kernel)⟩
theorem lw_p14 : lw_okq (⟨"CaneSlices", "sliceAt", "(I)LCaneSlices$Slice;"⟩, 8) := ⟨⟨by decide +kernel, by decide +kernel⟩, List.mem_of_getElem? (i := 14) (by decide +kernel), List.mem_of_getElem? (i := 434) (by decide +kernel), List.mem_of_getElem? (i := 435) (by decide +kernel)⟩
theorem lw_p15 : lw_okq (⟨"CaneSlices", "isBead", "(I)Z"⟩, 8) := ⟨⟨by decide +kernel, by decide +kernel⟩, List.mem_of_getElem? (i := 14) (by decide +kernel), List.mem_of_getElem? (i := 462) (by decide +kernel), List.mem_of_getElem? (i := 463) (by decide +kernel)⟩
def lw_privs_1 : List (MethodName × Nat) := [(⟨"CaneSlices", "heatOfAll", "()I"⟩, 8), (⟨"CaneSlices", "tally", "(I)I"⟩, 8), (⟨"CaneSlices", "wholeCanes", "()I"⟩, 8), (⟨"CaneSlices", "slicesInEyes", "()I"⟩, 8), (⟨"CaneSlices", "beadsOfOneLook", "()I"⟩, 8), (⟨"CaneSlices", "eyesLike", "(ILCaneSlices$Slice;)I"⟩, 8), (⟨"CaneSlices", "lengthOfAll", "()I"⟩, 8), (⟨"CaneSlices", "digestWithCanes", "(J)J"⟩, 8), (⟨"CaneSlices", "digestWithSlices", "(J)J"⟩, 8), (⟨"CaneSlices", "digestWithEyes", "(J)J"⟩, 8), (⟨"java/lang/Throwable", "fillInStackTrace", "(I)Ljava/lang/Throwable;"⟩, 6), (⟨"CaneSlices", "caneAt", "(I)LCaneSlices$Cane;"⟩, 8), (⟨"CaneSlices", "passMinute", "()V"⟩, 8), (⟨"CaneSlices", "kindOf", "(LCaneSlices$Pattern;)I"⟩, 8), (⟨"CaneSlices", "sliceAt", "(I)LCaneSlices$Slice;"⟩, 8), (⟨"CaneSlices", "isBead", "(I)Z"⟩, 8)]
theorem lw_r1 : ∀ q ∈ lw_privs_1, lw_okq q := List.forall_mem_cons.mpr ⟨lw_p0, List.forall_mem_cons.mpr ⟨lw_p1, List.forall_mem_cons.mpr ⟨lw_p2, List.forall_mem_cons.mpr ⟨lw_p3, List.forall_mem_cons.mpr ⟨lw_p4, List.forall_mem_cons.mpr ⟨lw_p5, List.forall_mem_cons.mpr ⟨lw_p6, List.forall_mem_cons.mpr ⟨lw_p7, List.forall_mem_cons.mpr ⟨lw_p8, List.forall_mem_cons.mpr ⟨lw_p9, List.forall_mem_cons.mpr ⟨lw_p10, List.forall_mem_cons.mpr ⟨lw_p11, List.forall_mem_cons.mpr ⟨lw_p12, List.forall_mem_cons.mpr ⟨lw_p13, List.forall_mem_cons.mpr ⟨lw_p14, List.forall_mem_cons.mpr ⟨lw_p15, fun _ h => absurd h List.not_mem_nil⟩⟩⟩⟩⟩⟩⟩⟩⟩⟩⟩⟩⟩⟩⟩⟩
theorem lw_p16 : lw_okq (⟨"CaneSlices", "filledEyes", "(I)I"⟩, 8) := ⟨⟨by decide +kernel, by decide +kernel⟩, List.mem_of_getElem? (i := 14) (by decide +kernel), List.mem_of_getElem? (i := 480) (by decide +kernel), List.mem_of_getElem? (i := 481) (by decide +kernel)⟩
theorem lw_p17 : lw_okq (⟨"CaneSlices", "canFillBead", "()Z"⟩, 8) := ⟨⟨by decide +kernel, by decide +kernel⟩, List.mem_of_getElem? (i := 14) (by decide +kernel), List.mem_of_getElem? (i := 544) (by decide +kernel), List.mem_of_getElem? (i := 545) (by decide +kernel)⟩
theorem lw_p18 : lw_okq (⟨"CaneSlices", "freeSlicesOf", "(I)I"⟩, 8) := ⟨⟨by decide +kernel, by decide +kernel⟩, List.mem_of_getElem? (i := 14) (by decide +kernel), List.mem_of_getElem? (i := 548) (by decide +kernel), List.mem_of_getElem? (i := 549) (by decide +kernel)⟩
theorem lw_p19 : lw_okq (⟨"CaneSlicesModel", "no", "(I)I"⟩, 15) := ⟨⟨by decide +kernel, by decide +kernel⟩, List.mem_of_getElem? (i := 552) (by decide +kernel), List.mem_of_getElem? (i := 612) (by decide +kernel), List.mem_of_getElem? (i := 613) (by decide +kernel)⟩
theorem lw_p20 : lw_okq (⟨"CaneSlicesModel", "isCane", "(I)Z"⟩, 15) := ⟨⟨by decide +kernel, by decide +kernel⟩, List.mem_of_getElem? (i := 552) (by decide +kernel), List.mem_of_getElem? (i := 620) (by decide +kernel), List.mem_of_getElem? (i := 621) (by decide +kernel)⟩
theorem lw_p21 : lw_okq (⟨"CaneSlicesModel", "bears", "(II)Z"⟩, 15) := ⟨⟨by decide +kernel, by decide +kernel⟩, List.mem_of_getElem? (i := 552) (by decide +kernel), List.mem_of_getElem? (i := 630) (by decide +kernel), List.mem_of_getElem? (i := 631) (by decide +kernel)⟩
theorem lw_p22 : lw_okq (⟨"CaneSlicesModel", "pass", "()V"⟩, 15) := ⟨⟨by decide +kernel, by decide +kernel⟩, List.mem_of_getElem? (i := 552) (by decide +kernel), List.mem_of_getElem? (i := 634) (by decide +kernel), List.mem_of_getElem? (i := 635) (by decide +kernel)⟩
theorem lw_p23 : lw_okq (⟨"CaneSlicesModel", "allHeat", "()I"⟩, 15) := ⟨⟨by decide +kernel, by decide +kernel⟩, List.mem_of_getElem? (i := 552) (by decide +kernel), List.mem_of_getElem? (i := 656) (by decide +kernel), List.mem_of_getElem? (i := 657) (by decide +kernel)⟩
theorem lw_p24 : lw_okq (⟨"CaneSlicesModel", "caneTold", "(II)I"⟩, 15) := ⟨⟨by decide +kernel, by decide +kernel⟩, List.mem_of_getElem? (i := 552) (by decide +kernel), List.mem_of_getElem? (i := 673) (by decide +kernel), List.mem_of_getElem? (i := 674) (by decide +kernel)⟩
theorem lw_p25 : lw_okq (⟨"CaneSlicesModel", "isSlice", "(I)Z"⟩, 15) := ⟨⟨by decide +kernel, by decide +kernel⟩, List.mem_of_getElem? (i := 552) (by decide +kernel), List.mem_of_getElem? (i := 688) (by decide +kernel), List.mem_of_getElem? (i := 689) (by decide +kernel)⟩
theorem lw_p26 : lw_okq (⟨"CaneSlicesModel", "isEye", "(II)Z"⟩, 15) := ⟨⟨by decide +kernel, by decide +kernel⟩, List.mem_of_getElem? (i := 552) (by decide +kernel), List.mem_of_getElem? (i := 704) (by decide +kernel), List.mem_of_getElem? (i := 705) (by decide +kernel)⟩
theorem lw_p27 : lw_okq (⟨"CaneSlicesModel", "filled", "(I)I"⟩, 15) := ⟨⟨by decide +kernel, by decide +kernel⟩, List.mem_of_getElem? (i := 552) (by decide +kernel), List.mem_of_getElem? (i := 708) (by decide +kernel), List.mem_of_getElem? (i := 709) (by decide +kernel)⟩
theorem lw_p28 : lw_okq (⟨"CaneSlicesModel", "counted", "(I)I"⟩, 15) := ⟨⟨by decide +kernel, by decide +kernel⟩, List.mem_of_getElem? (i := 552) (by decide +kernel), List.mem_of_getElem? (i := 724) (by decide +kernel), List.mem_of_getElem? (i := 725) (by decide +kernel)⟩
theorem lw_p29 : lw_okq (⟨"CaneSlicesModel", "twins", "(II)I"⟩, 15) := ⟨⟨by decide +kernel, by decide +kernel⟩, List.mem_of_getElem? (i := 552) (by decide +kernel), List.mem_of_getElem? (i := 728) (by decide +kernel), List.mem_of_getElem? (i := 729) (by decide +kernel)⟩
theorem lw_p30 : lw_okq (⟨"CaneSlicesModel", "areTwins", "(II)Z"⟩, 15) := ⟨⟨by decide +kernel, by decide +kernel⟩, List.mem_of_getElem? (i := 552) (by decide +kernel), List.mem_of_getElem? (i := 732) (by decide +kernel), List.mem_of_getElem? (i := 733) (by decide +kernel)⟩
theorem lw_p31 : lw_okq (⟨"CaneSlicesModel", "turnTo", "(II)I"⟩, 15) := ⟨⟨by decide +kernel, by decide +kernel⟩, List.mem_of_getElem? (i := 552) (by decide +kernel), List.mem_of_getElem? (i := 747) (by decide +kernel), List.mem_of_getElem? (i := 748) (by decide +kernel)⟩
def lw_privs_2 : List (MethodName × Nat) := [(⟨"CaneSlices", "filledEyes", "(I)I"⟩, 8), (⟨"CaneSlices", "canFillBead", "()Z"⟩, 8), (⟨"CaneSlices", "freeSlicesOf", "(I)I"⟩, 8), (⟨"CaneSlicesModel", "no", "(I)I"⟩, 15), (⟨"CaneSlicesModel", "isCane", "(I)Z"⟩, 15), (⟨"CaneSlicesModel", "bears", "(II)Z"⟩, 15), (⟨"CaneSlicesModel", "pass", "()V"⟩, 15), (⟨"CaneSlicesModel", "allHeat", "()I"⟩, 15), (⟨"CaneSlicesModel", "caneTold", "(II)I"⟩, 15), (⟨"CaneSlicesModel", "isSlice", "(I)Z"⟩, 15), (⟨"CaneSlicesModel", "isEye", "(II)Z"⟩, 15), (⟨"CaneSlicesModel", "filled", "(I)I"⟩, 15), (⟨"CaneSlicesModel", "counted", "(I)I"⟩, 15), (⟨"CaneSlicesModel", "twins", "(II)I"⟩, 15), (⟨"CaneSlicesModel", "areTwins", "(II)Z"⟩, 15), (⟨"CaneSlicesModel", "turnTo", "(II)I"⟩, 15)]
theorem lw_r2 : ∀ q ∈ lw_privs_2, lw_okq q := List.forall_mem_cons.mpr ⟨lw_p16, List.forall_mem_cons.mpr ⟨lw_p17, List.forall_mem_cons.mpr ⟨lw_p18, List.forall_mem_cons.mpr ⟨lw_p19, List.forall_mem_cons.mpr ⟨lw_p20, List.forall_mem_cons.mpr ⟨lw_p21, List.forall_mem_cons.mpr ⟨lw_p22, List.forall_mem_cons.mpr ⟨lw_p23, List.forall_mem_cons.mpr ⟨lw_p24, List.forall_mem_cons.mpr ⟨lw_p25, List.forall_mem_cons.mpr ⟨lw_p26, List.forall_mem_cons.mpr ⟨lw_p27, List.forall_mem_cons.mpr ⟨lw_p28, List.forall_mem_cons.mpr ⟨lw_p29, List.forall_mem_cons.mpr ⟨lw_p30, List.forall_mem_cons.mpr ⟨lw_p31, fun _ h => absurd h List.not_mem_nil⟩⟩⟩⟩⟩⟩⟩⟩⟩⟩⟩⟩⟩⟩⟩⟩
theorem lw_p32 : lw_okq (⟨"CaneSlicesModel", "free", "(I)I"⟩, 15) := ⟨⟨by decide +kernel, by decide +kernel⟩, List.mem_of_getElem? (i := 552) (by decide +kernel), List.mem_of_getElem? (i := 759) (by decide +kernel), List.mem_of_getElem? (i := 760) (by decide +kernel)⟩
theorem lw_p33 : lw_okq (⟨"CaneSlicesModel", "with", "(J[II)J"⟩, 15) := ⟨⟨by decide +kernel, by decide +kernel⟩, List.mem_of_getElem? (i := 552) (by decide +kernel), List.mem_of_getElem? (i := 773) (by decide +kernel), List.mem_of_getElem? (i := 774) (by decide +kernel)⟩
def lw_privs_3 : List (MethodName × Nat) := [(⟨"CaneSlicesModel", "free", "(I)I"⟩, 15), (⟨"CaneSlicesModel", "with", "(J[II)J"⟩, 15)]
theorem lw_r3 : ∀ q ∈ lw_privs_3, lw_okq q := List.forall_mem_cons.mpr ⟨lw_p32, List.forall_mem_cons.mpr ⟨lw_p33, fun _ h => absurd h List.not_mem_nil⟩⟩
def lw_privs : List (MethodName × Nat) := lw_privs_1 ++ (lw_privs_2 ++ (lw_privs_3))
def lw_tbl : List Cond := k2_sels lw_privs ++ tables_1
theorem lw_privs_ok : ∀ q ∈ lw_privs, lw_okq q := by
  show ∀ q ∈ lw_privs_1 ++ (lw_privs_2 ++ (lw_privs_3)), lw_okq q
  exact List.forall_mem_append.mpr ⟨lw_r1, List.forall_mem_append.mpr ⟨lw_r2, lw_r3⟩⟩
/-- the streams that the claim lets the run draw from -/
abbrev lw_cs : List Choice := [Jvm.Choice.named "NaN.bits"]
theorem lw_bits : nanBits ∈ lw_cs := by first | decide | exact List.mem_cons_self | simp [lw_cs, nanBits]
end
section
/-! ===== BEGIN words of one list among another's, by their places ===== -/
theorem goodIn_r {big : List Cond} (ws : List Cond) (ps : List Nat) (hp : ws = ps.filterMap (fun i => big[i]?)) (h : ws.all goodWord = true) : GoodIn big ws := by
  intro w hw
  have h1 := List.all_eq_true.mp h w hw
  rw [hp] at hw
  obtain ⟨i, -, hi⟩ := List.mem_filterMap.mp hw
  have hm : w ∈ big := by first | exact List.mem_of_getElem? hi | exact List.getElem?_mem hi
  exact ⟨hm, good_of_word h1⟩
theorem goodIn_app {big a b : List Cond} (ha : GoodIn big a) (hb : GoodIn big b) : GoodIn big (a ++ b) := fun w h => (List.mem_append.mp h).elim (ha w) (hb w)
theorem goodIn_ca {big a b : List Cond} {c : Cond} (ha : GoodIn big (c :: a)) (hb : GoodIn big b) : GoodIn big (c :: (a ++ b)) := fun w h => (List.mem_cons.mp h).elim (fun e => ha w (List.mem_cons.mpr (Or.inl e))) (fun h => (List.mem_append.mp h).elim (fun h => ha w (List.mem_cons.mpr (Or.inr h))) (hb w))
theorem goodIn_sub {big ws : List Cond} (hm : ∀ w ∈ ws, w ∈ big) (h : ws.all goodWord = true) : GoodIn big ws := fun w hw => ⟨hm w hw, good_of_word (List.all_eq_true.mp h w hw)⟩
/-! ===== END ===== -/

/-! ===== BEGIN exceptions that leave a method, and their catching by the caller (launches without stack traces) ===== -/
section VXA
/-! The laws vx_back, vx_callV, vx_callS, vx_callSW, vx_throw0, vx_throwS follow proofs of the library, with one case more: JvmDerived/Free/Laws.lean (Back.of_free), Shelf42/LK1.lean (callV, callS), Shelf/KitTraced.lean (throwNew0V, throwNewS). -/
/-- where a method has thrown q: the class by its name, the cell, what was written, the world -/
def vx_T (XC : String → State → State → Prop) (st : State) (q : Addr) (t : State) (mc ms : Nat) (free : Addr → Prop) : Prop :=
  ∃ (E : String) (ce : Cell) (L : List Loc), XC E st t ∧ t.heap[q]? = some ce ∧ ce.vm = .none ∧ st.vm.findClass E = some ce.cls ∧ st.WarmedH t.vm ∧ st.sameButNew ({ t with vm := st.vm } : State) L mc ms ∧ ∀ z ∈ L, free z.base
def vx_Q (Qc : Array Value → State → Outcome → State → Prop) (XC : String → State → State → Prop) (mc ms : Nat) (free : Addr → Prop) : Array Value → State → Outcome → State → Prop := fun a st o t =>
  (Qc a st o t ∧ ∃ L, FrameEnd st o t L mc ms ∧ ∀ q ∈ L, free q.base) ∨ ∃ q, o = .threw q ∧ vx_T XC st q t mc ms free
/-- a callee that returns or throws -/
def vx_Met (l : Launch) (y : MethodName) (ws : List Cond) (rm : Room) (Pc : Array Value → State → Prop) (Qc : Array Value → State → Outcome → State → Prop) (XC : String → State → State → Prop) (mc ms : Nat) (free : Addr → Prop) : Prop :=
  MetFree l y (headSpec ws rm) Pc (fun _ _ _ _ _ => True) (vx_Q Qc XC mc ms free)
def vx_Post (XC : String → State → State → Prop) (mc ms : Nat) (free : Addr → Prop) : Pt → Array Value → Addr → Pt → Prop := fun A a q B =>
  ∃ (g : JFrame) (mk : MethodId) (t : State) (L : List Loc) (E : String) (ce : Cell), B.U.heap = t.heap ∧ B.U.vm = t.vm ∧ XC E (A.U.calling g mk a) t ∧ t.heap[q]? = some ce ∧ ce.vm = .none ∧ A.U.vm.findClass E = some ce.cls ∧ B.locs = A.locs ++ L ∧ (∀ z ∈ L, free z.base) ∧ B.cells = A.cells + mc ∧ B.slots = A.slots + ms
def vx_Back (l : Launch) (R : Room) (p : Program) (e : Env) (below : List Frame) (s : State) (sargs : Array Value) (y : MethodName) (len W9 : Nat)
    (Pre : Pt → Array Value → Prop) (Post : Pt → Array Value → Option Value → Pt → Prop) (PostX : Pt → Array Value → Addr → Pt → Prop) : Prop :=
  ∀ (m : MethodId) (meth : Method) (c : Code) (A : Pt) (g : JFrame) (ig : Instr) (mk : MethodId) (a : Array Value),
    Stand p l e R s m sargs below meth c A.U A.locs A.cells A.slots → g.method = m → g.locals.size = c.maxLocals → decode c.code g.pc = .ok (ig, len) →
    2 * g.monitorRoom + (g.stack.map fun v => v.category).sum ≤ W9 → A.U.methodNamed? y = some mk → Pre A a →
    (∃ (v : Option Value) (B : Pt), Stand p l e R s m sargs below meth c B.U B.locs B.cells B.slots ∧ Post A a v B ∧
      Steps p.tables e below (doInvoke e (A.U.setTop g) [] mk a).1 (B.U.setTop { g with pc := g.pc + len, stack := v.toList ++ g.stack })) ∨
    (∃ (q : Addr) (B : Pt), Stand p l e R s m sargs below meth c B.U B.locs B.cells B.slots ∧ PostX A a q B ∧
      Steps p.tables e below (doInvoke e (A.U.setTop g) [] mk a).1 ((B.U.setTop g).pushFrame (.throwing q)))
section Payer
variable {l : Launch} {R : Room} {p : Program} {e : Env} {below : List Frame} {s : State} {sargs : Array Value} {y : MethodName} {len W9 : Nat}
theorem vx_back {ws : List Cond} {rm : Room} {Pc : Array Value → State → Prop} {Qc : Array Value → State → Outcome → State → Prop} {XC : String → State → State → Prop} {mc ms : Nat} {free : Addr → Prop} {bytes : ByteArray} {maxL : Nat} {ret : Option FieldType}
    (hM : vx_Met l y ws rm Pc Qc XC mc ms free) (hblind : FrameBlind Pc) (hrc : rm.cells = mc) (hrs : rm.slots = ms)
    (hframes : rm.frames + 1 ≤ R.frames) (hlocals : W9 + (maxL + 11) + rm.locals ≤ R.locals)
    (hws : ∀ w ∈ ws, ∀ a' U, s.WarmedH U.vm → w.before a' U = true) (hcode : Cond.code y bytes maxL ret ∈ ws) (hinit : ∀ a' U, s.WarmedH U.vm → (Cond.initialized y.cls).before a' U = true) :
    vx_Back l R p e below s sargs y len W9 (PreOf R mc ms Pc) (PostOf Qc mc ms free) (vx_Post XC mc ms free) := by
  intro m meth c A g ig mk a X hg hsize hdg hW hn hp
  have h1 : (headSpec ws rm).pre.before a A.U = true := atoms_intro fun w hw => hws w hw _ _ X.warmed
  have h2 : (Cond.code y bytes maxL ret).before a A.U = true := hws _ hcode _ _ X.warmed
  have h3 : (Cond.initialized y.cls).before a A.U = true := hinit _ _ X.warmed
  have h4 : A.cells + (headSpec ws rm).room.cells ≤ R.cells := by rw [show (headSpec ws rm).room.cells = mc from hrc]; exact hp.1
  have h5 : A.slots + (headSpec ws rm).room.slots ≤ R.slots := by rw [show (headSpec ws rm).room.slots = ms from hrs]; exact hp.2.1
  have hPc : Pc a (A.U.calling g mk a) := hblind _ _ _ _ hp.2.2
  obtain ⟨U, Ls, c0, s0⟩ := A
  dsimp only [Pt.U, Pt.locs, Pt.cells, Pt.slots] at h1 h2 h3 h4 h5 X hn hPc ⊢
  obtain ⟨methY, cY, hmY, hcY, -, hlY, -, -, -, -⟩ := Cond.code_spec hn h2
  obtain ⟨kY, hkY, -⟩ := className_of_methodNamed hn
  have hinitY : kY.init = .initialized := Cond.initialized_spec (findClass_of_methodNamed hn) hkY h3
  have h : At U g.method c below := by rw [hg]; exact X.here
  have hlocals9 : W9 + (maxL + 11) + (headSpec ws rm).room.locals ≤ R.locals := hlocals
  have happ : (headSpec ws rm).appliesLoose y e.platform (U.calling g mk a) = true :=
    Spec.appliesLoose_calling (g := g) h hdg hn hkY hinitY
      (X.room_calling (g := g) (R' := (headSpec ws rm).room) hsize hmY hcY hframes (by rw [hlY]; omega) h4 h5) h1
  obtain ⟨mid, hmid⟩ := h.above
  have hfr : (U.setTop g).frames = (.java g :: mid) ++ below := by rw [State.frames_setTop' g h.top, hmid]; rfl
  obtain ⟨o, s₂, hsteps, -, hend, hq⟩ := Steps.callFree hM p X.admits X.cas X.clock (acts := []) hfr happ hPc trivial
  have hq' : vx_Q Qc XC mc ms free a (U.calling g mk a) o s₂ := hq
  rw [State.frames_setTop' g h.top] at hend
  obtain ⟨g₀, hg0⟩ := Option.isSome_iff_exists.mp h.top
  obtain ⟨r, hr⟩ := State.topJava?_eq_some.mp hg0
  have hr' : (({ U with heap := s₂.heap, slotsUsed := s₂.slotsUsed } : State).setVm s₂.vm).frames = .java g₀ :: r := hr
  rcases hq' with ⟨hqc, L, hfe, hL⟩ | ⟨q, rfl, E, ce, L, hx, hce, hcv, hcl, hW₂, hsm, hL⟩
  · obtain ⟨⟨v, rfl⟩, hW₂, e2, q2, q3, q4, q5, q6⟩ := id hfe
    have e3 : s₂ = ({ (U.calling g mk a).setFrames s₂.frames with heap := s₂.heap, slotsUsed := s₂.slotsUsed } : State).setVm s₂.vm := by
      have : s₂ = ({ s₂ with vm := (U.calling g mk a).vm } : State).setVm s₂.vm := rfl
      rw [e2] at this
      exact this
    obtain ⟨c₂, i₂, len₂, hc₂, hd₂, hf₂⟩ := hend
    have hW' : U.WarmedH s₂.vm := hW₂
    have hcc : c₂ = c := by
      have h1 : s₂.code? g.method = U.code? g.method := by
        rw [State.code?_eq, State.code?_eq, hW'.alike.method?]
      exact Option.some.inj (hc₂.symm.trans (h1.trans h.code))
    subst hcc
    have hlen : len₂ = len := by rw [hdg] at hd₂; cases hd₂; rfl
    subst hlen
    have hs₂ : s₂ = (({ U with heap := s₂.heap, slotsUsed := s₂.slotsUsed } : State).setVm s₂.vm).setTop { g with pc := g.pc + len₂, stack := v.toList ++ g.stack } := by
      refine e3.trans ?_
      rw [hf₂, State.calling_eq h.top, State.setFrames_setFrames, State.setTop_of_frames _ hr', hr]
      rfl
    have hsame : U.sameButNew ({ U with heap := s₂.heap, slotsUsed := s₂.slotsUsed } : State) L mc ms := by
      refine ⟨?_, q2, q3, q4, q5, q6⟩
      obtain ⟨t, ht, -⟩ := State.frames_cons hr
      show ({ U with heap := s₂.heap, slotsUsed := s₂.slotsUsed } : State) = { U.setFrames U.frames with heap := s₂.heap, slotsUsed := s₂.slotsUsed }
      rw [State.setFrames_self ht]
    subst hg
    refine Or.inl ⟨v, ⟨(({ U with heap := s₂.heap, slotsUsed := s₂.slotsUsed } : State).setVm s₂.vm), Ls ++ L, c0 + mc, s0 + ms⟩,
      ⟨X.admits, X.cas, X.clock, X.frames, X.room, X.hears, X.method, X.code, (X.here.setHeapUsed s₂.heap s₂.slotsUsed).setVm hW'.alike, X.tail, State.WarmedH.trans X.warmed hW', X.limits, X.bytes, X.same.trans (hsame.setVm s.vm)⟩,
      ⟨g, mk, s₂, L, rfl, rfl, hqc, rfl, hL, rfl, rfl⟩, ?_⟩
    show Steps p.tables e below _ ((({ U with heap := s₂.heap, slotsUsed := s₂.slotsUsed } : State).setVm s₂.vm).setTop { g with pc := g.pc + len₂, stack := v.toList ++ g.stack })
    rw [← hs₂]
    exact hsteps
  · obtain ⟨e2, q2, q3, q4, q5, q6⟩ := id hsm
    have e3 : s₂ = ({ (U.calling g mk a).setFrames s₂.frames with heap := s₂.heap, slotsUsed := s₂.slotsUsed } : State).setVm s₂.vm := by
      have : s₂ = ({ s₂ with vm := (U.calling g mk a).vm } : State).setVm s₂.vm := rfl
      rw [e2] at this
      exact this
    have hf₂ : s₂.frames = .throwing q :: .java g :: U.frames.tail := hend
    have hW' : U.WarmedH s₂.vm := hW₂
    have hs₂ : s₂ = ((({ U with heap := s₂.heap, slotsUsed := s₂.slotsUsed } : State).setVm s₂.vm).setTop g).pushFrame (.throwing q) := by
      refine e3.trans ?_
      rw [hf₂, State.calling_eq h.top, State.setFrames_setFrames, State.pushFrame, State.frames_setTop _ hr', State.setTop_of_frames _ hr', State.setFrames_setFrames, hr]
      rfl
    have hsame : U.sameButNew ({ U with heap := s₂.heap, slotsUsed := s₂.slotsUsed } : State) L mc ms := by
      refine ⟨?_, q2, q3, q4, q5, q6⟩
      obtain ⟨t, ht, -⟩ := State.frames_cons hr
      show ({ U with heap := s₂.heap, slotsUsed := s₂.slotsUsed } : State) = { U.setFrames U.frames with heap := s₂.heap, slotsUsed := s₂.slotsUsed }
      rw [State.setFrames_self ht]
    subst hg
    refine Or.inr ⟨q, ⟨(({ U with heap := s₂.heap, slotsUsed := s₂.slotsUsed } : State).setVm s₂.vm), Ls ++ L, c0 + mc, s0 + ms⟩,
      ⟨X.admits, X.cas, X.clock, X.frames, X.room, X.hears, X.method, X.code, (X.here.setHeapUsed s₂.heap s₂.slotsUsed).setVm hW'.alike, X.tail, State.WarmedH.trans X.warmed hW', X.limits, X.bytes, X.same.trans (hsame.setVm s.vm)⟩,
      ⟨g, mk, s₂, L, E, ce, rfl, rfl, hx, hce, hcv, hcl, rfl, hL, rfl, rfl⟩, ?_⟩
    show Steps p.tables e below _ (((({ U with heap := s₂.heap, slotsUsed := s₂.slotsUsed } : State).setVm s₂.vm).setTop g).pushFrame (.throwing q))
    rw [← hs₂]
    exact hsteps
end Payer
section Calls
variable {p : Program} {l : Launch} {e : Env} {R : Room} {s : State} {m : MethodId} {args : Array Value} {below : List Frame} {meth : Method} {c : Code} {T : State} {locs : List Loc} {cells slots : Nat}
theorem vx_callV (X : Stand p l e R s m args below meth c T locs cells slots) (hexec : p.tables.exec = Jvm.exec) {own C : String} {index : Nat} {y : MethodName} {bytes : ByteArray} {maxL : Nat} {ret : Option FieldType}
    (hown : s.vm.findClass own = some m.cls) (hlink : (Cond.methodLink own index y).before args s = true) (hinst : (Cond.instanceMethod y).before args s = true) (hsel : (Cond.selects C y y).before args s = true)
    (hcode : (Cond.code y bytes maxL ret).before args s = true) (hy : y.cls ≠ "java/lang/invoke/MethodHandle" ∧ y.cls ≠ "java/lang/invoke/VarHandle")
    {W9 : Nat} {Pre : Pt → Array Value → Prop} {Post : Pt → Array Value → Option Value → Pt → Prop} {PostX : Pt → Array Value → Addr → Pt → Prop} (hK : vx_Back l R p e below s args y 3 W9 Pre Post PostX)
    {b : Addr} {cellB : Cell} (hcell : T.heap[b]? = some cellB) (hobj : cellB.vm.isStatics = false) (hcls : s.vm.findClass C = some cellB.cls)
    {g : JFrame} (hg : g.method = m) (hsize : g.locals.size = c.maxLocals) {argsL rest : List Value} (hlen : ∀ sig, parseMethodDescriptor y.desc = some sig → argsL.length = sig.parameters.length)
    (hstack : g.stack = argsL.reverse ++ .ref b :: rest) (hW : 2 * g.monitorRoom + (rest.map fun v => v.category).sum ≤ W9) (hdg : decode c.code g.pc = .ok (.invokevirtual index, 3))
    (hpre : ∀ vm₁, s.WarmedH vm₁ → Pre ⟨T.setVm vm₁, locs, cells, slots⟩ (Value.ref b :: argsL).toArray) :
    (∃ (v : Option Value) (vm₁ : Vm) (B : Pt), s.WarmedH vm₁ ∧ Stand p l e R s m args below meth c B.U B.locs B.cells B.slots ∧ Post ⟨T.setVm vm₁, locs, cells, slots⟩ (Value.ref b :: argsL).toArray v B ∧
      ∀ target, Steps p.tables e below (B.U.setTop { g with pc := g.pc + 3, stack := v.toList ++ rest }) target → Steps p.tables e below (T.setTop g) target) ∨
    (∃ (q : Addr) (vm₁ : Vm) (B : Pt), s.WarmedH vm₁ ∧ Stand p l e R s m args below meth c B.U B.locs B.cells B.slots ∧ PostX ⟨T.setVm vm₁, locs, cells, slots⟩ (Value.ref b :: argsL).toArray q B ∧
      Steps p.tables e below (T.setTop g) ((B.U.setTop { g with stack := rest }).pushFrame (.throwing q))) := by
  obtain ⟨mk, methM, hnamed, hmethM, hstM, habM⟩ := Cond.instanceMethod_spec hinst
  obtain ⟨methM', cM, hmethM', -, -, -, -, -, -, hsigM⟩ := Cond.code_spec hnamed hcode
  cases hmethM.symm.trans hmethM'
  obtain ⟨c2, r2, m2, q1, q2, q3, q4, kP, hkP, hkPi⟩ := Cond.selects_spec hsel
  cases hcls.symm.trans q1
  cases (State.methodFound?_of_named hnamed hy).symm.trans q2
  cases hnamed.symm.trans q3
  have hselP : selectMethod e.platform s.vm cellB.cls mk = .method mk := by rw [Launch.admits_selectMethod X.admits]; exact q4
  obtain ⟨vm₁, X₁, hstep₁⟩ := X.invokevirtual hexec hown hlink hnamed hmethM hstM hkP hkPi hy (a := b) (cell := cellB) hcell
    (fun z h => by rw [h] at hobj; cases hobj) hselP hmethM habM hkP hkPi (g := g) hg (argsL := argsL) (rest := rest) (hlen _ hsigM) hstack hdg
  rcases hK m meth c ⟨T.setVm vm₁, locs, cells, slots⟩ { g with stack := rest } (.invokevirtual index) mk (Value.ref b :: argsL).toArray X₁ hg hsize hdg hW (X₁.named hnamed) (hpre vm₁ X₁.warmed) with ⟨v, B, X', hpost, hsteps⟩ | ⟨q, B, X', hpost, hsteps⟩
  · exact Or.inl ⟨v, vm₁, B, X₁.warmed, X', hpost, fun target h => hstep₁ _ fun acts => by rw [doInvoke_state]; exact hsteps.trans h⟩
  · exact Or.inr ⟨q, vm₁, B, X₁.warmed, X', hpost, hstep₁ _ fun acts => by rw [doInvoke_state]; exact hsteps⟩
theorem vx_callS (X : Stand p l e R s m args below meth c T locs cells slots) (hexec : p.tables.exec = Jvm.exec) {own : String} {index : Nat} {y : MethodName} {bytes : ByteArray} {maxL : Nat} {ret : Option FieldType}
    (hown : s.vm.findClass own = some m.cls) (hlink : (Cond.methodLink own index y).before args s = true) (hstat : (Cond.static y).before args s = true) (hinit : (Cond.initialized y.cls).before args s = true)
    (hcode : (Cond.code y bytes maxL ret).before args s = true) (hy : y.cls ≠ "java/lang/invoke/MethodHandle" ∧ y.cls ≠ "java/lang/invoke/VarHandle")
    {W9 : Nat} {Pre : Pt → Array Value → Prop} {Post : Pt → Array Value → Option Value → Pt → Prop} {PostX : Pt → Array Value → Addr → Pt → Prop} (hK : vx_Back l R p e below s args y 3 W9 Pre Post PostX)
    {g : JFrame} (hg : g.method = m) (hsize : g.locals.size = c.maxLocals) {argsL rest : List Value} (hlen : ∀ sig, parseMethodDescriptor y.desc = some sig → argsL.length = sig.parameters.length)
    (hstack : g.stack = argsL.reverse ++ rest) (hW : 2 * g.monitorRoom + (rest.map fun v => v.category).sum ≤ W9) (hdg : decode c.code g.pc = .ok (.invokestatic index, 3))
    (hpre : ∀ vm₁, s.WarmedH vm₁ → Pre ⟨T.setVm vm₁, locs, cells, slots⟩ argsL.toArray) :
    (∃ (v : Option Value) (vm₁ : Vm) (B : Pt), s.WarmedH vm₁ ∧ Stand p l e R s m args below meth c B.U B.locs B.cells B.slots ∧ Post ⟨T.setVm vm₁, locs, cells, slots⟩ argsL.toArray v B ∧
      ∀ target, Steps p.tables e below (B.U.setTop { g with pc := g.pc + 3, stack := v.toList ++ rest }) target → Steps p.tables e below (T.setTop g) target) ∨
    (∃ (q : Addr) (vm₁ : Vm) (B : Pt), s.WarmedH vm₁ ∧ Stand p l e R s m args below meth c B.U B.locs B.cells B.slots ∧ PostX ⟨T.setVm vm₁, locs, cells, slots⟩ argsL.toArray q B ∧
      Steps p.tables e below (T.setTop g) ((B.U.setTop { g with stack := rest }).pushFrame (.throwing q))) := by
  obtain ⟨mk, hnamed⟩ := Cond.code_named hcode
  obtain ⟨methM, cM, hmethM, -, -, -, -, -, -, hsigM⟩ := Cond.code_spec hnamed hcode
  have hstatic : methM.isStatic = true := Cond.static_spec hnamed hmethM hstat
  obtain ⟨kP, hkP, -⟩ := className_of_methodNamed hnamed
  have hinitP : kP.init = .initialized := Cond.initialized_spec (findClass_of_methodNamed hnamed) hkP hinit
  obtain ⟨vm₁, X₁, hstep₁⟩ := X.invokestatic hexec hown hlink hnamed hmethM hstatic hkP hinitP hy (g := g) hg (argsL := argsL) (rest := rest) (hlen _ hsigM) hstack hdg
  rcases hK m meth c ⟨T.setVm vm₁, locs, cells, slots⟩ { g with stack := rest } (.invokestatic index) mk argsL.toArray X₁ hg hsize hdg hW (X₁.named hnamed) (hpre vm₁ X₁.warmed) with ⟨v, B, X', hpost, hsteps⟩ | ⟨q, B, X', hpost, hsteps⟩
  · exact Or.inl ⟨v, vm₁, B, X₁.warmed, X', hpost, fun target h => hstep₁ _ fun acts => by rw [doInvoke_state]; exact hsteps.trans h⟩
  · exact Or.inr ⟨q, vm₁, B, X₁.warmed, X', hpost, hstep₁ _ fun acts => by rw [doInvoke_state]; exact hsteps⟩
end Calls
theorem vx_cls {s : State} {T : State} {vm₁ : Vm} {E : String} {k : ClassId} (hW : s.WarmedH vm₁) (h : (T.setVm vm₁).vm.findClass E = some k) : s.vm.findClass E = some k := by
  have h1 : vm₁.findClass E = some k := h
  rw [hW.alike.findClass] at h1
  exact h1
/-- the method's frame g, with q thrown over it -/
def vx_W (p : Program) (l : Launch) (e : Env) (R : Room) (s : State) (m : MethodId) (args : Array Value) (below : List Frame) (meth : Method) (c : Code) (H : Heap) (locs : List Loc) (cells slots : Nat) (Q : State → Prop) (g : JFrame) (q : Addr) : Prop :=
  ∀ T : State, T.heap = H → Stand p l e R s m args below meth c T locs cells slots → ∃ t, Steps p.tables e below ((T.setTop g).pushFrame (.throwing q)) t ∧ Q t
def vx_Run (p : Program) (l : Launch) (e : Env) (R : Room) (s : State) (m : MethodId) (args : Array Value) (below : List Frame) (meth : Method) (c : Code) (H : Heap) (locs : List Loc) (cells slots mc ms : Nat) (g : JFrame) (rest : List Value) (Qa : State → Outcome → State → Prop) (XC : String → State → State → Prop) (free : Addr → Prop) : Prop :=
  ∀ T : State, T.heap = H → Stand p l e R s m args below meth c T locs cells slots →
    (∃ (v : Option Value) (st₀ t T' : State) (L : List Loc), st₀.heap = H ∧ Stand p l e R s m args below meth c T' (locs ++ L) (cells + mc) (slots + ms) ∧ (∀ q ∈ L, free q.base) ∧ T'.heap = t.heap ∧ T'.vm = t.vm ∧ Qa st₀ (.returned v) t ∧
      Goes p e below T g T' { g with pc := g.pc + 3, stack := v.toList ++ rest }) ∨
    (∃ (q : Addr) (st₀ t T' : State) (L : List Loc) (E : String) (ce : Cell), st₀.heap = H ∧ Stand p l e R s m args below meth c T' (locs ++ L) (cells + mc) (slots + ms) ∧ (∀ z ∈ L, free z.base) ∧ T'.heap = t.heap ∧ T'.vm = t.vm ∧ XC E st₀ t ∧ t.heap[q]? = some ce ∧ ce.vm = .none ∧ s.vm.findClass E = some ce.cls ∧
      Steps p.tables e below (T.setTop g) ((T'.setTop { g with stack := rest }).pushFrame (.throwing q)))
def vx_X {S : Type} (px : S → Prop) (B : String → S → State → Prop) (A : Nat → Prop) : String → State → State → Prop := fun E st t => ∃ u : S, px u ∧ B E u t ∧ va_F A st t
section Runs
variable {p : Program} {l : Launch} {e : Env} {R : Room} {s : State} {m : MethodId} {args : Array Value} {below : List Frame} {meth : Method} {c : Code} {H : Heap} {locs : List Loc} {cells slots : Nat}
variable {y : MethodName} {bytes cc : ByteArray} {maxL nL mc ms n index : Nat} {ret : Option FieldType} {ws : List Cond} {rm : Room} {Pc : Array Value → State → Prop} {Qc : Array Value → State → Outcome → State → Prop} {XC : String → State → State → Prop} {free : Addr → Prop} {Ts : List Cond} {own C : String} {b : Addr} {As rest : List Value} {g : JFrame}
theorem vx_callBack (cb : CallB R s args own index y bytes maxL ret ws rm mc ms n) (hM : vx_Met l y ws rm Pc Qc XC mc ms free) (hbl : FrameBlind Pc) : vx_Back l R p e below s args y 3 8 (PreOf R mc ms Pc) (PostOf Qc mc ms free) (vx_Post XC mc ms free) := by
  obtain ⟨hrc, hrs, hfr, hlo, hws, hcw, -, hini, -⟩ := cb
  exact vx_back (bytes := bytes) (maxL := maxL) (ret := ret) hM hbl hrc hrs hfr hlo hws hcw (fun a' U hW => word_at hW (Or.inl (by first | rfl | simp [Cond.onTables, Cond.keeps, Cond.steady])) hini)
theorem vx_runV (S : CallFix p m c cc nL s args Ts own) (hM : vx_Met l y ws rm Pc Qc XC mc ms free) (cw : CallW R s args own C index y bytes maxL ret ws rm mc ms n) (hp : PreV s H C b Pc As)
    (hg : g.method = m) (hn : As.length = n) (hsize : g.locals.size = nL) (hstack : g.stack = As.reverse ++ .ref b :: rest) (hW : 2 * g.monitorRoom + (rest.map fun v => v.category).sum ≤ 8) (hdg : decode cc g.pc = .ok (.invokevirtual index, 3)) (hf : cells + mc ≤ R.cells ∧ slots + ms ≤ R.slots) :
    vx_Run p l e R s m args below meth c H locs cells slots mc ms g rest (Qc (Value.ref b :: As).toArray) XC free := by
  have hK : vx_Back l R p e below s args y 3 8 (PreOf R mc ms Pc) (PostOf Qc mc ms free) (vx_Post XC mc ms free) := vx_callBack cw.1 hM hp.1
  obtain ⟨⟨-, -, -, -, -, -, hcode, -, hy, hlen, hl⟩, hin, hse⟩ := cw
  obtain ⟨hx, hb, hml, ho, -⟩ := S
  obtain ⟨-, ⟨cellB, hcB, hoB, hclB⟩, hPc⟩ := hp
  intro T hT X
  rcases vx_callV X hx (C := C) (bytes := bytes) (maxL := maxL) (ret := ret) ho hl hin hse hcode hy hK (by rw [hT]; exact hcB) hoB hclB hg (hsize.trans hml.symm) (argsL := As) (rest := rest) (fun sig h => hn.trans (hlen sig h)) hstack hW (by rw [hb]; exact hdg)
    (fun vm₁ hW₁ => ⟨hf.1, hf.2, hPc (T.setVm vm₁) hT hW₁⟩) with ⟨v, vm₁, ⟨U', l2, c2, s2⟩, hW₁, X', ⟨g', mk, t, L, e1, e2, hq, h1, hL, h2, h3⟩, st⟩ | ⟨q, vm₁, ⟨U', l2, c2, s2⟩, hW₁, X', ⟨g', mk, t, L, E, ce, e1, e2, hq, hce, hcv, hcl, h1, hL, h2, h3⟩, st⟩
  · dsimp only [Pt.U, Pt.locs, Pt.cells, Pt.slots] at X' e1 e2 h1 h2 h3 st
    subst h1; subst h2; subst h3
    exact Or.inl ⟨v, (T.setVm vm₁).calling g' mk (Value.ref b :: As).toArray, t, U', L, hT, X', hL, e1, e2, hq, st⟩
  · dsimp only [Pt.U, Pt.locs, Pt.cells, Pt.slots] at X' e1 e2 h1 h2 h3 st hcl
    subst h1; subst h2; subst h3
    exact Or.inr ⟨q, (T.setVm vm₁).calling g' mk (Value.ref b :: As).toArray, t, U', L, E, ce, hT, X', hL, e1, e2, hq, hce, hcv, vx_cls hW₁ hcl, st⟩
theorem vx_runS (S : CallFix p m c cc nL s args Ts own) (hM : vx_Met l y ws rm Pc Qc XC mc ms free) (cw : CallB R s args own index y bytes maxL ret ws rm mc ms n ∧ (Cond.static y).before args s = true) (hp : PreS s H Pc As)
    (hg : g.method = m) (hn : As.length = n) (hsize : g.locals.size = nL) (hstack : g.stack = As.reverse ++ rest) (hW : 2 * g.monitorRoom + (rest.map fun v => v.category).sum ≤ 8) (hdg : decode cc g.pc = .ok (.invokestatic index, 3)) (hf : cells + mc ≤ R.cells ∧ slots + ms ≤ R.slots) :
    vx_Run p l e R s m args below meth c H locs cells slots mc ms g rest (Qc As.toArray) XC free := by
  have hK : vx_Back l R p e below s args y 3 8 (PreOf R mc ms Pc) (PostOf Qc mc ms free) (vx_Post XC mc ms free) := vx_callBack cw.1 hM hp.1
  obtain ⟨⟨-, -, -, -, -, -, hcode, hini, hy, hlen, hl⟩, hstt⟩ := cw
  obtain ⟨hx, hb, hml, ho, -⟩ := S
  intro T hT X
  rcases vx_callS X hx (bytes := bytes) (maxL := maxL) (ret := ret) ho hl hstt hini hcode hy hK hg (hsize.trans hml.symm) (argsL := As) (rest := rest) (fun sig h => hn.trans (hlen sig h)) hstack hW (by rw [hb]; exact hdg)
    (fun vm₁ hW₁ => ⟨hf.1, hf.2, hp.2 (T.setVm vm₁) hT hW₁⟩) with ⟨v, vm₁, ⟨U', l2, c2, s2⟩, hW₁, X', ⟨g', mk, t, L, e1, e2, hq, h1, hL, h2, h3⟩, st⟩ | ⟨q, vm₁, ⟨U', l2, c2, s2⟩, hW₁, X', ⟨g', mk, t, L, E, ce, e1, e2, hq, hce, hcv, hcl, h1, hL, h2, h3⟩, st⟩
  · dsimp only [Pt.U, Pt.locs, Pt.cells, Pt.slots] at X' e1 e2 h1 h2 h3 st
    subst h1; subst h2; subst h3
    exact Or.inl ⟨v, (T.setVm vm₁).calling g' mk As.toArray, t, U', L, hT, X', hL, e1, e2, hq, st⟩
  · dsimp only [Pt.U, Pt.locs, Pt.cells, Pt.slots] at X' e1 e2 h1 h2 h3 st hcl
    subst h1; subst h2; subst h3
    exact Or.inr ⟨q, (T.setVm vm₁).calling g' mk As.toArray, t, U', L, E, ce, hT, X', hL, e1, e2, hq, hce, hcv, vx_cls hW₁ hcl, st⟩
end Runs
section Rows
variable {p : Program} {l : Launch} {e : Env} {R : Room} {s : State} {m : MethodId} {args : Array Value} {below : List Frame} {meth : Method} {c : Code} {H : Heap} {locs : List Loc} {cells slots : Nat} {Q : State → Prop}
variable {mc ms : Nat} {free : Addr → Prop} {A0 A1 : Nat → Prop} {H0 : Heap} {a : Array Value} {pc : Nat} {ls : Array Slot} {st0 rest : List Value}
theorem vx_keep {st₀ t T' : State} {L : List Loc} (h0 : st₀.heap = H) (e1 : T'.heap = t.heap) (hS : va_S A0 H0 H locs) (hA : ∀ q, q < H.size → A1 q → A0 q) (hf : ∀ q, free q → A0 q) (hL : ∀ q ∈ L, free q.base) (hF : va_F A1 st₀ t) :
    H.size ≤ T'.heap.size ∧ (∀ q : Nat, q < H.size → ¬ A1 q → T'.heap[q]? = H[q]?) ∧ va_S A0 H0 T'.heap (locs ++ L) := by
  obtain ⟨hz, hk⟩ := hF
  rw [h0] at hz hk
  exact ⟨by rw [e1]; exact hz, fun q h1 h2 => by rw [e1]; exact hk q h1 h2,
    ⟨Nat.le_trans hS.1 (by rw [e1]; exact hz), fun q h1 h2 => by rw [e1, hk q (Nat.lt_of_lt_of_le h1 hS.1) (fun z => h2 (hA q (Nat.lt_of_lt_of_le h1 hS.1) z))]; exact hS.2.1 q h1 h2, fun q hq => by
      rcases List.mem_append.mp hq with h | h
      · exact hS.2.2 q h
      · exact hf _ (hL q h)⟩⟩
theorem vx_calli {S SX : Type} {post : Int32 → S → Prop} {px : SX → Prop} {B : S → State → Prop} {BX : String → SX → State → Prop} {AX : Nat → Prop} (hr : vx_Run p l e R s m args below meth c H locs cells slots mc ms (F0 m pc ls st0) rest (va_Qi post B A1 a) (vx_X px BX AX) free) (hS : va_S A0 H0 H locs) (hA : ∀ q, q < H.size → A1 q → A0 q) (hf : ∀ q, free q → A0 q) (hAX : ∀ q, q < H.size → AX q → A0 q)
    (kx : ∀ (E : String) (ce : Cell) (q9 : Addr) (u : SX) (t : State) (H1 : Heap) (locs1 : List Loc), t.heap = H1 → s.vm.Alike t.vm → px u → BX E u t → H.size ≤ H1.size → (∀ q : Nat, q < H.size → ¬ AX q → H1[q]? = H[q]?) → va_S A0 H0 H1 locs1 → H1[q9]? = some ce → ce.vm = .none → s.vm.findClass E = some ce.cls → vx_W p l e R s m args below meth c H1 locs1 (cells + mc) (slots + ms) Q (F0 m pc ls rest) q9)
    (kk : ∀ (r : Int32) (u : S) (t : State) (H1 : Heap) (locs1 : List Loc), t.heap = H1 → s.vm.Alike t.vm → post r u → B u t → H.size ≤ H1.size → (∀ q : Nat, q < H.size → ¬ A1 q → H1[q]? = H[q]?) → va_S A0 H0 H1 locs1 → W p l e R s m args below meth c H1 locs1 (cells + mc) (slots + ms) Q (F0 m (pc + 3) ls (.int r :: rest))) : W p l e R s m args below meth c H locs cells slots Q (F0 m pc ls st0) := by
  intro T hT X
  rcases hr T hT X with ⟨v, st₀, t, T', L, h0, X', hL, e1, e2, ⟨⟨r, u, hv, hp, hb⟩, hF⟩, st⟩ | ⟨q, st₀, t, T', L, E, ce, h0, X', hL, e1, e2, ⟨u, hp, hb, hF⟩, hce, hcv, hcl, st⟩
  · cases hv
    obtain ⟨k1, k2, k3⟩ := vx_keep h0 e1 hS hA hf hL hF
    obtain ⟨t2, a1, b1⟩ := kk r u t T'.heap (locs ++ L) e1.symm (by rw [← e2]; exact X'.warmed.alike) hp hb k1 k2 k3 T' rfl X'
    exact ⟨t2, st t2 a1, b1⟩
  · obtain ⟨k1, k2, k3⟩ := vx_keep h0 e1 hS hAX hf hL hF
    obtain ⟨t2, a1, b1⟩ := kx E ce q u t T'.heap (locs ++ L) e1.symm (by rw [← e2]; exact X'.warmed.alike) hp hb k1 k2 k3 (by rw [e1]; exact hce) hcv hcl T' rfl X'
    exact ⟨t2, st.trans a1, b1⟩
theorem vx_calll {S SX : Type} {post : Int64 → S → Prop} {px : SX → Prop} {B : S → State → Prop} {BX : String → SX → State → Prop} {AX : Nat → Prop} (hr : vx_Run p l e R s m args below meth c H locs cells slots mc ms (F0 m pc ls st0) rest (va_Ql post B A1 a) (vx_X px BX AX) free) (hS : va_S A0 H0 H locs) (hA : ∀ q, q < H.size → A1 q → A0 q) (hf : ∀ q, free q → A0 q) (hAX : ∀ q, q < H.size → AX q → A0 q)
    (kx : ∀ (E : String) (ce : Cell) (q9 : Addr) (u : SX) (t : State) (H1 : Heap) (locs1 : List Loc), t.heap = H1 → s.vm.Alike t.vm → px u → BX E u t → H.size ≤ H1.size → (∀ q : Nat, q < H.size → ¬ AX q → H1[q]? = H[q]?) → va_S A0 H0 H1 locs1 → H1[q9]? = some ce → ce.vm = .none → s.vm.findClass E = some ce.cls → vx_W p l e R s m args below meth c H1 locs1 (cells + mc) (slots + ms) Q (F0 m pc ls rest) q9)
    (kk : ∀ (r : Int64) (u : S) (t : State) (H1 : Heap) (locs1 : List Loc), t.heap = H1 → s.vm.Alike t.vm → post r u → B u t → H.size ≤ H1.size → (∀ q : Nat, q < H.size → ¬ A1 q → H1[q]? = H[q]?) → va_S A0 H0 H1 locs1 → W p l e R s m args below meth c H1 locs1 (cells + mc) (slots + ms) Q (F0 m (pc + 3) ls (.long r :: rest))) : W p l e R s m args below meth c H locs cells slots Q (F0 m pc ls st0) := by
  intro T hT X
  rcases hr T hT X with ⟨v, st₀, t, T', L, h0, X', hL, e1, e2, ⟨⟨r, u, hv, hp, hb⟩, hF⟩, st⟩ | ⟨q, st₀, t, T', L, E, ce, h0, X', hL, e1, e2, ⟨u, hp, hb, hF⟩, hce, hcv, hcl, st⟩
  · cases hv
    obtain ⟨k1, k2, k3⟩ := vx_keep h0 e1 hS hA hf hL hF
    obtain ⟨t2, a1, b1⟩ := kk r u t T'.heap (locs ++ L) e1.symm (by rw [← e2]; exact X'.warmed.alike) hp hb k1 k2 k3 T' rfl X'
    exact ⟨t2, st t2 a1, b1⟩
  · obtain ⟨k1, k2, k3⟩ := vx_keep h0 e1 hS hAX hf hL hF
    obtain ⟨t2, a1, b1⟩ := kx E ce q u t T'.heap (locs ++ L) e1.symm (by rw [← e2]; exact X'.warmed.alike) hp hb k1 k2 k3 (by rw [e1]; exact hce) hcv hcl T' rfl X'
    exact ⟨t2, st.trans a1, b1⟩
theorem vx_callf {S SX : Type} {post : UInt32 → S → Prop} {px : SX → Prop} {B : S → State → Prop} {BX : String → SX → State → Prop} {AX : Nat → Prop} (hr : vx_Run p l e R s m args below meth c H locs cells slots mc ms (F0 m pc ls st0) rest (va_Qf post B A1 a) (vx_X px BX AX) free) (hS : va_S A0 H0 H locs) (hA : ∀ q, q < H.size → A1 q → A0 q) (hf : ∀ q, free q → A0 q) (hAX : ∀ q, q < H.size → AX q → A0 q)
    (kx : ∀ (E : String) (ce : Cell) (q9 : Addr) (u : SX) (t : State) (H1 : Heap) (locs1 : List Loc), t.heap = H1 → s.vm.Alike t.vm → px u → BX E u t → H.size ≤ H1.size → (∀ q : Nat, q < H.size → ¬ AX q → H1[q]? = H[q]?) → va_S A0 H0 H1 locs1 → H1[q9]? = some ce → ce.vm = .none → s.vm.findClass E = some ce.cls → vx_W p l e R s m args below meth c H1 locs1 (cells + mc) (slots + ms) Q (F0 m pc ls rest) q9)
    (kk : ∀ (r : UInt32) (u : S) (t : State) (H1 : Heap) (locs1 : List Loc), t.heap = H1 → s.vm.Alike t.vm → post r u → B u t → H.size ≤ H1.size → (∀ q : Nat, q < H.size → ¬ A1 q → H1[q]? = H[q]?) → va_S A0 H0 H1 locs1 → W p l e R s m args below meth c H1 locs1 (cells + mc) (slots + ms) Q (F0 m (pc + 3) ls (.float r :: rest))) : W p l e R s m args below meth c H locs cells slots Q (F0 m pc ls st0) := by
  intro T hT X
  rcases hr T hT X with ⟨v, st₀, t, T', L, h0, X', hL, e1, e2, ⟨⟨r, u, hv, hp, hb⟩, hF⟩, st⟩ | ⟨q, st₀, t, T', L, E, ce, h0, X', hL, e1, e2, ⟨u, hp, hb, hF⟩, hce, hcv, hcl, st⟩
  · cases hv
    obtain ⟨k1, k2, k3⟩ := vx_keep h0 e1 hS hA hf hL hF
    obtain ⟨t2, a1, b1⟩ := kk r u t T'.heap (locs ++ L) e1.symm (by rw [← e2]; exact X'.warmed.alike) hp hb k1 k2 k3 T' rfl X'
    exact ⟨t2, st t2 a1, b1⟩
  · obtain ⟨k1, k2, k3⟩ := vx_keep h0 e1 hS hAX hf hL hF
    obtain ⟨t2, a1, b1⟩ := kx E ce q u t T'.heap (locs ++ L) e1.symm (by rw [← e2]; exact X'.warmed.alike) hp hb k1 k2 k3 (by rw [e1]; exact hce) hcv hcl T' rfl X'
    exact ⟨t2, st.trans a1, b1⟩
theorem vx_calld {S SX : Type} {post : UInt64 → S → Prop} {px : SX → Prop} {B : S → State → Prop} {BX : String → SX → State → Prop} {AX : Nat → Prop} (hr : vx_Run p l e R s m args below meth c H locs cells slots mc ms (F0 m pc ls st0) rest (va_Qd post B A1 a) (vx_X px BX AX) free) (hS : va_S A0 H0 H locs) (hA : ∀ q, q < H.size → A1 q → A0 q) (hf : ∀ q, free q → A0 q) (hAX : ∀ q, q < H.size → AX q → A0 q)
    (kx : ∀ (E : String) (ce : Cell) (q9 : Addr) (u : SX) (t : State) (H1 : Heap) (locs1 : List Loc), t.heap = H1 → s.vm.Alike t.vm → px u → BX E u t → H.size ≤ H1.size → (∀ q : Nat, q < H.size → ¬ AX q → H1[q]? = H[q]?) → va_S A0 H0 H1 locs1 → H1[q9]? = some ce → ce.vm = .none → s.vm.findClass E = some ce.cls → vx_W p l e R s m args below meth c H1 locs1 (cells + mc) (slots + ms) Q (F0 m pc ls rest) q9)
    (kk : ∀ (r : UInt64) (u : S) (t : State) (H1 : Heap) (locs1 : List Loc), t.heap = H1 → s.vm.Alike t.vm → post r u → B u t → H.size ≤ H1.size → (∀ q : Nat, q < H.size → ¬ A1 q → H1[q]? = H[q]?) → va_S A0 H0 H1 locs1 → W p l e R s m args below meth c H1 locs1 (cells + mc) (slots + ms) Q (F0 m (pc + 3) ls (.double r :: rest))) : W p l e R s m args below meth c H locs cells slots Q (F0 m pc ls st0) := by
  intro T hT X
  rcases hr T hT X with ⟨v, st₀, t, T', L, h0, X', hL, e1, e2, ⟨⟨r, u, hv, hp, hb⟩, hF⟩, st⟩ | ⟨q, st₀, t, T', L, E, ce, h0, X', hL, e1, e2, ⟨u, hp, hb, hF⟩, hce, hcv, hcl, st⟩
  · cases hv
    obtain ⟨k1, k2, k3⟩ := vx_keep h0 e1 hS hA hf hL hF
    obtain ⟨t2, a1, b1⟩ := kk r u t T'.heap (locs ++ L) e1.symm (by rw [← e2]; exact X'.warmed.alike) hp hb k1 k2 k3 T' rfl X'
    exact ⟨t2, st t2 a1, b1⟩
  · obtain ⟨k1, k2, k3⟩ := vx_keep h0 e1 hS hAX hf hL hF
    obtain ⟨t2, a1, b1⟩ := kx E ce q u t T'.heap (locs ++ L) e1.symm (by rw [← e2]; exact X'.warmed.alike) hp hb k1 k2 k3 (by rw [e1]; exact hce) hcv hcl T' rfl X'
    exact ⟨t2, st.trans a1, b1⟩
theorem vx_callv {S SX : Type} {post : S → Prop} {px : SX → Prop} {B : S → State → Prop} {BX : String → SX → State → Prop} {AX : Nat → Prop} (hr : vx_Run p l e R s m args below meth c H locs cells slots mc ms (F0 m pc ls st0) rest (va_Qv post B A1 a) (vx_X px BX AX) free) (hS : va_S A0 H0 H locs) (hA : ∀ q, q < H.size → A1 q → A0 q) (hf : ∀ q, free q → A0 q) (hAX : ∀ q, q < H.size → AX q → A0 q)
    (kx : ∀ (E : String) (ce : Cell) (q9 : Addr) (u : SX) (t : State) (H1 : Heap) (locs1 : List Loc), t.heap = H1 → s.vm.Alike t.vm → px u → BX E u t → H.size ≤ H1.size → (∀ q : Nat, q < H.size → ¬ AX q → H1[q]? = H[q]?) → va_S A0 H0 H1 locs1 → H1[q9]? = some ce → ce.vm = .none → s.vm.findClass E = some ce.cls → vx_W p l e R s m args below meth c H1 locs1 (cells + mc) (slots + ms) Q (F0 m pc ls rest) q9)
    (kk : ∀ (u : S) (t : State) (H1 : Heap) (locs1 : List Loc), t.heap = H1 → s.vm.Alike t.vm → post u → B u t → H.size ≤ H1.size → (∀ q : Nat, q < H.size → ¬ A1 q → H1[q]? = H[q]?) → va_S A0 H0 H1 locs1 → W p l e R s m args below meth c H1 locs1 (cells + mc) (slots + ms) Q (F0 m (pc + 3) ls (rest))) : W p l e R s m args below meth c H locs cells slots Q (F0 m pc ls st0) := by
  intro T hT X
  rcases hr T hT X with ⟨v, st₀, t, T', L, h0, X', hL, e1, e2, ⟨⟨u, hv, hp, hb⟩, hF⟩, st⟩ | ⟨q, st₀, t, T', L, E, ce, h0, X', hL, e1, e2, ⟨u, hp, hb, hF⟩, hce, hcv, hcl, st⟩
  · cases hv
    obtain ⟨k1, k2, k3⟩ := vx_keep h0 e1 hS hA hf hL hF
    obtain ⟨t2, a1, b1⟩ := kk u t T'.heap (locs ++ L) e1.symm (by rw [← e2]; exact X'.warmed.alike) hp hb k1 k2 k3 T' rfl X'
    exact ⟨t2, st t2 a1, b1⟩
  · obtain ⟨k1, k2, k3⟩ := vx_keep h0 e1 hS hAX hf hL hF
    obtain ⟨t2, a1, b1⟩ := kx E ce q u t T'.heap (locs ++ L) e1.symm (by rw [← e2]; exact X'.warmed.alike) hp hb k1 k2 k3 (by rw [e1]; exact hce) hcv hcl T' rfl X'
    exact ⟨t2, st.trans a1, b1⟩
/-- caught by the row x of this method's table; the rows ahead don't take it -/
theorem vx_catch {own name : String} {E : String} {ce : Cell} {q : Addr} (hown : s.vm.findClass own = some m.cls) (pre : List ExceptionTableEntry) (x : ExceptionTableEntry) (suf : List ExceptionTableEntry) (hsplit : c.exceptionTable.toList = pre ++ x :: suf)
    (hpass : ∀ z ∈ pre, covers z pc = false ∨ (z.catchType ≠ 0 ∧ ∃ nm : String, (Cond.classLink own z.catchType nm).before args s = true ∧ va_Nc E nm s)) (hx : covers x pc = true) (h0 : x.catchType ≠ 0)
    (hlink : (Cond.classLink own x.catchType name).before args s = true) (hcast : (Cond.castable E name).before args s = true) (hcell : H[q]? = some ce) (hv : ce.vm = .none) (hcl : s.vm.findClass E = some ce.cls)
    (kk : W p l e R s m args below meth c H locs cells slots Q (F0 m x.handlerPc ls [.ref q])) : vx_W p l e R s m args below meth c H locs cells slots Q (F0 m pc ls rest) q := by
  intro T hT X
  have hpl : e.platform.magicAccessors = ({} : Platform).magicAccessors := by rw [X.admits.platform]
  obtain ⟨c3, c4, hc3, hc4, hasg⟩ := Cond.castable_spec hcast
  cases Option.some.inj (hc3.symm.trans hcl)
  obtain ⟨c5, hc5, hcl5⟩ := Cond.classLink_spec hown hlink e.platform hpl
  cases Option.some.inj (hc4.symm.trans hc5)
  obtain ⟨vm', X', st⟩ := X.thenCaughtThrough q (g := F0 m pc ls rest) rfl (Steps.refl _) (by rw [hT]; exact hcell) (by rw [hv]; rfl) (by obtain ⟨k9, h9, -⟩ := Vm.findClass_spec hcl; exact ⟨k9, h9⟩) pre x suf hsplit
    (fun z hz => by
      rcases hpass z hz with h | ⟨hz0, nm, hl1, hn1⟩
      · exact Or.inl h
      · obtain ⟨c6, hc6, hcl6⟩ := Cond.classLink_spec hown hl1 e.platform hpl
        obtain ⟨a8, b8, h1, h2, h3⟩ := hn1
        cases Option.some.inj (h1.symm.trans hcl)
        cases Option.some.inj (h2.symm.trans hc6)
        exact Or.inr ⟨hz0, _, hcl6, h3⟩) hx (Or.inr ⟨h0, c4, hcl5, hasg⟩)
  obtain ⟨t, a1, b1⟩ := kk (T.setVm vm') hT X'
  exact ⟨t, st.trans a1, b1⟩
end Rows
section Ends
variable {p : Program} {l : Launch} {e : Env} {R : Room} {s : State} {m : MethodId} {args : Array Value} {below : List Frame} {meth : Method} {c : Code} {H : Heap} {locs : List Loc} {cells slots : Nat} {Q : State → Prop}
variable {mc ms : Nat} {free : Addr → Prop} {A0 A1 : Nat → Prop} {H0 : Heap} {a : Array Value} {ls : Array Slot} {st0 rest : List Value}
variable {Qc : Array Value → State → Outcome → State → Prop} {XC : String → State → State → Prop}
/-- what a body that may throw owes at its end -/
def vx_MQ (below : List Frame) (Qc : Array Value → State → Outcome → State → Prop) (XC : String → State → State → Prop) (a : Array Value) (s : State) (mc ms : Nat) (free : Addr → Prop) : State → Prop := fun t =>
  ∃ o, t.status = .running ∧ Ended t below o ∧ vx_Q Qc XC mc ms free a s o t
theorem vx_ret {g : JFrame} {mc ms : Nat} (k : W p l e R s m args below meth c H locs cells slots (MQ below Qc args s mc ms free) g) : W p l e R s m args below meth c H locs cells slots (vx_MQ below Qc XC args s mc ms free) g := by
  intro T hT X
  obtain ⟨t, a1, o, b1, b2, b3, b4⟩ := k T hT X
  exact ⟨t, a1, o, b1, b2, Or.inl ⟨b3, b4⟩⟩
/-- not caught here: it goes on to the caller -/
theorem vx_widen {g : JFrame} {q : Addr} {k n : Nat} (h1 : cells ≤ k) (h2 : slots ≤ n) (kk : vx_W p l e R s m args below meth c H locs k n Q g q) : vx_W p l e R s m args below meth c H locs cells slots Q g q := fun T hT X => kk T hT (stand_widen X h1 h2)
theorem vx_out {pc : Nat} {E : String} {ce : Cell} {q : Addr} {mc ms : Nat} (hout : ∀ x ∈ c.exceptionTable.toList, covers x pc = false) (hlocks : meth.locks = false) (hcell : H[q]? = some ce) (hv : ce.vm = .none) (hcl : s.vm.findClass E = some ce.cls)
    (hx : ∀ t : State, t.heap = H → s.vm.Alike t.vm → XC E s t) (hf : ∀ z ∈ locs, free z.base) (hc : cells ≤ mc) (hs : slots ≤ ms) :
    vx_W p l e R s m args below meth c H locs cells slots (vx_MQ below Qc XC args s mc ms free) (F0 m pc ls rest) q := by
  intro T hT X
  obtain ⟨st1, hrun, hend, hW, hsm⟩ := X.leaveThrown q (g := F0 m pc ls rest) rfl rfl rfl hout hlocks
  have hcell9 : (T.setFrames (.throwing q :: below)).heap[q]? = some ce := by
    show T.heap[q]? = some ce
    rw [hT]; exact hcell
  exact ⟨_, st1, .threw q, hrun, hend, Or.inr ⟨q, rfl, E, ce, locs, hx _ hT hW.alike, hcell9, hv, hcl, hW, hsm.mono hc hs, hf⟩⟩
theorem vx_frame {U : State} {k n : Nat} (h : s.sameButNew ({ U with vm := s.vm } : State) locs k n) : s.heap.size ≤ U.heap.size ∧ ∀ q : Nat, q < s.heap.size → (∀ z ∈ locs, z.base ≠ q) → U.heap[q]? = s.heap[q]? := by
  obtain ⟨-, h2, -, -, -, h6⟩ := h
  refine ⟨h2, fun q hq hz => ?_⟩
  obtain ⟨c9, e1, e2, e3, e4⟩ := h6 q _ (Array.getElem?_eq_getElem hq)
  have hs : c9.slots = (s.heap[q]).slots := Array.ext_getElem? fun i => e4 i fun hm => hz _ hm rfl
  have h9 : c9 = s.heap[q] := by
    rw [hs] at e2
    exact e2
  have e5 : U.heap[q]? = some c9 := e1
  rw [e5, h9, Array.getElem?_eq_getElem hq]
/-- the words of a throw but the four that speak of the heap -/
def vx_no (w : Cond) : Bool := decide (w ≠ .isRef (.static Bundle.tN "UNASSIGNED_STACK" Bundle.steD)) && decide (w ≠ .isRef (.static Bundle.tN "SUPPRESSED_SENTINEL" Bundle.listD)) && decide (w ≠ .laysStatic Bundle.tN "UNASSIGNED_STACK" Bundle.steD) && decide (w ≠ .laysStatic Bundle.tN "SUPPRESSED_SENTINEL" Bundle.listD)
def vx_at0 (own : String) (ic : Nat) (X : String) (names : List String) : List Cond := (Bundle.ownAtoms0 own ic X names).filter vx_no
def vx_atS (own : String) (ic : Nat) (X : String) (names : List String) : List Cond := (Bundle.ownAtoms own ic X names).filter vx_no
/-- a word that the tables alone decide, or a good one -/
def vx_ot (w : Cond) : Bool := w.onTables || goodWord w
theorem vx_ot_at {args a' : Array Value} {s U : State} {w : Cond} (hW : s.WarmedH U.vm) (hvm : s.vm = U.vm) (hg : vx_ot w = true) (h : w.before args s = true) : w.before a' U = true := by
  simp only [vx_ot, Bool.or_eq_true] at hg
  rcases hg with hg | hg
  · exact va_tabs hg hvm h
  · exact word_at hW (good_of_word hg) h
/-- a list's words: the good ones out of the method's own list, the others by premises of their own -/
theorem vx_hat {args : Array Value} {s : State} {L B : List Cond} (h1 : ∀ w ∈ L.filter goodWord, w.before args s = true) (h2 : ∀ w ∈ L.filter (fun w => !goodWord w), w ∈ B) (h3 : ∀ w ∈ B, w.before args s = true) : ∀ w ∈ L, w.before args s = true := by
  intro w hw
  by_cases g : goodWord w = true
  · exact h1 w (List.mem_filter.mpr ⟨hw, g⟩)
  · refine h3 w (h2 w (List.mem_filter.mpr ⟨hw, ?_⟩))
    show (!goodWord w) = true
    cases hgw : goodWord w
    · rfl
    · exact absurd hgw g
theorem vx_c {args : Array Value} {s : State} {w : Cond} {B : List Cond} (h : w.before args s = true) (t : ∀ w ∈ B, w.before args s = true) : ∀ w' ∈ w :: B, w'.before args s = true := fun w' h' => (List.mem_cons.mp h').elim (fun e => by rw [e]; exact h) (t w')
theorem vx_n {args : Array Value} {s : State} : ∀ w ∈ ([] : List Cond), w.before args s = true := fun _ h => nomatch h
theorem vx_own {args : Array Value} {s : State} {L : List Cond} (h1 : ∀ w ∈ L.filter vx_no, w.before args s = true)
    (hU : (Cond.isRef (.static Bundle.tN "UNASSIGNED_STACK" Bundle.steD)).before args s = true) (hN : (Cond.isRef (.static Bundle.tN "SUPPRESSED_SENTINEL" Bundle.listD)).before args s = true)
    (lU : (Cond.laysStatic Bundle.tN "UNASSIGNED_STACK" Bundle.steD).before args s = true) (lN : (Cond.laysStatic Bundle.tN "SUPPRESSED_SENTINEL" Bundle.listD).before args s = true) : ∀ w ∈ L, w.before args s = true := by
  intro w hw
  by_cases e1 : w = .isRef (.static Bundle.tN "UNASSIGNED_STACK" Bundle.steD)
  · rw [e1]; exact hU
  · by_cases e2 : w = .isRef (.static Bundle.tN "SUPPRESSED_SENTINEL" Bundle.listD)
    · rw [e2]; exact hN
    · by_cases e3 : w = .laysStatic Bundle.tN "UNASSIGNED_STACK" Bundle.steD
      · rw [e3]; exact lU
      · by_cases e4 : w = .laysStatic Bundle.tN "SUPPRESSED_SENTINEL" Bundle.listD
        · rw [e4]; exact lN
        · exact h1 w (List.mem_filter.mpr ⟨hw, by unfold vx_no; rw [decide_eq_true e1, decide_eq_true e2, decide_eq_true e3, decide_eq_true e4]; rfl⟩)
/-- where a static field lies, its class's statics cell in H -/
def vx_L (C n d : String) (A : Nat → Prop) (U : State) (H : Heap) : Prop := ∃ (c : ClassId) (k : Class) (i : Nat) (f : Field) (a : Nat) (cell : Cell), U.vm.findClass C = some c ∧ U.fieldFound? C n d = some (c, k, i, f) ∧ f.isStatic = true ∧ k.statics = some a ∧ H[a]? = some cell ∧ cell.vm.isStatics = true ∧ cell.cls = c ∧ f.slot < cell.slots.size ∧ k.staticTypes[f.slot]? = some f.type ∧ ¬ A a
theorem vx_L.moved {C n d : String} {A : Nat → Prop} {u U : State} {H : Heap} (hvm : u.vm.Alike U.vm) (h : vx_L C n d A u H) : vx_L C n d A U H := by
  obtain ⟨c, k, i, f, a, cell, h1, h2, h3, h4, h5, h6, h7, h8, h9, h10⟩ := h
  obtain ⟨k', hi', he⟩ := State.fieldFound?_setVm hvm h2
  exact ⟨c, k', i, f, a, cell, by rw [hvm.findClass]; exact h1, hi', h3, by rw [he]; exact h4, h5, h6, h7, h8, by rw [he]; exact h9, h10⟩
theorem vx_L.kept {C n d : String} {A : Nat → Prop} {U : State} {H H1 : Heap} (h : vx_L C n d A U H) (hq : ∀ a : Nat, a < H.size → ¬ A a → H1[a]? = H[a]?) : vx_L C n d A U H1 := by
  obtain ⟨c, k, i, f, a, cell, h1, h2, h3, h4, h5, h6, h7, h8, h9, h10⟩ := h
  exact ⟨c, k, i, f, a, cell, h1, h2, h3, h4, by rw [hq a (Array.getElem?_eq_some_iff.mp h5).1 h10]; exact h5, h6, h7, h8, h9, h10⟩
theorem vx_L.narrow {C n d : String} {A B : Nat → Prop} {U : State} {H : Heap} (h : vx_L C n d A U H) (hAB : ∀ q, B q → A q) : vx_L C n d B U H := by
  obtain ⟨c, k, i, f, a, cell, h1, h2, h3, h4, h5, h6, h7, h8, h9, h10⟩ := h
  exact ⟨c, k, i, f, a, cell, h1, h2, h3, h4, h5, h6, h7, h8, h9, fun z => h10 (hAB _ z)⟩
theorem vx_L.word {C n d : String} {A : Nat → Prop} {s : State} {args : Array Value} (h : vx_L C n d A s s.heap) : (Cond.laysStatic C n d).before args s = true := by
  obtain ⟨c, k, i, f, a, cell, h1, h2, h3, h4, h5, h6, h7, h8, h9, -⟩ := h
  show (Cond.laysStatic C n d).holds args s none s [] = true
  exact Cond.laysStatic_of h1 h2 h3 h4 h5 h6 h7 h8 h9
/-- .. and what it holds: null or some reference -/
def vx_Zq (C n d : String) (A : Nat → Prop) (U : State) (H : Heap) : Prop := va_Zq C n d A U H ∧ vx_L C n d A U H
theorem vx_Zq.moved {C n d : String} {A : Nat → Prop} {u U : State} {H : Heap} (hvm : u.vm.Alike U.vm) (h : vx_Zq C n d A u H) : vx_Zq C n d A U H := ⟨va_Zq.moved hvm h.1, vx_L.moved hvm h.2⟩
theorem vx_Zq.kept {C n d : String} {A : Nat → Prop} {U : State} {H H1 : Heap} (h : vx_Zq C n d A U H) (hq : ∀ a : Nat, a < H.size → ¬ A a → H1[a]? = H[a]?) : vx_Zq C n d A U H1 := ⟨va_Zq.kept h.1 hq, vx_L.kept h.2 hq⟩
theorem vx_Zq.narrow {C n d : String} {A B : Nat → Prop} {U : State} {H : Heap} (h : vx_Zq C n d A U H) (hAB : ∀ q, B q → A q) : vx_Zq C n d B U H := ⟨va_Zq.narrow h.1 hAB, vx_L.narrow h.2 hAB⟩
theorem vx_Zqof {args : Array Value} {s : State} {C n d : String} {A : Nat → Prop} (hl : (Cond.laysStatic C n d).before args s = true) (hini : (Cond.initialized C).before args s = true) (h : (Cond.isRef (.static C n d)).before args s = true) (hA : ∀ a : Nat, a < s.heap.size → ¬ A a) : vx_Zq C n d A s s.heap := by
  refine ⟨va_Zqof hl hini h hA, ?_⟩
  obtain ⟨c, k, i, f, a, cell, h1, h2, h3, h4, h5, h6, h7, h8, h9⟩ := Cond.laysStatic_spec hl
  exact ⟨c, k, i, f, a, cell, h1, h2, h3, h4, h5, h6, h7, h8, h9, hA a (Array.getElem?_eq_some_iff.mp h5).1⟩
theorem vx_isRef {C n d : String} {v : Value} {A : Nat → Prop} {s : State} {args : Array Value} (h : va_Z C n d v A s s.heap) (hv : v.isRef = true) : (Cond.isRef (.static C n d)).before args s = true := by
  obtain ⟨cf, kf, fi, f, a, cell, h1, h2, h3, h4, h5, h6, h7, -⟩ := h
  have he : (Term.static C n d).eval args s none [] s = some v := by
    simp [Term.eval, State.fieldNamed?, h1, h2, h4, h5, h6, h7]
  simp only [Cond.before, Cond.holds, Cond.value, he]
  cases v <;> simp_all [Value.isRef]
theorem vx_isRefq {C n d : String} {A : Nat → Prop} {s : State} {args : Array Value} (h : va_Zq C n d A s s.heap) : (Cond.isRef (.static C n d)).before args s = true := by
  rcases h with h | ⟨t, h⟩
  · exact vx_isRef h rfl
  · exact vx_isRef h rfl
/-- the same frame, seen from here: as if the method were called anew in this heap -/
theorem vx_rebase {T : State} (X : Stand p l e R s m args below meth c T locs cells slots) {R' : Room} (hf : R'.frames ≤ R.frames) (hl : R'.locals ≤ R.locals) (hc : cells + R'.cells ≤ R.cells) (hs : slots + R'.slots ≤ R.slots) :
    Stand p l e R' ((T.setVm s.vm).setFrames (.invoking m args :: below)) m args below meth c T [] 0 0 := by
  have htop : (T.setVm s.vm).topJava?.isSome := X.here.top
  have hF : ((T.setVm s.vm).setFrames (.invoking m args :: below)).frames = .invoking m args :: below := State.frames_setFrames _ (State.cur_lt_of_top htop)
  obtain ⟨g₀, hg0⟩ := Option.isSome_iff_exists.mp htop
  obtain ⟨r, hr⟩ := State.topJava?_eq_some.mp hg0
  have hl9 : e.platform.stackLimits (T.setVm s.vm).me = e.platform.stackLimits s.me := X.limits
  have hb9 : (T.setVm s.vm).me.stackBytes = s.me.stackBytes := X.bytes
  refine ⟨X.admits, X.cas, X.clock, hF, ?_, X.hears, X.method, X.code, X.here, X.tail, X.warmed, ?_, ?_, ?_⟩
  · have h := X.room
    have hU : ((T.setVm s.vm).setFrames (.invoking m args :: below)).localsInUse = s.localsInUse := by
      rw [State.localsInUse_invoking hF (meth := meth) (c := c) X.method X.code, State.localsInUse_invoking X.frames X.method X.code]
    simp only [State.hasRoom, Bool.and_eq_true, decide_eq_true_eq] at h ⊢
    obtain ⟨⟨⟨⟨h1, h2, h3, h4, h5, h6⟩, h7⟩, h8⟩, h9⟩ := h
    rw [X.frames, List.length_cons] at h2 h3
    have q1 := X.heapSize
    have q2 := X.used
    simp only [hF, hU, List.length_cons, State.stackLimits_setFrames, State.stackBytes_setFrames, hl9, hb9]
    refine ⟨⟨⟨⟨by omega, by omega, by omega, by omega, by omega, h6⟩, ?_⟩, ?_⟩, X.book⟩
    · show T.heap.size + R'.cells ≤ e.platform.maxCells
      omega
    · show T.slotsUsed + R'.slots ≤ e.platform.maxSlots
      omega
  · rw [State.stackLimits_setFrames]; rfl
  · rw [State.stackBytes_setFrames]; rfl
  · refine ⟨?_, Nat.le_refl _, Nat.le_refl _, ?_, ?_, fun a c9 h9 => ⟨c9, h9, rfl, rfl, fun _ _ => rfl⟩⟩
    · obtain ⟨t, ht, -⟩ := State.frames_cons hr
      show T.setVm s.vm = { ((T.setVm s.vm).setFrames (.invoking m args :: below)).setFrames (T.setVm s.vm).frames with heap := T.heap, slotsUsed := T.slotsUsed }
      rw [State.setFrames_setFrames, State.setFrames_self ht]
      rfl
    · show T.slotsUsed = T.slotsUsed + ((T.heap.toList.drop T.heap.size).map (·.slots.size)).sum
      rw [List.drop_eq_nil_of_le (Nat.le_of_eq Array.length_toList)]
      rfl
    · show ((T.heap.toList.drop T.heap.size).map (·.slots.size)).sum ≤ 0
      rw [List.drop_eq_nil_of_le (Nat.le_of_eq Array.length_toList)]
      exact Nat.le_refl _
/-- 'throw new E()': new; dup; invokespecial; athrow -/
theorem vx_throw0 {cc : ByteArray} {pc : Nat} (hexec : p.tables.exec = Jvm.exec) (hb : c.code = cc) (hl : l.stackTraces = false) {own cls : String} {names : List String} {ik ic mc ms : Nat} {A : Nat → Prop}
    (hown : s.vm.findClass own = some m.cls) (hcls : Bundle.fit cls = true) (hnames : ∀ n ∈ names, Bundle.fit n = true)
    (hk : (Cond.classLink own ik cls).before args s = true) (hini : (Cond.initialized cls).before args s = true) (hat : ∀ w ∈ vx_at0 own ic cls names, w.before args s = true)
    (hgood : ∀ w ∈ Cond.classLink own ik cls :: Cond.initialized cls :: vx_at0 own ic cls names, vx_ot w = true)
    (hU : vx_Zq Bundle.tN "UNASSIGNED_STACK" Bundle.steD A s s.heap) (hN : vx_Zq Bundle.tN "SUPPRESSED_SENTINEL" Bundle.listD A s s.heap) (hS : va_S A s.heap H locs) (hsize : ls.size = c.maxLocals)
    (d0 : decode cc pc = .ok (.new ik, 3)) (d3 : decode cc (pc + 3) = .ok (.dup, 1)) (d4 : decode cc (pc + 4) = .ok (.invokespecial ic, 3)) (d7 : decode cc (pc + 7) = .ok (.athrow, 1))
    (hout : ∀ x ∈ c.exceptionTable.toList, covers x (pc + 7) = false)
    (hRframes : names.length + 3 < R.frames) (hRlocals : (rest.map fun v => v.category).sum + (13 * (names.length + 1) + 42) ≤ R.locals) (hRcells : cells + 1 ≤ R.cells) (hRslots : slots + 6 ≤ R.slots) (hlocks : meth.locks = false)
    (hx : ∀ t : State, s.vm.Alike t.vm → H.size ≤ t.heap.size → (∀ q : Nat, q < H.size → t.heap[q]? = H[q]?) → XC cls s t)
    (hf : ∀ z ∈ locs, free z.base) (hc : cells + 1 ≤ mc) (hs : slots + 6 ≤ ms) :
    W p l e R s m args below meth c H locs cells slots (vx_MQ below Qc XC args s mc ms free) (F0 m pc ls rest) := by
  intro T hT X
  have htr : e.platform.stackTraces = false := (show e.platform.stackTraces = l.stackTraces by rw [X.admits.platform]).trans hl
  have Y := vx_rebase X (R' := { frames := R.frames, locals := R.locals, cells := 1, slots := 6 }) (Nat.le_refl _) (Nat.le_refl _) hRcells hRslots
  obtain ⟨s', hA⟩ : ∃ z, z = (T.setVm s.vm).setFrames (.invoking m args :: below) := ⟨_, rfl⟩
  rw [← hA] at Y
  have hvm : s'.vm = s.vm := by rw [hA]; rfl
  have hhp : s'.heap = H := by rw [hA]; exact hT
  have hW0 : s.WarmedH s'.vm := by rw [hvm]; exact State.WarmedH.refl s
  have hat' : ∀ w ∈ vx_at0 own ic cls names, w.before args s' = true := fun w hw => vx_ot_at hW0 hvm.symm (hgood w (List.mem_cons_of_mem _ (List.mem_cons_of_mem _ hw))) (hat w hw)
  have hk' : (Cond.classLink own ik cls).before args s' = true := vx_ot_at hW0 hvm.symm (hgood _ List.mem_cons_self) hk
  have hini' : (Cond.initialized cls).before args s' = true := vx_ot_at hW0 hvm.symm (hgood _ (List.mem_cons_of_mem _ List.mem_cons_self)) hini
  have hU' : vx_Zq Bundle.tN "UNASSIGNED_STACK" Bundle.steD A s' s'.heap := by rw [hhp]; exact vx_Zq.moved hW0.alike (hU.kept hS.2.1)
  have hN' : vx_Zq Bundle.tN "SUPPRESSED_SENTINEL" Bundle.listD A s' s'.heap := by rw [hhp]; exact vx_Zq.moved hW0.alike (hN.kept hS.2.1)
  have h : ∀ w ∈ Bundle.ownAtoms0 own ic cls names, w.before args s' = true := vx_own hat' (vx_isRefq hU'.1) (vx_isRefq hN'.1) hU'.2.word hN'.2.word
  have hown' : s'.vm.findClass own = some m.cls := by rw [hvm]; exact hown
  have hins : (Cond.instantiable cls 6).before args s' = true := h _ (by simp [Bundle.ownAtoms0])
  obtain ⟨vm₁, cX, kX, hfX, hkX, -, -, X₁, st1⟩ := Y.newCold hexec (own := own) (C := cls) (index := ik) (n := 6) hown' hk' hins hini'
    (g := F0 m pc ls rest) rfl (by rw [hb]; exact d0) (Nat.le_refl _) (Nat.le_refl _)
  generalize hT1 : (T.setVm vm₁).pushCell { cls := cX, slots := kX.instanceTypes.map defaultValue, vm := .none } = T1 at X₁ st1
  have hcat : (Value.ref T.heap.size).category = 1 := rfl
  have hcellA : T1.heap[T.heap.size]? = some (freshCell cX kX) := by rw [← hT1]; exact State.heap_pushCell_size _ _
  have d3' : decode c.code (pc + 3) = .ok (.dup, 1) := by rw [hb]; exact d3
  obtain ⟨U, hsteps, hrun, hend, hW, hsame, ce, hce, hO⟩ := X₁.ctorThrow0 hexec htr (own := own) (cls := cls) (names := names) (ic := ic) hown' hcls hnames h (fun x hx => nomatch hx) hfX hkX hcellA (by rw [hhp, hT]; exact Nat.le_refl _)
    (g := { method := m, pc := pc + 4, locals := ls, stack := .ref T.heap.size :: .ref T.heap.size :: rest, locked := none }) rfl hsize rfl rfl (rest := rest) rfl
    (by rw [hb]; exact d4) (by rw [hb]; exact d7) hout hRframes (by simp only [List.map_cons, List.sum_cons, hcat]; omega) hlocks
  obtain ⟨f1, f2⟩ := vx_frame hsame
  rw [hhp] at f1 f2
  have hWs : s.WarmedH U.vm := State.WarmedH.trans hW0 hW
  have hcl : s.vm.findClass cls = some ce.cls := by
    have h9 := hO.cls
    rw [hvm] at h9
    exact h9
  have hall : s.sameButNew ({ U with vm := s.vm } : State) locs mc ms := by
    subst hA
    obtain ⟨e1, e2⟩ := hsame
    rw [State.setFrames_setFrames] at e1
    have h2 : (T.setVm s.vm).sameButNew ({ U with vm := s.vm } : State) [] (0 + 1) (0 + 6) := ⟨e1, e2⟩
    have h3 := X.same.trans h2
    rw [List.append_nil] at h3
    exact h3.mono hc hs
  refine ⟨U, ?_, .threw T.heap.size, hrun, hend, Or.inr ⟨T.heap.size, rfl, cls, ce, locs, hx U hWs.alike f1 (fun q hq => f2 q hq (fun z hz => nomatch hz)), hce, hO.vm, hcl, hWs, hall, hf⟩⟩
  refine st1 _ ?_
  show Steps p.tables e below (T1.setTop { method := m, pc := pc + 3, locals := ls, stack := .ref T.heap.size :: rest, locked := none }) _
  jvm_step X₁.here [X₁.here.top, hexec, d3', Value.category]
  exact hsteps
/-- 'throw new E("text")': new; dup; ldc; invokespecial; athrow -/
theorem vx_throwS {cc : ByteArray} {pc : Nat} (hexec : p.tables.exec = Jvm.exec) (hb : c.code = cc) (hl : l.stackTraces = false) {own cls text : String} {names : List String} {ik is ic mc ms sa : Nat} {A : Nat → Prop}
    (hown : s.vm.findClass own = some m.cls) (hcls : Bundle.fit cls = true) (hnames : ∀ n ∈ names, Bundle.fit n = true)
    (hk : (Cond.classLink own ik cls).before args s = true) (hini : (Cond.initialized cls).before args s = true) (hstr : vk_R own is text sa s) (hat : ∀ w ∈ vx_atS own ic cls names, w.before args s = true)
    (hgood : ∀ w ∈ Cond.classLink own ik cls :: Cond.initialized cls :: vx_atS own ic cls names, vx_ot w = true)
    (hU : vx_Zq Bundle.tN "UNASSIGNED_STACK" Bundle.steD A s s.heap) (hN : vx_Zq Bundle.tN "SUPPRESSED_SENTINEL" Bundle.listD A s s.heap) (hS : va_S A s.heap H locs) (hsize : ls.size = c.maxLocals)
    (d0 : decode cc pc = .ok (.new ik, 3)) (d3 : decode cc (pc + 3) = .ok (.dup, 1)) (d4 : decode cc (pc + 4) = .ok (.ldc is, 2)) (d6 : decode cc (pc + 6) = .ok (.invokespecial ic, 3)) (d9 : decode cc (pc + 9) = .ok (.athrow, 1))
    (hout : ∀ x ∈ c.exceptionTable.toList, covers x (pc + 9) = false)
    (hRframes : names.length + 3 < R.frames) (hRlocals : (rest.map fun v => v.category).sum + (13 * (names.length + 1) + 43) ≤ R.locals) (hRcells : cells + 1 ≤ R.cells) (hRslots : slots + 6 ≤ R.slots) (hlocks : meth.locks = false)
    (hx : ∀ t : State, s.vm.Alike t.vm → H.size ≤ t.heap.size → (∀ q : Nat, q < H.size → t.heap[q]? = H[q]?) → XC cls s t)
    (hf : ∀ z ∈ locs, free z.base) (hc : cells + 1 ≤ mc) (hs : slots + 6 ≤ ms) :
    W p l e R s m args below meth c H locs cells slots (vx_MQ below Qc XC args s mc ms free) (F0 m pc ls rest) := by
  intro T hT X
  have htr : e.platform.stackTraces = false := (show e.platform.stackTraces = l.stackTraces by rw [X.admits.platform]).trans hl
  have Y := vx_rebase X (R' := { frames := R.frames, locals := R.locals, cells := 1, slots := 6 }) (Nat.le_refl _) (Nat.le_refl _) hRcells hRslots
  obtain ⟨s', hA⟩ : ∃ z, z = (T.setVm s.vm).setFrames (.invoking m args :: below) := ⟨_, rfl⟩
  rw [← hA] at Y
  have hvm : s'.vm = s.vm := by rw [hA]; rfl
  have hhp : s'.heap = H := by rw [hA]; exact hT
  have hW0 : s.WarmedH s'.vm := by rw [hvm]; exact State.WarmedH.refl s
  have hat' : ∀ w ∈ vx_atS own ic cls names, w.before args s' = true := fun w hw => vx_ot_at hW0 hvm.symm (hgood w (List.mem_cons_of_mem _ (List.mem_cons_of_mem _ hw))) (hat w hw)
  have hk' : (Cond.classLink own ik cls).before args s' = true := vx_ot_at hW0 hvm.symm (hgood _ List.mem_cons_self) hk
  have hini' : (Cond.initialized cls).before args s' = true := vx_ot_at hW0 hvm.symm (hgood _ (List.mem_cons_of_mem _ List.mem_cons_self)) hini
  have hU' : vx_Zq Bundle.tN "UNASSIGNED_STACK" Bundle.steD A s' s'.heap := by rw [hhp]; exact vx_Zq.moved hW0.alike (hU.kept hS.2.1)
  have hN' : vx_Zq Bundle.tN "SUPPRESSED_SENTINEL" Bundle.listD A s' s'.heap := by rw [hhp]; exact vx_Zq.moved hW0.alike (hN.kept hS.2.1)
  have h : ∀ w ∈ Bundle.ownAtoms own ic cls names, w.before args s' = true := vx_own hat' (vx_isRefq hU'.1) (vx_isRefq hN'.1) hU'.2.word hN'.2.word
  have hown' : s'.vm.findClass own = some m.cls := by rw [hvm]; exact hown
  have hins : (Cond.instantiable cls 6).before args s' = true := h _ (by simp [Bundle.ownAtoms])
  obtain ⟨vm₁, cX, kX, hfX, hkX, -, -, X₁, st1⟩ := Y.newCold hexec (own := own) (C := cls) (index := ik) (n := 6) hown' hk' hins hini'
    (g := F0 m pc ls rest) rfl (by rw [hb]; exact d0) (Nat.le_refl _) (Nat.le_refl _)
  generalize hT1 : (T.setVm vm₁).pushCell { cls := cX, slots := kX.instanceTypes.map defaultValue, vm := .none } = T1 at X₁ st1
  have hcat : (Value.ref T.heap.size).category = 1 := rfl
  have hcellA : T1.heap[T.heap.size]? = some (freshCell cX kX) := by rw [← hT1]; exact State.heap_pushCell_size _ _
  have d3' : decode c.code (pc + 3) = .ok (.dup, 1) := by rw [hb]; exact d3
  have d4' : decode c.code (pc + 4) = .ok (.ldc is, 2) := by rw [hb]; exact d4
  have hstr' : vk_R own is text sa s' := vk_R.warm hW0 hstr
  obtain ⟨U, hsteps, hrun, hend, hW, hsame, ce, hce, hO⟩ := X₁.ctorThrowS hexec htr (own := own) (cls := cls) (names := names) (ic := ic) hown' hcls hnames h (fun x hx => nomatch hx) hfX hkX hcellA (by rw [hhp, hT]; exact Nat.le_refl _) (msg := .ref sa) rfl
    (g := { method := m, pc := pc + 6, locals := ls, stack := .ref sa :: .ref T.heap.size :: .ref T.heap.size :: rest, locked := none }) rfl hsize rfl rfl (rest := rest) rfl
    (by rw [hb]; exact d6) (by rw [hb]; exact d9) hout hRframes (by simp only [List.map_cons, List.sum_cons, hcat]; omega) hlocks
  obtain ⟨f1, f2⟩ := vx_frame hsame
  rw [hhp] at f1 f2
  have hWs : s.WarmedH U.vm := State.WarmedH.trans hW0 hW
  have hcl : s.vm.findClass cls = some ce.cls := by
    have h9 := hO.cls
    rw [hvm] at h9
    exact h9
  have hall : s.sameButNew ({ U with vm := s.vm } : State) locs mc ms := by
    subst hA
    obtain ⟨e1, e2⟩ := hsame
    rw [State.setFrames_setFrames] at e1
    have h2 : (T.setVm s.vm).sameButNew ({ U with vm := s.vm } : State) [] (0 + 1) (0 + 6) := ⟨e1, e2⟩
    have h3 := X.same.trans h2
    rw [List.append_nil] at h3
    exact h3.mono hc hs
  refine ⟨U, ?_, .threw T.heap.size, hrun, hend, Or.inr ⟨T.heap.size, rfl, cls, ce, locs, hx U hWs.alike f1 (fun q hq => f2 q hq (fun z hz => nomatch hz)), hce, hO.vm, hcl, hWs, hall, hf⟩⟩
  refine st1 _ ?_
  show Steps p.tables e below (T1.setTop { method := m, pc := pc + 3, locals := ls, stack := .ref T.heap.size :: rest, locked := none }) _
  jvm_step X₁.here [X₁.here.top, hexec, d3', Value.category]
  exact X₁.ldcString hexec (own := own) (text := text) (index := is) (a := sa) hown' hstr'.1 hstr'.2
    (g := { method := m, pc := pc + 4, locals := ls, stack := .ref T.heap.size :: .ref T.heap.size :: rest, locked := none }) rfl d4' _ hsteps
/-- 'throw new E("text")', the text by a wide index -/
theorem vx_throwSW {cc : ByteArray} {pc : Nat} (hexec : p.tables.exec = Jvm.exec) (hb : c.code = cc) (hl : l.stackTraces = false) {own cls text : String} {names : List String} {ik is ic mc ms sa : Nat} {A : Nat → Prop}
    (hown : s.vm.findClass own = some m.cls) (hcls : Bundle.fit cls = true) (hnames : ∀ n ∈ names, Bundle.fit n = true)
    (hk : (Cond.classLink own ik cls).before args s = true) (hini : (Cond.initialized cls).before args s = true) (hstr : vk_R own is text sa s) (hat : ∀ w ∈ vx_atS own ic cls names, w.before args s = true)
    (hgood : ∀ w ∈ Cond.classLink own ik cls :: Cond.initialized cls :: vx_atS own ic cls names, vx_ot w = true)
    (hU : vx_Zq Bundle.tN "UNASSIGNED_STACK" Bundle.steD A s s.heap) (hN : vx_Zq Bundle.tN "SUPPRESSED_SENTINEL" Bundle.listD A s s.heap) (hS : va_S A s.heap H locs) (hsize : ls.size = c.maxLocals)
    (d0 : decode cc pc = .ok (.new ik, 3)) (d3 : decode cc (pc + 3) = .ok (.dup, 1)) (d4 : decode cc (pc + 4) = .ok (.ldc_w is, 3)) (d7 : decode cc (pc + 7) = .ok (.invokespecial ic, 3)) (d10 : decode cc (pc + 10) = .ok (.athrow, 1))
    (hout : ∀ x ∈ c.exceptionTable.toList, covers x (pc + 10) = false)
    (hRframes : names.length + 3 < R.frames) (hRlocals : (rest.map fun v => v.category).sum + (13 * (names.length + 1) + 43) ≤ R.locals) (hRcells : cells + 1 ≤ R.cells) (hRslots : slots + 6 ≤ R.slots) (hlocks : meth.locks = false)
    (hx : ∀ t : State, s.vm.Alike t.vm → H.size ≤ t.heap.size → (∀ q : Nat, q < H.size → t.heap[q]? = H[q]?) → XC cls s t)
    (hf : ∀ z ∈ locs, free z.base) (hc : cells + 1 ≤ mc) (hs : slots + 6 ≤ ms) :
    W p l e R s m args below meth c H locs cells slots (vx_MQ below Qc XC args s mc ms free) (F0 m pc ls rest) := by
  intro T hT X
  have htr : e.platform.stackTraces = false := (show e.platform.stackTraces = l.stackTraces by rw [X.admits.platform]).trans hl
  have Y := vx_rebase X (R' := { frames := R.frames, locals := R.locals, cells := 1, slots := 6 }) (Nat.le_refl _) (Nat.le_refl _) hRcells hRslots
  obtain ⟨s', hA⟩ : ∃ z, z = (T.setVm s.vm).setFrames (.invoking m args :: below) := ⟨_, rfl⟩
  rw [← hA] at Y
  have hvm : s'.vm = s.vm := by rw [hA]; rfl
  have hhp : s'.heap = H := by rw [hA]; exact hT
  have hW0 : s.WarmedH s'.vm := by rw [hvm]; exact State.WarmedH.refl s
  have hat' : ∀ w ∈ vx_atS own ic cls names, w.before args s' = true := fun w hw => vx_ot_at hW0 hvm.symm (hgood w (List.mem_cons_of_mem _ (List.mem_cons_of_mem _ hw))) (hat w hw)
  have hk' : (Cond.classLink own ik cls).before args s' = true := vx_ot_at hW0 hvm.symm (hgood _ List.mem_cons_self) hk
  have hini' : (Cond.initialized cls).before args s' = true := vx_ot_at hW0 hvm.symm (hgood _ (List.mem_cons_of_mem _ List.mem_cons_self)) hini
  have hU' : vx_Zq Bundle.tN "UNASSIGNED_STACK" Bundle.steD A s' s'.heap := by rw [hhp]; exact vx_Zq.moved hW0.alike (hU.kept hS.2.1)
  have hN' : vx_Zq Bundle.tN "SUPPRESSED_SENTINEL" Bundle.listD A s' s'.heap := by rw [hhp]; exact vx_Zq.moved hW0.alike (hN.kept hS.2.1)
  have h : ∀ w ∈ Bundle.ownAtoms own ic cls names, w.before args s' = true := vx_own hat' (vx_isRefq hU'.1) (vx_isRefq hN'.1) hU'.2.word hN'.2.word
  have hown' : s'.vm.findClass own = some m.cls := by rw [hvm]; exact hown
  have hins : (Cond.instantiable cls 6).before args s' = true := h _ (by simp [Bundle.ownAtoms])
  obtain ⟨vm₁, cX, kX, hfX, hkX, -, -, X₁, st1⟩ := Y.newCold hexec (own := own) (C := cls) (index := ik) (n := 6) hown' hk' hins hini'
    (g := F0 m pc ls rest) rfl (by rw [hb]; exact d0) (Nat.le_refl _) (Nat.le_refl _)
  generalize hT1 : (T.setVm vm₁).pushCell { cls := cX, slots := kX.instanceTypes.map defaultValue, vm := .none } = T1 at X₁ st1
  have hcat : (Value.ref T.heap.size).category = 1 := rfl
  have hcellA : T1.heap[T.heap.size]? = some (freshCell cX kX) := by rw [← hT1]; exact State.heap_pushCell_size _ _
  have d3' : decode c.code (pc + 3) = .ok (.dup, 1) := by rw [hb]; exact d3
  have d4' : decode c.code (pc + 4) = .ok (.ldc_w is, 3) := by rw [hb]; exact d4
  have hstr' : vk_R own is text sa s' := vk_R.warm hW0 hstr
  obtain ⟨U, hsteps, hrun, hend, hW, hsame, ce, hce, hO⟩ := X₁.ctorThrowS hexec htr (own := own) (cls := cls) (names := names) (ic := ic) hown' hcls hnames h (fun x hx => nomatch hx) hfX hkX hcellA (by rw [hhp, hT]; exact Nat.le_refl _) (msg := .ref sa) rfl
    (g := { method := m, pc := pc + 7, locals := ls, stack := .ref sa :: .ref T.heap.size :: .ref T.heap.size :: rest, locked := none }) rfl hsize rfl rfl (rest := rest) rfl
    (by rw [hb]; exact d7) (by rw [hb]; exact d10) hout hRframes (by simp only [List.map_cons, List.sum_cons, hcat]; omega) hlocks
  obtain ⟨f1, f2⟩ := vx_frame hsame
  rw [hhp] at f1 f2
  have hWs : s.WarmedH U.vm := State.WarmedH.trans hW0 hW
  have hcl : s.vm.findClass cls = some ce.cls := by
    have h9 := hO.cls
    rw [hvm] at h9
    exact h9
  have hall : s.sameButNew ({ U with vm := s.vm } : State) locs mc ms := by
    subst hA
    obtain ⟨e1, e2⟩ := hsame
    rw [State.setFrames_setFrames] at e1
    have h2 : (T.setVm s.vm).sameButNew ({ U with vm := s.vm } : State) [] (0 + 1) (0 + 6) := ⟨e1, e2⟩
    have h3 := X.same.trans h2
    rw [List.append_nil] at h3
    exact h3.mono hc hs
  refine ⟨U, ?_, .threw T.heap.size, hrun, hend, Or.inr ⟨T.heap.size, rfl, cls, ce, locs, hx U hWs.alike f1 (fun q hq => f2 q hq (fun z hz => nomatch hz)), hce, hO.vm, hcl, hWs, hall, hf⟩⟩
  refine st1 _ ?_
  show Steps p.tables e below (T1.setTop { method := m, pc := pc + 3, locals := ls, stack := .ref T.heap.size :: rest, locked := none }) _
  jvm_step X₁.here [X₁.here.top, hexec, d3', Value.category]
  exact X₁.ldcStringW hexec (own := own) (text := text) (index := is) (a := sa) hown' hstr'.1 hstr'.2
    (g := { method := m, pc := pc + 4, locals := ls, stack := .ref T.heap.size :: .ref T.heap.size :: rest, locked := none }) rfl d4' _ hsteps
end Ends
section Bodies
variable {l : Launch}
theorem vx_ofW {y : MethodName} {ws ws' : List Cond} {rm : Room} {Pc : Array Value → State → Prop} {Qc : Array Value → State → Outcome → State → Prop} {XC : String → State → State → Prop} {mc ms : Nat} {free : Addr → Prop} {cc : ByteArray} {maxL : Nat} {ret : Option FieldType}
    (hy : plainName y.cls = true) (hw : ws = Cond.code y cc maxL ret :: ws')
    (body : ∀ p e s m args below meth c s₁, BodyLoose p l y (headSpec ws rm) cc maxL ret e s m args below meth c s₁ → c.maxLocals = maxL → (∀ x ∈ c.exceptionTable.toList, False) → Pc args s →
      W p l e (headSpec ws rm).room s m args below meth c s.heap [] 0 0 (vx_MQ below Qc XC args s mc ms free) (entryFrame m args maxL)) : vx_Met l y ws rm Pc Qc XC mc ms free := by
  refine MetFree.of_bodyS (code := cc) (maxLocals := maxL) (ret := ret) hy ?_ ?_
  · intro args s m h hn
    obtain ⟨meth, c, h1, h2, h3, h4, h5, h6, -, -⟩ := Cond.code_spec hn (atoms_spec (ws := ws) h _ (by rw [hw]; exact List.mem_cons_self))
    exact ⟨meth, c, h1, h2, h3, h4, h5, h6⟩
  · intro p e s m args below meth c s₁ B hml hP _
    have hh0 : s₁.heap = s.heap := by rw [B.state]; rfl
    have ht : ∀ x ∈ c.exceptionTable.toList, False := by
      obtain ⟨meth9, c9, h1, h2, -, -, -, -, h7, -⟩ := Cond.code_spec B.named (atoms_spec (ws := ws) B.pre _ (by rw [hw]; exact List.mem_cons_self))
      cases Option.some.inj (h1.symm.trans B.method)
      cases Option.some.inj (h2.symm.trans (Stand.of_body B).code)
      intro x hx
      rw [Array.isEmpty_iff.mp h7] at hx
      cases hx
    obtain ⟨t, a1, o, b1, b2, b3⟩ := body p e s m args below meth c s₁ B hml ht hP s₁ hh0 (Stand.of_body B)
    exact ⟨t, o, a1, b1, b2, b3⟩
/-- the table of a body with handlers -/
theorem vx_table {p : Program} {x y : MethodName} {S : Spec} {cc bytes : ByteArray} {maxL maxL' : Nat} {ret ret' : Option FieldType} {e : Env} {s s₁ : State} {m : MethodId} {args : Array Value} {below : List Frame} {meth : Method} {c : Code} {hh : List (Nat × Nat × Nat × Nat)}
    (B : BodyLoose p l y S cc maxL ret e s m args below meth c s₁) (h : (Cond.codeWith y bytes maxL' ret' hh).before args s = true) : c.exceptionTable.toList = tableOf hh := by
  obtain ⟨m9, meth9, c9, hn9, h1, h2, -, -, h6, -⟩ := Cond.codeWith_spec h
  cases Option.some.inj (hn9.symm.trans B.named)
  cases Option.some.inj (h1.symm.trans B.method)
  cases Option.some.inj (h2.symm.trans (Stand.of_body B).code)
  rw [← h6, table_eq]
end Bodies
end VXA
/-! ===== END ===== -/
/-! ===== BEGIN a static call of a method with an exception table ===== -/
section VXS
variable {p : Program} {l : Launch} {e : Env} {R : Room} {s : State} {m : MethodId} {args : Array Value} {below : List Frame} {meth : Method} {c : Code} {T : State} {H : Heap} {locs : List Loc} {cells slots : Nat}
abbrev vx_CSW (R : Room) (s : State) (args : Array Value) (own : String) (index : Nat) (y : MethodName) (bytes : ByteArray) (maxL : Nat) (ret : Option FieldType) (hh : List (Nat × Nat × Nat × Nat)) (ws : List Cond) (rm : Room) (mc ms n : Nat) : Prop :=
  (rm.cells = mc ∧ rm.slots = ms ∧ rm.frames + 1 ≤ R.frames ∧ 8 + (maxL + 11) + rm.locals ≤ R.locals ∧ (∀ w ∈ ws, ∀ (a' : Array Value) (U : State), s.WarmedH U.vm → w.before a' U = true) ∧ Cond.codeWith y bytes maxL ret hh ∈ ws) ∧
  (Cond.codeWith y bytes maxL ret hh).before args s = true ∧ (Cond.initialized y.cls).before args s = true ∧ (y.cls ≠ "java/lang/invoke/MethodHandle" ∧ y.cls ≠ "java/lang/invoke/VarHandle") ∧
  (∀ sig, parseMethodDescriptor y.desc = some sig → n = sig.parameters.length) ∧ (Cond.methodLink own index y).before args s = true ∧ (Cond.static y).before args s = true
theorem vx_cwSW {own : String} {index maxL mc ms : Nat} {y : MethodName} {bytes : ByteArray} {ret : Option FieldType} {hh : List (Nat × Nat × Nat × Nat)} {Ts ws ws' : List Cond} {rm : Room} (n : Nat) (ht : ∀ w ∈ Ts, w.before args s = true) (hT : GoodIn Ts (va_wsS own index y ws)) (hw : ws = Cond.codeWith y bytes maxL ret hh :: ws') (hrc : rm.cells = mc) (hrs : rm.slots = ms)
    (hd : y.cls ≠ "java/lang/invoke/MethodHandle" ∧ y.cls ≠ "java/lang/invoke/VarHandle" ∧ (parseMethodDescriptor y.desc).map (fun d => d.parameters.length) = some n) (hR : rm.frames + 1 ≤ R.frames ∧ 8 + (maxL + 11) + rm.locals ≤ R.locals) :
    vx_CSW R s args own index y bytes maxL ret hh ws rm mc ms n := by
  have ok : ∀ w ∈ va_wsS own index y ws, w.before args s = true := fun w h => ht w (hT w h).1
  have hG : GoodIn Ts ws := fun w h => hT w (by unfold va_wsS; exact List.mem_append_right _ h)
  have hc : Cond.codeWith y bytes maxL ret hh ∈ ws := by rw [hw]; exact List.mem_cons_self
  refine ⟨⟨hrc, hrs, hR.1, hR.2, pay_in ht hG, hc⟩, ht _ (hG _ hc).1, ok _ (by simp [va_wsS]), ⟨hd.1, hd.2.1⟩, fun sig h => ?_, ok _ (by simp [va_wsS]), ok _ (by simp [va_wsS])⟩
  have h2 := hd.2.2
  rw [h] at h2
  exact (Option.some.inj h2).symm
theorem vx_callSW (X : Stand p l e R s m args below meth c T locs cells slots) (hexec : p.tables.exec = Jvm.exec) {own : String} {index : Nat} {y : MethodName} {bytes : ByteArray} {maxL : Nat} {ret : Option FieldType} {hh : List (Nat × Nat × Nat × Nat)}
    (hown : s.vm.findClass own = some m.cls) (hlink : (Cond.methodLink own index y).before args s = true) (hstat : (Cond.static y).before args s = true) (hinit : (Cond.initialized y.cls).before args s = true)
    (hcode : (Cond.codeWith y bytes maxL ret hh).before args s = true) (hy : y.cls ≠ "java/lang/invoke/MethodHandle" ∧ y.cls ≠ "java/lang/invoke/VarHandle")
    {W9 : Nat} {Pre : Pt → Array Value → Prop} {Post : Pt → Array Value → Option Value → Pt → Prop} (hK : Back l R p e below s args y 3 W9 Pre Post)
    {g : JFrame} (hg : g.method = m) (hsize : g.locals.size = c.maxLocals) {argsL rest : List Value} (hlen : ∀ sig, parseMethodDescriptor y.desc = some sig → argsL.length = sig.parameters.length)
    (hstack : g.stack = argsL.reverse ++ rest) (hW : 2 * g.monitorRoom + (rest.map fun v => v.category).sum ≤ W9) (hdg : decode c.code g.pc = .ok (.invokestatic index, 3))
    (hpre : ∀ vm₁, s.WarmedH vm₁ → Pre ⟨T.setVm vm₁, locs, cells, slots⟩ argsL.toArray) :
    ∃ (v : Option Value) (vm₁ : Vm) (B : Pt), s.WarmedH vm₁ ∧ Stand p l e R s m args below meth c B.U B.locs B.cells B.slots ∧ Post ⟨T.setVm vm₁, locs, cells, slots⟩ argsL.toArray v B ∧
      ∀ target, Steps p.tables e below (B.U.setTop { g with pc := g.pc + 3, stack := v.toList ++ rest }) target → Steps p.tables e below (T.setTop g) target := by
  obtain ⟨mk, methM, cM, hnamed, hmethM, -, -, -, -, -, -, hsigM⟩ := Cond.codeWith_spec hcode
  have hstatic : methM.isStatic = true := Cond.static_spec hnamed hmethM hstat
  obtain ⟨kP, hkP, -⟩ := className_of_methodNamed hnamed
  have hinitP : kP.init = .initialized := Cond.initialized_spec (findClass_of_methodNamed hnamed) hkP hinit
  obtain ⟨vm₁, X₁, hstep₁⟩ := X.invokestatic hexec hown hlink hnamed hmethM hstatic hkP hinitP hy (g := g) hg (argsL := argsL) (rest := rest) (hlen _ hsigM) hstack hdg
  obtain ⟨v, B, X', hpost, hsteps⟩ := hK m meth c ⟨T.setVm vm₁, locs, cells, slots⟩ { g with stack := rest } (.invokestatic index) mk argsL.toArray X₁ hg hsize hdg hW (X₁.named hnamed) (hpre vm₁ X₁.warmed)
  exact ⟨v, vm₁, B, X₁.warmed, X', hpost, fun target h => hstep₁ _ fun acts => by rw [doInvoke_state]; exact hsteps.trans h⟩
theorem vx_runSW {y : MethodName} {bytes cc : ByteArray} {maxL nL mc ms n index : Nat} {ret : Option FieldType} {hh : List (Nat × Nat × Nat × Nat)} {ws : List Cond} {rm : Room} {Pc : Array Value → State → Prop} {Qc : Array Value → State → Outcome → State → Prop} {free : Addr → Prop} {Ts : List Cond} {own : String} {As rest : List Value} {g : JFrame}
    (S : CallFix p m c cc nL s args Ts own) (hM : Met l y ws rm Pc Qc mc ms free) (cw : vx_CSW R s args own index y bytes maxL ret hh ws rm mc ms n) (hp : PreS s H Pc As)
    (hg : g.method = m) (hn : As.length = n) (hsize : g.locals.size = nL) (hstack : g.stack = As.reverse ++ rest) (hW : 2 * g.monitorRoom + (rest.map fun v => v.category).sum ≤ 8) (hdg : decode cc g.pc = .ok (.invokestatic index, 3)) (hf : cells + mc ≤ R.cells ∧ slots + ms ≤ R.slots) :
    va_Run p l e R s m args below meth c H locs cells slots mc ms g rest (Qc As.toArray) (free) := by
  obtain ⟨⟨hrc, hrs, hfr, hlo, hws, hcw⟩, hcode, hini, hy, hlen, hl, hstt⟩ := cw
  have hK : Back l R p e below s args y 3 8 (PreOf R mc ms Pc) (PostOf Qc mc ms free) := va_backW (hh := hh) (bytes := bytes) (maxL := maxL) (ret := ret) hM hp.1 hrc hrs hfr hlo hws hcw (fun a' U hW => word_at hW (Or.inl (by first | rfl | simp [Cond.onTables, Cond.keeps, Cond.steady])) hini)
  obtain ⟨hx, hb, hml, ho, -⟩ := S
  intro T hT X
  obtain ⟨v, vm₁, ⟨U', l2, c2, s2⟩, hW₁, X', ⟨g', mk, t, L, e1, e2, hq, h1, hL, h2, h3⟩, st⟩ := vx_callSW X hx (hh := hh) (bytes := bytes) (maxL := maxL) (ret := ret) ho hl hstt hini hcode hy hK hg (hsize.trans hml.symm) (argsL := As) (rest := rest) (fun sig h => hn.trans (hlen sig h)) hstack hW (by rw [hb]; exact hdg)
    (fun vm₁ hW₁ => ⟨hf.1, hf.2, hp.2 (T.setVm vm₁) hT hW₁⟩)
  dsimp only [Pt.U, Pt.locs, Pt.cells, Pt.slots] at X' e1 e2 h1 h2 h3 st
  subst h1; subst h2; subst h3
  exact ⟨v, (T.setVm vm₁).calling g' mk As.toArray, t, U', L, hT, X', hL, e1, e2, hq, st⟩
/-- not caught here, past rows that name other classes: it goes on to the caller -/
theorem vx_outP {p : Program} {l : Launch} {e : Env} {R : Room} {s : State} {m : MethodId} {args : Array Value} {below : List Frame} {meth : Method} {c : Code} {H : Heap} {locs : List Loc} {cells slots : Nat} {free : Addr → Prop} {ls : Array Slot} {rest : List Value} {Qc : Array Value → State → Outcome → State → Prop} {XC : String → State → State → Prop}
    {pc : Nat} {own E : String} {ce : Cell} {q : Addr} {mc ms : Nat} (hown : s.vm.findClass own = some m.cls) (hlocks : meth.locks = false)
    (hpass : ∀ z ∈ c.exceptionTable.toList, covers z pc = false ∨ (z.catchType ≠ 0 ∧ ∃ nm : String, (Cond.classLink own z.catchType nm).before args s = true ∧ va_Nc E nm s)) (hcell : H[q]? = some ce) (hv : ce.vm = .none) (hcl : s.vm.findClass E = some ce.cls)
    (hx : ∀ t : State, t.heap = H → s.vm.Alike t.vm → XC E s t) (hf : ∀ z ∈ locs, free z.base) (hc : cells ≤ mc) (hs : slots ≤ ms) :
    vx_W p l e R s m args below meth c H locs cells slots (vx_MQ below Qc XC args s mc ms free) (F0 m pc ls rest) q := by
  intro T hT X
  have hpl : e.platform.magicAccessors = ({} : Platform).magicAccessors := by rw [X.admits.platform]
  obtain ⟨vm', hW', X', st⟩ := X.outThrough hlocks q (g := F0 m pc ls rest) rfl rfl rfl (cell := ce) (by rw [hT]; exact hcell) (by rw [hv]; rfl)
    (by obtain ⟨k9, h9, -⟩ := Vm.findClass_spec hcl; exact ⟨k9, h9⟩) (fun z hz => by
      rcases hpass z hz with h | ⟨hz0, nm, hl1, hn1⟩
      · exact Or.inl h
      · obtain ⟨c6, hc6, hcl6⟩ := Cond.classLink_spec hown hl1 e.platform hpl
        obtain ⟨a8, b8, h1, h2, h3⟩ := hn1
        cases Option.some.inj (h1.symm.trans hcl)
        cases Option.some.inj (h2.symm.trans hc6)
        exact Or.inr ⟨hz0, _, hcl6, h3⟩)
  obtain ⟨g₀, hfr⟩ := X'.frames_eq
  have hcell9 : ((T.setVm vm').setFrames (.throwing q :: below)).heap[q]? = some ce := by
    show T.heap[q]? = some ce
    rw [hT]; exact hcell
  have hend : Ended ((T.setVm vm').setFrames (.throwing q :: below)) below (.threw q) := State.frames_setFrames _ (State.cur_lt_of_frames hfr)
  refine ⟨(T.setVm vm').setFrames (.throwing q :: below), ?_, .threw q, X'.here.running, hend, Or.inr ⟨q, rfl, E, ce, locs, hx _ hT (X'.ends _).1.alike, hcell9, hv, hcl, (X'.ends _).1, (X'.ends _).2.mono hc hs, hf⟩⟩
  rw [X.pushThrowing_eq]
  exact st
/-- a thing of a world lies in the heap -/
theorem vx_lt {D : va_G} {cl : List vw_C} {ws : va_W} {H1 : Heap} (h : va_P D cl ws H1) {k : Nat} {q : Nat × va_E} (hk : ws[k]? = some q) : q.1 < H1.size := (h k q hk).lt
end VXS
/-! ===== END ===== -/
/-! ===== BEGIN methods with a table of their own: called by a name, returning or throwing ===== -/
section VXH
/-! vx_backW, vx_callVX, vx_callSX, vx_callVW, vx_runVW, vx_runVX, vx_runSX, vx_ofWH follow the same proofs as their sisters above (Free/Laws.lean, Shelf42/LK1.lean); vx_outP calls Shelf42/NT130.lean (outThrough). -/
section
variable {l : Launch} {R : Room} {p : Program} {e : Env} {below : List Frame} {s : State} {sargs : Array Value} {y : MethodName} {len W9 : Nat}
theorem vx_backW {ws : List Cond} {rm : Room} {Pc : Array Value → State → Prop} {Qc : Array Value → State → Outcome → State → Prop} {XC : String → State → State → Prop} {mc ms : Nat} {free : Addr → Prop} {bytes : ByteArray} {maxL : Nat} {ret : Option FieldType} {hh : List (Nat × Nat × Nat × Nat)}
    (hM : vx_Met l y ws rm Pc Qc XC mc ms free) (hblind : FrameBlind Pc) (hrc : rm.cells = mc) (hrs : rm.slots = ms)
    (hframes : rm.frames + 1 ≤ R.frames) (hlocals : W9 + (maxL + 11) + rm.locals ≤ R.locals)
    (hws : ∀ w ∈ ws, ∀ a' U, s.WarmedH U.vm → w.before a' U = true) (hcode : Cond.codeWith y bytes maxL ret hh ∈ ws) (hinit : ∀ a' U, s.WarmedH U.vm → (Cond.initialized y.cls).before a' U = true) :
    vx_Back l R p e below s sargs y len W9 (PreOf R mc ms Pc) (PostOf Qc mc ms free) (vx_Post XC mc ms free) := by
  intro m meth c A g ig mk a X hg hsize hdg hW hn hp
  have h1 : (headSpec ws rm).pre.before a A.U = true := atoms_intro fun w hw => hws w hw _ _ X.warmed
  have h2 : (Cond.codeWith y bytes maxL ret hh).before a A.U = true := hws _ hcode _ _ X.warmed
  have h3 : (Cond.initialized y.cls).before a A.U = true := hinit _ _ X.warmed
  have h4 : A.cells + (headSpec ws rm).room.cells ≤ R.cells := by rw [show (headSpec ws rm).room.cells = mc from hrc]; exact hp.1
  have h5 : A.slots + (headSpec ws rm).room.slots ≤ R.slots := by rw [show (headSpec ws rm).room.slots = ms from hrs]; exact hp.2.1
  have hPc : Pc a (A.U.calling g mk a) := hblind _ _ _ _ hp.2.2
  obtain ⟨U, Ls, c0, s0⟩ := A
  dsimp only [Pt.U, Pt.locs, Pt.cells, Pt.slots] at h1 h2 h3 h4 h5 X hn hPc ⊢
  obtain ⟨m9, methY, cY, hn9, hmY, hcY, -, hlY, -⟩ := Cond.codeWith_spec h2
  cases Option.some.inj (hn9.symm.trans hn)
  obtain ⟨kY, hkY, -⟩ := className_of_methodNamed hn
  have hinitY : kY.init = .initialized := Cond.initialized_spec (findClass_of_methodNamed hn) hkY h3
  have h : At U g.method c below := by rw [hg]; exact X.here
  have hlocals9 : W9 + (maxL + 11) + (headSpec ws rm).room.locals ≤ R.locals := hlocals
  have happ : (headSpec ws rm).appliesLoose y e.platform (U.calling g mk a) = true :=
    Spec.appliesLoose_calling (g := g) h hdg hn hkY hinitY
      (X.room_calling (g := g) (R' := (headSpec ws rm).room) hsize hmY hcY hframes (by rw [hlY]; omega) h4 h5) h1
  obtain ⟨mid, hmid⟩ := h.above
  have hfr : (U.setTop g).frames = (.java g :: mid) ++ below := by rw [State.frames_setTop' g h.top, hmid]; rfl
  obtain ⟨o, s₂, hsteps, -, hend, hq⟩ := Steps.callFree hM p X.admits X.cas X.clock (acts := []) hfr happ hPc trivial
  have hq' : vx_Q Qc XC mc ms free a (U.calling g mk a) o s₂ := hq
  rw [State.frames_setTop' g h.top] at hend
  obtain ⟨g₀, hg0⟩ := Option.isSome_iff_exists.mp h.top
  obtain ⟨r, hr⟩ := State.topJava?_eq_some.mp hg0
  have hr' : (({ U with heap := s₂.heap, slotsUsed := s₂.slotsUsed } : State).setVm s₂.vm).frames = .java g₀ :: r := hr
  rcases hq' with ⟨hqc, L, hfe, hL⟩ | ⟨q, rfl, E, ce, L, hx, hce, hcv, hcl, hW₂, hsm, hL⟩
  · obtain ⟨⟨v, rfl⟩, hW₂, e2, q2, q3, q4, q5, q6⟩ := id hfe
    have e3 : s₂ = ({ (U.calling g mk a).setFrames s₂.frames with heap := s₂.heap, slotsUsed := s₂.slotsUsed } : State).setVm s₂.vm := by
      have : s₂ = ({ s₂ with vm := (U.calling g mk a).vm } : State).setVm s₂.vm := rfl
      rw [e2] at this
      exact this
    obtain ⟨c₂, i₂, len₂, hc₂, hd₂, hf₂⟩ := hend
    have hW' : U.WarmedH s₂.vm := hW₂
    have hcc : c₂ = c := by
      have h1 : s₂.code? g.method = U.code? g.method := by
        rw [State.code?_eq, State.code?_eq, hW'.alike.method?]
      exact Option.some.inj (hc₂.symm.trans (h1.trans h.code))
    subst hcc
    have hlen : len₂ = len := by rw [hdg] at hd₂; cases hd₂; rfl
    subst hlen
    have hs₂ : s₂ = (({ U with heap := s₂.heap, slotsUsed := s₂.slotsUsed } : State).setVm s₂.vm).setTop { g with pc := g.pc + len₂, stack := v.toList ++ g.stack } := by
      refine e3.trans ?_
      rw [hf₂, State.calling_eq h.top, State.setFrames_setFrames, State.setTop_of_frames _ hr', hr]
      rfl
    have hsame : U.sameButNew ({ U with heap := s₂.heap, slotsUsed := s₂.slotsUsed } : State) L mc ms := by
      refine ⟨?_, q2, q3, q4, q5, q6⟩
      obtain ⟨t, ht, -⟩ := State.frames_cons hr
      show ({ U with heap := s₂.heap, slotsUsed := s₂.slotsUsed } : State) = { U.setFrames U.frames with heap := s₂.heap, slotsUsed := s₂.slotsUsed }
      rw [State.setFrames_self ht]
    subst hg
    refine Or.inl ⟨v, ⟨(({ U with heap := s₂.heap, slotsUsed := s₂.slotsUsed } : State).setVm s₂.vm), Ls ++ L, c0 + mc, s0 + ms⟩,
      ⟨X.admits, X.cas, X.clock, X.frames, X.room, X.hears, X.method, X.code, (X.here.setHeapUsed s₂.heap s₂.slotsUsed).setVm hW'.alike, X.tail, State.WarmedH.trans X.warmed hW', X.limits, X.bytes, X.same.trans (hsame.setVm s.vm)⟩,
      ⟨g, mk, s₂, L, rfl, rfl, hqc, rfl, hL, rfl, rfl⟩, ?_⟩
    show Steps p.tables e below _ ((({ U with heap := s₂.heap, slotsUsed := s₂.slotsUsed } : State).setVm s₂.vm).setTop { g with pc := g.pc + len₂, stack := v.toList ++ g.stack })
    rw [← hs₂]
    exact hsteps
  · obtain ⟨e2, q2, q3, q4, q5, q6⟩ := id hsm
    have e3 : s₂ = ({ (U.calling g mk a).setFrames s₂.frames with heap := s₂.heap, slotsUsed := s₂.slotsUsed } : State).setVm s₂.vm := by
      have : s₂ = ({ s₂ with vm := (U.calling g mk a).vm } : State).setVm s₂.vm := rfl
      rw [e2] at this
      exact this
    have hf₂ : s₂.frames = .throwing q :: .java g :: U.frames.tail := hend
    have hW' : U.WarmedH s₂.vm := hW₂
    have hs₂ : s₂ = ((({ U with heap := s₂.heap, slotsUsed := s₂.slotsUsed } : State).setVm s₂.vm).setTop g).pushFrame (.throwing q) := by
      refine e3.trans ?_
      rw [hf₂, State.calling_eq h.top, State.setFrames_setFrames, State.pushFrame, State.frames_setTop _ hr', State.setTop_of_frames _ hr', State.setFrames_setFrames, hr]
      rfl
    have hsame : U.sameButNew ({ U with heap := s₂.heap, slotsUsed := s₂.slotsUsed } : State) L mc ms := by
      refine ⟨?_, q2, q3, q4, q5, q6⟩
      obtain ⟨t, ht, -⟩ := State.frames_cons hr
      show ({ U with heap := s₂.heap, slotsUsed := s₂.slotsUsed } : State) = { U.setFrames U.frames with heap := s₂.heap, slotsUsed := s₂.slotsUsed }
      rw [State.setFrames_self ht]
    subst hg
    refine Or.inr ⟨q, ⟨(({ U with heap := s₂.heap, slotsUsed := s₂.slotsUsed } : State).setVm s₂.vm), Ls ++ L, c0 + mc, s0 + ms⟩,
      ⟨X.admits, X.cas, X.clock, X.frames, X.room, X.hears, X.method, X.code, (X.here.setHeapUsed s₂.heap s₂.slotsUsed).setVm hW'.alike, X.tail, State.WarmedH.trans X.warmed hW', X.limits, X.bytes, X.same.trans (hsame.setVm s.vm)⟩,
      ⟨g, mk, s₂, L, E, ce, rfl, rfl, hx, hce, hcv, hcl, rfl, hL, rfl, rfl⟩, ?_⟩
    show Steps p.tables e below _ (((({ U with heap := s₂.heap, slotsUsed := s₂.slotsUsed } : State).setVm s₂.vm).setTop g).pushFrame (.throwing q))
    rw [← hs₂]
    exact hsteps
end
variable {p : Program} {l : Launch} {e : Env} {R : Room} {s : State} {m : MethodId} {args : Array Value} {below : List Frame} {meth : Method} {c : Code} {T : State} {H : Heap} {locs : List Loc} {cells slots : Nat}
theorem vx_callVX (X : Stand p l e R s m args below meth c T locs cells slots) (hexec : p.tables.exec = Jvm.exec) {own C : String} {index : Nat} {y : MethodName} {bytes : ByteArray} {maxL : Nat} {ret : Option FieldType} {hh : List (Nat × Nat × Nat × Nat)}
    (hown : s.vm.findClass own = some m.cls) (hlink : (Cond.methodLink own index y).before args s = true) (hinst : (Cond.instanceMethod y).before args s = true) (hsel : (Cond.selects C y y).before args s = true)
    (hcode : (Cond.codeWith y bytes maxL ret hh).before args s = true) (hy : y.cls ≠ "java/lang/invoke/MethodHandle" ∧ y.cls ≠ "java/lang/invoke/VarHandle")
    {W9 : Nat} {Pre : Pt → Array Value → Prop} {Post : Pt → Array Value → Option Value → Pt → Prop} {PostX : Pt → Array Value → Addr → Pt → Prop} (hK : vx_Back l R p e below s args y 3 W9 Pre Post PostX)
    {b : Addr} {cellB : Cell} (hcell : T.heap[b]? = some cellB) (hobj : cellB.vm.isStatics = false) (hcls : s.vm.findClass C = some cellB.cls)
    {g : JFrame} (hg : g.method = m) (hsize : g.locals.size = c.maxLocals) {argsL rest : List Value} (hlen : ∀ sig, parseMethodDescriptor y.desc = some sig → argsL.length = sig.parameters.length)
    (hstack : g.stack = argsL.reverse ++ .ref b :: rest) (hW : 2 * g.monitorRoom + (rest.map fun v => v.category).sum ≤ W9) (hdg : decode c.code g.pc = .ok (.invokevirtual index, 3))
    (hpre : ∀ vm₁, s.WarmedH vm₁ → Pre ⟨T.setVm vm₁, locs, cells, slots⟩ (Value.ref b :: argsL).toArray) :
    (∃ (v : Option Value) (vm₁ : Vm) (B : Pt), s.WarmedH vm₁ ∧ Stand p l e R s m args below meth c B.U B.locs B.cells B.slots ∧ Post ⟨T.setVm vm₁, locs, cells, slots⟩ (Value.ref b :: argsL).toArray v B ∧
      ∀ target, Steps p.tables e below (B.U.setTop { g with pc := g.pc + 3, stack := v.toList ++ rest }) target → Steps p.tables e below (T.setTop g) target) ∨
    (∃ (q : Addr) (vm₁ : Vm) (B : Pt), s.WarmedH vm₁ ∧ Stand p l e R s m args below meth c B.U B.locs B.cells B.slots ∧ PostX ⟨T.setVm vm₁, locs, cells, slots⟩ (Value.ref b :: argsL).toArray q B ∧
      Steps p.tables e below (T.setTop g) ((B.U.setTop { g with stack := rest }).pushFrame (.throwing q))) := by
  obtain ⟨mk, methM, hnamed, hmethM, hstM, habM⟩ := Cond.instanceMethod_spec hinst
  obtain ⟨m8, methM', cM, hn8, hmethM', -, -, -, -, -, -, hsigM⟩ := Cond.codeWith_spec hcode
  cases Option.some.inj (hn8.symm.trans hnamed)
  cases hmethM.symm.trans hmethM'
  obtain ⟨c2, r2, m2, q1, q2, q3, q4, kP, hkP, hkPi⟩ := Cond.selects_spec hsel
  cases hcls.symm.trans q1
  cases (State.methodFound?_of_named hnamed hy).symm.trans q2
  cases hnamed.symm.trans q3
  have hselP : selectMethod e.platform s.vm cellB.cls mk = .method mk := by rw [Launch.admits_selectMethod X.admits]; exact q4
  obtain ⟨vm₁, X₁, hstep₁⟩ := X.invokevirtual hexec hown hlink hnamed hmethM hstM hkP hkPi hy (a := b) (cell := cellB) hcell
    (fun z h => by rw [h] at hobj; cases hobj) hselP hmethM habM hkP hkPi (g := g) hg (argsL := argsL) (rest := rest) (hlen _ hsigM) hstack hdg
  rcases hK m meth c ⟨T.setVm vm₁, locs, cells, slots⟩ { g with stack := rest } (.invokevirtual index) mk (Value.ref b :: argsL).toArray X₁ hg hsize hdg hW (X₁.named hnamed) (hpre vm₁ X₁.warmed) with ⟨v, B, X', hpost, hsteps⟩ | ⟨q, B, X', hpost, hsteps⟩
  · exact Or.inl ⟨v, vm₁, B, X₁.warmed, X', hpost, fun target h => hstep₁ _ fun acts => by rw [doInvoke_state]; exact hsteps.trans h⟩
  · exact Or.inr ⟨q, vm₁, B, X₁.warmed, X', hpost, hstep₁ _ fun acts => by rw [doInvoke_state]; exact hsteps⟩
theorem vx_callSX (X : Stand p l e R s m args below meth c T locs cells slots) (hexec : p.tables.exec = Jvm.exec) {own : String} {index : Nat} {y : MethodName} {bytes : ByteArray} {maxL : Nat} {ret : Option FieldType} {hh : List (Nat × Nat × Nat × Nat)}
    (hown : s.vm.findClass own = some m.cls) (hlink : (Cond.methodLink own index y).before args s = true) (hstat : (Cond.static y).before args s = true) (hinit : (Cond.initialized y.cls).before args s = true)
    (hcode : (Cond.codeWith y bytes maxL ret hh).before args s = true) (hy : y.cls ≠ "java/lang/invoke/MethodHandle" ∧ y.cls ≠ "java/lang/invoke/VarHandle")
    {W9 : Nat} {Pre : Pt → Array Value → Prop} {Post : Pt → Array Value → Option Value → Pt → Prop} {PostX : Pt → Array Value → Addr → Pt → Prop} (hK : vx_Back l R p e below s args y 3 W9 Pre Post PostX)
    {g : JFrame} (hg : g.method = m) (hsize : g.locals.size = c.maxLocals) {argsL rest : List Value} (hlen : ∀ sig, parseMethodDescriptor y.desc = some sig → argsL.length = sig.parameters.length)
    (hstack : g.stack = argsL.reverse ++ rest) (hW : 2 * g.monitorRoom + (rest.map fun v => v.category).sum ≤ W9) (hdg : decode c.code g.pc = .ok (.invokestatic index, 3))
    (hpre : ∀ vm₁, s.WarmedH vm₁ → Pre ⟨T.setVm vm₁, locs, cells, slots⟩ argsL.toArray) :
    (∃ (v : Option Value) (vm₁ : Vm) (B : Pt), s.WarmedH vm₁ ∧ Stand p l e R s m args below meth c B.U B.locs B.cells B.slots ∧ Post ⟨T.setVm vm₁, locs, cells, slots⟩ argsL.toArray v B ∧
      ∀ target, Steps p.tables e below (B.U.setTop { g with pc := g.pc + 3, stack := v.toList ++ rest }) target → Steps p.tables e below (T.setTop g) target) ∨
    (∃ (q : Addr) (vm₁ : Vm) (B : Pt), s.WarmedH vm₁ ∧ Stand p l e R s m args below meth c B.U B.locs B.cells B.slots ∧ PostX ⟨T.setVm vm₁, locs, cells, slots⟩ argsL.toArray q B ∧
      Steps p.tables e below (T.setTop g) ((B.U.setTop { g with stack := rest }).pushFrame (.throwing q))) := by
  obtain ⟨mk, methM, cM, hnamed, hmethM, -, -, -, -, -, -, hsigM⟩ := Cond.codeWith_spec hcode
  have hstatic : methM.isStatic = true := Cond.static_spec hnamed hmethM hstat
  obtain ⟨kP, hkP, -⟩ := className_of_methodNamed hnamed
  have hinitP : kP.init = .initialized := Cond.initialized_spec (findClass_of_methodNamed hnamed) hkP hinit
  obtain ⟨vm₁, X₁, hstep₁⟩ := X.invokestatic hexec hown hlink hnamed hmethM hstatic hkP hinitP hy (g := g) hg (argsL := argsL) (rest := rest) (hlen _ hsigM) hstack hdg
  rcases hK m meth c ⟨T.setVm vm₁, locs, cells, slots⟩ { g with stack := rest } (.invokestatic index) mk argsL.toArray X₁ hg hsize hdg hW (X₁.named hnamed) (hpre vm₁ X₁.warmed) with ⟨v, B, X', hpost, hsteps⟩ | ⟨q, B, X', hpost, hsteps⟩
  · exact Or.inl ⟨v, vm₁, B, X₁.warmed, X', hpost, fun target h => hstep₁ _ fun acts => by rw [doInvoke_state]; exact hsteps.trans h⟩
  · exact Or.inr ⟨q, vm₁, B, X₁.warmed, X', hpost, hstep₁ _ fun acts => by rw [doInvoke_state]; exact hsteps⟩
theorem vx_callVW (X : Stand p l e R s m args below meth c T locs cells slots) (hexec : p.tables.exec = Jvm.exec) {own C : String} {index : Nat} {y : MethodName} {bytes : ByteArray} {maxL : Nat} {ret : Option FieldType} {hh : List (Nat × Nat × Nat × Nat)}
    (hown : s.vm.findClass own = some m.cls) (hlink : (Cond.methodLink own index y).before args s = true) (hinst : (Cond.instanceMethod y).before args s = true) (hsel : (Cond.selects C y y).before args s = true)
    (hcode : (Cond.codeWith y bytes maxL ret hh).before args s = true) (hy : y.cls ≠ "java/lang/invoke/MethodHandle" ∧ y.cls ≠ "java/lang/invoke/VarHandle")
    {W9 : Nat} {Pre : Pt → Array Value → Prop} {Post : Pt → Array Value → Option Value → Pt → Prop} (hK : Back l R p e below s args y 3 W9 Pre Post)
    {b : Addr} {cellB : Cell} (hcell : T.heap[b]? = some cellB) (hobj : cellB.vm.isStatics = false) (hcls : s.vm.findClass C = some cellB.cls)
    {g : JFrame} (hg : g.method = m) (hsize : g.locals.size = c.maxLocals) {argsL rest : List Value} (hlen : ∀ sig, parseMethodDescriptor y.desc = some sig → argsL.length = sig.parameters.length)
    (hstack : g.stack = argsL.reverse ++ .ref b :: rest) (hW : 2 * g.monitorRoom + (rest.map fun v => v.category).sum ≤ W9) (hdg : decode c.code g.pc = .ok (.invokevirtual index, 3))
    (hpre : ∀ vm₁, s.WarmedH vm₁ → Pre ⟨T.setVm vm₁, locs, cells, slots⟩ (Value.ref b :: argsL).toArray) :
    ∃ (v : Option Value) (vm₁ : Vm) (B : Pt), s.WarmedH vm₁ ∧ Stand p l e R s m args below meth c B.U B.locs B.cells B.slots ∧ Post ⟨T.setVm vm₁, locs, cells, slots⟩ (Value.ref b :: argsL).toArray v B ∧
      ∀ target, Steps p.tables e below (B.U.setTop { g with pc := g.pc + 3, stack := v.toList ++ rest }) target → Steps p.tables e below (T.setTop g) target := by
  obtain ⟨mk, methM, hnamed, hmethM, hstM, habM⟩ := Cond.instanceMethod_spec hinst
  obtain ⟨m8, methM', cM, hn8, hmethM', -, -, -, -, -, -, hsigM⟩ := Cond.codeWith_spec hcode
  cases Option.some.inj (hn8.symm.trans hnamed)
  cases hmethM.symm.trans hmethM'
  obtain ⟨c2, r2, m2, q1, q2, q3, q4, kP, hkP, hkPi⟩ := Cond.selects_spec hsel
  cases hcls.symm.trans q1
  cases (State.methodFound?_of_named hnamed hy).symm.trans q2
  cases hnamed.symm.trans q3
  have hselP : selectMethod e.platform s.vm cellB.cls mk = .method mk := by rw [Launch.admits_selectMethod X.admits]; exact q4
  obtain ⟨vm₁, X₁, hstep₁⟩ := X.invokevirtual hexec hown hlink hnamed hmethM hstM hkP hkPi hy (a := b) (cell := cellB) hcell
    (fun z h => by rw [h] at hobj; cases hobj) hselP hmethM habM hkP hkPi (g := g) hg (argsL := argsL) (rest := rest) (hlen _ hsigM) hstack hdg
  obtain ⟨v, B, X', hpost, hsteps⟩ := hK m meth c ⟨T.setVm vm₁, locs, cells, slots⟩ { g with stack := rest } (.invokevirtual index) mk (Value.ref b :: argsL).toArray X₁ hg hsize hdg hW (X₁.named hnamed) (hpre vm₁ X₁.warmed)
  exact ⟨v, vm₁, B, X₁.warmed, X', hpost, fun target h => hstep₁ _ fun acts => by rw [doInvoke_state]; exact hsteps.trans h⟩
abbrev vx_CVW (R : Room) (s : State) (args : Array Value) (own C : String) (index : Nat) (y : MethodName) (bytes : ByteArray) (maxL : Nat) (ret : Option FieldType) (hh : List (Nat × Nat × Nat × Nat)) (ws : List Cond) (rm : Room) (mc ms n : Nat) : Prop :=
  (rm.cells = mc ∧ rm.slots = ms ∧ rm.frames + 1 ≤ R.frames ∧ 8 + (maxL + 11) + rm.locals ≤ R.locals ∧ (∀ w ∈ ws, ∀ (a' : Array Value) (U : State), s.WarmedH U.vm → w.before a' U = true) ∧ Cond.codeWith y bytes maxL ret hh ∈ ws) ∧
  (Cond.codeWith y bytes maxL ret hh).before args s = true ∧ (Cond.initialized y.cls).before args s = true ∧ (y.cls ≠ "java/lang/invoke/MethodHandle" ∧ y.cls ≠ "java/lang/invoke/VarHandle") ∧
  (∀ sig, parseMethodDescriptor y.desc = some sig → n = sig.parameters.length) ∧ (Cond.methodLink own index y).before args s = true ∧ (Cond.instanceMethod y).before args s = true ∧ (Cond.selects C y y).before args s = true
theorem vx_cwVW {own C : String} {index maxL mc ms : Nat} {y : MethodName} {bytes : ByteArray} {ret : Option FieldType} {hh : List (Nat × Nat × Nat × Nat)} {Ts ws ws' : List Cond} {rm : Room} (n : Nat) (ht : ∀ w ∈ Ts, w.before args s = true) (hT : GoodIn Ts (wsV own index C y ws)) (hw : ws = Cond.codeWith y bytes maxL ret hh :: ws') (hrc : rm.cells = mc) (hrs : rm.slots = ms)
    (hd : y.cls = C ∧ y.cls ≠ "java/lang/invoke/MethodHandle" ∧ y.cls ≠ "java/lang/invoke/VarHandle" ∧ (parseMethodDescriptor y.desc).map (fun d => d.parameters.length) = some n) (hR : rm.frames + 1 ≤ R.frames ∧ 8 + (maxL + 11) + rm.locals ≤ R.locals) :
    vx_CVW R s args own C index y bytes maxL ret hh ws rm mc ms n := by
  obtain ⟨hC, hd⟩ := hd
  subst hC
  have ok : ∀ w ∈ wsV own index y.cls y ws, w.before args s = true := fun w h => ht w (hT w h).1
  have hG : GoodIn Ts ws := fun w h => hT w (by unfold wsV; exact List.mem_append_right _ h)
  have hc : Cond.codeWith y bytes maxL ret hh ∈ ws := by rw [hw]; exact List.mem_cons_self
  refine ⟨⟨hrc, hrs, hR.1, hR.2, pay_in ht hG, hc⟩, ht _ (hG _ hc).1, ok _ (by simp [wsV]), ⟨hd.1, hd.2.1⟩, fun sig h => ?_, ok _ (by simp [wsV]), ok _ (by simp [wsV]), ok _ (by simp [wsV])⟩
  have h2 := hd.2.2
  rw [h] at h2
  exact (Option.some.inj h2).symm
theorem vx_runVW {y : MethodName} {bytes cc : ByteArray} {maxL nL mc ms n index : Nat} {ret : Option FieldType} {hh : List (Nat × Nat × Nat × Nat)} {ws : List Cond} {rm : Room} {Pc : Array Value → State → Prop} {Qc : Array Value → State → Outcome → State → Prop} {free : Addr → Prop} {Ts : List Cond} {own C : String} {b : Addr} {As rest : List Value} {g : JFrame}
    (S : CallFix p m c cc nL s args Ts own) (hM : Met l y ws rm Pc Qc mc ms free) (cw : vx_CVW R s args own C index y bytes maxL ret hh ws rm mc ms n) (hp : PreV s H C b Pc As)
    (hg : g.method = m) (hn : As.length = n) (hsize : g.locals.size = nL) (hstack : g.stack = As.reverse ++ .ref b :: rest) (hW : 2 * g.monitorRoom + (rest.map fun v => v.category).sum ≤ 8) (hdg : decode cc g.pc = .ok (.invokevirtual index, 3)) (hf : cells + mc ≤ R.cells ∧ slots + ms ≤ R.slots) :
    va_Run p l e R s m args below meth c H locs cells slots mc ms g rest (Qc (Value.ref b :: As).toArray) free := by
  obtain ⟨⟨hrc, hrs, hfr, hlo, hws, hcw⟩, hcode, hini, hy, hlen, hl, hin, hse⟩ := cw
  have hK : Back l R p e below s args y 3 8 (PreOf R mc ms Pc) (PostOf Qc mc ms free) := va_backW (hh := hh) (bytes := bytes) (maxL := maxL) (ret := ret) hM hp.1 hrc hrs hfr hlo hws hcw (fun a' U hW => word_at hW (Or.inl (by first | rfl | simp [Cond.onTables, Cond.keeps, Cond.steady])) hini)
  obtain ⟨hx, hb, hml, ho, -⟩ := S
  obtain ⟨-, ⟨cellB, hcB, hoB, hclB⟩, hPc⟩ := hp
  intro T hT X
  obtain ⟨v, vm₁, ⟨U', l2, c2, s2⟩, hW₁, X', ⟨g', mk, t, L, e1, e2, hq, h1, hL, h2, h3⟩, st⟩ := vx_callVW X hx (C := C) (hh := hh) (bytes := bytes) (maxL := maxL) (ret := ret) ho hl hin hse hcode hy hK (by rw [hT]; exact hcB) hoB hclB hg (hsize.trans hml.symm) (argsL := As) (rest := rest) (fun sig h => hn.trans (hlen sig h)) hstack hW (by rw [hb]; exact hdg)
    (fun vm₁ hW₁ => ⟨hf.1, hf.2, hPc (T.setVm vm₁) hT hW₁⟩)
  dsimp only [Pt.U, Pt.locs, Pt.cells, Pt.slots] at X' e1 e2 h1 h2 h3 st
  subst h1; subst h2; subst h3
  exact ⟨v, (T.setVm vm₁).calling g' mk (Value.ref b :: As).toArray, t, U', L, hT, X', hL, e1, e2, hq, st⟩
section
variable {y : MethodName} {bytes cc : ByteArray} {maxL nL mc ms n index : Nat} {ret : Option FieldType} {ws : List Cond} {rm : Room} {Pc : Array Value → State → Prop} {Qc : Array Value → State → Outcome → State → Prop} {XC : String → State → State → Prop} {free : Addr → Prop} {Ts : List Cond} {own C : String} {b : Addr} {As rest : List Value} {g : JFrame}
theorem vx_runVX {hh : List (Nat × Nat × Nat × Nat)} (S : CallFix p m c cc nL s args Ts own) (hM : vx_Met l y ws rm Pc Qc XC mc ms free) (cw : vx_CVW R s args own C index y bytes maxL ret hh ws rm mc ms n) (hp : PreV s H C b Pc As)
    (hg : g.method = m) (hn : As.length = n) (hsize : g.locals.size = nL) (hstack : g.stack = As.reverse ++ .ref b :: rest) (hW : 2 * g.monitorRoom + (rest.map fun v => v.category).sum ≤ 8) (hdg : decode cc g.pc = .ok (.invokevirtual index, 3)) (hf : cells + mc ≤ R.cells ∧ slots + ms ≤ R.slots) :
    vx_Run p l e R s m args below meth c H locs cells slots mc ms g rest (Qc (Value.ref b :: As).toArray) XC free := by
  obtain ⟨⟨hrc, hrs, hfr, hlo, hws, hcw⟩, hcode, hini, hy, hlen, hl, hin, hse⟩ := cw
  have hK : vx_Back l R p e below s args y 3 8 (PreOf R mc ms Pc) (PostOf Qc mc ms free) (vx_Post XC mc ms free) := vx_backW (hh := hh) (bytes := bytes) (maxL := maxL) (ret := ret) hM hp.1 hrc hrs hfr hlo hws hcw (fun a' U hW => word_at hW (Or.inl (by first | rfl | simp [Cond.onTables, Cond.keeps, Cond.steady])) hini)
  obtain ⟨hx, hb, hml, ho, -⟩ := S
  obtain ⟨-, ⟨cellB, hcB, hoB, hclB⟩, hPc⟩ := hp
  intro T hT X
  rcases vx_callVX X hx (C := C) (hh := hh) (bytes := bytes) (maxL := maxL) (ret := ret) ho hl hin hse hcode hy hK (by rw [hT]; exact hcB) hoB hclB hg (hsize.trans hml.symm) (argsL := As) (rest := rest) (fun sig h => hn.trans (hlen sig h)) hstack hW (by rw [hb]; exact hdg)
    (fun vm₁ hW₁ => ⟨hf.1, hf.2, hPc (T.setVm vm₁) hT hW₁⟩) with ⟨v, vm₁, ⟨U', l2, c2, s2⟩, hW₁, X', ⟨g', mk, t, L, e1, e2, hq, h1, hL, h2, h3⟩, st⟩ | ⟨q, vm₁, ⟨U', l2, c2, s2⟩, hW₁, X', ⟨g', mk, t, L, E, ce, e1, e2, hq, hce, hcv, hcl, h1, hL, h2, h3⟩, st⟩
  · dsimp only [Pt.U, Pt.locs, Pt.cells, Pt.slots] at X' e1 e2 h1 h2 h3 st
    subst h1; subst h2; subst h3
    exact Or.inl ⟨v, (T.setVm vm₁).calling g' mk (Value.ref b :: As).toArray, t, U', L, hT, X', hL, e1, e2, hq, st⟩
  · dsimp only [Pt.U, Pt.locs, Pt.cells, Pt.slots] at X' e1 e2 h1 h2 h3 st hcl
    subst h1; subst h2; subst h3
    exact Or.inr ⟨q, (T.setVm vm₁).calling g' mk (Value.ref b :: As).toArray, t, U', L, E, ce, hT, X', hL, e1, e2, hq, hce, hcv, vx_cls hW₁ hcl, st⟩
theorem vx_runSX {hh : List (Nat × Nat × Nat × Nat)} (S : CallFix p m c cc nL s args Ts own) (hM : vx_Met l y ws rm Pc Qc XC mc ms free) (cw : vx_CSW R s args own index y bytes maxL ret hh ws rm mc ms n) (hp : PreS s H Pc As)
    (hg : g.method = m) (hn : As.length = n) (hsize : g.locals.size = nL) (hstack : g.stack = As.reverse ++ rest) (hW : 2 * g.monitorRoom + (rest.map fun v => v.category).sum ≤ 8) (hdg : decode cc g.pc = .ok (.invokestatic index, 3)) (hf : cells + mc ≤ R.cells ∧ slots + ms ≤ R.slots) :
    vx_Run p l e R s m args below meth c H locs cells slots mc ms g rest (Qc As.toArray) XC free := by
  obtain ⟨⟨hrc, hrs, hfr, hlo, hws, hcw⟩, hcode, hini, hy, hlen, hl, hstt⟩ := cw
  have hK : vx_Back l R p e below s args y 3 8 (PreOf R mc ms Pc) (PostOf Qc mc ms free) (vx_Post XC mc ms free) := vx_backW (hh := hh) (bytes := bytes) (maxL := maxL) (ret := ret) hM hp.1 hrc hrs hfr hlo hws hcw (fun a' U hW => word_at hW (Or.inl (by first | rfl | simp [Cond.onTables, Cond.keeps, Cond.steady])) hini)
  obtain ⟨hx, hb, hml, ho, -⟩ := S
  intro T hT X
  rcases vx_callSX X hx (hh := hh) (bytes := bytes) (maxL := maxL) (ret := ret) ho hl hstt hini hcode hy hK hg (hsize.trans hml.symm) (argsL := As) (rest := rest) (fun sig h => hn.trans (hlen sig h)) hstack hW (by rw [hb]; exact hdg)
    (fun vm₁ hW₁ => ⟨hf.1, hf.2, hp.2 (T.setVm vm₁) hT hW₁⟩) with ⟨v, vm₁, ⟨U', l2, c2, s2⟩, hW₁, X', ⟨g', mk, t, L, e1, e2, hq, h1, hL, h2, h3⟩, st⟩ | ⟨q, vm₁, ⟨U', l2, c2, s2⟩, hW₁, X', ⟨g', mk, t, L, E, ce, e1, e2, hq, hce, hcv, hcl, h1, hL, h2, h3⟩, st⟩
  · dsimp only [Pt.U, Pt.locs, Pt.cells, Pt.slots] at X' e1 e2 h1 h2 h3 st
    subst h1; subst h2; subst h3
    exact Or.inl ⟨v, (T.setVm vm₁).calling g' mk As.toArray, t, U', L, hT, X', hL, e1, e2, hq, st⟩
  · dsimp only [Pt.U, Pt.locs, Pt.cells, Pt.slots] at X' e1 e2 h1 h2 h3 st hcl
    subst h1; subst h2; subst h3
    exact Or.inr ⟨q, (T.setVm vm₁).calling g' mk As.toArray, t, U', L, E, ce, hT, X', hL, e1, e2, hq, hce, hcv, vx_cls hW₁ hcl, st⟩
end
end VXH
theorem vx_ofWH {l : Launch} {y : MethodName} {ws ws' : List Cond} {rm : Room} {Pc : Array Value → State → Prop} {Qc : Array Value → State → Outcome → State → Prop} {XC : String → State → State → Prop} {mc ms : Nat} {free : Addr → Prop} {cc : ByteArray} {maxL : Nat} {ret : Option FieldType} {hh : List (Nat × Nat × Nat × Nat)}
    (hy : plainName y.cls = true) (hw : ws = Cond.codeWith y cc maxL ret hh :: ws')
    (body : ∀ p e s m args below meth c s₁, BodyLoose p l y (headSpec ws rm) cc maxL ret e s m args below meth c s₁ → c.maxLocals = maxL → Pc args s →
      W p l e (headSpec ws rm).room s m args below meth c s.heap [] 0 0 (vx_MQ below Qc XC args s mc ms free) (entryFrame m args maxL)) : vx_Met l y ws rm Pc Qc XC mc ms free := by
  refine MetFree.of_bodyS (code := cc) (maxLocals := maxL) (ret := ret) hy ?_ ?_
  · intro args s m h hn
    obtain ⟨m9, meth, c, hn9, h1, h2, h3, h4, -, h5, h6, -⟩ := Cond.codeWith_spec (atoms_spec (ws := ws) h _ (by rw [hw]; exact List.mem_cons_self))
    cases hn.symm.trans hn9
    exact ⟨meth, c, h1, h2, h3, h4, h5, h6⟩
  · intro p e s m args below meth c s₁ B hml hP _
    have hh0 : s₁.heap = s.heap := by rw [B.state]; rfl
    obtain ⟨t, a1, o, b1, b2, b3⟩ := body p e s m args below meth c s₁ B hml hP s₁ hh0 (Stand.of_body B)
    exact ⟨t, o, a1, b1, b2, b3⟩
/-! ===== END ===== -/
end
section
/-! ===== BEGIN printed: names, fields, word lists, decode rows ===== -/
def RX0 : String := "CaneSlices$Cane"
def TX0 : u_T := fun k => match k with
  | 0 => ("CaneSlices$Cane", "pattern", "LCaneSlices$Pattern;", true)
  | 1 => ("CaneSlices$Cane", "length", "I", false)
  | 2 => ("CaneSlices$Cane", "twist", "I", false)
  | 3 => ("CaneSlices$Cane", "heat", "I", false)
  | _ => ("CaneSlices$Cane", "cracked", "Z", false)
def tyX0 : Nat → FieldType := fun k => match k with
  | 0 => .object "CaneSlices$Pattern"
  | 1 => .int
  | 2 => .int
  | 3 => .int
  | _ => .boolean
abbrev wsX00 : List Cond := u_ws RX0 TX0 5
theorem nmX0 : ∀ a, a < 5 → ∀ b, b < 5 → a ≠ b → (TX0 a).2.1 ≠ (TX0 b).2.1 := by decide +kernel
theorem tyX0_ok : ∀ k, k < 5 → parseFieldDescriptor (TX0 k).2.2.1 = some (tyX0 k) := by decide +kernel
abbrev cX0_init : ByteArray := prog_2_method_1_code
def yX0_init : MethodName := ⟨RX0, "<init>", "()V"⟩
abbrev cX0_hasPlace : ByteArray := prog_2_method_2_code
def yX0_hasPlace : MethodName := ⟨RX0, "hasPlace", "(I)Z"⟩
abbrev cX0_turnAt : ByteArray := prog_2_method_3_code
def yX0_turnAt : MethodName := ⟨RX0, "turnAt", "(I)I"⟩
abbrev cX0_startWorking : ByteArray := prog_2_method_4_code
def yX0_startWorking : MethodName := ⟨RX0, "startWorking", "(I)Z"⟩
abbrev cX0_stretch : ByteArray := prog_2_method_5_code
def yX0_stretch : MethodName := ⟨RX0, "stretch", "()V"⟩
abbrev cX0_passMinute : ByteArray := prog_2_method_6_code
def yX0_passMinute : MethodName := ⟨RX0, "passMinute", "(Z)V"⟩
abbrev cX0_tell : ByteArray := prog_2_method_7_code
def yX0_tell : MethodName := ⟨RX0, "tell", "(IZ)I"⟩
def RX1 : String := "CaneSlices$Pattern"
def TX1 : u_T := fun k => match k with
  | _ => ("CaneSlices$Pattern", "colours", "[I", true)
def tyX1 : Nat → FieldType := fun k => match k with
  | _ => .array .int
abbrev wsX10 : List Cond := u_ws RX1 TX1 1
theorem nmX1 : ∀ a, a < 1 → ∀ b, b < 1 → a ≠ b → (TX1 a).2.1 ≠ (TX1 b).2.1 := by decide +kernel
theorem tyX1_ok : ∀ k, k < 1 → parseFieldDescriptor (TX1 k).2.2.1 = some (tyX1 k) := by decide +kernel
abbrev cX1_init : ByteArray := prog_3_method_1_code
def yX1_init : MethodName := ⟨RX1, "<init>", "()V"⟩
abbrev cX1_indexOf : ByteArray := prog_3_method_2_code
def yX1_indexOf : MethodName := ⟨RX1, "indexOf", "(II)I"⟩
abbrev cX1_colourAt : ByteArray := prog_3_method_3_code
def yX1_colourAt : MethodName := ⟨RX1, "colourAt", "(III)I"⟩
abbrev cX1_paint : ByteArray := prog_3_method_4_code
def yX1_paint : MethodName := ⟨RX1, "paint", "(IIII)V"⟩
abbrev cX1_turned : ByteArray := prog_3_method_5_code
def yX1_turned : MethodName := ⟨RX1, "turned", "(I)LCaneSlices$Pattern;"⟩
abbrev cX1_looksLike : ByteArray := prog_3_method_6_code
def yX1_looksLike : MethodName := ⟨RX1, "looksLike", "(LCaneSlices$Pattern;I)Z"⟩
abbrev cX1_leastTurnTo : ByteArray := prog_3_method_7_code
def yX1_leastTurnTo : MethodName := ⟨RX1, "leastTurnTo", "(LCaneSlices$Pattern;)I"⟩
def RX2 : String := "CaneSlices$Slice"
def TX2 : u_T := fun k => match k with
  | 0 => ("CaneSlices$Slice", "number", "I", true)
  | 1 => ("CaneSlices$Slice", "pattern", "LCaneSlices$Pattern;", true)
  | 2 => ("CaneSlices$Slice", "kind", "I", true)
  | 3 => ("CaneSlices$Slice", "eye", "I", false)
  | _ => ("CaneSlices$Slice", "turn", "I", false)
def tyX2 : Nat → FieldType := fun k => match k with
  | 0 => .int
  | 1 => .object "CaneSlices$Pattern"
  | 2 => .int
  | 3 => .int
  | _ => .int
abbrev wsX20 : List Cond := u_ws RX2 TX2 5
theorem nmX2 : ∀ a, a < 5 → ∀ b, b < 5 → a ≠ b → (TX2 a).2.1 ≠ (TX2 b).2.1 := by decide +kernel
theorem tyX2_ok : ∀ k, k < 5 → parseFieldDescriptor (TX2 k).2.2.1 = some (tyX2 k) := by decide +kernel
abbrev cX2_init : ByteArray := prog_4_method_1_code
def yX2_init : MethodName := ⟨RX2, "<init>", "(ILCaneSlices$Pattern;I)V"⟩
abbrev cX2_isFree : ByteArray := prog_4_method_2_code
def yX2_isFree : MethodName := ⟨RX2, "isFree", "()Z"⟩
abbrev cX2_enter : ByteArray := prog_4_method_3_code
def yX2_enter : MethodName := ⟨RX2, "enter", "(II)V"⟩
abbrev cX2_leave : ByteArray := prog_4_method_4_code
def yX2_leave : MethodName := ⟨RX2, "leave", "()V"⟩
def RX3 : String := "CaneSlices"
def TX3 : u_T := fun k => match k with
  | 0 => ("CaneSlices", "canes", "[LCaneSlices$Cane;", true)
  | 1 => ("CaneSlices", "slices", "[LCaneSlices$Slice;", true)
  | 2 => ("CaneSlices", "eyes", "[LCaneSlices$Slice;", true)
  | 3 => ("CaneSlices", "caneCount", "I", false)
  | 4 => ("CaneSlices", "sliceCount", "I", false)
  | 5 => ("CaneSlices", "beadCount", "I", false)
  | 6 => ("CaneSlices", "inFurnace", "I", false)
  | _ => ("CaneSlices", "minute", "I", false)
def tyX3 : Nat → FieldType := fun k => match k with
  | 0 => .array (.object "CaneSlices$Cane")
  | 1 => .array (.object "CaneSlices$Slice")
  | 2 => .array (.object "CaneSlices$Slice")
  | 3 => .int
  | 4 => .int
  | 5 => .int
  | 6 => .int
  | _ => .int
abbrev wsX30 : List Cond := u_ws RX3 TX3 8
theorem nmX3 : ∀ a, a < 8 → ∀ b, b < 8 → a ≠ b → (TX3 a).2.1 ≠ (TX3 b).2.1 := by decide +kernel
theorem tyX3_ok : ∀ k, k < 8 → parseFieldDescriptor (TX3 k).2.2.1 = some (tyX3 k) := by decide +kernel
abbrev cX3_init : ByteArray := prog_1_method_1_code
def yX3_init : MethodName := ⟨RX3, "<init>", "()V"⟩
abbrev cX3_begin : ByteArray := prog_1_method_2_code
def yX3_begin : MethodName := ⟨RX3, "begin", "()I"⟩
abbrev cX3_lay : ByteArray := prog_1_method_3_code
def yX3_lay : MethodName := ⟨RX3, "lay", "(IIIII)Z"⟩
abbrev cX3_twist : ByteArray := prog_1_method_4_code
def yX3_twist : MethodName := ⟨RX3, "twist", "(II)Z"⟩
abbrev cX3_pull : ByteArray := prog_1_method_5_code
def yX3_pull : MethodName := ⟨RX3, "pull", "(I)Z"⟩
abbrev cX3_furnace : ByteArray := prog_1_method_6_code
def yX3_furnace : MethodName := ⟨RX3, "furnace", "(I)I"⟩
abbrev cX3_rest : ByteArray := prog_1_method_7_code
def yX3_rest : MethodName := ⟨RX3, "rest", "(I)I"⟩
abbrev cX3_cut : ByteArray := prog_1_method_8_code
def yX3_cut : MethodName := ⟨RX3, "cut", "(I)I"⟩
abbrev cX3_cane : ByteArray := prog_1_method_9_code
def yX3_cane : MethodName := ⟨RX3, "cane", "(II)I"⟩
abbrev cX3_shows : ByteArray := prog_1_method_10_code
def yX3_shows : MethodName := ⟨RX3, "shows", "(IIII)I"⟩
abbrev cX3_colour : ByteArray := prog_1_method_11_code
def yX3_colour : MethodName := ⟨RX3, "colour", "(III)I"⟩
abbrev cX3_where : ByteArray := prog_1_method_12_code
def yX3_where : MethodName := ⟨RX3, "where", "(I)I"⟩
abbrev cX3_bead : ByteArray := prog_1_method_13_code
def yX3_bead : MethodName := ⟨RX3, "bead", "()I"⟩
abbrev cX3_set : ByteArray := prog_1_method_14_code
def yX3_set : MethodName := ⟨RX3, "set", "(IIII)I"⟩
abbrev cX3_drop : ByteArray := prog_1_method_15_code
def yX3_drop : MethodName := ⟨RX3, "drop", "(II)I"⟩
abbrev cX3_seen : ByteArray := prog_1_method_16_code
def yX3_seen : MethodName := ⟨RX3, "seen", "(IIII)I"⟩
abbrev cX3_count : ByteArray := prog_1_method_17_code
def yX3_count : MethodName := ⟨RX3, "count", "(I)I"⟩
abbrev cX3_again : ByteArray := prog_1_method_18_code
def yX3_again : MethodName := ⟨RX3, "again", "(II)I"⟩
abbrev cX3_turn : ByteArray := prog_1_method_19_code
def yX3_turn : MethodName := ⟨RX3, "turn", "(II)I"⟩
abbrev cX3_cuts : ByteArray := prog_1_method_20_code
def yX3_cuts : MethodName := ⟨RX3, "cuts", "(II)I"⟩
abbrev cX3_mends : ByteArray := prog_1_method_21_code
def yX3_mends : MethodName := ⟨RX3, "mends", "(I)I"⟩
abbrev cX3_mean : ByteArray := prog_1_method_22_code
def yX3_mean : MethodName := ⟨RX3, "mean", "()D"⟩
abbrev cX3_digest : ByteArray := prog_1_method_23_code
def yX3_digest : MethodName := ⟨RX3, "digest", "()J"⟩
abbrev cX3_caneAt : ByteArray := prog_1_method_24_code
def yX3_caneAt : MethodName := ⟨RX3, "caneAt", "(I)LCaneSlices$Cane;"⟩
abbrev cX3_sliceAt : ByteArray := prog_1_method_25_code
def yX3_sliceAt : MethodName := ⟨RX3, "sliceAt", "(I)LCaneSlices$Slice;"⟩
abbrev cX3_isBead : ByteArray := prog_1_method_26_code
def yX3_isBead : MethodName := ⟨RX3, "isBead", "(I)Z"⟩
abbrev cX3_isEye : ByteArray := prog_1_method_27_code
def yX3_isEye : MethodName := ⟨RX3, "isEye", "(I)Z"⟩
abbrev cX3_isRing : ByteArray := prog_1_method_28_code
def yX3_isRing : MethodName := ⟨RX3, "isRing", "(I)Z"⟩
abbrev cX3_isSector : ByteArray := prog_1_method_29_code
def yX3_isSector : MethodName := ⟨RX3, "isSector", "(I)Z"⟩
abbrev cX3_isTwist : ByteArray := prog_1_method_30_code
def yX3_isTwist : MethodName := ⟨RX3, "isTwist", "(I)Z"⟩
abbrev cX3_passMinute : ByteArray := prog_1_method_31_code
def yX3_passMinute : MethodName := ⟨RX3, "passMinute", "()V"⟩
abbrev cX3_heatOfAll : ByteArray := prog_1_method_32_code
def yX3_heatOfAll : MethodName := ⟨RX3, "heatOfAll", "()I"⟩
abbrev cX3_lengthOfAll : ByteArray := prog_1_method_33_code
def yX3_lengthOfAll : MethodName := ⟨RX3, "lengthOfAll", "()I"⟩
abbrev cX3_wholeCanes : ByteArray := prog_1_method_34_code
def yX3_wholeCanes : MethodName := ⟨RX3, "wholeCanes", "()I"⟩
abbrev cX3_kindOf : ByteArray := prog_1_method_35_code
def yX3_kindOf : MethodName := ⟨RX3, "kindOf", "(LCaneSlices$Pattern;)I"⟩
abbrev cX3_freeSlicesOf : ByteArray := prog_1_method_36_code
def yX3_freeSlicesOf : MethodName := ⟨RX3, "freeSlicesOf", "(I)I"⟩
abbrev cX3_canFillBead : ByteArray := prog_1_method_37_code
def yX3_canFillBead : MethodName := ⟨RX3, "canFillBead", "()Z"⟩
abbrev cX3_slicesInEyes : ByteArray := prog_1_method_38_code
def yX3_slicesInEyes : MethodName := ⟨RX3, "slicesInEyes", "()I"⟩
abbrev cX3_filledEyes : ByteArray := prog_1_method_39_code
def yX3_filledEyes : MethodName := ⟨RX3, "filledEyes", "(I)I"⟩
abbrev cX3_eyesLike : ByteArray := prog_1_method_40_code
def yX3_eyesLike : MethodName := ⟨RX3, "eyesLike", "(ILCaneSlices$Slice;)I"⟩
abbrev cX3_beadsOfOneLook : ByteArray := prog_1_method_41_code
def yX3_beadsOfOneLook : MethodName := ⟨RX3, "beadsOfOneLook", "()I"⟩
abbrev cX3_tally : ByteArray := prog_1_method_42_code
def yX3_tally : MethodName := ⟨RX3, "tally", "(I)I"⟩
abbrev cX3_digestWith : ByteArray := prog_1_method_43_code
def yX3_digestWith : MethodName := ⟨RX3, "digestWith", "(JI)J"⟩
abbrev cX3_digestWithCanes : ByteArray := prog_1_method_44_code
def yX3_digestWithCanes : MethodName := ⟨RX3, "digestWithCanes", "(J)J"⟩
abbrev cX3_digestWithSlices : ByteArray := prog_1_method_45_code
def yX3_digestWithSlices : MethodName := ⟨RX3, "digestWithSlices", "(J)J"⟩
abbrev cX3_digestWithEyes : ByteArray := prog_1_method_46_code
def yX3_digestWithEyes : MethodName := ⟨RX3, "digestWithEyes", "(J)J"⟩
abbrev cX3_digestWithPattern : ByteArray := prog_1_method_47_code
def yX3_digestWithPattern : MethodName := ⟨RX3, "digestWithPattern", "(JLCaneSlices$Pattern;)J"⟩
def RX4 : String := "CaneSlicesModel"
def TX4 : u_T := fun k => match k with
  | 0 => ("CaneSlicesModel", "thrown", "I", false)
  | 1 => ("CaneSlicesModel", "minute", "I", false)
  | 2 => ("CaneSlicesModel", "furnace", "I", false)
  | 3 => ("CaneSlicesModel", "canes", "I", false)
  | 4 => ("CaneSlicesModel", "length", "[I", true)
  | 5 => ("CaneSlicesModel", "twist", "[I", true)
  | 6 => ("CaneSlicesModel", "heat", "[I", true)
  | 7 => ("CaneSlicesModel", "isWhole", "[I", true)
  | 8 => ("CaneSlicesModel", "pattern", "[I", true)
  | 9 => ("CaneSlicesModel", "slices", "I", false)
  | 10 => ("CaneSlicesModel", "look", "[I", true)
  | 11 => ("CaneSlicesModel", "place", "[I", true)
  | 12 => ("CaneSlicesModel", "beads", "I", false)
  | 13 => ("CaneSlicesModel", "eye", "[I", true)
  | _ => ("CaneSlicesModel", "turned", "[I", true)
def tyX4 : Nat → FieldType := fun k => match k with
  | 0 => .int
  | 1 => .int
  | 2 => .int
  | 3 => .int
  | 4 => .array .int
  | 5 => .array .int
  | 6 => .array .int
  | 7 => .array .int
  | 8 => .array .int
  | 9 => .int
  | 10 => .array .int
  | 11 => .array .int
  | 12 => .int
  | 13 => .array .int
  | _ => .array .int
abbrev wsX40 : List Cond := u_ws RX4 TX4 15
theorem nmX4 : ∀ a, a < 15 → ∀ b, b < 15 → a ≠ b → (TX4 a).2.1 ≠ (TX4 b).2.1 := by decide +kernel
theorem tyX4_ok : ∀ k, k < 15 → parseFieldDescriptor (TX4 k).2.2.1 = some (tyX4 k) := by decide +kernel
abbrev cX4_init : ByteArray := prog_6_method_1_code
def yX4_init : MethodName := ⟨RX4, "<init>", "()V"⟩
abbrev cX4_thrown : ByteArray := prog_6_method_2_code
def yX4_thrown : MethodName := ⟨RX4, "thrown", "()I"⟩
abbrev cX4_no : ByteArray := prog_6_method_3_code
def yX4_no : MethodName := ⟨RX4, "no", "(I)I"⟩
abbrev cX4_isIn : ByteArray := prog_6_method_4_code
def yX4_isIn : MethodName := ⟨RX4, "isIn", "(III)Z"⟩
abbrev cX4_isCane : ByteArray := prog_6_method_5_code
def yX4_isCane : MethodName := ⟨RX4, "isCane", "(I)Z"⟩
abbrev cX4_isSlice : ByteArray := prog_6_method_6_code
def yX4_isSlice : MethodName := ⟨RX4, "isSlice", "(I)Z"⟩
abbrev cX4_isEye : ByteArray := prog_6_method_7_code
def yX4_isEye : MethodName := ⟨RX4, "isEye", "(II)Z"⟩
abbrev cX4_isSpot : ByteArray := prog_6_method_8_code
def yX4_isSpot : MethodName := ⟨RX4, "isSpot", "(II)Z"⟩
abbrev cX4_rotated : ByteArray := prog_6_method_9_code
def yX4_rotated : MethodName := ⟨RX4, "rotated", "(II)I"⟩
abbrev cX4_colourOf : ByteArray := prog_6_method_10_code
def yX4_colourOf : MethodName := ⟨RX4, "colourOf", "(II)I"⟩
abbrev cX4_areAlike : ByteArray := prog_6_method_11_code
def yX4_areAlike : MethodName := ⟨RX4, "areAlike", "([III[II)Z"⟩
abbrev cX4_begin : ByteArray := prog_6_method_12_code
def yX4_begin : MethodName := ⟨RX4, "begin", "()I"⟩
abbrev cX4_pass : ByteArray := prog_6_method_13_code
def yX4_pass : MethodName := ⟨RX4, "pass", "()V"⟩
abbrev cX4_bears : ByteArray := prog_6_method_14_code
def yX4_bears : MethodName := ⟨RX4, "bears", "(II)Z"⟩
abbrev cX4_lay : ByteArray := prog_6_method_15_code
def yX4_lay : MethodName := ⟨RX4, "lay", "(IIIII)Z"⟩
abbrev cX4_twist : ByteArray := prog_6_method_16_code
def yX4_twist : MethodName := ⟨RX4, "twist", "(II)Z"⟩
abbrev cX4_pull : ByteArray := prog_6_method_17_code
def yX4_pull : MethodName := ⟨RX4, "pull", "(I)Z"⟩
abbrev cX4_furnace : ByteArray := prog_6_method_18_code
def yX4_furnace : MethodName := ⟨RX4, "furnace", "(I)I"⟩
abbrev cX4_allHeat : ByteArray := prog_6_method_19_code
def yX4_allHeat : MethodName := ⟨RX4, "allHeat", "()I"⟩
abbrev cX4_rest : ByteArray := prog_6_method_20_code
def yX4_rest : MethodName := ⟨RX4, "rest", "(I)I"⟩
abbrev cX4_cut : ByteArray := prog_6_method_21_code
def yX4_cut : MethodName := ⟨RX4, "cut", "(I)I"⟩
abbrev cX4_caneTold : ByteArray := prog_6_method_22_code
def yX4_caneTold : MethodName := ⟨RX4, "caneTold", "(II)I"⟩
abbrev cX4_cane : ByteArray := prog_6_method_23_code
def yX4_cane : MethodName := ⟨RX4, "cane", "(II)I"⟩
abbrev cX4_shows : ByteArray := prog_6_method_24_code
def yX4_shows : MethodName := ⟨RX4, "shows", "(IIII)I"⟩
abbrev cX4_colour : ByteArray := prog_6_method_25_code
def yX4_colour : MethodName := ⟨RX4, "colour", "(III)I"⟩
abbrev cX4_where : ByteArray := prog_6_method_26_code
def yX4_where : MethodName := ⟨RX4, "where", "(I)I"⟩
abbrev cX4_bead : ByteArray := prog_6_method_27_code
def yX4_bead : MethodName := ⟨RX4, "bead", "()I"⟩
abbrev cX4_filled : ByteArray := prog_6_method_28_code
def yX4_filled : MethodName := ⟨RX4, "filled", "(I)I"⟩
abbrev cX4_set : ByteArray := prog_6_method_29_code
def yX4_set : MethodName := ⟨RX4, "set", "(IIII)I"⟩
abbrev cX4_drop : ByteArray := prog_6_method_30_code
def yX4_drop : MethodName := ⟨RX4, "drop", "(II)I"⟩
abbrev cX4_seen : ByteArray := prog_6_method_31_code
def yX4_seen : MethodName := ⟨RX4, "seen", "(IIII)I"⟩
abbrev cX4_areTwins : ByteArray := prog_6_method_32_code
def yX4_areTwins : MethodName := ⟨RX4, "areTwins", "(II)Z"⟩
abbrev cX4_twins : ByteArray := prog_6_method_33_code
def yX4_twins : MethodName := ⟨RX4, "twins", "(II)I"⟩
abbrev cX4_counted : ByteArray := prog_6_method_34_code
def yX4_counted : MethodName := ⟨RX4, "counted", "(I)I"⟩
abbrev cX4_count : ByteArray := prog_6_method_35_code
def yX4_count : MethodName := ⟨RX4, "count", "(I)I"⟩
abbrev cX4_again : ByteArray := prog_6_method_36_code
def yX4_again : MethodName := ⟨RX4, "again", "(II)I"⟩
abbrev cX4_turnTo : ByteArray := prog_6_method_37_code
def yX4_turnTo : MethodName := ⟨RX4, "turnTo", "(II)I"⟩
abbrev cX4_turn : ByteArray := prog_6_method_38_code
def yX4_turn : MethodName := ⟨RX4, "turn", "(II)I"⟩
abbrev cX4_cuts : ByteArray := prog_6_method_39_code
def yX4_cuts : MethodName := ⟨RX4, "cuts", "(II)I"⟩
abbrev cX4_free : ByteArray := prog_6_method_40_code
def yX4_free : MethodName := ⟨RX4, "free", "(I)I"⟩
abbrev cX4_mends : ByteArray := prog_6_method_41_code
def yX4_mends : MethodName := ⟨RX4, "mends", "(I)I"⟩
abbrev cX4_mean : ByteArray := prog_6_method_42_code
def yX4_mean : MethodName := ⟨RX4, "mean", "()D"⟩
abbrev cX4_with : ByteArray := prog_6_method_43_code
def yX4_with : MethodName := ⟨RX4, "with", "(J[II)J"⟩
abbrev cX4_digest : ByteArray := prog_6_method_44_code
def yX4_digest : MethodName := ⟨RX4, "digest", "()J"⟩
def RJ9 : String := "java/lang/Math"
def TJ9 : u_T := fun k => match k with
  | _ => ("", "", "", false)
def tyJ9 : Nat → FieldType := fun k => match k with
  | _ => .int
abbrev wsJ90 : List Cond := u_ws RJ9 TJ9 0
theorem nmJ9 : ∀ a, a < 0 → ∀ b, b < 0 → a ≠ b → (TJ9 a).2.1 ≠ (TJ9 b).2.1 := by decide +kernel
theorem tyJ9_ok : ∀ k, k < 0 → parseFieldDescriptor (TJ9 k).2.2.1 = some (tyJ9 k) := by decide +kernel
abbrev cJ9_floorMod_7cf53 : ByteArray := prog_11_method_50_code
def yJ9_floorMod_7cf53 : MethodName := ⟨RJ9, "floorMod", "(II)I"⟩
abbrev cJ9_max_7cf53 : ByteArray := prog_11_method_65_code
def yJ9_max_7cf53 : MethodName := ⟨RJ9, "max", "(II)I"⟩
abbrev cJ9_min_7cf53 : ByteArray := prog_11_method_69_code
def yJ9_min_7cf53 : MethodName := ⟨RJ9, "min", "(II)I"⟩
def RJ0 : String := "java/lang/String"
def TJ0 : u_T := fun k => match k with
  | _ => ("", "", "", false)
def tyJ0 : Nat → FieldType := fun k => match k with
  | _ => .int
abbrev wsJ00 : List Cond := u_ws RJ0 TJ0 0
theorem nmJ0 : ∀ a, a < 0 → ∀ b, b < 0 → a ≠ b → (TJ0 a).2.1 ≠ (TJ0 b).2.1 := by decide +kernel
theorem tyJ0_ok : ∀ k, k < 0 → parseFieldDescriptor (TJ0 k).2.2.1 = some (tyJ0 k) := by decide +kernel
def RL : String := "CaneSlicesLaw"
abbrev cL_begin : ByteArray := method_3_code
def yL_begin : MethodName := ⟨RL, "begin", "(LCaneSlices;[J)I"⟩
abbrev cL_lay : ByteArray := method_4_code
def yL_lay : MethodName := ⟨RL, "lay", "(LCaneSlices;IIIII[J)I"⟩
abbrev cL_twist : ByteArray := method_5_code
def yL_twist : MethodName := ⟨RL, "twist", "(LCaneSlices;II[J)I"⟩
abbrev cL_pull : ByteArray := method_6_code
def yL_pull : MethodName := ⟨RL, "pull", "(LCaneSlices;I[J)I"⟩
abbrev cL_furnace : ByteArray := method_7_code
def yL_furnace : MethodName := ⟨RL, "furnace", "(LCaneSlices;I[J)I"⟩
abbrev cL_rest : ByteArray := method_8_code
def yL_rest : MethodName := ⟨RL, "rest", "(LCaneSlices;I[J)I"⟩
abbrev cL_cut : ByteArray := method_9_code
def yL_cut : MethodName := ⟨RL, "cut", "(LCaneSlices;I[J)I"⟩
abbrev cL_cane : ByteArray := method_10_code
def yL_cane : MethodName := ⟨RL, "cane", "(LCaneSlices;II[J)I"⟩
abbrev cL_shows : ByteArray := method_11_code
def yL_shows : MethodName := ⟨RL, "shows", "(LCaneSlices;IIII[J)I"⟩
abbrev cL_colour : ByteArray := method_12_code
def yL_colour : MethodName := ⟨RL, "colour", "(LCaneSlices;III[J)I"⟩
abbrev cL_where : ByteArray := method_13_code
def yL_where : MethodName := ⟨RL, "where", "(LCaneSlices;I[J)I"⟩
abbrev cL_bead : ByteArray := method_14_code
def yL_bead : MethodName := ⟨RL, "bead", "(LCaneSlices;[J)I"⟩
abbrev cL_set : ByteArray := method_15_code
def yL_set : MethodName := ⟨RL, "set", "(LCaneSlices;IIII[J)I"⟩
abbrev cL_drop : ByteArray := method_16_code
def yL_drop : MethodName := ⟨RL, "drop", "(LCaneSlices;II[J)I"⟩
abbrev cL_seen : ByteArray := method_17_code
def yL_seen : MethodName := ⟨RL, "seen", "(LCaneSlices;IIII[J)I"⟩
abbrev cL_count : ByteArray := method_18_code
def yL_count : MethodName := ⟨RL, "count", "(LCaneSlices;I[J)I"⟩
abbrev cL_again : ByteArray := method_19_code
def yL_again : MethodName := ⟨RL, "again", "(LCaneSlices;II[J)I"⟩
abbrev cL_turn : ByteArray := method_20_code
def yL_turn : MethodName := ⟨RL, "turn", "(LCaneSlices;II[J)I"⟩
abbrev cL_cuts : ByteArray := method_21_code
def yL_cuts : MethodName := ⟨RL, "cuts", "(LCaneSlices;II[J)I"⟩
abbrev cL_mends : ByteArray := method_22_code
def yL_mends : MethodName := ⟨RL, "mends", "(LCaneSlices;I[J)I"⟩
abbrev cL_law : ByteArray := code
def yL_law : MethodName := ⟨RL, "law", "([I)Z"⟩
def wsX1_init : List Cond := .code yX1_init cX1_init 1 none :: ([.methodLink RX1 3 objectInit, .instanceMethod objectInit, .code objectInit ⟨#[0xb1]⟩ 1 none, .arrayClass .int, .fieldLink RX1 9 "CaneSlices$Pattern" "colours" "[I"] ++ wsX10)
def wsX0_init : List Cond := .code yX0_init cX0_init 1 none :: ([.methodLink RX0 3 objectInit, .instanceMethod objectInit, .code objectInit ⟨#[0xb1]⟩ 1 none, .classLink RX0 9 RX1, .instantiable RX1 1, .initialized RX1, .fieldLink RX0 12 "CaneSlices$Cane" "pattern" "LCaneSlices$Pattern;", .fieldLink RX0 18 "CaneSlices$Cane" "length" "I", .fieldLink RX0 22 "CaneSlices$Cane" "heat" "I", .methodLink RX0 11 yX1_init, .instanceMethod yX1_init, .code yX1_init cX1_init 1 none, .methodLink RX1 3 objectInit, .arrayClass .int, .fieldLink RX1 9 "CaneSlices$Pattern" "colours" "[I"] ++ wsX10 ++ wsX00)
def wsX0_hasPlace : List Cond := .code yX0_hasPlace cX0_hasPlace 2 (some .boolean) :: ([.fieldLink RX0 18 "CaneSlices$Cane" "length" "I"] ++ wsX00)
def wsX0_turnAt : List Cond := .code yX0_turnAt cX0_turnAt 2 (some .int) :: ([.fieldLink RX0 25 "CaneSlices$Cane" "twist" "I"] ++ wsX00)
def wsX0_startWorking : List Cond := .code yX0_startWorking cX0_startWorking 2 (some .boolean) :: ([.fieldLink RX0 22 "CaneSlices$Cane" "heat" "I", .fieldLink RX0 28 "CaneSlices$Cane" "cracked" "Z"] ++ wsX00)
def wsX0_stretch : List Cond := .code yX0_stretch cX0_stretch 1 none :: ([.fieldLink RX0 18 "CaneSlices$Cane" "length" "I", .methodLink RX0 32 Lib.Math.min.name, .static Lib.Math.min.name, .initialized "java/lang/Math", .code Lib.Math.min.name Lib.Math.min.code 2 (some .int), .fieldLink RX0 25 "CaneSlices$Cane" "twist" "I"] ++ wsX00)
def wsX0_passMinute : List Cond := .code yX0_passMinute cX0_passMinute 2 none :: ([.fieldLink RX0 22 "CaneSlices$Cane" "heat" "I", .methodLink RX0 32 Lib.Math.min.name, .static Lib.Math.min.name, .initialized "java/lang/Math", .code Lib.Math.min.name Lib.Math.min.code 2 (some .int), .methodLink RX0 38 Lib.Math.max.name, .static Lib.Math.max.name, .code Lib.Math.max.name Lib.Math.max.code 2 (some .int)] ++ wsX00)
def wsX0_tell : List Cond := .code yX0_tell cX0_tell 3 (some .int) :: ([.fieldLink RX0 18 "CaneSlices$Cane" "length" "I", .fieldLink RX0 25 "CaneSlices$Cane" "twist" "I", .fieldLink RX0 22 "CaneSlices$Cane" "heat" "I", .fieldLink RX0 28 "CaneSlices$Cane" "cracked" "Z"] ++ wsX00)
def wsJ9_floorMod_7cf53 : List Cond := .code yJ9_floorMod_7cf53 cJ9_floorMod_7cf53 3 (some .int) :: ([])
def wsX1_indexOf : List Cond := .code yX1_indexOf cX1_indexOf 2 (some .int) :: ([.methodLink RX1 15 yJ9_floorMod_7cf53, .static yJ9_floorMod_7cf53, .initialized RJ9, .code yJ9_floorMod_7cf53 cJ9_floorMod_7cf53 3 (some .int)])
def wsX1_colourAt : List Cond := .code yX1_colourAt cX1_colourAt 4 (some .int) :: ([.fieldLink RX1 9 "CaneSlices$Pattern" "colours" "[I", .methodLink RX1 21 yX1_indexOf, .static yX1_indexOf, .initialized RX1, .code yX1_indexOf cX1_indexOf 2 (some .int), .methodLink RX1 15 yJ9_floorMod_7cf53, .static yJ9_floorMod_7cf53, .initialized RJ9, .code yJ9_floorMod_7cf53 cJ9_floorMod_7cf53 3 (some .int)] ++ wsX10)
def wsX1_paint : List Cond := .code yX1_paint cX1_paint 6 none :: ([.fieldLink RX1 9 "CaneSlices$Pattern" "colours" "[I", .methodLink RX1 21 yX1_indexOf, .static yX1_indexOf, .initialized RX1, .code yX1_indexOf cX1_indexOf 2 (some .int), .methodLink RX1 15 yJ9_floorMod_7cf53, .static yJ9_floorMod_7cf53, .initialized RJ9, .code yJ9_floorMod_7cf53 cJ9_floorMod_7cf53 3 (some .int)] ++ wsX10)
def wsX1_turned : List Cond := .code yX1_turned cX1_turned 5 (some (.object "CaneSlices$Pattern")) :: ([.classLink RX1 10 RX1, .instantiable RX1 1, .initialized RX1, .fieldLink RX1 9 "CaneSlices$Pattern" "colours" "[I", .methodLink RX1 24 yX1_init, .instanceMethod yX1_init, .code yX1_init cX1_init 1 none, .methodLink RX1 3 objectInit, .instanceMethod objectInit, .code objectInit ⟨#[0xb1]⟩ 1 none, .arrayClass .int, .methodLink RX1 25 yX1_colourAt, .instanceMethod yX1_colourAt, .selects RX1 yX1_colourAt yX1_colourAt, .code yX1_colourAt cX1_colourAt 4 (some .int), .methodLink RX1 21 yX1_indexOf, .static yX1_indexOf, .code yX1_indexOf cX1_indexOf 2 (some .int), .methodLink RX1 15 yJ9_floorMod_7cf53, .static yJ9_floorMod_7cf53, .initialized RJ9, .code yJ9_floorMod_7cf53 cJ9_floorMod_7cf53 3 (some .int)] ++ wsX10)
def wsX1_looksLike : List Cond := .code yX1_looksLike cX1_looksLike 5 (some .boolean) :: ([.fieldLink RX1 9 "CaneSlices$Pattern" "colours" "[I", .methodLink RX1 25 yX1_colourAt, .instanceMethod yX1_colourAt, .selects RX1 yX1_colourAt yX1_colourAt, .initialized RX1, .code yX1_colourAt cX1_colourAt 4 (some .int), .methodLink RX1 21 yX1_indexOf, .static yX1_indexOf, .code yX1_indexOf cX1_indexOf 2 (some .int), .methodLink RX1 15 yJ9_floorMod_7cf53, .static yJ9_floorMod_7cf53, .initialized RJ9, .code yJ9_floorMod_7cf53 cJ9_floorMod_7cf53 3 (some .int)] ++ wsX10)
def wsX1_leastTurnTo : List Cond := .code yX1_leastTurnTo cX1_leastTurnTo 3 (some .int) :: ([.methodLink RX1 29 yX1_looksLike, .instanceMethod yX1_looksLike, .selects RX1 yX1_looksLike yX1_looksLike, .initialized RX1, .code yX1_looksLike cX1_looksLike 5 (some .boolean), .fieldLink RX1 9 "CaneSlices$Pattern" "colours" "[I", .methodLink RX1 25 yX1_colourAt, .instanceMethod yX1_colourAt, .selects RX1 yX1_colourAt yX1_colourAt, .code yX1_colourAt cX1_colourAt 4 (some .int), .methodLink RX1 21 yX1_indexOf, .static yX1_indexOf, .code yX1_indexOf cX1_indexOf 2 (some .int), .methodLink RX1 15 yJ9_floorMod_7cf53, .static yJ9_floorMod_7cf53, .initialized RJ9, .code yJ9_floorMod_7cf53 cJ9_floorMod_7cf53 3 (some .int)] ++ wsX10)
def wsX2_init : List Cond := .code yX2_init cX2_init 4 none :: ([.methodLink RX2 3 objectInit, .instanceMethod objectInit, .code objectInit ⟨#[0xb1]⟩ 1 none, .fieldLink RX2 9 "CaneSlices$Slice" "number" "I", .fieldLink RX2 15 "CaneSlices$Slice" "pattern" "LCaneSlices$Pattern;", .fieldLink RX2 19 "CaneSlices$Slice" "kind" "I", .fieldLink RX2 22 "CaneSlices$Slice" "eye" "I"] ++ wsX20)
def wsX2_isFree : List Cond := .code yX2_isFree cX2_isFree 1 (some .boolean) :: ([.fieldLink RX2 22 "CaneSlices$Slice" "eye" "I"] ++ wsX20)
def wsX2_enter : List Cond := .code yX2_enter cX2_enter 3 none :: ([.fieldLink RX2 22 "CaneSlices$Slice" "eye" "I", .fieldLink RX2 25 "CaneSlices$Slice" "turn" "I"] ++ wsX20)
def wsX2_leave : List Cond := .code yX2_leave cX2_leave 1 none :: ([.fieldLink RX2 22 "CaneSlices$Slice" "eye" "I", .fieldLink RX2 25 "CaneSlices$Slice" "turn" "I"] ++ wsX20)
def wsX3_init : List Cond := .code yX3_init cX3_init 1 none :: ([.methodLink RX3 1 objectInit, .instanceMethod objectInit, .code objectInit ⟨#[0xb1]⟩ 1 none, .classLink RX3 9 RX0, .fieldLink RX3 11 "CaneSlices" "canes" "[LCaneSlices$Cane;", .classLink RX3 15 RX2, .fieldLink RX3 17 "CaneSlices" "slices" "[LCaneSlices$Slice;", .fieldLink RX3 21 "CaneSlices" "eyes" "[LCaneSlices$Slice;", .fieldLink RX3 24 "CaneSlices" "inFurnace" "I"] ++ wsX30)
def wsX3_begin_r1 : List Cond := [Cond.classLink RX3 31 "java/lang/IllegalStateException", Cond.initialized "java/lang/IllegalStateException", Cond.fieldLink RX3 28 "CaneSlices" "caneCount" "I", Cond.fieldLink RX3 11 "CaneSlices" "canes" "[LCaneSlices$Cane;", Cond.classLink RX3 9 RX0, Cond.instantiable RX0 5, Cond.initialized RX0, Cond.methodLink RX3 38 yX0_init, Cond.instanceMethod yX0_init, Cond.code yX0_init cX0_init 1 none, Cond.methodLink RX0 3 objectInit, Cond.instanceMethod objectInit, Cond.code objectInit ⟨#[0xb1]⟩ 1 none, Cond.classLink RX0 9 RX1, Cond.instantiable RX1 1, Cond.initialized RX1, Cond.fieldLink RX0 12 "CaneSlices$Cane" "pattern" "LCaneSlices$Pattern;", Cond.fieldLink RX0 18 "CaneSlices$Cane" "length" "I", Cond.fieldLink RX0 22 "CaneSlices$Cane" "heat" "I", Cond.methodLink RX0 11 yX1_init, Cond.instanceMethod yX1_init, Cond.code yX1_init cX1_init 1 none, Cond.methodLink RX1 3 objectInit, Cond.arrayClass .int]
def wsX3_begin_r2 : List Cond := [Cond.fieldLink RX1 9 "CaneSlices$Pattern" "colours" "[I"]
def wsX3_begin : List Cond := .code yX3_begin cX3_begin 2 (some .int) :: ((wsX3_begin_r1 ++ wsX3_begin_r2) ++ wsX30 ++ wsX00 ++ wsX10 ++ (vx_atS RX3 35 "java/lang/IllegalStateException" ["java/lang/RuntimeException", "java/lang/Exception"]).filter goodWord)
def wsX3_caneAt : List Cond := .code yX3_caneAt cX3_caneAt 2 (some (.object "CaneSlices$Cane")) :: ([.fieldLink RX3 11 "CaneSlices" "canes" "[LCaneSlices$Cane;"] ++ wsX30)
def wsX3_isRing : List Cond := .code yX3_isRing cX3_isRing 1 (some .boolean) :: ([])
def wsX3_isSector : List Cond := .code yX3_isSector cX3_isSector 1 (some .boolean) :: ([])
def wsX3_passMinute : List Cond := .code yX3_passMinute cX3_passMinute 3 none :: ([.fieldLink RX3 11 "CaneSlices" "canes" "[LCaneSlices$Cane;", .fieldLink RX3 24 "CaneSlices" "inFurnace" "I", .fieldLink RX3 251 "CaneSlices" "minute" "I", .methodLink RX3 248 yX0_passMinute, .instanceMethod yX0_passMinute, .selects RX0 yX0_passMinute yX0_passMinute, .initialized RX0, .code yX0_passMinute cX0_passMinute 2 none, .fieldLink RX0 22 "CaneSlices$Cane" "heat" "I", .methodLink RX0 32 Lib.Math.min.name, .static Lib.Math.min.name, .initialized "java/lang/Math", .code Lib.Math.min.name Lib.Math.min.code 2 (some .int), .methodLink RX0 38 Lib.Math.max.name, .static Lib.Math.max.name, .code Lib.Math.max.name Lib.Math.max.code 2 (some .int)] ++ wsX30 ++ wsX00)
def wsX3_lay_r1 : List Cond := [Cond.classLink RX3 43 "java/lang/IndexOutOfBoundsException", Cond.initialized "java/lang/IndexOutOfBoundsException", Cond.classLink RX3 55 "java/lang/IllegalArgumentException", Cond.initialized "java/lang/IllegalArgumentException", Cond.classLink RX3 31 "java/lang/IllegalStateException", Cond.initialized "java/lang/IllegalStateException", Cond.methodLink RX3 39 yX3_caneAt, Cond.instanceMethod yX3_caneAt, Cond.selects RX3 yX3_caneAt yX3_caneAt, Cond.initialized RX3, Cond.code yX3_caneAt cX3_caneAt 2 (some (.object "CaneSlices$Cane")), Cond.fieldLink RX3 11 "CaneSlices" "canes" "[LCaneSlices$Cane;", Cond.methodLink RX3 48 yX3_isRing, Cond.static yX3_isRing, Cond.code yX3_isRing cX3_isRing 1 (some .boolean), Cond.methodLink RX3 52 yX3_isSector, Cond.static yX3_isSector, Cond.code yX3_isSector cX3_isSector 1 (some .boolean), Cond.methodLink RX3 68 yX0_startWorking, Cond.instanceMethod yX0_startWorking, Cond.selects RX0 yX0_startWorking yX0_startWorking, Cond.initialized RX0, Cond.code yX0_startWorking cX0_startWorking 2 (some .boolean), Cond.fieldLink RX0 22 "CaneSlices$Cane" "heat" "I"]
def wsX3_lay_r2 : List Cond := [Cond.fieldLink RX0 28 "CaneSlices$Cane" "cracked" "Z", Cond.methodLink RX3 75 yX1_paint, Cond.instanceMethod yX1_paint, Cond.selects RX1 yX1_paint yX1_paint, Cond.initialized RX1, Cond.code yX1_paint cX1_paint 6 none, Cond.fieldLink RX1 9 "CaneSlices$Pattern" "colours" "[I", Cond.methodLink RX1 21 yX1_indexOf, Cond.static yX1_indexOf, Cond.code yX1_indexOf cX1_indexOf 2 (some .int), Cond.methodLink RX1 15 yJ9_floorMod_7cf53, Cond.static yJ9_floorMod_7cf53, Cond.initialized RJ9, Cond.code yJ9_floorMod_7cf53 cJ9_floorMod_7cf53 3 (some .int), Cond.methodLink RX3 81 yX3_passMinute, Cond.instanceMethod yX3_passMinute, Cond.selects RX3 yX3_passMinute yX3_passMinute, Cond.code yX3_passMinute cX3_passMinute 3 none, Cond.fieldLink RX3 24 "CaneSlices" "inFurnace" "I", Cond.fieldLink RX3 251 "CaneSlices" "minute" "I", Cond.methodLink RX3 248 yX0_passMinute, Cond.instanceMethod yX0_passMinute, Cond.selects RX0 yX0_passMinute yX0_passMinute, Cond.code yX0_passMinute cX0_passMinute 2 none]
def wsX3_lay_r3 : List Cond := [Cond.methodLink RX0 32 Lib.Math.min.name, Cond.static Lib.Math.min.name, Cond.initialized "java/lang/Math", Cond.code Lib.Math.min.name Lib.Math.min.code 2 (some .int), Cond.methodLink RX0 38 Lib.Math.max.name, Cond.static Lib.Math.max.name, Cond.code Lib.Math.max.name Lib.Math.max.code 2 (some .int)]
def wsX3_lay : List Cond := .code yX3_lay cX3_lay 8 (some .boolean) :: ((wsX3_lay_r1 ++ (wsX3_lay_r2 ++ wsX3_lay_r3)) ++ wsX00 ++ wsX30 ++ wsX10 ++ (vx_atS RX3 47 "java/lang/IndexOutOfBoundsException" ["java/lang/RuntimeException", "java/lang/Exception"]).filter goodWord ++ (vx_atS RX3 59 "java/lang/IllegalArgumentException" ["java/lang/RuntimeException", "java/lang/Exception"]).filter goodWord ++ (vx_atS RX3 35 "java/lang/IllegalStateException" ["java/lang/RuntimeException", "java/lang/Exception"]).filter goodWord)
def wsX3_isTwist : List Cond := .code yX3_isTwist cX3_isTwist 1 (some .boolean) :: ([])
def wsX3_twist_r1 : List Cond := [Cond.classLink RX3 43 "java/lang/IndexOutOfBoundsException", Cond.initialized "java/lang/IndexOutOfBoundsException", Cond.classLink RX3 55 "java/lang/IllegalArgumentException", Cond.initialized "java/lang/IllegalArgumentException", Cond.classLink RX3 31 "java/lang/IllegalStateException", Cond.initialized "java/lang/IllegalStateException", Cond.methodLink RX3 39 yX3_caneAt, Cond.instanceMethod yX3_caneAt, Cond.selects RX3 yX3_caneAt yX3_caneAt, Cond.initialized RX3, Cond.code yX3_caneAt cX3_caneAt 2 (some (.object "CaneSlices$Cane")), Cond.fieldLink RX3 11 "CaneSlices" "canes" "[LCaneSlices$Cane;", Cond.methodLink RX3 84 yX3_isTwist, Cond.static yX3_isTwist, Cond.code yX3_isTwist cX3_isTwist 1 (some .boolean), Cond.methodLink RX3 68 yX0_startWorking, Cond.instanceMethod yX0_startWorking, Cond.selects RX0 yX0_startWorking yX0_startWorking, Cond.initialized RX0, Cond.code yX0_startWorking cX0_startWorking 2 (some .boolean), Cond.fieldLink RX0 22 "CaneSlices$Cane" "heat" "I", Cond.fieldLink RX0 28 "CaneSlices$Cane" "cracked" "Z", Cond.methodLink RX3 81 yX3_passMinute, Cond.instanceMethod yX3_passMinute]
def wsX3_twist_r2 : List Cond := [Cond.selects RX3 yX3_passMinute yX3_passMinute, Cond.code yX3_passMinute cX3_passMinute 3 none, Cond.fieldLink RX3 24 "CaneSlices" "inFurnace" "I", Cond.fieldLink RX3 251 "CaneSlices" "minute" "I", Cond.methodLink RX3 248 yX0_passMinute, Cond.instanceMethod yX0_passMinute, Cond.selects RX0 yX0_passMinute yX0_passMinute, Cond.code yX0_passMinute cX0_passMinute 2 none, Cond.methodLink RX0 32 Lib.Math.min.name, Cond.static Lib.Math.min.name, Cond.initialized "java/lang/Math", Cond.code Lib.Math.min.name Lib.Math.min.code 2 (some .int), Cond.methodLink RX0 38 Lib.Math.max.name, Cond.static Lib.Math.max.name, Cond.code Lib.Math.max.name Lib.Math.max.code 2 (some .int)]
def wsX3_twist : List Cond := .code yX3_twist cX3_twist 5 (some .boolean) :: ((wsX3_twist_r1 ++ wsX3_twist_r2) ++ wsX00 ++ wsX30 ++ (vx_atS RX3 47 "java/lang/IndexOutOfBoundsException" ["java/lang/RuntimeException", "java/lang/Exception"]).filter goodWord ++ (vx_atS RX3 59 "java/lang/IllegalArgumentException" ["java/lang/RuntimeException", "java/lang/Exception"]).filter goodWord ++ (vx_atS RX3 35 "java/lang/IllegalStateException" ["java/lang/RuntimeException", "java/lang/Exception"]).filter goodWord)
def wsX3_pull_r1 : List Cond := [Cond.classLink RX3 43 "java/lang/IndexOutOfBoundsException", Cond.initialized "java/lang/IndexOutOfBoundsException", Cond.classLink RX3 31 "java/lang/IllegalStateException", Cond.initialized "java/lang/IllegalStateException", Cond.methodLink RX3 39 yX3_caneAt, Cond.instanceMethod yX3_caneAt, Cond.selects RX3 yX3_caneAt yX3_caneAt, Cond.initialized RX3, Cond.code yX3_caneAt cX3_caneAt 2 (some (.object "CaneSlices$Cane")), Cond.fieldLink RX3 11 "CaneSlices" "canes" "[LCaneSlices$Cane;", Cond.methodLink RX3 68 yX0_startWorking, Cond.instanceMethod yX0_startWorking, Cond.selects RX0 yX0_startWorking yX0_startWorking, Cond.initialized RX0, Cond.code yX0_startWorking cX0_startWorking 2 (some .boolean), Cond.fieldLink RX0 22 "CaneSlices$Cane" "heat" "I", Cond.fieldLink RX0 28 "CaneSlices$Cane" "cracked" "Z", Cond.methodLink RX3 94 yX0_stretch, Cond.instanceMethod yX0_stretch, Cond.selects RX0 yX0_stretch yX0_stretch, Cond.code yX0_stretch cX0_stretch 1 none, Cond.fieldLink RX0 18 "CaneSlices$Cane" "length" "I", Cond.methodLink RX0 32 Lib.Math.min.name, Cond.static Lib.Math.min.name]
def wsX3_pull_r2 : List Cond := [Cond.initialized "java/lang/Math", Cond.code Lib.Math.min.name Lib.Math.min.code 2 (some .int), Cond.fieldLink RX0 25 "CaneSlices$Cane" "twist" "I", Cond.methodLink RX3 81 yX3_passMinute, Cond.instanceMethod yX3_passMinute, Cond.selects RX3 yX3_passMinute yX3_passMinute, Cond.code yX3_passMinute cX3_passMinute 3 none, Cond.fieldLink RX3 24 "CaneSlices" "inFurnace" "I", Cond.fieldLink RX3 251 "CaneSlices" "minute" "I", Cond.methodLink RX3 248 yX0_passMinute, Cond.instanceMethod yX0_passMinute, Cond.selects RX0 yX0_passMinute yX0_passMinute, Cond.code yX0_passMinute cX0_passMinute 2 none, Cond.methodLink RX0 38 Lib.Math.max.name, Cond.static Lib.Math.max.name, Cond.code Lib.Math.max.name Lib.Math.max.code 2 (some .int)]
def wsX3_pull : List Cond := .code yX3_pull cX3_pull 4 (some .boolean) :: ((wsX3_pull_r1 ++ wsX3_pull_r2) ++ wsX00 ++ wsX30 ++ (vx_atS RX3 47 "java/lang/IndexOutOfBoundsException" ["java/lang/RuntimeException", "java/lang/Exception"]).filter goodWord ++ (vx_atS RX3 35 "java/lang/IllegalStateException" ["java/lang/RuntimeException", "java/lang/Exception"]).filter goodWord)
def wsX3_furnace : List Cond := .code yX3_furnace cX3_furnace 3 (some .int) :: ([.classLink RX3 43 "java/lang/IndexOutOfBoundsException", .initialized "java/lang/IndexOutOfBoundsException", .fieldLink RX3 24 "CaneSlices" "inFurnace" "I", .methodLink RX3 39 yX3_caneAt, .instanceMethod yX3_caneAt, .selects RX3 yX3_caneAt yX3_caneAt, .initialized RX3, .code yX3_caneAt cX3_caneAt 2 (some (.object "CaneSlices$Cane")), .fieldLink RX3 11 "CaneSlices" "canes" "[LCaneSlices$Cane;"] ++ wsX30 ++ (vx_atS RX3 47 "java/lang/IndexOutOfBoundsException" ["java/lang/RuntimeException", "java/lang/Exception"]).filter goodWord)
def wsX3_heatOfAll : List Cond := .code yX3_heatOfAll cX3_heatOfAll 6 (some .int) :: ([.fieldLink RX3 11 "CaneSlices" "canes" "[LCaneSlices$Cane;"] ++ wsX30 ++ wsX00)
def wsX3_rest_r1 : List Cond := [Cond.classLink RX3 55 "java/lang/IllegalArgumentException", Cond.initialized "java/lang/IllegalArgumentException", Cond.methodLink RX3 81 yX3_passMinute, Cond.instanceMethod yX3_passMinute, Cond.selects RX3 yX3_passMinute yX3_passMinute, Cond.initialized RX3, Cond.code yX3_passMinute cX3_passMinute 3 none, Cond.fieldLink RX3 11 "CaneSlices" "canes" "[LCaneSlices$Cane;", Cond.fieldLink RX3 24 "CaneSlices" "inFurnace" "I", Cond.fieldLink RX3 251 "CaneSlices" "minute" "I", Cond.methodLink RX3 248 yX0_passMinute, Cond.instanceMethod yX0_passMinute, Cond.selects RX0 yX0_passMinute yX0_passMinute, Cond.initialized RX0, Cond.code yX0_passMinute cX0_passMinute 2 none, Cond.fieldLink RX0 22 "CaneSlices$Cane" "heat" "I", Cond.methodLink RX0 32 Lib.Math.min.name, Cond.static Lib.Math.min.name, Cond.initialized "java/lang/Math", Cond.code Lib.Math.min.name Lib.Math.min.code 2 (some .int), Cond.methodLink RX0 38 Lib.Math.max.name, Cond.static Lib.Math.max.name, Cond.code Lib.Math.max.name Lib.Math.max.code 2 (some .int), Cond.methodLink RX3 99 yX3_heatOfAll]
def wsX3_rest_r2 : List Cond := [Cond.instanceMethod yX3_heatOfAll, Cond.selects RX3 yX3_heatOfAll yX3_heatOfAll, Cond.code yX3_heatOfAll cX3_heatOfAll 6 (some .int)]
def wsX3_rest : List Cond := .code yX3_rest cX3_rest 3 (some .int) :: ((wsX3_rest_r1 ++ wsX3_rest_r2) ++ wsX30 ++ wsX00 ++ (vx_atS RX3 59 "java/lang/IllegalArgumentException" ["java/lang/RuntimeException", "java/lang/Exception"]).filter goodWord)
def wsX3_kindOf : List Cond := .code yX3_kindOf cX3_kindOf 4 (some .int) :: ([.fieldLink RX3 17 "CaneSlices" "slices" "[LCaneSlices$Slice;", .fieldLink RX3 111 "CaneSlices" "sliceCount" "I", .methodLink RX3 212 yX1_leastTurnTo, .instanceMethod yX1_leastTurnTo, .selects RX1 yX1_leastTurnTo yX1_leastTurnTo, .initialized RX1, .code yX1_leastTurnTo cX1_leastTurnTo 3 (some .int), .methodLink RX1 29 yX1_looksLike, .instanceMethod yX1_looksLike, .selects RX1 yX1_looksLike yX1_looksLike, .code yX1_looksLike cX1_looksLike 5 (some .boolean), .fieldLink RX1 9 "CaneSlices$Pattern" "colours" "[I", .methodLink RX1 25 yX1_colourAt, .instanceMethod yX1_colourAt, .selects RX1 yX1_colourAt yX1_colourAt, .code yX1_colourAt cX1_colourAt 4 (some .int), .methodLink RX1 21 yX1_indexOf, .static yX1_indexOf, .code yX1_indexOf cX1_indexOf 2 (some .int), .methodLink RX1 15 yJ9_floorMod_7cf53, .static yJ9_floorMod_7cf53, .initialized RJ9, .code yJ9_floorMod_7cf53 cJ9_floorMod_7cf53 3 (some .int)] ++ wsX30 ++ wsX20 ++ wsX10)
def wsX3_cut_r1 : List Cond := [Cond.classLink RX3 43 "java/lang/IndexOutOfBoundsException", Cond.initialized "java/lang/IndexOutOfBoundsException", Cond.classLink RX3 31 "java/lang/IllegalStateException", Cond.initialized "java/lang/IllegalStateException", Cond.fieldLink RX3 111 "CaneSlices" "sliceCount" "I", Cond.fieldLink RX3 17 "CaneSlices" "slices" "[LCaneSlices$Slice;", Cond.classLink RX3 15 RX2, Cond.instantiable RX2 5, Cond.initialized RX2, Cond.methodLink RX3 39 yX3_caneAt, Cond.instanceMethod yX3_caneAt, Cond.selects RX3 yX3_caneAt yX3_caneAt, Cond.initialized RX3, Cond.code yX3_caneAt cX3_caneAt 2 (some (.object "CaneSlices$Cane")), Cond.fieldLink RX3 11 "CaneSlices" "canes" "[LCaneSlices$Cane;", Cond.methodLink RX3 116 yX0_turnAt, Cond.instanceMethod yX0_turnAt, Cond.selects RX0 yX0_turnAt yX0_turnAt, Cond.initialized RX0, Cond.code yX0_turnAt cX0_turnAt 2 (some .int), Cond.fieldLink RX0 25 "CaneSlices$Cane" "twist" "I", Cond.methodLink RX3 120 yX1_turned, Cond.instanceMethod yX1_turned, Cond.selects RX1 yX1_turned yX1_turned]
def wsX3_cut_r2 : List Cond := [Cond.initialized RX1, Cond.code yX1_turned cX1_turned 5 (some (.object "CaneSlices$Pattern")), Cond.classLink RX1 10 RX1, Cond.instantiable RX1 1, Cond.fieldLink RX1 9 "CaneSlices$Pattern" "colours" "[I", Cond.methodLink RX1 24 yX1_init, Cond.instanceMethod yX1_init, Cond.code yX1_init cX1_init 1 none, Cond.methodLink RX1 3 objectInit, Cond.instanceMethod objectInit, Cond.code objectInit ⟨#[0xb1]⟩ 1 none, Cond.arrayClass .int, Cond.methodLink RX1 25 yX1_colourAt, Cond.instanceMethod yX1_colourAt, Cond.selects RX1 yX1_colourAt yX1_colourAt, Cond.code yX1_colourAt cX1_colourAt 4 (some .int), Cond.methodLink RX1 21 yX1_indexOf, Cond.static yX1_indexOf, Cond.code yX1_indexOf cX1_indexOf 2 (some .int), Cond.methodLink RX1 15 yJ9_floorMod_7cf53, Cond.static yJ9_floorMod_7cf53, Cond.initialized RJ9, Cond.code yJ9_floorMod_7cf53 cJ9_floorMod_7cf53 3 (some .int), Cond.methodLink RX3 124 yX3_kindOf]
def wsX3_cut_r3 : List Cond := [Cond.instanceMethod yX3_kindOf, Cond.selects RX3 yX3_kindOf yX3_kindOf, Cond.code yX3_kindOf cX3_kindOf 4 (some .int), Cond.methodLink RX3 212 yX1_leastTurnTo, Cond.instanceMethod yX1_leastTurnTo, Cond.selects RX1 yX1_leastTurnTo yX1_leastTurnTo, Cond.code yX1_leastTurnTo cX1_leastTurnTo 3 (some .int), Cond.methodLink RX1 29 yX1_looksLike, Cond.instanceMethod yX1_looksLike, Cond.selects RX1 yX1_looksLike yX1_looksLike, Cond.code yX1_looksLike cX1_looksLike 5 (some .boolean), Cond.methodLink RX3 128 yX2_init, Cond.instanceMethod yX2_init, Cond.code yX2_init cX2_init 4 none, Cond.methodLink RX2 3 objectInit, Cond.fieldLink RX2 9 "CaneSlices$Slice" "number" "I", Cond.fieldLink RX2 15 "CaneSlices$Slice" "pattern" "LCaneSlices$Pattern;", Cond.fieldLink RX2 19 "CaneSlices$Slice" "kind" "I", Cond.fieldLink RX2 22 "CaneSlices$Slice" "eye" "I"]
def wsX3_cut : List Cond := .code yX3_cut cX3_cut 5 (some .int) :: ((wsX3_cut_r1 ++ (wsX3_cut_r2 ++ wsX3_cut_r3)) ++ wsX00 ++ wsX30 ++ wsX20 ++ wsX10 ++ (vx_atS RX3 47 "java/lang/IndexOutOfBoundsException" ["java/lang/RuntimeException", "java/lang/Exception"]).filter goodWord ++ (vx_atS RX3 35 "java/lang/IllegalStateException" ["java/lang/RuntimeException", "java/lang/Exception"]).filter goodWord)
def wsX3_cane : List Cond := .code yX3_cane cX3_cane 4 (some .int) :: ([.classLink RX3 43 "java/lang/IndexOutOfBoundsException", .initialized "java/lang/IndexOutOfBoundsException", .fieldLink RX3 24 "CaneSlices" "inFurnace" "I", .methodLink RX3 39 yX3_caneAt, .instanceMethod yX3_caneAt, .selects RX3 yX3_caneAt yX3_caneAt, .initialized RX3, .code yX3_caneAt cX3_caneAt 2 (some (.object "CaneSlices$Cane")), .fieldLink RX3 11 "CaneSlices" "canes" "[LCaneSlices$Cane;", .methodLink RX3 133 yX0_tell, .instanceMethod yX0_tell, .selects RX0 yX0_tell yX0_tell, .initialized RX0, .code yX0_tell cX0_tell 3 (some .int), .fieldLink RX0 18 "CaneSlices$Cane" "length" "I", .fieldLink RX0 25 "CaneSlices$Cane" "twist" "I", .fieldLink RX0 22 "CaneSlices$Cane" "heat" "I", .fieldLink RX0 28 "CaneSlices$Cane" "cracked" "Z"] ++ wsX30 ++ wsX00 ++ (vx_atS RX3 47 "java/lang/IndexOutOfBoundsException" ["java/lang/RuntimeException", "java/lang/Exception"]).filter goodWord)
def wsX3_shows_r1 : List Cond := [Cond.classLink RX3 43 "java/lang/IndexOutOfBoundsException", Cond.initialized "java/lang/IndexOutOfBoundsException", Cond.methodLink RX3 39 yX3_caneAt, Cond.instanceMethod yX3_caneAt, Cond.selects RX3 yX3_caneAt yX3_caneAt, Cond.initialized RX3, Cond.code yX3_caneAt cX3_caneAt 2 (some (.object "CaneSlices$Cane")), Cond.fieldLink RX3 11 "CaneSlices" "canes" "[LCaneSlices$Cane;", Cond.methodLink RX3 137 yX0_hasPlace, Cond.instanceMethod yX0_hasPlace, Cond.selects RX0 yX0_hasPlace yX0_hasPlace, Cond.initialized RX0, Cond.code yX0_hasPlace cX0_hasPlace 2 (some .boolean), Cond.fieldLink RX0 18 "CaneSlices$Cane" "length" "I", Cond.methodLink RX3 48 yX3_isRing, Cond.static yX3_isRing, Cond.code yX3_isRing cX3_isRing 1 (some .boolean), Cond.methodLink RX3 52 yX3_isSector, Cond.static yX3_isSector, Cond.code yX3_isSector cX3_isSector 1 (some .boolean), Cond.methodLink RX3 116 yX0_turnAt, Cond.instanceMethod yX0_turnAt, Cond.selects RX0 yX0_turnAt yX0_turnAt, Cond.code yX0_turnAt cX0_turnAt 2 (some .int)]
def wsX3_shows_r2 : List Cond := [Cond.fieldLink RX0 25 "CaneSlices$Cane" "twist" "I", Cond.methodLink RX3 142 yX1_colourAt, Cond.instanceMethod yX1_colourAt, Cond.selects RX1 yX1_colourAt yX1_colourAt, Cond.initialized RX1, Cond.code yX1_colourAt cX1_colourAt 4 (some .int), Cond.fieldLink RX1 9 "CaneSlices$Pattern" "colours" "[I", Cond.methodLink RX1 21 yX1_indexOf, Cond.static yX1_indexOf, Cond.code yX1_indexOf cX1_indexOf 2 (some .int), Cond.methodLink RX1 15 yJ9_floorMod_7cf53, Cond.static yJ9_floorMod_7cf53, Cond.initialized RJ9, Cond.code yJ9_floorMod_7cf53 cJ9_floorMod_7cf53 3 (some .int)]
def wsX3_shows : List Cond := .code yX3_shows cX3_shows 6 (some .int) :: ((wsX3_shows_r1 ++ wsX3_shows_r2) ++ wsX00 ++ wsX30 ++ wsX10 ++ (vx_atS RX3 47 "java/lang/IndexOutOfBoundsException" ["java/lang/RuntimeException", "java/lang/Exception"]).filter goodWord)
def wsX3_sliceAt : List Cond := .code yX3_sliceAt cX3_sliceAt 2 (some (.object "CaneSlices$Slice")) :: ([.fieldLink RX3 17 "CaneSlices" "slices" "[LCaneSlices$Slice;"] ++ wsX30)
def wsX3_colour_r1 : List Cond := [Cond.classLink RX3 43 "java/lang/IndexOutOfBoundsException", Cond.initialized "java/lang/IndexOutOfBoundsException", Cond.methodLink RX3 146 yX3_sliceAt, Cond.instanceMethod yX3_sliceAt, Cond.selects RX3 yX3_sliceAt yX3_sliceAt, Cond.initialized RX3, Cond.code yX3_sliceAt cX3_sliceAt 2 (some (.object "CaneSlices$Slice")), Cond.fieldLink RX3 17 "CaneSlices" "slices" "[LCaneSlices$Slice;", Cond.methodLink RX3 48 yX3_isRing, Cond.static yX3_isRing, Cond.code yX3_isRing cX3_isRing 1 (some .boolean), Cond.methodLink RX3 52 yX3_isSector, Cond.static yX3_isSector, Cond.code yX3_isSector cX3_isSector 1 (some .boolean), Cond.methodLink RX3 142 yX1_colourAt, Cond.instanceMethod yX1_colourAt, Cond.selects RX1 yX1_colourAt yX1_colourAt, Cond.initialized RX1, Cond.code yX1_colourAt cX1_colourAt 4 (some .int), Cond.fieldLink RX1 9 "CaneSlices$Pattern" "colours" "[I", Cond.methodLink RX1 21 yX1_indexOf, Cond.static yX1_indexOf, Cond.code yX1_indexOf cX1_indexOf 2 (some .int), Cond.methodLink RX1 15 yJ9_floorMod_7cf53]
def wsX3_colour_r2 : List Cond := [Cond.static yJ9_floorMod_7cf53, Cond.initialized RJ9, Cond.code yJ9_floorMod_7cf53 cJ9_floorMod_7cf53 3 (some .int)]
def wsX3_colour : List Cond := .code yX3_colour cX3_colour 5 (some .int) :: ((wsX3_colour_r1 ++ wsX3_colour_r2) ++ wsX20 ++ wsX30 ++ wsX10 ++ (vx_atS RX3 47 "java/lang/IndexOutOfBoundsException" ["java/lang/RuntimeException", "java/lang/Exception"]).filter goodWord)
def wsX3_where : List Cond := .code yX3_where cX3_where 3 (some .int) :: ([.classLink RX3 43 "java/lang/IndexOutOfBoundsException", .initialized "java/lang/IndexOutOfBoundsException", .methodLink RX3 146 yX3_sliceAt, .instanceMethod yX3_sliceAt, .selects RX3 yX3_sliceAt yX3_sliceAt, .initialized RX3, .code yX3_sliceAt cX3_sliceAt 2 (some (.object "CaneSlices$Slice")), .fieldLink RX3 17 "CaneSlices" "slices" "[LCaneSlices$Slice;"] ++ wsX20 ++ wsX30 ++ (vx_atS RX3 47 "java/lang/IndexOutOfBoundsException" ["java/lang/RuntimeException", "java/lang/Exception"]).filter goodWord)
def wsX3_bead : List Cond := .code yX3_bead cX3_bead 2 (some .int) :: ([.classLink RX3 31 "java/lang/IllegalStateException", .initialized "java/lang/IllegalStateException", .fieldLink RX3 158 "CaneSlices" "beadCount" "I"] ++ wsX30 ++ (vx_atS RX3 35 "java/lang/IllegalStateException" ["java/lang/RuntimeException", "java/lang/Exception"]).filter goodWord)
def wsX3_isBead : List Cond := .code yX3_isBead cX3_isBead 2 (some .boolean) :: ([.fieldLink RX3 158 "CaneSlices" "beadCount" "I"] ++ wsX30)
def wsX3_isEye : List Cond := .code yX3_isEye cX3_isEye 1 (some .boolean) :: ([])
def wsX3_filledEyes : List Cond := .code yX3_filledEyes cX3_filledEyes 4 (some .int) :: ([.fieldLink RX3 21 "CaneSlices" "eyes" "[LCaneSlices$Slice;"] ++ wsX30)
def wsX3_set_r1 : List Cond := [Cond.classLink RX3 43 "java/lang/IndexOutOfBoundsException", Cond.initialized "java/lang/IndexOutOfBoundsException", Cond.classLink RX3 55 "java/lang/IllegalArgumentException", Cond.initialized "java/lang/IllegalArgumentException", Cond.classLink RX3 31 "java/lang/IllegalStateException", Cond.initialized "java/lang/IllegalStateException", Cond.fieldLink RX3 21 "CaneSlices" "eyes" "[LCaneSlices$Slice;", Cond.methodLink RX3 146 yX3_sliceAt, Cond.instanceMethod yX3_sliceAt, Cond.selects RX3 yX3_sliceAt yX3_sliceAt, Cond.initialized RX3, Cond.code yX3_sliceAt cX3_sliceAt 2 (some (.object "CaneSlices$Slice")), Cond.fieldLink RX3 17 "CaneSlices" "slices" "[LCaneSlices$Slice;", Cond.methodLink RX3 163 yX3_isBead, Cond.instanceMethod yX3_isBead, Cond.selects RX3 yX3_isBead yX3_isBead, Cond.code yX3_isBead cX3_isBead 2 (some .boolean), Cond.fieldLink RX3 158 "CaneSlices" "beadCount" "I", Cond.methodLink RX3 166 yX3_isEye, Cond.static yX3_isEye, Cond.code yX3_isEye cX3_isEye 1 (some .boolean), Cond.methodLink RX3 52 yX3_isSector, Cond.static yX3_isSector, Cond.code yX3_isSector cX3_isSector 1 (some .boolean)]
def wsX3_set_r2 : List Cond := [Cond.methodLink RX3 173 yX2_isFree, Cond.instanceMethod yX2_isFree, Cond.selects RX2 yX2_isFree yX2_isFree, Cond.initialized RX2, Cond.code yX2_isFree cX2_isFree 1 (some .boolean), Cond.fieldLink RX2 22 "CaneSlices$Slice" "eye" "I", Cond.methodLink RX3 179 yX2_enter, Cond.instanceMethod yX2_enter, Cond.selects RX2 yX2_enter yX2_enter, Cond.code yX2_enter cX2_enter 3 none, Cond.fieldLink RX2 25 "CaneSlices$Slice" "turn" "I", Cond.methodLink RX3 183 yX3_filledEyes, Cond.instanceMethod yX3_filledEyes, Cond.selects RX3 yX3_filledEyes yX3_filledEyes, Cond.code yX3_filledEyes cX3_filledEyes 4 (some .int)]
def wsX3_set : List Cond := .code yX3_set cX3_set 7 (some .int) :: ((wsX3_set_r1 ++ wsX3_set_r2) ++ wsX30 ++ wsX20 ++ (vx_atS RX3 47 "java/lang/IndexOutOfBoundsException" ["java/lang/RuntimeException", "java/lang/Exception"]).filter goodWord ++ (vx_atS RX3 59 "java/lang/IllegalArgumentException" ["java/lang/RuntimeException", "java/lang/Exception"]).filter goodWord ++ (vx_atS RX3 35 "java/lang/IllegalStateException" ["java/lang/RuntimeException", "java/lang/Exception"]).filter goodWord)
def wsX3_drop : List Cond := .code yX3_drop cX3_drop 5 (some .int) :: ([.classLink RX3 43 "java/lang/IndexOutOfBoundsException", .initialized "java/lang/IndexOutOfBoundsException", .classLink RX3 31 "java/lang/IllegalStateException", .initialized "java/lang/IllegalStateException", .fieldLink RX3 21 "CaneSlices" "eyes" "[LCaneSlices$Slice;", .methodLink RX3 163 yX3_isBead, .instanceMethod yX3_isBead, .selects RX3 yX3_isBead yX3_isBead, .initialized RX3, .code yX3_isBead cX3_isBead 2 (some .boolean), .fieldLink RX3 158 "CaneSlices" "beadCount" "I", .methodLink RX3 166 yX3_isEye, .static yX3_isEye, .code yX3_isEye cX3_isEye 1 (some .boolean), .methodLink RX3 190 yX2_leave, .instanceMethod yX2_leave, .selects RX2 yX2_leave yX2_leave, .initialized RX2, .code yX2_leave cX2_leave 1 none, .fieldLink RX2 22 "CaneSlices$Slice" "eye" "I", .fieldLink RX2 25 "CaneSlices$Slice" "turn" "I"] ++ wsX30 ++ wsX20 ++ (vx_atS RX3 47 "java/lang/IndexOutOfBoundsException" ["java/lang/RuntimeException", "java/lang/Exception"]).filter goodWord ++ (vx_atS RX3 35 "java/lang/IllegalStateException" ["java/lang/RuntimeException", "java/lang/Exception"]).filter goodWord)
def wsX3_seen_r1 : List Cond := [Cond.classLink RX3 43 "java/lang/IndexOutOfBoundsException", Cond.initialized "java/lang/IndexOutOfBoundsException", Cond.fieldLink RX3 21 "CaneSlices" "eyes" "[LCaneSlices$Slice;", Cond.methodLink RX3 163 yX3_isBead, Cond.instanceMethod yX3_isBead, Cond.selects RX3 yX3_isBead yX3_isBead, Cond.initialized RX3, Cond.code yX3_isBead cX3_isBead 2 (some .boolean), Cond.fieldLink RX3 158 "CaneSlices" "beadCount" "I", Cond.methodLink RX3 166 yX3_isEye, Cond.static yX3_isEye, Cond.code yX3_isEye cX3_isEye 1 (some .boolean), Cond.methodLink RX3 48 yX3_isRing, Cond.static yX3_isRing, Cond.code yX3_isRing cX3_isRing 1 (some .boolean), Cond.methodLink RX3 52 yX3_isSector, Cond.static yX3_isSector, Cond.code yX3_isSector cX3_isSector 1 (some .boolean), Cond.methodLink RX3 142 yX1_colourAt, Cond.instanceMethod yX1_colourAt, Cond.selects RX1 yX1_colourAt yX1_colourAt, Cond.initialized RX1, Cond.code yX1_colourAt cX1_colourAt 4 (some .int), Cond.fieldLink RX1 9 "CaneSlices$Pattern" "colours" "[I"]
def wsX3_seen_r2 : List Cond := [Cond.methodLink RX1 21 yX1_indexOf, Cond.static yX1_indexOf, Cond.code yX1_indexOf cX1_indexOf 2 (some .int), Cond.methodLink RX1 15 yJ9_floorMod_7cf53, Cond.static yJ9_floorMod_7cf53, Cond.initialized RJ9, Cond.code yJ9_floorMod_7cf53 cJ9_floorMod_7cf53 3 (some .int)]
def wsX3_seen : List Cond := .code yX3_seen cX3_seen 6 (some .int) :: ((wsX3_seen_r1 ++ wsX3_seen_r2) ++ wsX30 ++ wsX20 ++ wsX10 ++ (vx_atS RX3 47 "java/lang/IndexOutOfBoundsException" ["java/lang/RuntimeException", "java/lang/Exception"]).filter goodWord)
def wsX3_wholeCanes : List Cond := .code yX3_wholeCanes cX3_wholeCanes 6 (some .int) :: ([.fieldLink RX3 11 "CaneSlices" "canes" "[LCaneSlices$Cane;"] ++ wsX30 ++ wsX00)
def wsX3_slicesInEyes : List Cond := .code yX3_slicesInEyes cX3_slicesInEyes 6 (some .int) :: ([.fieldLink RX3 21 "CaneSlices" "eyes" "[LCaneSlices$Slice;"] ++ wsX30)
def wsX3_eyesLike : List Cond := .code yX3_eyesLike cX3_eyesLike 6 (some .int) :: ([.fieldLink RX3 21 "CaneSlices" "eyes" "[LCaneSlices$Slice;", .methodLink RX3 208 yX1_looksLike, .instanceMethod yX1_looksLike, .selects RX1 yX1_looksLike yX1_looksLike, .initialized RX1, .code yX1_looksLike cX1_looksLike 5 (some .boolean), .fieldLink RX1 9 "CaneSlices$Pattern" "colours" "[I", .methodLink RX1 25 yX1_colourAt, .instanceMethod yX1_colourAt, .selects RX1 yX1_colourAt yX1_colourAt, .code yX1_colourAt cX1_colourAt 4 (some .int), .methodLink RX1 21 yX1_indexOf, .static yX1_indexOf, .code yX1_indexOf cX1_indexOf 2 (some .int), .methodLink RX1 15 yJ9_floorMod_7cf53, .static yJ9_floorMod_7cf53, .initialized RJ9, .code yJ9_floorMod_7cf53 cJ9_floorMod_7cf53 3 (some .int)] ++ wsX30 ++ wsX20 ++ wsX10)
def wsX3_beadsOfOneLook : List Cond := .code yX3_beadsOfOneLook cX3_beadsOfOneLook 4 (some .int) :: ([.fieldLink RX3 158 "CaneSlices" "beadCount" "I", .fieldLink RX3 21 "CaneSlices" "eyes" "[LCaneSlices$Slice;", .methodLink RX3 222 yX3_eyesLike, .instanceMethod yX3_eyesLike, .selects RX3 yX3_eyesLike yX3_eyesLike, .initialized RX3, .code yX3_eyesLike cX3_eyesLike 6 (some .int), .methodLink RX3 208 yX1_looksLike, .instanceMethod yX1_looksLike, .selects RX1 yX1_looksLike yX1_looksLike, .initialized RX1, .code yX1_looksLike cX1_looksLike 5 (some .boolean), .fieldLink RX1 9 "CaneSlices$Pattern" "colours" "[I", .methodLink RX1 25 yX1_colourAt, .instanceMethod yX1_colourAt, .selects RX1 yX1_colourAt yX1_colourAt, .code yX1_colourAt cX1_colourAt 4 (some .int), .methodLink RX1 21 yX1_indexOf, .static yX1_indexOf, .code yX1_indexOf cX1_indexOf 2 (some .int), .methodLink RX1 15 yJ9_floorMod_7cf53, .static yJ9_floorMod_7cf53, .initialized RJ9, .code yJ9_floorMod_7cf53 cJ9_floorMod_7cf53 3 (some .int)] ++ wsX30 ++ wsX20 ++ wsX10)
def wsX3_lengthOfAll : List Cond := .code yX3_lengthOfAll cX3_lengthOfAll 6 (some .int) :: ([.fieldLink RX3 11 "CaneSlices" "canes" "[LCaneSlices$Cane;"] ++ wsX30 ++ wsX00)
def wsX3_tally_r1 : List Cond := [Cond.fieldLink RX3 251 "CaneSlices" "minute" "I", Cond.fieldLink RX3 28 "CaneSlices" "caneCount" "I", Cond.fieldLink RX3 111 "CaneSlices" "sliceCount" "I", Cond.fieldLink RX3 158 "CaneSlices" "beadCount" "I", Cond.methodLink RX3 254 yX3_wholeCanes, Cond.instanceMethod yX3_wholeCanes, Cond.selects RX3 yX3_wholeCanes yX3_wholeCanes, Cond.initialized RX3, Cond.code yX3_wholeCanes cX3_wholeCanes 6 (some .int), Cond.fieldLink RX3 11 "CaneSlices" "canes" "[LCaneSlices$Cane;", Cond.methodLink RX3 257 yX3_slicesInEyes, Cond.instanceMethod yX3_slicesInEyes, Cond.selects RX3 yX3_slicesInEyes yX3_slicesInEyes, Cond.code yX3_slicesInEyes cX3_slicesInEyes 6 (some .int), Cond.fieldLink RX3 21 "CaneSlices" "eyes" "[LCaneSlices$Slice;", Cond.methodLink RX3 260 yX3_beadsOfOneLook, Cond.instanceMethod yX3_beadsOfOneLook, Cond.selects RX3 yX3_beadsOfOneLook yX3_beadsOfOneLook, Cond.code yX3_beadsOfOneLook cX3_beadsOfOneLook 4 (some .int), Cond.methodLink RX3 222 yX3_eyesLike, Cond.instanceMethod yX3_eyesLike, Cond.selects RX3 yX3_eyesLike yX3_eyesLike, Cond.code yX3_eyesLike cX3_eyesLike 6 (some .int), Cond.methodLink RX3 208 yX1_looksLike]
def wsX3_tally_r2 : List Cond := [Cond.instanceMethod yX1_looksLike, Cond.selects RX1 yX1_looksLike yX1_looksLike, Cond.initialized RX1, Cond.code yX1_looksLike cX1_looksLike 5 (some .boolean), Cond.fieldLink RX1 9 "CaneSlices$Pattern" "colours" "[I", Cond.methodLink RX1 25 yX1_colourAt, Cond.instanceMethod yX1_colourAt, Cond.selects RX1 yX1_colourAt yX1_colourAt, Cond.code yX1_colourAt cX1_colourAt 4 (some .int), Cond.methodLink RX1 21 yX1_indexOf, Cond.static yX1_indexOf, Cond.code yX1_indexOf cX1_indexOf 2 (some .int), Cond.methodLink RX1 15 yJ9_floorMod_7cf53, Cond.static yJ9_floorMod_7cf53, Cond.initialized RJ9, Cond.code yJ9_floorMod_7cf53 cJ9_floorMod_7cf53 3 (some .int), Cond.methodLink RX3 263 yX3_lengthOfAll, Cond.instanceMethod yX3_lengthOfAll, Cond.selects RX3 yX3_lengthOfAll yX3_lengthOfAll, Cond.code yX3_lengthOfAll cX3_lengthOfAll 6 (some .int)]
def wsX3_tally : List Cond := .code yX3_tally cX3_tally 2 (some .int) :: ((wsX3_tally_r1 ++ wsX3_tally_r2) ++ wsX30 ++ wsX00 ++ wsX20 ++ wsX10)
def wsX3_count_r1 : List Cond := [Cond.classLink RX3 43 "java/lang/IndexOutOfBoundsException", Cond.initialized "java/lang/IndexOutOfBoundsException", Cond.methodLink RX3 203 yX3_tally, Cond.instanceMethod yX3_tally, Cond.selects RX3 yX3_tally yX3_tally, Cond.initialized RX3, Cond.code yX3_tally cX3_tally 2 (some .int), Cond.fieldLink RX3 251 "CaneSlices" "minute" "I", Cond.fieldLink RX3 28 "CaneSlices" "caneCount" "I", Cond.fieldLink RX3 111 "CaneSlices" "sliceCount" "I", Cond.fieldLink RX3 158 "CaneSlices" "beadCount" "I", Cond.methodLink RX3 254 yX3_wholeCanes, Cond.instanceMethod yX3_wholeCanes, Cond.selects RX3 yX3_wholeCanes yX3_wholeCanes, Cond.code yX3_wholeCanes cX3_wholeCanes 6 (some .int), Cond.fieldLink RX3 11 "CaneSlices" "canes" "[LCaneSlices$Cane;", Cond.methodLink RX3 257 yX3_slicesInEyes, Cond.instanceMethod yX3_slicesInEyes, Cond.selects RX3 yX3_slicesInEyes yX3_slicesInEyes, Cond.code yX3_slicesInEyes cX3_slicesInEyes 6 (some .int), Cond.fieldLink RX3 21 "CaneSlices" "eyes" "[LCaneSlices$Slice;", Cond.methodLink RX3 260 yX3_beadsOfOneLook, Cond.instanceMethod yX3_beadsOfOneLook, Cond.selects RX3 yX3_beadsOfOneLook yX3_beadsOfOneLook]
def wsX3_count_r2 : List Cond := [Cond.code yX3_beadsOfOneLook cX3_beadsOfOneLook 4 (some .int), Cond.methodLink RX3 222 yX3_eyesLike, Cond.instanceMethod yX3_eyesLike, Cond.selects RX3 yX3_eyesLike yX3_eyesLike, Cond.code yX3_eyesLike cX3_eyesLike 6 (some .int), Cond.methodLink RX3 208 yX1_looksLike, Cond.instanceMethod yX1_looksLike, Cond.selects RX1 yX1_looksLike yX1_looksLike, Cond.initialized RX1, Cond.code yX1_looksLike cX1_looksLike 5 (some .boolean), Cond.fieldLink RX1 9 "CaneSlices$Pattern" "colours" "[I", Cond.methodLink RX1 25 yX1_colourAt, Cond.instanceMethod yX1_colourAt, Cond.selects RX1 yX1_colourAt yX1_colourAt, Cond.code yX1_colourAt cX1_colourAt 4 (some .int), Cond.methodLink RX1 21 yX1_indexOf, Cond.static yX1_indexOf, Cond.code yX1_indexOf cX1_indexOf 2 (some .int), Cond.methodLink RX1 15 yJ9_floorMod_7cf53, Cond.static yJ9_floorMod_7cf53, Cond.initialized RJ9, Cond.code yJ9_floorMod_7cf53 cJ9_floorMod_7cf53 3 (some .int), Cond.methodLink RX3 263 yX3_lengthOfAll, Cond.instanceMethod yX3_lengthOfAll]
def wsX3_count_r3 : List Cond := [Cond.selects RX3 yX3_lengthOfAll yX3_lengthOfAll, Cond.code yX3_lengthOfAll cX3_lengthOfAll 6 (some .int)]
def wsX3_count : List Cond := .code yX3_count cX3_count 2 (some .int) :: ((wsX3_count_r1 ++ (wsX3_count_r2 ++ wsX3_count_r3)) ++ wsX30 ++ wsX00 ++ wsX20 ++ wsX10 ++ (vx_atS RX3 47 "java/lang/IndexOutOfBoundsException" ["java/lang/RuntimeException", "java/lang/Exception"]).filter goodWord)
def wsX3_again_r1 : List Cond := [Cond.classLink RX3 43 "java/lang/IndexOutOfBoundsException", Cond.initialized "java/lang/IndexOutOfBoundsException", Cond.methodLink RX3 39 yX3_caneAt, Cond.instanceMethod yX3_caneAt, Cond.selects RX3 yX3_caneAt yX3_caneAt, Cond.initialized RX3, Cond.code yX3_caneAt cX3_caneAt 2 (some (.object "CaneSlices$Cane")), Cond.fieldLink RX3 11 "CaneSlices" "canes" "[LCaneSlices$Cane;", Cond.methodLink RX3 137 yX0_hasPlace, Cond.instanceMethod yX0_hasPlace, Cond.selects RX0 yX0_hasPlace yX0_hasPlace, Cond.initialized RX0, Cond.code yX0_hasPlace cX0_hasPlace 2 (some .boolean), Cond.fieldLink RX0 18 "CaneSlices$Cane" "length" "I", Cond.methodLink RX3 116 yX0_turnAt, Cond.instanceMethod yX0_turnAt, Cond.selects RX0 yX0_turnAt yX0_turnAt, Cond.code yX0_turnAt cX0_turnAt 2 (some .int), Cond.fieldLink RX0 25 "CaneSlices$Cane" "twist" "I", Cond.methodLink RX3 208 yX1_looksLike, Cond.instanceMethod yX1_looksLike, Cond.selects RX1 yX1_looksLike yX1_looksLike, Cond.initialized RX1, Cond.code yX1_looksLike cX1_looksLike 5 (some .boolean)]
def wsX3_again_r2 : List Cond := [Cond.fieldLink RX1 9 "CaneSlices$Pattern" "colours" "[I", Cond.methodLink RX1 25 yX1_colourAt, Cond.instanceMethod yX1_colourAt, Cond.selects RX1 yX1_colourAt yX1_colourAt, Cond.code yX1_colourAt cX1_colourAt 4 (some .int), Cond.methodLink RX1 21 yX1_indexOf, Cond.static yX1_indexOf, Cond.code yX1_indexOf cX1_indexOf 2 (some .int), Cond.methodLink RX1 15 yJ9_floorMod_7cf53, Cond.static yJ9_floorMod_7cf53, Cond.initialized RJ9, Cond.code yJ9_floorMod_7cf53 cJ9_floorMod_7cf53 3 (some .int)]
def wsX3_again : List Cond := .code yX3_again cX3_again 5 (some .int) :: ((wsX3_again_r1 ++ wsX3_again_r2) ++ wsX00 ++ wsX30 ++ wsX10 ++ (vx_atS RX3 47 "java/lang/IndexOutOfBoundsException" ["java/lang/RuntimeException", "java/lang/Exception"]).filter goodWord)
def wsX3_turn_r1 : List Cond := [Cond.classLink RX3 43 "java/lang/IndexOutOfBoundsException", Cond.initialized "java/lang/IndexOutOfBoundsException", Cond.methodLink RX3 146 yX3_sliceAt, Cond.instanceMethod yX3_sliceAt, Cond.selects RX3 yX3_sliceAt yX3_sliceAt, Cond.initialized RX3, Cond.code yX3_sliceAt cX3_sliceAt 2 (some (.object "CaneSlices$Slice")), Cond.fieldLink RX3 17 "CaneSlices" "slices" "[LCaneSlices$Slice;", Cond.methodLink RX3 212 yX1_leastTurnTo, Cond.instanceMethod yX1_leastTurnTo, Cond.selects RX1 yX1_leastTurnTo yX1_leastTurnTo, Cond.initialized RX1, Cond.code yX1_leastTurnTo cX1_leastTurnTo 3 (some .int), Cond.methodLink RX1 29 yX1_looksLike, Cond.instanceMethod yX1_looksLike, Cond.selects RX1 yX1_looksLike yX1_looksLike, Cond.code yX1_looksLike cX1_looksLike 5 (some .boolean), Cond.fieldLink RX1 9 "CaneSlices$Pattern" "colours" "[I", Cond.methodLink RX1 25 yX1_colourAt, Cond.instanceMethod yX1_colourAt, Cond.selects RX1 yX1_colourAt yX1_colourAt, Cond.code yX1_colourAt cX1_colourAt 4 (some .int), Cond.methodLink RX1 21 yX1_indexOf, Cond.static yX1_indexOf]
def wsX3_turn_r2 : List Cond := [Cond.code yX1_indexOf cX1_indexOf 2 (some .int), Cond.methodLink RX1 15 yJ9_floorMod_7cf53, Cond.static yJ9_floorMod_7cf53, Cond.initialized RJ9, Cond.code yJ9_floorMod_7cf53 cJ9_floorMod_7cf53 3 (some .int)]
def wsX3_turn : List Cond := .code yX3_turn cX3_turn 5 (some .int) :: ((wsX3_turn_r1 ++ wsX3_turn_r2) ++ wsX20 ++ wsX30 ++ wsX10 ++ (vx_atS RX3 47 "java/lang/IndexOutOfBoundsException" ["java/lang/RuntimeException", "java/lang/Exception"]).filter goodWord)
def wsX3_cuts_r1 : List Cond := [Cond.classLink RX3 43 "java/lang/IndexOutOfBoundsException", Cond.initialized "java/lang/IndexOutOfBoundsException", Cond.methodLink RX3 39 yX3_caneAt, Cond.instanceMethod yX3_caneAt, Cond.selects RX3 yX3_caneAt yX3_caneAt, Cond.initialized RX3, Cond.code yX3_caneAt cX3_caneAt 2 (some (.object "CaneSlices$Cane")), Cond.fieldLink RX3 11 "CaneSlices" "canes" "[LCaneSlices$Cane;", Cond.methodLink RX3 146 yX3_sliceAt, Cond.instanceMethod yX3_sliceAt, Cond.selects RX3 yX3_sliceAt yX3_sliceAt, Cond.code yX3_sliceAt cX3_sliceAt 2 (some (.object "CaneSlices$Slice")), Cond.fieldLink RX3 17 "CaneSlices" "slices" "[LCaneSlices$Slice;", Cond.methodLink RX3 116 yX0_turnAt, Cond.instanceMethod yX0_turnAt, Cond.selects RX0 yX0_turnAt yX0_turnAt, Cond.initialized RX0, Cond.code yX0_turnAt cX0_turnAt 2 (some .int), Cond.fieldLink RX0 25 "CaneSlices$Cane" "twist" "I", Cond.methodLink RX3 208 yX1_looksLike, Cond.instanceMethod yX1_looksLike, Cond.selects RX1 yX1_looksLike yX1_looksLike, Cond.initialized RX1, Cond.code yX1_looksLike cX1_looksLike 5 (some .boolean)]
def wsX3_cuts_r2 : List Cond := [Cond.fieldLink RX1 9 "CaneSlices$Pattern" "colours" "[I", Cond.methodLink RX1 25 yX1_colourAt, Cond.instanceMethod yX1_colourAt, Cond.selects RX1 yX1_colourAt yX1_colourAt, Cond.code yX1_colourAt cX1_colourAt 4 (some .int), Cond.methodLink RX1 21 yX1_indexOf, Cond.static yX1_indexOf, Cond.code yX1_indexOf cX1_indexOf 2 (some .int), Cond.methodLink RX1 15 yJ9_floorMod_7cf53, Cond.static yJ9_floorMod_7cf53, Cond.initialized RJ9, Cond.code yJ9_floorMod_7cf53 cJ9_floorMod_7cf53 3 (some .int)]
def wsX3_cuts : List Cond := .code yX3_cuts cX3_cuts 6 (some .int) :: ((wsX3_cuts_r1 ++ wsX3_cuts_r2) ++ wsX00 ++ wsX20 ++ wsX30 ++ wsX10 ++ (vx_atS RX3 47 "java/lang/IndexOutOfBoundsException" ["java/lang/RuntimeException", "java/lang/Exception"]).filter goodWord)
def wsX3_freeSlicesOf : List Cond := .code yX3_freeSlicesOf cX3_freeSlicesOf 7 (some .int) :: ([.fieldLink RX3 17 "CaneSlices" "slices" "[LCaneSlices$Slice;", .methodLink RX3 173 yX2_isFree, .instanceMethod yX2_isFree, .selects RX2 yX2_isFree yX2_isFree, .initialized RX2, .code yX2_isFree cX2_isFree 1 (some .boolean), .fieldLink RX2 22 "CaneSlices$Slice" "eye" "I"] ++ wsX30 ++ wsX20)
def wsX3_canFillBead : List Cond := .code yX3_canFillBead cX3_canFillBead 2 (some .boolean) :: ([.fieldLink RX3 111 "CaneSlices" "sliceCount" "I", .methodLink RX3 229 yX3_freeSlicesOf, .instanceMethod yX3_freeSlicesOf, .selects RX3 yX3_freeSlicesOf yX3_freeSlicesOf, .initialized RX3, .code yX3_freeSlicesOf cX3_freeSlicesOf 7 (some .int), .fieldLink RX3 17 "CaneSlices" "slices" "[LCaneSlices$Slice;", .methodLink RX3 173 yX2_isFree, .instanceMethod yX2_isFree, .selects RX2 yX2_isFree yX2_isFree, .initialized RX2, .code yX2_isFree cX2_isFree 1 (some .boolean), .fieldLink RX2 22 "CaneSlices$Slice" "eye" "I"] ++ wsX30 ++ wsX20)
def wsX3_mends_r1 : List Cond := [Cond.classLink RX3 43 "java/lang/IndexOutOfBoundsException", Cond.initialized "java/lang/IndexOutOfBoundsException", Cond.fieldLink RX3 21 "CaneSlices" "eyes" "[LCaneSlices$Slice;", Cond.methodLink RX3 163 yX3_isBead, Cond.instanceMethod yX3_isBead, Cond.selects RX3 yX3_isBead yX3_isBead, Cond.initialized RX3, Cond.code yX3_isBead cX3_isBead 2 (some .boolean), Cond.fieldLink RX3 158 "CaneSlices" "beadCount" "I", Cond.methodLink RX3 219 yX3_canFillBead, Cond.instanceMethod yX3_canFillBead, Cond.selects RX3 yX3_canFillBead yX3_canFillBead, Cond.code yX3_canFillBead cX3_canFillBead 2 (some .boolean), Cond.fieldLink RX3 111 "CaneSlices" "sliceCount" "I", Cond.methodLink RX3 229 yX3_freeSlicesOf, Cond.instanceMethod yX3_freeSlicesOf, Cond.selects RX3 yX3_freeSlicesOf yX3_freeSlicesOf, Cond.code yX3_freeSlicesOf cX3_freeSlicesOf 7 (some .int), Cond.fieldLink RX3 17 "CaneSlices" "slices" "[LCaneSlices$Slice;", Cond.methodLink RX3 173 yX2_isFree, Cond.instanceMethod yX2_isFree, Cond.selects RX2 yX2_isFree yX2_isFree, Cond.initialized RX2, Cond.code yX2_isFree cX2_isFree 1 (some .boolean)]
def wsX3_mends_r2 : List Cond := [Cond.fieldLink RX2 22 "CaneSlices$Slice" "eye" "I", Cond.methodLink RX3 222 yX3_eyesLike, Cond.instanceMethod yX3_eyesLike, Cond.selects RX3 yX3_eyesLike yX3_eyesLike, Cond.code yX3_eyesLike cX3_eyesLike 6 (some .int), Cond.methodLink RX3 208 yX1_looksLike, Cond.instanceMethod yX1_looksLike, Cond.selects RX1 yX1_looksLike yX1_looksLike, Cond.initialized RX1, Cond.code yX1_looksLike cX1_looksLike 5 (some .boolean), Cond.fieldLink RX1 9 "CaneSlices$Pattern" "colours" "[I", Cond.methodLink RX1 25 yX1_colourAt, Cond.instanceMethod yX1_colourAt, Cond.selects RX1 yX1_colourAt yX1_colourAt, Cond.code yX1_colourAt cX1_colourAt 4 (some .int), Cond.methodLink RX1 21 yX1_indexOf, Cond.static yX1_indexOf, Cond.code yX1_indexOf cX1_indexOf 2 (some .int), Cond.methodLink RX1 15 yJ9_floorMod_7cf53, Cond.static yJ9_floorMod_7cf53, Cond.initialized RJ9, Cond.code yJ9_floorMod_7cf53 cJ9_floorMod_7cf53 3 (some .int)]
def wsX3_mends : List Cond := .code yX3_mends cX3_mends 7 (some .int) :: ((wsX3_mends_r1 ++ wsX3_mends_r2) ++ wsX30 ++ wsX20 ++ wsX10 ++ (vx_atS RX3 47 "java/lang/IndexOutOfBoundsException" ["java/lang/RuntimeException", "java/lang/Exception"]).filter goodWord)
def wsX3_mean : List Cond := .code yX3_mean cX3_mean 1 (some .double) :: ([.fieldLink RX3 28 "CaneSlices" "caneCount" "I", .methodLink RX3 99 yX3_heatOfAll, .instanceMethod yX3_heatOfAll, .selects RX3 yX3_heatOfAll yX3_heatOfAll, .initialized RX3, .code yX3_heatOfAll cX3_heatOfAll 6 (some .int), .fieldLink RX3 11 "CaneSlices" "canes" "[LCaneSlices$Cane;"] ++ wsX30 ++ wsX00)
def wsX3_digestWith : List Cond := .code yX3_digestWith cX3_digestWith 3 (some .long) :: ([.constantLong RX3 266 (31)])
def wsX3_digestWithPattern : List Cond := .code yX3_digestWithPattern cX3_digestWithPattern 9 (some .long) :: ([.methodLink RX3 234 yX3_digestWith, .static yX3_digestWith, .initialized RX3, .code yX3_digestWith cX3_digestWith 3 (some .long), .constantLong RX3 266 (31)] ++ wsX10)
def wsX3_digestWithCanes : List Cond := .code yX3_digestWithCanes cX3_digestWithCanes 8 (some .long) :: ([.fieldLink RX3 11 "CaneSlices" "canes" "[LCaneSlices$Cane;", .fieldLink RX3 24 "CaneSlices" "inFurnace" "I", .methodLink RX3 133 yX0_tell, .instanceMethod yX0_tell, .selects RX0 yX0_tell yX0_tell, .initialized RX0, .code yX0_tell cX0_tell 3 (some .int), .fieldLink RX0 18 "CaneSlices$Cane" "length" "I", .fieldLink RX0 25 "CaneSlices$Cane" "twist" "I", .fieldLink RX0 22 "CaneSlices$Cane" "heat" "I", .fieldLink RX0 28 "CaneSlices$Cane" "cracked" "Z", .methodLink RX3 234 yX3_digestWith, .static yX3_digestWith, .initialized RX3, .code yX3_digestWith cX3_digestWith 3 (some .long), .constantLong RX3 266 (31), .methodLink RX3 268 yX3_digestWithPattern, .static yX3_digestWithPattern, .code yX3_digestWithPattern cX3_digestWithPattern 9 (some .long)] ++ wsX30 ++ wsX00 ++ wsX10)
def wsX3_digestWithSlices : List Cond := .code yX3_digestWithSlices cX3_digestWithSlices 9 (some .long) :: ([.fieldLink RX3 17 "CaneSlices" "slices" "[LCaneSlices$Slice;", .methodLink RX3 268 yX3_digestWithPattern, .static yX3_digestWithPattern, .initialized RX3, .code yX3_digestWithPattern cX3_digestWithPattern 9 (some .long), .methodLink RX3 234 yX3_digestWith, .static yX3_digestWith, .code yX3_digestWith cX3_digestWith 3 (some .long), .constantLong RX3 266 (31)] ++ wsX30 ++ wsX20 ++ wsX10)
def wsX3_digestWithEyes : List Cond := .code yX3_digestWithEyes cX3_digestWithEyes 7 (some .long) :: ([.fieldLink RX3 158 "CaneSlices" "beadCount" "I", .fieldLink RX3 21 "CaneSlices" "eyes" "[LCaneSlices$Slice;", .methodLink RX3 234 yX3_digestWith, .static yX3_digestWith, .initialized RX3, .code yX3_digestWith cX3_digestWith 3 (some .long), .constantLong RX3 266 (31)] ++ wsX30 ++ wsX20)
def wsX3_digest_r1 : List Cond := [Cond.constantLong RX3 232 (991), Cond.methodLink RX3 203 yX3_tally, Cond.instanceMethod yX3_tally, Cond.selects RX3 yX3_tally yX3_tally, Cond.initialized RX3, Cond.code yX3_tally cX3_tally 2 (some .int), Cond.fieldLink RX3 251 "CaneSlices" "minute" "I", Cond.fieldLink RX3 28 "CaneSlices" "caneCount" "I", Cond.fieldLink RX3 111 "CaneSlices" "sliceCount" "I", Cond.fieldLink RX3 158 "CaneSlices" "beadCount" "I", Cond.methodLink RX3 254 yX3_wholeCanes, Cond.instanceMethod yX3_wholeCanes, Cond.selects RX3 yX3_wholeCanes yX3_wholeCanes, Cond.code yX3_wholeCanes cX3_wholeCanes 6 (some .int), Cond.fieldLink RX3 11 "CaneSlices" "canes" "[LCaneSlices$Cane;", Cond.methodLink RX3 257 yX3_slicesInEyes, Cond.instanceMethod yX3_slicesInEyes, Cond.selects RX3 yX3_slicesInEyes yX3_slicesInEyes, Cond.code yX3_slicesInEyes cX3_slicesInEyes 6 (some .int), Cond.fieldLink RX3 21 "CaneSlices" "eyes" "[LCaneSlices$Slice;", Cond.methodLink RX3 260 yX3_beadsOfOneLook, Cond.instanceMethod yX3_beadsOfOneLook, Cond.selects RX3 yX3_beadsOfOneLook yX3_beadsOfOneLook, Cond.code yX3_beadsOfOneLook cX3_beadsOfOneLook 4 (some .int)]
def wsX3_digest_r2 : List Cond := [Cond.methodLink RX3 222 yX3_eyesLike, Cond.instanceMethod yX3_eyesLike, Cond.selects RX3 yX3_eyesLike yX3_eyesLike, Cond.code yX3_eyesLike cX3_eyesLike 6 (some .int), Cond.methodLink RX3 208 yX1_looksLike, Cond.instanceMethod yX1_looksLike, Cond.selects RX1 yX1_looksLike yX1_looksLike, Cond.initialized RX1, Cond.code yX1_looksLike cX1_looksLike 5 (some .boolean), Cond.fieldLink RX1 9 "CaneSlices$Pattern" "colours" "[I", Cond.methodLink RX1 25 yX1_colourAt, Cond.instanceMethod yX1_colourAt, Cond.selects RX1 yX1_colourAt yX1_colourAt, Cond.code yX1_colourAt cX1_colourAt 4 (some .int), Cond.methodLink RX1 21 yX1_indexOf, Cond.static yX1_indexOf, Cond.code yX1_indexOf cX1_indexOf 2 (some .int), Cond.methodLink RX1 15 yJ9_floorMod_7cf53, Cond.static yJ9_floorMod_7cf53, Cond.initialized RJ9, Cond.code yJ9_floorMod_7cf53 cJ9_floorMod_7cf53 3 (some .int), Cond.methodLink RX3 263 yX3_lengthOfAll, Cond.instanceMethod yX3_lengthOfAll, Cond.selects RX3 yX3_lengthOfAll yX3_lengthOfAll]
def wsX3_digest_r3 : List Cond := [Cond.code yX3_lengthOfAll cX3_lengthOfAll 6 (some .int), Cond.methodLink RX3 234 yX3_digestWith, Cond.static yX3_digestWith, Cond.code yX3_digestWith cX3_digestWith 3 (some .long), Cond.constantLong RX3 266 (31), Cond.methodLink RX3 238 yX3_digestWithCanes, Cond.instanceMethod yX3_digestWithCanes, Cond.selects RX3 yX3_digestWithCanes yX3_digestWithCanes, Cond.code yX3_digestWithCanes cX3_digestWithCanes 8 (some .long), Cond.fieldLink RX3 24 "CaneSlices" "inFurnace" "I", Cond.methodLink RX3 133 yX0_tell, Cond.instanceMethod yX0_tell, Cond.selects RX0 yX0_tell yX0_tell, Cond.initialized RX0, Cond.code yX0_tell cX0_tell 3 (some .int), Cond.fieldLink RX0 18 "CaneSlices$Cane" "length" "I", Cond.fieldLink RX0 25 "CaneSlices$Cane" "twist" "I", Cond.fieldLink RX0 22 "CaneSlices$Cane" "heat" "I", Cond.fieldLink RX0 28 "CaneSlices$Cane" "cracked" "Z", Cond.methodLink RX3 268 yX3_digestWithPattern, Cond.static yX3_digestWithPattern, Cond.code yX3_digestWithPattern cX3_digestWithPattern 9 (some .long), Cond.methodLink RX3 242 yX3_digestWithSlices, Cond.instanceMethod yX3_digestWithSlices]
def wsX3_digest_r4 : List Cond := [Cond.selects RX3 yX3_digestWithSlices yX3_digestWithSlices, Cond.code yX3_digestWithSlices cX3_digestWithSlices 9 (some .long), Cond.fieldLink RX3 17 "CaneSlices" "slices" "[LCaneSlices$Slice;", Cond.methodLink RX3 245 yX3_digestWithEyes, Cond.instanceMethod yX3_digestWithEyes, Cond.selects RX3 yX3_digestWithEyes yX3_digestWithEyes, Cond.code yX3_digestWithEyes cX3_digestWithEyes 7 (some .long)]
def wsX3_digest : List Cond := .code yX3_digest cX3_digest 4 (some .long) :: ((wsX3_digest_r1 ++ (wsX3_digest_r2 ++ (wsX3_digest_r3 ++ wsX3_digest_r4))) ++ wsX30 ++ wsX00 ++ wsX20 ++ wsX10)
def wsX4_init : List Cond := .code yX4_init cX4_init 1 none :: ([.methodLink RX4 3 objectInit, .instanceMethod objectInit, .code objectInit ⟨#[0xb1]⟩ 1 none, .fieldLink RX4 9 "CaneSlicesModel" "furnace" "I", .arrayClass .int, .fieldLink RX4 13 "CaneSlicesModel" "length" "[I", .fieldLink RX4 17 "CaneSlicesModel" "twist" "[I", .fieldLink RX4 20 "CaneSlicesModel" "heat" "[I", .fieldLink RX4 23 "CaneSlicesModel" "isWhole" "[I", .fieldLink RX4 26 "CaneSlicesModel" "pattern" "[I", .fieldLink RX4 29 "CaneSlicesModel" "look" "[I", .fieldLink RX4 32 "CaneSlicesModel" "place" "[I", .fieldLink RX4 35 "CaneSlicesModel" "eye" "[I", .fieldLink RX4 38 "CaneSlicesModel" "turned" "[I"] ++ wsX40)
def wsX4_thrown : List Cond := .code yX4_thrown cX4_thrown 1 (some .int) :: ([.fieldLink RX4 41 "CaneSlicesModel" "thrown" "I"] ++ wsX40)
def wsX4_no : List Cond := .code yX4_no cX4_no 2 (some .int) :: ([.fieldLink RX4 41 "CaneSlicesModel" "thrown" "I"] ++ wsX40)
def wsX4_isIn : List Cond := .code yX4_isIn cX4_isIn 3 (some .boolean) :: ([])
def wsX4_isCane : List Cond := .code yX4_isCane cX4_isCane 2 (some .boolean) :: ([.fieldLink RX4 44 "CaneSlicesModel" "canes" "I", .methodLink RX4 47 yX4_isIn, .static yX4_isIn, .initialized RX4, .code yX4_isIn cX4_isIn 3 (some .boolean)] ++ wsX40)
def wsX4_isSlice : List Cond := .code yX4_isSlice cX4_isSlice 2 (some .boolean) :: ([.fieldLink RX4 51 "CaneSlicesModel" "slices" "I", .methodLink RX4 47 yX4_isIn, .static yX4_isIn, .initialized RX4, .code yX4_isIn cX4_isIn 3 (some .boolean)] ++ wsX40)
def wsX4_isEye : List Cond := .code yX4_isEye cX4_isEye 3 (some .boolean) :: ([.fieldLink RX4 54 "CaneSlicesModel" "beads" "I", .methodLink RX4 47 yX4_isIn, .static yX4_isIn, .initialized RX4, .code yX4_isIn cX4_isIn 3 (some .boolean)] ++ wsX40)
def wsX4_isSpot : List Cond := .code yX4_isSpot cX4_isSpot 2 (some .boolean) :: ([.methodLink RX4 47 yX4_isIn, .static yX4_isIn, .initialized RX4, .code yX4_isIn cX4_isIn 3 (some .boolean)])
def wsX4_rotated : List Cond := .code yX4_rotated cX4_rotated 3 (some .int) :: ([.constant RX4 63 (16777215), .methodLink RX4 57 yJ9_floorMod_7cf53, .static yJ9_floorMod_7cf53, .initialized RJ9, .code yJ9_floorMod_7cf53 cJ9_floorMod_7cf53 3 (some .int)])
def wsX4_colourOf : List Cond := .code yX4_colourOf cX4_colourOf 2 (some .int) :: ([])
def wsX4_areAlike : List Cond := .code yX4_areAlike cX4_areAlike 7 (some .boolean) :: ([.methodLink RX4 64 yX4_rotated, .static yX4_rotated, .initialized RX4, .code yX4_rotated cX4_rotated 3 (some .int), .constant RX4 63 (16777215), .methodLink RX4 57 yJ9_floorMod_7cf53, .static yJ9_floorMod_7cf53, .initialized RJ9, .code yJ9_floorMod_7cf53 cJ9_floorMod_7cf53 3 (some .int)])
def wsX4_begin : List Cond := .code yX4_begin cX4_begin 1 (some .int) :: ([.fieldLink RX4 41 "CaneSlicesModel" "thrown" "I", .fieldLink RX4 44 "CaneSlicesModel" "canes" "I", .fieldLink RX4 13 "CaneSlicesModel" "length" "[I", .fieldLink RX4 20 "CaneSlicesModel" "heat" "[I", .fieldLink RX4 23 "CaneSlicesModel" "isWhole" "[I", .methodLink RX4 67 yX4_no, .instanceMethod yX4_no, .selects RX4 yX4_no yX4_no, .initialized RX4, .code yX4_no cX4_no 2 (some .int)] ++ wsX40)
def wsX4_pass : List Cond := .code yX4_pass cX4_pass 2 none :: ([.fieldLink RX4 44 "CaneSlicesModel" "canes" "I", .fieldLink RX4 20 "CaneSlicesModel" "heat" "[I", .fieldLink RX4 9 "CaneSlicesModel" "furnace" "I", .methodLink RX4 71 Lib.Math.min.name, .static Lib.Math.min.name, .initialized "java/lang/Math", .code Lib.Math.min.name Lib.Math.min.code 2 (some .int), .methodLink RX4 74 Lib.Math.max.name, .static Lib.Math.max.name, .code Lib.Math.max.name Lib.Math.max.code 2 (some .int), .fieldLink RX4 77 "CaneSlicesModel" "minute" "I"] ++ wsX40)
def wsX4_bears : List Cond := .code yX4_bears cX4_bears 3 (some .boolean) :: ([.fieldLink RX4 20 "CaneSlicesModel" "heat" "[I", .fieldLink RX4 23 "CaneSlicesModel" "isWhole" "[I", .methodLink RX4 80 yX4_pass, .instanceMethod yX4_pass, .selects RX4 yX4_pass yX4_pass, .initialized RX4, .code yX4_pass cX4_pass 2 none, .fieldLink RX4 44 "CaneSlicesModel" "canes" "I", .fieldLink RX4 9 "CaneSlicesModel" "furnace" "I", .methodLink RX4 71 Lib.Math.min.name, .static Lib.Math.min.name, .initialized "java/lang/Math", .code Lib.Math.min.name Lib.Math.min.code 2 (some .int), .methodLink RX4 74 Lib.Math.max.name, .static Lib.Math.max.name, .code Lib.Math.max.name Lib.Math.max.code 2 (some .int), .fieldLink RX4 77 "CaneSlicesModel" "minute" "I"] ++ wsX40)
def wsX4_lay_r1 : List Cond := [Cond.fieldLink RX4 41 "CaneSlicesModel" "thrown" "I", Cond.fieldLink RX4 23 "CaneSlicesModel" "isWhole" "[I", Cond.fieldLink RX4 26 "CaneSlicesModel" "pattern" "[I", Cond.methodLink RX4 83 yX4_isCane, Cond.instanceMethod yX4_isCane, Cond.selects RX4 yX4_isCane yX4_isCane, Cond.initialized RX4, Cond.code yX4_isCane cX4_isCane 2 (some .boolean), Cond.fieldLink RX4 44 "CaneSlicesModel" "canes" "I", Cond.methodLink RX4 47 yX4_isIn, Cond.static yX4_isIn, Cond.code yX4_isIn cX4_isIn 3 (some .boolean), Cond.methodLink RX4 67 yX4_no, Cond.instanceMethod yX4_no, Cond.selects RX4 yX4_no yX4_no, Cond.code yX4_no cX4_no 2 (some .int), Cond.methodLink RX4 87 yX4_isSpot, Cond.static yX4_isSpot, Cond.code yX4_isSpot cX4_isSpot 2 (some .boolean), Cond.methodLink RX4 91 yX4_bears, Cond.instanceMethod yX4_bears, Cond.selects RX4 yX4_bears yX4_bears, Cond.code yX4_bears cX4_bears 3 (some .boolean), Cond.fieldLink RX4 20 "CaneSlicesModel" "heat" "[I"]
def wsX4_lay_r2 : List Cond := [Cond.methodLink RX4 80 yX4_pass, Cond.instanceMethod yX4_pass, Cond.selects RX4 yX4_pass yX4_pass, Cond.code yX4_pass cX4_pass 2 none, Cond.fieldLink RX4 9 "CaneSlicesModel" "furnace" "I", Cond.methodLink RX4 71 Lib.Math.min.name, Cond.static Lib.Math.min.name, Cond.initialized "java/lang/Math", Cond.code Lib.Math.min.name Lib.Math.min.code 2 (some .int), Cond.methodLink RX4 74 Lib.Math.max.name, Cond.static Lib.Math.max.name, Cond.code Lib.Math.max.name Lib.Math.max.code 2 (some .int), Cond.fieldLink RX4 77 "CaneSlicesModel" "minute" "I"]
def wsX4_lay : List Cond := .code yX4_lay cX4_lay 9 (some .boolean) :: ((wsX4_lay_r1 ++ wsX4_lay_r2) ++ wsX40)
def wsX4_twist_r1 : List Cond := [Cond.fieldLink RX4 41 "CaneSlicesModel" "thrown" "I", Cond.fieldLink RX4 23 "CaneSlicesModel" "isWhole" "[I", Cond.fieldLink RX4 17 "CaneSlicesModel" "twist" "[I", Cond.methodLink RX4 83 yX4_isCane, Cond.instanceMethod yX4_isCane, Cond.selects RX4 yX4_isCane yX4_isCane, Cond.initialized RX4, Cond.code yX4_isCane cX4_isCane 2 (some .boolean), Cond.fieldLink RX4 44 "CaneSlicesModel" "canes" "I", Cond.methodLink RX4 47 yX4_isIn, Cond.static yX4_isIn, Cond.code yX4_isIn cX4_isIn 3 (some .boolean), Cond.methodLink RX4 67 yX4_no, Cond.instanceMethod yX4_no, Cond.selects RX4 yX4_no yX4_no, Cond.code yX4_no cX4_no 2 (some .int), Cond.methodLink RX4 91 yX4_bears, Cond.instanceMethod yX4_bears, Cond.selects RX4 yX4_bears yX4_bears, Cond.code yX4_bears cX4_bears 3 (some .boolean), Cond.fieldLink RX4 20 "CaneSlicesModel" "heat" "[I", Cond.methodLink RX4 80 yX4_pass, Cond.instanceMethod yX4_pass, Cond.selects RX4 yX4_pass yX4_pass]
def wsX4_twist_r2 : List Cond := [Cond.code yX4_pass cX4_pass 2 none, Cond.fieldLink RX4 9 "CaneSlicesModel" "furnace" "I", Cond.methodLink RX4 71 Lib.Math.min.name, Cond.static Lib.Math.min.name, Cond.initialized "java/lang/Math", Cond.code Lib.Math.min.name Lib.Math.min.code 2 (some .int), Cond.methodLink RX4 74 Lib.Math.max.name, Cond.static Lib.Math.max.name, Cond.code Lib.Math.max.name Lib.Math.max.code 2 (some .int), Cond.fieldLink RX4 77 "CaneSlicesModel" "minute" "I"]
def wsX4_twist : List Cond := .code yX4_twist cX4_twist 3 (some .boolean) :: ((wsX4_twist_r1 ++ wsX4_twist_r2) ++ wsX40)
def wsX4_pull_r1 : List Cond := [Cond.fieldLink RX4 41 "CaneSlicesModel" "thrown" "I", Cond.fieldLink RX4 23 "CaneSlicesModel" "isWhole" "[I", Cond.fieldLink RX4 13 "CaneSlicesModel" "length" "[I", Cond.methodLink RX4 71 Lib.Math.min.name, Cond.static Lib.Math.min.name, Cond.initialized "java/lang/Math", Cond.code Lib.Math.min.name Lib.Math.min.code 2 (some .int), Cond.fieldLink RX4 17 "CaneSlicesModel" "twist" "[I", Cond.methodLink RX4 83 yX4_isCane, Cond.instanceMethod yX4_isCane, Cond.selects RX4 yX4_isCane yX4_isCane, Cond.initialized RX4, Cond.code yX4_isCane cX4_isCane 2 (some .boolean), Cond.fieldLink RX4 44 "CaneSlicesModel" "canes" "I", Cond.methodLink RX4 47 yX4_isIn, Cond.static yX4_isIn, Cond.code yX4_isIn cX4_isIn 3 (some .boolean), Cond.methodLink RX4 67 yX4_no, Cond.instanceMethod yX4_no, Cond.selects RX4 yX4_no yX4_no, Cond.code yX4_no cX4_no 2 (some .int), Cond.methodLink RX4 91 yX4_bears, Cond.instanceMethod yX4_bears, Cond.selects RX4 yX4_bears yX4_bears]
def wsX4_pull_r2 : List Cond := [Cond.code yX4_bears cX4_bears 3 (some .boolean), Cond.fieldLink RX4 20 "CaneSlicesModel" "heat" "[I", Cond.methodLink RX4 80 yX4_pass, Cond.instanceMethod yX4_pass, Cond.selects RX4 yX4_pass yX4_pass, Cond.code yX4_pass cX4_pass 2 none, Cond.fieldLink RX4 9 "CaneSlicesModel" "furnace" "I", Cond.methodLink RX4 74 Lib.Math.max.name, Cond.static Lib.Math.max.name, Cond.code Lib.Math.max.name Lib.Math.max.code 2 (some .int), Cond.fieldLink RX4 77 "CaneSlicesModel" "minute" "I"]
def wsX4_pull : List Cond := .code yX4_pull cX4_pull 2 (some .boolean) :: ((wsX4_pull_r1 ++ wsX4_pull_r2) ++ wsX40)
def wsX4_furnace : List Cond := .code yX4_furnace cX4_furnace 3 (some .int) :: ([.fieldLink RX4 41 "CaneSlicesModel" "thrown" "I", .fieldLink RX4 9 "CaneSlicesModel" "furnace" "I", .methodLink RX4 83 yX4_isCane, .instanceMethod yX4_isCane, .selects RX4 yX4_isCane yX4_isCane, .initialized RX4, .code yX4_isCane cX4_isCane 2 (some .boolean), .fieldLink RX4 44 "CaneSlicesModel" "canes" "I", .methodLink RX4 47 yX4_isIn, .static yX4_isIn, .code yX4_isIn cX4_isIn 3 (some .boolean), .methodLink RX4 67 yX4_no, .instanceMethod yX4_no, .selects RX4 yX4_no yX4_no, .code yX4_no cX4_no 2 (some .int)] ++ wsX40)
def wsX4_allHeat : List Cond := .code yX4_allHeat cX4_allHeat 3 (some .int) :: ([.fieldLink RX4 44 "CaneSlicesModel" "canes" "I", .fieldLink RX4 20 "CaneSlicesModel" "heat" "[I"] ++ wsX40)
def wsX4_rest_r1 : List Cond := [Cond.fieldLink RX4 41 "CaneSlicesModel" "thrown" "I", Cond.methodLink RX4 47 yX4_isIn, Cond.static yX4_isIn, Cond.initialized RX4, Cond.code yX4_isIn cX4_isIn 3 (some .boolean), Cond.methodLink RX4 67 yX4_no, Cond.instanceMethod yX4_no, Cond.selects RX4 yX4_no yX4_no, Cond.code yX4_no cX4_no 2 (some .int), Cond.methodLink RX4 80 yX4_pass, Cond.instanceMethod yX4_pass, Cond.selects RX4 yX4_pass yX4_pass, Cond.code yX4_pass cX4_pass 2 none, Cond.fieldLink RX4 44 "CaneSlicesModel" "canes" "I", Cond.fieldLink RX4 20 "CaneSlicesModel" "heat" "[I", Cond.fieldLink RX4 9 "CaneSlicesModel" "furnace" "I", Cond.methodLink RX4 71 Lib.Math.min.name, Cond.static Lib.Math.min.name, Cond.initialized "java/lang/Math", Cond.code Lib.Math.min.name Lib.Math.min.code 2 (some .int), Cond.methodLink RX4 74 Lib.Math.max.name, Cond.static Lib.Math.max.name, Cond.code Lib.Math.max.name Lib.Math.max.code 2 (some .int), Cond.fieldLink RX4 77 "CaneSlicesModel" "minute" "I"]
def wsX4_rest_r2 : List Cond := [Cond.methodLink RX4 94 yX4_allHeat, Cond.instanceMethod yX4_allHeat, Cond.selects RX4 yX4_allHeat yX4_allHeat, Cond.code yX4_allHeat cX4_allHeat 3 (some .int)]
def wsX4_rest : List Cond := .code yX4_rest cX4_rest 3 (some .int) :: ((wsX4_rest_r1 ++ wsX4_rest_r2) ++ wsX40)
def wsX4_cut_r1 : List Cond := [Cond.fieldLink RX4 41 "CaneSlicesModel" "thrown" "I", Cond.fieldLink RX4 13 "CaneSlicesModel" "length" "[I", Cond.fieldLink RX4 20 "CaneSlicesModel" "heat" "[I", Cond.fieldLink RX4 51 "CaneSlicesModel" "slices" "I", Cond.fieldLink RX4 29 "CaneSlicesModel" "look" "[I", Cond.fieldLink RX4 26 "CaneSlicesModel" "pattern" "[I", Cond.fieldLink RX4 17 "CaneSlicesModel" "twist" "[I", Cond.fieldLink RX4 32 "CaneSlicesModel" "place" "[I", Cond.methodLink RX4 83 yX4_isCane, Cond.instanceMethod yX4_isCane, Cond.selects RX4 yX4_isCane yX4_isCane, Cond.initialized RX4, Cond.code yX4_isCane cX4_isCane 2 (some .boolean), Cond.fieldLink RX4 44 "CaneSlicesModel" "canes" "I", Cond.methodLink RX4 47 yX4_isIn, Cond.static yX4_isIn, Cond.code yX4_isIn cX4_isIn 3 (some .boolean), Cond.methodLink RX4 67 yX4_no, Cond.instanceMethod yX4_no, Cond.selects RX4 yX4_no yX4_no, Cond.code yX4_no cX4_no 2 (some .int), Cond.methodLink RX4 64 yX4_rotated, Cond.static yX4_rotated, Cond.code yX4_rotated cX4_rotated 3 (some .int)]
def wsX4_cut_r2 : List Cond := [Cond.constant RX4 63 (16777215), Cond.methodLink RX4 57 yJ9_floorMod_7cf53, Cond.static yJ9_floorMod_7cf53, Cond.initialized RJ9, Cond.code yJ9_floorMod_7cf53 cJ9_floorMod_7cf53 3 (some .int)]
def wsX4_cut : List Cond := .code yX4_cut cX4_cut 3 (some .int) :: ((wsX4_cut_r1 ++ wsX4_cut_r2) ++ wsX40)
def wsX4_caneTold : List Cond := .code yX4_caneTold cX4_caneTold 4 (some .int) :: ([.arrayClass .int, .fieldLink RX4 13 "CaneSlicesModel" "length" "[I", .fieldLink RX4 17 "CaneSlicesModel" "twist" "[I", .fieldLink RX4 20 "CaneSlicesModel" "heat" "[I", .fieldLink RX4 23 "CaneSlicesModel" "isWhole" "[I", .fieldLink RX4 9 "CaneSlicesModel" "furnace" "I"] ++ wsX40)
def wsX4_cane : List Cond := .code yX4_cane cX4_cane 3 (some .int) :: ([.fieldLink RX4 41 "CaneSlicesModel" "thrown" "I", .methodLink RX4 83 yX4_isCane, .instanceMethod yX4_isCane, .selects RX4 yX4_isCane yX4_isCane, .initialized RX4, .code yX4_isCane cX4_isCane 2 (some .boolean), .fieldLink RX4 44 "CaneSlicesModel" "canes" "I", .methodLink RX4 47 yX4_isIn, .static yX4_isIn, .code yX4_isIn cX4_isIn 3 (some .boolean), .methodLink RX4 98 yX4_caneTold, .instanceMethod yX4_caneTold, .selects RX4 yX4_caneTold yX4_caneTold, .code yX4_caneTold cX4_caneTold 4 (some .int), .arrayClass .int, .fieldLink RX4 13 "CaneSlicesModel" "length" "[I", .fieldLink RX4 17 "CaneSlicesModel" "twist" "[I", .fieldLink RX4 20 "CaneSlicesModel" "heat" "[I", .fieldLink RX4 23 "CaneSlicesModel" "isWhole" "[I", .fieldLink RX4 9 "CaneSlicesModel" "furnace" "I", .methodLink RX4 67 yX4_no, .instanceMethod yX4_no, .selects RX4 yX4_no yX4_no, .code yX4_no cX4_no 2 (some .int)] ++ wsX40)
def wsX4_shows_r1 : List Cond := [Cond.fieldLink RX4 41 "CaneSlicesModel" "thrown" "I", Cond.fieldLink RX4 13 "CaneSlicesModel" "length" "[I", Cond.fieldLink RX4 26 "CaneSlicesModel" "pattern" "[I", Cond.fieldLink RX4 17 "CaneSlicesModel" "twist" "[I", Cond.methodLink RX4 83 yX4_isCane, Cond.instanceMethod yX4_isCane, Cond.selects RX4 yX4_isCane yX4_isCane, Cond.initialized RX4, Cond.code yX4_isCane cX4_isCane 2 (some .boolean), Cond.fieldLink RX4 44 "CaneSlicesModel" "canes" "I", Cond.methodLink RX4 47 yX4_isIn, Cond.static yX4_isIn, Cond.code yX4_isIn cX4_isIn 3 (some .boolean), Cond.methodLink RX4 87 yX4_isSpot, Cond.static yX4_isSpot, Cond.code yX4_isSpot cX4_isSpot 2 (some .boolean), Cond.methodLink RX4 67 yX4_no, Cond.instanceMethod yX4_no, Cond.selects RX4 yX4_no yX4_no, Cond.code yX4_no cX4_no 2 (some .int), Cond.methodLink RX4 64 yX4_rotated, Cond.static yX4_rotated, Cond.code yX4_rotated cX4_rotated 3 (some .int), Cond.constant RX4 63 (16777215)]
def wsX4_shows_r2 : List Cond := [Cond.methodLink RX4 57 yJ9_floorMod_7cf53, Cond.static yJ9_floorMod_7cf53, Cond.initialized RJ9, Cond.code yJ9_floorMod_7cf53 cJ9_floorMod_7cf53 3 (some .int), Cond.methodLink RX4 101 yX4_colourOf, Cond.static yX4_colourOf, Cond.code yX4_colourOf cX4_colourOf 2 (some .int)]
def wsX4_shows : List Cond := .code yX4_shows cX4_shows 5 (some .int) :: ((wsX4_shows_r1 ++ wsX4_shows_r2) ++ wsX40)
def wsX4_colour : List Cond := .code yX4_colour cX4_colour 4 (some .int) :: ([.fieldLink RX4 41 "CaneSlicesModel" "thrown" "I", .fieldLink RX4 29 "CaneSlicesModel" "look" "[I", .methodLink RX4 104 yX4_isSlice, .instanceMethod yX4_isSlice, .selects RX4 yX4_isSlice yX4_isSlice, .initialized RX4, .code yX4_isSlice cX4_isSlice 2 (some .boolean), .fieldLink RX4 51 "CaneSlicesModel" "slices" "I", .methodLink RX4 47 yX4_isIn, .static yX4_isIn, .code yX4_isIn cX4_isIn 3 (some .boolean), .methodLink RX4 87 yX4_isSpot, .static yX4_isSpot, .code yX4_isSpot cX4_isSpot 2 (some .boolean), .methodLink RX4 101 yX4_colourOf, .static yX4_colourOf, .code yX4_colourOf cX4_colourOf 2 (some .int), .methodLink RX4 67 yX4_no, .instanceMethod yX4_no, .selects RX4 yX4_no yX4_no, .code yX4_no cX4_no 2 (some .int)] ++ wsX40)
def wsX4_where : List Cond := .code yX4_where cX4_where 2 (some .int) :: ([.fieldLink RX4 41 "CaneSlicesModel" "thrown" "I", .fieldLink RX4 32 "CaneSlicesModel" "place" "[I", .methodLink RX4 104 yX4_isSlice, .instanceMethod yX4_isSlice, .selects RX4 yX4_isSlice yX4_isSlice, .initialized RX4, .code yX4_isSlice cX4_isSlice 2 (some .boolean), .fieldLink RX4 51 "CaneSlicesModel" "slices" "I", .methodLink RX4 47 yX4_isIn, .static yX4_isIn, .code yX4_isIn cX4_isIn 3 (some .boolean), .methodLink RX4 67 yX4_no, .instanceMethod yX4_no, .selects RX4 yX4_no yX4_no, .code yX4_no cX4_no 2 (some .int)] ++ wsX40)
def wsX4_bead : List Cond := .code yX4_bead cX4_bead 2 (some .int) :: ([.fieldLink RX4 41 "CaneSlicesModel" "thrown" "I", .fieldLink RX4 54 "CaneSlicesModel" "beads" "I", .fieldLink RX4 35 "CaneSlicesModel" "eye" "[I", .methodLink RX4 67 yX4_no, .instanceMethod yX4_no, .selects RX4 yX4_no yX4_no, .initialized RX4, .code yX4_no cX4_no 2 (some .int)] ++ wsX40)
def wsX4_filled : List Cond := .code yX4_filled cX4_filled 4 (some .int) :: ([.fieldLink RX4 35 "CaneSlicesModel" "eye" "[I"] ++ wsX40)
def wsX4_set_r1 : List Cond := [Cond.fieldLink RX4 41 "CaneSlicesModel" "thrown" "I", Cond.fieldLink RX4 35 "CaneSlicesModel" "eye" "[I", Cond.fieldLink RX4 32 "CaneSlicesModel" "place" "[I", Cond.fieldLink RX4 38 "CaneSlicesModel" "turned" "[I", Cond.methodLink RX4 107 yX4_isEye, Cond.instanceMethod yX4_isEye, Cond.selects RX4 yX4_isEye yX4_isEye, Cond.initialized RX4, Cond.code yX4_isEye cX4_isEye 3 (some .boolean), Cond.fieldLink RX4 54 "CaneSlicesModel" "beads" "I", Cond.methodLink RX4 47 yX4_isIn, Cond.static yX4_isIn, Cond.code yX4_isIn cX4_isIn 3 (some .boolean), Cond.methodLink RX4 104 yX4_isSlice, Cond.instanceMethod yX4_isSlice, Cond.selects RX4 yX4_isSlice yX4_isSlice, Cond.code yX4_isSlice cX4_isSlice 2 (some .boolean), Cond.fieldLink RX4 51 "CaneSlicesModel" "slices" "I", Cond.methodLink RX4 67 yX4_no, Cond.instanceMethod yX4_no, Cond.selects RX4 yX4_no yX4_no, Cond.code yX4_no cX4_no 2 (some .int), Cond.methodLink RX4 110 yX4_filled, Cond.instanceMethod yX4_filled]
def wsX4_set_r2 : List Cond := [Cond.selects RX4 yX4_filled yX4_filled, Cond.code yX4_filled cX4_filled 4 (some .int)]
def wsX4_set : List Cond := .code yX4_set cX4_set 6 (some .int) :: ((wsX4_set_r1 ++ wsX4_set_r2) ++ wsX40)
def wsX4_drop : List Cond := .code yX4_drop cX4_drop 5 (some .int) :: ([.fieldLink RX4 41 "CaneSlicesModel" "thrown" "I", .fieldLink RX4 35 "CaneSlicesModel" "eye" "[I", .fieldLink RX4 38 "CaneSlicesModel" "turned" "[I", .fieldLink RX4 32 "CaneSlicesModel" "place" "[I", .methodLink RX4 107 yX4_isEye, .instanceMethod yX4_isEye, .selects RX4 yX4_isEye yX4_isEye, .initialized RX4, .code yX4_isEye cX4_isEye 3 (some .boolean), .fieldLink RX4 54 "CaneSlicesModel" "beads" "I", .methodLink RX4 47 yX4_isIn, .static yX4_isIn, .code yX4_isIn cX4_isIn 3 (some .boolean), .methodLink RX4 67 yX4_no, .instanceMethod yX4_no, .selects RX4 yX4_no yX4_no, .code yX4_no cX4_no 2 (some .int)] ++ wsX40)
def wsX4_seen_r1 : List Cond := [Cond.fieldLink RX4 41 "CaneSlicesModel" "thrown" "I", Cond.fieldLink RX4 35 "CaneSlicesModel" "eye" "[I", Cond.fieldLink RX4 29 "CaneSlicesModel" "look" "[I", Cond.fieldLink RX4 38 "CaneSlicesModel" "turned" "[I", Cond.methodLink RX4 107 yX4_isEye, Cond.instanceMethod yX4_isEye, Cond.selects RX4 yX4_isEye yX4_isEye, Cond.initialized RX4, Cond.code yX4_isEye cX4_isEye 3 (some .boolean), Cond.fieldLink RX4 54 "CaneSlicesModel" "beads" "I", Cond.methodLink RX4 47 yX4_isIn, Cond.static yX4_isIn, Cond.code yX4_isIn cX4_isIn 3 (some .boolean), Cond.methodLink RX4 87 yX4_isSpot, Cond.static yX4_isSpot, Cond.code yX4_isSpot cX4_isSpot 2 (some .boolean), Cond.methodLink RX4 67 yX4_no, Cond.instanceMethod yX4_no, Cond.selects RX4 yX4_no yX4_no, Cond.code yX4_no cX4_no 2 (some .int), Cond.methodLink RX4 64 yX4_rotated, Cond.static yX4_rotated, Cond.code yX4_rotated cX4_rotated 3 (some .int), Cond.constant RX4 63 (16777215)]
def wsX4_seen_r2 : List Cond := [Cond.methodLink RX4 57 yJ9_floorMod_7cf53, Cond.static yJ9_floorMod_7cf53, Cond.initialized RJ9, Cond.code yJ9_floorMod_7cf53 cJ9_floorMod_7cf53 3 (some .int), Cond.methodLink RX4 101 yX4_colourOf, Cond.static yX4_colourOf, Cond.code yX4_colourOf cX4_colourOf 2 (some .int)]
def wsX4_seen : List Cond := .code yX4_seen cX4_seen 6 (some .int) :: ((wsX4_seen_r1 ++ wsX4_seen_r2) ++ wsX40)
def wsX4_areTwins : List Cond := .code yX4_areTwins cX4_areTwins 3 (some .boolean) :: ([.fieldLink RX4 35 "CaneSlicesModel" "eye" "[I", .fieldLink RX4 29 "CaneSlicesModel" "look" "[I", .fieldLink RX4 38 "CaneSlicesModel" "turned" "[I", .methodLink RX4 113 yX4_areAlike, .static yX4_areAlike, .initialized RX4, .code yX4_areAlike cX4_areAlike 7 (some .boolean), .methodLink RX4 64 yX4_rotated, .static yX4_rotated, .code yX4_rotated cX4_rotated 3 (some .int), .constant RX4 63 (16777215), .methodLink RX4 57 yJ9_floorMod_7cf53, .static yJ9_floorMod_7cf53, .initialized RJ9, .code yJ9_floorMod_7cf53 cJ9_floorMod_7cf53 3 (some .int)] ++ wsX40)
def wsX4_twins : List Cond := .code yX4_twins cX4_twins 5 (some .int) :: ([.methodLink RX4 117 yX4_areTwins, .instanceMethod yX4_areTwins, .selects RX4 yX4_areTwins yX4_areTwins, .initialized RX4, .code yX4_areTwins cX4_areTwins 3 (some .boolean), .fieldLink RX4 35 "CaneSlicesModel" "eye" "[I", .fieldLink RX4 29 "CaneSlicesModel" "look" "[I", .fieldLink RX4 38 "CaneSlicesModel" "turned" "[I", .methodLink RX4 113 yX4_areAlike, .static yX4_areAlike, .code yX4_areAlike cX4_areAlike 7 (some .boolean), .methodLink RX4 64 yX4_rotated, .static yX4_rotated, .code yX4_rotated cX4_rotated 3 (some .int), .constant RX4 63 (16777215), .methodLink RX4 57 yJ9_floorMod_7cf53, .static yJ9_floorMod_7cf53, .initialized RJ9, .code yJ9_floorMod_7cf53 cJ9_floorMod_7cf53 3 (some .int)] ++ wsX40)
def wsX4_counted_r1 : List Cond := [Cond.fieldLink RX4 44 "CaneSlicesModel" "canes" "I", Cond.fieldLink RX4 23 "CaneSlicesModel" "isWhole" "[I", Cond.fieldLink RX4 13 "CaneSlicesModel" "length" "[I", Cond.fieldLink RX4 51 "CaneSlicesModel" "slices" "I", Cond.fieldLink RX4 32 "CaneSlicesModel" "place" "[I", Cond.fieldLink RX4 54 "CaneSlicesModel" "beads" "I", Cond.arrayClass .int, Cond.fieldLink RX4 77 "CaneSlicesModel" "minute" "I", Cond.methodLink RX4 120 yX4_twins, Cond.instanceMethod yX4_twins, Cond.selects RX4 yX4_twins yX4_twins, Cond.initialized RX4, Cond.code yX4_twins cX4_twins 5 (some .int), Cond.methodLink RX4 117 yX4_areTwins, Cond.instanceMethod yX4_areTwins, Cond.selects RX4 yX4_areTwins yX4_areTwins, Cond.code yX4_areTwins cX4_areTwins 3 (some .boolean), Cond.fieldLink RX4 35 "CaneSlicesModel" "eye" "[I", Cond.fieldLink RX4 29 "CaneSlicesModel" "look" "[I", Cond.fieldLink RX4 38 "CaneSlicesModel" "turned" "[I", Cond.methodLink RX4 113 yX4_areAlike, Cond.static yX4_areAlike, Cond.code yX4_areAlike cX4_areAlike 7 (some .boolean), Cond.methodLink RX4 64 yX4_rotated]
def wsX4_counted_r2 : List Cond := [Cond.static yX4_rotated, Cond.code yX4_rotated cX4_rotated 3 (some .int), Cond.constant RX4 63 (16777215), Cond.methodLink RX4 57 yJ9_floorMod_7cf53, Cond.static yJ9_floorMod_7cf53, Cond.initialized RJ9, Cond.code yJ9_floorMod_7cf53 cJ9_floorMod_7cf53 3 (some .int)]
def wsX4_counted : List Cond := .code yX4_counted cX4_counted 7 (some .int) :: ((wsX4_counted_r1 ++ wsX4_counted_r2) ++ wsX40)
def wsX4_count_r1 : List Cond := [Cond.fieldLink RX4 41 "CaneSlicesModel" "thrown" "I", Cond.methodLink RX4 47 yX4_isIn, Cond.static yX4_isIn, Cond.initialized RX4, Cond.code yX4_isIn cX4_isIn 3 (some .boolean), Cond.methodLink RX4 123 yX4_counted, Cond.instanceMethod yX4_counted, Cond.selects RX4 yX4_counted yX4_counted, Cond.code yX4_counted cX4_counted 7 (some .int), Cond.fieldLink RX4 44 "CaneSlicesModel" "canes" "I", Cond.fieldLink RX4 23 "CaneSlicesModel" "isWhole" "[I", Cond.fieldLink RX4 13 "CaneSlicesModel" "length" "[I", Cond.fieldLink RX4 51 "CaneSlicesModel" "slices" "I", Cond.fieldLink RX4 32 "CaneSlicesModel" "place" "[I", Cond.fieldLink RX4 54 "CaneSlicesModel" "beads" "I", Cond.arrayClass .int, Cond.fieldLink RX4 77 "CaneSlicesModel" "minute" "I", Cond.methodLink RX4 120 yX4_twins, Cond.instanceMethod yX4_twins, Cond.selects RX4 yX4_twins yX4_twins, Cond.code yX4_twins cX4_twins 5 (some .int), Cond.methodLink RX4 117 yX4_areTwins, Cond.instanceMethod yX4_areTwins, Cond.selects RX4 yX4_areTwins yX4_areTwins]
def wsX4_count_r2 : List Cond := [Cond.code yX4_areTwins cX4_areTwins 3 (some .boolean), Cond.fieldLink RX4 35 "CaneSlicesModel" "eye" "[I", Cond.fieldLink RX4 29 "CaneSlicesModel" "look" "[I", Cond.fieldLink RX4 38 "CaneSlicesModel" "turned" "[I", Cond.methodLink RX4 113 yX4_areAlike, Cond.static yX4_areAlike, Cond.code yX4_areAlike cX4_areAlike 7 (some .boolean), Cond.methodLink RX4 64 yX4_rotated, Cond.static yX4_rotated, Cond.code yX4_rotated cX4_rotated 3 (some .int), Cond.constant RX4 63 (16777215), Cond.methodLink RX4 57 yJ9_floorMod_7cf53, Cond.static yJ9_floorMod_7cf53, Cond.initialized RJ9, Cond.code yJ9_floorMod_7cf53 cJ9_floorMod_7cf53 3 (some .int), Cond.methodLink RX4 67 yX4_no, Cond.instanceMethod yX4_no, Cond.selects RX4 yX4_no yX4_no, Cond.code yX4_no cX4_no 2 (some .int)]
def wsX4_count : List Cond := .code yX4_count cX4_count 2 (some .int) :: ((wsX4_count_r1 ++ wsX4_count_r2) ++ wsX40)
def wsX4_again_r1 : List Cond := [Cond.fieldLink RX4 41 "CaneSlicesModel" "thrown" "I", Cond.fieldLink RX4 13 "CaneSlicesModel" "length" "[I", Cond.fieldLink RX4 26 "CaneSlicesModel" "pattern" "[I", Cond.fieldLink RX4 17 "CaneSlicesModel" "twist" "[I", Cond.methodLink RX4 83 yX4_isCane, Cond.instanceMethod yX4_isCane, Cond.selects RX4 yX4_isCane yX4_isCane, Cond.initialized RX4, Cond.code yX4_isCane cX4_isCane 2 (some .boolean), Cond.fieldLink RX4 44 "CaneSlicesModel" "canes" "I", Cond.methodLink RX4 47 yX4_isIn, Cond.static yX4_isIn, Cond.code yX4_isIn cX4_isIn 3 (some .boolean), Cond.methodLink RX4 67 yX4_no, Cond.instanceMethod yX4_no, Cond.selects RX4 yX4_no yX4_no, Cond.code yX4_no cX4_no 2 (some .int), Cond.methodLink RX4 113 yX4_areAlike, Cond.static yX4_areAlike, Cond.code yX4_areAlike cX4_areAlike 7 (some .boolean), Cond.methodLink RX4 64 yX4_rotated, Cond.static yX4_rotated, Cond.code yX4_rotated cX4_rotated 3 (some .int), Cond.constant RX4 63 (16777215)]
def wsX4_again_r2 : List Cond := [Cond.methodLink RX4 57 yJ9_floorMod_7cf53, Cond.static yJ9_floorMod_7cf53, Cond.initialized RJ9, Cond.code yJ9_floorMod_7cf53 cJ9_floorMod_7cf53 3 (some .int)]
def wsX4_again : List Cond := .code yX4_again cX4_again 4 (some .int) :: ((wsX4_again_r1 ++ wsX4_again_r2) ++ wsX40)
def wsX4_turnTo : List Cond := .code yX4_turnTo cX4_turnTo 4 (some .int) :: ([.fieldLink RX4 29 "CaneSlicesModel" "look" "[I", .methodLink RX4 113 yX4_areAlike, .static yX4_areAlike, .initialized RX4, .code yX4_areAlike cX4_areAlike 7 (some .boolean), .methodLink RX4 64 yX4_rotated, .static yX4_rotated, .code yX4_rotated cX4_rotated 3 (some .int), .constant RX4 63 (16777215), .methodLink RX4 57 yJ9_floorMod_7cf53, .static yJ9_floorMod_7cf53, .initialized RJ9, .code yJ9_floorMod_7cf53 cJ9_floorMod_7cf53 3 (some .int)] ++ wsX40)
def wsX4_turn_r1 : List Cond := [Cond.fieldLink RX4 41 "CaneSlicesModel" "thrown" "I", Cond.methodLink RX4 104 yX4_isSlice, Cond.instanceMethod yX4_isSlice, Cond.selects RX4 yX4_isSlice yX4_isSlice, Cond.initialized RX4, Cond.code yX4_isSlice cX4_isSlice 2 (some .boolean), Cond.fieldLink RX4 51 "CaneSlicesModel" "slices" "I", Cond.methodLink RX4 47 yX4_isIn, Cond.static yX4_isIn, Cond.code yX4_isIn cX4_isIn 3 (some .boolean), Cond.methodLink RX4 126 yX4_turnTo, Cond.instanceMethod yX4_turnTo, Cond.selects RX4 yX4_turnTo yX4_turnTo, Cond.code yX4_turnTo cX4_turnTo 4 (some .int), Cond.fieldLink RX4 29 "CaneSlicesModel" "look" "[I", Cond.methodLink RX4 113 yX4_areAlike, Cond.static yX4_areAlike, Cond.code yX4_areAlike cX4_areAlike 7 (some .boolean), Cond.methodLink RX4 64 yX4_rotated, Cond.static yX4_rotated, Cond.code yX4_rotated cX4_rotated 3 (some .int), Cond.constant RX4 63 (16777215), Cond.methodLink RX4 57 yJ9_floorMod_7cf53, Cond.static yJ9_floorMod_7cf53]
def wsX4_turn_r2 : List Cond := [Cond.initialized RJ9, Cond.code yJ9_floorMod_7cf53 cJ9_floorMod_7cf53 3 (some .int), Cond.methodLink RX4 67 yX4_no, Cond.instanceMethod yX4_no, Cond.selects RX4 yX4_no yX4_no, Cond.code yX4_no cX4_no 2 (some .int)]
def wsX4_turn : List Cond := .code yX4_turn cX4_turn 3 (some .int) :: ((wsX4_turn_r1 ++ wsX4_turn_r2) ++ wsX40)
def wsX4_cuts_r1 : List Cond := [Cond.fieldLink RX4 41 "CaneSlicesModel" "thrown" "I", Cond.fieldLink RX4 13 "CaneSlicesModel" "length" "[I", Cond.fieldLink RX4 26 "CaneSlicesModel" "pattern" "[I", Cond.fieldLink RX4 17 "CaneSlicesModel" "twist" "[I", Cond.fieldLink RX4 29 "CaneSlicesModel" "look" "[I", Cond.methodLink RX4 83 yX4_isCane, Cond.instanceMethod yX4_isCane, Cond.selects RX4 yX4_isCane yX4_isCane, Cond.initialized RX4, Cond.code yX4_isCane cX4_isCane 2 (some .boolean), Cond.fieldLink RX4 44 "CaneSlicesModel" "canes" "I", Cond.methodLink RX4 47 yX4_isIn, Cond.static yX4_isIn, Cond.code yX4_isIn cX4_isIn 3 (some .boolean), Cond.methodLink RX4 104 yX4_isSlice, Cond.instanceMethod yX4_isSlice, Cond.selects RX4 yX4_isSlice yX4_isSlice, Cond.code yX4_isSlice cX4_isSlice 2 (some .boolean), Cond.fieldLink RX4 51 "CaneSlicesModel" "slices" "I", Cond.methodLink RX4 67 yX4_no, Cond.instanceMethod yX4_no, Cond.selects RX4 yX4_no yX4_no, Cond.code yX4_no cX4_no 2 (some .int), Cond.methodLink RX4 113 yX4_areAlike]
def wsX4_cuts_r2 : List Cond := [Cond.static yX4_areAlike, Cond.code yX4_areAlike cX4_areAlike 7 (some .boolean), Cond.methodLink RX4 64 yX4_rotated, Cond.static yX4_rotated, Cond.code yX4_rotated cX4_rotated 3 (some .int), Cond.constant RX4 63 (16777215), Cond.methodLink RX4 57 yJ9_floorMod_7cf53, Cond.static yJ9_floorMod_7cf53, Cond.initialized RJ9, Cond.code yJ9_floorMod_7cf53 cJ9_floorMod_7cf53 3 (some .int)]
def wsX4_cuts : List Cond := .code yX4_cuts cX4_cuts 4 (some .int) :: ((wsX4_cuts_r1 ++ wsX4_cuts_r2) ++ wsX40)
def wsX4_free : List Cond := .code yX4_free cX4_free 4 (some .int) :: ([.fieldLink RX4 51 "CaneSlicesModel" "slices" "I", .fieldLink RX4 32 "CaneSlicesModel" "place" "[I", .methodLink RX4 126 yX4_turnTo, .instanceMethod yX4_turnTo, .selects RX4 yX4_turnTo yX4_turnTo, .initialized RX4, .code yX4_turnTo cX4_turnTo 4 (some .int), .fieldLink RX4 29 "CaneSlicesModel" "look" "[I", .methodLink RX4 113 yX4_areAlike, .static yX4_areAlike, .code yX4_areAlike cX4_areAlike 7 (some .boolean), .methodLink RX4 64 yX4_rotated, .static yX4_rotated, .code yX4_rotated cX4_rotated 3 (some .int), .constant RX4 63 (16777215), .methodLink RX4 57 yJ9_floorMod_7cf53, .static yJ9_floorMod_7cf53, .initialized RJ9, .code yJ9_floorMod_7cf53 cJ9_floorMod_7cf53 3 (some .int)] ++ wsX40)
def wsX4_mends_r1 : List Cond := [Cond.fieldLink RX4 41 "CaneSlicesModel" "thrown" "I", Cond.fieldLink RX4 54 "CaneSlicesModel" "beads" "I", Cond.fieldLink RX4 35 "CaneSlicesModel" "eye" "[I", Cond.methodLink RX4 71 Lib.Math.min.name, Cond.static Lib.Math.min.name, Cond.initialized "java/lang/Math", Cond.code Lib.Math.min.name Lib.Math.min.code 2 (some .int), Cond.fieldLink RX4 51 "CaneSlicesModel" "slices" "I", Cond.fieldLink RX4 32 "CaneSlicesModel" "place" "[I", Cond.methodLink RX4 47 yX4_isIn, Cond.static yX4_isIn, Cond.initialized RX4, Cond.code yX4_isIn cX4_isIn 3 (some .boolean), Cond.methodLink RX4 67 yX4_no, Cond.instanceMethod yX4_no, Cond.selects RX4 yX4_no yX4_no, Cond.code yX4_no cX4_no 2 (some .int), Cond.methodLink RX4 120 yX4_twins, Cond.instanceMethod yX4_twins, Cond.selects RX4 yX4_twins yX4_twins, Cond.code yX4_twins cX4_twins 5 (some .int), Cond.methodLink RX4 117 yX4_areTwins, Cond.instanceMethod yX4_areTwins, Cond.selects RX4 yX4_areTwins yX4_areTwins]
def wsX4_mends_r2 : List Cond := [Cond.code yX4_areTwins cX4_areTwins 3 (some .boolean), Cond.fieldLink RX4 29 "CaneSlicesModel" "look" "[I", Cond.fieldLink RX4 38 "CaneSlicesModel" "turned" "[I", Cond.methodLink RX4 113 yX4_areAlike, Cond.static yX4_areAlike, Cond.code yX4_areAlike cX4_areAlike 7 (some .boolean), Cond.methodLink RX4 64 yX4_rotated, Cond.static yX4_rotated, Cond.code yX4_rotated cX4_rotated 3 (some .int), Cond.constant RX4 63 (16777215), Cond.methodLink RX4 57 yJ9_floorMod_7cf53, Cond.static yJ9_floorMod_7cf53, Cond.initialized RJ9, Cond.code yJ9_floorMod_7cf53 cJ9_floorMod_7cf53 3 (some .int), Cond.methodLink RX4 129 yX4_free, Cond.instanceMethod yX4_free, Cond.selects RX4 yX4_free yX4_free, Cond.code yX4_free cX4_free 4 (some .int), Cond.methodLink RX4 126 yX4_turnTo, Cond.instanceMethod yX4_turnTo, Cond.selects RX4 yX4_turnTo yX4_turnTo, Cond.code yX4_turnTo cX4_turnTo 4 (some .int)]
def wsX4_mends : List Cond := .code yX4_mends cX4_mends 6 (some .int) :: ((wsX4_mends_r1 ++ wsX4_mends_r2) ++ wsX40)
def wsX4_mean : List Cond := .code yX4_mean cX4_mean 1 (some .double) :: ([.fieldLink RX4 41 "CaneSlicesModel" "thrown" "I", .fieldLink RX4 44 "CaneSlicesModel" "canes" "I", .methodLink RX4 94 yX4_allHeat, .instanceMethod yX4_allHeat, .selects RX4 yX4_allHeat yX4_allHeat, .initialized RX4, .code yX4_allHeat cX4_allHeat 3 (some .int), .fieldLink RX4 20 "CaneSlicesModel" "heat" "[I"] ++ wsX40)
def wsX4_with : List Cond := .code yX4_with cX4_with 8 (some .long) :: ([.constantLong RX4 132 (31), .methodLink RX4 101 yX4_colourOf, .static yX4_colourOf, .initialized RX4, .code yX4_colourOf cX4_colourOf 2 (some .int)])
def wsX4_digest_r1 : List Cond := [Cond.fieldLink RX4 41 "CaneSlicesModel" "thrown" "I", Cond.constantLong RX4 134 (991), Cond.constantLong RX4 132 (31), Cond.fieldLink RX4 44 "CaneSlicesModel" "canes" "I", Cond.fieldLink RX4 26 "CaneSlicesModel" "pattern" "[I", Cond.fieldLink RX4 51 "CaneSlicesModel" "slices" "I", Cond.fieldLink RX4 29 "CaneSlicesModel" "look" "[I", Cond.fieldLink RX4 32 "CaneSlicesModel" "place" "[I", Cond.fieldLink RX4 54 "CaneSlicesModel" "beads" "I", Cond.fieldLink RX4 35 "CaneSlicesModel" "eye" "[I", Cond.fieldLink RX4 38 "CaneSlicesModel" "turned" "[I", Cond.methodLink RX4 123 yX4_counted, Cond.instanceMethod yX4_counted, Cond.selects RX4 yX4_counted yX4_counted, Cond.initialized RX4, Cond.code yX4_counted cX4_counted 7 (some .int), Cond.fieldLink RX4 23 "CaneSlicesModel" "isWhole" "[I", Cond.fieldLink RX4 13 "CaneSlicesModel" "length" "[I", Cond.arrayClass .int, Cond.fieldLink RX4 77 "CaneSlicesModel" "minute" "I", Cond.methodLink RX4 120 yX4_twins, Cond.instanceMethod yX4_twins, Cond.selects RX4 yX4_twins yX4_twins, Cond.code yX4_twins cX4_twins 5 (some .int)]
def wsX4_digest_r2 : List Cond := [Cond.methodLink RX4 117 yX4_areTwins, Cond.instanceMethod yX4_areTwins, Cond.selects RX4 yX4_areTwins yX4_areTwins, Cond.code yX4_areTwins cX4_areTwins 3 (some .boolean), Cond.methodLink RX4 113 yX4_areAlike, Cond.static yX4_areAlike, Cond.code yX4_areAlike cX4_areAlike 7 (some .boolean), Cond.methodLink RX4 64 yX4_rotated, Cond.static yX4_rotated, Cond.code yX4_rotated cX4_rotated 3 (some .int), Cond.constant RX4 63 (16777215), Cond.methodLink RX4 57 yJ9_floorMod_7cf53, Cond.static yJ9_floorMod_7cf53, Cond.initialized RJ9, Cond.code yJ9_floorMod_7cf53 cJ9_floorMod_7cf53 3 (some .int), Cond.methodLink RX4 98 yX4_caneTold, Cond.instanceMethod yX4_caneTold, Cond.selects RX4 yX4_caneTold yX4_caneTold, Cond.code yX4_caneTold cX4_caneTold 4 (some .int), Cond.fieldLink RX4 17 "CaneSlicesModel" "twist" "[I", Cond.fieldLink RX4 20 "CaneSlicesModel" "heat" "[I", Cond.fieldLink RX4 9 "CaneSlicesModel" "furnace" "I", Cond.methodLink RX4 136 yX4_with, Cond.instanceMethod yX4_with]
def wsX4_digest_r3 : List Cond := [Cond.selects RX4 yX4_with yX4_with, Cond.code yX4_with cX4_with 8 (some .long), Cond.methodLink RX4 101 yX4_colourOf, Cond.static yX4_colourOf, Cond.code yX4_colourOf cX4_colourOf 2 (some .int)]
def wsX4_digest : List Cond := .code yX4_digest cX4_digest 5 (some .long) :: ((wsX4_digest_r1 ++ (wsX4_digest_r2 ++ wsX4_digest_r3)) ++ wsX40)
def wsJ9_max_7cf53 : List Cond := .code yJ9_max_7cf53 cJ9_max_7cf53 2 (some .int) :: ([])
def wsJ9_min_7cf53 : List Cond := .code yJ9_min_7cf53 cJ9_min_7cf53 2 (some .int) :: ([])
def wsL_begin_r1 : List Cond := [Cond.classLink RL 13 "java/lang/IllegalStateException", Cond.methodLink RL 7 yX3_begin, Cond.instanceMethod yX3_begin, Cond.selects RX3 yX3_begin yX3_begin, Cond.initialized RX3, Cond.code yX3_begin cX3_begin 2 (some .int), Cond.classLink RX3 31 "java/lang/IllegalStateException", Cond.initialized "java/lang/IllegalStateException", Cond.fieldLink RX3 28 "CaneSlices" "caneCount" "I", Cond.fieldLink RX3 11 "CaneSlices" "canes" "[LCaneSlices$Cane;", Cond.classLink RX3 9 RX0, Cond.instantiable RX0 5, Cond.initialized RX0, Cond.methodLink RX3 38 yX0_init, Cond.instanceMethod yX0_init, Cond.code yX0_init cX0_init 1 none, Cond.methodLink RX0 3 objectInit, Cond.instanceMethod objectInit, Cond.code objectInit ⟨#[0xb1]⟩ 1 none, Cond.classLink RX0 9 RX1, Cond.instantiable RX1 1, Cond.initialized RX1, Cond.fieldLink RX0 12 "CaneSlices$Cane" "pattern" "LCaneSlices$Pattern;", Cond.fieldLink RX0 18 "CaneSlices$Cane" "length" "I"]
def wsL_begin_r2 : List Cond := [Cond.fieldLink RX0 22 "CaneSlices$Cane" "heat" "I", Cond.methodLink RX0 11 yX1_init, Cond.instanceMethod yX1_init, Cond.code yX1_init cX1_init 1 none, Cond.methodLink RX1 3 objectInit, Cond.arrayClass .int, Cond.fieldLink RX1 9 "CaneSlices$Pattern" "colours" "[I"]
def wsL_begin : List Cond := .codeWith yL_begin cL_begin 3 (some .int) [(0, 8, 11, 13)] :: ((wsL_begin_r1 ++ wsL_begin_r2) ++ wsX30 ++ wsX00 ++ wsX10 ++ (vx_atS RX3 35 "java/lang/IllegalStateException" ["java/lang/RuntimeException", "java/lang/Exception"]).filter goodWord)
def wsL_lay_r1 : List Cond := [Cond.classLink RL 19 "java/lang/IndexOutOfBoundsException", Cond.classLink RL 21 "java/lang/IllegalArgumentException", Cond.classLink RL 13 "java/lang/IllegalStateException", Cond.methodLink RL 15 yX3_lay, Cond.instanceMethod yX3_lay, Cond.selects RX3 yX3_lay yX3_lay, Cond.initialized RX3, Cond.code yX3_lay cX3_lay 8 (some .boolean), Cond.classLink RX3 43 "java/lang/IndexOutOfBoundsException", Cond.initialized "java/lang/IndexOutOfBoundsException", Cond.classLink RX3 55 "java/lang/IllegalArgumentException", Cond.initialized "java/lang/IllegalArgumentException", Cond.classLink RX3 31 "java/lang/IllegalStateException", Cond.initialized "java/lang/IllegalStateException", Cond.methodLink RX3 39 yX3_caneAt, Cond.instanceMethod yX3_caneAt, Cond.selects RX3 yX3_caneAt yX3_caneAt, Cond.code yX3_caneAt cX3_caneAt 2 (some (.object "CaneSlices$Cane")), Cond.fieldLink RX3 11 "CaneSlices" "canes" "[LCaneSlices$Cane;", Cond.methodLink RX3 48 yX3_isRing, Cond.static yX3_isRing, Cond.code yX3_isRing cX3_isRing 1 (some .boolean), Cond.methodLink RX3 52 yX3_isSector, Cond.static yX3_isSector]
def wsL_lay_r2 : List Cond := [Cond.code yX3_isSector cX3_isSector 1 (some .boolean), Cond.methodLink RX3 68 yX0_startWorking, Cond.instanceMethod yX0_startWorking, Cond.selects RX0 yX0_startWorking yX0_startWorking, Cond.initialized RX0, Cond.code yX0_startWorking cX0_startWorking 2 (some .boolean), Cond.fieldLink RX0 22 "CaneSlices$Cane" "heat" "I", Cond.fieldLink RX0 28 "CaneSlices$Cane" "cracked" "Z", Cond.methodLink RX3 75 yX1_paint, Cond.instanceMethod yX1_paint, Cond.selects RX1 yX1_paint yX1_paint, Cond.initialized RX1, Cond.code yX1_paint cX1_paint 6 none, Cond.fieldLink RX1 9 "CaneSlices$Pattern" "colours" "[I", Cond.methodLink RX1 21 yX1_indexOf, Cond.static yX1_indexOf, Cond.code yX1_indexOf cX1_indexOf 2 (some .int), Cond.methodLink RX1 15 yJ9_floorMod_7cf53, Cond.static yJ9_floorMod_7cf53, Cond.initialized RJ9, Cond.code yJ9_floorMod_7cf53 cJ9_floorMod_7cf53 3 (some .int), Cond.methodLink RX3 81 yX3_passMinute, Cond.instanceMethod yX3_passMinute, Cond.selects RX3 yX3_passMinute yX3_passMinute]
def wsL_lay_r3 : List Cond := [Cond.code yX3_passMinute cX3_passMinute 3 none, Cond.fieldLink RX3 24 "CaneSlices" "inFurnace" "I", Cond.fieldLink RX3 251 "CaneSlices" "minute" "I", Cond.methodLink RX3 248 yX0_passMinute, Cond.instanceMethod yX0_passMinute, Cond.selects RX0 yX0_passMinute yX0_passMinute, Cond.code yX0_passMinute cX0_passMinute 2 none, Cond.methodLink RX0 32 Lib.Math.min.name, Cond.static Lib.Math.min.name, Cond.initialized "java/lang/Math", Cond.code Lib.Math.min.name Lib.Math.min.code 2 (some .int), Cond.methodLink RX0 38 Lib.Math.max.name, Cond.static Lib.Math.max.name, Cond.code Lib.Math.max.name Lib.Math.max.code 2 (some .int)]
def wsL_lay : List Cond := .codeWith yL_lay cL_lay 8 (some .int) [(0, 23, 26, 19), (0, 23, 30, 21), (0, 23, 34, 13)] :: ((wsL_lay_r1 ++ (wsL_lay_r2 ++ wsL_lay_r3)) ++ wsX00 ++ wsX30 ++ wsX10 ++ (vx_atS RX3 47 "java/lang/IndexOutOfBoundsException" ["java/lang/RuntimeException", "java/lang/Exception"]).filter goodWord ++ (vx_atS RX3 59 "java/lang/IllegalArgumentException" ["java/lang/RuntimeException", "java/lang/Exception"]).filter goodWord ++ (vx_atS RX3 35 "java/lang/IllegalStateException" ["java/lang/RuntimeException", "java/lang/Exception"]).filter goodWord)
def wsL_twist_r1 : List Cond := [Cond.classLink RL 19 "java/lang/IndexOutOfBoundsException", Cond.classLink RL 21 "java/lang/IllegalArgumentException", Cond.classLink RL 13 "java/lang/IllegalStateException", Cond.methodLink RL 23 yX3_twist, Cond.instanceMethod yX3_twist, Cond.selects RX3 yX3_twist yX3_twist, Cond.initialized RX3, Cond.code yX3_twist cX3_twist 5 (some .boolean), Cond.classLink RX3 43 "java/lang/IndexOutOfBoundsException", Cond.initialized "java/lang/IndexOutOfBoundsException", Cond.classLink RX3 55 "java/lang/IllegalArgumentException", Cond.initialized "java/lang/IllegalArgumentException", Cond.classLink RX3 31 "java/lang/IllegalStateException", Cond.initialized "java/lang/IllegalStateException", Cond.methodLink RX3 39 yX3_caneAt, Cond.instanceMethod yX3_caneAt, Cond.selects RX3 yX3_caneAt yX3_caneAt, Cond.code yX3_caneAt cX3_caneAt 2 (some (.object "CaneSlices$Cane")), Cond.fieldLink RX3 11 "CaneSlices" "canes" "[LCaneSlices$Cane;", Cond.methodLink RX3 84 yX3_isTwist, Cond.static yX3_isTwist, Cond.code yX3_isTwist cX3_isTwist 1 (some .boolean), Cond.methodLink RX3 68 yX0_startWorking, Cond.instanceMethod yX0_startWorking]
def wsL_twist_r2 : List Cond := [Cond.selects RX0 yX0_startWorking yX0_startWorking, Cond.initialized RX0, Cond.code yX0_startWorking cX0_startWorking 2 (some .boolean), Cond.fieldLink RX0 22 "CaneSlices$Cane" "heat" "I", Cond.fieldLink RX0 28 "CaneSlices$Cane" "cracked" "Z", Cond.methodLink RX3 81 yX3_passMinute, Cond.instanceMethod yX3_passMinute, Cond.selects RX3 yX3_passMinute yX3_passMinute, Cond.code yX3_passMinute cX3_passMinute 3 none, Cond.fieldLink RX3 24 "CaneSlices" "inFurnace" "I", Cond.fieldLink RX3 251 "CaneSlices" "minute" "I", Cond.methodLink RX3 248 yX0_passMinute, Cond.instanceMethod yX0_passMinute, Cond.selects RX0 yX0_passMinute yX0_passMinute, Cond.code yX0_passMinute cX0_passMinute 2 none, Cond.methodLink RX0 32 Lib.Math.min.name, Cond.static Lib.Math.min.name, Cond.initialized "java/lang/Math", Cond.code Lib.Math.min.name Lib.Math.min.code 2 (some .int), Cond.methodLink RX0 38 Lib.Math.max.name, Cond.static Lib.Math.max.name, Cond.code Lib.Math.max.name Lib.Math.max.code 2 (some .int)]
def wsL_twist : List Cond := .codeWith yL_twist cL_twist 5 (some .int) [(0, 17, 20, 19), (0, 17, 24, 21), (0, 17, 28, 13)] :: ((wsL_twist_r1 ++ wsL_twist_r2) ++ wsX00 ++ wsX30 ++ (vx_atS RX3 47 "java/lang/IndexOutOfBoundsException" ["java/lang/RuntimeException", "java/lang/Exception"]).filter goodWord ++ (vx_atS RX3 59 "java/lang/IllegalArgumentException" ["java/lang/RuntimeException", "java/lang/Exception"]).filter goodWord ++ (vx_atS RX3 35 "java/lang/IllegalStateException" ["java/lang/RuntimeException", "java/lang/Exception"]).filter goodWord)
def wsL_pull_r1 : List Cond := [Cond.classLink RL 19 "java/lang/IndexOutOfBoundsException", Cond.classLink RL 13 "java/lang/IllegalStateException", Cond.methodLink RL 27 yX3_pull, Cond.instanceMethod yX3_pull, Cond.selects RX3 yX3_pull yX3_pull, Cond.initialized RX3, Cond.code yX3_pull cX3_pull 4 (some .boolean), Cond.classLink RX3 43 "java/lang/IndexOutOfBoundsException", Cond.initialized "java/lang/IndexOutOfBoundsException", Cond.classLink RX3 31 "java/lang/IllegalStateException", Cond.initialized "java/lang/IllegalStateException", Cond.methodLink RX3 39 yX3_caneAt, Cond.instanceMethod yX3_caneAt, Cond.selects RX3 yX3_caneAt yX3_caneAt, Cond.code yX3_caneAt cX3_caneAt 2 (some (.object "CaneSlices$Cane")), Cond.fieldLink RX3 11 "CaneSlices" "canes" "[LCaneSlices$Cane;", Cond.methodLink RX3 68 yX0_startWorking, Cond.instanceMethod yX0_startWorking, Cond.selects RX0 yX0_startWorking yX0_startWorking, Cond.initialized RX0, Cond.code yX0_startWorking cX0_startWorking 2 (some .boolean), Cond.fieldLink RX0 22 "CaneSlices$Cane" "heat" "I", Cond.fieldLink RX0 28 "CaneSlices$Cane" "cracked" "Z", Cond.methodLink RX3 94 yX0_stretch]
def wsL_pull_r2 : List Cond := [Cond.instanceMethod yX0_stretch, Cond.selects RX0 yX0_stretch yX0_stretch, Cond.code yX0_stretch cX0_stretch 1 none, Cond.fieldLink RX0 18 "CaneSlices$Cane" "length" "I", Cond.methodLink RX0 32 Lib.Math.min.name, Cond.static Lib.Math.min.name, Cond.initialized "java/lang/Math", Cond.code Lib.Math.min.name Lib.Math.min.code 2 (some .int), Cond.fieldLink RX0 25 "CaneSlices$Cane" "twist" "I", Cond.methodLink RX3 81 yX3_passMinute, Cond.instanceMethod yX3_passMinute, Cond.selects RX3 yX3_passMinute yX3_passMinute, Cond.code yX3_passMinute cX3_passMinute 3 none, Cond.fieldLink RX3 24 "CaneSlices" "inFurnace" "I", Cond.fieldLink RX3 251 "CaneSlices" "minute" "I", Cond.methodLink RX3 248 yX0_passMinute, Cond.instanceMethod yX0_passMinute, Cond.selects RX0 yX0_passMinute yX0_passMinute, Cond.code yX0_passMinute cX0_passMinute 2 none, Cond.methodLink RX0 38 Lib.Math.max.name, Cond.static Lib.Math.max.name, Cond.code Lib.Math.max.name Lib.Math.max.code 2 (some .int)]
def wsL_pull : List Cond := .codeWith yL_pull cL_pull 4 (some .int) [(0, 16, 19, 19), (0, 16, 22, 13)] :: ((wsL_pull_r1 ++ wsL_pull_r2) ++ wsX00 ++ wsX30 ++ (vx_atS RX3 47 "java/lang/IndexOutOfBoundsException" ["java/lang/RuntimeException", "java/lang/Exception"]).filter goodWord ++ (vx_atS RX3 35 "java/lang/IllegalStateException" ["java/lang/RuntimeException", "java/lang/Exception"]).filter goodWord)
def wsL_furnace : List Cond := .codeWith yL_furnace cL_furnace 4 (some .int) [(0, 9, 12, 19)] :: ([.classLink RL 19 "java/lang/IndexOutOfBoundsException", .methodLink RL 31 yX3_furnace, .instanceMethod yX3_furnace, .selects RX3 yX3_furnace yX3_furnace, .initialized RX3, .code yX3_furnace cX3_furnace 3 (some .int), .classLink RX3 43 "java/lang/IndexOutOfBoundsException", .initialized "java/lang/IndexOutOfBoundsException", .fieldLink RX3 24 "CaneSlices" "inFurnace" "I", .methodLink RX3 39 yX3_caneAt, .instanceMethod yX3_caneAt, .selects RX3 yX3_caneAt yX3_caneAt, .code yX3_caneAt cX3_caneAt 2 (some (.object "CaneSlices$Cane")), .fieldLink RX3 11 "CaneSlices" "canes" "[LCaneSlices$Cane;"] ++ wsX30 ++ (vx_atS RX3 47 "java/lang/IndexOutOfBoundsException" ["java/lang/RuntimeException", "java/lang/Exception"]).filter goodWord)
def wsL_rest_r1 : List Cond := [Cond.classLink RL 21 "java/lang/IllegalArgumentException", Cond.methodLink RL 35 yX3_rest, Cond.instanceMethod yX3_rest, Cond.selects RX3 yX3_rest yX3_rest, Cond.initialized RX3, Cond.code yX3_rest cX3_rest 3 (some .int), Cond.classLink RX3 55 "java/lang/IllegalArgumentException", Cond.initialized "java/lang/IllegalArgumentException", Cond.methodLink RX3 81 yX3_passMinute, Cond.instanceMethod yX3_passMinute, Cond.selects RX3 yX3_passMinute yX3_passMinute, Cond.code yX3_passMinute cX3_passMinute 3 none, Cond.fieldLink RX3 11 "CaneSlices" "canes" "[LCaneSlices$Cane;", Cond.fieldLink RX3 24 "CaneSlices" "inFurnace" "I", Cond.fieldLink RX3 251 "CaneSlices" "minute" "I", Cond.methodLink RX3 248 yX0_passMinute, Cond.instanceMethod yX0_passMinute, Cond.selects RX0 yX0_passMinute yX0_passMinute, Cond.initialized RX0, Cond.code yX0_passMinute cX0_passMinute 2 none, Cond.fieldLink RX0 22 "CaneSlices$Cane" "heat" "I", Cond.methodLink RX0 32 Lib.Math.min.name, Cond.static Lib.Math.min.name, Cond.initialized "java/lang/Math"]
def wsL_rest_r2 : List Cond := [Cond.code Lib.Math.min.name Lib.Math.min.code 2 (some .int), Cond.methodLink RX0 38 Lib.Math.max.name, Cond.static Lib.Math.max.name, Cond.code Lib.Math.max.name Lib.Math.max.code 2 (some .int), Cond.methodLink RX3 99 yX3_heatOfAll, Cond.instanceMethod yX3_heatOfAll, Cond.selects RX3 yX3_heatOfAll yX3_heatOfAll, Cond.code yX3_heatOfAll cX3_heatOfAll 6 (some .int)]
def wsL_rest : List Cond := .codeWith yL_rest cL_rest 4 (some .int) [(0, 9, 12, 21)] :: ((wsL_rest_r1 ++ wsL_rest_r2) ++ wsX30 ++ wsX00 ++ (vx_atS RX3 59 "java/lang/IllegalArgumentException" ["java/lang/RuntimeException", "java/lang/Exception"]).filter goodWord)
def wsL_cut_r1 : List Cond := [Cond.classLink RL 19 "java/lang/IndexOutOfBoundsException", Cond.classLink RL 13 "java/lang/IllegalStateException", Cond.methodLink RL 38 yX3_cut, Cond.instanceMethod yX3_cut, Cond.selects RX3 yX3_cut yX3_cut, Cond.initialized RX3, Cond.code yX3_cut cX3_cut 5 (some .int), Cond.classLink RX3 43 "java/lang/IndexOutOfBoundsException", Cond.initialized "java/lang/IndexOutOfBoundsException", Cond.classLink RX3 31 "java/lang/IllegalStateException", Cond.initialized "java/lang/IllegalStateException", Cond.fieldLink RX3 111 "CaneSlices" "sliceCount" "I", Cond.fieldLink RX3 17 "CaneSlices" "slices" "[LCaneSlices$Slice;", Cond.classLink RX3 15 RX2, Cond.instantiable RX2 5, Cond.initialized RX2, Cond.methodLink RX3 39 yX3_caneAt, Cond.instanceMethod yX3_caneAt, Cond.selects RX3 yX3_caneAt yX3_caneAt, Cond.code yX3_caneAt cX3_caneAt 2 (some (.object "CaneSlices$Cane")), Cond.fieldLink RX3 11 "CaneSlices" "canes" "[LCaneSlices$Cane;", Cond.methodLink RX3 116 yX0_turnAt, Cond.instanceMethod yX0_turnAt, Cond.selects RX0 yX0_turnAt yX0_turnAt]
def wsL_cut_r2 : List Cond := [Cond.initialized RX0, Cond.code yX0_turnAt cX0_turnAt 2 (some .int), Cond.fieldLink RX0 25 "CaneSlices$Cane" "twist" "I", Cond.methodLink RX3 120 yX1_turned, Cond.instanceMethod yX1_turned, Cond.selects RX1 yX1_turned yX1_turned, Cond.initialized RX1, Cond.code yX1_turned cX1_turned 5 (some (.object "CaneSlices$Pattern")), Cond.classLink RX1 10 RX1, Cond.instantiable RX1 1, Cond.fieldLink RX1 9 "CaneSlices$Pattern" "colours" "[I", Cond.methodLink RX1 24 yX1_init, Cond.instanceMethod yX1_init, Cond.code yX1_init cX1_init 1 none, Cond.methodLink RX1 3 objectInit, Cond.instanceMethod objectInit, Cond.code objectInit ⟨#[0xb1]⟩ 1 none, Cond.arrayClass .int, Cond.methodLink RX1 25 yX1_colourAt, Cond.instanceMethod yX1_colourAt, Cond.selects RX1 yX1_colourAt yX1_colourAt, Cond.code yX1_colourAt cX1_colourAt 4 (some .int), Cond.methodLink RX1 21 yX1_indexOf, Cond.static yX1_indexOf]
def wsL_cut_r3 : List Cond := [Cond.code yX1_indexOf cX1_indexOf 2 (some .int), Cond.methodLink RX1 15 yJ9_floorMod_7cf53, Cond.static yJ9_floorMod_7cf53, Cond.initialized RJ9, Cond.code yJ9_floorMod_7cf53 cJ9_floorMod_7cf53 3 (some .int), Cond.methodLink RX3 124 yX3_kindOf, Cond.instanceMethod yX3_kindOf, Cond.selects RX3 yX3_kindOf yX3_kindOf, Cond.code yX3_kindOf cX3_kindOf 4 (some .int), Cond.methodLink RX3 212 yX1_leastTurnTo, Cond.instanceMethod yX1_leastTurnTo, Cond.selects RX1 yX1_leastTurnTo yX1_leastTurnTo, Cond.code yX1_leastTurnTo cX1_leastTurnTo 3 (some .int), Cond.methodLink RX1 29 yX1_looksLike, Cond.instanceMethod yX1_looksLike, Cond.selects RX1 yX1_looksLike yX1_looksLike, Cond.code yX1_looksLike cX1_looksLike 5 (some .boolean), Cond.methodLink RX3 128 yX2_init, Cond.instanceMethod yX2_init, Cond.code yX2_init cX2_init 4 none, Cond.methodLink RX2 3 objectInit, Cond.fieldLink RX2 9 "CaneSlices$Slice" "number" "I", Cond.fieldLink RX2 15 "CaneSlices$Slice" "pattern" "LCaneSlices$Pattern;", Cond.fieldLink RX2 19 "CaneSlices$Slice" "kind" "I"]
def wsL_cut_r4 : List Cond := [Cond.fieldLink RX2 22 "CaneSlices$Slice" "eye" "I"]
def wsL_cut : List Cond := .codeWith yL_cut cL_cut 4 (some .int) [(0, 9, 12, 19), (0, 9, 15, 13)] :: ((wsL_cut_r1 ++ (wsL_cut_r2 ++ (wsL_cut_r3 ++ wsL_cut_r4))) ++ wsX00 ++ wsX30 ++ wsX20 ++ wsX10 ++ (vx_atS RX3 47 "java/lang/IndexOutOfBoundsException" ["java/lang/RuntimeException", "java/lang/Exception"]).filter goodWord ++ (vx_atS RX3 35 "java/lang/IllegalStateException" ["java/lang/RuntimeException", "java/lang/Exception"]).filter goodWord)
def wsL_cane : List Cond := .codeWith yL_cane cL_cane 5 (some .int) [(0, 10, 13, 19)] :: ([.classLink RL 19 "java/lang/IndexOutOfBoundsException", .methodLink RL 41 yX3_cane, .instanceMethod yX3_cane, .selects RX3 yX3_cane yX3_cane, .initialized RX3, .code yX3_cane cX3_cane 4 (some .int), .classLink RX3 43 "java/lang/IndexOutOfBoundsException", .initialized "java/lang/IndexOutOfBoundsException", .fieldLink RX3 24 "CaneSlices" "inFurnace" "I", .methodLink RX3 39 yX3_caneAt, .instanceMethod yX3_caneAt, .selects RX3 yX3_caneAt yX3_caneAt, .code yX3_caneAt cX3_caneAt 2 (some (.object "CaneSlices$Cane")), .fieldLink RX3 11 "CaneSlices" "canes" "[LCaneSlices$Cane;", .methodLink RX3 133 yX0_tell, .instanceMethod yX0_tell, .selects RX0 yX0_tell yX0_tell, .initialized RX0, .code yX0_tell cX0_tell 3 (some .int), .fieldLink RX0 18 "CaneSlices$Cane" "length" "I", .fieldLink RX0 25 "CaneSlices$Cane" "twist" "I", .fieldLink RX0 22 "CaneSlices$Cane" "heat" "I", .fieldLink RX0 28 "CaneSlices$Cane" "cracked" "Z"] ++ wsX30 ++ wsX00 ++ (vx_atS RX3 47 "java/lang/IndexOutOfBoundsException" ["java/lang/RuntimeException", "java/lang/Exception"]).filter goodWord)
def wsL_shows_r1 : List Cond := [Cond.classLink RL 19 "java/lang/IndexOutOfBoundsException", Cond.methodLink RL 45 yX3_shows, Cond.instanceMethod yX3_shows, Cond.selects RX3 yX3_shows yX3_shows, Cond.initialized RX3, Cond.code yX3_shows cX3_shows 6 (some .int), Cond.classLink RX3 43 "java/lang/IndexOutOfBoundsException", Cond.initialized "java/lang/IndexOutOfBoundsException", Cond.methodLink RX3 39 yX3_caneAt, Cond.instanceMethod yX3_caneAt, Cond.selects RX3 yX3_caneAt yX3_caneAt, Cond.code yX3_caneAt cX3_caneAt 2 (some (.object "CaneSlices$Cane")), Cond.fieldLink RX3 11 "CaneSlices" "canes" "[LCaneSlices$Cane;", Cond.methodLink RX3 137 yX0_hasPlace, Cond.instanceMethod yX0_hasPlace, Cond.selects RX0 yX0_hasPlace yX0_hasPlace, Cond.initialized RX0, Cond.code yX0_hasPlace cX0_hasPlace 2 (some .boolean), Cond.fieldLink RX0 18 "CaneSlices$Cane" "length" "I", Cond.methodLink RX3 48 yX3_isRing, Cond.static yX3_isRing, Cond.code yX3_isRing cX3_isRing 1 (some .boolean), Cond.methodLink RX3 52 yX3_isSector, Cond.static yX3_isSector]
def wsL_shows_r2 : List Cond := [Cond.code yX3_isSector cX3_isSector 1 (some .boolean), Cond.methodLink RX3 116 yX0_turnAt, Cond.instanceMethod yX0_turnAt, Cond.selects RX0 yX0_turnAt yX0_turnAt, Cond.code yX0_turnAt cX0_turnAt 2 (some .int), Cond.fieldLink RX0 25 "CaneSlices$Cane" "twist" "I", Cond.methodLink RX3 142 yX1_colourAt, Cond.instanceMethod yX1_colourAt, Cond.selects RX1 yX1_colourAt yX1_colourAt, Cond.initialized RX1, Cond.code yX1_colourAt cX1_colourAt 4 (some .int), Cond.fieldLink RX1 9 "CaneSlices$Pattern" "colours" "[I", Cond.methodLink RX1 21 yX1_indexOf, Cond.static yX1_indexOf, Cond.code yX1_indexOf cX1_indexOf 2 (some .int), Cond.methodLink RX1 15 yJ9_floorMod_7cf53, Cond.static yJ9_floorMod_7cf53, Cond.initialized RJ9, Cond.code yJ9_floorMod_7cf53 cJ9_floorMod_7cf53 3 (some .int)]
def wsL_shows : List Cond := .codeWith yL_shows cL_shows 7 (some .int) [(0, 14, 17, 19)] :: ((wsL_shows_r1 ++ wsL_shows_r2) ++ wsX00 ++ wsX30 ++ wsX10 ++ (vx_atS RX3 47 "java/lang/IndexOutOfBoundsException" ["java/lang/RuntimeException", "java/lang/Exception"]).filter goodWord)
def wsL_colour_r1 : List Cond := [Cond.classLink RL 19 "java/lang/IndexOutOfBoundsException", Cond.methodLink RL 49 yX3_colour, Cond.instanceMethod yX3_colour, Cond.selects RX3 yX3_colour yX3_colour, Cond.initialized RX3, Cond.code yX3_colour cX3_colour 5 (some .int), Cond.classLink RX3 43 "java/lang/IndexOutOfBoundsException", Cond.initialized "java/lang/IndexOutOfBoundsException", Cond.methodLink RX3 146 yX3_sliceAt, Cond.instanceMethod yX3_sliceAt, Cond.selects RX3 yX3_sliceAt yX3_sliceAt, Cond.code yX3_sliceAt cX3_sliceAt 2 (some (.object "CaneSlices$Slice")), Cond.fieldLink RX3 17 "CaneSlices" "slices" "[LCaneSlices$Slice;", Cond.methodLink RX3 48 yX3_isRing, Cond.static yX3_isRing, Cond.code yX3_isRing cX3_isRing 1 (some .boolean), Cond.methodLink RX3 52 yX3_isSector, Cond.static yX3_isSector, Cond.code yX3_isSector cX3_isSector 1 (some .boolean), Cond.methodLink RX3 142 yX1_colourAt, Cond.instanceMethod yX1_colourAt, Cond.selects RX1 yX1_colourAt yX1_colourAt, Cond.initialized RX1, Cond.code yX1_colourAt cX1_colourAt 4 (some .int)]
def wsL_colour_r2 : List Cond := [Cond.fieldLink RX1 9 "CaneSlices$Pattern" "colours" "[I", Cond.methodLink RX1 21 yX1_indexOf, Cond.static yX1_indexOf, Cond.code yX1_indexOf cX1_indexOf 2 (some .int), Cond.methodLink RX1 15 yJ9_floorMod_7cf53, Cond.static yJ9_floorMod_7cf53, Cond.initialized RJ9, Cond.code yJ9_floorMod_7cf53 cJ9_floorMod_7cf53 3 (some .int)]
def wsL_colour : List Cond := .codeWith yL_colour cL_colour 6 (some .int) [(0, 12, 15, 19)] :: ((wsL_colour_r1 ++ wsL_colour_r2) ++ wsX20 ++ wsX30 ++ wsX10 ++ (vx_atS RX3 47 "java/lang/IndexOutOfBoundsException" ["java/lang/RuntimeException", "java/lang/Exception"]).filter goodWord)
def wsL_where : List Cond := .codeWith yL_where cL_where 4 (some .int) [(0, 9, 12, 19)] :: ([.classLink RL 19 "java/lang/IndexOutOfBoundsException", .methodLink RL 53 yX3_where, .instanceMethod yX3_where, .selects RX3 yX3_where yX3_where, .initialized RX3, .code yX3_where cX3_where 3 (some .int), .classLink RX3 43 "java/lang/IndexOutOfBoundsException", .initialized "java/lang/IndexOutOfBoundsException", .methodLink RX3 146 yX3_sliceAt, .instanceMethod yX3_sliceAt, .selects RX3 yX3_sliceAt yX3_sliceAt, .code yX3_sliceAt cX3_sliceAt 2 (some (.object "CaneSlices$Slice")), .fieldLink RX3 17 "CaneSlices" "slices" "[LCaneSlices$Slice;"] ++ wsX20 ++ wsX30 ++ (vx_atS RX3 47 "java/lang/IndexOutOfBoundsException" ["java/lang/RuntimeException", "java/lang/Exception"]).filter goodWord)
def wsL_bead : List Cond := .codeWith yL_bead cL_bead 3 (some .int) [(0, 8, 11, 13)] :: ([.classLink RL 13 "java/lang/IllegalStateException", .methodLink RL 56 yX3_bead, .instanceMethod yX3_bead, .selects RX3 yX3_bead yX3_bead, .initialized RX3, .code yX3_bead cX3_bead 2 (some .int), .classLink RX3 31 "java/lang/IllegalStateException", .initialized "java/lang/IllegalStateException", .fieldLink RX3 158 "CaneSlices" "beadCount" "I"] ++ wsX30 ++ (vx_atS RX3 35 "java/lang/IllegalStateException" ["java/lang/RuntimeException", "java/lang/Exception"]).filter goodWord)
def wsL_set_r1 : List Cond := [Cond.classLink RL 19 "java/lang/IndexOutOfBoundsException", Cond.classLink RL 21 "java/lang/IllegalArgumentException", Cond.classLink RL 13 "java/lang/IllegalStateException", Cond.methodLink RL 59 yX3_set, Cond.instanceMethod yX3_set, Cond.selects RX3 yX3_set yX3_set, Cond.initialized RX3, Cond.code yX3_set cX3_set 7 (some .int), Cond.classLink RX3 43 "java/lang/IndexOutOfBoundsException", Cond.initialized "java/lang/IndexOutOfBoundsException", Cond.classLink RX3 55 "java/lang/IllegalArgumentException", Cond.initialized "java/lang/IllegalArgumentException", Cond.classLink RX3 31 "java/lang/IllegalStateException", Cond.initialized "java/lang/IllegalStateException", Cond.fieldLink RX3 21 "CaneSlices" "eyes" "[LCaneSlices$Slice;", Cond.methodLink RX3 146 yX3_sliceAt, Cond.instanceMethod yX3_sliceAt, Cond.selects RX3 yX3_sliceAt yX3_sliceAt, Cond.code yX3_sliceAt cX3_sliceAt 2 (some (.object "CaneSlices$Slice")), Cond.fieldLink RX3 17 "CaneSlices" "slices" "[LCaneSlices$Slice;", Cond.methodLink RX3 163 yX3_isBead, Cond.instanceMethod yX3_isBead, Cond.selects RX3 yX3_isBead yX3_isBead, Cond.code yX3_isBead cX3_isBead 2 (some .boolean)]
def wsL_set_r2 : List Cond := [Cond.fieldLink RX3 158 "CaneSlices" "beadCount" "I", Cond.methodLink RX3 166 yX3_isEye, Cond.static yX3_isEye, Cond.code yX3_isEye cX3_isEye 1 (some .boolean), Cond.methodLink RX3 52 yX3_isSector, Cond.static yX3_isSector, Cond.code yX3_isSector cX3_isSector 1 (some .boolean), Cond.methodLink RX3 173 yX2_isFree, Cond.instanceMethod yX2_isFree, Cond.selects RX2 yX2_isFree yX2_isFree, Cond.initialized RX2, Cond.code yX2_isFree cX2_isFree 1 (some .boolean), Cond.fieldLink RX2 22 "CaneSlices$Slice" "eye" "I", Cond.methodLink RX3 179 yX2_enter, Cond.instanceMethod yX2_enter, Cond.selects RX2 yX2_enter yX2_enter, Cond.code yX2_enter cX2_enter 3 none, Cond.fieldLink RX2 25 "CaneSlices$Slice" "turn" "I", Cond.methodLink RX3 183 yX3_filledEyes, Cond.instanceMethod yX3_filledEyes, Cond.selects RX3 yX3_filledEyes yX3_filledEyes, Cond.code yX3_filledEyes cX3_filledEyes 4 (some .int)]
def wsL_set : List Cond := .codeWith yL_set cL_set 7 (some .int) [(0, 14, 17, 19), (0, 14, 21, 21), (0, 14, 25, 13)] :: ((wsL_set_r1 ++ wsL_set_r2) ++ wsX30 ++ wsX20 ++ (vx_atS RX3 47 "java/lang/IndexOutOfBoundsException" ["java/lang/RuntimeException", "java/lang/Exception"]).filter goodWord ++ (vx_atS RX3 59 "java/lang/IllegalArgumentException" ["java/lang/RuntimeException", "java/lang/Exception"]).filter goodWord ++ (vx_atS RX3 35 "java/lang/IllegalStateException" ["java/lang/RuntimeException", "java/lang/Exception"]).filter goodWord)
def wsL_drop_r1 : List Cond := [Cond.classLink RL 19 "java/lang/IndexOutOfBoundsException", Cond.classLink RL 13 "java/lang/IllegalStateException", Cond.methodLink RL 62 yX3_drop, Cond.instanceMethod yX3_drop, Cond.selects RX3 yX3_drop yX3_drop, Cond.initialized RX3, Cond.code yX3_drop cX3_drop 5 (some .int), Cond.classLink RX3 43 "java/lang/IndexOutOfBoundsException", Cond.initialized "java/lang/IndexOutOfBoundsException", Cond.classLink RX3 31 "java/lang/IllegalStateException", Cond.initialized "java/lang/IllegalStateException", Cond.fieldLink RX3 21 "CaneSlices" "eyes" "[LCaneSlices$Slice;", Cond.methodLink RX3 163 yX3_isBead, Cond.instanceMethod yX3_isBead, Cond.selects RX3 yX3_isBead yX3_isBead, Cond.code yX3_isBead cX3_isBead 2 (some .boolean), Cond.fieldLink RX3 158 "CaneSlices" "beadCount" "I", Cond.methodLink RX3 166 yX3_isEye, Cond.static yX3_isEye, Cond.code yX3_isEye cX3_isEye 1 (some .boolean), Cond.methodLink RX3 190 yX2_leave, Cond.instanceMethod yX2_leave, Cond.selects RX2 yX2_leave yX2_leave, Cond.initialized RX2]
def wsL_drop_r2 : List Cond := [Cond.code yX2_leave cX2_leave 1 none, Cond.fieldLink RX2 22 "CaneSlices$Slice" "eye" "I", Cond.fieldLink RX2 25 "CaneSlices$Slice" "turn" "I"]
def wsL_drop : List Cond := .codeWith yL_drop cL_drop 5 (some .int) [(0, 10, 13, 19), (0, 10, 17, 13)] :: ((wsL_drop_r1 ++ wsL_drop_r2) ++ wsX30 ++ wsX20 ++ (vx_atS RX3 47 "java/lang/IndexOutOfBoundsException" ["java/lang/RuntimeException", "java/lang/Exception"]).filter goodWord ++ (vx_atS RX3 35 "java/lang/IllegalStateException" ["java/lang/RuntimeException", "java/lang/Exception"]).filter goodWord)
def wsL_seen_r1 : List Cond := [Cond.classLink RL 19 "java/lang/IndexOutOfBoundsException", Cond.methodLink RL 65 yX3_seen, Cond.instanceMethod yX3_seen, Cond.selects RX3 yX3_seen yX3_seen, Cond.initialized RX3, Cond.code yX3_seen cX3_seen 6 (some .int), Cond.classLink RX3 43 "java/lang/IndexOutOfBoundsException", Cond.initialized "java/lang/IndexOutOfBoundsException", Cond.fieldLink RX3 21 "CaneSlices" "eyes" "[LCaneSlices$Slice;", Cond.methodLink RX3 163 yX3_isBead, Cond.instanceMethod yX3_isBead, Cond.selects RX3 yX3_isBead yX3_isBead, Cond.code yX3_isBead cX3_isBead 2 (some .boolean), Cond.fieldLink RX3 158 "CaneSlices" "beadCount" "I", Cond.methodLink RX3 166 yX3_isEye, Cond.static yX3_isEye, Cond.code yX3_isEye cX3_isEye 1 (some .boolean), Cond.methodLink RX3 48 yX3_isRing, Cond.static yX3_isRing, Cond.code yX3_isRing cX3_isRing 1 (some .boolean), Cond.methodLink RX3 52 yX3_isSector, Cond.static yX3_isSector, Cond.code yX3_isSector cX3_isSector 1 (some .boolean), Cond.methodLink RX3 142 yX1_colourAt]
def wsL_seen_r2 : List Cond := [Cond.instanceMethod yX1_colourAt, Cond.selects RX1 yX1_colourAt yX1_colourAt, Cond.initialized RX1, Cond.code yX1_colourAt cX1_colourAt 4 (some .int), Cond.fieldLink RX1 9 "CaneSlices$Pattern" "colours" "[I", Cond.methodLink RX1 21 yX1_indexOf, Cond.static yX1_indexOf, Cond.code yX1_indexOf cX1_indexOf 2 (some .int), Cond.methodLink RX1 15 yJ9_floorMod_7cf53, Cond.static yJ9_floorMod_7cf53, Cond.initialized RJ9, Cond.code yJ9_floorMod_7cf53 cJ9_floorMod_7cf53 3 (some .int)]
def wsL_seen : List Cond := .codeWith yL_seen cL_seen 7 (some .int) [(0, 14, 17, 19)] :: ((wsL_seen_r1 ++ wsL_seen_r2) ++ wsX30 ++ wsX20 ++ wsX10 ++ (vx_atS RX3 47 "java/lang/IndexOutOfBoundsException" ["java/lang/RuntimeException", "java/lang/Exception"]).filter goodWord)
def wsL_count_r1 : List Cond := [Cond.classLink RL 19 "java/lang/IndexOutOfBoundsException", Cond.methodLink RL 68 yX3_count, Cond.instanceMethod yX3_count, Cond.selects RX3 yX3_count yX3_count, Cond.initialized RX3, Cond.code yX3_count cX3_count 2 (some .int), Cond.classLink RX3 43 "java/lang/IndexOutOfBoundsException", Cond.initialized "java/lang/IndexOutOfBoundsException", Cond.methodLink RX3 203 yX3_tally, Cond.instanceMethod yX3_tally, Cond.selects RX3 yX3_tally yX3_tally, Cond.code yX3_tally cX3_tally 2 (some .int), Cond.fieldLink RX3 251 "CaneSlices" "minute" "I", Cond.fieldLink RX3 28 "CaneSlices" "caneCount" "I", Cond.fieldLink RX3 111 "CaneSlices" "sliceCount" "I", Cond.fieldLink RX3 158 "CaneSlices" "beadCount" "I", Cond.methodLink RX3 254 yX3_wholeCanes, Cond.instanceMethod yX3_wholeCanes, Cond.selects RX3 yX3_wholeCanes yX3_wholeCanes, Cond.code yX3_wholeCanes cX3_wholeCanes 6 (some .int), Cond.fieldLink RX3 11 "CaneSlices" "canes" "[LCaneSlices$Cane;", Cond.methodLink RX3 257 yX3_slicesInEyes, Cond.instanceMethod yX3_slicesInEyes, Cond.selects RX3 yX3_slicesInEyes yX3_slicesInEyes]
def wsL_count_r2 : List Cond := [Cond.code yX3_slicesInEyes cX3_slicesInEyes 6 (some .int), Cond.fieldLink RX3 21 "CaneSlices" "eyes" "[LCaneSlices$Slice;", Cond.methodLink RX3 260 yX3_beadsOfOneLook, Cond.instanceMethod yX3_beadsOfOneLook, Cond.selects RX3 yX3_beadsOfOneLook yX3_beadsOfOneLook, Cond.code yX3_beadsOfOneLook cX3_beadsOfOneLook 4 (some .int), Cond.methodLink RX3 222 yX3_eyesLike, Cond.instanceMethod yX3_eyesLike, Cond.selects RX3 yX3_eyesLike yX3_eyesLike, Cond.code yX3_eyesLike cX3_eyesLike 6 (some .int), Cond.methodLink RX3 208 yX1_looksLike, Cond.instanceMethod yX1_looksLike, Cond.selects RX1 yX1_looksLike yX1_looksLike, Cond.initialized RX1, Cond.code yX1_looksLike cX1_looksLike 5 (some .boolean), Cond.fieldLink RX1 9 "CaneSlices$Pattern" "colours" "[I", Cond.methodLink RX1 25 yX1_colourAt, Cond.instanceMethod yX1_colourAt, Cond.selects RX1 yX1_colourAt yX1_colourAt, Cond.code yX1_colourAt cX1_colourAt 4 (some .int), Cond.methodLink RX1 21 yX1_indexOf, Cond.static yX1_indexOf, Cond.code yX1_indexOf cX1_indexOf 2 (some .int), Cond.methodLink RX1 15 yJ9_floorMod_7cf53]
def wsL_count_r3 : List Cond := [Cond.static yJ9_floorMod_7cf53, Cond.initialized RJ9, Cond.code yJ9_floorMod_7cf53 cJ9_floorMod_7cf53 3 (some .int), Cond.methodLink RX3 263 yX3_lengthOfAll, Cond.instanceMethod yX3_lengthOfAll, Cond.selects RX3 yX3_lengthOfAll yX3_lengthOfAll, Cond.code yX3_lengthOfAll cX3_lengthOfAll 6 (some .int)]
def wsL_count : List Cond := .codeWith yL_count cL_count 4 (some .int) [(0, 9, 12, 19)] :: ((wsL_count_r1 ++ (wsL_count_r2 ++ wsL_count_r3)) ++ wsX30 ++ wsX00 ++ wsX20 ++ wsX10 ++ (vx_atS RX3 47 "java/lang/IndexOutOfBoundsException" ["java/lang/RuntimeException", "java/lang/Exception"]).filter goodWord)
def wsL_again_r1 : List Cond := [Cond.classLink RL 19 "java/lang/IndexOutOfBoundsException", Cond.methodLink RL 71 yX3_again, Cond.instanceMethod yX3_again, Cond.selects RX3 yX3_again yX3_again, Cond.initialized RX3, Cond.code yX3_again cX3_again 5 (some .int), Cond.classLink RX3 43 "java/lang/IndexOutOfBoundsException", Cond.initialized "java/lang/IndexOutOfBoundsException", Cond.methodLink RX3 39 yX3_caneAt, Cond.instanceMethod yX3_caneAt, Cond.selects RX3 yX3_caneAt yX3_caneAt, Cond.code yX3_caneAt cX3_caneAt 2 (some (.object "CaneSlices$Cane")), Cond.fieldLink RX3 11 "CaneSlices" "canes" "[LCaneSlices$Cane;", Cond.methodLink RX3 137 yX0_hasPlace, Cond.instanceMethod yX0_hasPlace, Cond.selects RX0 yX0_hasPlace yX0_hasPlace, Cond.initialized RX0, Cond.code yX0_hasPlace cX0_hasPlace 2 (some .boolean), Cond.fieldLink RX0 18 "CaneSlices$Cane" "length" "I", Cond.methodLink RX3 116 yX0_turnAt, Cond.instanceMethod yX0_turnAt, Cond.selects RX0 yX0_turnAt yX0_turnAt, Cond.code yX0_turnAt cX0_turnAt 2 (some .int), Cond.fieldLink RX0 25 "CaneSlices$Cane" "twist" "I"]
def wsL_again_r2 : List Cond := [Cond.methodLink RX3 208 yX1_looksLike, Cond.instanceMethod yX1_looksLike, Cond.selects RX1 yX1_looksLike yX1_looksLike, Cond.initialized RX1, Cond.code yX1_looksLike cX1_looksLike 5 (some .boolean), Cond.fieldLink RX1 9 "CaneSlices$Pattern" "colours" "[I", Cond.methodLink RX1 25 yX1_colourAt, Cond.instanceMethod yX1_colourAt, Cond.selects RX1 yX1_colourAt yX1_colourAt, Cond.code yX1_colourAt cX1_colourAt 4 (some .int), Cond.methodLink RX1 21 yX1_indexOf, Cond.static yX1_indexOf, Cond.code yX1_indexOf cX1_indexOf 2 (some .int), Cond.methodLink RX1 15 yJ9_floorMod_7cf53, Cond.static yJ9_floorMod_7cf53, Cond.initialized RJ9, Cond.code yJ9_floorMod_7cf53 cJ9_floorMod_7cf53 3 (some .int)]
def wsL_again : List Cond := .codeWith yL_again cL_again 5 (some .int) [(0, 10, 13, 19)] :: ((wsL_again_r1 ++ wsL_again_r2) ++ wsX00 ++ wsX30 ++ wsX10 ++ (vx_atS RX3 47 "java/lang/IndexOutOfBoundsException" ["java/lang/RuntimeException", "java/lang/Exception"]).filter goodWord)
def wsL_turn_r1 : List Cond := [Cond.classLink RL 19 "java/lang/IndexOutOfBoundsException", Cond.methodLink RL 74 yX3_turn, Cond.instanceMethod yX3_turn, Cond.selects RX3 yX3_turn yX3_turn, Cond.initialized RX3, Cond.code yX3_turn cX3_turn 5 (some .int), Cond.classLink RX3 43 "java/lang/IndexOutOfBoundsException", Cond.initialized "java/lang/IndexOutOfBoundsException", Cond.methodLink RX3 146 yX3_sliceAt, Cond.instanceMethod yX3_sliceAt, Cond.selects RX3 yX3_sliceAt yX3_sliceAt, Cond.code yX3_sliceAt cX3_sliceAt 2 (some (.object "CaneSlices$Slice")), Cond.fieldLink RX3 17 "CaneSlices" "slices" "[LCaneSlices$Slice;", Cond.methodLink RX3 212 yX1_leastTurnTo, Cond.instanceMethod yX1_leastTurnTo, Cond.selects RX1 yX1_leastTurnTo yX1_leastTurnTo, Cond.initialized RX1, Cond.code yX1_leastTurnTo cX1_leastTurnTo 3 (some .int), Cond.methodLink RX1 29 yX1_looksLike, Cond.instanceMethod yX1_looksLike, Cond.selects RX1 yX1_looksLike yX1_looksLike, Cond.code yX1_looksLike cX1_looksLike 5 (some .boolean), Cond.fieldLink RX1 9 "CaneSlices$Pattern" "colours" "[I", Cond.methodLink RX1 25 yX1_colourAt]
def wsL_turn_r2 : List Cond := [Cond.instanceMethod yX1_colourAt, Cond.selects RX1 yX1_colourAt yX1_colourAt, Cond.code yX1_colourAt cX1_colourAt 4 (some .int), Cond.methodLink RX1 21 yX1_indexOf, Cond.static yX1_indexOf, Cond.code yX1_indexOf cX1_indexOf 2 (some .int), Cond.methodLink RX1 15 yJ9_floorMod_7cf53, Cond.static yJ9_floorMod_7cf53, Cond.initialized RJ9, Cond.code yJ9_floorMod_7cf53 cJ9_floorMod_7cf53 3 (some .int)]
def wsL_turn : List Cond := .codeWith yL_turn cL_turn 5 (some .int) [(0, 10, 13, 19)] :: ((wsL_turn_r1 ++ wsL_turn_r2) ++ wsX20 ++ wsX30 ++ wsX10 ++ (vx_atS RX3 47 "java/lang/IndexOutOfBoundsException" ["java/lang/RuntimeException", "java/lang/Exception"]).filter goodWord)
def wsL_cuts_r1 : List Cond := [Cond.classLink RL 19 "java/lang/IndexOutOfBoundsException", Cond.methodLink RL 77 yX3_cuts, Cond.instanceMethod yX3_cuts, Cond.selects RX3 yX3_cuts yX3_cuts, Cond.initialized RX3, Cond.code yX3_cuts cX3_cuts 6 (some .int), Cond.classLink RX3 43 "java/lang/IndexOutOfBoundsException", Cond.initialized "java/lang/IndexOutOfBoundsException", Cond.methodLink RX3 39 yX3_caneAt, Cond.instanceMethod yX3_caneAt, Cond.selects RX3 yX3_caneAt yX3_caneAt, Cond.code yX3_caneAt cX3_caneAt 2 (some (.object "CaneSlices$Cane")), Cond.fieldLink RX3 11 "CaneSlices" "canes" "[LCaneSlices$Cane;", Cond.methodLink RX3 146 yX3_sliceAt, Cond.instanceMethod yX3_sliceAt, Cond.selects RX3 yX3_sliceAt yX3_sliceAt, Cond.code yX3_sliceAt cX3_sliceAt 2 (some (.object "CaneSlices$Slice")), Cond.fieldLink RX3 17 "CaneSlices" "slices" "[LCaneSlices$Slice;", Cond.methodLink RX3 116 yX0_turnAt, Cond.instanceMethod yX0_turnAt, Cond.selects RX0 yX0_turnAt yX0_turnAt, Cond.initialized RX0, Cond.code yX0_turnAt cX0_turnAt 2 (some .int), Cond.fieldLink RX0 25 "CaneSlices$Cane" "twist" "I"]
def wsL_cuts_r2 : List Cond := [Cond.methodLink RX3 208 yX1_looksLike, Cond.instanceMethod yX1_looksLike, Cond.selects RX1 yX1_looksLike yX1_looksLike, Cond.initialized RX1, Cond.code yX1_looksLike cX1_looksLike 5 (some .boolean), Cond.fieldLink RX1 9 "CaneSlices$Pattern" "colours" "[I", Cond.methodLink RX1 25 yX1_colourAt, Cond.instanceMethod yX1_colourAt, Cond.selects RX1 yX1_colourAt yX1_colourAt, Cond.code yX1_colourAt cX1_colourAt 4 (some .int), Cond.methodLink RX1 21 yX1_indexOf, Cond.static yX1_indexOf, Cond.code yX1_indexOf cX1_indexOf 2 (some .int), Cond.methodLink RX1 15 yJ9_floorMod_7cf53, Cond.static yJ9_floorMod_7cf53, Cond.initialized RJ9, Cond.code yJ9_floorMod_7cf53 cJ9_floorMod_7cf53 3 (some .int)]
def wsL_cuts : List Cond := .codeWith yL_cuts cL_cuts 5 (some .int) [(0, 10, 13, 19)] :: ((wsL_cuts_r1 ++ wsL_cuts_r2) ++ wsX00 ++ wsX20 ++ wsX30 ++ wsX10 ++ (vx_atS RX3 47 "java/lang/IndexOutOfBoundsException" ["java/lang/RuntimeException", "java/lang/Exception"]).filter goodWord)
def wsL_mends_r1 : List Cond := [Cond.classLink RL 19 "java/lang/IndexOutOfBoundsException", Cond.methodLink RL 80 yX3_mends, Cond.instanceMethod yX3_mends, Cond.selects RX3 yX3_mends yX3_mends, Cond.initialized RX3, Cond.code yX3_mends cX3_mends 7 (some .int), Cond.classLink RX3 43 "java/lang/IndexOutOfBoundsException", Cond.initialized "java/lang/IndexOutOfBoundsException", Cond.fieldLink RX3 21 "CaneSlices" "eyes" "[LCaneSlices$Slice;", Cond.methodLink RX3 163 yX3_isBead, Cond.instanceMethod yX3_isBead, Cond.selects RX3 yX3_isBead yX3_isBead, Cond.code yX3_isBead cX3_isBead 2 (some .boolean), Cond.fieldLink RX3 158 "CaneSlices" "beadCount" "I", Cond.methodLink RX3 219 yX3_canFillBead, Cond.instanceMethod yX3_canFillBead, Cond.selects RX3 yX3_canFillBead yX3_canFillBead, Cond.code yX3_canFillBead cX3_canFillBead 2 (some .boolean), Cond.fieldLink RX3 111 "CaneSlices" "sliceCount" "I", Cond.methodLink RX3 229 yX3_freeSlicesOf, Cond.instanceMethod yX3_freeSlicesOf, Cond.selects RX3 yX3_freeSlicesOf yX3_freeSlicesOf, Cond.code yX3_freeSlicesOf cX3_freeSlicesOf 7 (some .int), Cond.fieldLink RX3 17 "CaneSlices" "slices" "[LCaneSlices$Slice;"]
def wsL_mends_r2 : List Cond := [Cond.methodLink RX3 173 yX2_isFree, Cond.instanceMethod yX2_isFree, Cond.selects RX2 yX2_isFree yX2_isFree, Cond.initialized RX2, Cond.code yX2_isFree cX2_isFree 1 (some .boolean), Cond.fieldLink RX2 22 "CaneSlices$Slice" "eye" "I", Cond.methodLink RX3 222 yX3_eyesLike, Cond.instanceMethod yX3_eyesLike, Cond.selects RX3 yX3_eyesLike yX3_eyesLike, Cond.code yX3_eyesLike cX3_eyesLike 6 (some .int), Cond.methodLink RX3 208 yX1_looksLike, Cond.instanceMethod yX1_looksLike, Cond.selects RX1 yX1_looksLike yX1_looksLike, Cond.initialized RX1, Cond.code yX1_looksLike cX1_looksLike 5 (some .boolean), Cond.fieldLink RX1 9 "CaneSlices$Pattern" "colours" "[I", Cond.methodLink RX1 25 yX1_colourAt, Cond.instanceMethod yX1_colourAt, Cond.selects RX1 yX1_colourAt yX1_colourAt, Cond.code yX1_colourAt cX1_colourAt 4 (some .int), Cond.methodLink RX1 21 yX1_indexOf, Cond.static yX1_indexOf, Cond.code yX1_indexOf cX1_indexOf 2 (some .int), Cond.methodLink RX1 15 yJ9_floorMod_7cf53]
def wsL_mends_r3 : List Cond := [Cond.static yJ9_floorMod_7cf53, Cond.initialized RJ9, Cond.code yJ9_floorMod_7cf53 cJ9_floorMod_7cf53 3 (some .int)]
def wsL_mends : List Cond := .codeWith yL_mends cL_mends 4 (some .int) [(0, 9, 12, 19)] :: ((wsL_mends_r1 ++ (wsL_mends_r2 ++ wsL_mends_r3)) ++ wsX30 ++ wsX20 ++ wsX10 ++ (vx_atS RX3 47 "java/lang/IndexOutOfBoundsException" ["java/lang/RuntimeException", "java/lang/Exception"]).filter goodWord)
def wsL_law0_r1 : List Cond := [Cond.classLink RL 8 RX3, Cond.instantiable RX3 8, Cond.initialized RX3, Cond.classLink RL 84 RX4, Cond.instantiable RX4 15, Cond.initialized RX4, Cond.arrayClass .long, Cond.methodLink RL 83 yX3_init, Cond.instanceMethod yX3_init, Cond.code yX3_init cX3_init 1 none, Cond.methodLink RX3 1 objectInit, Cond.instanceMethod objectInit, Cond.code objectInit ⟨#[0xb1]⟩ 1 none, Cond.classLink RX3 9 RX0, Cond.fieldLink RX3 11 "CaneSlices" "canes" "[LCaneSlices$Cane;", Cond.classLink RX3 15 RX2, Cond.fieldLink RX3 17 "CaneSlices" "slices" "[LCaneSlices$Slice;", Cond.fieldLink RX3 21 "CaneSlices" "eyes" "[LCaneSlices$Slice;", Cond.fieldLink RX3 24 "CaneSlices" "inFurnace" "I", Cond.methodLink RL 86 yX4_init, Cond.instanceMethod yX4_init, Cond.code yX4_init cX4_init 1 none, Cond.methodLink RX4 3 objectInit, Cond.fieldLink RX4 9 "CaneSlicesModel" "furnace" "I"]
def wsL_law0_r2 : List Cond := [Cond.arrayClass .int, Cond.fieldLink RX4 13 "CaneSlicesModel" "length" "[I", Cond.fieldLink RX4 17 "CaneSlicesModel" "twist" "[I", Cond.fieldLink RX4 20 "CaneSlicesModel" "heat" "[I", Cond.fieldLink RX4 23 "CaneSlicesModel" "isWhole" "[I", Cond.fieldLink RX4 26 "CaneSlicesModel" "pattern" "[I", Cond.fieldLink RX4 29 "CaneSlicesModel" "look" "[I", Cond.fieldLink RX4 32 "CaneSlicesModel" "place" "[I", Cond.fieldLink RX4 35 "CaneSlicesModel" "eye" "[I", Cond.fieldLink RX4 38 "CaneSlicesModel" "turned" "[I", Cond.methodLink RL 87 yL_begin, Cond.static yL_begin, Cond.initialized RL, Cond.codeWith yL_begin cL_begin 3 (some .int) [(0, 8, 11, 13)], Cond.classLink RL 13 "java/lang/IllegalStateException", Cond.methodLink RL 7 yX3_begin, Cond.instanceMethod yX3_begin, Cond.selects RX3 yX3_begin yX3_begin, Cond.code yX3_begin cX3_begin 2 (some .int), Cond.classLink RX3 31 "java/lang/IllegalStateException", Cond.initialized "java/lang/IllegalStateException", Cond.fieldLink RX3 28 "CaneSlices" "caneCount" "I", Cond.instantiable RX0 5, Cond.initialized RX0]
def wsL_law0_r3 : List Cond := [Cond.methodLink RX3 38 yX0_init, Cond.instanceMethod yX0_init, Cond.code yX0_init cX0_init 1 none, Cond.methodLink RX0 3 objectInit, Cond.classLink RX0 9 RX1, Cond.instantiable RX1 1, Cond.initialized RX1, Cond.fieldLink RX0 12 "CaneSlices$Cane" "pattern" "LCaneSlices$Pattern;", Cond.fieldLink RX0 18 "CaneSlices$Cane" "length" "I", Cond.fieldLink RX0 22 "CaneSlices$Cane" "heat" "I", Cond.methodLink RX0 11 yX1_init, Cond.instanceMethod yX1_init, Cond.code yX1_init cX1_init 1 none, Cond.methodLink RX1 3 objectInit, Cond.fieldLink RX1 9 "CaneSlices$Pattern" "colours" "[I", Cond.methodLink RL 92 yX4_begin, Cond.instanceMethod yX4_begin, Cond.selects RX4 yX4_begin yX4_begin, Cond.code yX4_begin cX4_begin 1 (some .int), Cond.fieldLink RX4 41 "CaneSlicesModel" "thrown" "I", Cond.fieldLink RX4 44 "CaneSlicesModel" "canes" "I", Cond.methodLink RX4 67 yX4_no, Cond.instanceMethod yX4_no, Cond.selects RX4 yX4_no yX4_no]
def wsL_law0_r4 : List Cond := [Cond.code yX4_no cX4_no 2 (some .int), Cond.methodLink RL 93 yX4_thrown, Cond.instanceMethod yX4_thrown, Cond.selects RX4 yX4_thrown yX4_thrown, Cond.code yX4_thrown cX4_thrown 1 (some .int), Cond.methodLink RL 96 yL_lay, Cond.static yL_lay, Cond.codeWith yL_lay cL_lay 8 (some .int) [(0, 23, 26, 19), (0, 23, 30, 21), (0, 23, 34, 13)], Cond.classLink RL 19 "java/lang/IndexOutOfBoundsException", Cond.classLink RL 21 "java/lang/IllegalArgumentException", Cond.methodLink RL 15 yX3_lay, Cond.instanceMethod yX3_lay, Cond.selects RX3 yX3_lay yX3_lay, Cond.code yX3_lay cX3_lay 8 (some .boolean), Cond.classLink RX3 43 "java/lang/IndexOutOfBoundsException", Cond.initialized "java/lang/IndexOutOfBoundsException", Cond.classLink RX3 55 "java/lang/IllegalArgumentException", Cond.initialized "java/lang/IllegalArgumentException", Cond.methodLink RX3 39 yX3_caneAt, Cond.instanceMethod yX3_caneAt, Cond.selects RX3 yX3_caneAt yX3_caneAt, Cond.code yX3_caneAt cX3_caneAt 2 (some (.object "CaneSlices$Cane")), Cond.methodLink RX3 48 yX3_isRing, Cond.static yX3_isRing]
def wsL_law0_r5 : List Cond := [Cond.code yX3_isRing cX3_isRing 1 (some .boolean), Cond.methodLink RX3 52 yX3_isSector, Cond.static yX3_isSector, Cond.code yX3_isSector cX3_isSector 1 (some .boolean), Cond.methodLink RX3 68 yX0_startWorking, Cond.instanceMethod yX0_startWorking, Cond.selects RX0 yX0_startWorking yX0_startWorking, Cond.code yX0_startWorking cX0_startWorking 2 (some .boolean), Cond.fieldLink RX0 28 "CaneSlices$Cane" "cracked" "Z", Cond.methodLink RX3 75 yX1_paint, Cond.instanceMethod yX1_paint, Cond.selects RX1 yX1_paint yX1_paint, Cond.code yX1_paint cX1_paint 6 none, Cond.methodLink RX1 21 yX1_indexOf, Cond.static yX1_indexOf, Cond.code yX1_indexOf cX1_indexOf 2 (some .int), Cond.methodLink RX1 15 yJ9_floorMod_7cf53, Cond.static yJ9_floorMod_7cf53, Cond.initialized RJ9, Cond.code yJ9_floorMod_7cf53 cJ9_floorMod_7cf53 3 (some .int), Cond.methodLink RX3 81 yX3_passMinute, Cond.instanceMethod yX3_passMinute, Cond.selects RX3 yX3_passMinute yX3_passMinute, Cond.code yX3_passMinute cX3_passMinute 3 none]
def wsL_law0_r6 : List Cond := [Cond.fieldLink RX3 251 "CaneSlices" "minute" "I", Cond.methodLink RX3 248 yX0_passMinute, Cond.instanceMethod yX0_passMinute, Cond.selects RX0 yX0_passMinute yX0_passMinute, Cond.code yX0_passMinute cX0_passMinute 2 none, Cond.methodLink RX0 32 Lib.Math.min.name, Cond.static Lib.Math.min.name, Cond.initialized "java/lang/Math", Cond.code Lib.Math.min.name Lib.Math.min.code 2 (some .int), Cond.methodLink RX0 38 Lib.Math.max.name, Cond.static Lib.Math.max.name, Cond.code Lib.Math.max.name Lib.Math.max.code 2 (some .int), Cond.methodLink RL 99 yX4_lay, Cond.instanceMethod yX4_lay, Cond.selects RX4 yX4_lay yX4_lay, Cond.code yX4_lay cX4_lay 9 (some .boolean), Cond.methodLink RX4 83 yX4_isCane, Cond.instanceMethod yX4_isCane, Cond.selects RX4 yX4_isCane yX4_isCane, Cond.code yX4_isCane cX4_isCane 2 (some .boolean), Cond.methodLink RX4 47 yX4_isIn, Cond.static yX4_isIn, Cond.code yX4_isIn cX4_isIn 3 (some .boolean), Cond.methodLink RX4 87 yX4_isSpot]
def wsL_law0_r7 : List Cond := [Cond.static yX4_isSpot, Cond.code yX4_isSpot cX4_isSpot 2 (some .boolean), Cond.methodLink RX4 91 yX4_bears, Cond.instanceMethod yX4_bears, Cond.selects RX4 yX4_bears yX4_bears, Cond.code yX4_bears cX4_bears 3 (some .boolean), Cond.methodLink RX4 80 yX4_pass, Cond.instanceMethod yX4_pass, Cond.selects RX4 yX4_pass yX4_pass, Cond.code yX4_pass cX4_pass 2 none, Cond.methodLink RX4 71 Lib.Math.min.name, Cond.methodLink RX4 74 Lib.Math.max.name, Cond.fieldLink RX4 77 "CaneSlicesModel" "minute" "I", Cond.methodLink RL 100 yL_twist, Cond.static yL_twist, Cond.codeWith yL_twist cL_twist 5 (some .int) [(0, 17, 20, 19), (0, 17, 24, 21), (0, 17, 28, 13)], Cond.methodLink RL 23 yX3_twist, Cond.instanceMethod yX3_twist, Cond.selects RX3 yX3_twist yX3_twist, Cond.code yX3_twist cX3_twist 5 (some .boolean), Cond.methodLink RX3 84 yX3_isTwist, Cond.static yX3_isTwist, Cond.code yX3_isTwist cX3_isTwist 1 (some .boolean), Cond.methodLink RL 103 yX4_twist]
def wsL_law0_r8 : List Cond := [Cond.instanceMethod yX4_twist, Cond.selects RX4 yX4_twist yX4_twist, Cond.code yX4_twist cX4_twist 3 (some .boolean), Cond.methodLink RL 104 yL_pull, Cond.static yL_pull, Cond.codeWith yL_pull cL_pull 4 (some .int) [(0, 16, 19, 19), (0, 16, 22, 13)], Cond.methodLink RL 27 yX3_pull, Cond.instanceMethod yX3_pull, Cond.selects RX3 yX3_pull yX3_pull, Cond.code yX3_pull cX3_pull 4 (some .boolean), Cond.methodLink RX3 94 yX0_stretch, Cond.instanceMethod yX0_stretch, Cond.selects RX0 yX0_stretch yX0_stretch, Cond.code yX0_stretch cX0_stretch 1 none, Cond.fieldLink RX0 25 "CaneSlices$Cane" "twist" "I", Cond.methodLink RL 107 yX4_pull, Cond.instanceMethod yX4_pull, Cond.selects RX4 yX4_pull yX4_pull, Cond.code yX4_pull cX4_pull 2 (some .boolean), Cond.methodLink RL 108 yL_furnace, Cond.static yL_furnace, Cond.codeWith yL_furnace cL_furnace 4 (some .int) [(0, 9, 12, 19)], Cond.methodLink RL 31 yX3_furnace, Cond.instanceMethod yX3_furnace]
def wsL_law0_r9 : List Cond := [Cond.selects RX3 yX3_furnace yX3_furnace, Cond.code yX3_furnace cX3_furnace 3 (some .int), Cond.methodLink RL 110 yX4_furnace, Cond.instanceMethod yX4_furnace, Cond.selects RX4 yX4_furnace yX4_furnace, Cond.code yX4_furnace cX4_furnace 3 (some .int), Cond.methodLink RL 111 yL_rest, Cond.static yL_rest, Cond.codeWith yL_rest cL_rest 4 (some .int) [(0, 9, 12, 21)], Cond.methodLink RL 35 yX3_rest, Cond.instanceMethod yX3_rest, Cond.selects RX3 yX3_rest yX3_rest, Cond.code yX3_rest cX3_rest 3 (some .int), Cond.methodLink RX3 99 yX3_heatOfAll, Cond.instanceMethod yX3_heatOfAll, Cond.selects RX3 yX3_heatOfAll yX3_heatOfAll, Cond.code yX3_heatOfAll cX3_heatOfAll 6 (some .int), Cond.methodLink RL 113 yX4_rest, Cond.instanceMethod yX4_rest, Cond.selects RX4 yX4_rest yX4_rest, Cond.code yX4_rest cX4_rest 3 (some .int), Cond.methodLink RX4 94 yX4_allHeat, Cond.instanceMethod yX4_allHeat, Cond.selects RX4 yX4_allHeat yX4_allHeat]
def wsL_law0_r10 : List Cond := [Cond.code yX4_allHeat cX4_allHeat 3 (some .int), Cond.methodLink RL 114 yL_cut, Cond.static yL_cut, Cond.codeWith yL_cut cL_cut 4 (some .int) [(0, 9, 12, 19), (0, 9, 15, 13)], Cond.methodLink RL 38 yX3_cut, Cond.instanceMethod yX3_cut, Cond.selects RX3 yX3_cut yX3_cut, Cond.code yX3_cut cX3_cut 5 (some .int), Cond.fieldLink RX3 111 "CaneSlices" "sliceCount" "I", Cond.instantiable RX2 5, Cond.initialized RX2, Cond.methodLink RX3 116 yX0_turnAt, Cond.instanceMethod yX0_turnAt, Cond.selects RX0 yX0_turnAt yX0_turnAt, Cond.code yX0_turnAt cX0_turnAt 2 (some .int), Cond.methodLink RX3 120 yX1_turned, Cond.instanceMethod yX1_turned, Cond.selects RX1 yX1_turned yX1_turned, Cond.code yX1_turned cX1_turned 5 (some (.object "CaneSlices$Pattern")), Cond.classLink RX1 10 RX1, Cond.methodLink RX1 24 yX1_init, Cond.methodLink RX1 25 yX1_colourAt, Cond.instanceMethod yX1_colourAt, Cond.selects RX1 yX1_colourAt yX1_colourAt]
def wsL_law0_r11 : List Cond := [Cond.code yX1_colourAt cX1_colourAt 4 (some .int), Cond.methodLink RX3 124 yX3_kindOf, Cond.instanceMethod yX3_kindOf, Cond.selects RX3 yX3_kindOf yX3_kindOf, Cond.code yX3_kindOf cX3_kindOf 4 (some .int), Cond.methodLink RX3 212 yX1_leastTurnTo, Cond.instanceMethod yX1_leastTurnTo, Cond.selects RX1 yX1_leastTurnTo yX1_leastTurnTo, Cond.code yX1_leastTurnTo cX1_leastTurnTo 3 (some .int), Cond.methodLink RX1 29 yX1_looksLike, Cond.instanceMethod yX1_looksLike, Cond.selects RX1 yX1_looksLike yX1_looksLike, Cond.code yX1_looksLike cX1_looksLike 5 (some .boolean), Cond.methodLink RX3 128 yX2_init, Cond.instanceMethod yX2_init, Cond.code yX2_init cX2_init 4 none, Cond.methodLink RX2 3 objectInit, Cond.fieldLink RX2 9 "CaneSlices$Slice" "number" "I", Cond.fieldLink RX2 15 "CaneSlices$Slice" "pattern" "LCaneSlices$Pattern;", Cond.fieldLink RX2 19 "CaneSlices$Slice" "kind" "I", Cond.fieldLink RX2 22 "CaneSlices$Slice" "eye" "I", Cond.methodLink RL 116 yX4_cut, Cond.instanceMethod yX4_cut, Cond.selects RX4 yX4_cut yX4_cut]
def wsL_law0_r12 : List Cond := [Cond.code yX4_cut cX4_cut 3 (some .int), Cond.fieldLink RX4 51 "CaneSlicesModel" "slices" "I", Cond.methodLink RX4 64 yX4_rotated, Cond.static yX4_rotated, Cond.code yX4_rotated cX4_rotated 3 (some .int), Cond.constant RX4 63 (16777215), Cond.methodLink RX4 57 yJ9_floorMod_7cf53, Cond.methodLink RL 117 yL_cane, Cond.static yL_cane, Cond.codeWith yL_cane cL_cane 5 (some .int) [(0, 10, 13, 19)], Cond.methodLink RL 41 yX3_cane, Cond.instanceMethod yX3_cane, Cond.selects RX3 yX3_cane yX3_cane, Cond.code yX3_cane cX3_cane 4 (some .int), Cond.methodLink RX3 133 yX0_tell, Cond.instanceMethod yX0_tell, Cond.selects RX0 yX0_tell yX0_tell, Cond.code yX0_tell cX0_tell 3 (some .int), Cond.methodLink RL 119 yX4_cane, Cond.instanceMethod yX4_cane, Cond.selects RX4 yX4_cane yX4_cane, Cond.code yX4_cane cX4_cane 3 (some .int), Cond.methodLink RX4 98 yX4_caneTold, Cond.instanceMethod yX4_caneTold]
def wsL_law0_r13 : List Cond := [Cond.selects RX4 yX4_caneTold yX4_caneTold, Cond.code yX4_caneTold cX4_caneTold 4 (some .int), Cond.methodLink RL 120 yL_shows, Cond.static yL_shows, Cond.codeWith yL_shows cL_shows 7 (some .int) [(0, 14, 17, 19)], Cond.methodLink RL 45 yX3_shows, Cond.instanceMethod yX3_shows, Cond.selects RX3 yX3_shows yX3_shows, Cond.code yX3_shows cX3_shows 6 (some .int), Cond.methodLink RX3 137 yX0_hasPlace, Cond.instanceMethod yX0_hasPlace, Cond.selects RX0 yX0_hasPlace yX0_hasPlace, Cond.code yX0_hasPlace cX0_hasPlace 2 (some .boolean), Cond.methodLink RX3 142 yX1_colourAt, Cond.methodLink RL 123 yX4_shows, Cond.instanceMethod yX4_shows, Cond.selects RX4 yX4_shows yX4_shows, Cond.code yX4_shows cX4_shows 5 (some .int), Cond.methodLink RX4 101 yX4_colourOf, Cond.static yX4_colourOf, Cond.code yX4_colourOf cX4_colourOf 2 (some .int), Cond.methodLink RL 124 yL_colour, Cond.static yL_colour, Cond.codeWith yL_colour cL_colour 6 (some .int) [(0, 12, 15, 19)]]
def wsL_law0_r14 : List Cond := [Cond.methodLink RL 49 yX3_colour, Cond.instanceMethod yX3_colour, Cond.selects RX3 yX3_colour yX3_colour, Cond.code yX3_colour cX3_colour 5 (some .int), Cond.methodLink RX3 146 yX3_sliceAt, Cond.instanceMethod yX3_sliceAt, Cond.selects RX3 yX3_sliceAt yX3_sliceAt, Cond.code yX3_sliceAt cX3_sliceAt 2 (some (.object "CaneSlices$Slice")), Cond.methodLink RL 127 yX4_colour, Cond.instanceMethod yX4_colour, Cond.selects RX4 yX4_colour yX4_colour, Cond.code yX4_colour cX4_colour 4 (some .int), Cond.methodLink RX4 104 yX4_isSlice, Cond.instanceMethod yX4_isSlice, Cond.selects RX4 yX4_isSlice yX4_isSlice, Cond.code yX4_isSlice cX4_isSlice 2 (some .boolean), Cond.methodLink RL 128 yL_where, Cond.static yL_where, Cond.codeWith yL_where cL_where 4 (some .int) [(0, 9, 12, 19)], Cond.methodLink RL 53 yX3_where, Cond.instanceMethod yX3_where, Cond.selects RX3 yX3_where yX3_where, Cond.code yX3_where cX3_where 3 (some .int), Cond.methodLink RL 130 yX4_where]
def wsL_law0_r15 : List Cond := [Cond.instanceMethod yX4_where, Cond.selects RX4 yX4_where yX4_where, Cond.code yX4_where cX4_where 2 (some .int), Cond.methodLink RL 131 yL_bead, Cond.static yL_bead, Cond.codeWith yL_bead cL_bead 3 (some .int) [(0, 8, 11, 13)], Cond.methodLink RL 56 yX3_bead, Cond.instanceMethod yX3_bead, Cond.selects RX3 yX3_bead yX3_bead, Cond.code yX3_bead cX3_bead 2 (some .int), Cond.fieldLink RX3 158 "CaneSlices" "beadCount" "I", Cond.methodLink RL 133 yX4_bead, Cond.instanceMethod yX4_bead, Cond.selects RX4 yX4_bead yX4_bead, Cond.code yX4_bead cX4_bead 2 (some .int), Cond.fieldLink RX4 54 "CaneSlicesModel" "beads" "I", Cond.methodLink RL 134 yL_set, Cond.static yL_set, Cond.codeWith yL_set cL_set 7 (some .int) [(0, 14, 17, 19), (0, 14, 21, 21), (0, 14, 25, 13)], Cond.methodLink RL 59 yX3_set, Cond.instanceMethod yX3_set, Cond.selects RX3 yX3_set yX3_set, Cond.code yX3_set cX3_set 7 (some .int), Cond.methodLink RX3 163 yX3_isBead]
def wsL_law0_r16 : List Cond := [Cond.instanceMethod yX3_isBead, Cond.selects RX3 yX3_isBead yX3_isBead, Cond.code yX3_isBead cX3_isBead 2 (some .boolean), Cond.methodLink RX3 166 yX3_isEye, Cond.static yX3_isEye, Cond.code yX3_isEye cX3_isEye 1 (some .boolean), Cond.methodLink RX3 173 yX2_isFree, Cond.instanceMethod yX2_isFree, Cond.selects RX2 yX2_isFree yX2_isFree, Cond.code yX2_isFree cX2_isFree 1 (some .boolean), Cond.methodLink RX3 179 yX2_enter, Cond.instanceMethod yX2_enter, Cond.selects RX2 yX2_enter yX2_enter, Cond.code yX2_enter cX2_enter 3 none, Cond.fieldLink RX2 25 "CaneSlices$Slice" "turn" "I", Cond.methodLink RX3 183 yX3_filledEyes, Cond.instanceMethod yX3_filledEyes, Cond.selects RX3 yX3_filledEyes yX3_filledEyes, Cond.code yX3_filledEyes cX3_filledEyes 4 (some .int), Cond.methodLink RL 136 yX4_set, Cond.instanceMethod yX4_set, Cond.selects RX4 yX4_set yX4_set, Cond.code yX4_set cX4_set 6 (some .int), Cond.methodLink RX4 107 yX4_isEye]
def wsL_law0_r17 : List Cond := [Cond.instanceMethod yX4_isEye, Cond.selects RX4 yX4_isEye yX4_isEye, Cond.code yX4_isEye cX4_isEye 3 (some .boolean), Cond.methodLink RX4 110 yX4_filled, Cond.instanceMethod yX4_filled, Cond.selects RX4 yX4_filled yX4_filled, Cond.code yX4_filled cX4_filled 4 (some .int), Cond.methodLink RL 137 yL_drop, Cond.static yL_drop, Cond.codeWith yL_drop cL_drop 5 (some .int) [(0, 10, 13, 19), (0, 10, 17, 13)], Cond.methodLink RL 62 yX3_drop, Cond.instanceMethod yX3_drop, Cond.selects RX3 yX3_drop yX3_drop, Cond.code yX3_drop cX3_drop 5 (some .int), Cond.methodLink RX3 190 yX2_leave, Cond.instanceMethod yX2_leave, Cond.selects RX2 yX2_leave yX2_leave, Cond.code yX2_leave cX2_leave 1 none, Cond.methodLink RL 139 yX4_drop, Cond.instanceMethod yX4_drop, Cond.selects RX4 yX4_drop yX4_drop, Cond.code yX4_drop cX4_drop 5 (some .int), Cond.methodLink RL 140 yL_seen, Cond.static yL_seen]
def wsL_law0_r18 : List Cond := [Cond.codeWith yL_seen cL_seen 7 (some .int) [(0, 14, 17, 19)], Cond.methodLink RL 65 yX3_seen, Cond.instanceMethod yX3_seen, Cond.selects RX3 yX3_seen yX3_seen, Cond.code yX3_seen cX3_seen 6 (some .int), Cond.methodLink RL 142 yX4_seen, Cond.instanceMethod yX4_seen, Cond.selects RX4 yX4_seen yX4_seen, Cond.code yX4_seen cX4_seen 6 (some .int), Cond.methodLink RL 143 yL_count, Cond.static yL_count, Cond.codeWith yL_count cL_count 4 (some .int) [(0, 9, 12, 19)], Cond.methodLink RL 68 yX3_count, Cond.instanceMethod yX3_count, Cond.selects RX3 yX3_count yX3_count, Cond.code yX3_count cX3_count 2 (some .int), Cond.methodLink RX3 203 yX3_tally, Cond.instanceMethod yX3_tally, Cond.selects RX3 yX3_tally yX3_tally, Cond.code yX3_tally cX3_tally 2 (some .int), Cond.methodLink RX3 254 yX3_wholeCanes, Cond.instanceMethod yX3_wholeCanes, Cond.selects RX3 yX3_wholeCanes yX3_wholeCanes, Cond.code yX3_wholeCanes cX3_wholeCanes 6 (some .int)]
def wsL_law0_r19 : List Cond := [Cond.methodLink RX3 257 yX3_slicesInEyes, Cond.instanceMethod yX3_slicesInEyes, Cond.selects RX3 yX3_slicesInEyes yX3_slicesInEyes, Cond.code yX3_slicesInEyes cX3_slicesInEyes 6 (some .int), Cond.methodLink RX3 260 yX3_beadsOfOneLook, Cond.instanceMethod yX3_beadsOfOneLook, Cond.selects RX3 yX3_beadsOfOneLook yX3_beadsOfOneLook, Cond.code yX3_beadsOfOneLook cX3_beadsOfOneLook 4 (some .int), Cond.methodLink RX3 222 yX3_eyesLike, Cond.instanceMethod yX3_eyesLike, Cond.selects RX3 yX3_eyesLike yX3_eyesLike, Cond.code yX3_eyesLike cX3_eyesLike 6 (some .int), Cond.methodLink RX3 208 yX1_looksLike, Cond.methodLink RX3 263 yX3_lengthOfAll, Cond.instanceMethod yX3_lengthOfAll, Cond.selects RX3 yX3_lengthOfAll yX3_lengthOfAll, Cond.code yX3_lengthOfAll cX3_lengthOfAll 6 (some .int), Cond.methodLink RL 145 yX4_count, Cond.instanceMethod yX4_count, Cond.selects RX4 yX4_count yX4_count, Cond.code yX4_count cX4_count 2 (some .int), Cond.methodLink RX4 123 yX4_counted, Cond.instanceMethod yX4_counted, Cond.selects RX4 yX4_counted yX4_counted]
def wsL_law0_r20 : List Cond := [Cond.code yX4_counted cX4_counted 7 (some .int), Cond.methodLink RX4 120 yX4_twins, Cond.instanceMethod yX4_twins, Cond.selects RX4 yX4_twins yX4_twins, Cond.code yX4_twins cX4_twins 5 (some .int), Cond.methodLink RX4 117 yX4_areTwins, Cond.instanceMethod yX4_areTwins, Cond.selects RX4 yX4_areTwins yX4_areTwins, Cond.code yX4_areTwins cX4_areTwins 3 (some .boolean), Cond.methodLink RX4 113 yX4_areAlike, Cond.static yX4_areAlike, Cond.code yX4_areAlike cX4_areAlike 7 (some .boolean), Cond.methodLink RL 146 yL_again, Cond.static yL_again, Cond.codeWith yL_again cL_again 5 (some .int) [(0, 10, 13, 19)], Cond.methodLink RL 71 yX3_again, Cond.instanceMethod yX3_again, Cond.selects RX3 yX3_again yX3_again, Cond.code yX3_again cX3_again 5 (some .int), Cond.methodLink RL 148 yX4_again, Cond.instanceMethod yX4_again, Cond.selects RX4 yX4_again yX4_again, Cond.code yX4_again cX4_again 4 (some .int), Cond.methodLink RL 149 yL_turn]
def wsL_law0_r21 : List Cond := [Cond.static yL_turn, Cond.codeWith yL_turn cL_turn 5 (some .int) [(0, 10, 13, 19)], Cond.methodLink RL 74 yX3_turn, Cond.instanceMethod yX3_turn, Cond.selects RX3 yX3_turn yX3_turn, Cond.code yX3_turn cX3_turn 5 (some .int), Cond.methodLink RL 151 yX4_turn, Cond.instanceMethod yX4_turn, Cond.selects RX4 yX4_turn yX4_turn, Cond.code yX4_turn cX4_turn 3 (some .int), Cond.methodLink RX4 126 yX4_turnTo, Cond.instanceMethod yX4_turnTo, Cond.selects RX4 yX4_turnTo yX4_turnTo, Cond.code yX4_turnTo cX4_turnTo 4 (some .int), Cond.methodLink RL 152 yL_cuts, Cond.static yL_cuts, Cond.codeWith yL_cuts cL_cuts 5 (some .int) [(0, 10, 13, 19)], Cond.methodLink RL 77 yX3_cuts, Cond.instanceMethod yX3_cuts, Cond.selects RX3 yX3_cuts yX3_cuts, Cond.code yX3_cuts cX3_cuts 6 (some .int), Cond.methodLink RL 154 yX4_cuts, Cond.instanceMethod yX4_cuts, Cond.selects RX4 yX4_cuts yX4_cuts]
def wsL_law0_r22 : List Cond := [Cond.code yX4_cuts cX4_cuts 4 (some .int), Cond.methodLink RL 155 yL_mends, Cond.static yL_mends, Cond.codeWith yL_mends cL_mends 4 (some .int) [(0, 9, 12, 19)], Cond.methodLink RL 80 yX3_mends, Cond.instanceMethod yX3_mends, Cond.selects RX3 yX3_mends yX3_mends, Cond.code yX3_mends cX3_mends 7 (some .int), Cond.methodLink RX3 219 yX3_canFillBead, Cond.instanceMethod yX3_canFillBead, Cond.selects RX3 yX3_canFillBead yX3_canFillBead, Cond.code yX3_canFillBead cX3_canFillBead 2 (some .boolean), Cond.methodLink RX3 229 yX3_freeSlicesOf, Cond.instanceMethod yX3_freeSlicesOf, Cond.selects RX3 yX3_freeSlicesOf yX3_freeSlicesOf, Cond.code yX3_freeSlicesOf cX3_freeSlicesOf 7 (some .int), Cond.methodLink RL 157 yX4_mends, Cond.instanceMethod yX4_mends, Cond.selects RX4 yX4_mends yX4_mends, Cond.code yX4_mends cX4_mends 6 (some .int), Cond.methodLink RX4 129 yX4_free, Cond.instanceMethod yX4_free, Cond.selects RX4 yX4_free yX4_free, Cond.code yX4_free cX4_free 4 (some .int)]
def wsL_law0_r23 : List Cond := [Cond.methodLink RL 158 yX3_mean, Cond.instanceMethod yX3_mean, Cond.selects RX3 yX3_mean yX3_mean, Cond.code yX3_mean cX3_mean 1 (some .double), Cond.methodLink RL 162 yX4_mean, Cond.instanceMethod yX4_mean, Cond.selects RX4 yX4_mean yX4_mean, Cond.code yX4_mean cX4_mean 1 (some .double), Cond.methodLink RL 163 yX3_digest, Cond.instanceMethod yX3_digest, Cond.selects RX3 yX3_digest yX3_digest, Cond.code yX3_digest cX3_digest 4 (some .long), Cond.constantLong RX3 232 (991), Cond.methodLink RX3 234 yX3_digestWith, Cond.static yX3_digestWith, Cond.code yX3_digestWith cX3_digestWith 3 (some .long), Cond.constantLong RX3 266 (31), Cond.methodLink RX3 238 yX3_digestWithCanes, Cond.instanceMethod yX3_digestWithCanes, Cond.selects RX3 yX3_digestWithCanes yX3_digestWithCanes, Cond.code yX3_digestWithCanes cX3_digestWithCanes 8 (some .long), Cond.methodLink RX3 268 yX3_digestWithPattern, Cond.static yX3_digestWithPattern, Cond.code yX3_digestWithPattern cX3_digestWithPattern 9 (some .long)]
def wsL_law0_r24 : List Cond := [Cond.methodLink RX3 242 yX3_digestWithSlices, Cond.instanceMethod yX3_digestWithSlices, Cond.selects RX3 yX3_digestWithSlices yX3_digestWithSlices, Cond.code yX3_digestWithSlices cX3_digestWithSlices 9 (some .long), Cond.methodLink RX3 245 yX3_digestWithEyes, Cond.instanceMethod yX3_digestWithEyes, Cond.selects RX3 yX3_digestWithEyes yX3_digestWithEyes, Cond.code yX3_digestWithEyes cX3_digestWithEyes 7 (some .long), Cond.methodLink RL 167 yX4_digest, Cond.instanceMethod yX4_digest, Cond.selects RX4 yX4_digest yX4_digest, Cond.code yX4_digest cX4_digest 5 (some .long), Cond.constantLong RX4 134 (991), Cond.constantLong RX4 132 (31), Cond.methodLink RX4 136 yX4_with, Cond.instanceMethod yX4_with, Cond.selects RX4 yX4_with yX4_with, Cond.code yX4_with cX4_with 8 (some .long)]
def wsL_law0 : List Cond := (wsL_law0_r1 ++ (wsL_law0_r2 ++ (wsL_law0_r3 ++ (wsL_law0_r4 ++ (wsL_law0_r5 ++ (wsL_law0_r6 ++ (wsL_law0_r7 ++ (wsL_law0_r8 ++ (wsL_law0_r9 ++ (wsL_law0_r10 ++ (wsL_law0_r11 ++ (wsL_law0_r12 ++ (wsL_law0_r13 ++ (wsL_law0_r14 ++ (wsL_law0_r15 ++ (wsL_law0_r16 ++ (wsL_law0_r17 ++ (wsL_law0_r18 ++ (wsL_law0_r19 ++ (wsL_law0_r20 ++ (wsL_law0_r21 ++ (wsL_law0_r22 ++ (wsL_law0_r23 ++ wsL_law0_r24))))))))))))))))))))))) ++ wsX30 ++ wsX40 ++ wsX00 ++ wsX10 ++ wsX20 ++ ([] : List Cond)
def wsL_law : List Cond := wsL_law0 ++ (vx_atS RX3 35 "java/lang/IllegalStateException" ["java/lang/RuntimeException", "java/lang/Exception"]).filter goodWord ++ (vx_atS RX3 47 "java/lang/IndexOutOfBoundsException" ["java/lang/RuntimeException", "java/lang/Exception"]).filter goodWord ++ (vx_atS RX3 59 "java/lang/IllegalArgumentException" ["java/lang/RuntimeException", "java/lang/Exception"]).filter goodWord
end
section
set_option maxRecDepth 20000 in
theorem wsL_law_in0_1 : ∀ w ∈ wsL_law0_r1, w ∈ lw_tbl := fun w h => (goodIn_p wsL_law0_r1 [51, 54, 589] (by decide +kernel) (by decide +kernel) w h).1
set_option maxRecDepth 20000 in
theorem wsL_law_in0_2 : ∀ w ∈ wsL_law0_r2, w ∈ lw_tbl := fun w h => (goodIn_p wsL_law0_r2 [165] (by decide +kernel) (by decide +kernel) w h).1
set_option maxRecDepth 20000 in
theorem wsL_law_in0_3 : ∀ w ∈ wsL_law0_r3, w ∈ lw_tbl := fun w h => (goodIn_p wsL_law0_r3 [237, 243, 644] (by decide +kernel) (by decide +kernel) w h).1
set_option maxRecDepth 20000 in
theorem wsL_law_in0_4 : ∀ w ∈ wsL_law0_r4, w ∈ lw_tbl := fun w h => (goodIn_p wsL_law0_r4 [648, 640, 280, 284] (by decide +kernel) (by decide +kernel) w h).1
set_option maxRecDepth 20000 in
theorem wsL_law_in0_5 : ∀ w ∈ wsL_law0_r5, w ∈ lw_tbl := fun w h => (goodIn_p wsL_law0_r5 [303, 306, 328, 332, 127, 130, 336] (by decide +kernel) (by decide +kernel) w h).1
set_option maxRecDepth 20000 in
theorem wsL_law_in0_6 : ∀ w ∈ wsL_law0_r6, w ∈ lw_tbl := fun w h => (goodIn_p wsL_law0_r6 [340, 343, 346, 652, 656, 659] (by decide +kernel) (by decide +kernel) w h).1
set_option maxRecDepth 20000 in
theorem wsL_law_in0_7 : ∀ w ∈ wsL_law0_r7, w ∈ lw_tbl := fun w h => (goodIn_p wsL_law0_r7 [662, 666, 670, 353, 356] (by decide +kernel) (by decide +kernel) w h).1
set_option maxRecDepth 20000 in
theorem wsL_law_in0_8 : ∀ w ∈ wsL_law0_r8, w ∈ lw_tbl := fun w h => (goodIn_p wsL_law0_r8 [676, 365, 369, 680] (by decide +kernel) (by decide +kernel) w h).1
set_option maxRecDepth 20000 in
theorem wsL_law_in0_9 : ∀ w ∈ wsL_law0_r9, w ∈ lw_tbl := fun w h => (goodIn_p wsL_law0_r9 [376, 684, 383, 91, 688] (by decide +kernel) (by decide +kernel) w h).1
set_option maxRecDepth 20000 in
theorem wsL_law_in0_10 : ∀ w ∈ wsL_law0_r10, w ∈ lw_tbl := fun w h => (goodIn_p wsL_law0_r10 [692, 391, 397, 401] (by decide +kernel) (by decide +kernel) w h).1
set_option maxRecDepth 20000 in
theorem wsL_law_in0_11 : ∀ w ∈ wsL_law0_r11, w ∈ lw_tbl := fun w h => (goodIn_p wsL_law0_r11 [124, 408, 412, 120, 416] (by decide +kernel) (by decide +kernel) w h).1
set_option maxRecDepth 20000 in
theorem wsL_law_in0_12 : ∀ w ∈ wsL_law0_r12, w ∈ lw_tbl := fun w h => (goodIn_p wsL_law0_r12 [696, 699, 445, 146, 705] (by decide +kernel) (by decide +kernel) w h).1
set_option maxRecDepth 20000 in
theorem wsL_law_in0_13 : ∀ w ∈ wsL_law0_r13, w ∈ lw_tbl := fun w h => (goodIn_p wsL_law0_r13 [709, 453, 457, 713, 716] (by decide +kernel) (by decide +kernel) w h).1
set_option maxRecDepth 20000 in
theorem wsL_law_in0_14 : ∀ w ∈ wsL_law0_r14, w ∈ lw_tbl := fun w h => (goodIn_p wsL_law0_r14 [466, 470, 720, 724, 478] (by decide +kernel) (by decide +kernel) w h).1
set_option maxRecDepth 20000 in
theorem wsL_law_in0_15 : ∀ w ∈ wsL_law0_r15, w ∈ lw_tbl := fun w h => (goodIn_p wsL_law0_r15 [728, 486, 732, 494] (by decide +kernel) (by decide +kernel) w h).1
set_option maxRecDepth 20000 in
theorem wsL_law_in0_16 : ∀ w ∈ wsL_law0_r16, w ∈ lw_tbl := fun w h => (goodIn_p wsL_law0_r16 [498, 501, 507, 512, 516, 736] (by decide +kernel) (by decide +kernel) w h).1
set_option maxRecDepth 20000 in
theorem wsL_law_in0_17 : ∀ w ∈ wsL_law0_r17, w ∈ lw_tbl := fun w h => (goodIn_p wsL_law0_r17 [740, 744, 523, 529, 748] (by decide +kernel) (by decide +kernel) w h).1
set_option maxRecDepth 20000 in
theorem wsL_law_in0_18 : ∀ w ∈ wsL_law0_r18, w ∈ lw_tbl := fun w h => (goodIn_p wsL_law0_r18 [536, 752, 544, 100, 104] (by decide +kernel) (by decide +kernel) w h).1
set_option maxRecDepth 20000 in
theorem wsL_law_in0_19 : ∀ w ∈ wsL_law0_r19, w ∈ lw_tbl := fun w h => (goodIn_p wsL_law0_r19 [108, 112, 116, 134, 756] (by decide +kernel) (by decide +kernel) w h).1
set_option maxRecDepth 20000 in
theorem wsL_law_in0_20 : ∀ w ∈ wsL_law0_r20, w ∈ lw_tbl := fun w h => (goodIn_p wsL_law0_r20 [760, 764, 768, 771, 552, 775] (by decide +kernel) (by decide +kernel) w h).1
set_option maxRecDepth 20000 in
theorem wsL_law_in0_21 : ∀ w ∈ wsL_law0_r21, w ∈ lw_tbl := fun w h => (goodIn_p wsL_law0_r21 [560, 779, 783, 567] (by decide +kernel) (by decide +kernel) w h).1
set_option maxRecDepth 20000 in
theorem wsL_law_in0_22 : ∀ w ∈ wsL_law0_r22, w ∈ lw_tbl := fun w h => (goodIn_p wsL_law0_r22 [787, 575, 580, 584, 791, 795] (by decide +kernel) (by decide +kernel) w h).1
set_option maxRecDepth 20000 in
theorem wsL_law_in0_23 : ∀ w ∈ wsL_law0_r23, w ∈ lw_tbl := fun w h => (goodIn_p wsL_law0_r23 [87, 799, 95, 137, 142, 149] (by decide +kernel) (by decide +kernel) w h).1
set_option maxRecDepth 20000 in
theorem wsL_law_in0_24 : ∀ w ∈ wsL_law0_r24, w ∈ lw_tbl := fun w h => (goodIn_p wsL_law0_r24 [153, 157, 803, 809] (by decide +kernel) (by decide +kernel) w h).1
theorem wsL_law_inFX3 : ∀ w ∈ wsX30, w ∈ lw_tbl := by decide +kernel
theorem wsL_law_inFX4 : ∀ w ∈ wsX40, w ∈ lw_tbl := by decide +kernel
theorem wsL_law_inFX0 : ∀ w ∈ wsX00, w ∈ lw_tbl := by decide +kernel
theorem wsL_law_inFX1 : ∀ w ∈ wsX10, w ∈ lw_tbl := by decide +kernel
theorem wsL_law_inFX2 : ∀ w ∈ wsX20, w ∈ lw_tbl := by decide +kernel
end
section
set_option maxRecDepth 100000 in
theorem wsL_law_in0 : ∀ w ∈ wsL_law0, w ∈ lw_tbl := fun w h => (fun h => (List.mem_append.mp h).elim (fun h => (List.mem_append.mp h).elim (fun h => (List.mem_append.mp h).elim (fun h => (List.mem_append.mp h).elim (fun h => (List.mem_append.mp h).elim (fun h => (List.mem_append.mp h).elim (wsL_law_in0_1 w) (fun h => (List.mem_append.mp h).elim (wsL_law_in0_2 w) (fun h => (List.mem_append.mp h).elim (wsL_law_in0_3 w) (fun h => (List.mem_append.mp h).elim (wsL_law_in0_4 w) (fun h => (List.mem_append.mp h).elim (wsL_law_in0_5 w) (fun h => (List.mem_append.mp h).elim (wsL_law_in0_6 w) (fun h => (List.mem_append.mp h).elim (wsL_law_in0_7 w) (fun h => (List.mem_append.mp h).elim (wsL_law_in0_8 w) (fun h => (List.mem_append.mp h).elim (wsL_law_in0_9 w) (fun h => (List.mem_append.mp h).elim (wsL_law_in0_10 w) (fun h => (List.mem_append.mp h).elim (wsL_law_in0_11 w) (fun h => (List.mem_append.mp h).elim (wsL_law_in0_12 w) (fun h => (List.mem_append.mp h).elim (wsL_law_in0_13 w) (fun h => (List.mem_append.mp h).elim (wsL_law_in0_14 w) (fun h => (List.mem_append.mp h).elim (wsL_law_in0_15 w) (fun h => (List.mem_append.mp h).elim (wsL_law_in0_16 w) (fun h => (List.mem_append.mp h).elim (wsL_law_in0_17 w) (fun h => (List.mem_append.mp h).elim (wsL_law_in0_18 w) (fun h => (List.mem_append.mp h).elim (wsL_law_in0_19 w) (fun h => (List.mem_append.mp h).elim (wsL_law_in0_20 w) (fun h => (List.mem_append.mp h).elim (wsL_law_in0_21 w) (fun h => (List.mem_append.mp h).elim (wsL_law_in0_22 w) (fun h => (List.mem_append.mp h).elim (wsL_law_in0_23 w) (fun h => wsL_law_in0_24 w h)))))))))))))))))))))))) (wsL_law_inFX3 w)) (wsL_law_inFX4 w)) (wsL_law_inFX0 w)) (wsL_law_inFX1 w)) (wsL_law_inFX2 w)) h
theorem wsL_law_x0 : ∀ w ∈ (vx_atS RX3 35 "java/lang/IllegalStateException" ["java/lang/RuntimeException", "java/lang/Exception"]).filter goodWord, w ∈ lw_tbl := by decide +kernel
theorem wsL_law_x1 : ∀ w ∈ (vx_atS RX3 47 "java/lang/IndexOutOfBoundsException" ["java/lang/RuntimeException", "java/lang/Exception"]).filter goodWord, w ∈ lw_tbl := by decide +kernel
theorem wsL_law_x2 : ∀ w ∈ (vx_atS RX3 59 "java/lang/IllegalArgumentException" ["java/lang/RuntimeException", "java/lang/Exception"]).filter goodWord, w ∈ lw_tbl := by decide +kernel
theorem wsL_law_in : ∀ w ∈ wsL_law, w ∈ lw_tbl := fun w h => (List.mem_append.mp h).elim (fun h => (List.mem_append.mp h).elim (fun h => (List.mem_append.mp h).elim (fun h => wsL_law_in0 w h) (fun h => wsL_law_x0 w h)) (fun h => wsL_law_x1 w h)) (fun h => wsL_law_x2 w h)
theorem inlX0 : ∀ w ∈ wsX00, w ∈ wsL_law := fun _ h => List.mem_append_left _ (List.mem_append_left _ (List.mem_append_left _ (List.mem_append_left _ (List.mem_append_left _ (List.mem_append_left _ (List.mem_append_right _ h))))))
theorem inX0 : ∀ w ∈ wsX00, w ∈ lw_tbl := fun w h => wsL_law_in w (inlX0 w h)
theorem inlX1 : ∀ w ∈ wsX10, w ∈ wsL_law := fun _ h => List.mem_append_left _ (List.mem_append_left _ (List.mem_append_left _ (List.mem_append_left _ (List.mem_append_left _ (List.mem_append_right _ h)))))
theorem inX1 : ∀ w ∈ wsX10, w ∈ lw_tbl := fun w h => wsL_law_in w (inlX1 w h)
theorem inlX2 : ∀ w ∈ wsX20, w ∈ wsL_law := fun _ h => List.mem_append_left _ (List.mem_append_left _ (List.mem_append_left _ (List.mem_append_left _ (List.mem_append_right _ h))))
theorem inX2 : ∀ w ∈ wsX20, w ∈ lw_tbl := fun w h => wsL_law_in w (inlX2 w h)
theorem inlX3 : ∀ w ∈ wsX30, w ∈ wsL_law := fun _ h => List.mem_append_left _ (List.mem_append_left _ (List.mem_append_left _ (List.mem_append_left _ (List.mem_append_left _ (List.mem_append_left _ (List.mem_append_left _ (List.mem_append_left _ (List.mem_append_right _ h))))))))
theorem inX3 : ∀ w ∈ wsX30, w ∈ lw_tbl := fun w h => wsL_law_in w (inlX3 w h)
theorem inlX4 : ∀ w ∈ wsX40, w ∈ wsL_law := fun _ h => List.mem_append_left _ (List.mem_append_left _ (List.mem_append_left _ (List.mem_append_left _ (List.mem_append_left _ (List.mem_append_left _ (List.mem_append_left _ (List.mem_append_right _ h)))))))
theorem inX4 : ∀ w ∈ wsX40, w ∈ lw_tbl := fun w h => wsL_law_in w (inlX4 w h)
theorem inJ9 : ∀ w ∈ wsJ90, w ∈ lw_tbl := by decide +kernel
theorem inJ0 : ∀ w ∈ wsJ00, w ∈ lw_tbl := by decide +kernel
set_option maxRecDepth 20000 in
theorem ggX0_init_X1_init : GoodIn wsX0_init wsX1_init := goodIn_r _ [12, 13, 2, 3, 14, 15, 16] (by decide +kernel) (by decide +kernel)
set_option maxRecDepth 20000 in
theorem gX0_init_X1_init : GoodIn wsX0_init (wsX1_init) := ggX0_init_X1_init
end
section
theorem dJ9_floorMod_7cf53_0 : decode cJ9_floorMod_7cf53 0 = .ok (.iload_n 0, 1) := by decide +kernel
theorem dJ9_floorMod_7cf53_1 : decode cJ9_floorMod_7cf53 1 = .ok (.iload_n 1, 1) := by decide +kernel
theorem dJ9_floorMod_7cf53_2 : decode cJ9_floorMod_7cf53 2 = .ok (.irem, 1) := by decide +kernel
theorem dJ9_floorMod_7cf53_3 : decode cJ9_floorMod_7cf53 3 = .ok (.istore_n 2, 1) := by decide +kernel
theorem dJ9_floorMod_7cf53_4 : decode cJ9_floorMod_7cf53 4 = .ok (.iload_n 0, 1) := by decide +kernel
theorem dJ9_floorMod_7cf53_5 : decode cJ9_floorMod_7cf53 5 = .ok (.iload_n 1, 1) := by decide +kernel
theorem dJ9_floorMod_7cf53_6 : decode cJ9_floorMod_7cf53 6 = .ok (.ixor, 1) := by decide +kernel
theorem dJ9_floorMod_7cf53_7 : decode cJ9_floorMod_7cf53 7 = .ok (.ifCond .ge 11, 3) := by decide +kernel
theorem dJ9_floorMod_7cf53_10 : decode cJ9_floorMod_7cf53 10 = .ok (.iload_n 2, 1) := by decide +kernel
theorem dJ9_floorMod_7cf53_11 : decode cJ9_floorMod_7cf53 11 = .ok (.ifCond .eq 7, 3) := by decide +kernel
theorem dJ9_floorMod_7cf53_14 : decode cJ9_floorMod_7cf53 14 = .ok (.iload_n 2, 1) := by decide +kernel
theorem dJ9_floorMod_7cf53_15 : decode cJ9_floorMod_7cf53 15 = .ok (.iload_n 1, 1) := by decide +kernel
theorem dJ9_floorMod_7cf53_16 : decode cJ9_floorMod_7cf53 16 = .ok (.iadd, 1) := by decide +kernel
theorem dJ9_floorMod_7cf53_17 : decode cJ9_floorMod_7cf53 17 = .ok (.ireturn, 1) := by decide +kernel
theorem dJ9_floorMod_7cf53_18 : decode cJ9_floorMod_7cf53 18 = .ok (.iload_n 2, 1) := by decide +kernel
theorem dJ9_floorMod_7cf53_19 : decode cJ9_floorMod_7cf53 19 = .ok (.ireturn, 1) := by decide +kernel
theorem dJ9_max_7cf53_0 : decode cJ9_max_7cf53 0 = .ok (.iload_n 0, 1) := by decide +kernel
theorem dJ9_max_7cf53_1 : decode cJ9_max_7cf53 1 = .ok (.iload_n 1, 1) := by decide +kernel
theorem dJ9_max_7cf53_2 : decode cJ9_max_7cf53 2 = .ok (.if_icmp .lt 7, 3) := by decide +kernel
theorem dJ9_max_7cf53_5 : decode cJ9_max_7cf53 5 = .ok (.iload_n 0, 1) := by decide +kernel
theorem dJ9_max_7cf53_6 : decode cJ9_max_7cf53 6 = .ok (.goto 4, 3) := by decide +kernel
theorem dJ9_max_7cf53_9 : decode cJ9_max_7cf53 9 = .ok (.iload_n 1, 1) := by decide +kernel
theorem dJ9_max_7cf53_10 : decode cJ9_max_7cf53 10 = .ok (.ireturn, 1) := by decide +kernel
theorem dJ9_min_7cf53_0 : decode cJ9_min_7cf53 0 = .ok (.iload_n 0, 1) := by decide +kernel
theorem dJ9_min_7cf53_1 : decode cJ9_min_7cf53 1 = .ok (.iload_n 1, 1) := by decide +kernel
theorem dJ9_min_7cf53_2 : decode cJ9_min_7cf53 2 = .ok (.if_icmp .gt 7, 3) := by decide +kernel
theorem dJ9_min_7cf53_5 : decode cJ9_min_7cf53 5 = .ok (.iload_n 0, 1) := by decide +kernel
theorem dJ9_min_7cf53_6 : decode cJ9_min_7cf53 6 = .ok (.goto 4, 3) := by decide +kernel
theorem dJ9_min_7cf53_9 : decode cJ9_min_7cf53 9 = .ok (.iload_n 1, 1) := by decide +kernel
theorem dJ9_min_7cf53_10 : decode cJ9_min_7cf53 10 = .ok (.ireturn, 1) := by decide +kernel
end
section
theorem dX0_init_0 : decode cX0_init 0 = .ok (.aload_n 0, 1) := by decide +kernel
theorem dX0_init_1 : decode cX0_init 1 = .ok (.invokespecial 3, 3) := by decide +kernel
theorem dX0_init_4 : decode cX0_init 4 = .ok (.aload_n 0, 1) := by decide +kernel
theorem dX0_init_5 : decode cX0_init 5 = .ok (.new 9, 3) := by decide +kernel
theorem dX0_init_8 : decode cX0_init 8 = .ok (.dup, 1) := by decide +kernel
theorem dX0_init_9 : decode cX0_init 9 = .ok (.invokespecial 11, 3) := by decide +kernel
theorem dX0_init_12 : decode cX0_init 12 = .ok (.putfield 12, 3) := by decide +kernel
theorem dX0_init_15 : decode cX0_init 15 = .ok (.aload_n 0, 1) := by decide +kernel
theorem dX0_init_16 : decode cX0_init 16 = .ok (.bipush 8, 2) := by decide +kernel
theorem dX0_init_18 : decode cX0_init 18 = .ok (.putfield 18, 3) := by decide +kernel
theorem dX0_init_21 : decode cX0_init 21 = .ok (.aload_n 0, 1) := by decide +kernel
theorem dX0_init_22 : decode cX0_init 22 = .ok (.bipush 10, 2) := by decide +kernel
theorem dX0_init_24 : decode cX0_init 24 = .ok (.putfield 22, 3) := by decide +kernel
theorem dX0_init_27 : decode cX0_init 27 = .ok (.return_, 1) := by decide +kernel
theorem dX0_hasPlace_0 : decode cX0_hasPlace 0 = .ok (.iload_n 1, 1) := by decide +kernel
theorem dX0_hasPlace_1 : decode cX0_hasPlace 1 = .ok (.ifCond .lt 15, 3) := by decide +kernel
theorem dX0_hasPlace_4 : decode cX0_hasPlace 4 = .ok (.iload_n 1, 1) := by decide +kernel
theorem dX0_hasPlace_5 : decode cX0_hasPlace 5 = .ok (.aload_n 0, 1) := by decide +kernel
theorem dX0_hasPlace_6 : decode cX0_hasPlace 6 = .ok (.getfield 18, 3) := by decide +kernel
theorem dX0_hasPlace_9 : decode cX0_hasPlace 9 = .ok (.if_icmp .ge 7, 3) := by decide +kernel
theorem dX0_hasPlace_12 : decode cX0_hasPlace 12 = .ok (.iconst 1, 1) := by decide +kernel
theorem dX0_hasPlace_13 : decode cX0_hasPlace 13 = .ok (.goto 4, 3) := by decide +kernel
theorem dX0_hasPlace_16 : decode cX0_hasPlace 16 = .ok (.iconst 0, 1) := by decide +kernel
theorem dX0_hasPlace_17 : decode cX0_hasPlace 17 = .ok (.ireturn, 1) := by decide +kernel
theorem dX0_turnAt_0 : decode cX0_turnAt 0 = .ok (.aload_n 0, 1) := by decide +kernel
theorem dX0_turnAt_1 : decode cX0_turnAt 1 = .ok (.getfield 25, 3) := by decide +kernel
theorem dX0_turnAt_4 : decode cX0_turnAt 4 = .ok (.iload_n 1, 1) := by decide +kernel
theorem dX0_turnAt_5 : decode cX0_turnAt 5 = .ok (.imul, 1) := by decide +kernel
theorem dX0_turnAt_6 : decode cX0_turnAt 6 = .ok (.ireturn, 1) := by decide +kernel
theorem dX0_startWorking_0 : decode cX0_startWorking 0 = .ok (.aload_n 0, 1) := by decide +kernel
theorem dX0_startWorking_1 : decode cX0_startWorking 1 = .ok (.getfield 22, 3) := by decide +kernel
theorem dX0_startWorking_4 : decode cX0_startWorking 4 = .ok (.iload_n 1, 1) := by decide +kernel
theorem dX0_startWorking_5 : decode cX0_startWorking 5 = .ok (.if_icmp .ge 10, 3) := by decide +kernel
theorem dX0_startWorking_8 : decode cX0_startWorking 8 = .ok (.aload_n 0, 1) := by decide +kernel
theorem dX0_startWorking_9 : decode cX0_startWorking 9 = .ok (.iconst 1, 1) := by decide +kernel
theorem dX0_startWorking_10 : decode cX0_startWorking 10 = .ok (.putfield 28, 3) := by decide +kernel
theorem dX0_startWorking_13 : decode cX0_startWorking 13 = .ok (.iconst 0, 1) := by decide +kernel
theorem dX0_startWorking_14 : decode cX0_startWorking 14 = .ok (.ireturn, 1) := by decide +kernel
theorem dX0_startWorking_15 : decode cX0_startWorking 15 = .ok (.aload_n 0, 1) := by decide +kernel
theorem dX0_startWorking_16 : decode cX0_startWorking 16 = .ok (.dup, 1) := by decide +kernel
theorem dX0_startWorking_17 : decode cX0_startWorking 17 = .ok (.getfield 22, 3) := by decide +kernel
theorem dX0_startWorking_20 : decode cX0_startWorking 20 = .ok (.iconst 1, 1) := by decide +kernel
theorem dX0_startWorking_21 : decode cX0_startWorking 21 = .ok (.isub, 1) := by decide +kernel
theorem dX0_startWorking_22 : decode cX0_startWorking 22 = .ok (.putfield 22, 3) := by decide +kernel
theorem dX0_startWorking_25 : decode cX0_startWorking 25 = .ok (.iconst 1, 1) := by decide +kernel
theorem dX0_startWorking_26 : decode cX0_startWorking 26 = .ok (.ireturn, 1) := by decide +kernel
theorem dX0_stretch_0 : decode cX0_stretch 0 = .ok (.aload_n 0, 1) := by decide +kernel
theorem dX0_stretch_1 : decode cX0_stretch 1 = .ok (.iconst 2, 1) := by decide +kernel
theorem dX0_stretch_2 : decode cX0_stretch 2 = .ok (.aload_n 0, 1) := by decide +kernel
theorem dX0_stretch_3 : decode cX0_stretch 3 = .ok (.getfield 18, 3) := by decide +kernel
theorem dX0_stretch_6 : decode cX0_stretch 6 = .ok (.imul, 1) := by decide +kernel
theorem dX0_stretch_7 : decode cX0_stretch 7 = .ok (.bipush 60, 2) := by decide +kernel
theorem dX0_stretch_9 : decode cX0_stretch 9 = .ok (.invokestatic 32, 3) := by decide +kernel
theorem dX0_stretch_12 : decode cX0_stretch 12 = .ok (.putfield 18, 3) := by decide +kernel
theorem dX0_stretch_15 : decode cX0_stretch 15 = .ok (.aload_n 0, 1) := by decide +kernel
theorem dX0_stretch_16 : decode cX0_stretch 16 = .ok (.aload_n 0, 1) := by decide +kernel
theorem dX0_stretch_17 : decode cX0_stretch 17 = .ok (.getfield 25, 3) := by decide +kernel
theorem dX0_stretch_20 : decode cX0_stretch 20 = .ok (.iconst 2, 1) := by decide +kernel
theorem dX0_stretch_21 : decode cX0_stretch 21 = .ok (.idiv, 1) := by decide +kernel
theorem dX0_stretch_22 : decode cX0_stretch 22 = .ok (.putfield 25, 3) := by decide +kernel
theorem dX0_stretch_25 : decode cX0_stretch 25 = .ok (.return_, 1) := by decide +kernel
theorem dX0_passMinute_0 : decode cX0_passMinute 0 = .ok (.aload_n 0, 1) := by decide +kernel
theorem dX0_passMinute_1 : decode cX0_passMinute 1 = .ok (.iload_n 1, 1) := by decide +kernel
theorem dX0_passMinute_2 : decode cX0_passMinute 2 = .ok (.ifCond .eq 17, 3) := by decide +kernel
theorem dX0_passMinute_5 : decode cX0_passMinute 5 = .ok (.aload_n 0, 1) := by decide +kernel
theorem dX0_passMinute_6 : decode cX0_passMinute 6 = .ok (.getfield 22, 3) := by decide +kernel
theorem dX0_passMinute_9 : decode cX0_passMinute 9 = .ok (.iconst 3, 1) := by decide +kernel
theorem dX0_passMinute_10 : decode cX0_passMinute 10 = .ok (.iadd, 1) := by decide +kernel
theorem dX0_passMinute_11 : decode cX0_passMinute 11 = .ok (.bipush 10, 2) := by decide +kernel
theorem dX0_passMinute_13 : decode cX0_passMinute 13 = .ok (.invokestatic 32, 3) := by decide +kernel
theorem dX0_passMinute_16 : decode cX0_passMinute 16 = .ok (.goto 13, 3) := by decide +kernel
theorem dX0_passMinute_19 : decode cX0_passMinute 19 = .ok (.aload_n 0, 1) := by decide +kernel
theorem dX0_passMinute_20 : decode cX0_passMinute 20 = .ok (.getfield 22, 3) := by decide +kernel
theorem dX0_passMinute_23 : decode cX0_passMinute 23 = .ok (.iconst 1, 1) := by decide +kernel
theorem dX0_passMinute_24 : decode cX0_passMinute 24 = .ok (.isub, 1) := by decide +kernel
theorem dX0_passMinute_25 : decode cX0_passMinute 25 = .ok (.iconst 0, 1) := by decide +kernel
theorem dX0_passMinute_26 : decode cX0_passMinute 26 = .ok (.invokestatic 38, 3) := by decide +kernel
theorem dX0_passMinute_29 : decode cX0_passMinute 29 = .ok (.putfield 22, 3) := by decide +kernel
theorem dX0_passMinute_32 : decode cX0_passMinute 32 = .ok (.return_, 1) := by decide +kernel
theorem dX0_tell_0 : decode cX0_tell 0 = .ok (.iload_n 1, 1) := by decide +kernel
theorem dX0_tell_1 : decode cX0_tell 1 = .ok (.tableswitch 59 0 3 #[31, 36, 41, 46], 31) := by decide +kernel
theorem dX0_tell_32 : decode cX0_tell 32 = .ok (.aload_n 0, 1) := by decide +kernel
theorem dX0_tell_33 : decode cX0_tell 33 = .ok (.getfield 18, 3) := by decide +kernel
theorem dX0_tell_36 : decode cX0_tell 36 = .ok (.ireturn, 1) := by decide +kernel
theorem dX0_tell_37 : decode cX0_tell 37 = .ok (.aload_n 0, 1) := by decide +kernel
theorem dX0_tell_38 : decode cX0_tell 38 = .ok (.getfield 25, 3) := by decide +kernel
theorem dX0_tell_41 : decode cX0_tell 41 = .ok (.ireturn, 1) := by decide +kernel
theorem dX0_tell_42 : decode cX0_tell 42 = .ok (.aload_n 0, 1) := by decide +kernel
theorem dX0_tell_43 : decode cX0_tell 43 = .ok (.getfield 22, 3) := by decide +kernel
theorem dX0_tell_46 : decode cX0_tell 46 = .ok (.ireturn, 1) := by decide +kernel
theorem dX0_tell_47 : decode cX0_tell 47 = .ok (.aload_n 0, 1) := by decide +kernel
theorem dX0_tell_48 : decode cX0_tell 48 = .ok (.getfield 28, 3) := by decide +kernel
theorem dX0_tell_51 : decode cX0_tell 51 = .ok (.ifCond .eq 7, 3) := by decide +kernel
theorem dX0_tell_54 : decode cX0_tell 54 = .ok (.iconst 0, 1) := by decide +kernel
theorem dX0_tell_55 : decode cX0_tell 55 = .ok (.goto 4, 3) := by decide +kernel
theorem dX0_tell_58 : decode cX0_tell 58 = .ok (.iconst 1, 1) := by decide +kernel
theorem dX0_tell_59 : decode cX0_tell 59 = .ok (.ireturn, 1) := by decide +kernel
theorem dX0_tell_60 : decode cX0_tell 60 = .ok (.iload_n 2, 1) := by decide +kernel
theorem dX0_tell_61 : decode cX0_tell 61 = .ok (.ifCond .eq 7, 3) := by decide +kernel
theorem dX0_tell_64 : decode cX0_tell 64 = .ok (.iconst 1, 1) := by decide +kernel
theorem dX0_tell_65 : decode cX0_tell 65 = .ok (.goto 4, 3) := by decide +kernel
theorem dX0_tell_68 : decode cX0_tell 68 = .ok (.iconst 0, 1) := by decide +kernel
theorem dX0_tell_69 : decode cX0_tell 69 = .ok (.ireturn, 1) := by decide +kernel
theorem dX1_init_0 : decode cX1_init 0 = .ok (.aload_n 0, 1) := by decide +kernel
theorem dX1_init_1 : decode cX1_init 1 = .ok (.invokespecial 3, 3) := by decide +kernel
theorem dX1_init_4 : decode cX1_init 4 = .ok (.aload_n 0, 1) := by decide +kernel
theorem dX1_init_5 : decode cX1_init 5 = .ok (.bipush 24, 2) := by decide +kernel
theorem dX1_init_7 : decode cX1_init 7 = .ok (.newarray .int, 2) := by decide +kernel
theorem dX1_init_9 : decode cX1_init 9 = .ok (.putfield 9, 3) := by decide +kernel
theorem dX1_init_12 : decode cX1_init 12 = .ok (.return_, 1) := by decide +kernel
set_option maxRecDepth 20000 in
theorem ggX1_indexOf_J9_floorMod_7cf53 : GoodIn wsX1_indexOf wsJ9_floorMod_7cf53 := goodIn_r _ [4] (by decide +kernel) (by decide +kernel)
set_option maxRecDepth 20000 in
theorem gX1_indexOf_J9_floorMod_7cf53 : GoodIn wsX1_indexOf (va_wsS RX1 15 yJ9_floorMod_7cf53 wsJ9_floorMod_7cf53) := goodIn_app (goodIn_of _ (by decide +kernel)) ggX1_indexOf_J9_floorMod_7cf53
theorem dX1_indexOf_0 : decode cX1_indexOf 0 = .ok (.bipush 8, 2) := by decide +kernel
theorem dX1_indexOf_2 : decode cX1_indexOf 2 = .ok (.iload_n 0, 1) := by decide +kernel
theorem dX1_indexOf_3 : decode cX1_indexOf 3 = .ok (.imul, 1) := by decide +kernel
theorem dX1_indexOf_4 : decode cX1_indexOf 4 = .ok (.iload_n 1, 1) := by decide +kernel
theorem dX1_indexOf_5 : decode cX1_indexOf 5 = .ok (.bipush 8, 2) := by decide +kernel
theorem dX1_indexOf_7 : decode cX1_indexOf 7 = .ok (.invokestatic 15, 3) := by decide +kernel
theorem dX1_indexOf_10 : decode cX1_indexOf 10 = .ok (.iadd, 1) := by decide +kernel
theorem dX1_indexOf_11 : decode cX1_indexOf 11 = .ok (.ireturn, 1) := by decide +kernel
set_option maxRecDepth 20000 in
theorem ggX1_colourAt_X1_indexOf : GoodIn wsX1_colourAt wsX1_indexOf := goodIn_r _ [5, 6, 7, 8, 9] (by decide +kernel) (by decide +kernel)
set_option maxRecDepth 20000 in
theorem gX1_colourAt_X1_indexOf : GoodIn wsX1_colourAt (va_wsS RX1 21 yX1_indexOf wsX1_indexOf) := goodIn_app (goodIn_of _ (by decide +kernel)) ggX1_colourAt_X1_indexOf
theorem dX1_colourAt_0 : decode cX1_colourAt 0 = .ok (.aload_n 0, 1) := by decide +kernel
theorem dX1_colourAt_1 : decode cX1_colourAt 1 = .ok (.getfield 9, 3) := by decide +kernel
theorem dX1_colourAt_4 : decode cX1_colourAt 4 = .ok (.iload_n 1, 1) := by decide +kernel
theorem dX1_colourAt_5 : decode cX1_colourAt 5 = .ok (.iload_n 2, 1) := by decide +kernel
theorem dX1_colourAt_6 : decode cX1_colourAt 6 = .ok (.iload_n 3, 1) := by decide +kernel
theorem dX1_colourAt_7 : decode cX1_colourAt 7 = .ok (.isub, 1) := by decide +kernel
theorem dX1_colourAt_8 : decode cX1_colourAt 8 = .ok (.invokestatic 21, 3) := by decide +kernel
theorem dX1_colourAt_11 : decode cX1_colourAt 11 = .ok (.iaload, 1) := by decide +kernel
theorem dX1_colourAt_12 : decode cX1_colourAt 12 = .ok (.ireturn, 1) := by decide +kernel
set_option maxRecDepth 20000 in
theorem ggX1_paint_X1_indexOf : GoodIn wsX1_paint wsX1_indexOf := goodIn_r _ [5, 6, 7, 8, 9] (by decide +kernel) (by decide +kernel)
set_option maxRecDepth 20000 in
theorem gX1_paint_X1_indexOf : GoodIn wsX1_paint (va_wsS RX1 21 yX1_indexOf wsX1_indexOf) := goodIn_app (goodIn_of _ (by decide +kernel)) ggX1_paint_X1_indexOf
theorem dX1_paint_0 : decode cX1_paint 0 = .ok (.iconst 0, 1) := by decide +kernel
theorem dX1_paint_1 : decode cX1_paint 1 = .ok (.istore 5, 2) := by decide +kernel
theorem dX1_paint_3 : decode cX1_paint 3 = .ok (.iload 5, 2) := by decide +kernel
theorem dX1_paint_5 : decode cX1_paint 5 = .ok (.iload_n 3, 1) := by decide +kernel
theorem dX1_paint_6 : decode cX1_paint 6 = .ok (.if_icmp .ge 24, 3) := by decide +kernel
theorem dX1_paint_9 : decode cX1_paint 9 = .ok (.aload_n 0, 1) := by decide +kernel
theorem dX1_paint_10 : decode cX1_paint 10 = .ok (.getfield 9, 3) := by decide +kernel
theorem dX1_paint_13 : decode cX1_paint 13 = .ok (.iload_n 1, 1) := by decide +kernel
theorem dX1_paint_14 : decode cX1_paint 14 = .ok (.iload_n 2, 1) := by decide +kernel
theorem dX1_paint_15 : decode cX1_paint 15 = .ok (.iload 5, 2) := by decide +kernel
theorem dX1_paint_17 : decode cX1_paint 17 = .ok (.iadd, 1) := by decide +kernel
theorem dX1_paint_18 : decode cX1_paint 18 = .ok (.invokestatic 21, 3) := by decide +kernel
theorem dX1_paint_21 : decode cX1_paint 21 = .ok (.iload 4, 2) := by decide +kernel
theorem dX1_paint_23 : decode cX1_paint 23 = .ok (.iastore, 1) := by decide +kernel
theorem dX1_paint_24 : decode cX1_paint 24 = .ok (.iinc 5 1, 3) := by decide +kernel
theorem dX1_paint_27 : decode cX1_paint 27 = .ok (.goto (-24), 3) := by decide +kernel
theorem dX1_paint_30 : decode cX1_paint 30 = .ok (.return_, 1) := by decide +kernel
set_option maxRecDepth 20000 in
theorem ggX1_turned_X1_init : GoodIn wsX1_turned wsX1_init := goodIn_r _ [7, 8, 9, 10, 11, 4, 23] (by decide +kernel) (by decide +kernel)
set_option maxRecDepth 20000 in
theorem gX1_turned_X1_init : GoodIn wsX1_turned (wsX1_init) := ggX1_turned_X1_init
set_option maxRecDepth 20000 in
theorem ggX1_turned_X1_colourAt : GoodIn wsX1_turned wsX1_colourAt := goodIn_r _ [15, 4, 16, 17, 3, 18, 19, 20, 21, 22, 23] (by decide +kernel) (by decide +kernel)
set_option maxRecDepth 20000 in
theorem gX1_turned_X1_colourAt : GoodIn wsX1_turned (wsV RX1 25 RX1 yX1_colourAt wsX1_colourAt) := goodIn_app (goodIn_of _ (by decide +kernel)) ggX1_turned_X1_colourAt
theorem dX1_turned_0 : decode cX1_turned 0 = .ok (.new 10, 3) := by decide +kernel
theorem dX1_turned_3 : decode cX1_turned 3 = .ok (.dup, 1) := by decide +kernel
theorem dX1_turned_4 : decode cX1_turned 4 = .ok (.invokespecial 24, 3) := by decide +kernel
theorem dX1_turned_7 : decode cX1_turned 7 = .ok (.astore_n 2, 1) := by decide +kernel
theorem dX1_turned_8 : decode cX1_turned 8 = .ok (.iconst 0, 1) := by decide +kernel
theorem dX1_turned_9 : decode cX1_turned 9 = .ok (.istore_n 3, 1) := by decide +kernel
theorem dX1_turned_10 : decode cX1_turned 10 = .ok (.iload_n 3, 1) := by decide +kernel
theorem dX1_turned_11 : decode cX1_turned 11 = .ok (.iconst 3, 1) := by decide +kernel
theorem dX1_turned_12 : decode cX1_turned 12 = .ok (.if_icmp .ge 45, 3) := by decide +kernel
theorem dX1_turned_15 : decode cX1_turned 15 = .ok (.iconst 0, 1) := by decide +kernel
theorem dX1_turned_16 : decode cX1_turned 16 = .ok (.istore 4, 2) := by decide +kernel
theorem dX1_turned_18 : decode cX1_turned 18 = .ok (.iload 4, 2) := by decide +kernel
theorem dX1_turned_20 : decode cX1_turned 20 = .ok (.bipush 8, 2) := by decide +kernel
theorem dX1_turned_22 : decode cX1_turned 22 = .ok (.if_icmp .ge 29, 3) := by decide +kernel
theorem dX1_turned_25 : decode cX1_turned 25 = .ok (.aload_n 2, 1) := by decide +kernel
theorem dX1_turned_26 : decode cX1_turned 26 = .ok (.getfield 9, 3) := by decide +kernel
theorem dX1_turned_29 : decode cX1_turned 29 = .ok (.bipush 8, 2) := by decide +kernel
theorem dX1_turned_31 : decode cX1_turned 31 = .ok (.iload_n 3, 1) := by decide +kernel
theorem dX1_turned_32 : decode cX1_turned 32 = .ok (.imul, 1) := by decide +kernel
theorem dX1_turned_33 : decode cX1_turned 33 = .ok (.iload 4, 2) := by decide +kernel
theorem dX1_turned_35 : decode cX1_turned 35 = .ok (.iadd, 1) := by decide +kernel
theorem dX1_turned_36 : decode cX1_turned 36 = .ok (.aload_n 0, 1) := by decide +kernel
theorem dX1_turned_37 : decode cX1_turned 37 = .ok (.iload_n 3, 1) := by decide +kernel
theorem dX1_turned_38 : decode cX1_turned 38 = .ok (.iload 4, 2) := by decide +kernel
theorem dX1_turned_40 : decode cX1_turned 40 = .ok (.iload_n 1, 1) := by decide +kernel
theorem dX1_turned_41 : decode cX1_turned 41 = .ok (.invokevirtual 25, 3) := by decide +kernel
theorem dX1_turned_44 : decode cX1_turned 44 = .ok (.iastore, 1) := by decide +kernel
theorem dX1_turned_45 : decode cX1_turned 45 = .ok (.iinc 4 1, 3) := by decide +kernel
theorem dX1_turned_48 : decode cX1_turned 48 = .ok (.goto (-30), 3) := by decide +kernel
theorem dX1_turned_51 : decode cX1_turned 51 = .ok (.iinc 3 1, 3) := by decide +kernel
theorem dX1_turned_54 : decode cX1_turned 54 = .ok (.goto (-44), 3) := by decide +kernel
theorem dX1_turned_57 : decode cX1_turned 57 = .ok (.aload_n 2, 1) := by decide +kernel
theorem dX1_turned_58 : decode cX1_turned 58 = .ok (.areturn, 1) := by decide +kernel
set_option maxRecDepth 20000 in
theorem ggX1_looksLike_X1_colourAt : GoodIn wsX1_looksLike wsX1_colourAt := goodIn_r _ [6, 1, 7, 8, 5, 9, 10, 11, 12, 13, 14] (by decide +kernel) (by decide +kernel)
set_option maxRecDepth 20000 in
theorem gX1_looksLike_X1_colourAt : GoodIn wsX1_looksLike (wsV RX1 25 RX1 yX1_colourAt wsX1_colourAt) := goodIn_app (goodIn_of _ (by decide +kernel)) ggX1_looksLike_X1_colourAt
theorem dX1_looksLike_0 : decode cX1_looksLike 0 = .ok (.iconst 0, 1) := by decide +kernel
theorem dX1_looksLike_1 : decode cX1_looksLike 1 = .ok (.istore_n 3, 1) := by decide +kernel
theorem dX1_looksLike_2 : decode cX1_looksLike 2 = .ok (.iload_n 3, 1) := by decide +kernel
theorem dX1_looksLike_3 : decode cX1_looksLike 3 = .ok (.iconst 3, 1) := by decide +kernel
theorem dX1_looksLike_4 : decode cX1_looksLike 4 = .ok (.if_icmp .ge 50, 3) := by decide +kernel
theorem dX1_looksLike_7 : decode cX1_looksLike 7 = .ok (.iconst 0, 1) := by decide +kernel
theorem dX1_looksLike_8 : decode cX1_looksLike 8 = .ok (.istore 4, 2) := by decide +kernel
theorem dX1_looksLike_10 : decode cX1_looksLike 10 = .ok (.iload 4, 2) := by decide +kernel
theorem dX1_looksLike_12 : decode cX1_looksLike 12 = .ok (.bipush 8, 2) := by decide +kernel
theorem dX1_looksLike_14 : decode cX1_looksLike 14 = .ok (.if_icmp .ge 34, 3) := by decide +kernel
theorem dX1_looksLike_17 : decode cX1_looksLike 17 = .ok (.aload_n 0, 1) := by decide +kernel
theorem dX1_looksLike_18 : decode cX1_looksLike 18 = .ok (.iload_n 3, 1) := by decide +kernel
theorem dX1_looksLike_19 : decode cX1_looksLike 19 = .ok (.iload 4, 2) := by decide +kernel
theorem dX1_looksLike_21 : decode cX1_looksLike 21 = .ok (.iload_n 2, 1) := by decide +kernel
theorem dX1_looksLike_22 : decode cX1_looksLike 22 = .ok (.invokevirtual 25, 3) := by decide +kernel
theorem dX1_looksLike_25 : decode cX1_looksLike 25 = .ok (.aload_n 1, 1) := by decide +kernel
theorem dX1_looksLike_26 : decode cX1_looksLike 26 = .ok (.getfield 9, 3) := by decide +kernel
theorem dX1_looksLike_29 : decode cX1_looksLike 29 = .ok (.bipush 8, 2) := by decide +kernel
theorem dX1_looksLike_31 : decode cX1_looksLike 31 = .ok (.iload_n 3, 1) := by decide +kernel
theorem dX1_looksLike_32 : decode cX1_looksLike 32 = .ok (.imul, 1) := by decide +kernel
theorem dX1_looksLike_33 : decode cX1_looksLike 33 = .ok (.iload 4, 2) := by decide +kernel
theorem dX1_looksLike_35 : decode cX1_looksLike 35 = .ok (.iadd, 1) := by decide +kernel
theorem dX1_looksLike_36 : decode cX1_looksLike 36 = .ok (.iaload, 1) := by decide +kernel
theorem dX1_looksLike_37 : decode cX1_looksLike 37 = .ok (.if_icmp .eq 5, 3) := by decide +kernel
theorem dX1_looksLike_40 : decode cX1_looksLike 40 = .ok (.iconst 0, 1) := by decide +kernel
theorem dX1_looksLike_41 : decode cX1_looksLike 41 = .ok (.ireturn, 1) := by decide +kernel
theorem dX1_looksLike_42 : decode cX1_looksLike 42 = .ok (.iinc 4 1, 3) := by decide +kernel
theorem dX1_looksLike_45 : decode cX1_looksLike 45 = .ok (.goto (-35), 3) := by decide +kernel
theorem dX1_looksLike_48 : decode cX1_looksLike 48 = .ok (.iinc 3 1, 3) := by decide +kernel
theorem dX1_looksLike_51 : decode cX1_looksLike 51 = .ok (.goto (-49), 3) := by decide +kernel
theorem dX1_looksLike_54 : decode cX1_looksLike 54 = .ok (.iconst 1, 1) := by decide +kernel
theorem dX1_looksLike_55 : decode cX1_looksLike 55 = .ok (.ireturn, 1) := by decide +kernel
set_option maxRecDepth 20000 in
theorem ggX1_leastTurnTo_X1_looksLike : GoodIn wsX1_leastTurnTo wsX1_looksLike := goodIn_r _ [5, 6, 7, 8, 9, 4, 10, 11, 12, 13, 14, 15, 16, 17, 18] (by decide +kernel) (by decide +kernel)
set_option maxRecDepth 20000 in
theorem gX1_leastTurnTo_X1_looksLike : GoodIn wsX1_leastTurnTo (wsV RX1 29 RX1 yX1_looksLike wsX1_looksLike) := goodIn_app (goodIn_of _ (by decide +kernel)) ggX1_leastTurnTo_X1_looksLike
theorem dX1_leastTurnTo_0 : decode cX1_leastTurnTo 0 = .ok (.iconst 0, 1) := by decide +kernel
theorem dX1_leastTurnTo_1 : decode cX1_leastTurnTo 1 = .ok (.istore_n 2, 1) := by decide +kernel
theorem dX1_leastTurnTo_2 : decode cX1_leastTurnTo 2 = .ok (.iload_n 2, 1) := by decide +kernel
theorem dX1_leastTurnTo_3 : decode cX1_leastTurnTo 3 = .ok (.bipush 8, 2) := by decide +kernel
theorem dX1_leastTurnTo_5 : decode cX1_leastTurnTo 5 = .ok (.if_icmp .ge 20, 3) := by decide +kernel
theorem dX1_leastTurnTo_8 : decode cX1_leastTurnTo 8 = .ok (.aload_n 0, 1) := by decide +kernel
theorem dX1_leastTurnTo_9 : decode cX1_leastTurnTo 9 = .ok (.aload_n 1, 1) := by decide +kernel
theorem dX1_leastTurnTo_10 : decode cX1_leastTurnTo 10 = .ok (.iload_n 2, 1) := by decide +kernel
theorem dX1_leastTurnTo_11 : decode cX1_leastTurnTo 11 = .ok (.invokevirtual 29, 3) := by decide +kernel
theorem dX1_leastTurnTo_14 : decode cX1_leastTurnTo 14 = .ok (.ifCond .eq 5, 3) := by decide +kernel
theorem dX1_leastTurnTo_17 : decode cX1_leastTurnTo 17 = .ok (.iload_n 2, 1) := by decide +kernel
theorem dX1_leastTurnTo_18 : decode cX1_leastTurnTo 18 = .ok (.ireturn, 1) := by decide +kernel
theorem dX1_leastTurnTo_19 : decode cX1_leastTurnTo 19 = .ok (.iinc 2 1, 3) := by decide +kernel
theorem dX1_leastTurnTo_22 : decode cX1_leastTurnTo 22 = .ok (.goto (-20), 3) := by decide +kernel
theorem dX1_leastTurnTo_25 : decode cX1_leastTurnTo 25 = .ok (.iconst (-1), 1) := by decide +kernel
theorem dX1_leastTurnTo_26 : decode cX1_leastTurnTo 26 = .ok (.ireturn, 1) := by decide +kernel
theorem dX2_init_0 : decode cX2_init 0 = .ok (.aload_n 0, 1) := by decide +kernel
theorem dX2_init_1 : decode cX2_init 1 = .ok (.invokespecial 3, 3) := by decide +kernel
theorem dX2_init_4 : decode cX2_init 4 = .ok (.aload_n 0, 1) := by decide +kernel
theorem dX2_init_5 : decode cX2_init 5 = .ok (.iload_n 1, 1) := by decide +kernel
theorem dX2_init_6 : decode cX2_init 6 = .ok (.putfield 9, 3) := by decide +kernel
theorem dX2_init_9 : decode cX2_init 9 = .ok (.aload_n 0, 1) := by decide +kernel
theorem dX2_init_10 : decode cX2_init 10 = .ok (.aload_n 2, 1) := by decide +kernel
theorem dX2_init_11 : decode cX2_init 11 = .ok (.putfield 15, 3) := by decide +kernel
theorem dX2_init_14 : decode cX2_init 14 = .ok (.aload_n 0, 1) := by decide +kernel
theorem dX2_init_15 : decode cX2_init 15 = .ok (.iload_n 3, 1) := by decide +kernel
theorem dX2_init_16 : decode cX2_init 16 = .ok (.putfield 19, 3) := by decide +kernel
theorem dX2_init_19 : decode cX2_init 19 = .ok (.aload_n 0, 1) := by decide +kernel
theorem dX2_init_20 : decode cX2_init 20 = .ok (.iconst (-1), 1) := by decide +kernel
theorem dX2_init_21 : decode cX2_init 21 = .ok (.putfield 22, 3) := by decide +kernel
theorem dX2_init_24 : decode cX2_init 24 = .ok (.return_, 1) := by decide +kernel
theorem dX2_isFree_0 : decode cX2_isFree 0 = .ok (.aload_n 0, 1) := by decide +kernel
theorem dX2_isFree_1 : decode cX2_isFree 1 = .ok (.getfield 22, 3) := by decide +kernel
theorem dX2_isFree_4 : decode cX2_isFree 4 = .ok (.iconst (-1), 1) := by decide +kernel
theorem dX2_isFree_5 : decode cX2_isFree 5 = .ok (.if_icmp .ne 7, 3) := by decide +kernel
theorem dX2_isFree_8 : decode cX2_isFree 8 = .ok (.iconst 1, 1) := by decide +kernel
theorem dX2_isFree_9 : decode cX2_isFree 9 = .ok (.goto 4, 3) := by decide +kernel
theorem dX2_isFree_12 : decode cX2_isFree 12 = .ok (.iconst 0, 1) := by decide +kernel
theorem dX2_isFree_13 : decode cX2_isFree 13 = .ok (.ireturn, 1) := by decide +kernel
theorem dX2_enter_0 : decode cX2_enter 0 = .ok (.aload_n 0, 1) := by decide +kernel
theorem dX2_enter_1 : decode cX2_enter 1 = .ok (.iload_n 1, 1) := by decide +kernel
theorem dX2_enter_2 : decode cX2_enter 2 = .ok (.putfield 22, 3) := by decide +kernel
theorem dX2_enter_5 : decode cX2_enter 5 = .ok (.aload_n 0, 1) := by decide +kernel
theorem dX2_enter_6 : decode cX2_enter 6 = .ok (.iload_n 2, 1) := by decide +kernel
theorem dX2_enter_7 : decode cX2_enter 7 = .ok (.putfield 25, 3) := by decide +kernel
theorem dX2_enter_10 : decode cX2_enter 10 = .ok (.return_, 1) := by decide +kernel
theorem dX2_leave_0 : decode cX2_leave 0 = .ok (.aload_n 0, 1) := by decide +kernel
theorem dX2_leave_1 : decode cX2_leave 1 = .ok (.iconst (-1), 1) := by decide +kernel
theorem dX2_leave_2 : decode cX2_leave 2 = .ok (.putfield 22, 3) := by decide +kernel
theorem dX2_leave_5 : decode cX2_leave 5 = .ok (.aload_n 0, 1) := by decide +kernel
theorem dX2_leave_6 : decode cX2_leave 6 = .ok (.iconst 0, 1) := by decide +kernel
theorem dX2_leave_7 : decode cX2_leave 7 = .ok (.putfield 25, 3) := by decide +kernel
theorem dX2_leave_10 : decode cX2_leave 10 = .ok (.return_, 1) := by decide +kernel
theorem dX3_init_0 : decode cX3_init 0 = .ok (.aload_n 0, 1) := by decide +kernel
theorem dX3_init_1 : decode cX3_init 1 = .ok (.invokespecial 1, 3) := by decide +kernel
theorem dX3_init_4 : decode cX3_init 4 = .ok (.aload_n 0, 1) := by decide +kernel
theorem dX3_init_5 : decode cX3_init 5 = .ok (.bipush 8, 2) := by decide +kernel
theorem dX3_init_7 : decode cX3_init 7 = .ok (.anewarray 9, 3) := by decide +kernel
theorem dX3_init_10 : decode cX3_init 10 = .ok (.putfield 11, 3) := by decide +kernel
theorem dX3_init_13 : decode cX3_init 13 = .ok (.aload_n 0, 1) := by decide +kernel
theorem dX3_init_14 : decode cX3_init 14 = .ok (.bipush 60, 2) := by decide +kernel
theorem dX3_init_16 : decode cX3_init 16 = .ok (.anewarray 15, 3) := by decide +kernel
theorem dX3_init_19 : decode cX3_init 19 = .ok (.putfield 17, 3) := by decide +kernel
theorem dX3_init_22 : decode cX3_init 22 = .ok (.aload_n 0, 1) := by decide +kernel
theorem dX3_init_23 : decode cX3_init 23 = .ok (.bipush 24, 2) := by decide +kernel
theorem dX3_init_25 : decode cX3_init 25 = .ok (.anewarray 15, 3) := by decide +kernel
theorem dX3_init_28 : decode cX3_init 28 = .ok (.putfield 21, 3) := by decide +kernel
theorem dX3_init_31 : decode cX3_init 31 = .ok (.aload_n 0, 1) := by decide +kernel
theorem dX3_init_32 : decode cX3_init 32 = .ok (.iconst (-1), 1) := by decide +kernel
theorem dX3_init_33 : decode cX3_init 33 = .ok (.putfield 24, 3) := by decide +kernel
theorem dX3_init_36 : decode cX3_init 36 = .ok (.return_, 1) := by decide +kernel
set_option maxRecDepth 20000 in
theorem ggX3_begin_X0_init : GoodIn wsX3_begin wsX0_init := goodIn_r _ [10, 11, 12, 13, 14, 15, 16, 17, 18, 19, 20, 21, 22, 23, 24, 25, 39, 34, 35, 36, 37, 38] (by decide +kernel) (by decide +kernel)
set_option maxRecDepth 20000 in
theorem gX3_begin_X0_init : GoodIn wsX3_begin (wsX0_init) := ggX3_begin_X0_init
theorem dX3_begin_0 : decode cX3_begin 0 = .ok (.aload_n 0, 1) := by decide +kernel
theorem dX3_begin_1 : decode cX3_begin 1 = .ok (.getfield 28, 3) := by decide +kernel
theorem dX3_begin_4 : decode cX3_begin 4 = .ok (.bipush 8, 2) := by decide +kernel
theorem dX3_begin_6 : decode cX3_begin 6 = .ok (.if_icmp .lt 13, 3) := by decide +kernel
theorem dX3_begin_9 : decode cX3_begin 9 = .ok (.new 31, 3) := by decide +kernel
theorem dX3_begin_12 : decode cX3_begin 12 = .ok (.dup, 1) := by decide +kernel
theorem dX3_begin_13 : decode cX3_begin 13 = .ok (.ldc 33, 2) := by decide +kernel
theorem dX3_begin_15 : decode cX3_begin 15 = .ok (.invokespecial 35, 3) := by decide +kernel
theorem dX3_begin_18 : decode cX3_begin 18 = .ok (.athrow, 1) := by decide +kernel
theorem dX3_begin_19 : decode cX3_begin 19 = .ok (.aload_n 0, 1) := by decide +kernel
theorem dX3_begin_20 : decode cX3_begin 20 = .ok (.getfield 28, 3) := by decide +kernel
theorem dX3_begin_23 : decode cX3_begin 23 = .ok (.istore_n 1, 1) := by decide +kernel
theorem dX3_begin_24 : decode cX3_begin 24 = .ok (.aload_n 0, 1) := by decide +kernel
theorem dX3_begin_25 : decode cX3_begin 25 = .ok (.getfield 11, 3) := by decide +kernel
theorem dX3_begin_28 : decode cX3_begin 28 = .ok (.iload_n 1, 1) := by decide +kernel
theorem dX3_begin_29 : decode cX3_begin 29 = .ok (.new 9, 3) := by decide +kernel
theorem dX3_begin_32 : decode cX3_begin 32 = .ok (.dup, 1) := by decide +kernel
theorem dX3_begin_33 : decode cX3_begin 33 = .ok (.invokespecial 38, 3) := by decide +kernel
theorem dX3_begin_36 : decode cX3_begin 36 = .ok (.aastore, 1) := by decide +kernel
theorem dX3_begin_37 : decode cX3_begin 37 = .ok (.aload_n 0, 1) := by decide +kernel
theorem dX3_begin_38 : decode cX3_begin 38 = .ok (.dup, 1) := by decide +kernel
theorem dX3_begin_39 : decode cX3_begin 39 = .ok (.getfield 28, 3) := by decide +kernel
theorem dX3_begin_42 : decode cX3_begin 42 = .ok (.iconst 1, 1) := by decide +kernel
theorem dX3_begin_43 : decode cX3_begin 43 = .ok (.iadd, 1) := by decide +kernel
theorem dX3_begin_44 : decode cX3_begin 44 = .ok (.putfield 28, 3) := by decide +kernel
theorem dX3_begin_47 : decode cX3_begin 47 = .ok (.iload_n 1, 1) := by decide +kernel
theorem dX3_begin_48 : decode cX3_begin 48 = .ok (.ireturn, 1) := by decide +kernel
set_option maxRecDepth 20000 in
theorem ggX3_lay_X3_caneAt : GoodIn wsX3_lay wsX3_caneAt := goodIn_r _ [11, 12, 61, 62, 63, 64, 65, 66, 67, 68] (by decide +kernel) (by decide +kernel)
set_option maxRecDepth 20000 in
theorem gX3_lay_X3_caneAt : GoodIn wsX3_lay (wsV RX3 39 RX3 yX3_caneAt wsX3_caneAt) := goodIn_app (goodIn_of _ (by decide +kernel)) ggX3_lay_X3_caneAt
set_option maxRecDepth 20000 in
theorem ggX3_lay_X3_isRing : GoodIn wsX3_lay wsX3_isRing := goodIn_r _ [15] (by decide +kernel) (by decide +kernel)
set_option maxRecDepth 20000 in
theorem gX3_lay_X3_isRing : GoodIn wsX3_lay (va_wsS RX3 48 yX3_isRing wsX3_isRing) := goodIn_app (goodIn_of _ (by decide +kernel)) ggX3_lay_X3_isRing
set_option maxRecDepth 20000 in
theorem ggX3_lay_X3_isSector : GoodIn wsX3_lay wsX3_isSector := goodIn_r _ [18] (by decide +kernel) (by decide +kernel)
set_option maxRecDepth 20000 in
theorem gX3_lay_X3_isSector : GoodIn wsX3_lay (va_wsS RX3 52 yX3_isSector wsX3_isSector) := goodIn_app (goodIn_of _ (by decide +kernel)) ggX3_lay_X3_isSector
set_option maxRecDepth 20000 in
theorem ggX3_lay_X0_startWorking : GoodIn wsX3_lay wsX0_startWorking := goodIn_r _ [23, 24, 25, 56, 57, 58, 59, 60] (by decide +kernel) (by decide +kernel)
set_option maxRecDepth 20000 in
theorem gX3_lay_X0_startWorking : GoodIn wsX3_lay (wsV RX3 68 RX0 yX0_startWorking wsX0_startWorking) := goodIn_app (goodIn_of _ (by decide +kernel)) ggX3_lay_X0_startWorking
set_option maxRecDepth 20000 in
theorem ggX3_lay_X1_paint : GoodIn wsX3_lay wsX1_paint := goodIn_r _ [30, 31, 32, 33, 29, 34, 35, 36, 37, 38, 69] (by decide +kernel) (by decide +kernel)
set_option maxRecDepth 20000 in
theorem gX3_lay_X1_paint : GoodIn wsX3_lay (wsV RX3 75 RX1 yX1_paint wsX1_paint) := goodIn_app (goodIn_of _ (by decide +kernel)) ggX3_lay_X1_paint
set_option maxRecDepth 20000 in
theorem ggX3_lay_X3_passMinute : GoodIn wsX3_lay wsX3_passMinute := goodIn_r _ [42, 12, 43, 44, 45, 46, 47, 22, 48, 24, 49, 50, 51, 52, 53, 54, 55, 61, 62, 63, 64, 65, 66, 67, 68, 56, 57, 58, 59, 60] (by decide +kernel) (by decide +kernel)
set_option maxRecDepth 20000 in
theorem gX3_lay_X3_passMinute : GoodIn wsX3_lay (wsV RX3 81 RX3 yX3_passMinute wsX3_passMinute) := goodIn_app (goodIn_of _ (by decide +kernel)) ggX3_lay_X3_passMinute
theorem dX3_lay_0 : decode cX3_lay 0 = .ok (.aload_n 0, 1) := by decide +kernel
theorem dX3_lay_1 : decode cX3_lay 1 = .ok (.iload_n 1, 1) := by decide +kernel
theorem dX3_lay_2 : decode cX3_lay 2 = .ok (.invokevirtual 39, 3) := by decide +kernel
theorem dX3_lay_5 : decode cX3_lay 5 = .ok (.astore 6, 2) := by decide +kernel
theorem dX3_lay_7 : decode cX3_lay 7 = .ok (.aload 6, 2) := by decide +kernel
theorem dX3_lay_9 : decode cX3_lay 9 = .ok (.ifnonnull 13, 3) := by decide +kernel
theorem dX3_lay_12 : decode cX3_lay 12 = .ok (.new 43, 3) := by decide +kernel
theorem dX3_lay_15 : decode cX3_lay 15 = .ok (.dup, 1) := by decide +kernel
theorem dX3_lay_16 : decode cX3_lay 16 = .ok (.ldc 45, 2) := by decide +kernel
theorem dX3_lay_18 : decode cX3_lay 18 = .ok (.invokespecial 47, 3) := by decide +kernel
theorem dX3_lay_21 : decode cX3_lay 21 = .ok (.athrow, 1) := by decide +kernel
theorem dX3_lay_22 : decode cX3_lay 22 = .ok (.iload_n 2, 1) := by decide +kernel
theorem dX3_lay_23 : decode cX3_lay 23 = .ok (.invokestatic 48, 3) := by decide +kernel
theorem dX3_lay_26 : decode cX3_lay 26 = .ok (.ifCond .eq 10, 3) := by decide +kernel
theorem dX3_lay_29 : decode cX3_lay 29 = .ok (.iload_n 3, 1) := by decide +kernel
theorem dX3_lay_30 : decode cX3_lay 30 = .ok (.invokestatic 52, 3) := by decide +kernel
theorem dX3_lay_33 : decode cX3_lay 33 = .ok (.ifCond .ne 13, 3) := by decide +kernel
theorem dX3_lay_36 : decode cX3_lay 36 = .ok (.new 55, 3) := by decide +kernel
theorem dX3_lay_39 : decode cX3_lay 39 = .ok (.dup, 1) := by decide +kernel
theorem dX3_lay_40 : decode cX3_lay 40 = .ok (.ldc 57, 2) := by decide +kernel
theorem dX3_lay_42 : decode cX3_lay 42 = .ok (.invokespecial 59, 3) := by decide +kernel
theorem dX3_lay_45 : decode cX3_lay 45 = .ok (.athrow, 1) := by decide +kernel
theorem dX3_lay_46 : decode cX3_lay 46 = .ok (.iload 4, 2) := by decide +kernel
theorem dX3_lay_48 : decode cX3_lay 48 = .ok (.iconst 1, 1) := by decide +kernel
theorem dX3_lay_49 : decode cX3_lay 49 = .ok (.if_icmp .lt 22, 3) := by decide +kernel
theorem dX3_lay_52 : decode cX3_lay 52 = .ok (.iload 4, 2) := by decide +kernel
theorem dX3_lay_54 : decode cX3_lay 54 = .ok (.bipush 8, 2) := by decide +kernel
theorem dX3_lay_56 : decode cX3_lay 56 = .ok (.if_icmp .gt 15, 3) := by decide +kernel
theorem dX3_lay_59 : decode cX3_lay 59 = .ok (.iload 5, 2) := by decide +kernel
theorem dX3_lay_61 : decode cX3_lay 61 = .ok (.ifCond .lt 10, 3) := by decide +kernel
theorem dX3_lay_64 : decode cX3_lay 64 = .ok (.iload 5, 2) := by decide +kernel
theorem dX3_lay_66 : decode cX3_lay 66 = .ok (.bipush 8, 2) := by decide +kernel
theorem dX3_lay_68 : decode cX3_lay 68 = .ok (.if_icmp .lt 13, 3) := by decide +kernel
theorem dX3_lay_71 : decode cX3_lay 71 = .ok (.new 55, 3) := by decide +kernel
theorem dX3_lay_74 : decode cX3_lay 74 = .ok (.dup, 1) := by decide +kernel
theorem dX3_lay_75 : decode cX3_lay 75 = .ok (.ldc 60, 2) := by decide +kernel
theorem dX3_lay_77 : decode cX3_lay 77 = .ok (.invokespecial 59, 3) := by decide +kernel
theorem dX3_lay_80 : decode cX3_lay 80 = .ok (.athrow, 1) := by decide +kernel
theorem dX3_lay_81 : decode cX3_lay 81 = .ok (.aload 6, 2) := by decide +kernel
theorem dX3_lay_83 : decode cX3_lay 83 = .ok (.getfield 62, 3) := by decide +kernel
theorem dX3_lay_86 : decode cX3_lay 86 = .ok (.ifCond .eq 13, 3) := by decide +kernel
theorem dX3_lay_89 : decode cX3_lay 89 = .ok (.new 31, 3) := by decide +kernel
theorem dX3_lay_92 : decode cX3_lay 92 = .ok (.dup, 1) := by decide +kernel
theorem dX3_lay_93 : decode cX3_lay 93 = .ok (.ldc 66, 2) := by decide +kernel
theorem dX3_lay_95 : decode cX3_lay 95 = .ok (.invokespecial 35, 3) := by decide +kernel
theorem dX3_lay_98 : decode cX3_lay 98 = .ok (.athrow, 1) := by decide +kernel
theorem dX3_lay_99 : decode cX3_lay 99 = .ok (.aload 6, 2) := by decide +kernel
theorem dX3_lay_101 : decode cX3_lay 101 = .ok (.iconst 2, 1) := by decide +kernel
theorem dX3_lay_102 : decode cX3_lay 102 = .ok (.invokevirtual 68, 3) := by decide +kernel
theorem dX3_lay_105 : decode cX3_lay 105 = .ok (.istore 7, 2) := by decide +kernel
theorem dX3_lay_107 : decode cX3_lay 107 = .ok (.iload 7, 2) := by decide +kernel
theorem dX3_lay_109 : decode cX3_lay 109 = .ok (.ifCond .eq 17, 3) := by decide +kernel
theorem dX3_lay_112 : decode cX3_lay 112 = .ok (.aload 6, 2) := by decide +kernel
theorem dX3_lay_114 : decode cX3_lay 114 = .ok (.getfield 71, 3) := by decide +kernel
theorem dX3_lay_117 : decode cX3_lay 117 = .ok (.iload_n 2, 1) := by decide +kernel
theorem dX3_lay_118 : decode cX3_lay 118 = .ok (.iload_n 3, 1) := by decide +kernel
theorem dX3_lay_119 : decode cX3_lay 119 = .ok (.iload 4, 2) := by decide +kernel
theorem dX3_lay_121 : decode cX3_lay 121 = .ok (.iload 5, 2) := by decide +kernel
theorem dX3_lay_123 : decode cX3_lay 123 = .ok (.invokevirtual 75, 3) := by decide +kernel
theorem dX3_lay_126 : decode cX3_lay 126 = .ok (.aload_n 0, 1) := by decide +kernel
theorem dX3_lay_127 : decode cX3_lay 127 = .ok (.invokevirtual 81, 3) := by decide +kernel
theorem dX3_lay_130 : decode cX3_lay 130 = .ok (.iload 7, 2) := by decide +kernel
theorem dX3_lay_132 : decode cX3_lay 132 = .ok (.ireturn, 1) := by decide +kernel
set_option maxRecDepth 20000 in
theorem ggX3_twist_X3_caneAt : GoodIn wsX3_twist wsX3_caneAt := goodIn_r _ [11, 12, 45, 46, 47, 48, 49, 50, 51, 52] (by decide +kernel) (by decide +kernel)
set_option maxRecDepth 20000 in
theorem gX3_twist_X3_caneAt : GoodIn wsX3_twist (wsV RX3 39 RX3 yX3_caneAt wsX3_caneAt) := goodIn_app (goodIn_of _ (by decide +kernel)) ggX3_twist_X3_caneAt
set_option maxRecDepth 20000 in
theorem ggX3_twist_X3_isTwist : GoodIn wsX3_twist wsX3_isTwist := goodIn_r _ [15] (by decide +kernel) (by decide +kernel)
set_option maxRecDepth 20000 in
theorem gX3_twist_X3_isTwist : GoodIn wsX3_twist (va_wsS RX3 84 yX3_isTwist wsX3_isTwist) := goodIn_app (goodIn_of _ (by decide +kernel)) ggX3_twist_X3_isTwist
set_option maxRecDepth 20000 in
theorem ggX3_twist_X0_startWorking : GoodIn wsX3_twist wsX0_startWorking := goodIn_r _ [20, 21, 22, 40, 41, 42, 43, 44] (by decide +kernel) (by decide +kernel)
set_option maxRecDepth 20000 in
theorem gX3_twist_X0_startWorking : GoodIn wsX3_twist (wsV RX3 68 RX0 yX0_startWorking wsX0_startWorking) := goodIn_app (goodIn_of _ (by decide +kernel)) ggX3_twist_X0_startWorking
set_option maxRecDepth 20000 in
theorem ggX3_twist_X3_passMinute : GoodIn wsX3_twist wsX3_passMinute := goodIn_r _ [26, 12, 27, 28, 29, 30, 31, 19, 32, 21, 33, 34, 35, 36, 37, 38, 39, 45, 46, 47, 48, 49, 50, 51, 52, 40, 41, 42, 43, 44] (by decide +kernel) (by decide +kernel)
set_option maxRecDepth 20000 in
theorem gX3_twist_X3_passMinute : GoodIn wsX3_twist (wsV RX3 81 RX3 yX3_passMinute wsX3_passMinute) := goodIn_app (goodIn_of _ (by decide +kernel)) ggX3_twist_X3_passMinute
theorem dX3_twist_0 : decode cX3_twist 0 = .ok (.aload_n 0, 1) := by decide +kernel
theorem dX3_twist_1 : decode cX3_twist 1 = .ok (.iload_n 1, 1) := by decide +kernel
theorem dX3_twist_2 : decode cX3_twist 2 = .ok (.invokevirtual 39, 3) := by decide +kernel
theorem dX3_twist_5 : decode cX3_twist 5 = .ok (.astore_n 3, 1) := by decide +kernel
theorem dX3_twist_6 : decode cX3_twist 6 = .ok (.aload_n 3, 1) := by decide +kernel
theorem dX3_twist_7 : decode cX3_twist 7 = .ok (.ifnonnull 13, 3) := by decide +kernel
theorem dX3_twist_10 : decode cX3_twist 10 = .ok (.new 43, 3) := by decide +kernel
theorem dX3_twist_13 : decode cX3_twist 13 = .ok (.dup, 1) := by decide +kernel
theorem dX3_twist_14 : decode cX3_twist 14 = .ok (.ldc 45, 2) := by decide +kernel
theorem dX3_twist_16 : decode cX3_twist 16 = .ok (.invokespecial 47, 3) := by decide +kernel
theorem dX3_twist_19 : decode cX3_twist 19 = .ok (.athrow, 1) := by decide +kernel
theorem dX3_twist_20 : decode cX3_twist 20 = .ok (.iload_n 2, 1) := by decide +kernel
theorem dX3_twist_21 : decode cX3_twist 21 = .ok (.ifCond .eq 10, 3) := by decide +kernel
theorem dX3_twist_24 : decode cX3_twist 24 = .ok (.iload_n 2, 1) := by decide +kernel
theorem dX3_twist_25 : decode cX3_twist 25 = .ok (.invokestatic 84, 3) := by decide +kernel
theorem dX3_twist_28 : decode cX3_twist 28 = .ok (.ifCond .ne 13, 3) := by decide +kernel
theorem dX3_twist_31 : decode cX3_twist 31 = .ok (.new 55, 3) := by decide +kernel
theorem dX3_twist_34 : decode cX3_twist 34 = .ok (.dup, 1) := by decide +kernel
theorem dX3_twist_35 : decode cX3_twist 35 = .ok (.ldc 87, 2) := by decide +kernel
theorem dX3_twist_37 : decode cX3_twist 37 = .ok (.invokespecial 59, 3) := by decide +kernel
theorem dX3_twist_40 : decode cX3_twist 40 = .ok (.athrow, 1) := by decide +kernel
theorem dX3_twist_41 : decode cX3_twist 41 = .ok (.aload_n 3, 1) := by decide +kernel
theorem dX3_twist_42 : decode cX3_twist 42 = .ok (.getfield 62, 3) := by decide +kernel
theorem dX3_twist_45 : decode cX3_twist 45 = .ok (.ifCond .ne 15, 3) := by decide +kernel
theorem dX3_twist_48 : decode cX3_twist 48 = .ok (.aload_n 3, 1) := by decide +kernel
theorem dX3_twist_49 : decode cX3_twist 49 = .ok (.getfield 89, 3) := by decide +kernel
theorem dX3_twist_52 : decode cX3_twist 52 = .ok (.iload_n 2, 1) := by decide +kernel
theorem dX3_twist_53 : decode cX3_twist 53 = .ok (.iadd, 1) := by decide +kernel
theorem dX3_twist_54 : decode cX3_twist 54 = .ok (.invokestatic 84, 3) := by decide +kernel
theorem dX3_twist_57 : decode cX3_twist 57 = .ok (.ifCond .ne 13, 3) := by decide +kernel
theorem dX3_twist_60 : decode cX3_twist 60 = .ok (.new 31, 3) := by decide +kernel
theorem dX3_twist_63 : decode cX3_twist 63 = .ok (.dup, 1) := by decide +kernel
theorem dX3_twist_64 : decode cX3_twist 64 = .ok (.ldc 92, 2) := by decide +kernel
theorem dX3_twist_66 : decode cX3_twist 66 = .ok (.invokespecial 35, 3) := by decide +kernel
theorem dX3_twist_69 : decode cX3_twist 69 = .ok (.athrow, 1) := by decide +kernel
theorem dX3_twist_70 : decode cX3_twist 70 = .ok (.aload_n 3, 1) := by decide +kernel
theorem dX3_twist_71 : decode cX3_twist 71 = .ok (.iconst 4, 1) := by decide +kernel
theorem dX3_twist_72 : decode cX3_twist 72 = .ok (.invokevirtual 68, 3) := by decide +kernel
theorem dX3_twist_75 : decode cX3_twist 75 = .ok (.istore 4, 2) := by decide +kernel
theorem dX3_twist_77 : decode cX3_twist 77 = .ok (.iload 4, 2) := by decide +kernel
theorem dX3_twist_79 : decode cX3_twist 79 = .ok (.ifCond .eq 13, 3) := by decide +kernel
theorem dX3_twist_82 : decode cX3_twist 82 = .ok (.aload_n 3, 1) := by decide +kernel
theorem dX3_twist_83 : decode cX3_twist 83 = .ok (.dup, 1) := by decide +kernel
theorem dX3_twist_84 : decode cX3_twist 84 = .ok (.getfield 89, 3) := by decide +kernel
theorem dX3_twist_87 : decode cX3_twist 87 = .ok (.iload_n 2, 1) := by decide +kernel
theorem dX3_twist_88 : decode cX3_twist 88 = .ok (.iadd, 1) := by decide +kernel
theorem dX3_twist_89 : decode cX3_twist 89 = .ok (.putfield 89, 3) := by decide +kernel
theorem dX3_twist_92 : decode cX3_twist 92 = .ok (.aload_n 0, 1) := by decide +kernel
theorem dX3_twist_93 : decode cX3_twist 93 = .ok (.invokevirtual 81, 3) := by decide +kernel
theorem dX3_twist_96 : decode cX3_twist 96 = .ok (.iload 4, 2) := by decide +kernel
theorem dX3_twist_98 : decode cX3_twist 98 = .ok (.ireturn, 1) := by decide +kernel
set_option maxRecDepth 20000 in
theorem ggX3_pull_X3_caneAt : GoodIn wsX3_pull wsX3_caneAt := goodIn_r _ [9, 10, 46, 47, 48, 49, 50, 51, 52, 53] (by decide +kernel) (by decide +kernel)
set_option maxRecDepth 20000 in
theorem gX3_pull_X3_caneAt : GoodIn wsX3_pull (wsV RX3 39 RX3 yX3_caneAt wsX3_caneAt) := goodIn_app (goodIn_of _ (by decide +kernel)) ggX3_pull_X3_caneAt
set_option maxRecDepth 20000 in
theorem ggX3_pull_X0_startWorking : GoodIn wsX3_pull wsX0_startWorking := goodIn_r _ [15, 16, 17, 41, 42, 43, 44, 45] (by decide +kernel) (by decide +kernel)
set_option maxRecDepth 20000 in
theorem gX3_pull_X0_startWorking : GoodIn wsX3_pull (wsV RX3 68 RX0 yX0_startWorking wsX0_startWorking) := goodIn_app (goodIn_of _ (by decide +kernel)) ggX3_pull_X0_startWorking
set_option maxRecDepth 20000 in
theorem ggX3_pull_X0_stretch : GoodIn wsX3_pull wsX0_stretch := goodIn_r _ [21, 22, 23, 24, 25, 26, 27, 41, 42, 43, 44, 45] (by decide +kernel) (by decide +kernel)
set_option maxRecDepth 20000 in
theorem gX3_pull_X0_stretch : GoodIn wsX3_pull (wsV RX3 94 RX0 yX0_stretch wsX0_stretch) := goodIn_app (goodIn_of _ (by decide +kernel)) ggX3_pull_X0_stretch
set_option maxRecDepth 20000 in
theorem ggX3_pull_X3_passMinute : GoodIn wsX3_pull wsX3_passMinute := goodIn_r _ [31, 10, 32, 33, 34, 35, 36, 14, 37, 16, 23, 24, 25, 26, 38, 39, 40, 46, 47, 48, 49, 50, 51, 52, 53, 41, 42, 43, 44, 45] (by decide +kernel) (by decide +kernel)
set_option maxRecDepth 20000 in
theorem gX3_pull_X3_passMinute : GoodIn wsX3_pull (wsV RX3 81 RX3 yX3_passMinute wsX3_passMinute) := goodIn_app (goodIn_of _ (by decide +kernel)) ggX3_pull_X3_passMinute
theorem dX3_pull_0 : decode cX3_pull 0 = .ok (.aload_n 0, 1) := by decide +kernel
theorem dX3_pull_1 : decode cX3_pull 1 = .ok (.iload_n 1, 1) := by decide +kernel
theorem dX3_pull_2 : decode cX3_pull 2 = .ok (.invokevirtual 39, 3) := by decide +kernel
theorem dX3_pull_5 : decode cX3_pull 5 = .ok (.astore_n 2, 1) := by decide +kernel
theorem dX3_pull_6 : decode cX3_pull 6 = .ok (.aload_n 2, 1) := by decide +kernel
theorem dX3_pull_7 : decode cX3_pull 7 = .ok (.ifnonnull 13, 3) := by decide +kernel
theorem dX3_pull_10 : decode cX3_pull 10 = .ok (.new 43, 3) := by decide +kernel
theorem dX3_pull_13 : decode cX3_pull 13 = .ok (.dup, 1) := by decide +kernel
theorem dX3_pull_14 : decode cX3_pull 14 = .ok (.ldc 45, 2) := by decide +kernel
theorem dX3_pull_16 : decode cX3_pull 16 = .ok (.invokespecial 47, 3) := by decide +kernel
theorem dX3_pull_19 : decode cX3_pull 19 = .ok (.athrow, 1) := by decide +kernel
theorem dX3_pull_20 : decode cX3_pull 20 = .ok (.aload_n 2, 1) := by decide +kernel
theorem dX3_pull_21 : decode cX3_pull 21 = .ok (.getfield 62, 3) := by decide +kernel
theorem dX3_pull_24 : decode cX3_pull 24 = .ok (.ifCond .eq 13, 3) := by decide +kernel
theorem dX3_pull_27 : decode cX3_pull 27 = .ok (.new 31, 3) := by decide +kernel
theorem dX3_pull_30 : decode cX3_pull 30 = .ok (.dup, 1) := by decide +kernel
theorem dX3_pull_31 : decode cX3_pull 31 = .ok (.ldc 66, 2) := by decide +kernel
theorem dX3_pull_33 : decode cX3_pull 33 = .ok (.invokespecial 35, 3) := by decide +kernel
theorem dX3_pull_36 : decode cX3_pull 36 = .ok (.athrow, 1) := by decide +kernel
theorem dX3_pull_37 : decode cX3_pull 37 = .ok (.aload_n 2, 1) := by decide +kernel
theorem dX3_pull_38 : decode cX3_pull 38 = .ok (.bipush 6, 2) := by decide +kernel
theorem dX3_pull_40 : decode cX3_pull 40 = .ok (.invokevirtual 68, 3) := by decide +kernel
theorem dX3_pull_43 : decode cX3_pull 43 = .ok (.istore_n 3, 1) := by decide +kernel
theorem dX3_pull_44 : decode cX3_pull 44 = .ok (.iload_n 3, 1) := by decide +kernel
theorem dX3_pull_45 : decode cX3_pull 45 = .ok (.ifCond .eq 7, 3) := by decide +kernel
theorem dX3_pull_48 : decode cX3_pull 48 = .ok (.aload_n 2, 1) := by decide +kernel
theorem dX3_pull_49 : decode cX3_pull 49 = .ok (.invokevirtual 94, 3) := by decide +kernel
theorem dX3_pull_52 : decode cX3_pull 52 = .ok (.aload_n 0, 1) := by decide +kernel
theorem dX3_pull_53 : decode cX3_pull 53 = .ok (.invokevirtual 81, 3) := by decide +kernel
theorem dX3_pull_56 : decode cX3_pull 56 = .ok (.iload_n 3, 1) := by decide +kernel
theorem dX3_pull_57 : decode cX3_pull 57 = .ok (.ireturn, 1) := by decide +kernel
set_option maxRecDepth 20000 in
theorem ggX3_furnace_X3_caneAt : GoodIn wsX3_furnace wsX3_caneAt := goodIn_r _ [8, 9, 10, 11, 12, 13, 14, 15, 16, 17] (by decide +kernel) (by decide +kernel)
set_option maxRecDepth 20000 in
theorem gX3_furnace_X3_caneAt : GoodIn wsX3_furnace (wsV RX3 39 RX3 yX3_caneAt wsX3_caneAt) := goodIn_app (goodIn_of _ (by decide +kernel)) ggX3_furnace_X3_caneAt
theorem dX3_furnace_0 : decode cX3_furnace 0 = .ok (.iload_n 1, 1) := by decide +kernel
theorem dX3_furnace_1 : decode cX3_furnace 1 = .ok (.iconst (-1), 1) := by decide +kernel
theorem dX3_furnace_2 : decode cX3_furnace 2 = .ok (.if_icmp .eq 21, 3) := by decide +kernel
theorem dX3_furnace_5 : decode cX3_furnace 5 = .ok (.aload_n 0, 1) := by decide +kernel
theorem dX3_furnace_6 : decode cX3_furnace 6 = .ok (.iload_n 1, 1) := by decide +kernel
theorem dX3_furnace_7 : decode cX3_furnace 7 = .ok (.invokevirtual 39, 3) := by decide +kernel
theorem dX3_furnace_10 : decode cX3_furnace 10 = .ok (.ifnonnull 13, 3) := by decide +kernel
theorem dX3_furnace_13 : decode cX3_furnace 13 = .ok (.new 43, 3) := by decide +kernel
theorem dX3_furnace_16 : decode cX3_furnace 16 = .ok (.dup, 1) := by decide +kernel
theorem dX3_furnace_17 : decode cX3_furnace 17 = .ok (.ldc 45, 2) := by decide +kernel
theorem dX3_furnace_19 : decode cX3_furnace 19 = .ok (.invokespecial 47, 3) := by decide +kernel
theorem dX3_furnace_22 : decode cX3_furnace 22 = .ok (.athrow, 1) := by decide +kernel
theorem dX3_furnace_23 : decode cX3_furnace 23 = .ok (.aload_n 0, 1) := by decide +kernel
theorem dX3_furnace_24 : decode cX3_furnace 24 = .ok (.getfield 24, 3) := by decide +kernel
theorem dX3_furnace_27 : decode cX3_furnace 27 = .ok (.istore_n 2, 1) := by decide +kernel
theorem dX3_furnace_28 : decode cX3_furnace 28 = .ok (.aload_n 0, 1) := by decide +kernel
theorem dX3_furnace_29 : decode cX3_furnace 29 = .ok (.iload_n 1, 1) := by decide +kernel
theorem dX3_furnace_30 : decode cX3_furnace 30 = .ok (.putfield 24, 3) := by decide +kernel
theorem dX3_furnace_33 : decode cX3_furnace 33 = .ok (.iload_n 2, 1) := by decide +kernel
theorem dX3_furnace_34 : decode cX3_furnace 34 = .ok (.ireturn, 1) := by decide +kernel
set_option maxRecDepth 20000 in
theorem ggX3_rest_X3_passMinute : GoodIn wsX3_rest wsX3_passMinute := goodIn_r _ [7, 8, 9, 10, 11, 12, 13, 14, 15, 16, 17, 18, 19, 20, 21, 22, 23, 28, 29, 30, 31, 32, 33, 34, 35, 36, 37, 38, 39, 40] (by decide +kernel) (by decide +kernel)
set_option maxRecDepth 20000 in
theorem gX3_rest_X3_passMinute : GoodIn wsX3_rest (wsV RX3 81 RX3 yX3_passMinute wsX3_passMinute) := goodIn_app (goodIn_of _ (by decide +kernel)) ggX3_rest_X3_passMinute
set_option maxRecDepth 20000 in
theorem ggX3_rest_X3_heatOfAll : GoodIn wsX3_rest wsX3_heatOfAll := goodIn_r _ [27, 8, 28, 29, 30, 31, 32, 33, 34, 35, 36, 37, 38, 39, 40] (by decide +kernel) (by decide +kernel)
set_option maxRecDepth 20000 in
theorem gX3_rest_X3_heatOfAll : GoodIn wsX3_rest (wsV RX3 99 RX3 yX3_heatOfAll wsX3_heatOfAll) := goodIn_app (goodIn_of _ (by decide +kernel)) ggX3_rest_X3_heatOfAll
theorem dX3_rest_0 : decode cX3_rest 0 = .ok (.iload_n 1, 1) := by decide +kernel
theorem dX3_rest_1 : decode cX3_rest 1 = .ok (.iconst 1, 1) := by decide +kernel
theorem dX3_rest_2 : decode cX3_rest 2 = .ok (.if_icmp .lt 9, 3) := by decide +kernel
theorem dX3_rest_5 : decode cX3_rest 5 = .ok (.iload_n 1, 1) := by decide +kernel
theorem dX3_rest_6 : decode cX3_rest 6 = .ok (.bipush 60, 2) := by decide +kernel
theorem dX3_rest_8 : decode cX3_rest 8 = .ok (.if_icmp .le 13, 3) := by decide +kernel
theorem dX3_rest_11 : decode cX3_rest 11 = .ok (.new 55, 3) := by decide +kernel
theorem dX3_rest_14 : decode cX3_rest 14 = .ok (.dup, 1) := by decide +kernel
theorem dX3_rest_15 : decode cX3_rest 15 = .ok (.ldc 97, 2) := by decide +kernel
theorem dX3_rest_17 : decode cX3_rest 17 = .ok (.invokespecial 59, 3) := by decide +kernel
theorem dX3_rest_20 : decode cX3_rest 20 = .ok (.athrow, 1) := by decide +kernel
theorem dX3_rest_21 : decode cX3_rest 21 = .ok (.iconst 0, 1) := by decide +kernel
theorem dX3_rest_22 : decode cX3_rest 22 = .ok (.istore_n 2, 1) := by decide +kernel
theorem dX3_rest_23 : decode cX3_rest 23 = .ok (.iload_n 2, 1) := by decide +kernel
theorem dX3_rest_24 : decode cX3_rest 24 = .ok (.iload_n 1, 1) := by decide +kernel
theorem dX3_rest_25 : decode cX3_rest 25 = .ok (.if_icmp .ge 13, 3) := by decide +kernel
theorem dX3_rest_28 : decode cX3_rest 28 = .ok (.aload_n 0, 1) := by decide +kernel
theorem dX3_rest_29 : decode cX3_rest 29 = .ok (.invokevirtual 81, 3) := by decide +kernel
theorem dX3_rest_32 : decode cX3_rest 32 = .ok (.iinc 2 1, 3) := by decide +kernel
theorem dX3_rest_35 : decode cX3_rest 35 = .ok (.goto (-12), 3) := by decide +kernel
theorem dX3_rest_38 : decode cX3_rest 38 = .ok (.aload_n 0, 1) := by decide +kernel
theorem dX3_rest_39 : decode cX3_rest 39 = .ok (.invokevirtual 99, 3) := by decide +kernel
theorem dX3_rest_42 : decode cX3_rest 42 = .ok (.ireturn, 1) := by decide +kernel
set_option maxRecDepth 20000 in
theorem ggX3_cut_X3_caneAt : GoodIn wsX3_cut wsX3_caneAt := goodIn_r _ [14, 15, 73, 74, 75, 76, 77, 78, 79, 80] (by decide +kernel) (by decide +kernel)
set_option maxRecDepth 20000 in
theorem gX3_cut_X3_caneAt : GoodIn wsX3_cut (wsV RX3 39 RX3 yX3_caneAt wsX3_caneAt) := goodIn_app (goodIn_of _ (by decide +kernel)) ggX3_cut_X3_caneAt
set_option maxRecDepth 20000 in
theorem ggX3_cut_X0_turnAt : GoodIn wsX3_cut wsX0_turnAt := goodIn_r _ [20, 21, 68, 69, 70, 71, 72] (by decide +kernel) (by decide +kernel)
set_option maxRecDepth 20000 in
theorem gX3_cut_X0_turnAt : GoodIn wsX3_cut (wsV RX3 116 RX0 yX0_turnAt wsX0_turnAt) := goodIn_app (goodIn_of _ (by decide +kernel)) ggX3_cut_X0_turnAt
set_option maxRecDepth 20000 in
theorem ggX3_cut_X1_turned : GoodIn wsX3_cut wsX1_turned := goodIn_r _ [26, 27, 28, 25, 29, 30, 31, 32, 33, 34, 35, 36, 37, 38, 39, 40, 41, 42, 43, 44, 45, 46, 47, 86] (by decide +kernel) (by decide +kernel)
set_option maxRecDepth 20000 in
theorem gX3_cut_X1_turned : GoodIn wsX3_cut (wsV RX3 120 RX1 yX1_turned wsX1_turned) := goodIn_app (goodIn_of _ (by decide +kernel)) ggX3_cut_X1_turned
set_option maxRecDepth 20000 in
theorem ggX3_cut_X3_kindOf : GoodIn wsX3_cut wsX3_kindOf := goodIn_r _ [51, 6, 5, 52, 53, 54, 25, 55, 56, 57, 58, 59, 29, 37, 38, 39, 40, 41, 42, 43, 44, 45, 46, 47, 73, 74, 75, 76, 77, 78, 79, 80, 81, 82, 83, 84, 85, 86] (by decide +kernel) (by decide +kernel)
set_option maxRecDepth 20000 in
theorem gX3_cut_X3_kindOf : GoodIn wsX3_cut (wsV RX3 124 RX3 yX3_kindOf wsX3_kindOf) := goodIn_app (goodIn_of _ (by decide +kernel)) ggX3_cut_X3_kindOf
set_option maxRecDepth 20000 in
theorem ggX3_cut_X2_init : GoodIn wsX3_cut wsX2_init := goodIn_r _ [62, 63, 34, 35, 64, 65, 66, 67, 81, 82, 83, 84, 85] (by decide +kernel) (by decide +kernel)
set_option maxRecDepth 20000 in
theorem gX3_cut_X2_init : GoodIn wsX3_cut (wsX2_init) := ggX3_cut_X2_init
theorem dX3_cut_0 : decode cX3_cut 0 = .ok (.aload_n 0, 1) := by decide +kernel
theorem dX3_cut_1 : decode cX3_cut 1 = .ok (.iload_n 1, 1) := by decide +kernel
theorem dX3_cut_2 : decode cX3_cut 2 = .ok (.invokevirtual 39, 3) := by decide +kernel
theorem dX3_cut_5 : decode cX3_cut 5 = .ok (.astore_n 2, 1) := by decide +kernel
theorem dX3_cut_6 : decode cX3_cut 6 = .ok (.aload_n 2, 1) := by decide +kernel
theorem dX3_cut_7 : decode cX3_cut 7 = .ok (.ifnonnull 13, 3) := by decide +kernel
theorem dX3_cut_10 : decode cX3_cut 10 = .ok (.new 43, 3) := by decide +kernel
theorem dX3_cut_13 : decode cX3_cut 13 = .ok (.dup, 1) := by decide +kernel
theorem dX3_cut_14 : decode cX3_cut 14 = .ok (.ldc 45, 2) := by decide +kernel
theorem dX3_cut_16 : decode cX3_cut 16 = .ok (.invokespecial 47, 3) := by decide +kernel
theorem dX3_cut_19 : decode cX3_cut 19 = .ok (.athrow, 1) := by decide +kernel
theorem dX3_cut_20 : decode cX3_cut 20 = .ok (.aload_n 2, 1) := by decide +kernel
theorem dX3_cut_21 : decode cX3_cut 21 = .ok (.getfield 103, 3) := by decide +kernel
theorem dX3_cut_24 : decode cX3_cut 24 = .ok (.ifCond .eq 11, 3) := by decide +kernel
theorem dX3_cut_27 : decode cX3_cut 27 = .ok (.aload_n 2, 1) := by decide +kernel
theorem dX3_cut_28 : decode cX3_cut 28 = .ok (.getfield 106, 3) := by decide +kernel
theorem dX3_cut_31 : decode cX3_cut 31 = .ok (.iconst 3, 1) := by decide +kernel
theorem dX3_cut_32 : decode cX3_cut 32 = .ok (.if_icmp .le 13, 3) := by decide +kernel
theorem dX3_cut_35 : decode cX3_cut 35 = .ok (.new 31, 3) := by decide +kernel
theorem dX3_cut_38 : decode cX3_cut 38 = .ok (.dup, 1) := by decide +kernel
theorem dX3_cut_39 : decode cX3_cut 39 = .ok (.ldc 109, 2) := by decide +kernel
theorem dX3_cut_41 : decode cX3_cut 41 = .ok (.invokespecial 35, 3) := by decide +kernel
theorem dX3_cut_44 : decode cX3_cut 44 = .ok (.athrow, 1) := by decide +kernel
theorem dX3_cut_45 : decode cX3_cut 45 = .ok (.aload_n 0, 1) := by decide +kernel
theorem dX3_cut_46 : decode cX3_cut 46 = .ok (.getfield 111, 3) := by decide +kernel
theorem dX3_cut_49 : decode cX3_cut 49 = .ok (.bipush 60, 2) := by decide +kernel
theorem dX3_cut_51 : decode cX3_cut 51 = .ok (.if_icmp .lt 13, 3) := by decide +kernel
theorem dX3_cut_54 : decode cX3_cut 54 = .ok (.new 31, 3) := by decide +kernel
theorem dX3_cut_57 : decode cX3_cut 57 = .ok (.dup, 1) := by decide +kernel
theorem dX3_cut_58 : decode cX3_cut 58 = .ok (.ldc 114, 2) := by decide +kernel
theorem dX3_cut_60 : decode cX3_cut 60 = .ok (.invokespecial 35, 3) := by decide +kernel
theorem dX3_cut_63 : decode cX3_cut 63 = .ok (.athrow, 1) := by decide +kernel
theorem dX3_cut_64 : decode cX3_cut 64 = .ok (.aload_n 0, 1) := by decide +kernel
theorem dX3_cut_65 : decode cX3_cut 65 = .ok (.getfield 111, 3) := by decide +kernel
theorem dX3_cut_68 : decode cX3_cut 68 = .ok (.istore_n 3, 1) := by decide +kernel
theorem dX3_cut_69 : decode cX3_cut 69 = .ok (.aload_n 2, 1) := by decide +kernel
theorem dX3_cut_70 : decode cX3_cut 70 = .ok (.getfield 71, 3) := by decide +kernel
theorem dX3_cut_73 : decode cX3_cut 73 = .ok (.aload_n 2, 1) := by decide +kernel
theorem dX3_cut_74 : decode cX3_cut 74 = .ok (.aload_n 2, 1) := by decide +kernel
theorem dX3_cut_75 : decode cX3_cut 75 = .ok (.getfield 103, 3) := by decide +kernel
theorem dX3_cut_78 : decode cX3_cut 78 = .ok (.iconst 1, 1) := by decide +kernel
theorem dX3_cut_79 : decode cX3_cut 79 = .ok (.isub, 1) := by decide +kernel
theorem dX3_cut_80 : decode cX3_cut 80 = .ok (.invokevirtual 116, 3) := by decide +kernel
theorem dX3_cut_83 : decode cX3_cut 83 = .ok (.invokevirtual 120, 3) := by decide +kernel
theorem dX3_cut_86 : decode cX3_cut 86 = .ok (.astore 4, 2) := by decide +kernel
theorem dX3_cut_88 : decode cX3_cut 88 = .ok (.aload_n 0, 1) := by decide +kernel
theorem dX3_cut_89 : decode cX3_cut 89 = .ok (.getfield 17, 3) := by decide +kernel
theorem dX3_cut_92 : decode cX3_cut 92 = .ok (.iload_n 3, 1) := by decide +kernel
theorem dX3_cut_93 : decode cX3_cut 93 = .ok (.new 15, 3) := by decide +kernel
theorem dX3_cut_96 : decode cX3_cut 96 = .ok (.dup, 1) := by decide +kernel
theorem dX3_cut_97 : decode cX3_cut 97 = .ok (.iload_n 3, 1) := by decide +kernel
theorem dX3_cut_98 : decode cX3_cut 98 = .ok (.aload 4, 2) := by decide +kernel
theorem dX3_cut_100 : decode cX3_cut 100 = .ok (.aload_n 0, 1) := by decide +kernel
theorem dX3_cut_101 : decode cX3_cut 101 = .ok (.aload 4, 2) := by decide +kernel
theorem dX3_cut_103 : decode cX3_cut 103 = .ok (.invokevirtual 124, 3) := by decide +kernel
theorem dX3_cut_106 : decode cX3_cut 106 = .ok (.invokespecial 128, 3) := by decide +kernel
theorem dX3_cut_109 : decode cX3_cut 109 = .ok (.aastore, 1) := by decide +kernel
theorem dX3_cut_110 : decode cX3_cut 110 = .ok (.aload_n 0, 1) := by decide +kernel
theorem dX3_cut_111 : decode cX3_cut 111 = .ok (.dup, 1) := by decide +kernel
theorem dX3_cut_112 : decode cX3_cut 112 = .ok (.getfield 111, 3) := by decide +kernel
theorem dX3_cut_115 : decode cX3_cut 115 = .ok (.iconst 1, 1) := by decide +kernel
theorem dX3_cut_116 : decode cX3_cut 116 = .ok (.iadd, 1) := by decide +kernel
theorem dX3_cut_117 : decode cX3_cut 117 = .ok (.putfield 111, 3) := by decide +kernel
theorem dX3_cut_120 : decode cX3_cut 120 = .ok (.aload_n 2, 1) := by decide +kernel
theorem dX3_cut_121 : decode cX3_cut 121 = .ok (.dup, 1) := by decide +kernel
theorem dX3_cut_122 : decode cX3_cut 122 = .ok (.getfield 103, 3) := by decide +kernel
theorem dX3_cut_125 : decode cX3_cut 125 = .ok (.iconst 1, 1) := by decide +kernel
theorem dX3_cut_126 : decode cX3_cut 126 = .ok (.isub, 1) := by decide +kernel
theorem dX3_cut_127 : decode cX3_cut 127 = .ok (.putfield 103, 3) := by decide +kernel
theorem dX3_cut_130 : decode cX3_cut 130 = .ok (.iload_n 3, 1) := by decide +kernel
theorem dX3_cut_131 : decode cX3_cut 131 = .ok (.ireturn, 1) := by decide +kernel
set_option maxRecDepth 20000 in
theorem ggX3_cane_X3_caneAt : GoodIn wsX3_cane wsX3_caneAt := goodIn_r _ [8, 9, 19, 20, 21, 22, 23, 24, 25, 26] (by decide +kernel) (by decide +kernel)
set_option maxRecDepth 20000 in
theorem gX3_cane_X3_caneAt : GoodIn wsX3_cane (wsV RX3 39 RX3 yX3_caneAt wsX3_caneAt) := goodIn_app (goodIn_of _ (by decide +kernel)) ggX3_cane_X3_caneAt
set_option maxRecDepth 20000 in
theorem ggX3_cane_X0_tell : GoodIn wsX3_cane wsX0_tell := goodIn_r _ [14, 15, 16, 17, 18, 27, 28, 29, 30, 31] (by decide +kernel) (by decide +kernel)
set_option maxRecDepth 20000 in
theorem gX3_cane_X0_tell : GoodIn wsX3_cane (wsV RX3 133 RX0 yX0_tell wsX0_tell) := goodIn_app (goodIn_of _ (by decide +kernel)) ggX3_cane_X0_tell
theorem dX3_cane_0 : decode cX3_cane 0 = .ok (.aload_n 0, 1) := by decide +kernel
theorem dX3_cane_1 : decode cX3_cane 1 = .ok (.iload_n 1, 1) := by decide +kernel
theorem dX3_cane_2 : decode cX3_cane 2 = .ok (.invokevirtual 39, 3) := by decide +kernel
theorem dX3_cane_5 : decode cX3_cane 5 = .ok (.astore_n 3, 1) := by decide +kernel
theorem dX3_cane_6 : decode cX3_cane 6 = .ok (.aload_n 3, 1) := by decide +kernel
theorem dX3_cane_7 : decode cX3_cane 7 = .ok (.ifnull 12, 3) := by decide +kernel
theorem dX3_cane_10 : decode cX3_cane 10 = .ok (.iload_n 2, 1) := by decide +kernel
theorem dX3_cane_11 : decode cX3_cane 11 = .ok (.ifCond .lt 8, 3) := by decide +kernel
theorem dX3_cane_14 : decode cX3_cane 14 = .ok (.iload_n 2, 1) := by decide +kernel
theorem dX3_cane_15 : decode cX3_cane 15 = .ok (.iconst 5, 1) := by decide +kernel
theorem dX3_cane_16 : decode cX3_cane 16 = .ok (.if_icmp .lt 13, 3) := by decide +kernel
theorem dX3_cane_19 : decode cX3_cane 19 = .ok (.new 43, 3) := by decide +kernel
theorem dX3_cane_22 : decode cX3_cane 22 = .ok (.dup, 1) := by decide +kernel
theorem dX3_cane_23 : decode cX3_cane 23 = .ok (.ldc 131, 2) := by decide +kernel
theorem dX3_cane_25 : decode cX3_cane 25 = .ok (.invokespecial 47, 3) := by decide +kernel
theorem dX3_cane_28 : decode cX3_cane 28 = .ok (.athrow, 1) := by decide +kernel
theorem dX3_cane_29 : decode cX3_cane 29 = .ok (.aload_n 3, 1) := by decide +kernel
theorem dX3_cane_30 : decode cX3_cane 30 = .ok (.iload_n 2, 1) := by decide +kernel
theorem dX3_cane_31 : decode cX3_cane 31 = .ok (.iload_n 1, 1) := by decide +kernel
theorem dX3_cane_32 : decode cX3_cane 32 = .ok (.aload_n 0, 1) := by decide +kernel
theorem dX3_cane_33 : decode cX3_cane 33 = .ok (.getfield 24, 3) := by decide +kernel
theorem dX3_cane_36 : decode cX3_cane 36 = .ok (.if_icmp .ne 7, 3) := by decide +kernel
theorem dX3_cane_39 : decode cX3_cane 39 = .ok (.iconst 1, 1) := by decide +kernel
theorem dX3_cane_40 : decode cX3_cane 40 = .ok (.goto 4, 3) := by decide +kernel
theorem dX3_cane_43 : decode cX3_cane 43 = .ok (.iconst 0, 1) := by decide +kernel
theorem dX3_cane_44 : decode cX3_cane 44 = .ok (.invokevirtual 133, 3) := by decide +kernel
theorem dX3_cane_47 : decode cX3_cane 47 = .ok (.ireturn, 1) := by decide +kernel
set_option maxRecDepth 20000 in
theorem ggX3_shows_X3_caneAt : GoodIn wsX3_shows wsX3_caneAt := goodIn_r _ [7, 8, 44, 45, 46, 47, 48, 49, 50, 51] (by decide +kernel) (by decide +kernel)
set_option maxRecDepth 20000 in
theorem gX3_shows_X3_caneAt : GoodIn wsX3_shows (wsV RX3 39 RX3 yX3_caneAt wsX3_caneAt) := goodIn_app (goodIn_of _ (by decide +kernel)) ggX3_shows_X3_caneAt
set_option maxRecDepth 20000 in
theorem ggX3_shows_X0_hasPlace : GoodIn wsX3_shows wsX0_hasPlace := goodIn_r _ [13, 14, 39, 40, 41, 42, 43] (by decide +kernel) (by decide +kernel)
set_option maxRecDepth 20000 in
theorem gX3_shows_X0_hasPlace : GoodIn wsX3_shows (wsV RX3 137 RX0 yX0_hasPlace wsX0_hasPlace) := goodIn_app (goodIn_of _ (by decide +kernel)) ggX3_shows_X0_hasPlace
set_option maxRecDepth 20000 in
theorem ggX3_shows_X3_isRing : GoodIn wsX3_shows wsX3_isRing := goodIn_r _ [17] (by decide +kernel) (by decide +kernel)
set_option maxRecDepth 20000 in
theorem gX3_shows_X3_isRing : GoodIn wsX3_shows (va_wsS RX3 48 yX3_isRing wsX3_isRing) := goodIn_app (goodIn_of _ (by decide +kernel)) ggX3_shows_X3_isRing
set_option maxRecDepth 20000 in
theorem ggX3_shows_X3_isSector : GoodIn wsX3_shows wsX3_isSector := goodIn_r _ [20] (by decide +kernel) (by decide +kernel)
set_option maxRecDepth 20000 in
theorem gX3_shows_X3_isSector : GoodIn wsX3_shows (va_wsS RX3 52 yX3_isSector wsX3_isSector) := goodIn_app (goodIn_of _ (by decide +kernel)) ggX3_shows_X3_isSector
set_option maxRecDepth 20000 in
theorem ggX3_shows_X0_turnAt : GoodIn wsX3_shows wsX0_turnAt := goodIn_r _ [24, 25, 39, 40, 41, 42, 43] (by decide +kernel) (by decide +kernel)
set_option maxRecDepth 20000 in
theorem gX3_shows_X0_turnAt : GoodIn wsX3_shows (wsV RX3 116 RX0 yX0_turnAt wsX0_turnAt) := goodIn_app (goodIn_of _ (by decide +kernel)) ggX3_shows_X0_turnAt
set_option maxRecDepth 20000 in
theorem ggX3_shows_X1_colourAt : GoodIn wsX3_shows wsX1_colourAt := goodIn_r _ [30, 31, 32, 33, 29, 34, 35, 36, 37, 38, 52] (by decide +kernel) (by decide +kernel)
set_option maxRecDepth 20000 in
theorem gX3_shows_X1_colourAt : GoodIn wsX3_shows (wsV RX3 142 RX1 yX1_colourAt wsX1_colourAt) := goodIn_app (goodIn_of _ (by decide +kernel)) ggX3_shows_X1_colourAt
theorem dX3_shows_0 : decode cX3_shows 0 = .ok (.aload_n 0, 1) := by decide +kernel
theorem dX3_shows_1 : decode cX3_shows 1 = .ok (.iload_n 1, 1) := by decide +kernel
theorem dX3_shows_2 : decode cX3_shows 2 = .ok (.invokevirtual 39, 3) := by decide +kernel
theorem dX3_shows_5 : decode cX3_shows 5 = .ok (.astore 5, 2) := by decide +kernel
theorem dX3_shows_7 : decode cX3_shows 7 = .ok (.aload 5, 2) := by decide +kernel
theorem dX3_shows_9 : decode cX3_shows 9 = .ok (.ifnull 27, 3) := by decide +kernel
theorem dX3_shows_12 : decode cX3_shows 12 = .ok (.aload 5, 2) := by decide +kernel
theorem dX3_shows_14 : decode cX3_shows 14 = .ok (.iload_n 2, 1) := by decide +kernel
theorem dX3_shows_15 : decode cX3_shows 15 = .ok (.invokevirtual 137, 3) := by decide +kernel
theorem dX3_shows_18 : decode cX3_shows 18 = .ok (.ifCond .eq 18, 3) := by decide +kernel
theorem dX3_shows_21 : decode cX3_shows 21 = .ok (.iload_n 3, 1) := by decide +kernel
theorem dX3_shows_22 : decode cX3_shows 22 = .ok (.invokestatic 48, 3) := by decide +kernel
theorem dX3_shows_25 : decode cX3_shows 25 = .ok (.ifCond .eq 11, 3) := by decide +kernel
theorem dX3_shows_28 : decode cX3_shows 28 = .ok (.iload 4, 2) := by decide +kernel
theorem dX3_shows_30 : decode cX3_shows 30 = .ok (.invokestatic 52, 3) := by decide +kernel
theorem dX3_shows_33 : decode cX3_shows 33 = .ok (.ifCond .ne 13, 3) := by decide +kernel
theorem dX3_shows_36 : decode cX3_shows 36 = .ok (.new 43, 3) := by decide +kernel
theorem dX3_shows_39 : decode cX3_shows 39 = .ok (.dup, 1) := by decide +kernel
theorem dX3_shows_40 : decode cX3_shows 40 = .ok (.ldc 140, 2) := by decide +kernel
theorem dX3_shows_42 : decode cX3_shows 42 = .ok (.invokespecial 47, 3) := by decide +kernel
theorem dX3_shows_45 : decode cX3_shows 45 = .ok (.athrow, 1) := by decide +kernel
theorem dX3_shows_46 : decode cX3_shows 46 = .ok (.aload 5, 2) := by decide +kernel
theorem dX3_shows_48 : decode cX3_shows 48 = .ok (.getfield 71, 3) := by decide +kernel
theorem dX3_shows_51 : decode cX3_shows 51 = .ok (.iload_n 3, 1) := by decide +kernel
theorem dX3_shows_52 : decode cX3_shows 52 = .ok (.iload 4, 2) := by decide +kernel
theorem dX3_shows_54 : decode cX3_shows 54 = .ok (.aload 5, 2) := by decide +kernel
theorem dX3_shows_56 : decode cX3_shows 56 = .ok (.iload_n 2, 1) := by decide +kernel
theorem dX3_shows_57 : decode cX3_shows 57 = .ok (.invokevirtual 116, 3) := by decide +kernel
theorem dX3_shows_60 : decode cX3_shows 60 = .ok (.invokevirtual 142, 3) := by decide +kernel
theorem dX3_shows_63 : decode cX3_shows 63 = .ok (.ireturn, 1) := by decide +kernel
set_option maxRecDepth 20000 in
theorem ggX3_colour_X3_sliceAt : GoodIn wsX3_colour wsX3_sliceAt := goodIn_r _ [7, 8, 33, 34, 35, 36, 37, 38, 39, 40] (by decide +kernel) (by decide +kernel)
set_option maxRecDepth 20000 in
theorem gX3_colour_X3_sliceAt : GoodIn wsX3_colour (wsV RX3 146 RX3 yX3_sliceAt wsX3_sliceAt) := goodIn_app (goodIn_of _ (by decide +kernel)) ggX3_colour_X3_sliceAt
set_option maxRecDepth 20000 in
theorem ggX3_colour_X3_isRing : GoodIn wsX3_colour wsX3_isRing := goodIn_r _ [11] (by decide +kernel) (by decide +kernel)
set_option maxRecDepth 20000 in
theorem gX3_colour_X3_isRing : GoodIn wsX3_colour (va_wsS RX3 48 yX3_isRing wsX3_isRing) := goodIn_app (goodIn_of _ (by decide +kernel)) ggX3_colour_X3_isRing
set_option maxRecDepth 20000 in
theorem ggX3_colour_X3_isSector : GoodIn wsX3_colour wsX3_isSector := goodIn_r _ [14] (by decide +kernel) (by decide +kernel)
set_option maxRecDepth 20000 in
theorem gX3_colour_X3_isSector : GoodIn wsX3_colour (va_wsS RX3 52 yX3_isSector wsX3_isSector) := goodIn_app (goodIn_of _ (by decide +kernel)) ggX3_colour_X3_isSector
set_option maxRecDepth 20000 in
theorem ggX3_colour_X1_colourAt : GoodIn wsX3_colour wsX1_colourAt := goodIn_r _ [19, 20, 21, 22, 18, 23, 24, 25, 26, 27, 41] (by decide +kernel) (by decide +kernel)
set_option maxRecDepth 20000 in
theorem gX3_colour_X1_colourAt : GoodIn wsX3_colour (wsV RX3 142 RX1 yX1_colourAt wsX1_colourAt) := goodIn_app (goodIn_of _ (by decide +kernel)) ggX3_colour_X1_colourAt
theorem dX3_colour_0 : decode cX3_colour 0 = .ok (.aload_n 0, 1) := by decide +kernel
theorem dX3_colour_1 : decode cX3_colour 1 = .ok (.iload_n 1, 1) := by decide +kernel
theorem dX3_colour_2 : decode cX3_colour 2 = .ok (.invokevirtual 146, 3) := by decide +kernel
theorem dX3_colour_5 : decode cX3_colour 5 = .ok (.astore 4, 2) := by decide +kernel
theorem dX3_colour_7 : decode cX3_colour 7 = .ok (.aload 4, 2) := by decide +kernel
theorem dX3_colour_9 : decode cX3_colour 9 = .ok (.ifnull 17, 3) := by decide +kernel
theorem dX3_colour_12 : decode cX3_colour 12 = .ok (.iload_n 2, 1) := by decide +kernel
theorem dX3_colour_13 : decode cX3_colour 13 = .ok (.invokestatic 48, 3) := by decide +kernel
theorem dX3_colour_16 : decode cX3_colour 16 = .ok (.ifCond .eq 10, 3) := by decide +kernel
theorem dX3_colour_19 : decode cX3_colour 19 = .ok (.iload_n 3, 1) := by decide +kernel
theorem dX3_colour_20 : decode cX3_colour 20 = .ok (.invokestatic 52, 3) := by decide +kernel
theorem dX3_colour_23 : decode cX3_colour 23 = .ok (.ifCond .ne 13, 3) := by decide +kernel
theorem dX3_colour_26 : decode cX3_colour 26 = .ok (.new 43, 3) := by decide +kernel
theorem dX3_colour_29 : decode cX3_colour 29 = .ok (.dup, 1) := by decide +kernel
theorem dX3_colour_30 : decode cX3_colour 30 = .ok (.ldc 150, 2) := by decide +kernel
theorem dX3_colour_32 : decode cX3_colour 32 = .ok (.invokespecial 47, 3) := by decide +kernel
theorem dX3_colour_35 : decode cX3_colour 35 = .ok (.athrow, 1) := by decide +kernel
theorem dX3_colour_36 : decode cX3_colour 36 = .ok (.aload 4, 2) := by decide +kernel
theorem dX3_colour_38 : decode cX3_colour 38 = .ok (.getfield 152, 3) := by decide +kernel
theorem dX3_colour_41 : decode cX3_colour 41 = .ok (.iload_n 2, 1) := by decide +kernel
theorem dX3_colour_42 : decode cX3_colour 42 = .ok (.iload_n 3, 1) := by decide +kernel
theorem dX3_colour_43 : decode cX3_colour 43 = .ok (.iconst 0, 1) := by decide +kernel
theorem dX3_colour_44 : decode cX3_colour 44 = .ok (.invokevirtual 142, 3) := by decide +kernel
theorem dX3_colour_47 : decode cX3_colour 47 = .ok (.ireturn, 1) := by decide +kernel
set_option maxRecDepth 20000 in
theorem ggX3_where_X3_sliceAt : GoodIn wsX3_where wsX3_sliceAt := goodIn_r _ [7, 8, 14, 15, 16, 17, 18, 19, 20, 21] (by decide +kernel) (by decide +kernel)
set_option maxRecDepth 20000 in
theorem gX3_where_X3_sliceAt : GoodIn wsX3_where (wsV RX3 146 RX3 yX3_sliceAt wsX3_sliceAt) := goodIn_app (goodIn_of _ (by decide +kernel)) ggX3_where_X3_sliceAt
theorem dX3_where_0 : decode cX3_where 0 = .ok (.aload_n 0, 1) := by decide +kernel
theorem dX3_where_1 : decode cX3_where 1 = .ok (.iload_n 1, 1) := by decide +kernel
theorem dX3_where_2 : decode cX3_where 2 = .ok (.invokevirtual 146, 3) := by decide +kernel
theorem dX3_where_5 : decode cX3_where 5 = .ok (.astore_n 2, 1) := by decide +kernel
theorem dX3_where_6 : decode cX3_where 6 = .ok (.aload_n 2, 1) := by decide +kernel
theorem dX3_where_7 : decode cX3_where 7 = .ok (.ifnonnull 13, 3) := by decide +kernel
theorem dX3_where_10 : decode cX3_where 10 = .ok (.new 43, 3) := by decide +kernel
theorem dX3_where_13 : decode cX3_where 13 = .ok (.dup, 1) := by decide +kernel
theorem dX3_where_14 : decode cX3_where 14 = .ok (.ldc 153, 2) := by decide +kernel
theorem dX3_where_16 : decode cX3_where 16 = .ok (.invokespecial 47, 3) := by decide +kernel
theorem dX3_where_19 : decode cX3_where 19 = .ok (.athrow, 1) := by decide +kernel
theorem dX3_where_20 : decode cX3_where 20 = .ok (.aload_n 2, 1) := by decide +kernel
theorem dX3_where_21 : decode cX3_where 21 = .ok (.getfield 155, 3) := by decide +kernel
theorem dX3_where_24 : decode cX3_where 24 = .ok (.ireturn, 1) := by decide +kernel
theorem dX3_bead_0 : decode cX3_bead 0 = .ok (.aload_n 0, 1) := by decide +kernel
theorem dX3_bead_1 : decode cX3_bead 1 = .ok (.getfield 158, 3) := by decide +kernel
theorem dX3_bead_4 : decode cX3_bead 4 = .ok (.bipush 6, 2) := by decide +kernel
theorem dX3_bead_6 : decode cX3_bead 6 = .ok (.if_icmp .lt 13, 3) := by decide +kernel
theorem dX3_bead_9 : decode cX3_bead 9 = .ok (.new 31, 3) := by decide +kernel
theorem dX3_bead_12 : decode cX3_bead 12 = .ok (.dup, 1) := by decide +kernel
theorem dX3_bead_13 : decode cX3_bead 13 = .ok (.ldc 161, 2) := by decide +kernel
theorem dX3_bead_15 : decode cX3_bead 15 = .ok (.invokespecial 35, 3) := by decide +kernel
theorem dX3_bead_18 : decode cX3_bead 18 = .ok (.athrow, 1) := by decide +kernel
theorem dX3_bead_19 : decode cX3_bead 19 = .ok (.aload_n 0, 1) := by decide +kernel
theorem dX3_bead_20 : decode cX3_bead 20 = .ok (.getfield 158, 3) := by decide +kernel
theorem dX3_bead_23 : decode cX3_bead 23 = .ok (.istore_n 1, 1) := by decide +kernel
theorem dX3_bead_24 : decode cX3_bead 24 = .ok (.aload_n 0, 1) := by decide +kernel
theorem dX3_bead_25 : decode cX3_bead 25 = .ok (.dup, 1) := by decide +kernel
theorem dX3_bead_26 : decode cX3_bead 26 = .ok (.getfield 158, 3) := by decide +kernel
theorem dX3_bead_29 : decode cX3_bead 29 = .ok (.iconst 1, 1) := by decide +kernel
theorem dX3_bead_30 : decode cX3_bead 30 = .ok (.iadd, 1) := by decide +kernel
theorem dX3_bead_31 : decode cX3_bead 31 = .ok (.putfield 158, 3) := by decide +kernel
theorem dX3_bead_34 : decode cX3_bead 34 = .ok (.iload_n 1, 1) := by decide +kernel
theorem dX3_bead_35 : decode cX3_bead 35 = .ok (.ireturn, 1) := by decide +kernel
set_option maxRecDepth 20000 in
theorem ggX3_set_X3_sliceAt : GoodIn wsX3_set wsX3_sliceAt := goodIn_r _ [12, 13, 40, 41, 42, 43, 44, 45, 46, 47] (by decide +kernel) (by decide +kernel)
set_option maxRecDepth 20000 in
theorem gX3_set_X3_sliceAt : GoodIn wsX3_set (wsV RX3 146 RX3 yX3_sliceAt wsX3_sliceAt) := goodIn_app (goodIn_of _ (by decide +kernel)) ggX3_set_X3_sliceAt
set_option maxRecDepth 20000 in
theorem ggX3_set_X3_isBead : GoodIn wsX3_set wsX3_isBead := goodIn_r _ [17, 18, 40, 41, 42, 43, 44, 45, 46, 47] (by decide +kernel) (by decide +kernel)
set_option maxRecDepth 20000 in
theorem gX3_set_X3_isBead : GoodIn wsX3_set (wsV RX3 163 RX3 yX3_isBead wsX3_isBead) := goodIn_app (goodIn_of _ (by decide +kernel)) ggX3_set_X3_isBead
set_option maxRecDepth 20000 in
theorem ggX3_set_X3_isEye : GoodIn wsX3_set wsX3_isEye := goodIn_r _ [21] (by decide +kernel) (by decide +kernel)
set_option maxRecDepth 20000 in
theorem gX3_set_X3_isEye : GoodIn wsX3_set (va_wsS RX3 166 yX3_isEye wsX3_isEye) := goodIn_app (goodIn_of _ (by decide +kernel)) ggX3_set_X3_isEye
set_option maxRecDepth 20000 in
theorem ggX3_set_X3_isSector : GoodIn wsX3_set wsX3_isSector := goodIn_r _ [24] (by decide +kernel) (by decide +kernel)
set_option maxRecDepth 20000 in
theorem gX3_set_X3_isSector : GoodIn wsX3_set (va_wsS RX3 52 yX3_isSector wsX3_isSector) := goodIn_app (goodIn_of _ (by decide +kernel)) ggX3_set_X3_isSector
set_option maxRecDepth 20000 in
theorem ggX3_set_X2_isFree : GoodIn wsX3_set wsX2_isFree := goodIn_r _ [29, 30, 48, 49, 50, 51, 52] (by decide +kernel) (by decide +kernel)
set_option maxRecDepth 20000 in
theorem gX3_set_X2_isFree : GoodIn wsX3_set (wsV RX3 173 RX2 yX2_isFree wsX2_isFree) := goodIn_app (goodIn_of _ (by decide +kernel)) ggX3_set_X2_isFree
set_option maxRecDepth 20000 in
theorem ggX3_set_X2_enter : GoodIn wsX3_set wsX2_enter := goodIn_r _ [34, 30, 35, 48, 49, 50, 51, 52] (by decide +kernel) (by decide +kernel)
set_option maxRecDepth 20000 in
theorem gX3_set_X2_enter : GoodIn wsX3_set (wsV RX3 179 RX2 yX2_enter wsX2_enter) := goodIn_app (goodIn_of _ (by decide +kernel)) ggX3_set_X2_enter
set_option maxRecDepth 20000 in
theorem ggX3_set_X3_filledEyes : GoodIn wsX3_set wsX3_filledEyes := goodIn_r _ [39, 7, 40, 41, 42, 43, 44, 45, 46, 47] (by decide +kernel) (by decide +kernel)
set_option maxRecDepth 20000 in
theorem gX3_set_X3_filledEyes : GoodIn wsX3_set (wsV RX3 183 RX3 yX3_filledEyes wsX3_filledEyes) := goodIn_app (goodIn_of _ (by decide +kernel)) ggX3_set_X3_filledEyes
theorem dX3_set_0 : decode cX3_set 0 = .ok (.aload_n 0, 1) := by decide +kernel
theorem dX3_set_1 : decode cX3_set 1 = .ok (.iload_n 3, 1) := by decide +kernel
theorem dX3_set_2 : decode cX3_set 2 = .ok (.invokevirtual 146, 3) := by decide +kernel
theorem dX3_set_5 : decode cX3_set 5 = .ok (.astore 5, 2) := by decide +kernel
theorem dX3_set_7 : decode cX3_set 7 = .ok (.aload_n 0, 1) := by decide +kernel
theorem dX3_set_8 : decode cX3_set 8 = .ok (.iload_n 1, 1) := by decide +kernel
theorem dX3_set_9 : decode cX3_set 9 = .ok (.invokevirtual 163, 3) := by decide +kernel
theorem dX3_set_12 : decode cX3_set 12 = .ok (.ifCond .eq 15, 3) := by decide +kernel
theorem dX3_set_15 : decode cX3_set 15 = .ok (.iload_n 2, 1) := by decide +kernel
theorem dX3_set_16 : decode cX3_set 16 = .ok (.invokestatic 166, 3) := by decide +kernel
theorem dX3_set_19 : decode cX3_set 19 = .ok (.ifCond .eq 8, 3) := by decide +kernel
theorem dX3_set_22 : decode cX3_set 22 = .ok (.aload 5, 2) := by decide +kernel
theorem dX3_set_24 : decode cX3_set 24 = .ok (.ifnonnull 13, 3) := by decide +kernel
theorem dX3_set_27 : decode cX3_set 27 = .ok (.new 43, 3) := by decide +kernel
theorem dX3_set_30 : decode cX3_set 30 = .ok (.dup, 1) := by decide +kernel
theorem dX3_set_31 : decode cX3_set 31 = .ok (.ldc 169, 2) := by decide +kernel
theorem dX3_set_33 : decode cX3_set 33 = .ok (.invokespecial 47, 3) := by decide +kernel
theorem dX3_set_36 : decode cX3_set 36 = .ok (.athrow, 1) := by decide +kernel
theorem dX3_set_37 : decode cX3_set 37 = .ok (.iload 4, 2) := by decide +kernel
theorem dX3_set_39 : decode cX3_set 39 = .ok (.invokestatic 52, 3) := by decide +kernel
theorem dX3_set_42 : decode cX3_set 42 = .ok (.ifCond .ne 13, 3) := by decide +kernel
theorem dX3_set_45 : decode cX3_set 45 = .ok (.new 55, 3) := by decide +kernel
theorem dX3_set_48 : decode cX3_set 48 = .ok (.dup, 1) := by decide +kernel
theorem dX3_set_49 : decode cX3_set 49 = .ok (.ldc 171, 2) := by decide +kernel
theorem dX3_set_51 : decode cX3_set 51 = .ok (.invokespecial 59, 3) := by decide +kernel
theorem dX3_set_54 : decode cX3_set 54 = .ok (.athrow, 1) := by decide +kernel
theorem dX3_set_55 : decode cX3_set 55 = .ok (.iconst 4, 1) := by decide +kernel
theorem dX3_set_56 : decode cX3_set 56 = .ok (.iload_n 1, 1) := by decide +kernel
theorem dX3_set_57 : decode cX3_set 57 = .ok (.imul, 1) := by decide +kernel
theorem dX3_set_58 : decode cX3_set 58 = .ok (.iload_n 2, 1) := by decide +kernel
theorem dX3_set_59 : decode cX3_set 59 = .ok (.iadd, 1) := by decide +kernel
theorem dX3_set_60 : decode cX3_set 60 = .ok (.istore 6, 2) := by decide +kernel
theorem dX3_set_62 : decode cX3_set 62 = .ok (.aload_n 0, 1) := by decide +kernel
theorem dX3_set_63 : decode cX3_set 63 = .ok (.getfield 21, 3) := by decide +kernel
theorem dX3_set_66 : decode cX3_set 66 = .ok (.iload 6, 2) := by decide +kernel
theorem dX3_set_68 : decode cX3_set 68 = .ok (.aaload, 1) := by decide +kernel
theorem dX3_set_69 : decode cX3_set 69 = .ok (.ifnonnull 11, 3) := by decide +kernel
theorem dX3_set_72 : decode cX3_set 72 = .ok (.aload 5, 2) := by decide +kernel
theorem dX3_set_74 : decode cX3_set 74 = .ok (.invokevirtual 173, 3) := by decide +kernel
theorem dX3_set_77 : decode cX3_set 77 = .ok (.ifCond .ne 13, 3) := by decide +kernel
theorem dX3_set_80 : decode cX3_set 80 = .ok (.new 31, 3) := by decide +kernel
theorem dX3_set_83 : decode cX3_set 83 = .ok (.dup, 1) := by decide +kernel
theorem dX3_set_84 : decode cX3_set 84 = .ok (.ldc 177, 2) := by decide +kernel
theorem dX3_set_86 : decode cX3_set 86 = .ok (.invokespecial 35, 3) := by decide +kernel
theorem dX3_set_89 : decode cX3_set 89 = .ok (.athrow, 1) := by decide +kernel
theorem dX3_set_90 : decode cX3_set 90 = .ok (.aload_n 0, 1) := by decide +kernel
theorem dX3_set_91 : decode cX3_set 91 = .ok (.getfield 21, 3) := by decide +kernel
theorem dX3_set_94 : decode cX3_set 94 = .ok (.iload 6, 2) := by decide +kernel
theorem dX3_set_96 : decode cX3_set 96 = .ok (.aload 5, 2) := by decide +kernel
theorem dX3_set_98 : decode cX3_set 98 = .ok (.aastore, 1) := by decide +kernel
theorem dX3_set_99 : decode cX3_set 99 = .ok (.aload 5, 2) := by decide +kernel
theorem dX3_set_101 : decode cX3_set 101 = .ok (.iload 6, 2) := by decide +kernel
theorem dX3_set_103 : decode cX3_set 103 = .ok (.iload 4, 2) := by decide +kernel
theorem dX3_set_105 : decode cX3_set 105 = .ok (.invokevirtual 179, 3) := by decide +kernel
theorem dX3_set_108 : decode cX3_set 108 = .ok (.aload_n 0, 1) := by decide +kernel
theorem dX3_set_109 : decode cX3_set 109 = .ok (.iload_n 1, 1) := by decide +kernel
theorem dX3_set_110 : decode cX3_set 110 = .ok (.invokevirtual 183, 3) := by decide +kernel
theorem dX3_set_113 : decode cX3_set 113 = .ok (.ireturn, 1) := by decide +kernel
set_option maxRecDepth 20000 in
theorem ggX3_drop_X3_isBead : GoodIn wsX3_drop wsX3_isBead := goodIn_r _ [10, 11, 22, 23, 24, 25, 26, 27, 28, 29] (by decide +kernel) (by decide +kernel)
set_option maxRecDepth 20000 in
theorem gX3_drop_X3_isBead : GoodIn wsX3_drop (wsV RX3 163 RX3 yX3_isBead wsX3_isBead) := goodIn_app (goodIn_of _ (by decide +kernel)) ggX3_drop_X3_isBead
set_option maxRecDepth 20000 in
theorem ggX3_drop_X3_isEye : GoodIn wsX3_drop wsX3_isEye := goodIn_r _ [14] (by decide +kernel) (by decide +kernel)
set_option maxRecDepth 20000 in
theorem gX3_drop_X3_isEye : GoodIn wsX3_drop (va_wsS RX3 166 yX3_isEye wsX3_isEye) := goodIn_app (goodIn_of _ (by decide +kernel)) ggX3_drop_X3_isEye
set_option maxRecDepth 20000 in
theorem ggX3_drop_X2_leave : GoodIn wsX3_drop wsX2_leave := goodIn_r _ [19, 20, 21, 30, 31, 32, 33, 34] (by decide +kernel) (by decide +kernel)
set_option maxRecDepth 20000 in
theorem gX3_drop_X2_leave : GoodIn wsX3_drop (wsV RX3 190 RX2 yX2_leave wsX2_leave) := goodIn_app (goodIn_of _ (by decide +kernel)) ggX3_drop_X2_leave
theorem dX3_drop_0 : decode cX3_drop 0 = .ok (.aload_n 0, 1) := by decide +kernel
theorem dX3_drop_1 : decode cX3_drop 1 = .ok (.iload_n 1, 1) := by decide +kernel
theorem dX3_drop_2 : decode cX3_drop 2 = .ok (.invokevirtual 163, 3) := by decide +kernel
theorem dX3_drop_5 : decode cX3_drop 5 = .ok (.ifCond .eq 10, 3) := by decide +kernel
theorem dX3_drop_8 : decode cX3_drop 8 = .ok (.iload_n 2, 1) := by decide +kernel
theorem dX3_drop_9 : decode cX3_drop 9 = .ok (.invokestatic 166, 3) := by decide +kernel
theorem dX3_drop_12 : decode cX3_drop 12 = .ok (.ifCond .ne 13, 3) := by decide +kernel
theorem dX3_drop_15 : decode cX3_drop 15 = .ok (.new 43, 3) := by decide +kernel
theorem dX3_drop_18 : decode cX3_drop 18 = .ok (.dup, 1) := by decide +kernel
theorem dX3_drop_19 : decode cX3_drop 19 = .ok (.ldc 186, 2) := by decide +kernel
theorem dX3_drop_21 : decode cX3_drop 21 = .ok (.invokespecial 47, 3) := by decide +kernel
theorem dX3_drop_24 : decode cX3_drop 24 = .ok (.athrow, 1) := by decide +kernel
theorem dX3_drop_25 : decode cX3_drop 25 = .ok (.iconst 4, 1) := by decide +kernel
theorem dX3_drop_26 : decode cX3_drop 26 = .ok (.iload_n 1, 1) := by decide +kernel
theorem dX3_drop_27 : decode cX3_drop 27 = .ok (.imul, 1) := by decide +kernel
theorem dX3_drop_28 : decode cX3_drop 28 = .ok (.iload_n 2, 1) := by decide +kernel
theorem dX3_drop_29 : decode cX3_drop 29 = .ok (.iadd, 1) := by decide +kernel
theorem dX3_drop_30 : decode cX3_drop 30 = .ok (.istore_n 3, 1) := by decide +kernel
theorem dX3_drop_31 : decode cX3_drop 31 = .ok (.aload_n 0, 1) := by decide +kernel
theorem dX3_drop_32 : decode cX3_drop 32 = .ok (.getfield 21, 3) := by decide +kernel
theorem dX3_drop_35 : decode cX3_drop 35 = .ok (.iload_n 3, 1) := by decide +kernel
theorem dX3_drop_36 : decode cX3_drop 36 = .ok (.aaload, 1) := by decide +kernel
theorem dX3_drop_37 : decode cX3_drop 37 = .ok (.astore 4, 2) := by decide +kernel
theorem dX3_drop_39 : decode cX3_drop 39 = .ok (.aload 4, 2) := by decide +kernel
theorem dX3_drop_41 : decode cX3_drop 41 = .ok (.ifnonnull 13, 3) := by decide +kernel
theorem dX3_drop_44 : decode cX3_drop 44 = .ok (.new 31, 3) := by decide +kernel
theorem dX3_drop_47 : decode cX3_drop 47 = .ok (.dup, 1) := by decide +kernel
theorem dX3_drop_48 : decode cX3_drop 48 = .ok (.ldc 188, 2) := by decide +kernel
theorem dX3_drop_50 : decode cX3_drop 50 = .ok (.invokespecial 35, 3) := by decide +kernel
theorem dX3_drop_53 : decode cX3_drop 53 = .ok (.athrow, 1) := by decide +kernel
theorem dX3_drop_54 : decode cX3_drop 54 = .ok (.aload_n 0, 1) := by decide +kernel
theorem dX3_drop_55 : decode cX3_drop 55 = .ok (.getfield 21, 3) := by decide +kernel
theorem dX3_drop_58 : decode cX3_drop 58 = .ok (.iload_n 3, 1) := by decide +kernel
theorem dX3_drop_59 : decode cX3_drop 59 = .ok (.aconst_null, 1) := by decide +kernel
theorem dX3_drop_60 : decode cX3_drop 60 = .ok (.aastore, 1) := by decide +kernel
theorem dX3_drop_61 : decode cX3_drop 61 = .ok (.aload 4, 2) := by decide +kernel
theorem dX3_drop_63 : decode cX3_drop 63 = .ok (.invokevirtual 190, 3) := by decide +kernel
theorem dX3_drop_66 : decode cX3_drop 66 = .ok (.aload 4, 2) := by decide +kernel
theorem dX3_drop_68 : decode cX3_drop 68 = .ok (.getfield 193, 3) := by decide +kernel
theorem dX3_drop_71 : decode cX3_drop 71 = .ok (.ireturn, 1) := by decide +kernel
set_option maxRecDepth 20000 in
theorem ggX3_seen_X3_isBead : GoodIn wsX3_seen wsX3_isBead := goodIn_r _ [8, 9, 32, 33, 34, 35, 36, 37, 38, 39] (by decide +kernel) (by decide +kernel)
set_option maxRecDepth 20000 in
theorem gX3_seen_X3_isBead : GoodIn wsX3_seen (wsV RX3 163 RX3 yX3_isBead wsX3_isBead) := goodIn_app (goodIn_of _ (by decide +kernel)) ggX3_seen_X3_isBead
set_option maxRecDepth 20000 in
theorem ggX3_seen_X3_isEye : GoodIn wsX3_seen wsX3_isEye := goodIn_r _ [12] (by decide +kernel) (by decide +kernel)
set_option maxRecDepth 20000 in
theorem gX3_seen_X3_isEye : GoodIn wsX3_seen (va_wsS RX3 166 yX3_isEye wsX3_isEye) := goodIn_app (goodIn_of _ (by decide +kernel)) ggX3_seen_X3_isEye
set_option maxRecDepth 20000 in
theorem ggX3_seen_X3_isRing : GoodIn wsX3_seen wsX3_isRing := goodIn_r _ [15] (by decide +kernel) (by decide +kernel)
set_option maxRecDepth 20000 in
theorem gX3_seen_X3_isRing : GoodIn wsX3_seen (va_wsS RX3 48 yX3_isRing wsX3_isRing) := goodIn_app (goodIn_of _ (by decide +kernel)) ggX3_seen_X3_isRing
set_option maxRecDepth 20000 in
theorem ggX3_seen_X3_isSector : GoodIn wsX3_seen wsX3_isSector := goodIn_r _ [18] (by decide +kernel) (by decide +kernel)
set_option maxRecDepth 20000 in
theorem gX3_seen_X3_isSector : GoodIn wsX3_seen (va_wsS RX3 52 yX3_isSector wsX3_isSector) := goodIn_app (goodIn_of _ (by decide +kernel)) ggX3_seen_X3_isSector
set_option maxRecDepth 20000 in
theorem ggX3_seen_X1_colourAt : GoodIn wsX3_seen wsX1_colourAt := goodIn_r _ [23, 24, 25, 26, 22, 27, 28, 29, 30, 31, 45] (by decide +kernel) (by decide +kernel)
set_option maxRecDepth 20000 in
theorem gX3_seen_X1_colourAt : GoodIn wsX3_seen (wsV RX3 142 RX1 yX1_colourAt wsX1_colourAt) := goodIn_app (goodIn_of _ (by decide +kernel)) ggX3_seen_X1_colourAt
theorem dX3_seen_0 : decode cX3_seen 0 = .ok (.aload_n 0, 1) := by decide +kernel
theorem dX3_seen_1 : decode cX3_seen 1 = .ok (.iload_n 1, 1) := by decide +kernel
theorem dX3_seen_2 : decode cX3_seen 2 = .ok (.invokevirtual 163, 3) := by decide +kernel
theorem dX3_seen_5 : decode cX3_seen 5 = .ok (.ifCond .eq 25, 3) := by decide +kernel
theorem dX3_seen_8 : decode cX3_seen 8 = .ok (.iload_n 2, 1) := by decide +kernel
theorem dX3_seen_9 : decode cX3_seen 9 = .ok (.invokestatic 166, 3) := by decide +kernel
theorem dX3_seen_12 : decode cX3_seen 12 = .ok (.ifCond .eq 18, 3) := by decide +kernel
theorem dX3_seen_15 : decode cX3_seen 15 = .ok (.iload_n 3, 1) := by decide +kernel
theorem dX3_seen_16 : decode cX3_seen 16 = .ok (.invokestatic 48, 3) := by decide +kernel
theorem dX3_seen_19 : decode cX3_seen 19 = .ok (.ifCond .eq 11, 3) := by decide +kernel
theorem dX3_seen_22 : decode cX3_seen 22 = .ok (.iload 4, 2) := by decide +kernel
theorem dX3_seen_24 : decode cX3_seen 24 = .ok (.invokestatic 52, 3) := by decide +kernel
theorem dX3_seen_27 : decode cX3_seen 27 = .ok (.ifCond .ne 13, 3) := by decide +kernel
theorem dX3_seen_30 : decode cX3_seen 30 = .ok (.new 43, 3) := by decide +kernel
theorem dX3_seen_33 : decode cX3_seen 33 = .ok (.dup, 1) := by decide +kernel
theorem dX3_seen_34 : decode cX3_seen 34 = .ok (.ldc 196, 2) := by decide +kernel
theorem dX3_seen_36 : decode cX3_seen 36 = .ok (.invokespecial 47, 3) := by decide +kernel
theorem dX3_seen_39 : decode cX3_seen 39 = .ok (.athrow, 1) := by decide +kernel
theorem dX3_seen_40 : decode cX3_seen 40 = .ok (.aload_n 0, 1) := by decide +kernel
theorem dX3_seen_41 : decode cX3_seen 41 = .ok (.getfield 21, 3) := by decide +kernel
theorem dX3_seen_44 : decode cX3_seen 44 = .ok (.iconst 4, 1) := by decide +kernel
theorem dX3_seen_45 : decode cX3_seen 45 = .ok (.iload_n 1, 1) := by decide +kernel
theorem dX3_seen_46 : decode cX3_seen 46 = .ok (.imul, 1) := by decide +kernel
theorem dX3_seen_47 : decode cX3_seen 47 = .ok (.iload_n 2, 1) := by decide +kernel
theorem dX3_seen_48 : decode cX3_seen 48 = .ok (.iadd, 1) := by decide +kernel
theorem dX3_seen_49 : decode cX3_seen 49 = .ok (.aaload, 1) := by decide +kernel
theorem dX3_seen_50 : decode cX3_seen 50 = .ok (.astore 5, 2) := by decide +kernel
theorem dX3_seen_52 : decode cX3_seen 52 = .ok (.aload 5, 2) := by decide +kernel
theorem dX3_seen_54 : decode cX3_seen 54 = .ok (.ifnonnull 7, 3) := by decide +kernel
theorem dX3_seen_57 : decode cX3_seen 57 = .ok (.iconst (-1), 1) := by decide +kernel
theorem dX3_seen_58 : decode cX3_seen 58 = .ok (.goto 19, 3) := by decide +kernel
theorem dX3_seen_61 : decode cX3_seen 61 = .ok (.aload 5, 2) := by decide +kernel
theorem dX3_seen_63 : decode cX3_seen 63 = .ok (.getfield 152, 3) := by decide +kernel
theorem dX3_seen_66 : decode cX3_seen 66 = .ok (.iload_n 3, 1) := by decide +kernel
theorem dX3_seen_67 : decode cX3_seen 67 = .ok (.iload 4, 2) := by decide +kernel
theorem dX3_seen_69 : decode cX3_seen 69 = .ok (.aload 5, 2) := by decide +kernel
theorem dX3_seen_71 : decode cX3_seen 71 = .ok (.getfield 198, 3) := by decide +kernel
theorem dX3_seen_74 : decode cX3_seen 74 = .ok (.invokevirtual 142, 3) := by decide +kernel
theorem dX3_seen_77 : decode cX3_seen 77 = .ok (.ireturn, 1) := by decide +kernel
set_option maxRecDepth 20000 in
theorem ggX3_count_X3_tally : GoodIn wsX3_count wsX3_tally := goodIn_r _ [7, 8, 9, 10, 11, 12, 13, 14, 6, 15, 16, 17, 18, 19, 20, 21, 22, 23, 24, 25, 26, 27, 28, 29, 30, 31, 32, 33, 34, 35, 36, 37, 38, 39, 40, 41, 42, 43, 44, 45, 46, 47, 48, 49, 50, 51, 52, 53, 54, 55, 56, 57, 58, 59, 60, 61, 62, 63, 64, 65, 66, 67, 68, 69] (by decide +kernel) (by decide +kernel)
set_option maxRecDepth 20000 in
theorem gX3_count_X3_tally : GoodIn wsX3_count (wsV RX3 203 RX3 yX3_tally wsX3_tally) := goodIn_app (goodIn_of _ (by decide +kernel)) ggX3_count_X3_tally
theorem dX3_count_0 : decode cX3_count 0 = .ok (.iload_n 1, 1) := by decide +kernel
theorem dX3_count_1 : decode cX3_count 1 = .ok (.ifCond .lt 9, 3) := by decide +kernel
theorem dX3_count_4 : decode cX3_count 4 = .ok (.iload_n 1, 1) := by decide +kernel
theorem dX3_count_5 : decode cX3_count 5 = .ok (.bipush 8, 2) := by decide +kernel
theorem dX3_count_7 : decode cX3_count 7 = .ok (.if_icmp .lt 13, 3) := by decide +kernel
theorem dX3_count_10 : decode cX3_count 10 = .ok (.new 43, 3) := by decide +kernel
theorem dX3_count_13 : decode cX3_count 13 = .ok (.dup, 1) := by decide +kernel
theorem dX3_count_14 : decode cX3_count 14 = .ok (.ldc 201, 2) := by decide +kernel
theorem dX3_count_16 : decode cX3_count 16 = .ok (.invokespecial 47, 3) := by decide +kernel
theorem dX3_count_19 : decode cX3_count 19 = .ok (.athrow, 1) := by decide +kernel
theorem dX3_count_20 : decode cX3_count 20 = .ok (.aload_n 0, 1) := by decide +kernel
theorem dX3_count_21 : decode cX3_count 21 = .ok (.iload_n 1, 1) := by decide +kernel
theorem dX3_count_22 : decode cX3_count 22 = .ok (.invokevirtual 203, 3) := by decide +kernel
theorem dX3_count_25 : decode cX3_count 25 = .ok (.ireturn, 1) := by decide +kernel
set_option maxRecDepth 20000 in
theorem ggX3_again_X3_caneAt : GoodIn wsX3_again wsX3_caneAt := goodIn_r _ [7, 8, 42, 43, 44, 45, 46, 47, 48, 49] (by decide +kernel) (by decide +kernel)
set_option maxRecDepth 20000 in
theorem gX3_again_X3_caneAt : GoodIn wsX3_again (wsV RX3 39 RX3 yX3_caneAt wsX3_caneAt) := goodIn_app (goodIn_of _ (by decide +kernel)) ggX3_again_X3_caneAt
set_option maxRecDepth 20000 in
theorem ggX3_again_X0_hasPlace : GoodIn wsX3_again wsX0_hasPlace := goodIn_r _ [13, 14, 37, 38, 39, 40, 41] (by decide +kernel) (by decide +kernel)
set_option maxRecDepth 20000 in
theorem gX3_again_X0_hasPlace : GoodIn wsX3_again (wsV RX3 137 RX0 yX0_hasPlace wsX0_hasPlace) := goodIn_app (goodIn_of _ (by decide +kernel)) ggX3_again_X0_hasPlace
set_option maxRecDepth 20000 in
theorem ggX3_again_X0_turnAt : GoodIn wsX3_again wsX0_turnAt := goodIn_r _ [18, 19, 37, 38, 39, 40, 41] (by decide +kernel) (by decide +kernel)
set_option maxRecDepth 20000 in
theorem gX3_again_X0_turnAt : GoodIn wsX3_again (wsV RX3 116 RX0 yX0_turnAt wsX0_turnAt) := goodIn_app (goodIn_of _ (by decide +kernel)) ggX3_again_X0_turnAt
set_option maxRecDepth 20000 in
theorem ggX3_again_X1_looksLike : GoodIn wsX3_again wsX1_looksLike := goodIn_r _ [24, 25, 26, 27, 28, 23, 29, 30, 31, 32, 33, 34, 35, 36, 50] (by decide +kernel) (by decide +kernel)
set_option maxRecDepth 20000 in
theorem gX3_again_X1_looksLike : GoodIn wsX3_again (wsV RX3 208 RX1 yX1_looksLike wsX1_looksLike) := goodIn_app (goodIn_of _ (by decide +kernel)) ggX3_again_X1_looksLike
theorem dX3_again_0 : decode cX3_again 0 = .ok (.aload_n 0, 1) := by decide +kernel
theorem dX3_again_1 : decode cX3_again 1 = .ok (.iload_n 1, 1) := by decide +kernel
theorem dX3_again_2 : decode cX3_again 2 = .ok (.invokevirtual 39, 3) := by decide +kernel
theorem dX3_again_5 : decode cX3_again 5 = .ok (.astore_n 3, 1) := by decide +kernel
theorem dX3_again_6 : decode cX3_again 6 = .ok (.aload_n 3, 1) := by decide +kernel
theorem dX3_again_7 : decode cX3_again 7 = .ok (.ifnull 11, 3) := by decide +kernel
theorem dX3_again_10 : decode cX3_again 10 = .ok (.aload_n 3, 1) := by decide +kernel
theorem dX3_again_11 : decode cX3_again 11 = .ok (.iload_n 2, 1) := by decide +kernel
theorem dX3_again_12 : decode cX3_again 12 = .ok (.invokevirtual 137, 3) := by decide +kernel
theorem dX3_again_15 : decode cX3_again 15 = .ok (.ifCond .ne 13, 3) := by decide +kernel
theorem dX3_again_18 : decode cX3_again 18 = .ok (.new 43, 3) := by decide +kernel
theorem dX3_again_21 : decode cX3_again 21 = .ok (.dup, 1) := by decide +kernel
theorem dX3_again_22 : decode cX3_again 22 = .ok (.ldc 206, 2) := by decide +kernel
theorem dX3_again_24 : decode cX3_again 24 = .ok (.invokespecial 47, 3) := by decide +kernel
theorem dX3_again_27 : decode cX3_again 27 = .ok (.athrow, 1) := by decide +kernel
theorem dX3_again_28 : decode cX3_again 28 = .ok (.iload_n 2, 1) := by decide +kernel
theorem dX3_again_29 : decode cX3_again 29 = .ok (.iconst 1, 1) := by decide +kernel
theorem dX3_again_30 : decode cX3_again 30 = .ok (.iadd, 1) := by decide +kernel
theorem dX3_again_31 : decode cX3_again 31 = .ok (.istore 4, 2) := by decide +kernel
theorem dX3_again_33 : decode cX3_again 33 = .ok (.iload 4, 2) := by decide +kernel
theorem dX3_again_35 : decode cX3_again 35 = .ok (.aload_n 3, 1) := by decide +kernel
theorem dX3_again_36 : decode cX3_again 36 = .ok (.getfield 103, 3) := by decide +kernel
theorem dX3_again_39 : decode cX3_again 39 = .ok (.if_icmp .ge 34, 3) := by decide +kernel
theorem dX3_again_42 : decode cX3_again 42 = .ok (.aload_n 3, 1) := by decide +kernel
theorem dX3_again_43 : decode cX3_again 43 = .ok (.getfield 71, 3) := by decide +kernel
theorem dX3_again_46 : decode cX3_again 46 = .ok (.aload_n 3, 1) := by decide +kernel
theorem dX3_again_47 : decode cX3_again 47 = .ok (.getfield 71, 3) := by decide +kernel
theorem dX3_again_50 : decode cX3_again 50 = .ok (.aload_n 3, 1) := by decide +kernel
theorem dX3_again_51 : decode cX3_again 51 = .ok (.iload 4, 2) := by decide +kernel
theorem dX3_again_53 : decode cX3_again 53 = .ok (.iload_n 2, 1) := by decide +kernel
theorem dX3_again_54 : decode cX3_again 54 = .ok (.isub, 1) := by decide +kernel
theorem dX3_again_55 : decode cX3_again 55 = .ok (.invokevirtual 116, 3) := by decide +kernel
theorem dX3_again_58 : decode cX3_again 58 = .ok (.invokevirtual 208, 3) := by decide +kernel
theorem dX3_again_61 : decode cX3_again 61 = .ok (.ifCond .eq 6, 3) := by decide +kernel
theorem dX3_again_64 : decode cX3_again 64 = .ok (.iload 4, 2) := by decide +kernel
theorem dX3_again_66 : decode cX3_again 66 = .ok (.ireturn, 1) := by decide +kernel
theorem dX3_again_67 : decode cX3_again 67 = .ok (.iinc 4 1, 3) := by decide +kernel
theorem dX3_again_70 : decode cX3_again 70 = .ok (.goto (-37), 3) := by decide +kernel
theorem dX3_again_73 : decode cX3_again 73 = .ok (.iconst (-1), 1) := by decide +kernel
theorem dX3_again_74 : decode cX3_again 74 = .ok (.ireturn, 1) := by decide +kernel
set_option maxRecDepth 20000 in
theorem ggX3_turn_X3_sliceAt : GoodIn wsX3_turn wsX3_sliceAt := goodIn_r _ [7, 8, 35, 36, 37, 38, 39, 40, 41, 42] (by decide +kernel) (by decide +kernel)
set_option maxRecDepth 20000 in
theorem gX3_turn_X3_sliceAt : GoodIn wsX3_turn (wsV RX3 146 RX3 yX3_sliceAt wsX3_sliceAt) := goodIn_app (goodIn_of _ (by decide +kernel)) ggX3_turn_X3_sliceAt
set_option maxRecDepth 20000 in
theorem ggX3_turn_X1_leastTurnTo : GoodIn wsX3_turn wsX1_leastTurnTo := goodIn_r _ [13, 14, 15, 16, 12, 17, 18, 19, 20, 21, 22, 23, 24, 25, 26, 27, 28, 29, 43] (by decide +kernel) (by decide +kernel)
set_option maxRecDepth 20000 in
theorem gX3_turn_X1_leastTurnTo : GoodIn wsX3_turn (wsV RX3 212 RX1 yX1_leastTurnTo wsX1_leastTurnTo) := goodIn_app (goodIn_of _ (by decide +kernel)) ggX3_turn_X1_leastTurnTo
theorem dX3_turn_0 : decode cX3_turn 0 = .ok (.aload_n 0, 1) := by decide +kernel
theorem dX3_turn_1 : decode cX3_turn 1 = .ok (.iload_n 1, 1) := by decide +kernel
theorem dX3_turn_2 : decode cX3_turn 2 = .ok (.invokevirtual 146, 3) := by decide +kernel
theorem dX3_turn_5 : decode cX3_turn 5 = .ok (.astore_n 3, 1) := by decide +kernel
theorem dX3_turn_6 : decode cX3_turn 6 = .ok (.aload_n 0, 1) := by decide +kernel
theorem dX3_turn_7 : decode cX3_turn 7 = .ok (.iload_n 2, 1) := by decide +kernel
theorem dX3_turn_8 : decode cX3_turn 8 = .ok (.invokevirtual 146, 3) := by decide +kernel
theorem dX3_turn_11 : decode cX3_turn 11 = .ok (.astore 4, 2) := by decide +kernel
theorem dX3_turn_13 : decode cX3_turn 13 = .ok (.aload_n 3, 1) := by decide +kernel
theorem dX3_turn_14 : decode cX3_turn 14 = .ok (.ifnull 8, 3) := by decide +kernel
theorem dX3_turn_17 : decode cX3_turn 17 = .ok (.aload 4, 2) := by decide +kernel
theorem dX3_turn_19 : decode cX3_turn 19 = .ok (.ifnonnull 13, 3) := by decide +kernel
theorem dX3_turn_22 : decode cX3_turn 22 = .ok (.new 43, 3) := by decide +kernel
theorem dX3_turn_25 : decode cX3_turn 25 = .ok (.dup, 1) := by decide +kernel
theorem dX3_turn_26 : decode cX3_turn 26 = .ok (.ldc 153, 2) := by decide +kernel
theorem dX3_turn_28 : decode cX3_turn 28 = .ok (.invokespecial 47, 3) := by decide +kernel
theorem dX3_turn_31 : decode cX3_turn 31 = .ok (.athrow, 1) := by decide +kernel
theorem dX3_turn_32 : decode cX3_turn 32 = .ok (.aload_n 3, 1) := by decide +kernel
theorem dX3_turn_33 : decode cX3_turn 33 = .ok (.getfield 152, 3) := by decide +kernel
theorem dX3_turn_36 : decode cX3_turn 36 = .ok (.aload 4, 2) := by decide +kernel
theorem dX3_turn_38 : decode cX3_turn 38 = .ok (.getfield 152, 3) := by decide +kernel
theorem dX3_turn_41 : decode cX3_turn 41 = .ok (.invokevirtual 212, 3) := by decide +kernel
theorem dX3_turn_44 : decode cX3_turn 44 = .ok (.ireturn, 1) := by decide +kernel
set_option maxRecDepth 20000 in
theorem ggX3_cuts_X3_caneAt : GoodIn wsX3_cuts wsX3_caneAt := goodIn_r _ [7, 8, 47, 48, 49, 50, 51, 52, 53, 54] (by decide +kernel) (by decide +kernel)
set_option maxRecDepth 20000 in
theorem gX3_cuts_X3_caneAt : GoodIn wsX3_cuts (wsV RX3 39 RX3 yX3_caneAt wsX3_caneAt) := goodIn_app (goodIn_of _ (by decide +kernel)) ggX3_cuts_X3_caneAt
set_option maxRecDepth 20000 in
theorem ggX3_cuts_X3_sliceAt : GoodIn wsX3_cuts wsX3_sliceAt := goodIn_r _ [12, 13, 47, 48, 49, 50, 51, 52, 53, 54] (by decide +kernel) (by decide +kernel)
set_option maxRecDepth 20000 in
theorem gX3_cuts_X3_sliceAt : GoodIn wsX3_cuts (wsV RX3 146 RX3 yX3_sliceAt wsX3_sliceAt) := goodIn_app (goodIn_of _ (by decide +kernel)) ggX3_cuts_X3_sliceAt
set_option maxRecDepth 20000 in
theorem ggX3_cuts_X0_turnAt : GoodIn wsX3_cuts wsX0_turnAt := goodIn_r _ [18, 19, 37, 38, 39, 40, 41] (by decide +kernel) (by decide +kernel)
set_option maxRecDepth 20000 in
theorem gX3_cuts_X0_turnAt : GoodIn wsX3_cuts (wsV RX3 116 RX0 yX0_turnAt wsX0_turnAt) := goodIn_app (goodIn_of _ (by decide +kernel)) ggX3_cuts_X0_turnAt
set_option maxRecDepth 20000 in
theorem ggX3_cuts_X1_looksLike : GoodIn wsX3_cuts wsX1_looksLike := goodIn_r _ [24, 25, 26, 27, 28, 23, 29, 30, 31, 32, 33, 34, 35, 36, 55] (by decide +kernel) (by decide +kernel)
set_option maxRecDepth 20000 in
theorem gX3_cuts_X1_looksLike : GoodIn wsX3_cuts (wsV RX3 208 RX1 yX1_looksLike wsX1_looksLike) := goodIn_app (goodIn_of _ (by decide +kernel)) ggX3_cuts_X1_looksLike
theorem dX3_cuts_0 : decode cX3_cuts 0 = .ok (.aload_n 0, 1) := by decide +kernel
theorem dX3_cuts_1 : decode cX3_cuts 1 = .ok (.iload_n 1, 1) := by decide +kernel
theorem dX3_cuts_2 : decode cX3_cuts 2 = .ok (.invokevirtual 39, 3) := by decide +kernel
theorem dX3_cuts_5 : decode cX3_cuts 5 = .ok (.astore_n 3, 1) := by decide +kernel
theorem dX3_cuts_6 : decode cX3_cuts 6 = .ok (.aload_n 0, 1) := by decide +kernel
theorem dX3_cuts_7 : decode cX3_cuts 7 = .ok (.iload_n 2, 1) := by decide +kernel
theorem dX3_cuts_8 : decode cX3_cuts 8 = .ok (.invokevirtual 146, 3) := by decide +kernel
theorem dX3_cuts_11 : decode cX3_cuts 11 = .ok (.astore 4, 2) := by decide +kernel
theorem dX3_cuts_13 : decode cX3_cuts 13 = .ok (.aload_n 3, 1) := by decide +kernel
theorem dX3_cuts_14 : decode cX3_cuts 14 = .ok (.ifnull 8, 3) := by decide +kernel
theorem dX3_cuts_17 : decode cX3_cuts 17 = .ok (.aload 4, 2) := by decide +kernel
theorem dX3_cuts_19 : decode cX3_cuts 19 = .ok (.ifnonnull 13, 3) := by decide +kernel
theorem dX3_cuts_22 : decode cX3_cuts 22 = .ok (.new 43, 3) := by decide +kernel
theorem dX3_cuts_25 : decode cX3_cuts 25 = .ok (.dup, 1) := by decide +kernel
theorem dX3_cuts_26 : decode cX3_cuts 26 = .ok (.ldc 215, 2) := by decide +kernel
theorem dX3_cuts_28 : decode cX3_cuts 28 = .ok (.invokespecial 47, 3) := by decide +kernel
theorem dX3_cuts_31 : decode cX3_cuts 31 = .ok (.athrow, 1) := by decide +kernel
theorem dX3_cuts_32 : decode cX3_cuts 32 = .ok (.iconst 1, 1) := by decide +kernel
theorem dX3_cuts_33 : decode cX3_cuts 33 = .ok (.istore 5, 2) := by decide +kernel
theorem dX3_cuts_35 : decode cX3_cuts 35 = .ok (.iload 5, 2) := by decide +kernel
theorem dX3_cuts_37 : decode cX3_cuts 37 = .ok (.aload_n 3, 1) := by decide +kernel
theorem dX3_cuts_38 : decode cX3_cuts 38 = .ok (.getfield 103, 3) := by decide +kernel
theorem dX3_cuts_41 : decode cX3_cuts 41 = .ok (.if_icmp .gt 38, 3) := by decide +kernel
theorem dX3_cuts_44 : decode cX3_cuts 44 = .ok (.aload_n 3, 1) := by decide +kernel
theorem dX3_cuts_45 : decode cX3_cuts 45 = .ok (.getfield 71, 3) := by decide +kernel
theorem dX3_cuts_48 : decode cX3_cuts 48 = .ok (.aload 4, 2) := by decide +kernel
theorem dX3_cuts_50 : decode cX3_cuts 50 = .ok (.getfield 152, 3) := by decide +kernel
theorem dX3_cuts_53 : decode cX3_cuts 53 = .ok (.aload_n 3, 1) := by decide +kernel
theorem dX3_cuts_54 : decode cX3_cuts 54 = .ok (.aload_n 3, 1) := by decide +kernel
theorem dX3_cuts_55 : decode cX3_cuts 55 = .ok (.getfield 103, 3) := by decide +kernel
theorem dX3_cuts_58 : decode cX3_cuts 58 = .ok (.iload 5, 2) := by decide +kernel
theorem dX3_cuts_60 : decode cX3_cuts 60 = .ok (.isub, 1) := by decide +kernel
theorem dX3_cuts_61 : decode cX3_cuts 61 = .ok (.invokevirtual 116, 3) := by decide +kernel
theorem dX3_cuts_64 : decode cX3_cuts 64 = .ok (.invokevirtual 208, 3) := by decide +kernel
theorem dX3_cuts_67 : decode cX3_cuts 67 = .ok (.ifCond .eq 6, 3) := by decide +kernel
theorem dX3_cuts_70 : decode cX3_cuts 70 = .ok (.iload 5, 2) := by decide +kernel
theorem dX3_cuts_72 : decode cX3_cuts 72 = .ok (.ireturn, 1) := by decide +kernel
theorem dX3_cuts_73 : decode cX3_cuts 73 = .ok (.iinc 5 1, 3) := by decide +kernel
theorem dX3_cuts_76 : decode cX3_cuts 76 = .ok (.goto (-41), 3) := by decide +kernel
theorem dX3_cuts_79 : decode cX3_cuts 79 = .ok (.iconst (-1), 1) := by decide +kernel
theorem dX3_cuts_80 : decode cX3_cuts 80 = .ok (.ireturn, 1) := by decide +kernel
set_option maxRecDepth 20000 in
theorem ggX3_mends_X3_isBead : GoodIn wsX3_mends wsX3_isBead := goodIn_r _ [8, 9, 47, 48, 49, 50, 51, 52, 53, 54] (by decide +kernel) (by decide +kernel)
set_option maxRecDepth 20000 in
theorem gX3_mends_X3_isBead : GoodIn wsX3_mends (wsV RX3 163 RX3 yX3_isBead wsX3_isBead) := goodIn_app (goodIn_of _ (by decide +kernel)) ggX3_mends_X3_isBead
set_option maxRecDepth 20000 in
theorem ggX3_mends_X3_canFillBead : GoodIn wsX3_mends wsX3_canFillBead := goodIn_r _ [13, 14, 15, 16, 17, 7, 18, 19, 20, 21, 22, 23, 24, 25, 47, 48, 49, 50, 51, 52, 53, 54, 55, 56, 57, 58, 59] (by decide +kernel) (by decide +kernel)
set_option maxRecDepth 20000 in
theorem gX3_mends_X3_canFillBead : GoodIn wsX3_mends (wsV RX3 219 RX3 yX3_canFillBead wsX3_canFillBead) := goodIn_app (goodIn_of _ (by decide +kernel)) ggX3_mends_X3_canFillBead
set_option maxRecDepth 20000 in
theorem ggX3_mends_X3_eyesLike : GoodIn wsX3_mends wsX3_eyesLike := goodIn_r _ [29, 3, 30, 31, 32, 33, 34, 35, 36, 37, 38, 39, 40, 41, 42, 43, 44, 45, 46, 47, 48, 49, 50, 51, 52, 53, 54, 55, 56, 57, 58, 59, 60] (by decide +kernel) (by decide +kernel)
set_option maxRecDepth 20000 in
theorem gX3_mends_X3_eyesLike : GoodIn wsX3_mends (wsV RX3 222 RX3 yX3_eyesLike wsX3_eyesLike) := goodIn_app (goodIn_of _ (by decide +kernel)) ggX3_mends_X3_eyesLike
set_option maxRecDepth 20000 in
theorem ggX3_mends_X3_freeSlicesOf : GoodIn wsX3_mends wsX3_freeSlicesOf := goodIn_r _ [18, 19, 20, 21, 22, 23, 24, 25, 47, 48, 49, 50, 51, 52, 53, 54, 55, 56, 57, 58, 59] (by decide +kernel) (by decide +kernel)
set_option maxRecDepth 20000 in
theorem gX3_mends_X3_freeSlicesOf : GoodIn wsX3_mends (wsV RX3 229 RX3 yX3_freeSlicesOf wsX3_freeSlicesOf) := goodIn_app (goodIn_of _ (by decide +kernel)) ggX3_mends_X3_freeSlicesOf
theorem dX3_mends_0 : decode cX3_mends 0 = .ok (.aload_n 0, 1) := by decide +kernel
theorem dX3_mends_1 : decode cX3_mends 1 = .ok (.iload_n 1, 1) := by decide +kernel
theorem dX3_mends_2 : decode cX3_mends 2 = .ok (.invokevirtual 163, 3) := by decide +kernel
theorem dX3_mends_5 : decode cX3_mends 5 = .ok (.ifCond .ne 13, 3) := by decide +kernel
theorem dX3_mends_8 : decode cX3_mends 8 = .ok (.new 43, 3) := by decide +kernel
theorem dX3_mends_11 : decode cX3_mends 11 = .ok (.dup, 1) := by decide +kernel
theorem dX3_mends_12 : decode cX3_mends 12 = .ok (.ldc 217, 2) := by decide +kernel
theorem dX3_mends_14 : decode cX3_mends 14 = .ok (.invokespecial 47, 3) := by decide +kernel
theorem dX3_mends_17 : decode cX3_mends 17 = .ok (.athrow, 1) := by decide +kernel
theorem dX3_mends_18 : decode cX3_mends 18 = .ok (.aload_n 0, 1) := by decide +kernel
theorem dX3_mends_19 : decode cX3_mends 19 = .ok (.invokevirtual 219, 3) := by decide +kernel
theorem dX3_mends_22 : decode cX3_mends 22 = .ok (.ifCond .eq 7, 3) := by decide +kernel
theorem dX3_mends_25 : decode cX3_mends 25 = .ok (.iconst 4, 1) := by decide +kernel
theorem dX3_mends_26 : decode cX3_mends 26 = .ok (.goto 4, 3) := by decide +kernel
theorem dX3_mends_29 : decode cX3_mends 29 = .ok (.iconst (-1), 1) := by decide +kernel
theorem dX3_mends_30 : decode cX3_mends 30 = .ok (.istore_n 2, 1) := by decide +kernel
theorem dX3_mends_31 : decode cX3_mends 31 = .ok (.iconst 0, 1) := by decide +kernel
theorem dX3_mends_32 : decode cX3_mends 32 = .ok (.istore_n 3, 1) := by decide +kernel
theorem dX3_mends_33 : decode cX3_mends 33 = .ok (.iload_n 3, 1) := by decide +kernel
theorem dX3_mends_34 : decode cX3_mends 34 = .ok (.iconst 4, 1) := by decide +kernel
theorem dX3_mends_35 : decode cX3_mends 35 = .ok (.if_icmp .ge 77, 3) := by decide +kernel
end
section
theorem dX3_mends_38 : decode cX3_mends 38 = .ok (.aload_n 0, 1) := by decide +kernel
theorem dX3_mends_39 : decode cX3_mends 39 = .ok (.getfield 21, 3) := by decide +kernel
theorem dX3_mends_42 : decode cX3_mends 42 = .ok (.iconst 4, 1) := by decide +kernel
theorem dX3_mends_43 : decode cX3_mends 43 = .ok (.iload_n 1, 1) := by decide +kernel
theorem dX3_mends_44 : decode cX3_mends 44 = .ok (.imul, 1) := by decide +kernel
theorem dX3_mends_45 : decode cX3_mends 45 = .ok (.iload_n 3, 1) := by decide +kernel
theorem dX3_mends_46 : decode cX3_mends 46 = .ok (.iadd, 1) := by decide +kernel
theorem dX3_mends_47 : decode cX3_mends 47 = .ok (.aaload, 1) := by decide +kernel
theorem dX3_mends_48 : decode cX3_mends 48 = .ok (.astore 4, 2) := by decide +kernel
theorem dX3_mends_50 : decode cX3_mends 50 = .ok (.aload 4, 2) := by decide +kernel
theorem dX3_mends_52 : decode cX3_mends 52 = .ok (.ifnull 54, 3) := by decide +kernel
theorem dX3_mends_55 : decode cX3_mends 55 = .ok (.iconst 4, 1) := by decide +kernel
theorem dX3_mends_56 : decode cX3_mends 56 = .ok (.aload_n 0, 1) := by decide +kernel
theorem dX3_mends_57 : decode cX3_mends 57 = .ok (.iload_n 1, 1) := by decide +kernel
theorem dX3_mends_58 : decode cX3_mends 58 = .ok (.aload 4, 2) := by decide +kernel
theorem dX3_mends_60 : decode cX3_mends 60 = .ok (.invokevirtual 222, 3) := by decide +kernel
theorem dX3_mends_63 : decode cX3_mends 63 = .ok (.isub, 1) := by decide +kernel
theorem dX3_mends_64 : decode cX3_mends 64 = .ok (.istore 5, 2) := by decide +kernel
theorem dX3_mends_66 : decode cX3_mends 66 = .ok (.iload_n 2, 1) := by decide +kernel
theorem dX3_mends_67 : decode cX3_mends 67 = .ok (.iconst (-1), 1) := by decide +kernel
theorem dX3_mends_68 : decode cX3_mends 68 = .ok (.if_icmp .eq 9, 3) := by decide +kernel
theorem dX3_mends_71 : decode cX3_mends 71 = .ok (.iload 5, 2) := by decide +kernel
theorem dX3_mends_73 : decode cX3_mends 73 = .ok (.iload_n 2, 1) := by decide +kernel
theorem dX3_mends_74 : decode cX3_mends 74 = .ok (.if_icmp .ge 7, 3) := by decide +kernel
theorem dX3_mends_77 : decode cX3_mends 77 = .ok (.iconst 1, 1) := by decide +kernel
theorem dX3_mends_78 : decode cX3_mends 78 = .ok (.goto 4, 3) := by decide +kernel
theorem dX3_mends_81 : decode cX3_mends 81 = .ok (.iconst 0, 1) := by decide +kernel
theorem dX3_mends_82 : decode cX3_mends 82 = .ok (.istore 6, 2) := by decide +kernel
theorem dX3_mends_84 : decode cX3_mends 84 = .ok (.iload 6, 2) := by decide +kernel
theorem dX3_mends_86 : decode cX3_mends 86 = .ok (.ifCond .eq 20, 3) := by decide +kernel
theorem dX3_mends_89 : decode cX3_mends 89 = .ok (.iload 5, 2) := by decide +kernel
theorem dX3_mends_91 : decode cX3_mends 91 = .ok (.aload_n 0, 1) := by decide +kernel
theorem dX3_mends_92 : decode cX3_mends 92 = .ok (.aload 4, 2) := by decide +kernel
theorem dX3_mends_94 : decode cX3_mends 94 = .ok (.getfield 226, 3) := by decide +kernel
theorem dX3_mends_97 : decode cX3_mends 97 = .ok (.invokevirtual 229, 3) := by decide +kernel
theorem dX3_mends_100 : decode cX3_mends 100 = .ok (.if_icmp .gt 6, 3) := by decide +kernel
theorem dX3_mends_103 : decode cX3_mends 103 = .ok (.iload 5, 2) := by decide +kernel
theorem dX3_mends_105 : decode cX3_mends 105 = .ok (.istore_n 2, 1) := by decide +kernel
theorem dX3_mends_106 : decode cX3_mends 106 = .ok (.iinc 3 1, 3) := by decide +kernel
theorem dX3_mends_109 : decode cX3_mends 109 = .ok (.goto (-76), 3) := by decide +kernel
theorem dX3_mends_112 : decode cX3_mends 112 = .ok (.iload_n 2, 1) := by decide +kernel
theorem dX3_mends_113 : decode cX3_mends 113 = .ok (.ireturn, 1) := by decide +kernel
set_option maxRecDepth 20000 in
theorem ggX3_mean_X3_heatOfAll : GoodIn wsX3_mean wsX3_heatOfAll := goodIn_r _ [6, 7, 8, 9, 10, 11, 12, 13, 14, 15, 16, 17, 18, 19, 20] (by decide +kernel) (by decide +kernel)
set_option maxRecDepth 20000 in
theorem gX3_mean_X3_heatOfAll : GoodIn wsX3_mean (wsV RX3 99 RX3 yX3_heatOfAll wsX3_heatOfAll) := goodIn_app (goodIn_of _ (by decide +kernel)) ggX3_mean_X3_heatOfAll
theorem dX3_mean_0 : decode cX3_mean 0 = .ok (.aload_n 0, 1) := by decide +kernel
theorem dX3_mean_1 : decode cX3_mean 1 = .ok (.getfield 28, 3) := by decide +kernel
theorem dX3_mean_4 : decode cX3_mean 4 = .ok (.ifCond .ne 7, 3) := by decide +kernel
theorem dX3_mean_7 : decode cX3_mean 7 = .ok (.dconst 0, 1) := by decide +kernel
theorem dX3_mean_8 : decode cX3_mean 8 = .ok (.goto 14, 3) := by decide +kernel
theorem dX3_mean_11 : decode cX3_mean 11 = .ok (.aload_n 0, 1) := by decide +kernel
theorem dX3_mean_12 : decode cX3_mean 12 = .ok (.invokevirtual 99, 3) := by decide +kernel
theorem dX3_mean_15 : decode cX3_mean 15 = .ok (.i2d, 1) := by decide +kernel
theorem dX3_mean_16 : decode cX3_mean 16 = .ok (.aload_n 0, 1) := by decide +kernel
theorem dX3_mean_17 : decode cX3_mean 17 = .ok (.getfield 28, 3) := by decide +kernel
theorem dX3_mean_20 : decode cX3_mean 20 = .ok (.i2d, 1) := by decide +kernel
theorem dX3_mean_21 : decode cX3_mean 21 = .ok (.ddiv, 1) := by decide +kernel
theorem dX3_mean_22 : decode cX3_mean 22 = .ok (.dreturn, 1) := by decide +kernel
set_option maxRecDepth 20000 in
theorem ggX3_digest_X3_tally : GoodIn wsX3_digest wsX3_tally := goodIn_r _ [6, 7, 8, 9, 10, 11, 12, 13, 5, 14, 15, 16, 17, 18, 19, 20, 21, 22, 23, 24, 25, 26, 27, 28, 29, 30, 31, 32, 33, 34, 35, 36, 37, 38, 39, 40, 41, 42, 43, 44, 45, 46, 47, 48, 49, 80, 81, 82, 83, 84, 85, 86, 87, 88, 89, 90, 91, 92, 93, 94, 95, 96, 97, 98] (by decide +kernel) (by decide +kernel)
set_option maxRecDepth 20000 in
theorem gX3_digest_X3_tally : GoodIn wsX3_digest (wsV RX3 203 RX3 yX3_tally wsX3_tally) := goodIn_app (goodIn_of _ (by decide +kernel)) ggX3_digest_X3_tally
set_option maxRecDepth 20000 in
theorem ggX3_digest_X3_digestWith : GoodIn wsX3_digest wsX3_digestWith := goodIn_r _ [52, 53] (by decide +kernel) (by decide +kernel)
set_option maxRecDepth 20000 in
theorem gX3_digest_X3_digestWith : GoodIn wsX3_digest (va_wsS RX3 234 yX3_digestWith wsX3_digestWith) := goodIn_app (goodIn_of _ (by decide +kernel)) ggX3_digest_X3_digestWith
set_option maxRecDepth 20000 in
theorem ggX3_digest_X3_digestWithCanes : GoodIn wsX3_digest wsX3_digestWithCanes := goodIn_r _ [57, 15, 58, 59, 60, 61, 62, 63, 64, 65, 66, 67, 50, 51, 5, 52, 53, 68, 69, 70, 80, 81, 82, 83, 84, 85, 86, 87, 88, 89, 90, 91, 92, 98] (by decide +kernel) (by decide +kernel)
set_option maxRecDepth 20000 in
theorem gX3_digest_X3_digestWithCanes : GoodIn wsX3_digest (wsV RX3 238 RX3 yX3_digestWithCanes wsX3_digestWithCanes) := goodIn_app (goodIn_of _ (by decide +kernel)) ggX3_digest_X3_digestWithCanes
set_option maxRecDepth 20000 in
theorem ggX3_digest_X3_digestWithSlices : GoodIn wsX3_digest wsX3_digestWithSlices := goodIn_r _ [74, 75, 68, 69, 5, 70, 50, 51, 52, 53, 80, 81, 82, 83, 84, 85, 86, 87, 93, 94, 95, 96, 97, 98] (by decide +kernel) (by decide +kernel)
set_option maxRecDepth 20000 in
theorem gX3_digest_X3_digestWithSlices : GoodIn wsX3_digest (wsV RX3 242 RX3 yX3_digestWithSlices wsX3_digestWithSlices) := goodIn_app (goodIn_of _ (by decide +kernel)) ggX3_digest_X3_digestWithSlices
set_option maxRecDepth 20000 in
theorem ggX3_digest_X3_digestWithEyes : GoodIn wsX3_digest wsX3_digestWithEyes := goodIn_r _ [79, 10, 20, 50, 51, 5, 52, 53, 80, 81, 82, 83, 84, 85, 86, 87, 93, 94, 95, 96, 97] (by decide +kernel) (by decide +kernel)
set_option maxRecDepth 20000 in
theorem gX3_digest_X3_digestWithEyes : GoodIn wsX3_digest (wsV RX3 245 RX3 yX3_digestWithEyes wsX3_digestWithEyes) := goodIn_app (goodIn_of _ (by decide +kernel)) ggX3_digest_X3_digestWithEyes
theorem dX3_digest_0 : decode cX3_digest 0 = .ok (.ldc2_w 232, 3) := by decide +kernel
theorem dX3_digest_3 : decode cX3_digest 3 = .ok (.lstore_n 1, 1) := by decide +kernel
theorem dX3_digest_4 : decode cX3_digest 4 = .ok (.iconst 0, 1) := by decide +kernel
theorem dX3_digest_5 : decode cX3_digest 5 = .ok (.istore_n 3, 1) := by decide +kernel
theorem dX3_digest_6 : decode cX3_digest 6 = .ok (.iload_n 3, 1) := by decide +kernel
theorem dX3_digest_7 : decode cX3_digest 7 = .ok (.bipush 8, 2) := by decide +kernel
theorem dX3_digest_9 : decode cX3_digest 9 = .ok (.if_icmp .ge 19, 3) := by decide +kernel
theorem dX3_digest_12 : decode cX3_digest 12 = .ok (.lload_n 1, 1) := by decide +kernel
theorem dX3_digest_13 : decode cX3_digest 13 = .ok (.aload_n 0, 1) := by decide +kernel
theorem dX3_digest_14 : decode cX3_digest 14 = .ok (.iload_n 3, 1) := by decide +kernel
theorem dX3_digest_15 : decode cX3_digest 15 = .ok (.invokevirtual 203, 3) := by decide +kernel
theorem dX3_digest_18 : decode cX3_digest 18 = .ok (.invokestatic 234, 3) := by decide +kernel
theorem dX3_digest_21 : decode cX3_digest 21 = .ok (.lstore_n 1, 1) := by decide +kernel
theorem dX3_digest_22 : decode cX3_digest 22 = .ok (.iinc 3 1, 3) := by decide +kernel
theorem dX3_digest_25 : decode cX3_digest 25 = .ok (.goto (-19), 3) := by decide +kernel
theorem dX3_digest_28 : decode cX3_digest 28 = .ok (.aload_n 0, 1) := by decide +kernel
theorem dX3_digest_29 : decode cX3_digest 29 = .ok (.lload_n 1, 1) := by decide +kernel
theorem dX3_digest_30 : decode cX3_digest 30 = .ok (.invokevirtual 238, 3) := by decide +kernel
theorem dX3_digest_33 : decode cX3_digest 33 = .ok (.lstore_n 1, 1) := by decide +kernel
theorem dX3_digest_34 : decode cX3_digest 34 = .ok (.aload_n 0, 1) := by decide +kernel
theorem dX3_digest_35 : decode cX3_digest 35 = .ok (.lload_n 1, 1) := by decide +kernel
theorem dX3_digest_36 : decode cX3_digest 36 = .ok (.invokevirtual 242, 3) := by decide +kernel
theorem dX3_digest_39 : decode cX3_digest 39 = .ok (.lstore_n 1, 1) := by decide +kernel
theorem dX3_digest_40 : decode cX3_digest 40 = .ok (.aload_n 0, 1) := by decide +kernel
theorem dX3_digest_41 : decode cX3_digest 41 = .ok (.lload_n 1, 1) := by decide +kernel
theorem dX3_digest_42 : decode cX3_digest 42 = .ok (.invokevirtual 245, 3) := by decide +kernel
theorem dX3_digest_45 : decode cX3_digest 45 = .ok (.lreturn, 1) := by decide +kernel
theorem dX3_caneAt_0 : decode cX3_caneAt 0 = .ok (.iload_n 1, 1) := by decide +kernel
theorem dX3_caneAt_1 : decode cX3_caneAt 1 = .ok (.ifCond .lt 18, 3) := by decide +kernel
theorem dX3_caneAt_4 : decode cX3_caneAt 4 = .ok (.iload_n 1, 1) := by decide +kernel
theorem dX3_caneAt_5 : decode cX3_caneAt 5 = .ok (.bipush 8, 2) := by decide +kernel
theorem dX3_caneAt_7 : decode cX3_caneAt 7 = .ok (.if_icmp .ge 12, 3) := by decide +kernel
theorem dX3_caneAt_10 : decode cX3_caneAt 10 = .ok (.aload_n 0, 1) := by decide +kernel
theorem dX3_caneAt_11 : decode cX3_caneAt 11 = .ok (.getfield 11, 3) := by decide +kernel
theorem dX3_caneAt_14 : decode cX3_caneAt 14 = .ok (.iload_n 1, 1) := by decide +kernel
theorem dX3_caneAt_15 : decode cX3_caneAt 15 = .ok (.aaload, 1) := by decide +kernel
theorem dX3_caneAt_16 : decode cX3_caneAt 16 = .ok (.goto 4, 3) := by decide +kernel
theorem dX3_caneAt_19 : decode cX3_caneAt 19 = .ok (.aconst_null, 1) := by decide +kernel
theorem dX3_caneAt_20 : decode cX3_caneAt 20 = .ok (.areturn, 1) := by decide +kernel
theorem dX3_sliceAt_0 : decode cX3_sliceAt 0 = .ok (.iload_n 1, 1) := by decide +kernel
theorem dX3_sliceAt_1 : decode cX3_sliceAt 1 = .ok (.ifCond .lt 18, 3) := by decide +kernel
theorem dX3_sliceAt_4 : decode cX3_sliceAt 4 = .ok (.iload_n 1, 1) := by decide +kernel
theorem dX3_sliceAt_5 : decode cX3_sliceAt 5 = .ok (.bipush 60, 2) := by decide +kernel
theorem dX3_sliceAt_7 : decode cX3_sliceAt 7 = .ok (.if_icmp .ge 12, 3) := by decide +kernel
theorem dX3_sliceAt_10 : decode cX3_sliceAt 10 = .ok (.aload_n 0, 1) := by decide +kernel
theorem dX3_sliceAt_11 : decode cX3_sliceAt 11 = .ok (.getfield 17, 3) := by decide +kernel
theorem dX3_sliceAt_14 : decode cX3_sliceAt 14 = .ok (.iload_n 1, 1) := by decide +kernel
theorem dX3_sliceAt_15 : decode cX3_sliceAt 15 = .ok (.aaload, 1) := by decide +kernel
theorem dX3_sliceAt_16 : decode cX3_sliceAt 16 = .ok (.goto 4, 3) := by decide +kernel
theorem dX3_sliceAt_19 : decode cX3_sliceAt 19 = .ok (.aconst_null, 1) := by decide +kernel
theorem dX3_sliceAt_20 : decode cX3_sliceAt 20 = .ok (.areturn, 1) := by decide +kernel
theorem dX3_isBead_0 : decode cX3_isBead 0 = .ok (.iload_n 1, 1) := by decide +kernel
theorem dX3_isBead_1 : decode cX3_isBead 1 = .ok (.ifCond .lt 15, 3) := by decide +kernel
theorem dX3_isBead_4 : decode cX3_isBead 4 = .ok (.iload_n 1, 1) := by decide +kernel
theorem dX3_isBead_5 : decode cX3_isBead 5 = .ok (.aload_n 0, 1) := by decide +kernel
theorem dX3_isBead_6 : decode cX3_isBead 6 = .ok (.getfield 158, 3) := by decide +kernel
theorem dX3_isBead_9 : decode cX3_isBead 9 = .ok (.if_icmp .ge 7, 3) := by decide +kernel
theorem dX3_isBead_12 : decode cX3_isBead 12 = .ok (.iconst 1, 1) := by decide +kernel
theorem dX3_isBead_13 : decode cX3_isBead 13 = .ok (.goto 4, 3) := by decide +kernel
theorem dX3_isBead_16 : decode cX3_isBead 16 = .ok (.iconst 0, 1) := by decide +kernel
theorem dX3_isBead_17 : decode cX3_isBead 17 = .ok (.ireturn, 1) := by decide +kernel
theorem dX3_isEye_0 : decode cX3_isEye 0 = .ok (.iload_n 0, 1) := by decide +kernel
theorem dX3_isEye_1 : decode cX3_isEye 1 = .ok (.ifCond .lt 12, 3) := by decide +kernel
theorem dX3_isEye_4 : decode cX3_isEye 4 = .ok (.iload_n 0, 1) := by decide +kernel
theorem dX3_isEye_5 : decode cX3_isEye 5 = .ok (.iconst 4, 1) := by decide +kernel
theorem dX3_isEye_6 : decode cX3_isEye 6 = .ok (.if_icmp .ge 7, 3) := by decide +kernel
theorem dX3_isEye_9 : decode cX3_isEye 9 = .ok (.iconst 1, 1) := by decide +kernel
theorem dX3_isEye_10 : decode cX3_isEye 10 = .ok (.goto 4, 3) := by decide +kernel
theorem dX3_isEye_13 : decode cX3_isEye 13 = .ok (.iconst 0, 1) := by decide +kernel
theorem dX3_isEye_14 : decode cX3_isEye 14 = .ok (.ireturn, 1) := by decide +kernel
theorem dX3_isRing_0 : decode cX3_isRing 0 = .ok (.iload_n 0, 1) := by decide +kernel
theorem dX3_isRing_1 : decode cX3_isRing 1 = .ok (.ifCond .lt 12, 3) := by decide +kernel
theorem dX3_isRing_4 : decode cX3_isRing 4 = .ok (.iload_n 0, 1) := by decide +kernel
theorem dX3_isRing_5 : decode cX3_isRing 5 = .ok (.iconst 3, 1) := by decide +kernel
theorem dX3_isRing_6 : decode cX3_isRing 6 = .ok (.if_icmp .ge 7, 3) := by decide +kernel
theorem dX3_isRing_9 : decode cX3_isRing 9 = .ok (.iconst 1, 1) := by decide +kernel
theorem dX3_isRing_10 : decode cX3_isRing 10 = .ok (.goto 4, 3) := by decide +kernel
theorem dX3_isRing_13 : decode cX3_isRing 13 = .ok (.iconst 0, 1) := by decide +kernel
theorem dX3_isRing_14 : decode cX3_isRing 14 = .ok (.ireturn, 1) := by decide +kernel
theorem dX3_isSector_0 : decode cX3_isSector 0 = .ok (.iload_n 0, 1) := by decide +kernel
theorem dX3_isSector_1 : decode cX3_isSector 1 = .ok (.ifCond .lt 13, 3) := by decide +kernel
theorem dX3_isSector_4 : decode cX3_isSector 4 = .ok (.iload_n 0, 1) := by decide +kernel
theorem dX3_isSector_5 : decode cX3_isSector 5 = .ok (.bipush 8, 2) := by decide +kernel
theorem dX3_isSector_7 : decode cX3_isSector 7 = .ok (.if_icmp .ge 7, 3) := by decide +kernel
theorem dX3_isSector_10 : decode cX3_isSector 10 = .ok (.iconst 1, 1) := by decide +kernel
theorem dX3_isSector_11 : decode cX3_isSector 11 = .ok (.goto 4, 3) := by decide +kernel
theorem dX3_isSector_14 : decode cX3_isSector 14 = .ok (.iconst 0, 1) := by decide +kernel
theorem dX3_isSector_15 : decode cX3_isSector 15 = .ok (.ireturn, 1) := by decide +kernel
theorem dX3_isTwist_0 : decode cX3_isTwist 0 = .ok (.iload_n 0, 1) := by decide +kernel
theorem dX3_isTwist_1 : decode cX3_isTwist 1 = .ok (.bipush (-4), 2) := by decide +kernel
theorem dX3_isTwist_3 : decode cX3_isTwist 3 = .ok (.if_icmp .lt 12, 3) := by decide +kernel
theorem dX3_isTwist_6 : decode cX3_isTwist 6 = .ok (.iload_n 0, 1) := by decide +kernel
theorem dX3_isTwist_7 : decode cX3_isTwist 7 = .ok (.iconst 4, 1) := by decide +kernel
theorem dX3_isTwist_8 : decode cX3_isTwist 8 = .ok (.if_icmp .gt 7, 3) := by decide +kernel
theorem dX3_isTwist_11 : decode cX3_isTwist 11 = .ok (.iconst 1, 1) := by decide +kernel
theorem dX3_isTwist_12 : decode cX3_isTwist 12 = .ok (.goto 4, 3) := by decide +kernel
theorem dX3_isTwist_15 : decode cX3_isTwist 15 = .ok (.iconst 0, 1) := by decide +kernel
theorem dX3_isTwist_16 : decode cX3_isTwist 16 = .ok (.ireturn, 1) := by decide +kernel
set_option maxRecDepth 20000 in
theorem ggX3_passMinute_X0_passMinute : GoodIn wsX3_passMinute wsX0_passMinute := goodIn_r _ [8, 9, 10, 11, 12, 13, 14, 15, 16, 25, 26, 27, 28, 29] (by decide +kernel) (by decide +kernel)
set_option maxRecDepth 20000 in
theorem gX3_passMinute_X0_passMinute : GoodIn wsX3_passMinute (wsV RX3 248 RX0 yX0_passMinute wsX0_passMinute) := goodIn_app (goodIn_of _ (by decide +kernel)) ggX3_passMinute_X0_passMinute
theorem dX3_passMinute_0 : decode cX3_passMinute 0 = .ok (.iconst 0, 1) := by decide +kernel
theorem dX3_passMinute_1 : decode cX3_passMinute 1 = .ok (.istore_n 1, 1) := by decide +kernel
theorem dX3_passMinute_2 : decode cX3_passMinute 2 = .ok (.iload_n 1, 1) := by decide +kernel
theorem dX3_passMinute_3 : decode cX3_passMinute 3 = .ok (.bipush 8, 2) := by decide +kernel
theorem dX3_passMinute_5 : decode cX3_passMinute 5 = .ok (.if_icmp .ge 37, 3) := by decide +kernel
theorem dX3_passMinute_8 : decode cX3_passMinute 8 = .ok (.aload_n 0, 1) := by decide +kernel
theorem dX3_passMinute_9 : decode cX3_passMinute 9 = .ok (.getfield 11, 3) := by decide +kernel
theorem dX3_passMinute_12 : decode cX3_passMinute 12 = .ok (.iload_n 1, 1) := by decide +kernel
theorem dX3_passMinute_13 : decode cX3_passMinute 13 = .ok (.aaload, 1) := by decide +kernel
theorem dX3_passMinute_14 : decode cX3_passMinute 14 = .ok (.astore_n 2, 1) := by decide +kernel
theorem dX3_passMinute_15 : decode cX3_passMinute 15 = .ok (.aload_n 2, 1) := by decide +kernel
theorem dX3_passMinute_16 : decode cX3_passMinute 16 = .ok (.ifnull 20, 3) := by decide +kernel
theorem dX3_passMinute_19 : decode cX3_passMinute 19 = .ok (.aload_n 2, 1) := by decide +kernel
theorem dX3_passMinute_20 : decode cX3_passMinute 20 = .ok (.iload_n 1, 1) := by decide +kernel
theorem dX3_passMinute_21 : decode cX3_passMinute 21 = .ok (.aload_n 0, 1) := by decide +kernel
theorem dX3_passMinute_22 : decode cX3_passMinute 22 = .ok (.getfield 24, 3) := by decide +kernel
theorem dX3_passMinute_25 : decode cX3_passMinute 25 = .ok (.if_icmp .ne 7, 3) := by decide +kernel
theorem dX3_passMinute_28 : decode cX3_passMinute 28 = .ok (.iconst 1, 1) := by decide +kernel
theorem dX3_passMinute_29 : decode cX3_passMinute 29 = .ok (.goto 4, 3) := by decide +kernel
theorem dX3_passMinute_32 : decode cX3_passMinute 32 = .ok (.iconst 0, 1) := by decide +kernel
theorem dX3_passMinute_33 : decode cX3_passMinute 33 = .ok (.invokevirtual 248, 3) := by decide +kernel
theorem dX3_passMinute_36 : decode cX3_passMinute 36 = .ok (.iinc 1 1, 3) := by decide +kernel
theorem dX3_passMinute_39 : decode cX3_passMinute 39 = .ok (.goto (-37), 3) := by decide +kernel
theorem dX3_passMinute_42 : decode cX3_passMinute 42 = .ok (.aload_n 0, 1) := by decide +kernel
theorem dX3_passMinute_43 : decode cX3_passMinute 43 = .ok (.dup, 1) := by decide +kernel
theorem dX3_passMinute_44 : decode cX3_passMinute 44 = .ok (.getfield 251, 3) := by decide +kernel
theorem dX3_passMinute_47 : decode cX3_passMinute 47 = .ok (.iconst 1, 1) := by decide +kernel
theorem dX3_passMinute_48 : decode cX3_passMinute 48 = .ok (.iadd, 1) := by decide +kernel
theorem dX3_passMinute_49 : decode cX3_passMinute 49 = .ok (.putfield 251, 3) := by decide +kernel
theorem dX3_passMinute_52 : decode cX3_passMinute 52 = .ok (.return_, 1) := by decide +kernel
theorem dX3_heatOfAll_0 : decode cX3_heatOfAll 0 = .ok (.iconst 0, 1) := by decide +kernel
theorem dX3_heatOfAll_1 : decode cX3_heatOfAll 1 = .ok (.istore_n 1, 1) := by decide +kernel
theorem dX3_heatOfAll_2 : decode cX3_heatOfAll 2 = .ok (.aload_n 0, 1) := by decide +kernel
theorem dX3_heatOfAll_3 : decode cX3_heatOfAll 3 = .ok (.getfield 11, 3) := by decide +kernel
theorem dX3_heatOfAll_6 : decode cX3_heatOfAll 6 = .ok (.astore_n 2, 1) := by decide +kernel
theorem dX3_heatOfAll_7 : decode cX3_heatOfAll 7 = .ok (.aload_n 2, 1) := by decide +kernel
theorem dX3_heatOfAll_8 : decode cX3_heatOfAll 8 = .ok (.arraylength, 1) := by decide +kernel
theorem dX3_heatOfAll_9 : decode cX3_heatOfAll 9 = .ok (.istore_n 3, 1) := by decide +kernel
theorem dX3_heatOfAll_10 : decode cX3_heatOfAll 10 = .ok (.iconst 0, 1) := by decide +kernel
theorem dX3_heatOfAll_11 : decode cX3_heatOfAll 11 = .ok (.istore 4, 2) := by decide +kernel
theorem dX3_heatOfAll_13 : decode cX3_heatOfAll 13 = .ok (.iload 4, 2) := by decide +kernel
theorem dX3_heatOfAll_15 : decode cX3_heatOfAll 15 = .ok (.iload_n 3, 1) := by decide +kernel
theorem dX3_heatOfAll_16 : decode cX3_heatOfAll 16 = .ok (.if_icmp .ge 28, 3) := by decide +kernel
theorem dX3_heatOfAll_19 : decode cX3_heatOfAll 19 = .ok (.aload_n 2, 1) := by decide +kernel
theorem dX3_heatOfAll_20 : decode cX3_heatOfAll 20 = .ok (.iload 4, 2) := by decide +kernel
theorem dX3_heatOfAll_22 : decode cX3_heatOfAll 22 = .ok (.aaload, 1) := by decide +kernel
theorem dX3_heatOfAll_23 : decode cX3_heatOfAll 23 = .ok (.astore 5, 2) := by decide +kernel
theorem dX3_heatOfAll_25 : decode cX3_heatOfAll 25 = .ok (.aload 5, 2) := by decide +kernel
theorem dX3_heatOfAll_27 : decode cX3_heatOfAll 27 = .ok (.ifnull 11, 3) := by decide +kernel
theorem dX3_heatOfAll_30 : decode cX3_heatOfAll 30 = .ok (.iload_n 1, 1) := by decide +kernel
theorem dX3_heatOfAll_31 : decode cX3_heatOfAll 31 = .ok (.aload 5, 2) := by decide +kernel
theorem dX3_heatOfAll_33 : decode cX3_heatOfAll 33 = .ok (.getfield 106, 3) := by decide +kernel
theorem dX3_heatOfAll_36 : decode cX3_heatOfAll 36 = .ok (.iadd, 1) := by decide +kernel
theorem dX3_heatOfAll_37 : decode cX3_heatOfAll 37 = .ok (.istore_n 1, 1) := by decide +kernel
theorem dX3_heatOfAll_38 : decode cX3_heatOfAll 38 = .ok (.iinc 4 1, 3) := by decide +kernel
theorem dX3_heatOfAll_41 : decode cX3_heatOfAll 41 = .ok (.goto (-28), 3) := by decide +kernel
theorem dX3_heatOfAll_44 : decode cX3_heatOfAll 44 = .ok (.iload_n 1, 1) := by decide +kernel
theorem dX3_heatOfAll_45 : decode cX3_heatOfAll 45 = .ok (.ireturn, 1) := by decide +kernel
theorem dX3_lengthOfAll_0 : decode cX3_lengthOfAll 0 = .ok (.iconst 0, 1) := by decide +kernel
theorem dX3_lengthOfAll_1 : decode cX3_lengthOfAll 1 = .ok (.istore_n 1, 1) := by decide +kernel
theorem dX3_lengthOfAll_2 : decode cX3_lengthOfAll 2 = .ok (.aload_n 0, 1) := by decide +kernel
theorem dX3_lengthOfAll_3 : decode cX3_lengthOfAll 3 = .ok (.getfield 11, 3) := by decide +kernel
theorem dX3_lengthOfAll_6 : decode cX3_lengthOfAll 6 = .ok (.astore_n 2, 1) := by decide +kernel
theorem dX3_lengthOfAll_7 : decode cX3_lengthOfAll 7 = .ok (.aload_n 2, 1) := by decide +kernel
theorem dX3_lengthOfAll_8 : decode cX3_lengthOfAll 8 = .ok (.arraylength, 1) := by decide +kernel
theorem dX3_lengthOfAll_9 : decode cX3_lengthOfAll 9 = .ok (.istore_n 3, 1) := by decide +kernel
theorem dX3_lengthOfAll_10 : decode cX3_lengthOfAll 10 = .ok (.iconst 0, 1) := by decide +kernel
theorem dX3_lengthOfAll_11 : decode cX3_lengthOfAll 11 = .ok (.istore 4, 2) := by decide +kernel
theorem dX3_lengthOfAll_13 : decode cX3_lengthOfAll 13 = .ok (.iload 4, 2) := by decide +kernel
theorem dX3_lengthOfAll_15 : decode cX3_lengthOfAll 15 = .ok (.iload_n 3, 1) := by decide +kernel
theorem dX3_lengthOfAll_16 : decode cX3_lengthOfAll 16 = .ok (.if_icmp .ge 28, 3) := by decide +kernel
theorem dX3_lengthOfAll_19 : decode cX3_lengthOfAll 19 = .ok (.aload_n 2, 1) := by decide +kernel
theorem dX3_lengthOfAll_20 : decode cX3_lengthOfAll 20 = .ok (.iload 4, 2) := by decide +kernel
theorem dX3_lengthOfAll_22 : decode cX3_lengthOfAll 22 = .ok (.aaload, 1) := by decide +kernel
theorem dX3_lengthOfAll_23 : decode cX3_lengthOfAll 23 = .ok (.astore 5, 2) := by decide +kernel
theorem dX3_lengthOfAll_25 : decode cX3_lengthOfAll 25 = .ok (.aload 5, 2) := by decide +kernel
theorem dX3_lengthOfAll_27 : decode cX3_lengthOfAll 27 = .ok (.ifnull 11, 3) := by decide +kernel
theorem dX3_lengthOfAll_30 : decode cX3_lengthOfAll 30 = .ok (.iload_n 1, 1) := by decide +kernel
theorem dX3_lengthOfAll_31 : decode cX3_lengthOfAll 31 = .ok (.aload 5, 2) := by decide +kernel
theorem dX3_lengthOfAll_33 : decode cX3_lengthOfAll 33 = .ok (.getfield 103, 3) := by decide +kernel
theorem dX3_lengthOfAll_36 : decode cX3_lengthOfAll 36 = .ok (.iadd, 1) := by decide +kernel
theorem dX3_lengthOfAll_37 : decode cX3_lengthOfAll 37 = .ok (.istore_n 1, 1) := by decide +kernel
theorem dX3_lengthOfAll_38 : decode cX3_lengthOfAll 38 = .ok (.iinc 4 1, 3) := by decide +kernel
theorem dX3_lengthOfAll_41 : decode cX3_lengthOfAll 41 = .ok (.goto (-28), 3) := by decide +kernel
theorem dX3_lengthOfAll_44 : decode cX3_lengthOfAll 44 = .ok (.iload_n 1, 1) := by decide +kernel
theorem dX3_lengthOfAll_45 : decode cX3_lengthOfAll 45 = .ok (.ireturn, 1) := by decide +kernel
theorem dX3_wholeCanes_0 : decode cX3_wholeCanes 0 = .ok (.iconst 0, 1) := by decide +kernel
theorem dX3_wholeCanes_1 : decode cX3_wholeCanes 1 = .ok (.istore_n 1, 1) := by decide +kernel
theorem dX3_wholeCanes_2 : decode cX3_wholeCanes 2 = .ok (.aload_n 0, 1) := by decide +kernel
theorem dX3_wholeCanes_3 : decode cX3_wholeCanes 3 = .ok (.getfield 11, 3) := by decide +kernel
theorem dX3_wholeCanes_6 : decode cX3_wholeCanes 6 = .ok (.astore_n 2, 1) := by decide +kernel
theorem dX3_wholeCanes_7 : decode cX3_wholeCanes 7 = .ok (.aload_n 2, 1) := by decide +kernel
theorem dX3_wholeCanes_8 : decode cX3_wholeCanes 8 = .ok (.arraylength, 1) := by decide +kernel
theorem dX3_wholeCanes_9 : decode cX3_wholeCanes 9 = .ok (.istore_n 3, 1) := by decide +kernel
theorem dX3_wholeCanes_10 : decode cX3_wholeCanes 10 = .ok (.iconst 0, 1) := by decide +kernel
theorem dX3_wholeCanes_11 : decode cX3_wholeCanes 11 = .ok (.istore 4, 2) := by decide +kernel
theorem dX3_wholeCanes_13 : decode cX3_wholeCanes 13 = .ok (.iload 4, 2) := by decide +kernel
theorem dX3_wholeCanes_15 : decode cX3_wholeCanes 15 = .ok (.iload_n 3, 1) := by decide +kernel
theorem dX3_wholeCanes_16 : decode cX3_wholeCanes 16 = .ok (.if_icmp .ge 31, 3) := by decide +kernel
theorem dX3_wholeCanes_19 : decode cX3_wholeCanes 19 = .ok (.aload_n 2, 1) := by decide +kernel
theorem dX3_wholeCanes_20 : decode cX3_wholeCanes 20 = .ok (.iload 4, 2) := by decide +kernel
theorem dX3_wholeCanes_22 : decode cX3_wholeCanes 22 = .ok (.aaload, 1) := by decide +kernel
theorem dX3_wholeCanes_23 : decode cX3_wholeCanes 23 = .ok (.astore 5, 2) := by decide +kernel
theorem dX3_wholeCanes_25 : decode cX3_wholeCanes 25 = .ok (.aload 5, 2) := by decide +kernel
theorem dX3_wholeCanes_27 : decode cX3_wholeCanes 27 = .ok (.ifnull 14, 3) := by decide +kernel
theorem dX3_wholeCanes_30 : decode cX3_wholeCanes 30 = .ok (.aload 5, 2) := by decide +kernel
theorem dX3_wholeCanes_32 : decode cX3_wholeCanes 32 = .ok (.getfield 62, 3) := by decide +kernel
theorem dX3_wholeCanes_35 : decode cX3_wholeCanes 35 = .ok (.ifCond .ne 6, 3) := by decide +kernel
theorem dX3_wholeCanes_38 : decode cX3_wholeCanes 38 = .ok (.iinc 1 1, 3) := by decide +kernel
theorem dX3_wholeCanes_41 : decode cX3_wholeCanes 41 = .ok (.iinc 4 1, 3) := by decide +kernel
theorem dX3_wholeCanes_44 : decode cX3_wholeCanes 44 = .ok (.goto (-31), 3) := by decide +kernel
theorem dX3_wholeCanes_47 : decode cX3_wholeCanes 47 = .ok (.iload_n 1, 1) := by decide +kernel
theorem dX3_wholeCanes_48 : decode cX3_wholeCanes 48 = .ok (.ireturn, 1) := by decide +kernel
set_option maxRecDepth 20000 in
theorem ggX3_kindOf_X1_leastTurnTo : GoodIn wsX3_kindOf wsX1_leastTurnTo := goodIn_r _ [7, 8, 9, 10, 6, 11, 12, 13, 14, 15, 16, 17, 18, 19, 20, 21, 22, 23, 37] (by decide +kernel) (by decide +kernel)
set_option maxRecDepth 20000 in
theorem gX3_kindOf_X1_leastTurnTo : GoodIn wsX3_kindOf (wsV RX3 212 RX1 yX1_leastTurnTo wsX1_leastTurnTo) := goodIn_app (goodIn_of _ (by decide +kernel)) ggX3_kindOf_X1_leastTurnTo
theorem dX3_kindOf_0 : decode cX3_kindOf 0 = .ok (.iconst 0, 1) := by decide +kernel
theorem dX3_kindOf_1 : decode cX3_kindOf 1 = .ok (.istore_n 2, 1) := by decide +kernel
theorem dX3_kindOf_2 : decode cX3_kindOf 2 = .ok (.iload_n 2, 1) := by decide +kernel
theorem dX3_kindOf_3 : decode cX3_kindOf 3 = .ok (.bipush 60, 2) := by decide +kernel
theorem dX3_kindOf_5 : decode cX3_kindOf 5 = .ok (.if_icmp .ge 34, 3) := by decide +kernel
theorem dX3_kindOf_8 : decode cX3_kindOf 8 = .ok (.aload_n 0, 1) := by decide +kernel
theorem dX3_kindOf_9 : decode cX3_kindOf 9 = .ok (.getfield 17, 3) := by decide +kernel
theorem dX3_kindOf_12 : decode cX3_kindOf 12 = .ok (.iload_n 2, 1) := by decide +kernel
theorem dX3_kindOf_13 : decode cX3_kindOf 13 = .ok (.aaload, 1) := by decide +kernel
theorem dX3_kindOf_14 : decode cX3_kindOf 14 = .ok (.astore_n 3, 1) := by decide +kernel
theorem dX3_kindOf_15 : decode cX3_kindOf 15 = .ok (.aload_n 3, 1) := by decide +kernel
theorem dX3_kindOf_16 : decode cX3_kindOf 16 = .ok (.ifnull 17, 3) := by decide +kernel
theorem dX3_kindOf_19 : decode cX3_kindOf 19 = .ok (.aload_n 1, 1) := by decide +kernel
theorem dX3_kindOf_20 : decode cX3_kindOf 20 = .ok (.aload_n 3, 1) := by decide +kernel
theorem dX3_kindOf_21 : decode cX3_kindOf 21 = .ok (.getfield 152, 3) := by decide +kernel
theorem dX3_kindOf_24 : decode cX3_kindOf 24 = .ok (.invokevirtual 212, 3) := by decide +kernel
theorem dX3_kindOf_27 : decode cX3_kindOf 27 = .ok (.iconst (-1), 1) := by decide +kernel
theorem dX3_kindOf_28 : decode cX3_kindOf 28 = .ok (.if_icmp .eq 5, 3) := by decide +kernel
theorem dX3_kindOf_31 : decode cX3_kindOf 31 = .ok (.iload_n 2, 1) := by decide +kernel
theorem dX3_kindOf_32 : decode cX3_kindOf 32 = .ok (.ireturn, 1) := by decide +kernel
theorem dX3_kindOf_33 : decode cX3_kindOf 33 = .ok (.iinc 2 1, 3) := by decide +kernel
theorem dX3_kindOf_36 : decode cX3_kindOf 36 = .ok (.goto (-34), 3) := by decide +kernel
theorem dX3_kindOf_39 : decode cX3_kindOf 39 = .ok (.aload_n 0, 1) := by decide +kernel
theorem dX3_kindOf_40 : decode cX3_kindOf 40 = .ok (.getfield 111, 3) := by decide +kernel
theorem dX3_kindOf_43 : decode cX3_kindOf 43 = .ok (.ireturn, 1) := by decide +kernel
set_option maxRecDepth 20000 in
theorem ggX3_freeSlicesOf_X2_isFree : GoodIn wsX3_freeSlicesOf wsX2_isFree := goodIn_r _ [6, 7, 16, 17, 18, 19, 20] (by decide +kernel) (by decide +kernel)
set_option maxRecDepth 20000 in
theorem gX3_freeSlicesOf_X2_isFree : GoodIn wsX3_freeSlicesOf (wsV RX3 173 RX2 yX2_isFree wsX2_isFree) := goodIn_app (goodIn_of _ (by decide +kernel)) ggX3_freeSlicesOf_X2_isFree
theorem dX3_freeSlicesOf_0 : decode cX3_freeSlicesOf 0 = .ok (.iconst 0, 1) := by decide +kernel
theorem dX3_freeSlicesOf_1 : decode cX3_freeSlicesOf 1 = .ok (.istore_n 2, 1) := by decide +kernel
theorem dX3_freeSlicesOf_2 : decode cX3_freeSlicesOf 2 = .ok (.aload_n 0, 1) := by decide +kernel
theorem dX3_freeSlicesOf_3 : decode cX3_freeSlicesOf 3 = .ok (.getfield 17, 3) := by decide +kernel
theorem dX3_freeSlicesOf_6 : decode cX3_freeSlicesOf 6 = .ok (.astore_n 3, 1) := by decide +kernel
theorem dX3_freeSlicesOf_7 : decode cX3_freeSlicesOf 7 = .ok (.aload_n 3, 1) := by decide +kernel
theorem dX3_freeSlicesOf_8 : decode cX3_freeSlicesOf 8 = .ok (.arraylength, 1) := by decide +kernel
theorem dX3_freeSlicesOf_9 : decode cX3_freeSlicesOf 9 = .ok (.istore 4, 2) := by decide +kernel
theorem dX3_freeSlicesOf_11 : decode cX3_freeSlicesOf 11 = .ok (.iconst 0, 1) := by decide +kernel
theorem dX3_freeSlicesOf_12 : decode cX3_freeSlicesOf 12 = .ok (.istore 5, 2) := by decide +kernel
theorem dX3_freeSlicesOf_14 : decode cX3_freeSlicesOf 14 = .ok (.iload 5, 2) := by decide +kernel
theorem dX3_freeSlicesOf_16 : decode cX3_freeSlicesOf 16 = .ok (.iload 4, 2) := by decide +kernel
theorem dX3_freeSlicesOf_18 : decode cX3_freeSlicesOf 18 = .ok (.if_icmp .ge 40, 3) := by decide +kernel
theorem dX3_freeSlicesOf_21 : decode cX3_freeSlicesOf 21 = .ok (.aload_n 3, 1) := by decide +kernel
theorem dX3_freeSlicesOf_22 : decode cX3_freeSlicesOf 22 = .ok (.iload 5, 2) := by decide +kernel
theorem dX3_freeSlicesOf_24 : decode cX3_freeSlicesOf 24 = .ok (.aaload, 1) := by decide +kernel
theorem dX3_freeSlicesOf_25 : decode cX3_freeSlicesOf 25 = .ok (.astore 6, 2) := by decide +kernel
theorem dX3_freeSlicesOf_27 : decode cX3_freeSlicesOf 27 = .ok (.aload 6, 2) := by decide +kernel
theorem dX3_freeSlicesOf_29 : decode cX3_freeSlicesOf 29 = .ok (.ifnull 23, 3) := by decide +kernel
theorem dX3_freeSlicesOf_32 : decode cX3_freeSlicesOf 32 = .ok (.aload 6, 2) := by decide +kernel
theorem dX3_freeSlicesOf_34 : decode cX3_freeSlicesOf 34 = .ok (.invokevirtual 173, 3) := by decide +kernel
theorem dX3_freeSlicesOf_37 : decode cX3_freeSlicesOf 37 = .ok (.ifCond .eq 15, 3) := by decide +kernel
theorem dX3_freeSlicesOf_40 : decode cX3_freeSlicesOf 40 = .ok (.aload 6, 2) := by decide +kernel
theorem dX3_freeSlicesOf_42 : decode cX3_freeSlicesOf 42 = .ok (.getfield 226, 3) := by decide +kernel
theorem dX3_freeSlicesOf_45 : decode cX3_freeSlicesOf 45 = .ok (.iload_n 1, 1) := by decide +kernel
theorem dX3_freeSlicesOf_46 : decode cX3_freeSlicesOf 46 = .ok (.if_icmp .ne 6, 3) := by decide +kernel
theorem dX3_freeSlicesOf_49 : decode cX3_freeSlicesOf 49 = .ok (.iinc 2 1, 3) := by decide +kernel
theorem dX3_freeSlicesOf_52 : decode cX3_freeSlicesOf 52 = .ok (.iinc 5 1, 3) := by decide +kernel
theorem dX3_freeSlicesOf_55 : decode cX3_freeSlicesOf 55 = .ok (.goto (-41), 3) := by decide +kernel
theorem dX3_freeSlicesOf_58 : decode cX3_freeSlicesOf 58 = .ok (.iload_n 2, 1) := by decide +kernel
theorem dX3_freeSlicesOf_59 : decode cX3_freeSlicesOf 59 = .ok (.ireturn, 1) := by decide +kernel
set_option maxRecDepth 20000 in
theorem ggX3_canFillBead_X3_freeSlicesOf : GoodIn wsX3_canFillBead wsX3_freeSlicesOf := goodIn_r _ [6, 7, 8, 9, 10, 11, 12, 13, 14, 15, 16, 17, 18, 19, 20, 21, 22, 23, 24, 25, 26] (by decide +kernel) (by decide +kernel)
set_option maxRecDepth 20000 in
theorem gX3_canFillBead_X3_freeSlicesOf : GoodIn wsX3_canFillBead (wsV RX3 229 RX3 yX3_freeSlicesOf wsX3_freeSlicesOf) := goodIn_app (goodIn_of _ (by decide +kernel)) ggX3_canFillBead_X3_freeSlicesOf
theorem dX3_canFillBead_0 : decode cX3_canFillBead 0 = .ok (.iconst 0, 1) := by decide +kernel
theorem dX3_canFillBead_1 : decode cX3_canFillBead 1 = .ok (.istore_n 1, 1) := by decide +kernel
theorem dX3_canFillBead_2 : decode cX3_canFillBead 2 = .ok (.iload_n 1, 1) := by decide +kernel
theorem dX3_canFillBead_3 : decode cX3_canFillBead 3 = .ok (.aload_n 0, 1) := by decide +kernel
theorem dX3_canFillBead_4 : decode cX3_canFillBead 4 = .ok (.getfield 111, 3) := by decide +kernel
theorem dX3_canFillBead_7 : decode cX3_canFillBead 7 = .ok (.if_icmp .ge 20, 3) := by decide +kernel
theorem dX3_canFillBead_10 : decode cX3_canFillBead 10 = .ok (.aload_n 0, 1) := by decide +kernel
theorem dX3_canFillBead_11 : decode cX3_canFillBead 11 = .ok (.iload_n 1, 1) := by decide +kernel
theorem dX3_canFillBead_12 : decode cX3_canFillBead 12 = .ok (.invokevirtual 229, 3) := by decide +kernel
theorem dX3_canFillBead_15 : decode cX3_canFillBead 15 = .ok (.iconst 4, 1) := by decide +kernel
theorem dX3_canFillBead_16 : decode cX3_canFillBead 16 = .ok (.if_icmp .lt 5, 3) := by decide +kernel
theorem dX3_canFillBead_19 : decode cX3_canFillBead 19 = .ok (.iconst 1, 1) := by decide +kernel
theorem dX3_canFillBead_20 : decode cX3_canFillBead 20 = .ok (.ireturn, 1) := by decide +kernel
theorem dX3_canFillBead_21 : decode cX3_canFillBead 21 = .ok (.iinc 1 1, 3) := by decide +kernel
theorem dX3_canFillBead_24 : decode cX3_canFillBead 24 = .ok (.goto (-22), 3) := by decide +kernel
theorem dX3_canFillBead_27 : decode cX3_canFillBead 27 = .ok (.iconst 0, 1) := by decide +kernel
theorem dX3_canFillBead_28 : decode cX3_canFillBead 28 = .ok (.ireturn, 1) := by decide +kernel
theorem dX3_slicesInEyes_0 : decode cX3_slicesInEyes 0 = .ok (.iconst 0, 1) := by decide +kernel
theorem dX3_slicesInEyes_1 : decode cX3_slicesInEyes 1 = .ok (.istore_n 1, 1) := by decide +kernel
theorem dX3_slicesInEyes_2 : decode cX3_slicesInEyes 2 = .ok (.aload_n 0, 1) := by decide +kernel
theorem dX3_slicesInEyes_3 : decode cX3_slicesInEyes 3 = .ok (.getfield 21, 3) := by decide +kernel
theorem dX3_slicesInEyes_6 : decode cX3_slicesInEyes 6 = .ok (.astore_n 2, 1) := by decide +kernel
theorem dX3_slicesInEyes_7 : decode cX3_slicesInEyes 7 = .ok (.aload_n 2, 1) := by decide +kernel
theorem dX3_slicesInEyes_8 : decode cX3_slicesInEyes 8 = .ok (.arraylength, 1) := by decide +kernel
theorem dX3_slicesInEyes_9 : decode cX3_slicesInEyes 9 = .ok (.istore_n 3, 1) := by decide +kernel
theorem dX3_slicesInEyes_10 : decode cX3_slicesInEyes 10 = .ok (.iconst 0, 1) := by decide +kernel
theorem dX3_slicesInEyes_11 : decode cX3_slicesInEyes 11 = .ok (.istore 4, 2) := by decide +kernel
theorem dX3_slicesInEyes_13 : decode cX3_slicesInEyes 13 = .ok (.iload 4, 2) := by decide +kernel
theorem dX3_slicesInEyes_15 : decode cX3_slicesInEyes 15 = .ok (.iload_n 3, 1) := by decide +kernel
theorem dX3_slicesInEyes_16 : decode cX3_slicesInEyes 16 = .ok (.if_icmp .ge 23, 3) := by decide +kernel
theorem dX3_slicesInEyes_19 : decode cX3_slicesInEyes 19 = .ok (.aload_n 2, 1) := by decide +kernel
theorem dX3_slicesInEyes_20 : decode cX3_slicesInEyes 20 = .ok (.iload 4, 2) := by decide +kernel
theorem dX3_slicesInEyes_22 : decode cX3_slicesInEyes 22 = .ok (.aaload, 1) := by decide +kernel
theorem dX3_slicesInEyes_23 : decode cX3_slicesInEyes 23 = .ok (.astore 5, 2) := by decide +kernel
theorem dX3_slicesInEyes_25 : decode cX3_slicesInEyes 25 = .ok (.aload 5, 2) := by decide +kernel
theorem dX3_slicesInEyes_27 : decode cX3_slicesInEyes 27 = .ok (.ifnull 6, 3) := by decide +kernel
theorem dX3_slicesInEyes_30 : decode cX3_slicesInEyes 30 = .ok (.iinc 1 1, 3) := by decide +kernel
theorem dX3_slicesInEyes_33 : decode cX3_slicesInEyes 33 = .ok (.iinc 4 1, 3) := by decide +kernel
theorem dX3_slicesInEyes_36 : decode cX3_slicesInEyes 36 = .ok (.goto (-23), 3) := by decide +kernel
theorem dX3_slicesInEyes_39 : decode cX3_slicesInEyes 39 = .ok (.iload_n 1, 1) := by decide +kernel
theorem dX3_slicesInEyes_40 : decode cX3_slicesInEyes 40 = .ok (.ireturn, 1) := by decide +kernel
theorem dX3_filledEyes_0 : decode cX3_filledEyes 0 = .ok (.iconst 0, 1) := by decide +kernel
theorem dX3_filledEyes_1 : decode cX3_filledEyes 1 = .ok (.istore_n 2, 1) := by decide +kernel
theorem dX3_filledEyes_2 : decode cX3_filledEyes 2 = .ok (.iconst 0, 1) := by decide +kernel
theorem dX3_filledEyes_3 : decode cX3_filledEyes 3 = .ok (.istore_n 3, 1) := by decide +kernel
theorem dX3_filledEyes_4 : decode cX3_filledEyes 4 = .ok (.iload_n 3, 1) := by decide +kernel
theorem dX3_filledEyes_5 : decode cX3_filledEyes 5 = .ok (.iconst 4, 1) := by decide +kernel
theorem dX3_filledEyes_6 : decode cX3_filledEyes 6 = .ok (.if_icmp .ge 25, 3) := by decide +kernel
theorem dX3_filledEyes_9 : decode cX3_filledEyes 9 = .ok (.aload_n 0, 1) := by decide +kernel
theorem dX3_filledEyes_10 : decode cX3_filledEyes 10 = .ok (.getfield 21, 3) := by decide +kernel
theorem dX3_filledEyes_13 : decode cX3_filledEyes 13 = .ok (.iconst 4, 1) := by decide +kernel
theorem dX3_filledEyes_14 : decode cX3_filledEyes 14 = .ok (.iload_n 1, 1) := by decide +kernel
theorem dX3_filledEyes_15 : decode cX3_filledEyes 15 = .ok (.imul, 1) := by decide +kernel
theorem dX3_filledEyes_16 : decode cX3_filledEyes 16 = .ok (.iload_n 3, 1) := by decide +kernel
theorem dX3_filledEyes_17 : decode cX3_filledEyes 17 = .ok (.iadd, 1) := by decide +kernel
theorem dX3_filledEyes_18 : decode cX3_filledEyes 18 = .ok (.aaload, 1) := by decide +kernel
theorem dX3_filledEyes_19 : decode cX3_filledEyes 19 = .ok (.ifnull 6, 3) := by decide +kernel
theorem dX3_filledEyes_22 : decode cX3_filledEyes 22 = .ok (.iinc 2 1, 3) := by decide +kernel
theorem dX3_filledEyes_25 : decode cX3_filledEyes 25 = .ok (.iinc 3 1, 3) := by decide +kernel
theorem dX3_filledEyes_28 : decode cX3_filledEyes 28 = .ok (.goto (-24), 3) := by decide +kernel
theorem dX3_filledEyes_31 : decode cX3_filledEyes 31 = .ok (.iload_n 2, 1) := by decide +kernel
theorem dX3_filledEyes_32 : decode cX3_filledEyes 32 = .ok (.ireturn, 1) := by decide +kernel
set_option maxRecDepth 20000 in
theorem ggX3_eyesLike_X1_looksLike : GoodIn wsX3_eyesLike wsX1_looksLike := goodIn_r _ [6, 7, 8, 9, 10, 5, 11, 12, 13, 14, 15, 16, 17, 18, 32] (by decide +kernel) (by decide +kernel)
set_option maxRecDepth 20000 in
theorem gX3_eyesLike_X1_looksLike : GoodIn wsX3_eyesLike (wsV RX3 208 RX1 yX1_looksLike wsX1_looksLike) := goodIn_app (goodIn_of _ (by decide +kernel)) ggX3_eyesLike_X1_looksLike
theorem dX3_eyesLike_0 : decode cX3_eyesLike 0 = .ok (.iconst 0, 1) := by decide +kernel
theorem dX3_eyesLike_1 : decode cX3_eyesLike 1 = .ok (.istore_n 3, 1) := by decide +kernel
theorem dX3_eyesLike_2 : decode cX3_eyesLike 2 = .ok (.iconst 0, 1) := by decide +kernel
theorem dX3_eyesLike_3 : decode cX3_eyesLike 3 = .ok (.istore 4, 2) := by decide +kernel
theorem dX3_eyesLike_5 : decode cX3_eyesLike 5 = .ok (.iload 4, 2) := by decide +kernel
theorem dX3_eyesLike_7 : decode cX3_eyesLike 7 = .ok (.iconst 4, 1) := by decide +kernel
theorem dX3_eyesLike_8 : decode cX3_eyesLike 8 = .ok (.if_icmp .ge 55, 3) := by decide +kernel
theorem dX3_eyesLike_11 : decode cX3_eyesLike 11 = .ok (.aload_n 0, 1) := by decide +kernel
theorem dX3_eyesLike_12 : decode cX3_eyesLike 12 = .ok (.getfield 21, 3) := by decide +kernel
theorem dX3_eyesLike_15 : decode cX3_eyesLike 15 = .ok (.iconst 4, 1) := by decide +kernel
theorem dX3_eyesLike_16 : decode cX3_eyesLike 16 = .ok (.iload_n 1, 1) := by decide +kernel
theorem dX3_eyesLike_17 : decode cX3_eyesLike 17 = .ok (.imul, 1) := by decide +kernel
theorem dX3_eyesLike_18 : decode cX3_eyesLike 18 = .ok (.iload 4, 2) := by decide +kernel
theorem dX3_eyesLike_20 : decode cX3_eyesLike 20 = .ok (.iadd, 1) := by decide +kernel
theorem dX3_eyesLike_21 : decode cX3_eyesLike 21 = .ok (.aaload, 1) := by decide +kernel
theorem dX3_eyesLike_22 : decode cX3_eyesLike 22 = .ok (.astore 5, 2) := by decide +kernel
theorem dX3_eyesLike_24 : decode cX3_eyesLike 24 = .ok (.aload 5, 2) := by decide +kernel
theorem dX3_eyesLike_26 : decode cX3_eyesLike 26 = .ok (.ifnull 31, 3) := by decide +kernel
theorem dX3_eyesLike_29 : decode cX3_eyesLike 29 = .ok (.aload 5, 2) := by decide +kernel
theorem dX3_eyesLike_31 : decode cX3_eyesLike 31 = .ok (.getfield 152, 3) := by decide +kernel
theorem dX3_eyesLike_34 : decode cX3_eyesLike 34 = .ok (.aload_n 2, 1) := by decide +kernel
theorem dX3_eyesLike_35 : decode cX3_eyesLike 35 = .ok (.getfield 152, 3) := by decide +kernel
theorem dX3_eyesLike_38 : decode cX3_eyesLike 38 = .ok (.aload 5, 2) := by decide +kernel
theorem dX3_eyesLike_40 : decode cX3_eyesLike 40 = .ok (.getfield 198, 3) := by decide +kernel
theorem dX3_eyesLike_43 : decode cX3_eyesLike 43 = .ok (.aload_n 2, 1) := by decide +kernel
theorem dX3_eyesLike_44 : decode cX3_eyesLike 44 = .ok (.getfield 198, 3) := by decide +kernel
theorem dX3_eyesLike_47 : decode cX3_eyesLike 47 = .ok (.isub, 1) := by decide +kernel
theorem dX3_eyesLike_48 : decode cX3_eyesLike 48 = .ok (.invokevirtual 208, 3) := by decide +kernel
theorem dX3_eyesLike_51 : decode cX3_eyesLike 51 = .ok (.ifCond .eq 6, 3) := by decide +kernel
theorem dX3_eyesLike_54 : decode cX3_eyesLike 54 = .ok (.iinc 3 1, 3) := by decide +kernel
theorem dX3_eyesLike_57 : decode cX3_eyesLike 57 = .ok (.iinc 4 1, 3) := by decide +kernel
theorem dX3_eyesLike_60 : decode cX3_eyesLike 60 = .ok (.goto (-55), 3) := by decide +kernel
theorem dX3_eyesLike_63 : decode cX3_eyesLike 63 = .ok (.iload_n 3, 1) := by decide +kernel
theorem dX3_eyesLike_64 : decode cX3_eyesLike 64 = .ok (.ireturn, 1) := by decide +kernel
set_option maxRecDepth 20000 in
theorem ggX3_beadsOfOneLook_X3_eyesLike : GoodIn wsX3_beadsOfOneLook wsX3_eyesLike := goodIn_r _ [7, 2, 8, 9, 10, 11, 12, 13, 14, 15, 16, 17, 18, 19, 20, 21, 22, 23, 24, 25, 26, 27, 28, 29, 30, 31, 32, 33, 34, 35, 36, 37, 38] (by decide +kernel) (by decide +kernel)
set_option maxRecDepth 20000 in
theorem gX3_beadsOfOneLook_X3_eyesLike : GoodIn wsX3_beadsOfOneLook (wsV RX3 222 RX3 yX3_eyesLike wsX3_eyesLike) := goodIn_app (goodIn_of _ (by decide +kernel)) ggX3_beadsOfOneLook_X3_eyesLike
theorem dX3_beadsOfOneLook_0 : decode cX3_beadsOfOneLook 0 = .ok (.iconst 0, 1) := by decide +kernel
theorem dX3_beadsOfOneLook_1 : decode cX3_beadsOfOneLook 1 = .ok (.istore_n 1, 1) := by decide +kernel
theorem dX3_beadsOfOneLook_2 : decode cX3_beadsOfOneLook 2 = .ok (.iconst 0, 1) := by decide +kernel
theorem dX3_beadsOfOneLook_3 : decode cX3_beadsOfOneLook 3 = .ok (.istore_n 2, 1) := by decide +kernel
theorem dX3_beadsOfOneLook_4 : decode cX3_beadsOfOneLook 4 = .ok (.iload_n 2, 1) := by decide +kernel
theorem dX3_beadsOfOneLook_5 : decode cX3_beadsOfOneLook 5 = .ok (.aload_n 0, 1) := by decide +kernel
theorem dX3_beadsOfOneLook_6 : decode cX3_beadsOfOneLook 6 = .ok (.getfield 158, 3) := by decide +kernel
theorem dX3_beadsOfOneLook_9 : decode cX3_beadsOfOneLook 9 = .ok (.if_icmp .ge 35, 3) := by decide +kernel
theorem dX3_beadsOfOneLook_12 : decode cX3_beadsOfOneLook 12 = .ok (.aload_n 0, 1) := by decide +kernel
theorem dX3_beadsOfOneLook_13 : decode cX3_beadsOfOneLook 13 = .ok (.getfield 21, 3) := by decide +kernel
theorem dX3_beadsOfOneLook_16 : decode cX3_beadsOfOneLook 16 = .ok (.iconst 4, 1) := by decide +kernel
theorem dX3_beadsOfOneLook_17 : decode cX3_beadsOfOneLook 17 = .ok (.iload_n 2, 1) := by decide +kernel
theorem dX3_beadsOfOneLook_18 : decode cX3_beadsOfOneLook 18 = .ok (.imul, 1) := by decide +kernel
theorem dX3_beadsOfOneLook_19 : decode cX3_beadsOfOneLook 19 = .ok (.aaload, 1) := by decide +kernel
theorem dX3_beadsOfOneLook_20 : decode cX3_beadsOfOneLook 20 = .ok (.astore_n 3, 1) := by decide +kernel
theorem dX3_beadsOfOneLook_21 : decode cX3_beadsOfOneLook 21 = .ok (.aload_n 3, 1) := by decide +kernel
theorem dX3_beadsOfOneLook_22 : decode cX3_beadsOfOneLook 22 = .ok (.ifnull 16, 3) := by decide +kernel
theorem dX3_beadsOfOneLook_25 : decode cX3_beadsOfOneLook 25 = .ok (.aload_n 0, 1) := by decide +kernel
theorem dX3_beadsOfOneLook_26 : decode cX3_beadsOfOneLook 26 = .ok (.iload_n 2, 1) := by decide +kernel
theorem dX3_beadsOfOneLook_27 : decode cX3_beadsOfOneLook 27 = .ok (.aload_n 3, 1) := by decide +kernel
theorem dX3_beadsOfOneLook_28 : decode cX3_beadsOfOneLook 28 = .ok (.invokevirtual 222, 3) := by decide +kernel
theorem dX3_beadsOfOneLook_31 : decode cX3_beadsOfOneLook 31 = .ok (.iconst 4, 1) := by decide +kernel
theorem dX3_beadsOfOneLook_32 : decode cX3_beadsOfOneLook 32 = .ok (.if_icmp .ne 6, 3) := by decide +kernel
theorem dX3_beadsOfOneLook_35 : decode cX3_beadsOfOneLook 35 = .ok (.iinc 1 1, 3) := by decide +kernel
theorem dX3_beadsOfOneLook_38 : decode cX3_beadsOfOneLook 38 = .ok (.iinc 2 1, 3) := by decide +kernel
theorem dX3_beadsOfOneLook_41 : decode cX3_beadsOfOneLook 41 = .ok (.goto (-37), 3) := by decide +kernel
theorem dX3_beadsOfOneLook_44 : decode cX3_beadsOfOneLook 44 = .ok (.iload_n 1, 1) := by decide +kernel
theorem dX3_beadsOfOneLook_45 : decode cX3_beadsOfOneLook 45 = .ok (.ireturn, 1) := by decide +kernel
set_option maxRecDepth 20000 in
theorem ggX3_tally_X3_wholeCanes : GoodIn wsX3_tally wsX3_wholeCanes := goodIn_r _ [9, 10, 45, 46, 47, 48, 49, 50, 51, 52, 53, 54, 55, 56, 57] (by decide +kernel) (by decide +kernel)
set_option maxRecDepth 20000 in
theorem gX3_tally_X3_wholeCanes : GoodIn wsX3_tally (wsV RX3 254 RX3 yX3_wholeCanes wsX3_wholeCanes) := goodIn_app (goodIn_of _ (by decide +kernel)) ggX3_tally_X3_wholeCanes
set_option maxRecDepth 20000 in
theorem ggX3_tally_X3_slicesInEyes : GoodIn wsX3_tally wsX3_slicesInEyes := goodIn_r _ [14, 15, 45, 46, 47, 48, 49, 50, 51, 52] (by decide +kernel) (by decide +kernel)
set_option maxRecDepth 20000 in
theorem gX3_tally_X3_slicesInEyes : GoodIn wsX3_tally (wsV RX3 257 RX3 yX3_slicesInEyes wsX3_slicesInEyes) := goodIn_app (goodIn_of _ (by decide +kernel)) ggX3_tally_X3_slicesInEyes
set_option maxRecDepth 20000 in
theorem ggX3_tally_X3_beadsOfOneLook : GoodIn wsX3_tally wsX3_beadsOfOneLook := goodIn_r _ [19, 4, 15, 20, 21, 22, 8, 23, 24, 25, 26, 27, 28, 29, 30, 31, 32, 33, 34, 35, 36, 37, 38, 39, 40, 45, 46, 47, 48, 49, 50, 51, 52, 58, 59, 60, 61, 62, 63] (by decide +kernel) (by decide +kernel)
set_option maxRecDepth 20000 in
theorem gX3_tally_X3_beadsOfOneLook : GoodIn wsX3_tally (wsV RX3 260 RX3 yX3_beadsOfOneLook wsX3_beadsOfOneLook) := goodIn_app (goodIn_of _ (by decide +kernel)) ggX3_tally_X3_beadsOfOneLook
set_option maxRecDepth 20000 in
theorem ggX3_tally_X3_lengthOfAll : GoodIn wsX3_tally wsX3_lengthOfAll := goodIn_r _ [44, 10, 45, 46, 47, 48, 49, 50, 51, 52, 53, 54, 55, 56, 57] (by decide +kernel) (by decide +kernel)
set_option maxRecDepth 20000 in
theorem gX3_tally_X3_lengthOfAll : GoodIn wsX3_tally (wsV RX3 263 RX3 yX3_lengthOfAll wsX3_lengthOfAll) := goodIn_app (goodIn_of _ (by decide +kernel)) ggX3_tally_X3_lengthOfAll
theorem dX3_tally_0 : decode cX3_tally 0 = .ok (.iload_n 1, 1) := by decide +kernel
theorem dX3_tally_1 : decode cX3_tally 1 = .ok (.tableswitch 78 0 6 #[43, 48, 53, 58, 63, 68, 73], 43) := by decide +kernel
theorem dX3_tally_44 : decode cX3_tally 44 = .ok (.aload_n 0, 1) := by decide +kernel
theorem dX3_tally_45 : decode cX3_tally 45 = .ok (.getfield 251, 3) := by decide +kernel
theorem dX3_tally_48 : decode cX3_tally 48 = .ok (.ireturn, 1) := by decide +kernel
theorem dX3_tally_49 : decode cX3_tally 49 = .ok (.aload_n 0, 1) := by decide +kernel
theorem dX3_tally_50 : decode cX3_tally 50 = .ok (.getfield 28, 3) := by decide +kernel
theorem dX3_tally_53 : decode cX3_tally 53 = .ok (.ireturn, 1) := by decide +kernel
theorem dX3_tally_54 : decode cX3_tally 54 = .ok (.aload_n 0, 1) := by decide +kernel
theorem dX3_tally_55 : decode cX3_tally 55 = .ok (.invokevirtual 254, 3) := by decide +kernel
theorem dX3_tally_58 : decode cX3_tally 58 = .ok (.ireturn, 1) := by decide +kernel
theorem dX3_tally_59 : decode cX3_tally 59 = .ok (.aload_n 0, 1) := by decide +kernel
theorem dX3_tally_60 : decode cX3_tally 60 = .ok (.getfield 111, 3) := by decide +kernel
theorem dX3_tally_63 : decode cX3_tally 63 = .ok (.ireturn, 1) := by decide +kernel
theorem dX3_tally_64 : decode cX3_tally 64 = .ok (.aload_n 0, 1) := by decide +kernel
theorem dX3_tally_65 : decode cX3_tally 65 = .ok (.invokevirtual 257, 3) := by decide +kernel
theorem dX3_tally_68 : decode cX3_tally 68 = .ok (.ireturn, 1) := by decide +kernel
theorem dX3_tally_69 : decode cX3_tally 69 = .ok (.aload_n 0, 1) := by decide +kernel
theorem dX3_tally_70 : decode cX3_tally 70 = .ok (.getfield 158, 3) := by decide +kernel
theorem dX3_tally_73 : decode cX3_tally 73 = .ok (.ireturn, 1) := by decide +kernel
theorem dX3_tally_74 : decode cX3_tally 74 = .ok (.aload_n 0, 1) := by decide +kernel
theorem dX3_tally_75 : decode cX3_tally 75 = .ok (.invokevirtual 260, 3) := by decide +kernel
theorem dX3_tally_78 : decode cX3_tally 78 = .ok (.ireturn, 1) := by decide +kernel
theorem dX3_tally_79 : decode cX3_tally 79 = .ok (.aload_n 0, 1) := by decide +kernel
theorem dX3_tally_80 : decode cX3_tally 80 = .ok (.invokevirtual 263, 3) := by decide +kernel
theorem dX3_tally_83 : decode cX3_tally 83 = .ok (.ireturn, 1) := by decide +kernel
theorem dX3_digestWith_0 : decode cX3_digestWith 0 = .ok (.lload_n 0, 1) := by decide +kernel
theorem dX3_digestWith_1 : decode cX3_digestWith 1 = .ok (.ldc2_w 266, 3) := by decide +kernel
theorem dX3_digestWith_4 : decode cX3_digestWith 4 = .ok (.lmul, 1) := by decide +kernel
theorem dX3_digestWith_5 : decode cX3_digestWith 5 = .ok (.iload_n 2, 1) := by decide +kernel
theorem dX3_digestWith_6 : decode cX3_digestWith 6 = .ok (.i2l, 1) := by decide +kernel
theorem dX3_digestWith_7 : decode cX3_digestWith 7 = .ok (.ladd, 1) := by decide +kernel
theorem dX3_digestWith_8 : decode cX3_digestWith 8 = .ok (.lreturn, 1) := by decide +kernel
set_option maxRecDepth 20000 in
theorem ggX3_digestWithCanes_X0_tell : GoodIn wsX3_digestWithCanes wsX0_tell := goodIn_r _ [7, 8, 9, 10, 11, 28, 29, 30, 31, 32] (by decide +kernel) (by decide +kernel)
set_option maxRecDepth 20000 in
theorem gX3_digestWithCanes_X0_tell : GoodIn wsX3_digestWithCanes (wsV RX3 133 RX0 yX0_tell wsX0_tell) := goodIn_app (goodIn_of _ (by decide +kernel)) ggX3_digestWithCanes_X0_tell
set_option maxRecDepth 20000 in
theorem ggX3_digestWithCanes_X3_digestWith : GoodIn wsX3_digestWithCanes wsX3_digestWith := goodIn_r _ [15, 16] (by decide +kernel) (by decide +kernel)
set_option maxRecDepth 20000 in
theorem gX3_digestWithCanes_X3_digestWith : GoodIn wsX3_digestWithCanes (va_wsS RX3 234 yX3_digestWith wsX3_digestWith) := goodIn_app (goodIn_of _ (by decide +kernel)) ggX3_digestWithCanes_X3_digestWith
set_option maxRecDepth 20000 in
theorem ggX3_digestWithCanes_X3_digestWithPattern : GoodIn wsX3_digestWithCanes wsX3_digestWithPattern := goodIn_r _ [19, 12, 13, 14, 15, 16, 33] (by decide +kernel) (by decide +kernel)
set_option maxRecDepth 20000 in
theorem gX3_digestWithCanes_X3_digestWithPattern : GoodIn wsX3_digestWithCanes (va_wsS RX3 268 yX3_digestWithPattern wsX3_digestWithPattern) := goodIn_app (goodIn_of _ (by decide +kernel)) ggX3_digestWithCanes_X3_digestWithPattern
theorem dX3_digestWithCanes_0 : decode cX3_digestWithCanes 0 = .ok (.lload_n 1, 1) := by decide +kernel
theorem dX3_digestWithCanes_1 : decode cX3_digestWithCanes 1 = .ok (.lstore_n 3, 1) := by decide +kernel
theorem dX3_digestWithCanes_2 : decode cX3_digestWithCanes 2 = .ok (.iconst 0, 1) := by decide +kernel
theorem dX3_digestWithCanes_3 : decode cX3_digestWithCanes 3 = .ok (.istore 5, 2) := by decide +kernel
theorem dX3_digestWithCanes_5 : decode cX3_digestWithCanes 5 = .ok (.iload 5, 2) := by decide +kernel
theorem dX3_digestWithCanes_7 : decode cX3_digestWithCanes 7 = .ok (.bipush 8, 2) := by decide +kernel
theorem dX3_digestWithCanes_9 : decode cX3_digestWithCanes 9 = .ok (.if_icmp .ge 74, 3) := by decide +kernel
theorem dX3_digestWithCanes_12 : decode cX3_digestWithCanes 12 = .ok (.aload_n 0, 1) := by decide +kernel
theorem dX3_digestWithCanes_13 : decode cX3_digestWithCanes 13 = .ok (.getfield 11, 3) := by decide +kernel
theorem dX3_digestWithCanes_16 : decode cX3_digestWithCanes 16 = .ok (.iload 5, 2) := by decide +kernel
theorem dX3_digestWithCanes_18 : decode cX3_digestWithCanes 18 = .ok (.aaload, 1) := by decide +kernel
theorem dX3_digestWithCanes_19 : decode cX3_digestWithCanes 19 = .ok (.astore 6, 2) := by decide +kernel
theorem dX3_digestWithCanes_21 : decode cX3_digestWithCanes 21 = .ok (.aload 6, 2) := by decide +kernel
theorem dX3_digestWithCanes_23 : decode cX3_digestWithCanes 23 = .ok (.ifnull 54, 3) := by decide +kernel
theorem dX3_digestWithCanes_26 : decode cX3_digestWithCanes 26 = .ok (.iconst 0, 1) := by decide +kernel
theorem dX3_digestWithCanes_27 : decode cX3_digestWithCanes 27 = .ok (.istore 7, 2) := by decide +kernel
theorem dX3_digestWithCanes_29 : decode cX3_digestWithCanes 29 = .ok (.iload 7, 2) := by decide +kernel
theorem dX3_digestWithCanes_31 : decode cX3_digestWithCanes 31 = .ok (.iconst 5, 1) := by decide +kernel
theorem dX3_digestWithCanes_32 : decode cX3_digestWithCanes 32 = .ok (.if_icmp .ge 35, 3) := by decide +kernel
theorem dX3_digestWithCanes_35 : decode cX3_digestWithCanes 35 = .ok (.lload_n 3, 1) := by decide +kernel
theorem dX3_digestWithCanes_36 : decode cX3_digestWithCanes 36 = .ok (.aload 6, 2) := by decide +kernel
theorem dX3_digestWithCanes_38 : decode cX3_digestWithCanes 38 = .ok (.iload 7, 2) := by decide +kernel
theorem dX3_digestWithCanes_40 : decode cX3_digestWithCanes 40 = .ok (.iload 5, 2) := by decide +kernel
theorem dX3_digestWithCanes_42 : decode cX3_digestWithCanes 42 = .ok (.aload_n 0, 1) := by decide +kernel
theorem dX3_digestWithCanes_43 : decode cX3_digestWithCanes 43 = .ok (.getfield 24, 3) := by decide +kernel
theorem dX3_digestWithCanes_46 : decode cX3_digestWithCanes 46 = .ok (.if_icmp .ne 7, 3) := by decide +kernel
theorem dX3_digestWithCanes_49 : decode cX3_digestWithCanes 49 = .ok (.iconst 1, 1) := by decide +kernel
theorem dX3_digestWithCanes_50 : decode cX3_digestWithCanes 50 = .ok (.goto 4, 3) := by decide +kernel
theorem dX3_digestWithCanes_53 : decode cX3_digestWithCanes 53 = .ok (.iconst 0, 1) := by decide +kernel
theorem dX3_digestWithCanes_54 : decode cX3_digestWithCanes 54 = .ok (.invokevirtual 133, 3) := by decide +kernel
theorem dX3_digestWithCanes_57 : decode cX3_digestWithCanes 57 = .ok (.invokestatic 234, 3) := by decide +kernel
theorem dX3_digestWithCanes_60 : decode cX3_digestWithCanes 60 = .ok (.lstore_n 3, 1) := by decide +kernel
theorem dX3_digestWithCanes_61 : decode cX3_digestWithCanes 61 = .ok (.iinc 7 1, 3) := by decide +kernel
theorem dX3_digestWithCanes_64 : decode cX3_digestWithCanes 64 = .ok (.goto (-35), 3) := by decide +kernel
theorem dX3_digestWithCanes_67 : decode cX3_digestWithCanes 67 = .ok (.lload_n 3, 1) := by decide +kernel
theorem dX3_digestWithCanes_68 : decode cX3_digestWithCanes 68 = .ok (.aload 6, 2) := by decide +kernel
theorem dX3_digestWithCanes_70 : decode cX3_digestWithCanes 70 = .ok (.getfield 71, 3) := by decide +kernel
theorem dX3_digestWithCanes_73 : decode cX3_digestWithCanes 73 = .ok (.invokestatic 268, 3) := by decide +kernel
theorem dX3_digestWithCanes_76 : decode cX3_digestWithCanes 76 = .ok (.lstore_n 3, 1) := by decide +kernel
theorem dX3_digestWithCanes_77 : decode cX3_digestWithCanes 77 = .ok (.iinc 5 1, 3) := by decide +kernel
theorem dX3_digestWithCanes_80 : decode cX3_digestWithCanes 80 = .ok (.goto (-75), 3) := by decide +kernel
theorem dX3_digestWithCanes_83 : decode cX3_digestWithCanes 83 = .ok (.lload_n 3, 1) := by decide +kernel
theorem dX3_digestWithCanes_84 : decode cX3_digestWithCanes 84 = .ok (.lreturn, 1) := by decide +kernel
set_option maxRecDepth 20000 in
theorem ggX3_digestWithSlices_X3_digestWithPattern : GoodIn wsX3_digestWithSlices wsX3_digestWithPattern := goodIn_r _ [5, 6, 7, 4, 8, 9, 23] (by decide +kernel) (by decide +kernel)
set_option maxRecDepth 20000 in
theorem gX3_digestWithSlices_X3_digestWithPattern : GoodIn wsX3_digestWithSlices (va_wsS RX3 268 yX3_digestWithPattern wsX3_digestWithPattern) := goodIn_app (goodIn_of _ (by decide +kernel)) ggX3_digestWithSlices_X3_digestWithPattern
set_option maxRecDepth 20000 in
theorem ggX3_digestWithSlices_X3_digestWith : GoodIn wsX3_digestWithSlices wsX3_digestWith := goodIn_r _ [8, 9] (by decide +kernel) (by decide +kernel)
set_option maxRecDepth 20000 in
theorem gX3_digestWithSlices_X3_digestWith : GoodIn wsX3_digestWithSlices (va_wsS RX3 234 yX3_digestWith wsX3_digestWith) := goodIn_app (goodIn_of _ (by decide +kernel)) ggX3_digestWithSlices_X3_digestWith
theorem dX3_digestWithSlices_0 : decode cX3_digestWithSlices 0 = .ok (.lload_n 1, 1) := by decide +kernel
theorem dX3_digestWithSlices_1 : decode cX3_digestWithSlices 1 = .ok (.lstore_n 3, 1) := by decide +kernel
theorem dX3_digestWithSlices_2 : decode cX3_digestWithSlices 2 = .ok (.aload_n 0, 1) := by decide +kernel
theorem dX3_digestWithSlices_3 : decode cX3_digestWithSlices 3 = .ok (.getfield 17, 3) := by decide +kernel
theorem dX3_digestWithSlices_6 : decode cX3_digestWithSlices 6 = .ok (.astore 5, 2) := by decide +kernel
theorem dX3_digestWithSlices_8 : decode cX3_digestWithSlices 8 = .ok (.aload 5, 2) := by decide +kernel
theorem dX3_digestWithSlices_10 : decode cX3_digestWithSlices 10 = .ok (.arraylength, 1) := by decide +kernel
theorem dX3_digestWithSlices_11 : decode cX3_digestWithSlices 11 = .ok (.istore 6, 2) := by decide +kernel
theorem dX3_digestWithSlices_13 : decode cX3_digestWithSlices 13 = .ok (.iconst 0, 1) := by decide +kernel
theorem dX3_digestWithSlices_14 : decode cX3_digestWithSlices 14 = .ok (.istore 7, 2) := by decide +kernel
theorem dX3_digestWithSlices_16 : decode cX3_digestWithSlices 16 = .ok (.iload 7, 2) := by decide +kernel
theorem dX3_digestWithSlices_18 : decode cX3_digestWithSlices 18 = .ok (.iload 6, 2) := by decide +kernel
theorem dX3_digestWithSlices_20 : decode cX3_digestWithSlices 20 = .ok (.if_icmp .ge 41, 3) := by decide +kernel
theorem dX3_digestWithSlices_23 : decode cX3_digestWithSlices 23 = .ok (.aload 5, 2) := by decide +kernel
theorem dX3_digestWithSlices_25 : decode cX3_digestWithSlices 25 = .ok (.iload 7, 2) := by decide +kernel
theorem dX3_digestWithSlices_27 : decode cX3_digestWithSlices 27 = .ok (.aaload, 1) := by decide +kernel
theorem dX3_digestWithSlices_28 : decode cX3_digestWithSlices 28 = .ok (.astore 8, 2) := by decide +kernel
theorem dX3_digestWithSlices_30 : decode cX3_digestWithSlices 30 = .ok (.aload 8, 2) := by decide +kernel
theorem dX3_digestWithSlices_32 : decode cX3_digestWithSlices 32 = .ok (.ifnull 23, 3) := by decide +kernel
theorem dX3_digestWithSlices_35 : decode cX3_digestWithSlices 35 = .ok (.lload_n 3, 1) := by decide +kernel
theorem dX3_digestWithSlices_36 : decode cX3_digestWithSlices 36 = .ok (.aload 8, 2) := by decide +kernel
theorem dX3_digestWithSlices_38 : decode cX3_digestWithSlices 38 = .ok (.getfield 152, 3) := by decide +kernel
theorem dX3_digestWithSlices_41 : decode cX3_digestWithSlices 41 = .ok (.invokestatic 268, 3) := by decide +kernel
theorem dX3_digestWithSlices_44 : decode cX3_digestWithSlices 44 = .ok (.lstore_n 3, 1) := by decide +kernel
theorem dX3_digestWithSlices_45 : decode cX3_digestWithSlices 45 = .ok (.lload_n 3, 1) := by decide +kernel
theorem dX3_digestWithSlices_46 : decode cX3_digestWithSlices 46 = .ok (.aload 8, 2) := by decide +kernel
theorem dX3_digestWithSlices_48 : decode cX3_digestWithSlices 48 = .ok (.getfield 155, 3) := by decide +kernel
theorem dX3_digestWithSlices_51 : decode cX3_digestWithSlices 51 = .ok (.invokestatic 234, 3) := by decide +kernel
theorem dX3_digestWithSlices_54 : decode cX3_digestWithSlices 54 = .ok (.lstore_n 3, 1) := by decide +kernel
theorem dX3_digestWithSlices_55 : decode cX3_digestWithSlices 55 = .ok (.iinc 7 1, 3) := by decide +kernel
theorem dX3_digestWithSlices_58 : decode cX3_digestWithSlices 58 = .ok (.goto (-42), 3) := by decide +kernel
theorem dX3_digestWithSlices_61 : decode cX3_digestWithSlices 61 = .ok (.lload_n 3, 1) := by decide +kernel
theorem dX3_digestWithSlices_62 : decode cX3_digestWithSlices 62 = .ok (.lreturn, 1) := by decide +kernel
set_option maxRecDepth 20000 in
theorem ggX3_digestWithEyes_X3_digestWith : GoodIn wsX3_digestWithEyes wsX3_digestWith := goodIn_r _ [6, 7] (by decide +kernel) (by decide +kernel)
set_option maxRecDepth 20000 in
theorem gX3_digestWithEyes_X3_digestWith : GoodIn wsX3_digestWithEyes (va_wsS RX3 234 yX3_digestWith wsX3_digestWith) := goodIn_app (goodIn_of _ (by decide +kernel)) ggX3_digestWithEyes_X3_digestWith
theorem dX3_digestWithEyes_0 : decode cX3_digestWithEyes 0 = .ok (.lload_n 1, 1) := by decide +kernel
theorem dX3_digestWithEyes_1 : decode cX3_digestWithEyes 1 = .ok (.lstore_n 3, 1) := by decide +kernel
theorem dX3_digestWithEyes_2 : decode cX3_digestWithEyes 2 = .ok (.iconst 0, 1) := by decide +kernel
theorem dX3_digestWithEyes_3 : decode cX3_digestWithEyes 3 = .ok (.istore 5, 2) := by decide +kernel
theorem dX3_digestWithEyes_5 : decode cX3_digestWithEyes 5 = .ok (.iload 5, 2) := by decide +kernel
theorem dX3_digestWithEyes_7 : decode cX3_digestWithEyes 7 = .ok (.iconst 4, 1) := by decide +kernel
theorem dX3_digestWithEyes_8 : decode cX3_digestWithEyes 8 = .ok (.aload_n 0, 1) := by decide +kernel
theorem dX3_digestWithEyes_9 : decode cX3_digestWithEyes 9 = .ok (.getfield 158, 3) := by decide +kernel
theorem dX3_digestWithEyes_12 : decode cX3_digestWithEyes 12 = .ok (.imul, 1) := by decide +kernel
theorem dX3_digestWithEyes_13 : decode cX3_digestWithEyes 13 = .ok (.if_icmp .ge 56, 3) := by decide +kernel
theorem dX3_digestWithEyes_16 : decode cX3_digestWithEyes 16 = .ok (.aload_n 0, 1) := by decide +kernel
theorem dX3_digestWithEyes_17 : decode cX3_digestWithEyes 17 = .ok (.getfield 21, 3) := by decide +kernel
theorem dX3_digestWithEyes_20 : decode cX3_digestWithEyes 20 = .ok (.iload 5, 2) := by decide +kernel
theorem dX3_digestWithEyes_22 : decode cX3_digestWithEyes 22 = .ok (.aaload, 1) := by decide +kernel
theorem dX3_digestWithEyes_23 : decode cX3_digestWithEyes 23 = .ok (.astore 6, 2) := by decide +kernel
theorem dX3_digestWithEyes_25 : decode cX3_digestWithEyes 25 = .ok (.lload_n 3, 1) := by decide +kernel
theorem dX3_digestWithEyes_26 : decode cX3_digestWithEyes 26 = .ok (.aload 6, 2) := by decide +kernel
theorem dX3_digestWithEyes_28 : decode cX3_digestWithEyes 28 = .ok (.ifnonnull 7, 3) := by decide +kernel
theorem dX3_digestWithEyes_31 : decode cX3_digestWithEyes 31 = .ok (.iconst (-1), 1) := by decide +kernel
theorem dX3_digestWithEyes_32 : decode cX3_digestWithEyes 32 = .ok (.goto 8, 3) := by decide +kernel
theorem dX3_digestWithEyes_35 : decode cX3_digestWithEyes 35 = .ok (.aload 6, 2) := by decide +kernel
theorem dX3_digestWithEyes_37 : decode cX3_digestWithEyes 37 = .ok (.getfield 193, 3) := by decide +kernel
theorem dX3_digestWithEyes_40 : decode cX3_digestWithEyes 40 = .ok (.invokestatic 234, 3) := by decide +kernel
theorem dX3_digestWithEyes_43 : decode cX3_digestWithEyes 43 = .ok (.lstore_n 3, 1) := by decide +kernel
theorem dX3_digestWithEyes_44 : decode cX3_digestWithEyes 44 = .ok (.lload_n 3, 1) := by decide +kernel
theorem dX3_digestWithEyes_45 : decode cX3_digestWithEyes 45 = .ok (.aload 6, 2) := by decide +kernel
theorem dX3_digestWithEyes_47 : decode cX3_digestWithEyes 47 = .ok (.ifnonnull 7, 3) := by decide +kernel
theorem dX3_digestWithEyes_50 : decode cX3_digestWithEyes 50 = .ok (.iconst 0, 1) := by decide +kernel
theorem dX3_digestWithEyes_51 : decode cX3_digestWithEyes 51 = .ok (.goto 8, 3) := by decide +kernel
theorem dX3_digestWithEyes_54 : decode cX3_digestWithEyes 54 = .ok (.aload 6, 2) := by decide +kernel
theorem dX3_digestWithEyes_56 : decode cX3_digestWithEyes 56 = .ok (.getfield 198, 3) := by decide +kernel
theorem dX3_digestWithEyes_59 : decode cX3_digestWithEyes 59 = .ok (.invokestatic 234, 3) := by decide +kernel
theorem dX3_digestWithEyes_62 : decode cX3_digestWithEyes 62 = .ok (.lstore_n 3, 1) := by decide +kernel
theorem dX3_digestWithEyes_63 : decode cX3_digestWithEyes 63 = .ok (.iinc 5 1, 3) := by decide +kernel
theorem dX3_digestWithEyes_66 : decode cX3_digestWithEyes 66 = .ok (.goto (-61), 3) := by decide +kernel
theorem dX3_digestWithEyes_69 : decode cX3_digestWithEyes 69 = .ok (.lload_n 3, 1) := by decide +kernel
theorem dX3_digestWithEyes_70 : decode cX3_digestWithEyes 70 = .ok (.lreturn, 1) := by decide +kernel
set_option maxRecDepth 20000 in
theorem ggX3_digestWithPattern_X3_digestWith : GoodIn wsX3_digestWithPattern wsX3_digestWith := goodIn_r _ [4, 5] (by decide +kernel) (by decide +kernel)
set_option maxRecDepth 20000 in
theorem gX3_digestWithPattern_X3_digestWith : GoodIn wsX3_digestWithPattern (va_wsS RX3 234 yX3_digestWith wsX3_digestWith) := goodIn_app (goodIn_of _ (by decide +kernel)) ggX3_digestWithPattern_X3_digestWith
theorem dX3_digestWithPattern_0 : decode cX3_digestWithPattern 0 = .ok (.lload_n 0, 1) := by decide +kernel
theorem dX3_digestWithPattern_1 : decode cX3_digestWithPattern 1 = .ok (.lstore_n 3, 1) := by decide +kernel
theorem dX3_digestWithPattern_2 : decode cX3_digestWithPattern 2 = .ok (.aload_n 2, 1) := by decide +kernel
theorem dX3_digestWithPattern_3 : decode cX3_digestWithPattern 3 = .ok (.getfield 272, 3) := by decide +kernel
theorem dX3_digestWithPattern_6 : decode cX3_digestWithPattern 6 = .ok (.astore 5, 2) := by decide +kernel
theorem dX3_digestWithPattern_8 : decode cX3_digestWithPattern 8 = .ok (.aload 5, 2) := by decide +kernel
theorem dX3_digestWithPattern_10 : decode cX3_digestWithPattern 10 = .ok (.arraylength, 1) := by decide +kernel
theorem dX3_digestWithPattern_11 : decode cX3_digestWithPattern 11 = .ok (.istore 6, 2) := by decide +kernel
theorem dX3_digestWithPattern_13 : decode cX3_digestWithPattern 13 = .ok (.iconst 0, 1) := by decide +kernel
theorem dX3_digestWithPattern_14 : decode cX3_digestWithPattern 14 = .ok (.istore 7, 2) := by decide +kernel
theorem dX3_digestWithPattern_16 : decode cX3_digestWithPattern 16 = .ok (.iload 7, 2) := by decide +kernel
theorem dX3_digestWithPattern_18 : decode cX3_digestWithPattern 18 = .ok (.iload 6, 2) := by decide +kernel
theorem dX3_digestWithPattern_20 : decode cX3_digestWithPattern 20 = .ok (.if_icmp .ge 23, 3) := by decide +kernel
theorem dX3_digestWithPattern_23 : decode cX3_digestWithPattern 23 = .ok (.aload 5, 2) := by decide +kernel
theorem dX3_digestWithPattern_25 : decode cX3_digestWithPattern 25 = .ok (.iload 7, 2) := by decide +kernel
theorem dX3_digestWithPattern_27 : decode cX3_digestWithPattern 27 = .ok (.iaload, 1) := by decide +kernel
theorem dX3_digestWithPattern_28 : decode cX3_digestWithPattern 28 = .ok (.istore 8, 2) := by decide +kernel
theorem dX3_digestWithPattern_30 : decode cX3_digestWithPattern 30 = .ok (.lload_n 3, 1) := by decide +kernel
theorem dX3_digestWithPattern_31 : decode cX3_digestWithPattern 31 = .ok (.iload 8, 2) := by decide +kernel
theorem dX3_digestWithPattern_33 : decode cX3_digestWithPattern 33 = .ok (.invokestatic 234, 3) := by decide +kernel
theorem dX3_digestWithPattern_36 : decode cX3_digestWithPattern 36 = .ok (.lstore_n 3, 1) := by decide +kernel
end
section
theorem dX3_digestWithPattern_37 : decode cX3_digestWithPattern 37 = .ok (.iinc 7 1, 3) := by decide +kernel
theorem dX3_digestWithPattern_40 : decode cX3_digestWithPattern 40 = .ok (.goto (-24), 3) := by decide +kernel
theorem dX3_digestWithPattern_43 : decode cX3_digestWithPattern 43 = .ok (.lload_n 3, 1) := by decide +kernel
theorem dX3_digestWithPattern_44 : decode cX3_digestWithPattern 44 = .ok (.lreturn, 1) := by decide +kernel
theorem dX4_init_0 : decode cX4_init 0 = .ok (.aload_n 0, 1) := by decide +kernel
theorem dX4_init_1 : decode cX4_init 1 = .ok (.invokespecial 3, 3) := by decide +kernel
theorem dX4_init_4 : decode cX4_init 4 = .ok (.aload_n 0, 1) := by decide +kernel
theorem dX4_init_5 : decode cX4_init 5 = .ok (.iconst (-1), 1) := by decide +kernel
theorem dX4_init_6 : decode cX4_init 6 = .ok (.putfield 9, 3) := by decide +kernel
theorem dX4_init_9 : decode cX4_init 9 = .ok (.aload_n 0, 1) := by decide +kernel
theorem dX4_init_10 : decode cX4_init 10 = .ok (.bipush 8, 2) := by decide +kernel
theorem dX4_init_12 : decode cX4_init 12 = .ok (.newarray .int, 2) := by decide +kernel
theorem dX4_init_14 : decode cX4_init 14 = .ok (.putfield 13, 3) := by decide +kernel
theorem dX4_init_17 : decode cX4_init 17 = .ok (.aload_n 0, 1) := by decide +kernel
theorem dX4_init_18 : decode cX4_init 18 = .ok (.bipush 8, 2) := by decide +kernel
theorem dX4_init_20 : decode cX4_init 20 = .ok (.newarray .int, 2) := by decide +kernel
theorem dX4_init_22 : decode cX4_init 22 = .ok (.putfield 17, 3) := by decide +kernel
theorem dX4_init_25 : decode cX4_init 25 = .ok (.aload_n 0, 1) := by decide +kernel
theorem dX4_init_26 : decode cX4_init 26 = .ok (.bipush 8, 2) := by decide +kernel
theorem dX4_init_28 : decode cX4_init 28 = .ok (.newarray .int, 2) := by decide +kernel
theorem dX4_init_30 : decode cX4_init 30 = .ok (.putfield 20, 3) := by decide +kernel
theorem dX4_init_33 : decode cX4_init 33 = .ok (.aload_n 0, 1) := by decide +kernel
theorem dX4_init_34 : decode cX4_init 34 = .ok (.bipush 8, 2) := by decide +kernel
theorem dX4_init_36 : decode cX4_init 36 = .ok (.newarray .int, 2) := by decide +kernel
theorem dX4_init_38 : decode cX4_init 38 = .ok (.putfield 23, 3) := by decide +kernel
theorem dX4_init_41 : decode cX4_init 41 = .ok (.aload_n 0, 1) := by decide +kernel
theorem dX4_init_42 : decode cX4_init 42 = .ok (.bipush 24, 2) := by decide +kernel
theorem dX4_init_44 : decode cX4_init 44 = .ok (.newarray .int, 2) := by decide +kernel
theorem dX4_init_46 : decode cX4_init 46 = .ok (.putfield 26, 3) := by decide +kernel
theorem dX4_init_49 : decode cX4_init 49 = .ok (.aload_n 0, 1) := by decide +kernel
theorem dX4_init_50 : decode cX4_init 50 = .ok (.sipush 180, 3) := by decide +kernel
theorem dX4_init_53 : decode cX4_init 53 = .ok (.newarray .int, 2) := by decide +kernel
theorem dX4_init_55 : decode cX4_init 55 = .ok (.putfield 29, 3) := by decide +kernel
theorem dX4_init_58 : decode cX4_init 58 = .ok (.aload_n 0, 1) := by decide +kernel
theorem dX4_init_59 : decode cX4_init 59 = .ok (.bipush 60, 2) := by decide +kernel
theorem dX4_init_61 : decode cX4_init 61 = .ok (.newarray .int, 2) := by decide +kernel
theorem dX4_init_63 : decode cX4_init 63 = .ok (.putfield 32, 3) := by decide +kernel
theorem dX4_init_66 : decode cX4_init 66 = .ok (.aload_n 0, 1) := by decide +kernel
theorem dX4_init_67 : decode cX4_init 67 = .ok (.bipush 24, 2) := by decide +kernel
theorem dX4_init_69 : decode cX4_init 69 = .ok (.newarray .int, 2) := by decide +kernel
theorem dX4_init_71 : decode cX4_init 71 = .ok (.putfield 35, 3) := by decide +kernel
theorem dX4_init_74 : decode cX4_init 74 = .ok (.aload_n 0, 1) := by decide +kernel
theorem dX4_init_75 : decode cX4_init 75 = .ok (.bipush 24, 2) := by decide +kernel
theorem dX4_init_77 : decode cX4_init 77 = .ok (.newarray .int, 2) := by decide +kernel
theorem dX4_init_79 : decode cX4_init 79 = .ok (.putfield 38, 3) := by decide +kernel
theorem dX4_init_82 : decode cX4_init 82 = .ok (.return_, 1) := by decide +kernel
theorem dX4_thrown_0 : decode cX4_thrown 0 = .ok (.aload_n 0, 1) := by decide +kernel
theorem dX4_thrown_1 : decode cX4_thrown 1 = .ok (.getfield 41, 3) := by decide +kernel
theorem dX4_thrown_4 : decode cX4_thrown 4 = .ok (.ireturn, 1) := by decide +kernel
theorem dX4_no_0 : decode cX4_no 0 = .ok (.aload_n 0, 1) := by decide +kernel
theorem dX4_no_1 : decode cX4_no 1 = .ok (.iload_n 1, 1) := by decide +kernel
theorem dX4_no_2 : decode cX4_no 2 = .ok (.putfield 41, 3) := by decide +kernel
theorem dX4_no_5 : decode cX4_no 5 = .ok (.iconst 0, 1) := by decide +kernel
theorem dX4_no_6 : decode cX4_no 6 = .ok (.ireturn, 1) := by decide +kernel
theorem dX4_isIn_0 : decode cX4_isIn 0 = .ok (.iload_n 0, 1) := by decide +kernel
theorem dX4_isIn_1 : decode cX4_isIn 1 = .ok (.iload_n 1, 1) := by decide +kernel
theorem dX4_isIn_2 : decode cX4_isIn 2 = .ok (.if_icmp .lt 12, 3) := by decide +kernel
theorem dX4_isIn_5 : decode cX4_isIn 5 = .ok (.iload_n 0, 1) := by decide +kernel
theorem dX4_isIn_6 : decode cX4_isIn 6 = .ok (.iload_n 2, 1) := by decide +kernel
theorem dX4_isIn_7 : decode cX4_isIn 7 = .ok (.if_icmp .gt 7, 3) := by decide +kernel
theorem dX4_isIn_10 : decode cX4_isIn 10 = .ok (.iconst 1, 1) := by decide +kernel
theorem dX4_isIn_11 : decode cX4_isIn 11 = .ok (.goto 4, 3) := by decide +kernel
theorem dX4_isIn_14 : decode cX4_isIn 14 = .ok (.iconst 0, 1) := by decide +kernel
theorem dX4_isIn_15 : decode cX4_isIn 15 = .ok (.ireturn, 1) := by decide +kernel
set_option maxRecDepth 20000 in
theorem ggX4_isCane_X4_isIn : GoodIn wsX4_isCane wsX4_isIn := goodIn_r _ [5] (by decide +kernel) (by decide +kernel)
set_option maxRecDepth 20000 in
theorem gX4_isCane_X4_isIn : GoodIn wsX4_isCane (va_wsS RX4 47 yX4_isIn wsX4_isIn) := goodIn_app (goodIn_of _ (by decide +kernel)) ggX4_isCane_X4_isIn
theorem dX4_isCane_0 : decode cX4_isCane 0 = .ok (.iload_n 1, 1) := by decide +kernel
theorem dX4_isCane_1 : decode cX4_isCane 1 = .ok (.iconst 0, 1) := by decide +kernel
theorem dX4_isCane_2 : decode cX4_isCane 2 = .ok (.aload_n 0, 1) := by decide +kernel
theorem dX4_isCane_3 : decode cX4_isCane 3 = .ok (.getfield 44, 3) := by decide +kernel
theorem dX4_isCane_6 : decode cX4_isCane 6 = .ok (.iconst 1, 1) := by decide +kernel
theorem dX4_isCane_7 : decode cX4_isCane 7 = .ok (.isub, 1) := by decide +kernel
theorem dX4_isCane_8 : decode cX4_isCane 8 = .ok (.invokestatic 47, 3) := by decide +kernel
theorem dX4_isCane_11 : decode cX4_isCane 11 = .ok (.ireturn, 1) := by decide +kernel
set_option maxRecDepth 20000 in
theorem ggX4_isSlice_X4_isIn : GoodIn wsX4_isSlice wsX4_isIn := goodIn_r _ [5] (by decide +kernel) (by decide +kernel)
set_option maxRecDepth 20000 in
theorem gX4_isSlice_X4_isIn : GoodIn wsX4_isSlice (va_wsS RX4 47 yX4_isIn wsX4_isIn) := goodIn_app (goodIn_of _ (by decide +kernel)) ggX4_isSlice_X4_isIn
theorem dX4_isSlice_0 : decode cX4_isSlice 0 = .ok (.iload_n 1, 1) := by decide +kernel
theorem dX4_isSlice_1 : decode cX4_isSlice 1 = .ok (.iconst 0, 1) := by decide +kernel
theorem dX4_isSlice_2 : decode cX4_isSlice 2 = .ok (.aload_n 0, 1) := by decide +kernel
theorem dX4_isSlice_3 : decode cX4_isSlice 3 = .ok (.getfield 51, 3) := by decide +kernel
theorem dX4_isSlice_6 : decode cX4_isSlice 6 = .ok (.iconst 1, 1) := by decide +kernel
theorem dX4_isSlice_7 : decode cX4_isSlice 7 = .ok (.isub, 1) := by decide +kernel
theorem dX4_isSlice_8 : decode cX4_isSlice 8 = .ok (.invokestatic 47, 3) := by decide +kernel
theorem dX4_isSlice_11 : decode cX4_isSlice 11 = .ok (.ireturn, 1) := by decide +kernel
set_option maxRecDepth 20000 in
theorem ggX4_isEye_X4_isIn : GoodIn wsX4_isEye wsX4_isIn := goodIn_r _ [5] (by decide +kernel) (by decide +kernel)
set_option maxRecDepth 20000 in
theorem gX4_isEye_X4_isIn : GoodIn wsX4_isEye (va_wsS RX4 47 yX4_isIn wsX4_isIn) := goodIn_app (goodIn_of _ (by decide +kernel)) ggX4_isEye_X4_isIn
theorem dX4_isEye_0 : decode cX4_isEye 0 = .ok (.iload_n 1, 1) := by decide +kernel
theorem dX4_isEye_1 : decode cX4_isEye 1 = .ok (.iconst 0, 1) := by decide +kernel
theorem dX4_isEye_2 : decode cX4_isEye 2 = .ok (.aload_n 0, 1) := by decide +kernel
theorem dX4_isEye_3 : decode cX4_isEye 3 = .ok (.getfield 54, 3) := by decide +kernel
theorem dX4_isEye_6 : decode cX4_isEye 6 = .ok (.iconst 1, 1) := by decide +kernel
theorem dX4_isEye_7 : decode cX4_isEye 7 = .ok (.isub, 1) := by decide +kernel
theorem dX4_isEye_8 : decode cX4_isEye 8 = .ok (.invokestatic 47, 3) := by decide +kernel
theorem dX4_isEye_11 : decode cX4_isEye 11 = .ok (.ifCond .eq 16, 3) := by decide +kernel
theorem dX4_isEye_14 : decode cX4_isEye 14 = .ok (.iload_n 2, 1) := by decide +kernel
theorem dX4_isEye_15 : decode cX4_isEye 15 = .ok (.iconst 0, 1) := by decide +kernel
theorem dX4_isEye_16 : decode cX4_isEye 16 = .ok (.iconst 3, 1) := by decide +kernel
theorem dX4_isEye_17 : decode cX4_isEye 17 = .ok (.invokestatic 47, 3) := by decide +kernel
theorem dX4_isEye_20 : decode cX4_isEye 20 = .ok (.ifCond .eq 7, 3) := by decide +kernel
theorem dX4_isEye_23 : decode cX4_isEye 23 = .ok (.iconst 1, 1) := by decide +kernel
theorem dX4_isEye_24 : decode cX4_isEye 24 = .ok (.goto 4, 3) := by decide +kernel
theorem dX4_isEye_27 : decode cX4_isEye 27 = .ok (.iconst 0, 1) := by decide +kernel
theorem dX4_isEye_28 : decode cX4_isEye 28 = .ok (.ireturn, 1) := by decide +kernel
set_option maxRecDepth 20000 in
theorem ggX4_isSpot_X4_isIn : GoodIn wsX4_isSpot wsX4_isIn := goodIn_r _ [4] (by decide +kernel) (by decide +kernel)
set_option maxRecDepth 20000 in
theorem gX4_isSpot_X4_isIn : GoodIn wsX4_isSpot (va_wsS RX4 47 yX4_isIn wsX4_isIn) := goodIn_app (goodIn_of _ (by decide +kernel)) ggX4_isSpot_X4_isIn
theorem dX4_isSpot_0 : decode cX4_isSpot 0 = .ok (.iload_n 0, 1) := by decide +kernel
theorem dX4_isSpot_1 : decode cX4_isSpot 1 = .ok (.iconst 0, 1) := by decide +kernel
theorem dX4_isSpot_2 : decode cX4_isSpot 2 = .ok (.iconst 2, 1) := by decide +kernel
theorem dX4_isSpot_3 : decode cX4_isSpot 3 = .ok (.invokestatic 47, 3) := by decide +kernel
theorem dX4_isSpot_6 : decode cX4_isSpot 6 = .ok (.ifCond .eq 17, 3) := by decide +kernel
theorem dX4_isSpot_9 : decode cX4_isSpot 9 = .ok (.iload_n 1, 1) := by decide +kernel
theorem dX4_isSpot_10 : decode cX4_isSpot 10 = .ok (.iconst 0, 1) := by decide +kernel
theorem dX4_isSpot_11 : decode cX4_isSpot 11 = .ok (.bipush 7, 2) := by decide +kernel
theorem dX4_isSpot_13 : decode cX4_isSpot 13 = .ok (.invokestatic 47, 3) := by decide +kernel
theorem dX4_isSpot_16 : decode cX4_isSpot 16 = .ok (.ifCond .eq 7, 3) := by decide +kernel
theorem dX4_isSpot_19 : decode cX4_isSpot 19 = .ok (.iconst 1, 1) := by decide +kernel
theorem dX4_isSpot_20 : decode cX4_isSpot 20 = .ok (.goto 4, 3) := by decide +kernel
theorem dX4_isSpot_23 : decode cX4_isSpot 23 = .ok (.iconst 0, 1) := by decide +kernel
theorem dX4_isSpot_24 : decode cX4_isSpot 24 = .ok (.ireturn, 1) := by decide +kernel
set_option maxRecDepth 20000 in
theorem ggX4_rotated_J9_floorMod_7cf53 : GoodIn wsX4_rotated wsJ9_floorMod_7cf53 := goodIn_r _ [5] (by decide +kernel) (by decide +kernel)
set_option maxRecDepth 20000 in
theorem gX4_rotated_J9_floorMod_7cf53 : GoodIn wsX4_rotated (va_wsS RX4 57 yJ9_floorMod_7cf53 wsJ9_floorMod_7cf53) := goodIn_app (goodIn_of _ (by decide +kernel)) ggX4_rotated_J9_floorMod_7cf53
theorem dX4_rotated_0 : decode cX4_rotated 0 = .ok (.iconst 3, 1) := by decide +kernel
theorem dX4_rotated_1 : decode cX4_rotated 1 = .ok (.iload_n 1, 1) := by decide +kernel
theorem dX4_rotated_2 : decode cX4_rotated 2 = .ok (.bipush 8, 2) := by decide +kernel
theorem dX4_rotated_4 : decode cX4_rotated 4 = .ok (.invokestatic 57, 3) := by decide +kernel
theorem dX4_rotated_7 : decode cX4_rotated 7 = .ok (.imul, 1) := by decide +kernel
theorem dX4_rotated_8 : decode cX4_rotated 8 = .ok (.istore_n 2, 1) := by decide +kernel
theorem dX4_rotated_9 : decode cX4_rotated 9 = .ok (.iload_n 0, 1) := by decide +kernel
theorem dX4_rotated_10 : decode cX4_rotated 10 = .ok (.iload_n 2, 1) := by decide +kernel
theorem dX4_rotated_11 : decode cX4_rotated 11 = .ok (.ishl, 1) := by decide +kernel
theorem dX4_rotated_12 : decode cX4_rotated 12 = .ok (.iload_n 0, 1) := by decide +kernel
theorem dX4_rotated_13 : decode cX4_rotated 13 = .ok (.bipush 24, 2) := by decide +kernel
theorem dX4_rotated_15 : decode cX4_rotated 15 = .ok (.iload_n 2, 1) := by decide +kernel
theorem dX4_rotated_16 : decode cX4_rotated 16 = .ok (.isub, 1) := by decide +kernel
theorem dX4_rotated_17 : decode cX4_rotated 17 = .ok (.iushr, 1) := by decide +kernel
theorem dX4_rotated_18 : decode cX4_rotated 18 = .ok (.ior, 1) := by decide +kernel
theorem dX4_rotated_19 : decode cX4_rotated 19 = .ok (.ldc 63, 2) := by decide +kernel
theorem dX4_rotated_21 : decode cX4_rotated 21 = .ok (.iand, 1) := by decide +kernel
theorem dX4_rotated_22 : decode cX4_rotated 22 = .ok (.ireturn, 1) := by decide +kernel
theorem dX4_colourOf_0 : decode cX4_colourOf 0 = .ok (.iload_n 0, 1) := by decide +kernel
theorem dX4_colourOf_1 : decode cX4_colourOf 1 = .ok (.iconst 3, 1) := by decide +kernel
theorem dX4_colourOf_2 : decode cX4_colourOf 2 = .ok (.iload_n 1, 1) := by decide +kernel
theorem dX4_colourOf_3 : decode cX4_colourOf 3 = .ok (.imul, 1) := by decide +kernel
theorem dX4_colourOf_4 : decode cX4_colourOf 4 = .ok (.ishr, 1) := by decide +kernel
theorem dX4_colourOf_5 : decode cX4_colourOf 5 = .ok (.bipush 7, 2) := by decide +kernel
theorem dX4_colourOf_7 : decode cX4_colourOf 7 = .ok (.iand, 1) := by decide +kernel
theorem dX4_colourOf_8 : decode cX4_colourOf 8 = .ok (.ireturn, 1) := by decide +kernel
set_option maxRecDepth 20000 in
theorem ggX4_areAlike_X4_rotated : GoodIn wsX4_areAlike wsX4_rotated := goodIn_r _ [4, 5, 6, 7, 8, 9] (by decide +kernel) (by decide +kernel)
set_option maxRecDepth 20000 in
theorem gX4_areAlike_X4_rotated : GoodIn wsX4_areAlike (va_wsS RX4 64 yX4_rotated wsX4_rotated) := goodIn_app (goodIn_of _ (by decide +kernel)) ggX4_areAlike_X4_rotated
theorem dX4_areAlike_0 : decode cX4_areAlike 0 = .ok (.iconst 1, 1) := by decide +kernel
theorem dX4_areAlike_1 : decode cX4_areAlike 1 = .ok (.istore 5, 2) := by decide +kernel
theorem dX4_areAlike_3 : decode cX4_areAlike 3 = .ok (.iconst 0, 1) := by decide +kernel
theorem dX4_areAlike_4 : decode cX4_areAlike 4 = .ok (.istore 6, 2) := by decide +kernel
theorem dX4_areAlike_6 : decode cX4_areAlike 6 = .ok (.iload 6, 2) := by decide +kernel
theorem dX4_areAlike_8 : decode cX4_areAlike 8 = .ok (.iconst 3, 1) := by decide +kernel
theorem dX4_areAlike_9 : decode cX4_areAlike 9 = .ok (.if_icmp .ge 43, 3) := by decide +kernel
theorem dX4_areAlike_12 : decode cX4_areAlike 12 = .ok (.iload 5, 2) := by decide +kernel
theorem dX4_areAlike_14 : decode cX4_areAlike 14 = .ok (.aload_n 0, 1) := by decide +kernel
theorem dX4_areAlike_15 : decode cX4_areAlike 15 = .ok (.iconst 3, 1) := by decide +kernel
theorem dX4_areAlike_16 : decode cX4_areAlike 16 = .ok (.iload_n 1, 1) := by decide +kernel
theorem dX4_areAlike_17 : decode cX4_areAlike 17 = .ok (.imul, 1) := by decide +kernel
theorem dX4_areAlike_18 : decode cX4_areAlike 18 = .ok (.iload 6, 2) := by decide +kernel
theorem dX4_areAlike_20 : decode cX4_areAlike 20 = .ok (.iadd, 1) := by decide +kernel
theorem dX4_areAlike_21 : decode cX4_areAlike 21 = .ok (.iaload, 1) := by decide +kernel
theorem dX4_areAlike_22 : decode cX4_areAlike 22 = .ok (.iload_n 2, 1) := by decide +kernel
theorem dX4_areAlike_23 : decode cX4_areAlike 23 = .ok (.invokestatic 64, 3) := by decide +kernel
theorem dX4_areAlike_26 : decode cX4_areAlike 26 = .ok (.aload_n 3, 1) := by decide +kernel
theorem dX4_areAlike_27 : decode cX4_areAlike 27 = .ok (.iconst 3, 1) := by decide +kernel
theorem dX4_areAlike_28 : decode cX4_areAlike 28 = .ok (.iload 4, 2) := by decide +kernel
theorem dX4_areAlike_30 : decode cX4_areAlike 30 = .ok (.imul, 1) := by decide +kernel
theorem dX4_areAlike_31 : decode cX4_areAlike 31 = .ok (.iload 6, 2) := by decide +kernel
theorem dX4_areAlike_33 : decode cX4_areAlike 33 = .ok (.iadd, 1) := by decide +kernel
theorem dX4_areAlike_34 : decode cX4_areAlike 34 = .ok (.iaload, 1) := by decide +kernel
theorem dX4_areAlike_35 : decode cX4_areAlike 35 = .ok (.if_icmp .ne 7, 3) := by decide +kernel
theorem dX4_areAlike_38 : decode cX4_areAlike 38 = .ok (.iconst 1, 1) := by decide +kernel
theorem dX4_areAlike_39 : decode cX4_areAlike 39 = .ok (.goto 4, 3) := by decide +kernel
theorem dX4_areAlike_42 : decode cX4_areAlike 42 = .ok (.iconst 0, 1) := by decide +kernel
theorem dX4_areAlike_43 : decode cX4_areAlike 43 = .ok (.iand, 1) := by decide +kernel
theorem dX4_areAlike_44 : decode cX4_areAlike 44 = .ok (.istore 5, 2) := by decide +kernel
theorem dX4_areAlike_46 : decode cX4_areAlike 46 = .ok (.iinc 6 1, 3) := by decide +kernel
theorem dX4_areAlike_49 : decode cX4_areAlike 49 = .ok (.goto (-43), 3) := by decide +kernel
theorem dX4_areAlike_52 : decode cX4_areAlike 52 = .ok (.iload 5, 2) := by decide +kernel
theorem dX4_areAlike_54 : decode cX4_areAlike 54 = .ok (.ireturn, 1) := by decide +kernel
set_option maxRecDepth 20000 in
theorem ggX4_begin_X4_no : GoodIn wsX4_begin wsX4_no := goodIn_r _ [10, 1, 11, 12, 13, 14, 15, 16, 17, 18, 19, 20, 21, 22, 23, 24, 25] (by decide +kernel) (by decide +kernel)
set_option maxRecDepth 20000 in
theorem gX4_begin_X4_no : GoodIn wsX4_begin (wsV RX4 67 RX4 yX4_no wsX4_no) := goodIn_app (goodIn_of _ (by decide +kernel)) ggX4_begin_X4_no
theorem dX4_begin_0 : decode cX4_begin 0 = .ok (.aload_n 0, 1) := by decide +kernel
theorem dX4_begin_1 : decode cX4_begin 1 = .ok (.iconst 0, 1) := by decide +kernel
theorem dX4_begin_2 : decode cX4_begin 2 = .ok (.putfield 41, 3) := by decide +kernel
theorem dX4_begin_5 : decode cX4_begin 5 = .ok (.aload_n 0, 1) := by decide +kernel
theorem dX4_begin_6 : decode cX4_begin 6 = .ok (.getfield 44, 3) := by decide +kernel
theorem dX4_begin_9 : decode cX4_begin 9 = .ok (.bipush 8, 2) := by decide +kernel
theorem dX4_begin_11 : decode cX4_begin 11 = .ok (.if_icmp .ne 9, 3) := by decide +kernel
theorem dX4_begin_14 : decode cX4_begin 14 = .ok (.aload_n 0, 1) := by decide +kernel
theorem dX4_begin_15 : decode cX4_begin 15 = .ok (.iconst 1, 1) := by decide +kernel
theorem dX4_begin_16 : decode cX4_begin 16 = .ok (.invokevirtual 67, 3) := by decide +kernel
theorem dX4_begin_19 : decode cX4_begin 19 = .ok (.ireturn, 1) := by decide +kernel
theorem dX4_begin_20 : decode cX4_begin 20 = .ok (.aload_n 0, 1) := by decide +kernel
theorem dX4_begin_21 : decode cX4_begin 21 = .ok (.getfield 13, 3) := by decide +kernel
theorem dX4_begin_24 : decode cX4_begin 24 = .ok (.aload_n 0, 1) := by decide +kernel
theorem dX4_begin_25 : decode cX4_begin 25 = .ok (.getfield 44, 3) := by decide +kernel
theorem dX4_begin_28 : decode cX4_begin 28 = .ok (.bipush 8, 2) := by decide +kernel
theorem dX4_begin_30 : decode cX4_begin 30 = .ok (.iastore, 1) := by decide +kernel
theorem dX4_begin_31 : decode cX4_begin 31 = .ok (.aload_n 0, 1) := by decide +kernel
theorem dX4_begin_32 : decode cX4_begin 32 = .ok (.getfield 20, 3) := by decide +kernel
theorem dX4_begin_35 : decode cX4_begin 35 = .ok (.aload_n 0, 1) := by decide +kernel
theorem dX4_begin_36 : decode cX4_begin 36 = .ok (.getfield 44, 3) := by decide +kernel
theorem dX4_begin_39 : decode cX4_begin 39 = .ok (.bipush 10, 2) := by decide +kernel
theorem dX4_begin_41 : decode cX4_begin 41 = .ok (.iastore, 1) := by decide +kernel
theorem dX4_begin_42 : decode cX4_begin 42 = .ok (.aload_n 0, 1) := by decide +kernel
theorem dX4_begin_43 : decode cX4_begin 43 = .ok (.getfield 23, 3) := by decide +kernel
theorem dX4_begin_46 : decode cX4_begin 46 = .ok (.aload_n 0, 1) := by decide +kernel
theorem dX4_begin_47 : decode cX4_begin 47 = .ok (.getfield 44, 3) := by decide +kernel
theorem dX4_begin_50 : decode cX4_begin 50 = .ok (.iconst 1, 1) := by decide +kernel
theorem dX4_begin_51 : decode cX4_begin 51 = .ok (.iastore, 1) := by decide +kernel
theorem dX4_begin_52 : decode cX4_begin 52 = .ok (.aload_n 0, 1) := by decide +kernel
theorem dX4_begin_53 : decode cX4_begin 53 = .ok (.dup, 1) := by decide +kernel
theorem dX4_begin_54 : decode cX4_begin 54 = .ok (.getfield 44, 3) := by decide +kernel
theorem dX4_begin_57 : decode cX4_begin 57 = .ok (.iconst 1, 1) := by decide +kernel
theorem dX4_begin_58 : decode cX4_begin 58 = .ok (.iadd, 1) := by decide +kernel
theorem dX4_begin_59 : decode cX4_begin 59 = .ok (.putfield 44, 3) := by decide +kernel
theorem dX4_begin_62 : decode cX4_begin 62 = .ok (.aload_n 0, 1) := by decide +kernel
theorem dX4_begin_63 : decode cX4_begin 63 = .ok (.getfield 44, 3) := by decide +kernel
theorem dX4_begin_66 : decode cX4_begin 66 = .ok (.iconst 1, 1) := by decide +kernel
theorem dX4_begin_67 : decode cX4_begin 67 = .ok (.isub, 1) := by decide +kernel
theorem dX4_begin_68 : decode cX4_begin 68 = .ok (.ireturn, 1) := by decide +kernel
theorem dX4_pass_0 : decode cX4_pass 0 = .ok (.iconst 0, 1) := by decide +kernel
theorem dX4_pass_1 : decode cX4_pass 1 = .ok (.istore_n 1, 1) := by decide +kernel
theorem dX4_pass_2 : decode cX4_pass 2 = .ok (.iload_n 1, 1) := by decide +kernel
theorem dX4_pass_3 : decode cX4_pass 3 = .ok (.aload_n 0, 1) := by decide +kernel
theorem dX4_pass_4 : decode cX4_pass 4 = .ok (.getfield 44, 3) := by decide +kernel
theorem dX4_pass_7 : decode cX4_pass 7 = .ok (.if_icmp .ge 51, 3) := by decide +kernel
theorem dX4_pass_10 : decode cX4_pass 10 = .ok (.aload_n 0, 1) := by decide +kernel
theorem dX4_pass_11 : decode cX4_pass 11 = .ok (.getfield 20, 3) := by decide +kernel
theorem dX4_pass_14 : decode cX4_pass 14 = .ok (.iload_n 1, 1) := by decide +kernel
theorem dX4_pass_15 : decode cX4_pass 15 = .ok (.iload_n 1, 1) := by decide +kernel
theorem dX4_pass_16 : decode cX4_pass 16 = .ok (.aload_n 0, 1) := by decide +kernel
theorem dX4_pass_17 : decode cX4_pass 17 = .ok (.getfield 9, 3) := by decide +kernel
theorem dX4_pass_20 : decode cX4_pass 20 = .ok (.if_icmp .ne 19, 3) := by decide +kernel
theorem dX4_pass_23 : decode cX4_pass 23 = .ok (.bipush 10, 2) := by decide +kernel
theorem dX4_pass_25 : decode cX4_pass 25 = .ok (.aload_n 0, 1) := by decide +kernel
theorem dX4_pass_26 : decode cX4_pass 26 = .ok (.getfield 20, 3) := by decide +kernel
theorem dX4_pass_29 : decode cX4_pass 29 = .ok (.iload_n 1, 1) := by decide +kernel
theorem dX4_pass_30 : decode cX4_pass 30 = .ok (.iaload, 1) := by decide +kernel
theorem dX4_pass_31 : decode cX4_pass 31 = .ok (.iconst 3, 1) := by decide +kernel
theorem dX4_pass_32 : decode cX4_pass 32 = .ok (.iadd, 1) := by decide +kernel
theorem dX4_pass_33 : decode cX4_pass 33 = .ok (.invokestatic 71, 3) := by decide +kernel
theorem dX4_pass_36 : decode cX4_pass 36 = .ok (.goto 15, 3) := by decide +kernel
theorem dX4_pass_39 : decode cX4_pass 39 = .ok (.iconst 0, 1) := by decide +kernel
theorem dX4_pass_40 : decode cX4_pass 40 = .ok (.aload_n 0, 1) := by decide +kernel
theorem dX4_pass_41 : decode cX4_pass 41 = .ok (.getfield 20, 3) := by decide +kernel
theorem dX4_pass_44 : decode cX4_pass 44 = .ok (.iload_n 1, 1) := by decide +kernel
theorem dX4_pass_45 : decode cX4_pass 45 = .ok (.iaload, 1) := by decide +kernel
theorem dX4_pass_46 : decode cX4_pass 46 = .ok (.iconst 1, 1) := by decide +kernel
theorem dX4_pass_47 : decode cX4_pass 47 = .ok (.isub, 1) := by decide +kernel
theorem dX4_pass_48 : decode cX4_pass 48 = .ok (.invokestatic 74, 3) := by decide +kernel
theorem dX4_pass_51 : decode cX4_pass 51 = .ok (.iastore, 1) := by decide +kernel
theorem dX4_pass_52 : decode cX4_pass 52 = .ok (.iinc 1 1, 3) := by decide +kernel
theorem dX4_pass_55 : decode cX4_pass 55 = .ok (.goto (-53), 3) := by decide +kernel
theorem dX4_pass_58 : decode cX4_pass 58 = .ok (.aload_n 0, 1) := by decide +kernel
theorem dX4_pass_59 : decode cX4_pass 59 = .ok (.dup, 1) := by decide +kernel
theorem dX4_pass_60 : decode cX4_pass 60 = .ok (.getfield 77, 3) := by decide +kernel
theorem dX4_pass_63 : decode cX4_pass 63 = .ok (.iconst 1, 1) := by decide +kernel
theorem dX4_pass_64 : decode cX4_pass 64 = .ok (.iadd, 1) := by decide +kernel
theorem dX4_pass_65 : decode cX4_pass 65 = .ok (.putfield 77, 3) := by decide +kernel
theorem dX4_pass_68 : decode cX4_pass 68 = .ok (.return_, 1) := by decide +kernel
set_option maxRecDepth 20000 in
theorem ggX4_bears_X4_pass : GoodIn wsX4_bears wsX4_pass := goodIn_r _ [7, 8, 1, 9, 10, 11, 12, 13, 14, 15, 16, 17, 18, 19, 20, 21, 22, 23, 24, 25, 26, 27, 28, 29, 30, 31, 32] (by decide +kernel) (by decide +kernel)
set_option maxRecDepth 20000 in
theorem gX4_bears_X4_pass : GoodIn wsX4_bears (wsV RX4 80 RX4 yX4_pass wsX4_pass) := goodIn_app (goodIn_of _ (by decide +kernel)) ggX4_bears_X4_pass
theorem dX4_bears_0 : decode cX4_bears 0 = .ok (.aload_n 0, 1) := by decide +kernel
theorem dX4_bears_1 : decode cX4_bears 1 = .ok (.getfield 20, 3) := by decide +kernel
theorem dX4_bears_4 : decode cX4_bears 4 = .ok (.iload_n 1, 1) := by decide +kernel
theorem dX4_bears_5 : decode cX4_bears 5 = .ok (.iaload, 1) := by decide +kernel
theorem dX4_bears_6 : decode cX4_bears 6 = .ok (.iload_n 2, 1) := by decide +kernel
theorem dX4_bears_7 : decode cX4_bears 7 = .ok (.if_icmp .ge 16, 3) := by decide +kernel
theorem dX4_bears_10 : decode cX4_bears 10 = .ok (.aload_n 0, 1) := by decide +kernel
theorem dX4_bears_11 : decode cX4_bears 11 = .ok (.getfield 23, 3) := by decide +kernel
theorem dX4_bears_14 : decode cX4_bears 14 = .ok (.iload_n 1, 1) := by decide +kernel
theorem dX4_bears_15 : decode cX4_bears 15 = .ok (.iconst 0, 1) := by decide +kernel
theorem dX4_bears_16 : decode cX4_bears 16 = .ok (.iastore, 1) := by decide +kernel
theorem dX4_bears_17 : decode cX4_bears 17 = .ok (.aload_n 0, 1) := by decide +kernel
theorem dX4_bears_18 : decode cX4_bears 18 = .ok (.invokevirtual 80, 3) := by decide +kernel
theorem dX4_bears_21 : decode cX4_bears 21 = .ok (.iconst 0, 1) := by decide +kernel
theorem dX4_bears_22 : decode cX4_bears 22 = .ok (.ireturn, 1) := by decide +kernel
theorem dX4_bears_23 : decode cX4_bears 23 = .ok (.aload_n 0, 1) := by decide +kernel
theorem dX4_bears_24 : decode cX4_bears 24 = .ok (.getfield 20, 3) := by decide +kernel
theorem dX4_bears_27 : decode cX4_bears 27 = .ok (.iload_n 1, 1) := by decide +kernel
theorem dX4_bears_28 : decode cX4_bears 28 = .ok (.dup2, 1) := by decide +kernel
theorem dX4_bears_29 : decode cX4_bears 29 = .ok (.iaload, 1) := by decide +kernel
theorem dX4_bears_30 : decode cX4_bears 30 = .ok (.iconst 1, 1) := by decide +kernel
theorem dX4_bears_31 : decode cX4_bears 31 = .ok (.isub, 1) := by decide +kernel
theorem dX4_bears_32 : decode cX4_bears 32 = .ok (.iastore, 1) := by decide +kernel
theorem dX4_bears_33 : decode cX4_bears 33 = .ok (.aload_n 0, 1) := by decide +kernel
theorem dX4_bears_34 : decode cX4_bears 34 = .ok (.invokevirtual 80, 3) := by decide +kernel
theorem dX4_bears_37 : decode cX4_bears 37 = .ok (.iconst 1, 1) := by decide +kernel
theorem dX4_bears_38 : decode cX4_bears 38 = .ok (.ireturn, 1) := by decide +kernel
set_option maxRecDepth 20000 in
theorem ggX4_lay_X4_isCane : GoodIn wsX4_lay wsX4_isCane := goodIn_r _ [8, 9, 10, 11, 7, 12, 38, 39, 40, 41, 42, 43, 44, 45, 46, 47, 48, 49, 50, 51, 52] (by decide +kernel) (by decide +kernel)
set_option maxRecDepth 20000 in
theorem gX4_lay_X4_isCane : GoodIn wsX4_lay (wsV RX4 83 RX4 yX4_isCane wsX4_isCane) := goodIn_app (goodIn_of _ (by decide +kernel)) ggX4_lay_X4_isCane
set_option maxRecDepth 20000 in
theorem ggX4_lay_X4_no : GoodIn wsX4_lay wsX4_no := goodIn_r _ [16, 1, 38, 39, 40, 41, 42, 43, 44, 45, 46, 47, 48, 49, 50, 51, 52] (by decide +kernel) (by decide +kernel)
set_option maxRecDepth 20000 in
theorem gX4_lay_X4_no : GoodIn wsX4_lay (wsV RX4 67 RX4 yX4_no wsX4_no) := goodIn_app (goodIn_of _ (by decide +kernel)) ggX4_lay_X4_no
set_option maxRecDepth 20000 in
theorem ggX4_lay_X4_isSpot : GoodIn wsX4_lay wsX4_isSpot := goodIn_r _ [19, 10, 11, 7, 12] (by decide +kernel) (by decide +kernel)
set_option maxRecDepth 20000 in
theorem gX4_lay_X4_isSpot : GoodIn wsX4_lay (va_wsS RX4 87 yX4_isSpot wsX4_isSpot) := goodIn_app (goodIn_of _ (by decide +kernel)) ggX4_lay_X4_isSpot
set_option maxRecDepth 20000 in
theorem ggX4_lay_X4_isIn : GoodIn wsX4_lay wsX4_isIn := goodIn_r _ [12] (by decide +kernel) (by decide +kernel)
set_option maxRecDepth 20000 in
theorem gX4_lay_X4_isIn : GoodIn wsX4_lay (va_wsS RX4 47 yX4_isIn wsX4_isIn) := goodIn_app (goodIn_of _ (by decide +kernel)) ggX4_lay_X4_isIn
set_option maxRecDepth 20000 in
theorem ggX4_lay_X4_bears : GoodIn wsX4_lay wsX4_bears := goodIn_r _ [23, 24, 2, 25, 26, 27, 7, 28, 9, 29, 30, 31, 32, 33, 34, 35, 36, 37, 38, 39, 40, 41, 42, 43, 44, 45, 46, 47, 48, 49, 50, 51, 52] (by decide +kernel) (by decide +kernel)
set_option maxRecDepth 20000 in
theorem gX4_lay_X4_bears : GoodIn wsX4_lay (wsV RX4 91 RX4 yX4_bears wsX4_bears) := goodIn_app (goodIn_of _ (by decide +kernel)) ggX4_lay_X4_bears
theorem dX4_lay_0 : decode cX4_lay 0 = .ok (.aload_n 0, 1) := by decide +kernel
theorem dX4_lay_1 : decode cX4_lay 1 = .ok (.iconst 0, 1) := by decide +kernel
theorem dX4_lay_2 : decode cX4_lay 2 = .ok (.putfield 41, 3) := by decide +kernel
theorem dX4_lay_5 : decode cX4_lay 5 = .ok (.aload_n 0, 1) := by decide +kernel
theorem dX4_lay_6 : decode cX4_lay 6 = .ok (.iload_n 1, 1) := by decide +kernel
theorem dX4_lay_7 : decode cX4_lay 7 = .ok (.invokevirtual 83, 3) := by decide +kernel
theorem dX4_lay_10 : decode cX4_lay 10 = .ok (.ifCond .ne 17, 3) := by decide +kernel
theorem dX4_lay_13 : decode cX4_lay 13 = .ok (.aload_n 0, 1) := by decide +kernel
theorem dX4_lay_14 : decode cX4_lay 14 = .ok (.iconst 1, 1) := by decide +kernel
theorem dX4_lay_15 : decode cX4_lay 15 = .ok (.invokevirtual 67, 3) := by decide +kernel
theorem dX4_lay_18 : decode cX4_lay 18 = .ok (.ifCond .eq 7, 3) := by decide +kernel
theorem dX4_lay_21 : decode cX4_lay 21 = .ok (.iconst 1, 1) := by decide +kernel
theorem dX4_lay_22 : decode cX4_lay 22 = .ok (.goto 4, 3) := by decide +kernel
theorem dX4_lay_25 : decode cX4_lay 25 = .ok (.iconst 0, 1) := by decide +kernel
theorem dX4_lay_26 : decode cX4_lay 26 = .ok (.ireturn, 1) := by decide +kernel
theorem dX4_lay_27 : decode cX4_lay 27 = .ok (.iload_n 2, 1) := by decide +kernel
theorem dX4_lay_28 : decode cX4_lay 28 = .ok (.iload_n 3, 1) := by decide +kernel
theorem dX4_lay_29 : decode cX4_lay 29 = .ok (.invokestatic 87, 3) := by decide +kernel
theorem dX4_lay_32 : decode cX4_lay 32 = .ok (.ifCond .eq 25, 3) := by decide +kernel
theorem dX4_lay_35 : decode cX4_lay 35 = .ok (.iload 4, 2) := by decide +kernel
theorem dX4_lay_37 : decode cX4_lay 37 = .ok (.iconst 1, 1) := by decide +kernel
theorem dX4_lay_38 : decode cX4_lay 38 = .ok (.bipush 8, 2) := by decide +kernel
theorem dX4_lay_40 : decode cX4_lay 40 = .ok (.invokestatic 47, 3) := by decide +kernel
theorem dX4_lay_43 : decode cX4_lay 43 = .ok (.ifCond .eq 14, 3) := by decide +kernel
theorem dX4_lay_46 : decode cX4_lay 46 = .ok (.iload 5, 2) := by decide +kernel
theorem dX4_lay_48 : decode cX4_lay 48 = .ok (.iconst 0, 1) := by decide +kernel
theorem dX4_lay_49 : decode cX4_lay 49 = .ok (.bipush 7, 2) := by decide +kernel
theorem dX4_lay_51 : decode cX4_lay 51 = .ok (.invokestatic 47, 3) := by decide +kernel
theorem dX4_lay_54 : decode cX4_lay 54 = .ok (.ifCond .ne 17, 3) := by decide +kernel
theorem dX4_lay_57 : decode cX4_lay 57 = .ok (.aload_n 0, 1) := by decide +kernel
theorem dX4_lay_58 : decode cX4_lay 58 = .ok (.iconst 2, 1) := by decide +kernel
theorem dX4_lay_59 : decode cX4_lay 59 = .ok (.invokevirtual 67, 3) := by decide +kernel
theorem dX4_lay_62 : decode cX4_lay 62 = .ok (.ifCond .eq 7, 3) := by decide +kernel
theorem dX4_lay_65 : decode cX4_lay 65 = .ok (.iconst 1, 1) := by decide +kernel
theorem dX4_lay_66 : decode cX4_lay 66 = .ok (.goto 4, 3) := by decide +kernel
theorem dX4_lay_69 : decode cX4_lay 69 = .ok (.iconst 0, 1) := by decide +kernel
theorem dX4_lay_70 : decode cX4_lay 70 = .ok (.ireturn, 1) := by decide +kernel
theorem dX4_lay_71 : decode cX4_lay 71 = .ok (.aload_n 0, 1) := by decide +kernel
theorem dX4_lay_72 : decode cX4_lay 72 = .ok (.getfield 23, 3) := by decide +kernel
theorem dX4_lay_75 : decode cX4_lay 75 = .ok (.iload_n 1, 1) := by decide +kernel
theorem dX4_lay_76 : decode cX4_lay 76 = .ok (.iaload, 1) := by decide +kernel
theorem dX4_lay_77 : decode cX4_lay 77 = .ok (.ifCond .ne 17, 3) := by decide +kernel
theorem dX4_lay_80 : decode cX4_lay 80 = .ok (.aload_n 0, 1) := by decide +kernel
theorem dX4_lay_81 : decode cX4_lay 81 = .ok (.iconst 3, 1) := by decide +kernel
theorem dX4_lay_82 : decode cX4_lay 82 = .ok (.invokevirtual 67, 3) := by decide +kernel
theorem dX4_lay_85 : decode cX4_lay 85 = .ok (.ifCond .eq 7, 3) := by decide +kernel
theorem dX4_lay_88 : decode cX4_lay 88 = .ok (.iconst 1, 1) := by decide +kernel
theorem dX4_lay_89 : decode cX4_lay 89 = .ok (.goto 4, 3) := by decide +kernel
theorem dX4_lay_92 : decode cX4_lay 92 = .ok (.iconst 0, 1) := by decide +kernel
theorem dX4_lay_93 : decode cX4_lay 93 = .ok (.ireturn, 1) := by decide +kernel
theorem dX4_lay_94 : decode cX4_lay 94 = .ok (.aload_n 0, 1) := by decide +kernel
theorem dX4_lay_95 : decode cX4_lay 95 = .ok (.iload_n 1, 1) := by decide +kernel
theorem dX4_lay_96 : decode cX4_lay 96 = .ok (.iconst 2, 1) := by decide +kernel
theorem dX4_lay_97 : decode cX4_lay 97 = .ok (.invokevirtual 91, 3) := by decide +kernel
theorem dX4_lay_100 : decode cX4_lay 100 = .ok (.ifCond .ne 5, 3) := by decide +kernel
theorem dX4_lay_103 : decode cX4_lay 103 = .ok (.iconst 0, 1) := by decide +kernel
theorem dX4_lay_104 : decode cX4_lay 104 = .ok (.ireturn, 1) := by decide +kernel
theorem dX4_lay_105 : decode cX4_lay 105 = .ok (.iconst 3, 1) := by decide +kernel
theorem dX4_lay_106 : decode cX4_lay 106 = .ok (.iload_n 1, 1) := by decide +kernel
theorem dX4_lay_107 : decode cX4_lay 107 = .ok (.imul, 1) := by decide +kernel
theorem dX4_lay_108 : decode cX4_lay 108 = .ok (.iload_n 2, 1) := by decide +kernel
theorem dX4_lay_109 : decode cX4_lay 109 = .ok (.iadd, 1) := by decide +kernel
theorem dX4_lay_110 : decode cX4_lay 110 = .ok (.istore 6, 2) := by decide +kernel
theorem dX4_lay_112 : decode cX4_lay 112 = .ok (.iload_n 3, 1) := by decide +kernel
theorem dX4_lay_113 : decode cX4_lay 113 = .ok (.istore 7, 2) := by decide +kernel
theorem dX4_lay_115 : decode cX4_lay 115 = .ok (.iload 7, 2) := by decide +kernel
theorem dX4_lay_117 : decode cX4_lay 117 = .ok (.iload_n 3, 1) := by decide +kernel
theorem dX4_lay_118 : decode cX4_lay 118 = .ok (.iload 4, 2) := by decide +kernel
theorem dX4_lay_120 : decode cX4_lay 120 = .ok (.iadd, 1) := by decide +kernel
theorem dX4_lay_121 : decode cX4_lay 121 = .ok (.if_icmp .ge 46, 3) := by decide +kernel
theorem dX4_lay_124 : decode cX4_lay 124 = .ok (.iconst 3, 1) := by decide +kernel
theorem dX4_lay_125 : decode cX4_lay 125 = .ok (.iload 7, 2) := by decide +kernel
theorem dX4_lay_127 : decode cX4_lay 127 = .ok (.bipush 8, 2) := by decide +kernel
theorem dX4_lay_129 : decode cX4_lay 129 = .ok (.irem, 1) := by decide +kernel
theorem dX4_lay_130 : decode cX4_lay 130 = .ok (.imul, 1) := by decide +kernel
theorem dX4_lay_131 : decode cX4_lay 131 = .ok (.istore 8, 2) := by decide +kernel
theorem dX4_lay_133 : decode cX4_lay 133 = .ok (.aload_n 0, 1) := by decide +kernel
theorem dX4_lay_134 : decode cX4_lay 134 = .ok (.getfield 26, 3) := by decide +kernel
theorem dX4_lay_137 : decode cX4_lay 137 = .ok (.iload 6, 2) := by decide +kernel
theorem dX4_lay_139 : decode cX4_lay 139 = .ok (.aload_n 0, 1) := by decide +kernel
theorem dX4_lay_140 : decode cX4_lay 140 = .ok (.getfield 26, 3) := by decide +kernel
theorem dX4_lay_143 : decode cX4_lay 143 = .ok (.iload 6, 2) := by decide +kernel
theorem dX4_lay_145 : decode cX4_lay 145 = .ok (.iaload, 1) := by decide +kernel
theorem dX4_lay_146 : decode cX4_lay 146 = .ok (.bipush 7, 2) := by decide +kernel
theorem dX4_lay_148 : decode cX4_lay 148 = .ok (.iload 8, 2) := by decide +kernel
theorem dX4_lay_150 : decode cX4_lay 150 = .ok (.ishl, 1) := by decide +kernel
theorem dX4_lay_151 : decode cX4_lay 151 = .ok (.iconst (-1), 1) := by decide +kernel
theorem dX4_lay_152 : decode cX4_lay 152 = .ok (.ixor, 1) := by decide +kernel
theorem dX4_lay_153 : decode cX4_lay 153 = .ok (.iand, 1) := by decide +kernel
theorem dX4_lay_154 : decode cX4_lay 154 = .ok (.iload 5, 2) := by decide +kernel
theorem dX4_lay_156 : decode cX4_lay 156 = .ok (.iload 8, 2) := by decide +kernel
theorem dX4_lay_158 : decode cX4_lay 158 = .ok (.ishl, 1) := by decide +kernel
theorem dX4_lay_159 : decode cX4_lay 159 = .ok (.ior, 1) := by decide +kernel
theorem dX4_lay_160 : decode cX4_lay 160 = .ok (.iastore, 1) := by decide +kernel
theorem dX4_lay_161 : decode cX4_lay 161 = .ok (.iinc 7 1, 3) := by decide +kernel
theorem dX4_lay_164 : decode cX4_lay 164 = .ok (.goto (-49), 3) := by decide +kernel
theorem dX4_lay_167 : decode cX4_lay 167 = .ok (.iconst 1, 1) := by decide +kernel
theorem dX4_lay_168 : decode cX4_lay 168 = .ok (.ireturn, 1) := by decide +kernel
set_option maxRecDepth 20000 in
theorem ggX4_twist_X4_isCane : GoodIn wsX4_twist wsX4_isCane := goodIn_r _ [8, 9, 10, 11, 7, 12, 35, 36, 37, 38, 39, 40, 41, 42, 43, 44, 45, 46, 47, 48, 49] (by decide +kernel) (by decide +kernel)
set_option maxRecDepth 20000 in
theorem gX4_twist_X4_isCane : GoodIn wsX4_twist (wsV RX4 83 RX4 yX4_isCane wsX4_isCane) := goodIn_app (goodIn_of _ (by decide +kernel)) ggX4_twist_X4_isCane
set_option maxRecDepth 20000 in
theorem ggX4_twist_X4_no : GoodIn wsX4_twist wsX4_no := goodIn_r _ [16, 1, 35, 36, 37, 38, 39, 40, 41, 42, 43, 44, 45, 46, 47, 48, 49] (by decide +kernel) (by decide +kernel)
set_option maxRecDepth 20000 in
theorem gX4_twist_X4_no : GoodIn wsX4_twist (wsV RX4 67 RX4 yX4_no wsX4_no) := goodIn_app (goodIn_of _ (by decide +kernel)) ggX4_twist_X4_no
set_option maxRecDepth 20000 in
theorem ggX4_twist_X4_isIn : GoodIn wsX4_twist wsX4_isIn := goodIn_r _ [12] (by decide +kernel) (by decide +kernel)
set_option maxRecDepth 20000 in
theorem gX4_twist_X4_isIn : GoodIn wsX4_twist (va_wsS RX4 47 yX4_isIn wsX4_isIn) := goodIn_app (goodIn_of _ (by decide +kernel)) ggX4_twist_X4_isIn
set_option maxRecDepth 20000 in
theorem ggX4_twist_X4_bears : GoodIn wsX4_twist wsX4_bears := goodIn_r _ [20, 21, 2, 22, 23, 24, 7, 25, 9, 26, 27, 28, 29, 30, 31, 32, 33, 34, 35, 36, 37, 38, 39, 40, 41, 42, 43, 44, 45, 46, 47, 48, 49] (by decide +kernel) (by decide +kernel)
set_option maxRecDepth 20000 in
theorem gX4_twist_X4_bears : GoodIn wsX4_twist (wsV RX4 91 RX4 yX4_bears wsX4_bears) := goodIn_app (goodIn_of _ (by decide +kernel)) ggX4_twist_X4_bears
theorem dX4_twist_0 : decode cX4_twist 0 = .ok (.aload_n 0, 1) := by decide +kernel
theorem dX4_twist_1 : decode cX4_twist 1 = .ok (.iconst 0, 1) := by decide +kernel
theorem dX4_twist_2 : decode cX4_twist 2 = .ok (.putfield 41, 3) := by decide +kernel
theorem dX4_twist_5 : decode cX4_twist 5 = .ok (.aload_n 0, 1) := by decide +kernel
theorem dX4_twist_6 : decode cX4_twist 6 = .ok (.iload_n 1, 1) := by decide +kernel
theorem dX4_twist_7 : decode cX4_twist 7 = .ok (.invokevirtual 83, 3) := by decide +kernel
theorem dX4_twist_10 : decode cX4_twist 10 = .ok (.ifCond .ne 17, 3) := by decide +kernel
theorem dX4_twist_13 : decode cX4_twist 13 = .ok (.aload_n 0, 1) := by decide +kernel
theorem dX4_twist_14 : decode cX4_twist 14 = .ok (.iconst 1, 1) := by decide +kernel
theorem dX4_twist_15 : decode cX4_twist 15 = .ok (.invokevirtual 67, 3) := by decide +kernel
theorem dX4_twist_18 : decode cX4_twist 18 = .ok (.ifCond .eq 7, 3) := by decide +kernel
theorem dX4_twist_21 : decode cX4_twist 21 = .ok (.iconst 1, 1) := by decide +kernel
theorem dX4_twist_22 : decode cX4_twist 22 = .ok (.goto 4, 3) := by decide +kernel
theorem dX4_twist_25 : decode cX4_twist 25 = .ok (.iconst 0, 1) := by decide +kernel
theorem dX4_twist_26 : decode cX4_twist 26 = .ok (.ireturn, 1) := by decide +kernel
theorem dX4_twist_27 : decode cX4_twist 27 = .ok (.iload_n 2, 1) := by decide +kernel
theorem dX4_twist_28 : decode cX4_twist 28 = .ok (.ifCond .eq 13, 3) := by decide +kernel
theorem dX4_twist_31 : decode cX4_twist 31 = .ok (.iload_n 2, 1) := by decide +kernel
theorem dX4_twist_32 : decode cX4_twist 32 = .ok (.bipush (-4), 2) := by decide +kernel
theorem dX4_twist_34 : decode cX4_twist 34 = .ok (.iconst 4, 1) := by decide +kernel
theorem dX4_twist_35 : decode cX4_twist 35 = .ok (.invokestatic 47, 3) := by decide +kernel
theorem dX4_twist_38 : decode cX4_twist 38 = .ok (.ifCond .ne 17, 3) := by decide +kernel
theorem dX4_twist_41 : decode cX4_twist 41 = .ok (.aload_n 0, 1) := by decide +kernel
theorem dX4_twist_42 : decode cX4_twist 42 = .ok (.iconst 2, 1) := by decide +kernel
theorem dX4_twist_43 : decode cX4_twist 43 = .ok (.invokevirtual 67, 3) := by decide +kernel
theorem dX4_twist_46 : decode cX4_twist 46 = .ok (.ifCond .eq 7, 3) := by decide +kernel
theorem dX4_twist_49 : decode cX4_twist 49 = .ok (.iconst 1, 1) := by decide +kernel
theorem dX4_twist_50 : decode cX4_twist 50 = .ok (.goto 4, 3) := by decide +kernel
theorem dX4_twist_53 : decode cX4_twist 53 = .ok (.iconst 0, 1) := by decide +kernel
theorem dX4_twist_54 : decode cX4_twist 54 = .ok (.ireturn, 1) := by decide +kernel
theorem dX4_twist_55 : decode cX4_twist 55 = .ok (.aload_n 0, 1) := by decide +kernel
theorem dX4_twist_56 : decode cX4_twist 56 = .ok (.getfield 23, 3) := by decide +kernel
theorem dX4_twist_59 : decode cX4_twist 59 = .ok (.iload_n 1, 1) := by decide +kernel
theorem dX4_twist_60 : decode cX4_twist 60 = .ok (.iaload, 1) := by decide +kernel
theorem dX4_twist_61 : decode cX4_twist 61 = .ok (.ifCond .eq 20, 3) := by decide +kernel
theorem dX4_twist_64 : decode cX4_twist 64 = .ok (.aload_n 0, 1) := by decide +kernel
theorem dX4_twist_65 : decode cX4_twist 65 = .ok (.getfield 17, 3) := by decide +kernel
theorem dX4_twist_68 : decode cX4_twist 68 = .ok (.iload_n 1, 1) := by decide +kernel
theorem dX4_twist_69 : decode cX4_twist 69 = .ok (.iaload, 1) := by decide +kernel
theorem dX4_twist_70 : decode cX4_twist 70 = .ok (.iload_n 2, 1) := by decide +kernel
theorem dX4_twist_71 : decode cX4_twist 71 = .ok (.iadd, 1) := by decide +kernel
theorem dX4_twist_72 : decode cX4_twist 72 = .ok (.bipush (-4), 2) := by decide +kernel
theorem dX4_twist_74 : decode cX4_twist 74 = .ok (.iconst 4, 1) := by decide +kernel
theorem dX4_twist_75 : decode cX4_twist 75 = .ok (.invokestatic 47, 3) := by decide +kernel
theorem dX4_twist_78 : decode cX4_twist 78 = .ok (.ifCond .ne 17, 3) := by decide +kernel
theorem dX4_twist_81 : decode cX4_twist 81 = .ok (.aload_n 0, 1) := by decide +kernel
theorem dX4_twist_82 : decode cX4_twist 82 = .ok (.iconst 3, 1) := by decide +kernel
theorem dX4_twist_83 : decode cX4_twist 83 = .ok (.invokevirtual 67, 3) := by decide +kernel
theorem dX4_twist_86 : decode cX4_twist 86 = .ok (.ifCond .eq 7, 3) := by decide +kernel
theorem dX4_twist_89 : decode cX4_twist 89 = .ok (.iconst 1, 1) := by decide +kernel
theorem dX4_twist_90 : decode cX4_twist 90 = .ok (.goto 4, 3) := by decide +kernel
theorem dX4_twist_93 : decode cX4_twist 93 = .ok (.iconst 0, 1) := by decide +kernel
theorem dX4_twist_94 : decode cX4_twist 94 = .ok (.ireturn, 1) := by decide +kernel
theorem dX4_twist_95 : decode cX4_twist 95 = .ok (.aload_n 0, 1) := by decide +kernel
theorem dX4_twist_96 : decode cX4_twist 96 = .ok (.iload_n 1, 1) := by decide +kernel
theorem dX4_twist_97 : decode cX4_twist 97 = .ok (.iconst 4, 1) := by decide +kernel
theorem dX4_twist_98 : decode cX4_twist 98 = .ok (.invokevirtual 91, 3) := by decide +kernel
theorem dX4_twist_101 : decode cX4_twist 101 = .ok (.ifCond .ne 5, 3) := by decide +kernel
theorem dX4_twist_104 : decode cX4_twist 104 = .ok (.iconst 0, 1) := by decide +kernel
theorem dX4_twist_105 : decode cX4_twist 105 = .ok (.ireturn, 1) := by decide +kernel
theorem dX4_twist_106 : decode cX4_twist 106 = .ok (.aload_n 0, 1) := by decide +kernel
theorem dX4_twist_107 : decode cX4_twist 107 = .ok (.getfield 17, 3) := by decide +kernel
theorem dX4_twist_110 : decode cX4_twist 110 = .ok (.iload_n 1, 1) := by decide +kernel
theorem dX4_twist_111 : decode cX4_twist 111 = .ok (.dup2, 1) := by decide +kernel
theorem dX4_twist_112 : decode cX4_twist 112 = .ok (.iaload, 1) := by decide +kernel
theorem dX4_twist_113 : decode cX4_twist 113 = .ok (.iload_n 2, 1) := by decide +kernel
theorem dX4_twist_114 : decode cX4_twist 114 = .ok (.iadd, 1) := by decide +kernel
theorem dX4_twist_115 : decode cX4_twist 115 = .ok (.iastore, 1) := by decide +kernel
theorem dX4_twist_116 : decode cX4_twist 116 = .ok (.iconst 1, 1) := by decide +kernel
theorem dX4_twist_117 : decode cX4_twist 117 = .ok (.ireturn, 1) := by decide +kernel
set_option maxRecDepth 20000 in
theorem ggX4_pull_X4_isCane : GoodIn wsX4_pull wsX4_isCane := goodIn_r _ [13, 14, 15, 16, 12, 17, 36, 37, 38, 39, 40, 41, 42, 43, 44, 45, 46, 47, 48, 49, 50] (by decide +kernel) (by decide +kernel)
set_option maxRecDepth 20000 in
theorem gX4_pull_X4_isCane : GoodIn wsX4_pull (wsV RX4 83 RX4 yX4_isCane wsX4_isCane) := goodIn_app (goodIn_of _ (by decide +kernel)) ggX4_pull_X4_isCane
set_option maxRecDepth 20000 in
theorem ggX4_pull_X4_no : GoodIn wsX4_pull wsX4_no := goodIn_r _ [21, 1, 36, 37, 38, 39, 40, 41, 42, 43, 44, 45, 46, 47, 48, 49, 50] (by decide +kernel) (by decide +kernel)
set_option maxRecDepth 20000 in
theorem gX4_pull_X4_no : GoodIn wsX4_pull (wsV RX4 67 RX4 yX4_no wsX4_no) := goodIn_app (goodIn_of _ (by decide +kernel)) ggX4_pull_X4_no
set_option maxRecDepth 20000 in
theorem ggX4_pull_X4_bears : GoodIn wsX4_pull wsX4_bears := goodIn_r _ [25, 26, 2, 27, 28, 29, 12, 30, 14, 31, 4, 5, 6, 7, 32, 33, 34, 35, 36, 37, 38, 39, 40, 41, 42, 43, 44, 45, 46, 47, 48, 49, 50] (by decide +kernel) (by decide +kernel)
set_option maxRecDepth 20000 in
theorem gX4_pull_X4_bears : GoodIn wsX4_pull (wsV RX4 91 RX4 yX4_bears wsX4_bears) := goodIn_app (goodIn_of _ (by decide +kernel)) ggX4_pull_X4_bears
theorem dX4_pull_0 : decode cX4_pull 0 = .ok (.aload_n 0, 1) := by decide +kernel
theorem dX4_pull_1 : decode cX4_pull 1 = .ok (.iconst 0, 1) := by decide +kernel
theorem dX4_pull_2 : decode cX4_pull 2 = .ok (.putfield 41, 3) := by decide +kernel
theorem dX4_pull_5 : decode cX4_pull 5 = .ok (.aload_n 0, 1) := by decide +kernel
theorem dX4_pull_6 : decode cX4_pull 6 = .ok (.iload_n 1, 1) := by decide +kernel
theorem dX4_pull_7 : decode cX4_pull 7 = .ok (.invokevirtual 83, 3) := by decide +kernel
theorem dX4_pull_10 : decode cX4_pull 10 = .ok (.ifCond .ne 17, 3) := by decide +kernel
theorem dX4_pull_13 : decode cX4_pull 13 = .ok (.aload_n 0, 1) := by decide +kernel
theorem dX4_pull_14 : decode cX4_pull 14 = .ok (.iconst 1, 1) := by decide +kernel
theorem dX4_pull_15 : decode cX4_pull 15 = .ok (.invokevirtual 67, 3) := by decide +kernel
theorem dX4_pull_18 : decode cX4_pull 18 = .ok (.ifCond .eq 7, 3) := by decide +kernel
theorem dX4_pull_21 : decode cX4_pull 21 = .ok (.iconst 1, 1) := by decide +kernel
theorem dX4_pull_22 : decode cX4_pull 22 = .ok (.goto 4, 3) := by decide +kernel
theorem dX4_pull_25 : decode cX4_pull 25 = .ok (.iconst 0, 1) := by decide +kernel
theorem dX4_pull_26 : decode cX4_pull 26 = .ok (.ireturn, 1) := by decide +kernel
theorem dX4_pull_27 : decode cX4_pull 27 = .ok (.aload_n 0, 1) := by decide +kernel
theorem dX4_pull_28 : decode cX4_pull 28 = .ok (.getfield 23, 3) := by decide +kernel
theorem dX4_pull_31 : decode cX4_pull 31 = .ok (.iload_n 1, 1) := by decide +kernel
theorem dX4_pull_32 : decode cX4_pull 32 = .ok (.iaload, 1) := by decide +kernel
theorem dX4_pull_33 : decode cX4_pull 33 = .ok (.ifCond .ne 17, 3) := by decide +kernel
theorem dX4_pull_36 : decode cX4_pull 36 = .ok (.aload_n 0, 1) := by decide +kernel
theorem dX4_pull_37 : decode cX4_pull 37 = .ok (.iconst 2, 1) := by decide +kernel
theorem dX4_pull_38 : decode cX4_pull 38 = .ok (.invokevirtual 67, 3) := by decide +kernel
theorem dX4_pull_41 : decode cX4_pull 41 = .ok (.ifCond .eq 7, 3) := by decide +kernel
theorem dX4_pull_44 : decode cX4_pull 44 = .ok (.iconst 1, 1) := by decide +kernel
theorem dX4_pull_45 : decode cX4_pull 45 = .ok (.goto 4, 3) := by decide +kernel
theorem dX4_pull_48 : decode cX4_pull 48 = .ok (.iconst 0, 1) := by decide +kernel
theorem dX4_pull_49 : decode cX4_pull 49 = .ok (.ireturn, 1) := by decide +kernel
theorem dX4_pull_50 : decode cX4_pull 50 = .ok (.aload_n 0, 1) := by decide +kernel
theorem dX4_pull_51 : decode cX4_pull 51 = .ok (.iload_n 1, 1) := by decide +kernel
theorem dX4_pull_52 : decode cX4_pull 52 = .ok (.bipush 6, 2) := by decide +kernel
theorem dX4_pull_54 : decode cX4_pull 54 = .ok (.invokevirtual 91, 3) := by decide +kernel
theorem dX4_pull_57 : decode cX4_pull 57 = .ok (.ifCond .ne 5, 3) := by decide +kernel
theorem dX4_pull_60 : decode cX4_pull 60 = .ok (.iconst 0, 1) := by decide +kernel
theorem dX4_pull_61 : decode cX4_pull 61 = .ok (.ireturn, 1) := by decide +kernel
theorem dX4_pull_62 : decode cX4_pull 62 = .ok (.aload_n 0, 1) := by decide +kernel
theorem dX4_pull_63 : decode cX4_pull 63 = .ok (.getfield 13, 3) := by decide +kernel
theorem dX4_pull_66 : decode cX4_pull 66 = .ok (.iload_n 1, 1) := by decide +kernel
theorem dX4_pull_67 : decode cX4_pull 67 = .ok (.bipush 60, 2) := by decide +kernel
theorem dX4_pull_69 : decode cX4_pull 69 = .ok (.iconst 2, 1) := by decide +kernel
theorem dX4_pull_70 : decode cX4_pull 70 = .ok (.aload_n 0, 1) := by decide +kernel
theorem dX4_pull_71 : decode cX4_pull 71 = .ok (.getfield 13, 3) := by decide +kernel
theorem dX4_pull_74 : decode cX4_pull 74 = .ok (.iload_n 1, 1) := by decide +kernel
theorem dX4_pull_75 : decode cX4_pull 75 = .ok (.iaload, 1) := by decide +kernel
theorem dX4_pull_76 : decode cX4_pull 76 = .ok (.imul, 1) := by decide +kernel
theorem dX4_pull_77 : decode cX4_pull 77 = .ok (.invokestatic 71, 3) := by decide +kernel
theorem dX4_pull_80 : decode cX4_pull 80 = .ok (.iastore, 1) := by decide +kernel
theorem dX4_pull_81 : decode cX4_pull 81 = .ok (.aload_n 0, 1) := by decide +kernel
theorem dX4_pull_82 : decode cX4_pull 82 = .ok (.getfield 17, 3) := by decide +kernel
theorem dX4_pull_85 : decode cX4_pull 85 = .ok (.iload_n 1, 1) := by decide +kernel
theorem dX4_pull_86 : decode cX4_pull 86 = .ok (.dup2, 1) := by decide +kernel
theorem dX4_pull_87 : decode cX4_pull 87 = .ok (.iaload, 1) := by decide +kernel
theorem dX4_pull_88 : decode cX4_pull 88 = .ok (.iconst 2, 1) := by decide +kernel
theorem dX4_pull_89 : decode cX4_pull 89 = .ok (.idiv, 1) := by decide +kernel
theorem dX4_pull_90 : decode cX4_pull 90 = .ok (.iastore, 1) := by decide +kernel
theorem dX4_pull_91 : decode cX4_pull 91 = .ok (.iconst 1, 1) := by decide +kernel
theorem dX4_pull_92 : decode cX4_pull 92 = .ok (.ireturn, 1) := by decide +kernel
set_option maxRecDepth 20000 in
theorem ggX4_furnace_X4_isCane : GoodIn wsX4_furnace wsX4_isCane := goodIn_r _ [7, 8, 9, 10, 6, 11, 16, 17, 18, 19, 20, 21, 22, 23, 24, 25, 26, 27, 28, 29, 30] (by decide +kernel) (by decide +kernel)
set_option maxRecDepth 20000 in
theorem gX4_furnace_X4_isCane : GoodIn wsX4_furnace (wsV RX4 83 RX4 yX4_isCane wsX4_isCane) := goodIn_app (goodIn_of _ (by decide +kernel)) ggX4_furnace_X4_isCane
set_option maxRecDepth 20000 in
theorem ggX4_furnace_X4_no : GoodIn wsX4_furnace wsX4_no := goodIn_r _ [15, 1, 16, 17, 18, 19, 20, 21, 22, 23, 24, 25, 26, 27, 28, 29, 30] (by decide +kernel) (by decide +kernel)
set_option maxRecDepth 20000 in
theorem gX4_furnace_X4_no : GoodIn wsX4_furnace (wsV RX4 67 RX4 yX4_no wsX4_no) := goodIn_app (goodIn_of _ (by decide +kernel)) ggX4_furnace_X4_no
theorem dX4_furnace_0 : decode cX4_furnace 0 = .ok (.aload_n 0, 1) := by decide +kernel
theorem dX4_furnace_1 : decode cX4_furnace 1 = .ok (.iconst 0, 1) := by decide +kernel
theorem dX4_furnace_2 : decode cX4_furnace 2 = .ok (.putfield 41, 3) := by decide +kernel
theorem dX4_furnace_5 : decode cX4_furnace 5 = .ok (.iload_n 1, 1) := by decide +kernel
theorem dX4_furnace_6 : decode cX4_furnace 6 = .ok (.iconst (-1), 1) := by decide +kernel
theorem dX4_furnace_7 : decode cX4_furnace 7 = .ok (.if_icmp .eq 17, 3) := by decide +kernel
theorem dX4_furnace_10 : decode cX4_furnace 10 = .ok (.aload_n 0, 1) := by decide +kernel
theorem dX4_furnace_11 : decode cX4_furnace 11 = .ok (.iload_n 1, 1) := by decide +kernel
theorem dX4_furnace_12 : decode cX4_furnace 12 = .ok (.invokevirtual 83, 3) := by decide +kernel
theorem dX4_furnace_15 : decode cX4_furnace 15 = .ok (.ifCond .ne 9, 3) := by decide +kernel
theorem dX4_furnace_18 : decode cX4_furnace 18 = .ok (.aload_n 0, 1) := by decide +kernel
theorem dX4_furnace_19 : decode cX4_furnace 19 = .ok (.iconst 1, 1) := by decide +kernel
theorem dX4_furnace_20 : decode cX4_furnace 20 = .ok (.invokevirtual 67, 3) := by decide +kernel
theorem dX4_furnace_23 : decode cX4_furnace 23 = .ok (.ireturn, 1) := by decide +kernel
theorem dX4_furnace_24 : decode cX4_furnace 24 = .ok (.aload_n 0, 1) := by decide +kernel
theorem dX4_furnace_25 : decode cX4_furnace 25 = .ok (.getfield 9, 3) := by decide +kernel
theorem dX4_furnace_28 : decode cX4_furnace 28 = .ok (.istore_n 2, 1) := by decide +kernel
theorem dX4_furnace_29 : decode cX4_furnace 29 = .ok (.aload_n 0, 1) := by decide +kernel
theorem dX4_furnace_30 : decode cX4_furnace 30 = .ok (.iload_n 1, 1) := by decide +kernel
theorem dX4_furnace_31 : decode cX4_furnace 31 = .ok (.putfield 9, 3) := by decide +kernel
theorem dX4_furnace_34 : decode cX4_furnace 34 = .ok (.iload_n 2, 1) := by decide +kernel
theorem dX4_furnace_35 : decode cX4_furnace 35 = .ok (.ireturn, 1) := by decide +kernel
theorem dX4_allHeat_0 : decode cX4_allHeat 0 = .ok (.iconst 0, 1) := by decide +kernel
theorem dX4_allHeat_1 : decode cX4_allHeat 1 = .ok (.istore_n 1, 1) := by decide +kernel
theorem dX4_allHeat_2 : decode cX4_allHeat 2 = .ok (.iconst 0, 1) := by decide +kernel
theorem dX4_allHeat_3 : decode cX4_allHeat 3 = .ok (.istore_n 2, 1) := by decide +kernel
theorem dX4_allHeat_4 : decode cX4_allHeat 4 = .ok (.iload_n 2, 1) := by decide +kernel
theorem dX4_allHeat_5 : decode cX4_allHeat 5 = .ok (.aload_n 0, 1) := by decide +kernel
theorem dX4_allHeat_6 : decode cX4_allHeat 6 = .ok (.getfield 44, 3) := by decide +kernel
theorem dX4_allHeat_9 : decode cX4_allHeat 9 = .ok (.if_icmp .ge 18, 3) := by decide +kernel
theorem dX4_allHeat_12 : decode cX4_allHeat 12 = .ok (.iload_n 1, 1) := by decide +kernel
theorem dX4_allHeat_13 : decode cX4_allHeat 13 = .ok (.aload_n 0, 1) := by decide +kernel
theorem dX4_allHeat_14 : decode cX4_allHeat 14 = .ok (.getfield 20, 3) := by decide +kernel
theorem dX4_allHeat_17 : decode cX4_allHeat 17 = .ok (.iload_n 2, 1) := by decide +kernel
theorem dX4_allHeat_18 : decode cX4_allHeat 18 = .ok (.iaload, 1) := by decide +kernel
theorem dX4_allHeat_19 : decode cX4_allHeat 19 = .ok (.iadd, 1) := by decide +kernel
theorem dX4_allHeat_20 : decode cX4_allHeat 20 = .ok (.istore_n 1, 1) := by decide +kernel
theorem dX4_allHeat_21 : decode cX4_allHeat 21 = .ok (.iinc 2 1, 3) := by decide +kernel
theorem dX4_allHeat_24 : decode cX4_allHeat 24 = .ok (.goto (-20), 3) := by decide +kernel
theorem dX4_allHeat_27 : decode cX4_allHeat 27 = .ok (.iload_n 1, 1) := by decide +kernel
theorem dX4_allHeat_28 : decode cX4_allHeat 28 = .ok (.ireturn, 1) := by decide +kernel
set_option maxRecDepth 20000 in
theorem ggX4_rest_X4_isIn : GoodIn wsX4_rest wsX4_isIn := goodIn_r _ [5] (by decide +kernel) (by decide +kernel)
set_option maxRecDepth 20000 in
theorem gX4_rest_X4_isIn : GoodIn wsX4_rest (va_wsS RX4 47 yX4_isIn wsX4_isIn) := goodIn_app (goodIn_of _ (by decide +kernel)) ggX4_rest_X4_isIn
set_option maxRecDepth 20000 in
theorem ggX4_rest_X4_no : GoodIn wsX4_rest wsX4_no := goodIn_r _ [9, 1, 29, 30, 31, 32, 33, 34, 35, 36, 37, 38, 39, 40, 41, 42, 43] (by decide +kernel) (by decide +kernel)
set_option maxRecDepth 20000 in
theorem gX4_rest_X4_no : GoodIn wsX4_rest (wsV RX4 67 RX4 yX4_no wsX4_no) := goodIn_app (goodIn_of _ (by decide +kernel)) ggX4_rest_X4_no
set_option maxRecDepth 20000 in
theorem ggX4_rest_X4_pass : GoodIn wsX4_rest wsX4_pass := goodIn_r _ [13, 14, 15, 16, 17, 18, 19, 20, 21, 22, 23, 24, 29, 30, 31, 32, 33, 34, 35, 36, 37, 38, 39, 40, 41, 42, 43] (by decide +kernel) (by decide +kernel)
set_option maxRecDepth 20000 in
theorem gX4_rest_X4_pass : GoodIn wsX4_rest (wsV RX4 80 RX4 yX4_pass wsX4_pass) := goodIn_app (goodIn_of _ (by decide +kernel)) ggX4_rest_X4_pass
set_option maxRecDepth 20000 in
theorem ggX4_rest_X4_allHeat : GoodIn wsX4_rest wsX4_allHeat := goodIn_r _ [28, 14, 15, 29, 30, 31, 32, 33, 34, 35, 36, 37, 38, 39, 40, 41, 42, 43] (by decide +kernel) (by decide +kernel)
set_option maxRecDepth 20000 in
theorem gX4_rest_X4_allHeat : GoodIn wsX4_rest (wsV RX4 94 RX4 yX4_allHeat wsX4_allHeat) := goodIn_app (goodIn_of _ (by decide +kernel)) ggX4_rest_X4_allHeat
theorem dX4_rest_0 : decode cX4_rest 0 = .ok (.aload_n 0, 1) := by decide +kernel
theorem dX4_rest_1 : decode cX4_rest 1 = .ok (.iconst 0, 1) := by decide +kernel
theorem dX4_rest_2 : decode cX4_rest 2 = .ok (.putfield 41, 3) := by decide +kernel
theorem dX4_rest_5 : decode cX4_rest 5 = .ok (.iload_n 1, 1) := by decide +kernel
theorem dX4_rest_6 : decode cX4_rest 6 = .ok (.iconst 1, 1) := by decide +kernel
theorem dX4_rest_7 : decode cX4_rest 7 = .ok (.bipush 60, 2) := by decide +kernel
theorem dX4_rest_9 : decode cX4_rest 9 = .ok (.invokestatic 47, 3) := by decide +kernel
theorem dX4_rest_12 : decode cX4_rest 12 = .ok (.ifCond .ne 9, 3) := by decide +kernel
theorem dX4_rest_15 : decode cX4_rest 15 = .ok (.aload_n 0, 1) := by decide +kernel
theorem dX4_rest_16 : decode cX4_rest 16 = .ok (.iconst 1, 1) := by decide +kernel
theorem dX4_rest_17 : decode cX4_rest 17 = .ok (.invokevirtual 67, 3) := by decide +kernel
theorem dX4_rest_20 : decode cX4_rest 20 = .ok (.ireturn, 1) := by decide +kernel
theorem dX4_rest_21 : decode cX4_rest 21 = .ok (.iconst 0, 1) := by decide +kernel
theorem dX4_rest_22 : decode cX4_rest 22 = .ok (.istore_n 2, 1) := by decide +kernel
theorem dX4_rest_23 : decode cX4_rest 23 = .ok (.iload_n 2, 1) := by decide +kernel
theorem dX4_rest_24 : decode cX4_rest 24 = .ok (.iload_n 1, 1) := by decide +kernel
theorem dX4_rest_25 : decode cX4_rest 25 = .ok (.if_icmp .ge 13, 3) := by decide +kernel
theorem dX4_rest_28 : decode cX4_rest 28 = .ok (.aload_n 0, 1) := by decide +kernel
theorem dX4_rest_29 : decode cX4_rest 29 = .ok (.invokevirtual 80, 3) := by decide +kernel
theorem dX4_rest_32 : decode cX4_rest 32 = .ok (.iinc 2 1, 3) := by decide +kernel
theorem dX4_rest_35 : decode cX4_rest 35 = .ok (.goto (-12), 3) := by decide +kernel
theorem dX4_rest_38 : decode cX4_rest 38 = .ok (.aload_n 0, 1) := by decide +kernel
theorem dX4_rest_39 : decode cX4_rest 39 = .ok (.invokevirtual 94, 3) := by decide +kernel
theorem dX4_rest_42 : decode cX4_rest 42 = .ok (.ireturn, 1) := by decide +kernel
set_option maxRecDepth 20000 in
theorem ggX4_cut_X4_isCane : GoodIn wsX4_cut wsX4_isCane := goodIn_r _ [13, 14, 15, 16, 12, 17, 30, 31, 32, 33, 34, 35, 36, 37, 38, 39, 40, 41, 42, 43, 44] (by decide +kernel) (by decide +kernel)
set_option maxRecDepth 20000 in
theorem gX4_cut_X4_isCane : GoodIn wsX4_cut (wsV RX4 83 RX4 yX4_isCane wsX4_isCane) := goodIn_app (goodIn_of _ (by decide +kernel)) ggX4_cut_X4_isCane
set_option maxRecDepth 20000 in
theorem ggX4_cut_X4_no : GoodIn wsX4_cut wsX4_no := goodIn_r _ [21, 1, 30, 31, 32, 33, 34, 35, 36, 37, 38, 39, 40, 41, 42, 43, 44] (by decide +kernel) (by decide +kernel)
set_option maxRecDepth 20000 in
theorem gX4_cut_X4_no : GoodIn wsX4_cut (wsV RX4 67 RX4 yX4_no wsX4_no) := goodIn_app (goodIn_of _ (by decide +kernel)) ggX4_cut_X4_no
set_option maxRecDepth 20000 in
theorem ggX4_cut_X4_rotated : GoodIn wsX4_cut wsX4_rotated := goodIn_r _ [24, 25, 26, 27, 28, 29] (by decide +kernel) (by decide +kernel)
set_option maxRecDepth 20000 in
theorem gX4_cut_X4_rotated : GoodIn wsX4_cut (va_wsS RX4 64 yX4_rotated wsX4_rotated) := goodIn_app (goodIn_of _ (by decide +kernel)) ggX4_cut_X4_rotated
theorem dX4_cut_0 : decode cX4_cut 0 = .ok (.aload_n 0, 1) := by decide +kernel
theorem dX4_cut_1 : decode cX4_cut 1 = .ok (.iconst 0, 1) := by decide +kernel
theorem dX4_cut_2 : decode cX4_cut 2 = .ok (.putfield 41, 3) := by decide +kernel
theorem dX4_cut_5 : decode cX4_cut 5 = .ok (.aload_n 0, 1) := by decide +kernel
theorem dX4_cut_6 : decode cX4_cut 6 = .ok (.iload_n 1, 1) := by decide +kernel
theorem dX4_cut_7 : decode cX4_cut 7 = .ok (.invokevirtual 83, 3) := by decide +kernel
theorem dX4_cut_10 : decode cX4_cut 10 = .ok (.ifCond .ne 9, 3) := by decide +kernel
theorem dX4_cut_13 : decode cX4_cut 13 = .ok (.aload_n 0, 1) := by decide +kernel
theorem dX4_cut_14 : decode cX4_cut 14 = .ok (.iconst 1, 1) := by decide +kernel
theorem dX4_cut_15 : decode cX4_cut 15 = .ok (.invokevirtual 67, 3) := by decide +kernel
theorem dX4_cut_18 : decode cX4_cut 18 = .ok (.ireturn, 1) := by decide +kernel
theorem dX4_cut_19 : decode cX4_cut 19 = .ok (.aload_n 0, 1) := by decide +kernel
theorem dX4_cut_20 : decode cX4_cut 20 = .ok (.getfield 13, 3) := by decide +kernel
theorem dX4_cut_23 : decode cX4_cut 23 = .ok (.iload_n 1, 1) := by decide +kernel
theorem dX4_cut_24 : decode cX4_cut 24 = .ok (.iaload, 1) := by decide +kernel
theorem dX4_cut_25 : decode cX4_cut 25 = .ok (.ifCond .eq 22, 3) := by decide +kernel
theorem dX4_cut_28 : decode cX4_cut 28 = .ok (.aload_n 0, 1) := by decide +kernel
theorem dX4_cut_29 : decode cX4_cut 29 = .ok (.getfield 20, 3) := by decide +kernel
theorem dX4_cut_32 : decode cX4_cut 32 = .ok (.iload_n 1, 1) := by decide +kernel
theorem dX4_cut_33 : decode cX4_cut 33 = .ok (.iaload, 1) := by decide +kernel
theorem dX4_cut_34 : decode cX4_cut 34 = .ok (.iconst 3, 1) := by decide +kernel
theorem dX4_cut_35 : decode cX4_cut 35 = .ok (.if_icmp .gt 12, 3) := by decide +kernel
theorem dX4_cut_38 : decode cX4_cut 38 = .ok (.aload_n 0, 1) := by decide +kernel
theorem dX4_cut_39 : decode cX4_cut 39 = .ok (.getfield 51, 3) := by decide +kernel
theorem dX4_cut_42 : decode cX4_cut 42 = .ok (.bipush 60, 2) := by decide +kernel
theorem dX4_cut_44 : decode cX4_cut 44 = .ok (.if_icmp .ne 9, 3) := by decide +kernel
theorem dX4_cut_47 : decode cX4_cut 47 = .ok (.aload_n 0, 1) := by decide +kernel
theorem dX4_cut_48 : decode cX4_cut 48 = .ok (.iconst 2, 1) := by decide +kernel
theorem dX4_cut_49 : decode cX4_cut 49 = .ok (.invokevirtual 67, 3) := by decide +kernel
theorem dX4_cut_52 : decode cX4_cut 52 = .ok (.ireturn, 1) := by decide +kernel
theorem dX4_cut_53 : decode cX4_cut 53 = .ok (.aload_n 0, 1) := by decide +kernel
theorem dX4_cut_54 : decode cX4_cut 54 = .ok (.getfield 13, 3) := by decide +kernel
theorem dX4_cut_57 : decode cX4_cut 57 = .ok (.iload_n 1, 1) := by decide +kernel
theorem dX4_cut_58 : decode cX4_cut 58 = .ok (.dup2, 1) := by decide +kernel
theorem dX4_cut_59 : decode cX4_cut 59 = .ok (.iaload, 1) := by decide +kernel
theorem dX4_cut_60 : decode cX4_cut 60 = .ok (.iconst 1, 1) := by decide +kernel
theorem dX4_cut_61 : decode cX4_cut 61 = .ok (.isub, 1) := by decide +kernel
theorem dX4_cut_62 : decode cX4_cut 62 = .ok (.iastore, 1) := by decide +kernel
theorem dX4_cut_63 : decode cX4_cut 63 = .ok (.iconst 0, 1) := by decide +kernel
theorem dX4_cut_64 : decode cX4_cut 64 = .ok (.istore_n 2, 1) := by decide +kernel
theorem dX4_cut_65 : decode cX4_cut 65 = .ok (.iload_n 2, 1) := by decide +kernel
theorem dX4_cut_66 : decode cX4_cut 66 = .ok (.iconst 3, 1) := by decide +kernel
theorem dX4_cut_67 : decode cX4_cut 67 = .ok (.if_icmp .ge 48, 3) := by decide +kernel
theorem dX4_cut_70 : decode cX4_cut 70 = .ok (.aload_n 0, 1) := by decide +kernel
theorem dX4_cut_71 : decode cX4_cut 71 = .ok (.getfield 29, 3) := by decide +kernel
theorem dX4_cut_74 : decode cX4_cut 74 = .ok (.iconst 3, 1) := by decide +kernel
theorem dX4_cut_75 : decode cX4_cut 75 = .ok (.aload_n 0, 1) := by decide +kernel
theorem dX4_cut_76 : decode cX4_cut 76 = .ok (.getfield 51, 3) := by decide +kernel
theorem dX4_cut_79 : decode cX4_cut 79 = .ok (.imul, 1) := by decide +kernel
theorem dX4_cut_80 : decode cX4_cut 80 = .ok (.iload_n 2, 1) := by decide +kernel
theorem dX4_cut_81 : decode cX4_cut 81 = .ok (.iadd, 1) := by decide +kernel
theorem dX4_cut_82 : decode cX4_cut 82 = .ok (.aload_n 0, 1) := by decide +kernel
theorem dX4_cut_83 : decode cX4_cut 83 = .ok (.getfield 26, 3) := by decide +kernel
theorem dX4_cut_86 : decode cX4_cut 86 = .ok (.iconst 3, 1) := by decide +kernel
theorem dX4_cut_87 : decode cX4_cut 87 = .ok (.iload_n 1, 1) := by decide +kernel
theorem dX4_cut_88 : decode cX4_cut 88 = .ok (.imul, 1) := by decide +kernel
theorem dX4_cut_89 : decode cX4_cut 89 = .ok (.iload_n 2, 1) := by decide +kernel
theorem dX4_cut_90 : decode cX4_cut 90 = .ok (.iadd, 1) := by decide +kernel
theorem dX4_cut_91 : decode cX4_cut 91 = .ok (.iaload, 1) := by decide +kernel
theorem dX4_cut_92 : decode cX4_cut 92 = .ok (.aload_n 0, 1) := by decide +kernel
theorem dX4_cut_93 : decode cX4_cut 93 = .ok (.getfield 17, 3) := by decide +kernel
theorem dX4_cut_96 : decode cX4_cut 96 = .ok (.iload_n 1, 1) := by decide +kernel
theorem dX4_cut_97 : decode cX4_cut 97 = .ok (.iaload, 1) := by decide +kernel
theorem dX4_cut_98 : decode cX4_cut 98 = .ok (.aload_n 0, 1) := by decide +kernel
theorem dX4_cut_99 : decode cX4_cut 99 = .ok (.getfield 13, 3) := by decide +kernel
theorem dX4_cut_102 : decode cX4_cut 102 = .ok (.iload_n 1, 1) := by decide +kernel
theorem dX4_cut_103 : decode cX4_cut 103 = .ok (.iaload, 1) := by decide +kernel
theorem dX4_cut_104 : decode cX4_cut 104 = .ok (.imul, 1) := by decide +kernel
theorem dX4_cut_105 : decode cX4_cut 105 = .ok (.invokestatic 64, 3) := by decide +kernel
theorem dX4_cut_108 : decode cX4_cut 108 = .ok (.iastore, 1) := by decide +kernel
theorem dX4_cut_109 : decode cX4_cut 109 = .ok (.iinc 2 1, 3) := by decide +kernel
theorem dX4_cut_112 : decode cX4_cut 112 = .ok (.goto (-47), 3) := by decide +kernel
theorem dX4_cut_115 : decode cX4_cut 115 = .ok (.aload_n 0, 1) := by decide +kernel
theorem dX4_cut_116 : decode cX4_cut 116 = .ok (.getfield 32, 3) := by decide +kernel
theorem dX4_cut_119 : decode cX4_cut 119 = .ok (.aload_n 0, 1) := by decide +kernel
theorem dX4_cut_120 : decode cX4_cut 120 = .ok (.getfield 51, 3) := by decide +kernel
theorem dX4_cut_123 : decode cX4_cut 123 = .ok (.iconst (-1), 1) := by decide +kernel
theorem dX4_cut_124 : decode cX4_cut 124 = .ok (.iastore, 1) := by decide +kernel
theorem dX4_cut_125 : decode cX4_cut 125 = .ok (.aload_n 0, 1) := by decide +kernel
theorem dX4_cut_126 : decode cX4_cut 126 = .ok (.dup, 1) := by decide +kernel
theorem dX4_cut_127 : decode cX4_cut 127 = .ok (.getfield 51, 3) := by decide +kernel
theorem dX4_cut_130 : decode cX4_cut 130 = .ok (.iconst 1, 1) := by decide +kernel
theorem dX4_cut_131 : decode cX4_cut 131 = .ok (.iadd, 1) := by decide +kernel
theorem dX4_cut_132 : decode cX4_cut 132 = .ok (.putfield 51, 3) := by decide +kernel
theorem dX4_cut_135 : decode cX4_cut 135 = .ok (.aload_n 0, 1) := by decide +kernel
theorem dX4_cut_136 : decode cX4_cut 136 = .ok (.getfield 51, 3) := by decide +kernel
theorem dX4_cut_139 : decode cX4_cut 139 = .ok (.iconst 1, 1) := by decide +kernel
theorem dX4_cut_140 : decode cX4_cut 140 = .ok (.isub, 1) := by decide +kernel
theorem dX4_cut_141 : decode cX4_cut 141 = .ok (.ireturn, 1) := by decide +kernel
theorem dX4_caneTold_0 : decode cX4_caneTold 0 = .ok (.iconst 5, 1) := by decide +kernel
theorem dX4_caneTold_1 : decode cX4_caneTold 1 = .ok (.newarray .int, 2) := by decide +kernel
theorem dX4_caneTold_3 : decode cX4_caneTold 3 = .ok (.dup, 1) := by decide +kernel
theorem dX4_caneTold_4 : decode cX4_caneTold 4 = .ok (.iconst 0, 1) := by decide +kernel
theorem dX4_caneTold_5 : decode cX4_caneTold 5 = .ok (.aload_n 0, 1) := by decide +kernel
theorem dX4_caneTold_6 : decode cX4_caneTold 6 = .ok (.getfield 13, 3) := by decide +kernel
theorem dX4_caneTold_9 : decode cX4_caneTold 9 = .ok (.iload_n 1, 1) := by decide +kernel
theorem dX4_caneTold_10 : decode cX4_caneTold 10 = .ok (.iaload, 1) := by decide +kernel
theorem dX4_caneTold_11 : decode cX4_caneTold 11 = .ok (.iastore, 1) := by decide +kernel
theorem dX4_caneTold_12 : decode cX4_caneTold 12 = .ok (.dup, 1) := by decide +kernel
theorem dX4_caneTold_13 : decode cX4_caneTold 13 = .ok (.iconst 1, 1) := by decide +kernel
theorem dX4_caneTold_14 : decode cX4_caneTold 14 = .ok (.aload_n 0, 1) := by decide +kernel
theorem dX4_caneTold_15 : decode cX4_caneTold 15 = .ok (.getfield 17, 3) := by decide +kernel
theorem dX4_caneTold_18 : decode cX4_caneTold 18 = .ok (.iload_n 1, 1) := by decide +kernel
theorem dX4_caneTold_19 : decode cX4_caneTold 19 = .ok (.iaload, 1) := by decide +kernel
theorem dX4_caneTold_20 : decode cX4_caneTold 20 = .ok (.iastore, 1) := by decide +kernel
theorem dX4_caneTold_21 : decode cX4_caneTold 21 = .ok (.dup, 1) := by decide +kernel
theorem dX4_caneTold_22 : decode cX4_caneTold 22 = .ok (.iconst 2, 1) := by decide +kernel
theorem dX4_caneTold_23 : decode cX4_caneTold 23 = .ok (.aload_n 0, 1) := by decide +kernel
theorem dX4_caneTold_24 : decode cX4_caneTold 24 = .ok (.getfield 20, 3) := by decide +kernel
theorem dX4_caneTold_27 : decode cX4_caneTold 27 = .ok (.iload_n 1, 1) := by decide +kernel
theorem dX4_caneTold_28 : decode cX4_caneTold 28 = .ok (.iaload, 1) := by decide +kernel
theorem dX4_caneTold_29 : decode cX4_caneTold 29 = .ok (.iastore, 1) := by decide +kernel
theorem dX4_caneTold_30 : decode cX4_caneTold 30 = .ok (.dup, 1) := by decide +kernel
theorem dX4_caneTold_31 : decode cX4_caneTold 31 = .ok (.iconst 3, 1) := by decide +kernel
theorem dX4_caneTold_32 : decode cX4_caneTold 32 = .ok (.aload_n 0, 1) := by decide +kernel
theorem dX4_caneTold_33 : decode cX4_caneTold 33 = .ok (.getfield 23, 3) := by decide +kernel
theorem dX4_caneTold_36 : decode cX4_caneTold 36 = .ok (.iload_n 1, 1) := by decide +kernel
theorem dX4_caneTold_37 : decode cX4_caneTold 37 = .ok (.iaload, 1) := by decide +kernel
theorem dX4_caneTold_38 : decode cX4_caneTold 38 = .ok (.iastore, 1) := by decide +kernel
theorem dX4_caneTold_39 : decode cX4_caneTold 39 = .ok (.dup, 1) := by decide +kernel
theorem dX4_caneTold_40 : decode cX4_caneTold 40 = .ok (.iconst 4, 1) := by decide +kernel
theorem dX4_caneTold_41 : decode cX4_caneTold 41 = .ok (.iload_n 1, 1) := by decide +kernel
theorem dX4_caneTold_42 : decode cX4_caneTold 42 = .ok (.aload_n 0, 1) := by decide +kernel
theorem dX4_caneTold_43 : decode cX4_caneTold 43 = .ok (.getfield 9, 3) := by decide +kernel
theorem dX4_caneTold_46 : decode cX4_caneTold 46 = .ok (.if_icmp .ne 7, 3) := by decide +kernel
theorem dX4_caneTold_49 : decode cX4_caneTold 49 = .ok (.iconst 1, 1) := by decide +kernel
theorem dX4_caneTold_50 : decode cX4_caneTold 50 = .ok (.goto 4, 3) := by decide +kernel
theorem dX4_caneTold_53 : decode cX4_caneTold 53 = .ok (.iconst 0, 1) := by decide +kernel
theorem dX4_caneTold_54 : decode cX4_caneTold 54 = .ok (.iastore, 1) := by decide +kernel
theorem dX4_caneTold_55 : decode cX4_caneTold 55 = .ok (.astore_n 3, 1) := by decide +kernel
theorem dX4_caneTold_56 : decode cX4_caneTold 56 = .ok (.aload_n 3, 1) := by decide +kernel
theorem dX4_caneTold_57 : decode cX4_caneTold 57 = .ok (.iload_n 2, 1) := by decide +kernel
theorem dX4_caneTold_58 : decode cX4_caneTold 58 = .ok (.iaload, 1) := by decide +kernel
theorem dX4_caneTold_59 : decode cX4_caneTold 59 = .ok (.ireturn, 1) := by decide +kernel
set_option maxRecDepth 20000 in
theorem ggX4_cane_X4_isCane : GoodIn wsX4_cane wsX4_isCane := goodIn_r _ [6, 7, 8, 9, 5, 10, 25, 26, 27, 28, 29, 30, 31, 32, 33, 34, 35, 36, 37, 38, 39] (by decide +kernel) (by decide +kernel)
set_option maxRecDepth 20000 in
theorem gX4_cane_X4_isCane : GoodIn wsX4_cane (wsV RX4 83 RX4 yX4_isCane wsX4_isCane) := goodIn_app (goodIn_of _ (by decide +kernel)) ggX4_cane_X4_isCane
set_option maxRecDepth 20000 in
theorem ggX4_cane_X4_isIn : GoodIn wsX4_cane wsX4_isIn := goodIn_r _ [10] (by decide +kernel) (by decide +kernel)
set_option maxRecDepth 20000 in
theorem gX4_cane_X4_isIn : GoodIn wsX4_cane (va_wsS RX4 47 yX4_isIn wsX4_isIn) := goodIn_app (goodIn_of _ (by decide +kernel)) ggX4_cane_X4_isIn
set_option maxRecDepth 20000 in
theorem ggX4_cane_X4_caneTold : GoodIn wsX4_cane wsX4_caneTold := goodIn_r _ [14, 15, 16, 17, 18, 19, 20, 25, 26, 27, 28, 29, 30, 31, 32, 33, 34, 35, 36, 37, 38, 39] (by decide +kernel) (by decide +kernel)
set_option maxRecDepth 20000 in
theorem gX4_cane_X4_caneTold : GoodIn wsX4_cane (wsV RX4 98 RX4 yX4_caneTold wsX4_caneTold) := goodIn_app (goodIn_of _ (by decide +kernel)) ggX4_cane_X4_caneTold
set_option maxRecDepth 20000 in
theorem ggX4_cane_X4_no : GoodIn wsX4_cane wsX4_no := goodIn_r _ [24, 1, 25, 26, 27, 28, 29, 30, 31, 32, 33, 34, 35, 36, 37, 38, 39] (by decide +kernel) (by decide +kernel)
set_option maxRecDepth 20000 in
theorem gX4_cane_X4_no : GoodIn wsX4_cane (wsV RX4 67 RX4 yX4_no wsX4_no) := goodIn_app (goodIn_of _ (by decide +kernel)) ggX4_cane_X4_no
theorem dX4_cane_0 : decode cX4_cane 0 = .ok (.aload_n 0, 1) := by decide +kernel
theorem dX4_cane_1 : decode cX4_cane 1 = .ok (.iconst 0, 1) := by decide +kernel
theorem dX4_cane_2 : decode cX4_cane 2 = .ok (.putfield 41, 3) := by decide +kernel
theorem dX4_cane_5 : decode cX4_cane 5 = .ok (.aload_n 0, 1) := by decide +kernel
theorem dX4_cane_6 : decode cX4_cane 6 = .ok (.iload_n 1, 1) := by decide +kernel
theorem dX4_cane_7 : decode cX4_cane 7 = .ok (.invokevirtual 83, 3) := by decide +kernel
theorem dX4_cane_10 : decode cX4_cane 10 = .ok (.ifCond .eq 21, 3) := by decide +kernel
theorem dX4_cane_13 : decode cX4_cane 13 = .ok (.iload_n 2, 1) := by decide +kernel
theorem dX4_cane_14 : decode cX4_cane 14 = .ok (.iconst 0, 1) := by decide +kernel
theorem dX4_cane_15 : decode cX4_cane 15 = .ok (.iconst 4, 1) := by decide +kernel
theorem dX4_cane_16 : decode cX4_cane 16 = .ok (.invokestatic 47, 3) := by decide +kernel
theorem dX4_cane_19 : decode cX4_cane 19 = .ok (.ifCond .eq 12, 3) := by decide +kernel
theorem dX4_cane_22 : decode cX4_cane 22 = .ok (.aload_n 0, 1) := by decide +kernel
theorem dX4_cane_23 : decode cX4_cane 23 = .ok (.iload_n 1, 1) := by decide +kernel
theorem dX4_cane_24 : decode cX4_cane 24 = .ok (.iload_n 2, 1) := by decide +kernel
theorem dX4_cane_25 : decode cX4_cane 25 = .ok (.invokevirtual 98, 3) := by decide +kernel
theorem dX4_cane_28 : decode cX4_cane 28 = .ok (.goto 8, 3) := by decide +kernel
theorem dX4_cane_31 : decode cX4_cane 31 = .ok (.aload_n 0, 1) := by decide +kernel
theorem dX4_cane_32 : decode cX4_cane 32 = .ok (.iconst 1, 1) := by decide +kernel
theorem dX4_cane_33 : decode cX4_cane 33 = .ok (.invokevirtual 67, 3) := by decide +kernel
theorem dX4_cane_36 : decode cX4_cane 36 = .ok (.ireturn, 1) := by decide +kernel
set_option maxRecDepth 20000 in
theorem ggX4_shows_X4_isCane : GoodIn wsX4_shows wsX4_isCane := goodIn_r _ [9, 10, 11, 12, 8, 13, 32, 33, 34, 35, 36, 37, 38, 39, 40, 41, 42, 43, 44, 45, 46] (by decide +kernel) (by decide +kernel)
set_option maxRecDepth 20000 in
theorem gX4_shows_X4_isCane : GoodIn wsX4_shows (wsV RX4 83 RX4 yX4_isCane wsX4_isCane) := goodIn_app (goodIn_of _ (by decide +kernel)) ggX4_shows_X4_isCane
set_option maxRecDepth 20000 in
theorem ggX4_shows_X4_isIn : GoodIn wsX4_shows wsX4_isIn := goodIn_r _ [13] (by decide +kernel) (by decide +kernel)
set_option maxRecDepth 20000 in
theorem gX4_shows_X4_isIn : GoodIn wsX4_shows (va_wsS RX4 47 yX4_isIn wsX4_isIn) := goodIn_app (goodIn_of _ (by decide +kernel)) ggX4_shows_X4_isIn
set_option maxRecDepth 20000 in
theorem ggX4_shows_X4_isSpot : GoodIn wsX4_shows wsX4_isSpot := goodIn_r _ [16, 11, 12, 8, 13] (by decide +kernel) (by decide +kernel)
set_option maxRecDepth 20000 in
theorem gX4_shows_X4_isSpot : GoodIn wsX4_shows (va_wsS RX4 87 yX4_isSpot wsX4_isSpot) := goodIn_app (goodIn_of _ (by decide +kernel)) ggX4_shows_X4_isSpot
set_option maxRecDepth 20000 in
theorem ggX4_shows_X4_no : GoodIn wsX4_shows wsX4_no := goodIn_r _ [20, 1, 32, 33, 34, 35, 36, 37, 38, 39, 40, 41, 42, 43, 44, 45, 46] (by decide +kernel) (by decide +kernel)
set_option maxRecDepth 20000 in
theorem gX4_shows_X4_no : GoodIn wsX4_shows (wsV RX4 67 RX4 yX4_no wsX4_no) := goodIn_app (goodIn_of _ (by decide +kernel)) ggX4_shows_X4_no
set_option maxRecDepth 20000 in
theorem ggX4_shows_X4_rotated : GoodIn wsX4_shows wsX4_rotated := goodIn_r _ [23, 24, 25, 26, 27, 28] (by decide +kernel) (by decide +kernel)
set_option maxRecDepth 20000 in
theorem gX4_shows_X4_rotated : GoodIn wsX4_shows (va_wsS RX4 64 yX4_rotated wsX4_rotated) := goodIn_app (goodIn_of _ (by decide +kernel)) ggX4_shows_X4_rotated
set_option maxRecDepth 20000 in
theorem ggX4_shows_X4_colourOf : GoodIn wsX4_shows wsX4_colourOf := goodIn_r _ [31] (by decide +kernel) (by decide +kernel)
set_option maxRecDepth 20000 in
theorem gX4_shows_X4_colourOf : GoodIn wsX4_shows (va_wsS RX4 101 yX4_colourOf wsX4_colourOf) := goodIn_app (goodIn_of _ (by decide +kernel)) ggX4_shows_X4_colourOf
theorem dX4_shows_0 : decode cX4_shows 0 = .ok (.aload_n 0, 1) := by decide +kernel
theorem dX4_shows_1 : decode cX4_shows 1 = .ok (.iconst 0, 1) := by decide +kernel
theorem dX4_shows_2 : decode cX4_shows 2 = .ok (.putfield 41, 3) := by decide +kernel
theorem dX4_shows_5 : decode cX4_shows 5 = .ok (.aload_n 0, 1) := by decide +kernel
theorem dX4_shows_6 : decode cX4_shows 6 = .ok (.iload_n 1, 1) := by decide +kernel
theorem dX4_shows_7 : decode cX4_shows 7 = .ok (.invokevirtual 83, 3) := by decide +kernel
theorem dX4_shows_10 : decode cX4_shows 10 = .ok (.ifCond .eq 28, 3) := by decide +kernel
theorem dX4_shows_13 : decode cX4_shows 13 = .ok (.iload_n 2, 1) := by decide +kernel
theorem dX4_shows_14 : decode cX4_shows 14 = .ok (.iconst 0, 1) := by decide +kernel
theorem dX4_shows_15 : decode cX4_shows 15 = .ok (.aload_n 0, 1) := by decide +kernel
theorem dX4_shows_16 : decode cX4_shows 16 = .ok (.getfield 13, 3) := by decide +kernel
theorem dX4_shows_19 : decode cX4_shows 19 = .ok (.iload_n 1, 1) := by decide +kernel
theorem dX4_shows_20 : decode cX4_shows 20 = .ok (.iaload, 1) := by decide +kernel
theorem dX4_shows_21 : decode cX4_shows 21 = .ok (.iconst 1, 1) := by decide +kernel
theorem dX4_shows_22 : decode cX4_shows 22 = .ok (.isub, 1) := by decide +kernel
theorem dX4_shows_23 : decode cX4_shows 23 = .ok (.invokestatic 47, 3) := by decide +kernel
end
section
theorem dX4_shows_26 : decode cX4_shows 26 = .ok (.ifCond .eq 12, 3) := by decide +kernel
theorem dX4_shows_29 : decode cX4_shows 29 = .ok (.iload_n 3, 1) := by decide +kernel
theorem dX4_shows_30 : decode cX4_shows 30 = .ok (.iload 4, 2) := by decide +kernel
theorem dX4_shows_32 : decode cX4_shows 32 = .ok (.invokestatic 87, 3) := by decide +kernel
theorem dX4_shows_35 : decode cX4_shows 35 = .ok (.ifCond .ne 9, 3) := by decide +kernel
theorem dX4_shows_38 : decode cX4_shows 38 = .ok (.aload_n 0, 1) := by decide +kernel
theorem dX4_shows_39 : decode cX4_shows 39 = .ok (.iconst 1, 1) := by decide +kernel
theorem dX4_shows_40 : decode cX4_shows 40 = .ok (.invokevirtual 67, 3) := by decide +kernel
theorem dX4_shows_43 : decode cX4_shows 43 = .ok (.ireturn, 1) := by decide +kernel
theorem dX4_shows_44 : decode cX4_shows 44 = .ok (.aload_n 0, 1) := by decide +kernel
theorem dX4_shows_45 : decode cX4_shows 45 = .ok (.getfield 26, 3) := by decide +kernel
theorem dX4_shows_48 : decode cX4_shows 48 = .ok (.iconst 3, 1) := by decide +kernel
theorem dX4_shows_49 : decode cX4_shows 49 = .ok (.iload_n 1, 1) := by decide +kernel
theorem dX4_shows_50 : decode cX4_shows 50 = .ok (.imul, 1) := by decide +kernel
theorem dX4_shows_51 : decode cX4_shows 51 = .ok (.iload_n 3, 1) := by decide +kernel
theorem dX4_shows_52 : decode cX4_shows 52 = .ok (.iadd, 1) := by decide +kernel
theorem dX4_shows_53 : decode cX4_shows 53 = .ok (.iaload, 1) := by decide +kernel
theorem dX4_shows_54 : decode cX4_shows 54 = .ok (.aload_n 0, 1) := by decide +kernel
theorem dX4_shows_55 : decode cX4_shows 55 = .ok (.getfield 17, 3) := by decide +kernel
theorem dX4_shows_58 : decode cX4_shows 58 = .ok (.iload_n 1, 1) := by decide +kernel
theorem dX4_shows_59 : decode cX4_shows 59 = .ok (.iaload, 1) := by decide +kernel
theorem dX4_shows_60 : decode cX4_shows 60 = .ok (.iload_n 2, 1) := by decide +kernel
theorem dX4_shows_61 : decode cX4_shows 61 = .ok (.imul, 1) := by decide +kernel
theorem dX4_shows_62 : decode cX4_shows 62 = .ok (.invokestatic 64, 3) := by decide +kernel
theorem dX4_shows_65 : decode cX4_shows 65 = .ok (.iload 4, 2) := by decide +kernel
theorem dX4_shows_67 : decode cX4_shows 67 = .ok (.invokestatic 101, 3) := by decide +kernel
theorem dX4_shows_70 : decode cX4_shows 70 = .ok (.ireturn, 1) := by decide +kernel
set_option maxRecDepth 20000 in
theorem ggX4_colour_X4_isSlice : GoodIn wsX4_colour wsX4_isSlice := goodIn_r _ [7, 8, 9, 10, 6, 11, 22, 23, 24, 25, 26, 27, 28, 29, 30, 31, 32, 33, 34, 35, 36] (by decide +kernel) (by decide +kernel)
set_option maxRecDepth 20000 in
theorem gX4_colour_X4_isSlice : GoodIn wsX4_colour (wsV RX4 104 RX4 yX4_isSlice wsX4_isSlice) := goodIn_app (goodIn_of _ (by decide +kernel)) ggX4_colour_X4_isSlice
set_option maxRecDepth 20000 in
theorem ggX4_colour_X4_isSpot : GoodIn wsX4_colour wsX4_isSpot := goodIn_r _ [14, 9, 10, 6, 11] (by decide +kernel) (by decide +kernel)
set_option maxRecDepth 20000 in
theorem gX4_colour_X4_isSpot : GoodIn wsX4_colour (va_wsS RX4 87 yX4_isSpot wsX4_isSpot) := goodIn_app (goodIn_of _ (by decide +kernel)) ggX4_colour_X4_isSpot
set_option maxRecDepth 20000 in
theorem ggX4_colour_X4_colourOf : GoodIn wsX4_colour wsX4_colourOf := goodIn_r _ [17] (by decide +kernel) (by decide +kernel)
set_option maxRecDepth 20000 in
theorem gX4_colour_X4_colourOf : GoodIn wsX4_colour (va_wsS RX4 101 yX4_colourOf wsX4_colourOf) := goodIn_app (goodIn_of _ (by decide +kernel)) ggX4_colour_X4_colourOf
set_option maxRecDepth 20000 in
theorem ggX4_colour_X4_no : GoodIn wsX4_colour wsX4_no := goodIn_r _ [21, 1, 22, 23, 24, 25, 26, 27, 28, 29, 30, 31, 32, 33, 34, 35, 36] (by decide +kernel) (by decide +kernel)
set_option maxRecDepth 20000 in
theorem gX4_colour_X4_no : GoodIn wsX4_colour (wsV RX4 67 RX4 yX4_no wsX4_no) := goodIn_app (goodIn_of _ (by decide +kernel)) ggX4_colour_X4_no
theorem dX4_colour_0 : decode cX4_colour 0 = .ok (.aload_n 0, 1) := by decide +kernel
theorem dX4_colour_1 : decode cX4_colour 1 = .ok (.iconst 0, 1) := by decide +kernel
theorem dX4_colour_2 : decode cX4_colour 2 = .ok (.putfield 41, 3) := by decide +kernel
theorem dX4_colour_5 : decode cX4_colour 5 = .ok (.aload_n 0, 1) := by decide +kernel
theorem dX4_colour_6 : decode cX4_colour 6 = .ok (.iload_n 1, 1) := by decide +kernel
theorem dX4_colour_7 : decode cX4_colour 7 = .ok (.invokevirtual 104, 3) := by decide +kernel
theorem dX4_colour_10 : decode cX4_colour 10 = .ok (.ifCond .eq 28, 3) := by decide +kernel
theorem dX4_colour_13 : decode cX4_colour 13 = .ok (.iload_n 2, 1) := by decide +kernel
theorem dX4_colour_14 : decode cX4_colour 14 = .ok (.iload_n 3, 1) := by decide +kernel
theorem dX4_colour_15 : decode cX4_colour 15 = .ok (.invokestatic 87, 3) := by decide +kernel
theorem dX4_colour_18 : decode cX4_colour 18 = .ok (.ifCond .eq 20, 3) := by decide +kernel
theorem dX4_colour_21 : decode cX4_colour 21 = .ok (.aload_n 0, 1) := by decide +kernel
theorem dX4_colour_22 : decode cX4_colour 22 = .ok (.getfield 29, 3) := by decide +kernel
theorem dX4_colour_25 : decode cX4_colour 25 = .ok (.iconst 3, 1) := by decide +kernel
theorem dX4_colour_26 : decode cX4_colour 26 = .ok (.iload_n 1, 1) := by decide +kernel
theorem dX4_colour_27 : decode cX4_colour 27 = .ok (.imul, 1) := by decide +kernel
theorem dX4_colour_28 : decode cX4_colour 28 = .ok (.iload_n 2, 1) := by decide +kernel
theorem dX4_colour_29 : decode cX4_colour 29 = .ok (.iadd, 1) := by decide +kernel
theorem dX4_colour_30 : decode cX4_colour 30 = .ok (.iaload, 1) := by decide +kernel
theorem dX4_colour_31 : decode cX4_colour 31 = .ok (.iload_n 3, 1) := by decide +kernel
theorem dX4_colour_32 : decode cX4_colour 32 = .ok (.invokestatic 101, 3) := by decide +kernel
theorem dX4_colour_35 : decode cX4_colour 35 = .ok (.goto 8, 3) := by decide +kernel
theorem dX4_colour_38 : decode cX4_colour 38 = .ok (.aload_n 0, 1) := by decide +kernel
theorem dX4_colour_39 : decode cX4_colour 39 = .ok (.iconst 1, 1) := by decide +kernel
theorem dX4_colour_40 : decode cX4_colour 40 = .ok (.invokevirtual 67, 3) := by decide +kernel
theorem dX4_colour_43 : decode cX4_colour 43 = .ok (.ireturn, 1) := by decide +kernel
set_option maxRecDepth 20000 in
theorem ggX4_where_X4_isSlice : GoodIn wsX4_where wsX4_isSlice := goodIn_r _ [7, 8, 9, 10, 6, 11, 16, 17, 18, 19, 20, 21, 22, 23, 24, 25, 26, 27, 28, 29, 30] (by decide +kernel) (by decide +kernel)
set_option maxRecDepth 20000 in
theorem gX4_where_X4_isSlice : GoodIn wsX4_where (wsV RX4 104 RX4 yX4_isSlice wsX4_isSlice) := goodIn_app (goodIn_of _ (by decide +kernel)) ggX4_where_X4_isSlice
set_option maxRecDepth 20000 in
theorem ggX4_where_X4_no : GoodIn wsX4_where wsX4_no := goodIn_r _ [15, 1, 16, 17, 18, 19, 20, 21, 22, 23, 24, 25, 26, 27, 28, 29, 30] (by decide +kernel) (by decide +kernel)
set_option maxRecDepth 20000 in
theorem gX4_where_X4_no : GoodIn wsX4_where (wsV RX4 67 RX4 yX4_no wsX4_no) := goodIn_app (goodIn_of _ (by decide +kernel)) ggX4_where_X4_no
theorem dX4_where_0 : decode cX4_where 0 = .ok (.aload_n 0, 1) := by decide +kernel
theorem dX4_where_1 : decode cX4_where 1 = .ok (.iconst 0, 1) := by decide +kernel
theorem dX4_where_2 : decode cX4_where 2 = .ok (.putfield 41, 3) := by decide +kernel
theorem dX4_where_5 : decode cX4_where 5 = .ok (.aload_n 0, 1) := by decide +kernel
theorem dX4_where_6 : decode cX4_where 6 = .ok (.iload_n 1, 1) := by decide +kernel
theorem dX4_where_7 : decode cX4_where 7 = .ok (.invokevirtual 104, 3) := by decide +kernel
theorem dX4_where_10 : decode cX4_where 10 = .ok (.ifCond .eq 12, 3) := by decide +kernel
theorem dX4_where_13 : decode cX4_where 13 = .ok (.aload_n 0, 1) := by decide +kernel
theorem dX4_where_14 : decode cX4_where 14 = .ok (.getfield 32, 3) := by decide +kernel
theorem dX4_where_17 : decode cX4_where 17 = .ok (.iload_n 1, 1) := by decide +kernel
theorem dX4_where_18 : decode cX4_where 18 = .ok (.iaload, 1) := by decide +kernel
theorem dX4_where_19 : decode cX4_where 19 = .ok (.goto 8, 3) := by decide +kernel
theorem dX4_where_22 : decode cX4_where 22 = .ok (.aload_n 0, 1) := by decide +kernel
theorem dX4_where_23 : decode cX4_where 23 = .ok (.iconst 1, 1) := by decide +kernel
theorem dX4_where_24 : decode cX4_where 24 = .ok (.invokevirtual 67, 3) := by decide +kernel
theorem dX4_where_27 : decode cX4_where 27 = .ok (.ireturn, 1) := by decide +kernel
set_option maxRecDepth 20000 in
theorem ggX4_bead_X4_no : GoodIn wsX4_bead wsX4_no := goodIn_r _ [8, 1, 9, 10, 11, 12, 13, 14, 15, 16, 17, 18, 19, 20, 21, 22, 23] (by decide +kernel) (by decide +kernel)
set_option maxRecDepth 20000 in
theorem gX4_bead_X4_no : GoodIn wsX4_bead (wsV RX4 67 RX4 yX4_no wsX4_no) := goodIn_app (goodIn_of _ (by decide +kernel)) ggX4_bead_X4_no
theorem dX4_bead_0 : decode cX4_bead 0 = .ok (.aload_n 0, 1) := by decide +kernel
theorem dX4_bead_1 : decode cX4_bead 1 = .ok (.iconst 0, 1) := by decide +kernel
theorem dX4_bead_2 : decode cX4_bead 2 = .ok (.putfield 41, 3) := by decide +kernel
theorem dX4_bead_5 : decode cX4_bead 5 = .ok (.aload_n 0, 1) := by decide +kernel
theorem dX4_bead_6 : decode cX4_bead 6 = .ok (.getfield 54, 3) := by decide +kernel
theorem dX4_bead_9 : decode cX4_bead 9 = .ok (.bipush 6, 2) := by decide +kernel
theorem dX4_bead_11 : decode cX4_bead 11 = .ok (.if_icmp .ne 9, 3) := by decide +kernel
theorem dX4_bead_14 : decode cX4_bead 14 = .ok (.aload_n 0, 1) := by decide +kernel
theorem dX4_bead_15 : decode cX4_bead 15 = .ok (.iconst 1, 1) := by decide +kernel
theorem dX4_bead_16 : decode cX4_bead 16 = .ok (.invokevirtual 67, 3) := by decide +kernel
theorem dX4_bead_19 : decode cX4_bead 19 = .ok (.ireturn, 1) := by decide +kernel
theorem dX4_bead_20 : decode cX4_bead 20 = .ok (.iconst 0, 1) := by decide +kernel
theorem dX4_bead_21 : decode cX4_bead 21 = .ok (.istore_n 1, 1) := by decide +kernel
theorem dX4_bead_22 : decode cX4_bead 22 = .ok (.iload_n 1, 1) := by decide +kernel
theorem dX4_bead_23 : decode cX4_bead 23 = .ok (.iconst 4, 1) := by decide +kernel
theorem dX4_bead_24 : decode cX4_bead 24 = .ok (.if_icmp .ge 23, 3) := by decide +kernel
theorem dX4_bead_27 : decode cX4_bead 27 = .ok (.aload_n 0, 1) := by decide +kernel
theorem dX4_bead_28 : decode cX4_bead 28 = .ok (.getfield 35, 3) := by decide +kernel
theorem dX4_bead_31 : decode cX4_bead 31 = .ok (.iconst 4, 1) := by decide +kernel
theorem dX4_bead_32 : decode cX4_bead 32 = .ok (.aload_n 0, 1) := by decide +kernel
theorem dX4_bead_33 : decode cX4_bead 33 = .ok (.getfield 54, 3) := by decide +kernel
theorem dX4_bead_36 : decode cX4_bead 36 = .ok (.imul, 1) := by decide +kernel
theorem dX4_bead_37 : decode cX4_bead 37 = .ok (.iload_n 1, 1) := by decide +kernel
theorem dX4_bead_38 : decode cX4_bead 38 = .ok (.iadd, 1) := by decide +kernel
theorem dX4_bead_39 : decode cX4_bead 39 = .ok (.iconst (-1), 1) := by decide +kernel
theorem dX4_bead_40 : decode cX4_bead 40 = .ok (.iastore, 1) := by decide +kernel
theorem dX4_bead_41 : decode cX4_bead 41 = .ok (.iinc 1 1, 3) := by decide +kernel
theorem dX4_bead_44 : decode cX4_bead 44 = .ok (.goto (-22), 3) := by decide +kernel
theorem dX4_bead_47 : decode cX4_bead 47 = .ok (.aload_n 0, 1) := by decide +kernel
theorem dX4_bead_48 : decode cX4_bead 48 = .ok (.dup, 1) := by decide +kernel
theorem dX4_bead_49 : decode cX4_bead 49 = .ok (.getfield 54, 3) := by decide +kernel
theorem dX4_bead_52 : decode cX4_bead 52 = .ok (.iconst 1, 1) := by decide +kernel
theorem dX4_bead_53 : decode cX4_bead 53 = .ok (.iadd, 1) := by decide +kernel
theorem dX4_bead_54 : decode cX4_bead 54 = .ok (.putfield 54, 3) := by decide +kernel
theorem dX4_bead_57 : decode cX4_bead 57 = .ok (.aload_n 0, 1) := by decide +kernel
theorem dX4_bead_58 : decode cX4_bead 58 = .ok (.getfield 54, 3) := by decide +kernel
theorem dX4_bead_61 : decode cX4_bead 61 = .ok (.iconst 1, 1) := by decide +kernel
theorem dX4_bead_62 : decode cX4_bead 62 = .ok (.isub, 1) := by decide +kernel
theorem dX4_bead_63 : decode cX4_bead 63 = .ok (.ireturn, 1) := by decide +kernel
theorem dX4_filled_0 : decode cX4_filled 0 = .ok (.iconst 0, 1) := by decide +kernel
theorem dX4_filled_1 : decode cX4_filled 1 = .ok (.istore_n 2, 1) := by decide +kernel
theorem dX4_filled_2 : decode cX4_filled 2 = .ok (.iconst 0, 1) := by decide +kernel
theorem dX4_filled_3 : decode cX4_filled 3 = .ok (.istore_n 3, 1) := by decide +kernel
theorem dX4_filled_4 : decode cX4_filled 4 = .ok (.iload_n 3, 1) := by decide +kernel
theorem dX4_filled_5 : decode cX4_filled 5 = .ok (.iconst 4, 1) := by decide +kernel
theorem dX4_filled_6 : decode cX4_filled 6 = .ok (.if_icmp .ge 31, 3) := by decide +kernel
theorem dX4_filled_9 : decode cX4_filled 9 = .ok (.iload_n 2, 1) := by decide +kernel
theorem dX4_filled_10 : decode cX4_filled 10 = .ok (.aload_n 0, 1) := by decide +kernel
theorem dX4_filled_11 : decode cX4_filled 11 = .ok (.getfield 35, 3) := by decide +kernel
theorem dX4_filled_14 : decode cX4_filled 14 = .ok (.iconst 4, 1) := by decide +kernel
theorem dX4_filled_15 : decode cX4_filled 15 = .ok (.iload_n 1, 1) := by decide +kernel
theorem dX4_filled_16 : decode cX4_filled 16 = .ok (.imul, 1) := by decide +kernel
theorem dX4_filled_17 : decode cX4_filled 17 = .ok (.iload_n 3, 1) := by decide +kernel
theorem dX4_filled_18 : decode cX4_filled 18 = .ok (.iadd, 1) := by decide +kernel
theorem dX4_filled_19 : decode cX4_filled 19 = .ok (.iaload, 1) := by decide +kernel
theorem dX4_filled_20 : decode cX4_filled 20 = .ok (.iconst (-1), 1) := by decide +kernel
theorem dX4_filled_21 : decode cX4_filled 21 = .ok (.if_icmp .ne 7, 3) := by decide +kernel
theorem dX4_filled_24 : decode cX4_filled 24 = .ok (.iconst 0, 1) := by decide +kernel
theorem dX4_filled_25 : decode cX4_filled 25 = .ok (.goto 4, 3) := by decide +kernel
theorem dX4_filled_28 : decode cX4_filled 28 = .ok (.iconst 1, 1) := by decide +kernel
theorem dX4_filled_29 : decode cX4_filled 29 = .ok (.iadd, 1) := by decide +kernel
theorem dX4_filled_30 : decode cX4_filled 30 = .ok (.istore_n 2, 1) := by decide +kernel
theorem dX4_filled_31 : decode cX4_filled 31 = .ok (.iinc 3 1, 3) := by decide +kernel
theorem dX4_filled_34 : decode cX4_filled 34 = .ok (.goto (-30), 3) := by decide +kernel
theorem dX4_filled_37 : decode cX4_filled 37 = .ok (.iload_n 2, 1) := by decide +kernel
theorem dX4_filled_38 : decode cX4_filled 38 = .ok (.ireturn, 1) := by decide +kernel
set_option maxRecDepth 20000 in
theorem ggX4_set_X4_isEye : GoodIn wsX4_set wsX4_isEye := goodIn_r _ [9, 10, 11, 12, 8, 13, 27, 28, 29, 30, 31, 32, 33, 34, 35, 36, 37, 38, 39, 40, 41] (by decide +kernel) (by decide +kernel)
set_option maxRecDepth 20000 in
theorem gX4_set_X4_isEye : GoodIn wsX4_set (wsV RX4 107 RX4 yX4_isEye wsX4_isEye) := goodIn_app (goodIn_of _ (by decide +kernel)) ggX4_set_X4_isEye
set_option maxRecDepth 20000 in
theorem ggX4_set_X4_isSlice : GoodIn wsX4_set wsX4_isSlice := goodIn_r _ [17, 18, 11, 12, 8, 13, 27, 28, 29, 30, 31, 32, 33, 34, 35, 36, 37, 38, 39, 40, 41] (by decide +kernel) (by decide +kernel)
set_option maxRecDepth 20000 in
theorem gX4_set_X4_isSlice : GoodIn wsX4_set (wsV RX4 104 RX4 yX4_isSlice wsX4_isSlice) := goodIn_app (goodIn_of _ (by decide +kernel)) ggX4_set_X4_isSlice
set_option maxRecDepth 20000 in
theorem ggX4_set_X4_no : GoodIn wsX4_set wsX4_no := goodIn_r _ [22, 1, 27, 28, 29, 30, 31, 32, 33, 34, 35, 36, 37, 38, 39, 40, 41] (by decide +kernel) (by decide +kernel)
set_option maxRecDepth 20000 in
theorem gX4_set_X4_no : GoodIn wsX4_set (wsV RX4 67 RX4 yX4_no wsX4_no) := goodIn_app (goodIn_of _ (by decide +kernel)) ggX4_set_X4_no
set_option maxRecDepth 20000 in
theorem ggX4_set_X4_isIn : GoodIn wsX4_set wsX4_isIn := goodIn_r _ [13] (by decide +kernel) (by decide +kernel)
set_option maxRecDepth 20000 in
theorem gX4_set_X4_isIn : GoodIn wsX4_set (va_wsS RX4 47 yX4_isIn wsX4_isIn) := goodIn_app (goodIn_of _ (by decide +kernel)) ggX4_set_X4_isIn
set_option maxRecDepth 20000 in
theorem ggX4_set_X4_filled : GoodIn wsX4_set wsX4_filled := goodIn_r _ [26, 2, 27, 28, 29, 30, 31, 32, 33, 34, 35, 36, 37, 38, 39, 40, 41] (by decide +kernel) (by decide +kernel)
set_option maxRecDepth 20000 in
theorem gX4_set_X4_filled : GoodIn wsX4_set (wsV RX4 110 RX4 yX4_filled wsX4_filled) := goodIn_app (goodIn_of _ (by decide +kernel)) ggX4_set_X4_filled
theorem dX4_set_0 : decode cX4_set 0 = .ok (.aload_n 0, 1) := by decide +kernel
theorem dX4_set_1 : decode cX4_set 1 = .ok (.iconst 0, 1) := by decide +kernel
theorem dX4_set_2 : decode cX4_set 2 = .ok (.putfield 41, 3) := by decide +kernel
theorem dX4_set_5 : decode cX4_set 5 = .ok (.aload_n 0, 1) := by decide +kernel
theorem dX4_set_6 : decode cX4_set 6 = .ok (.iload_n 1, 1) := by decide +kernel
theorem dX4_set_7 : decode cX4_set 7 = .ok (.iload_n 2, 1) := by decide +kernel
theorem dX4_set_8 : decode cX4_set 8 = .ok (.invokevirtual 107, 3) := by decide +kernel
theorem dX4_set_11 : decode cX4_set 11 = .ok (.ifCond .eq 11, 3) := by decide +kernel
theorem dX4_set_14 : decode cX4_set 14 = .ok (.aload_n 0, 1) := by decide +kernel
theorem dX4_set_15 : decode cX4_set 15 = .ok (.iload_n 3, 1) := by decide +kernel
theorem dX4_set_16 : decode cX4_set 16 = .ok (.invokevirtual 104, 3) := by decide +kernel
theorem dX4_set_19 : decode cX4_set 19 = .ok (.ifCond .ne 9, 3) := by decide +kernel
theorem dX4_set_22 : decode cX4_set 22 = .ok (.aload_n 0, 1) := by decide +kernel
theorem dX4_set_23 : decode cX4_set 23 = .ok (.iconst 1, 1) := by decide +kernel
theorem dX4_set_24 : decode cX4_set 24 = .ok (.invokevirtual 67, 3) := by decide +kernel
theorem dX4_set_27 : decode cX4_set 27 = .ok (.ireturn, 1) := by decide +kernel
theorem dX4_set_28 : decode cX4_set 28 = .ok (.iload 4, 2) := by decide +kernel
theorem dX4_set_30 : decode cX4_set 30 = .ok (.iconst 0, 1) := by decide +kernel
theorem dX4_set_31 : decode cX4_set 31 = .ok (.bipush 7, 2) := by decide +kernel
theorem dX4_set_33 : decode cX4_set 33 = .ok (.invokestatic 47, 3) := by decide +kernel
theorem dX4_set_36 : decode cX4_set 36 = .ok (.ifCond .ne 9, 3) := by decide +kernel
theorem dX4_set_39 : decode cX4_set 39 = .ok (.aload_n 0, 1) := by decide +kernel
theorem dX4_set_40 : decode cX4_set 40 = .ok (.iconst 2, 1) := by decide +kernel
theorem dX4_set_41 : decode cX4_set 41 = .ok (.invokevirtual 67, 3) := by decide +kernel
theorem dX4_set_44 : decode cX4_set 44 = .ok (.ireturn, 1) := by decide +kernel
theorem dX4_set_45 : decode cX4_set 45 = .ok (.iconst 4, 1) := by decide +kernel
theorem dX4_set_46 : decode cX4_set 46 = .ok (.iload_n 1, 1) := by decide +kernel
theorem dX4_set_47 : decode cX4_set 47 = .ok (.imul, 1) := by decide +kernel
theorem dX4_set_48 : decode cX4_set 48 = .ok (.iload_n 2, 1) := by decide +kernel
theorem dX4_set_49 : decode cX4_set 49 = .ok (.iadd, 1) := by decide +kernel
theorem dX4_set_50 : decode cX4_set 50 = .ok (.istore 5, 2) := by decide +kernel
theorem dX4_set_52 : decode cX4_set 52 = .ok (.aload_n 0, 1) := by decide +kernel
theorem dX4_set_53 : decode cX4_set 53 = .ok (.getfield 35, 3) := by decide +kernel
theorem dX4_set_56 : decode cX4_set 56 = .ok (.iload 5, 2) := by decide +kernel
theorem dX4_set_58 : decode cX4_set 58 = .ok (.iaload, 1) := by decide +kernel
theorem dX4_set_59 : decode cX4_set 59 = .ok (.iconst (-1), 1) := by decide +kernel
theorem dX4_set_60 : decode cX4_set 60 = .ok (.if_icmp .ne 13, 3) := by decide +kernel
theorem dX4_set_63 : decode cX4_set 63 = .ok (.aload_n 0, 1) := by decide +kernel
theorem dX4_set_64 : decode cX4_set 64 = .ok (.getfield 32, 3) := by decide +kernel
theorem dX4_set_67 : decode cX4_set 67 = .ok (.iload_n 3, 1) := by decide +kernel
theorem dX4_set_68 : decode cX4_set 68 = .ok (.iaload, 1) := by decide +kernel
theorem dX4_set_69 : decode cX4_set 69 = .ok (.iconst (-1), 1) := by decide +kernel
theorem dX4_set_70 : decode cX4_set 70 = .ok (.if_icmp .eq 9, 3) := by decide +kernel
theorem dX4_set_73 : decode cX4_set 73 = .ok (.aload_n 0, 1) := by decide +kernel
theorem dX4_set_74 : decode cX4_set 74 = .ok (.iconst 3, 1) := by decide +kernel
theorem dX4_set_75 : decode cX4_set 75 = .ok (.invokevirtual 67, 3) := by decide +kernel
theorem dX4_set_78 : decode cX4_set 78 = .ok (.ireturn, 1) := by decide +kernel
theorem dX4_set_79 : decode cX4_set 79 = .ok (.aload_n 0, 1) := by decide +kernel
theorem dX4_set_80 : decode cX4_set 80 = .ok (.getfield 35, 3) := by decide +kernel
theorem dX4_set_83 : decode cX4_set 83 = .ok (.iload 5, 2) := by decide +kernel
theorem dX4_set_85 : decode cX4_set 85 = .ok (.iload_n 3, 1) := by decide +kernel
theorem dX4_set_86 : decode cX4_set 86 = .ok (.iastore, 1) := by decide +kernel
theorem dX4_set_87 : decode cX4_set 87 = .ok (.aload_n 0, 1) := by decide +kernel
theorem dX4_set_88 : decode cX4_set 88 = .ok (.getfield 38, 3) := by decide +kernel
theorem dX4_set_91 : decode cX4_set 91 = .ok (.iload 5, 2) := by decide +kernel
theorem dX4_set_93 : decode cX4_set 93 = .ok (.iload 4, 2) := by decide +kernel
theorem dX4_set_95 : decode cX4_set 95 = .ok (.iastore, 1) := by decide +kernel
theorem dX4_set_96 : decode cX4_set 96 = .ok (.aload_n 0, 1) := by decide +kernel
theorem dX4_set_97 : decode cX4_set 97 = .ok (.getfield 32, 3) := by decide +kernel
theorem dX4_set_100 : decode cX4_set 100 = .ok (.iload_n 3, 1) := by decide +kernel
theorem dX4_set_101 : decode cX4_set 101 = .ok (.iload 5, 2) := by decide +kernel
theorem dX4_set_103 : decode cX4_set 103 = .ok (.iastore, 1) := by decide +kernel
theorem dX4_set_104 : decode cX4_set 104 = .ok (.aload_n 0, 1) := by decide +kernel
theorem dX4_set_105 : decode cX4_set 105 = .ok (.iload_n 1, 1) := by decide +kernel
theorem dX4_set_106 : decode cX4_set 106 = .ok (.invokevirtual 110, 3) := by decide +kernel
theorem dX4_set_109 : decode cX4_set 109 = .ok (.ireturn, 1) := by decide +kernel
set_option maxRecDepth 20000 in
theorem ggX4_drop_X4_isEye : GoodIn wsX4_drop wsX4_isEye := goodIn_r _ [9, 10, 11, 12, 8, 13, 18, 19, 20, 21, 22, 23, 24, 25, 26, 27, 28, 29, 30, 31, 32] (by decide +kernel) (by decide +kernel)
set_option maxRecDepth 20000 in
theorem gX4_drop_X4_isEye : GoodIn wsX4_drop (wsV RX4 107 RX4 yX4_isEye wsX4_isEye) := goodIn_app (goodIn_of _ (by decide +kernel)) ggX4_drop_X4_isEye
set_option maxRecDepth 20000 in
theorem ggX4_drop_X4_no : GoodIn wsX4_drop wsX4_no := goodIn_r _ [17, 1, 18, 19, 20, 21, 22, 23, 24, 25, 26, 27, 28, 29, 30, 31, 32] (by decide +kernel) (by decide +kernel)
set_option maxRecDepth 20000 in
theorem gX4_drop_X4_no : GoodIn wsX4_drop (wsV RX4 67 RX4 yX4_no wsX4_no) := goodIn_app (goodIn_of _ (by decide +kernel)) ggX4_drop_X4_no
theorem dX4_drop_0 : decode cX4_drop 0 = .ok (.aload_n 0, 1) := by decide +kernel
theorem dX4_drop_1 : decode cX4_drop 1 = .ok (.iconst 0, 1) := by decide +kernel
theorem dX4_drop_2 : decode cX4_drop 2 = .ok (.putfield 41, 3) := by decide +kernel
theorem dX4_drop_5 : decode cX4_drop 5 = .ok (.aload_n 0, 1) := by decide +kernel
theorem dX4_drop_6 : decode cX4_drop 6 = .ok (.iload_n 1, 1) := by decide +kernel
theorem dX4_drop_7 : decode cX4_drop 7 = .ok (.iload_n 2, 1) := by decide +kernel
theorem dX4_drop_8 : decode cX4_drop 8 = .ok (.invokevirtual 107, 3) := by decide +kernel
theorem dX4_drop_11 : decode cX4_drop 11 = .ok (.ifCond .ne 9, 3) := by decide +kernel
theorem dX4_drop_14 : decode cX4_drop 14 = .ok (.aload_n 0, 1) := by decide +kernel
theorem dX4_drop_15 : decode cX4_drop 15 = .ok (.iconst 1, 1) := by decide +kernel
theorem dX4_drop_16 : decode cX4_drop 16 = .ok (.invokevirtual 67, 3) := by decide +kernel
theorem dX4_drop_19 : decode cX4_drop 19 = .ok (.ireturn, 1) := by decide +kernel
theorem dX4_drop_20 : decode cX4_drop 20 = .ok (.iconst 4, 1) := by decide +kernel
theorem dX4_drop_21 : decode cX4_drop 21 = .ok (.iload_n 1, 1) := by decide +kernel
theorem dX4_drop_22 : decode cX4_drop 22 = .ok (.imul, 1) := by decide +kernel
theorem dX4_drop_23 : decode cX4_drop 23 = .ok (.iload_n 2, 1) := by decide +kernel
theorem dX4_drop_24 : decode cX4_drop 24 = .ok (.iadd, 1) := by decide +kernel
theorem dX4_drop_25 : decode cX4_drop 25 = .ok (.istore_n 3, 1) := by decide +kernel
theorem dX4_drop_26 : decode cX4_drop 26 = .ok (.aload_n 0, 1) := by decide +kernel
theorem dX4_drop_27 : decode cX4_drop 27 = .ok (.getfield 35, 3) := by decide +kernel
theorem dX4_drop_30 : decode cX4_drop 30 = .ok (.iload_n 3, 1) := by decide +kernel
theorem dX4_drop_31 : decode cX4_drop 31 = .ok (.iaload, 1) := by decide +kernel
theorem dX4_drop_32 : decode cX4_drop 32 = .ok (.istore 4, 2) := by decide +kernel
theorem dX4_drop_34 : decode cX4_drop 34 = .ok (.iload 4, 2) := by decide +kernel
theorem dX4_drop_36 : decode cX4_drop 36 = .ok (.iconst (-1), 1) := by decide +kernel
theorem dX4_drop_37 : decode cX4_drop 37 = .ok (.if_icmp .ne 9, 3) := by decide +kernel
theorem dX4_drop_40 : decode cX4_drop 40 = .ok (.aload_n 0, 1) := by decide +kernel
theorem dX4_drop_41 : decode cX4_drop 41 = .ok (.iconst 2, 1) := by decide +kernel
theorem dX4_drop_42 : decode cX4_drop 42 = .ok (.invokevirtual 67, 3) := by decide +kernel
theorem dX4_drop_45 : decode cX4_drop 45 = .ok (.ireturn, 1) := by decide +kernel
theorem dX4_drop_46 : decode cX4_drop 46 = .ok (.aload_n 0, 1) := by decide +kernel
theorem dX4_drop_47 : decode cX4_drop 47 = .ok (.getfield 35, 3) := by decide +kernel
theorem dX4_drop_50 : decode cX4_drop 50 = .ok (.iload_n 3, 1) := by decide +kernel
theorem dX4_drop_51 : decode cX4_drop 51 = .ok (.iconst (-1), 1) := by decide +kernel
theorem dX4_drop_52 : decode cX4_drop 52 = .ok (.iastore, 1) := by decide +kernel
theorem dX4_drop_53 : decode cX4_drop 53 = .ok (.aload_n 0, 1) := by decide +kernel
theorem dX4_drop_54 : decode cX4_drop 54 = .ok (.getfield 38, 3) := by decide +kernel
theorem dX4_drop_57 : decode cX4_drop 57 = .ok (.iload_n 3, 1) := by decide +kernel
theorem dX4_drop_58 : decode cX4_drop 58 = .ok (.iconst 0, 1) := by decide +kernel
theorem dX4_drop_59 : decode cX4_drop 59 = .ok (.iastore, 1) := by decide +kernel
theorem dX4_drop_60 : decode cX4_drop 60 = .ok (.aload_n 0, 1) := by decide +kernel
theorem dX4_drop_61 : decode cX4_drop 61 = .ok (.getfield 32, 3) := by decide +kernel
theorem dX4_drop_64 : decode cX4_drop 64 = .ok (.iload 4, 2) := by decide +kernel
theorem dX4_drop_66 : decode cX4_drop 66 = .ok (.iconst (-1), 1) := by decide +kernel
theorem dX4_drop_67 : decode cX4_drop 67 = .ok (.iastore, 1) := by decide +kernel
theorem dX4_drop_68 : decode cX4_drop 68 = .ok (.iload 4, 2) := by decide +kernel
theorem dX4_drop_70 : decode cX4_drop 70 = .ok (.ireturn, 1) := by decide +kernel
set_option maxRecDepth 20000 in
theorem ggX4_seen_X4_isEye : GoodIn wsX4_seen wsX4_isEye := goodIn_r _ [9, 10, 11, 12, 8, 13, 32, 33, 34, 35, 36, 37, 38, 39, 40, 41, 42, 43, 44, 45, 46] (by decide +kernel) (by decide +kernel)
set_option maxRecDepth 20000 in
theorem gX4_seen_X4_isEye : GoodIn wsX4_seen (wsV RX4 107 RX4 yX4_isEye wsX4_isEye) := goodIn_app (goodIn_of _ (by decide +kernel)) ggX4_seen_X4_isEye
set_option maxRecDepth 20000 in
theorem ggX4_seen_X4_isSpot : GoodIn wsX4_seen wsX4_isSpot := goodIn_r _ [16, 11, 12, 8, 13] (by decide +kernel) (by decide +kernel)
set_option maxRecDepth 20000 in
theorem gX4_seen_X4_isSpot : GoodIn wsX4_seen (va_wsS RX4 87 yX4_isSpot wsX4_isSpot) := goodIn_app (goodIn_of _ (by decide +kernel)) ggX4_seen_X4_isSpot
set_option maxRecDepth 20000 in
theorem ggX4_seen_X4_no : GoodIn wsX4_seen wsX4_no := goodIn_r _ [20, 1, 32, 33, 34, 35, 36, 37, 38, 39, 40, 41, 42, 43, 44, 45, 46] (by decide +kernel) (by decide +kernel)
set_option maxRecDepth 20000 in
theorem gX4_seen_X4_no : GoodIn wsX4_seen (wsV RX4 67 RX4 yX4_no wsX4_no) := goodIn_app (goodIn_of _ (by decide +kernel)) ggX4_seen_X4_no
set_option maxRecDepth 20000 in
theorem ggX4_seen_X4_rotated : GoodIn wsX4_seen wsX4_rotated := goodIn_r _ [23, 24, 25, 26, 27, 28] (by decide +kernel) (by decide +kernel)
set_option maxRecDepth 20000 in
theorem gX4_seen_X4_rotated : GoodIn wsX4_seen (va_wsS RX4 64 yX4_rotated wsX4_rotated) := goodIn_app (goodIn_of _ (by decide +kernel)) ggX4_seen_X4_rotated
set_option maxRecDepth 20000 in
theorem ggX4_seen_X4_colourOf : GoodIn wsX4_seen wsX4_colourOf := goodIn_r _ [31] (by decide +kernel) (by decide +kernel)
set_option maxRecDepth 20000 in
theorem gX4_seen_X4_colourOf : GoodIn wsX4_seen (va_wsS RX4 101 yX4_colourOf wsX4_colourOf) := goodIn_app (goodIn_of _ (by decide +kernel)) ggX4_seen_X4_colourOf
theorem dX4_seen_0 : decode cX4_seen 0 = .ok (.aload_n 0, 1) := by decide +kernel
theorem dX4_seen_1 : decode cX4_seen 1 = .ok (.iconst 0, 1) := by decide +kernel
theorem dX4_seen_2 : decode cX4_seen 2 = .ok (.putfield 41, 3) := by decide +kernel
theorem dX4_seen_5 : decode cX4_seen 5 = .ok (.aload_n 0, 1) := by decide +kernel
theorem dX4_seen_6 : decode cX4_seen 6 = .ok (.iload_n 1, 1) := by decide +kernel
theorem dX4_seen_7 : decode cX4_seen 7 = .ok (.iload_n 2, 1) := by decide +kernel
theorem dX4_seen_8 : decode cX4_seen 8 = .ok (.invokevirtual 107, 3) := by decide +kernel
theorem dX4_seen_11 : decode cX4_seen 11 = .ok (.ifCond .eq 12, 3) := by decide +kernel
theorem dX4_seen_14 : decode cX4_seen 14 = .ok (.iload_n 3, 1) := by decide +kernel
theorem dX4_seen_15 : decode cX4_seen 15 = .ok (.iload 4, 2) := by decide +kernel
theorem dX4_seen_17 : decode cX4_seen 17 = .ok (.invokestatic 87, 3) := by decide +kernel
theorem dX4_seen_20 : decode cX4_seen 20 = .ok (.ifCond .ne 9, 3) := by decide +kernel
theorem dX4_seen_23 : decode cX4_seen 23 = .ok (.aload_n 0, 1) := by decide +kernel
theorem dX4_seen_24 : decode cX4_seen 24 = .ok (.iconst 1, 1) := by decide +kernel
theorem dX4_seen_25 : decode cX4_seen 25 = .ok (.invokevirtual 67, 3) := by decide +kernel
theorem dX4_seen_28 : decode cX4_seen 28 = .ok (.ireturn, 1) := by decide +kernel
theorem dX4_seen_29 : decode cX4_seen 29 = .ok (.iconst 4, 1) := by decide +kernel
theorem dX4_seen_30 : decode cX4_seen 30 = .ok (.iload_n 1, 1) := by decide +kernel
theorem dX4_seen_31 : decode cX4_seen 31 = .ok (.imul, 1) := by decide +kernel
theorem dX4_seen_32 : decode cX4_seen 32 = .ok (.iload_n 2, 1) := by decide +kernel
theorem dX4_seen_33 : decode cX4_seen 33 = .ok (.iadd, 1) := by decide +kernel
theorem dX4_seen_34 : decode cX4_seen 34 = .ok (.istore 5, 2) := by decide +kernel
theorem dX4_seen_36 : decode cX4_seen 36 = .ok (.aload_n 0, 1) := by decide +kernel
theorem dX4_seen_37 : decode cX4_seen 37 = .ok (.getfield 35, 3) := by decide +kernel
theorem dX4_seen_40 : decode cX4_seen 40 = .ok (.iload 5, 2) := by decide +kernel
theorem dX4_seen_42 : decode cX4_seen 42 = .ok (.iaload, 1) := by decide +kernel
theorem dX4_seen_43 : decode cX4_seen 43 = .ok (.iconst (-1), 1) := by decide +kernel
theorem dX4_seen_44 : decode cX4_seen 44 = .ok (.if_icmp .ne 7, 3) := by decide +kernel
theorem dX4_seen_47 : decode cX4_seen 47 = .ok (.iconst (-1), 1) := by decide +kernel
theorem dX4_seen_48 : decode cX4_seen 48 = .ok (.goto 34, 3) := by decide +kernel
theorem dX4_seen_51 : decode cX4_seen 51 = .ok (.aload_n 0, 1) := by decide +kernel
theorem dX4_seen_52 : decode cX4_seen 52 = .ok (.getfield 29, 3) := by decide +kernel
theorem dX4_seen_55 : decode cX4_seen 55 = .ok (.iconst 3, 1) := by decide +kernel
theorem dX4_seen_56 : decode cX4_seen 56 = .ok (.aload_n 0, 1) := by decide +kernel
theorem dX4_seen_57 : decode cX4_seen 57 = .ok (.getfield 35, 3) := by decide +kernel
theorem dX4_seen_60 : decode cX4_seen 60 = .ok (.iload 5, 2) := by decide +kernel
theorem dX4_seen_62 : decode cX4_seen 62 = .ok (.iaload, 1) := by decide +kernel
theorem dX4_seen_63 : decode cX4_seen 63 = .ok (.imul, 1) := by decide +kernel
theorem dX4_seen_64 : decode cX4_seen 64 = .ok (.iload_n 3, 1) := by decide +kernel
theorem dX4_seen_65 : decode cX4_seen 65 = .ok (.iadd, 1) := by decide +kernel
theorem dX4_seen_66 : decode cX4_seen 66 = .ok (.iaload, 1) := by decide +kernel
theorem dX4_seen_67 : decode cX4_seen 67 = .ok (.aload_n 0, 1) := by decide +kernel
theorem dX4_seen_68 : decode cX4_seen 68 = .ok (.getfield 38, 3) := by decide +kernel
theorem dX4_seen_71 : decode cX4_seen 71 = .ok (.iload 5, 2) := by decide +kernel
theorem dX4_seen_73 : decode cX4_seen 73 = .ok (.iaload, 1) := by decide +kernel
theorem dX4_seen_74 : decode cX4_seen 74 = .ok (.invokestatic 64, 3) := by decide +kernel
theorem dX4_seen_77 : decode cX4_seen 77 = .ok (.iload 4, 2) := by decide +kernel
theorem dX4_seen_79 : decode cX4_seen 79 = .ok (.invokestatic 101, 3) := by decide +kernel
theorem dX4_seen_82 : decode cX4_seen 82 = .ok (.ireturn, 1) := by decide +kernel
set_option maxRecDepth 20000 in
theorem ggX4_areTwins_X4_areAlike : GoodIn wsX4_areTwins wsX4_areAlike := goodIn_r _ [7, 8, 9, 6, 10, 11, 12, 13, 14, 15] (by decide +kernel) (by decide +kernel)
set_option maxRecDepth 20000 in
theorem gX4_areTwins_X4_areAlike : GoodIn wsX4_areTwins (va_wsS RX4 113 yX4_areAlike wsX4_areAlike) := goodIn_app (goodIn_of _ (by decide +kernel)) ggX4_areTwins_X4_areAlike
theorem dX4_areTwins_0 : decode cX4_areTwins 0 = .ok (.aload_n 0, 1) := by decide +kernel
theorem dX4_areTwins_1 : decode cX4_areTwins 1 = .ok (.getfield 35, 3) := by decide +kernel
theorem dX4_areTwins_4 : decode cX4_areTwins 4 = .ok (.iload_n 1, 1) := by decide +kernel
theorem dX4_areTwins_5 : decode cX4_areTwins 5 = .ok (.iaload, 1) := by decide +kernel
theorem dX4_areTwins_6 : decode cX4_areTwins 6 = .ok (.iconst (-1), 1) := by decide +kernel
theorem dX4_areTwins_7 : decode cX4_areTwins 7 = .ok (.if_icmp .eq 56, 3) := by decide +kernel
theorem dX4_areTwins_10 : decode cX4_areTwins 10 = .ok (.aload_n 0, 1) := by decide +kernel
theorem dX4_areTwins_11 : decode cX4_areTwins 11 = .ok (.getfield 35, 3) := by decide +kernel
theorem dX4_areTwins_14 : decode cX4_areTwins 14 = .ok (.iload_n 2, 1) := by decide +kernel
theorem dX4_areTwins_15 : decode cX4_areTwins 15 = .ok (.iaload, 1) := by decide +kernel
theorem dX4_areTwins_16 : decode cX4_areTwins 16 = .ok (.iconst (-1), 1) := by decide +kernel
theorem dX4_areTwins_17 : decode cX4_areTwins 17 = .ok (.if_icmp .eq 46, 3) := by decide +kernel
theorem dX4_areTwins_20 : decode cX4_areTwins 20 = .ok (.aload_n 0, 1) := by decide +kernel
theorem dX4_areTwins_21 : decode cX4_areTwins 21 = .ok (.getfield 29, 3) := by decide +kernel
theorem dX4_areTwins_24 : decode cX4_areTwins 24 = .ok (.aload_n 0, 1) := by decide +kernel
theorem dX4_areTwins_25 : decode cX4_areTwins 25 = .ok (.getfield 35, 3) := by decide +kernel
theorem dX4_areTwins_28 : decode cX4_areTwins 28 = .ok (.iload_n 1, 1) := by decide +kernel
theorem dX4_areTwins_29 : decode cX4_areTwins 29 = .ok (.iaload, 1) := by decide +kernel
theorem dX4_areTwins_30 : decode cX4_areTwins 30 = .ok (.aload_n 0, 1) := by decide +kernel
theorem dX4_areTwins_31 : decode cX4_areTwins 31 = .ok (.getfield 38, 3) := by decide +kernel
theorem dX4_areTwins_34 : decode cX4_areTwins 34 = .ok (.iload_n 1, 1) := by decide +kernel
theorem dX4_areTwins_35 : decode cX4_areTwins 35 = .ok (.iaload, 1) := by decide +kernel
theorem dX4_areTwins_36 : decode cX4_areTwins 36 = .ok (.aload_n 0, 1) := by decide +kernel
theorem dX4_areTwins_37 : decode cX4_areTwins 37 = .ok (.getfield 38, 3) := by decide +kernel
theorem dX4_areTwins_40 : decode cX4_areTwins 40 = .ok (.iload_n 2, 1) := by decide +kernel
theorem dX4_areTwins_41 : decode cX4_areTwins 41 = .ok (.iaload, 1) := by decide +kernel
theorem dX4_areTwins_42 : decode cX4_areTwins 42 = .ok (.isub, 1) := by decide +kernel
theorem dX4_areTwins_43 : decode cX4_areTwins 43 = .ok (.aload_n 0, 1) := by decide +kernel
theorem dX4_areTwins_44 : decode cX4_areTwins 44 = .ok (.getfield 29, 3) := by decide +kernel
theorem dX4_areTwins_47 : decode cX4_areTwins 47 = .ok (.aload_n 0, 1) := by decide +kernel
theorem dX4_areTwins_48 : decode cX4_areTwins 48 = .ok (.getfield 35, 3) := by decide +kernel
theorem dX4_areTwins_51 : decode cX4_areTwins 51 = .ok (.iload_n 2, 1) := by decide +kernel
theorem dX4_areTwins_52 : decode cX4_areTwins 52 = .ok (.iaload, 1) := by decide +kernel
theorem dX4_areTwins_53 : decode cX4_areTwins 53 = .ok (.invokestatic 113, 3) := by decide +kernel
theorem dX4_areTwins_56 : decode cX4_areTwins 56 = .ok (.ifCond .eq 7, 3) := by decide +kernel
theorem dX4_areTwins_59 : decode cX4_areTwins 59 = .ok (.iconst 1, 1) := by decide +kernel
theorem dX4_areTwins_60 : decode cX4_areTwins 60 = .ok (.goto 4, 3) := by decide +kernel
theorem dX4_areTwins_63 : decode cX4_areTwins 63 = .ok (.iconst 0, 1) := by decide +kernel
theorem dX4_areTwins_64 : decode cX4_areTwins 64 = .ok (.ireturn, 1) := by decide +kernel
set_option maxRecDepth 20000 in
theorem ggX4_twins_X4_areTwins : GoodIn wsX4_twins wsX4_areTwins := goodIn_r _ [5, 6, 7, 8, 9, 10, 4, 11, 12, 13, 14, 15, 16, 17, 18, 19, 20, 21, 22, 23, 24, 25, 26, 27, 28, 29, 30, 31, 32, 33, 34] (by decide +kernel) (by decide +kernel)
set_option maxRecDepth 20000 in
theorem gX4_twins_X4_areTwins : GoodIn wsX4_twins (wsV RX4 117 RX4 yX4_areTwins wsX4_areTwins) := goodIn_app (goodIn_of _ (by decide +kernel)) ggX4_twins_X4_areTwins
theorem dX4_twins_0 : decode cX4_twins 0 = .ok (.iconst 0, 1) := by decide +kernel
theorem dX4_twins_1 : decode cX4_twins 1 = .ok (.istore_n 3, 1) := by decide +kernel
theorem dX4_twins_2 : decode cX4_twins 2 = .ok (.iconst 0, 1) := by decide +kernel
theorem dX4_twins_3 : decode cX4_twins 3 = .ok (.istore 4, 2) := by decide +kernel
theorem dX4_twins_5 : decode cX4_twins 5 = .ok (.iload 4, 2) := by decide +kernel
theorem dX4_twins_7 : decode cX4_twins 7 = .ok (.iconst 4, 1) := by decide +kernel
theorem dX4_twins_8 : decode cX4_twins 8 = .ok (.if_icmp .ge 35, 3) := by decide +kernel
theorem dX4_twins_11 : decode cX4_twins 11 = .ok (.iload_n 3, 1) := by decide +kernel
theorem dX4_twins_12 : decode cX4_twins 12 = .ok (.aload_n 0, 1) := by decide +kernel
theorem dX4_twins_13 : decode cX4_twins 13 = .ok (.iconst 4, 1) := by decide +kernel
theorem dX4_twins_14 : decode cX4_twins 14 = .ok (.iload_n 1, 1) := by decide +kernel
theorem dX4_twins_15 : decode cX4_twins 15 = .ok (.imul, 1) := by decide +kernel
theorem dX4_twins_16 : decode cX4_twins 16 = .ok (.iload_n 2, 1) := by decide +kernel
theorem dX4_twins_17 : decode cX4_twins 17 = .ok (.iadd, 1) := by decide +kernel
theorem dX4_twins_18 : decode cX4_twins 18 = .ok (.iconst 4, 1) := by decide +kernel
theorem dX4_twins_19 : decode cX4_twins 19 = .ok (.iload_n 1, 1) := by decide +kernel
theorem dX4_twins_20 : decode cX4_twins 20 = .ok (.imul, 1) := by decide +kernel
theorem dX4_twins_21 : decode cX4_twins 21 = .ok (.iload 4, 2) := by decide +kernel
theorem dX4_twins_23 : decode cX4_twins 23 = .ok (.iadd, 1) := by decide +kernel
theorem dX4_twins_24 : decode cX4_twins 24 = .ok (.invokevirtual 117, 3) := by decide +kernel
theorem dX4_twins_27 : decode cX4_twins 27 = .ok (.ifCond .eq 7, 3) := by decide +kernel
theorem dX4_twins_30 : decode cX4_twins 30 = .ok (.iconst 1, 1) := by decide +kernel
theorem dX4_twins_31 : decode cX4_twins 31 = .ok (.goto 4, 3) := by decide +kernel
theorem dX4_twins_34 : decode cX4_twins 34 = .ok (.iconst 0, 1) := by decide +kernel
theorem dX4_twins_35 : decode cX4_twins 35 = .ok (.iadd, 1) := by decide +kernel
theorem dX4_twins_36 : decode cX4_twins 36 = .ok (.istore_n 3, 1) := by decide +kernel
theorem dX4_twins_37 : decode cX4_twins 37 = .ok (.iinc 4 1, 3) := by decide +kernel
theorem dX4_twins_40 : decode cX4_twins 40 = .ok (.goto (-35), 3) := by decide +kernel
theorem dX4_twins_43 : decode cX4_twins 43 = .ok (.iload_n 3, 1) := by decide +kernel
theorem dX4_twins_44 : decode cX4_twins 44 = .ok (.ireturn, 1) := by decide +kernel
set_option maxRecDepth 20000 in
theorem ggX4_counted_X4_twins : GoodIn wsX4_counted wsX4_twins := goodIn_r _ [13, 14, 15, 16, 12, 17, 18, 19, 20, 21, 22, 23, 24, 25, 26, 27, 28, 29, 30, 31, 32, 33, 34, 35, 36, 37, 38, 39, 40, 41, 42, 43, 44, 45, 46] (by decide +kernel) (by decide +kernel)
set_option maxRecDepth 20000 in
theorem gX4_counted_X4_twins : GoodIn wsX4_counted (wsV RX4 120 RX4 yX4_twins wsX4_twins) := goodIn_app (goodIn_of _ (by decide +kernel)) ggX4_counted_X4_twins
theorem dX4_counted_0 : decode cX4_counted 0 = .ok (.iconst 0, 1) := by decide +kernel
theorem dX4_counted_1 : decode cX4_counted 1 = .ok (.istore_n 2, 1) := by decide +kernel
theorem dX4_counted_2 : decode cX4_counted 2 = .ok (.iconst 0, 1) := by decide +kernel
theorem dX4_counted_3 : decode cX4_counted 3 = .ok (.istore_n 3, 1) := by decide +kernel
theorem dX4_counted_4 : decode cX4_counted 4 = .ok (.iconst 0, 1) := by decide +kernel
theorem dX4_counted_5 : decode cX4_counted 5 = .ok (.istore 4, 2) := by decide +kernel
theorem dX4_counted_7 : decode cX4_counted 7 = .ok (.iconst 0, 1) := by decide +kernel
theorem dX4_counted_8 : decode cX4_counted 8 = .ok (.istore 5, 2) := by decide +kernel
theorem dX4_counted_10 : decode cX4_counted 10 = .ok (.iconst 0, 1) := by decide +kernel
theorem dX4_counted_11 : decode cX4_counted 11 = .ok (.istore 6, 2) := by decide +kernel
theorem dX4_counted_13 : decode cX4_counted 13 = .ok (.iload 6, 2) := by decide +kernel
theorem dX4_counted_15 : decode cX4_counted 15 = .ok (.aload_n 0, 1) := by decide +kernel
theorem dX4_counted_16 : decode cX4_counted 16 = .ok (.getfield 44, 3) := by decide +kernel
theorem dX4_counted_19 : decode cX4_counted 19 = .ok (.if_icmp .ge 29, 3) := by decide +kernel
theorem dX4_counted_22 : decode cX4_counted 22 = .ok (.iload_n 2, 1) := by decide +kernel
theorem dX4_counted_23 : decode cX4_counted 23 = .ok (.aload_n 0, 1) := by decide +kernel
theorem dX4_counted_24 : decode cX4_counted 24 = .ok (.getfield 23, 3) := by decide +kernel
theorem dX4_counted_27 : decode cX4_counted 27 = .ok (.iload 6, 2) := by decide +kernel
theorem dX4_counted_29 : decode cX4_counted 29 = .ok (.iaload, 1) := by decide +kernel
theorem dX4_counted_30 : decode cX4_counted 30 = .ok (.iadd, 1) := by decide +kernel
theorem dX4_counted_31 : decode cX4_counted 31 = .ok (.istore_n 2, 1) := by decide +kernel
theorem dX4_counted_32 : decode cX4_counted 32 = .ok (.iload_n 3, 1) := by decide +kernel
theorem dX4_counted_33 : decode cX4_counted 33 = .ok (.aload_n 0, 1) := by decide +kernel
theorem dX4_counted_34 : decode cX4_counted 34 = .ok (.getfield 13, 3) := by decide +kernel
theorem dX4_counted_37 : decode cX4_counted 37 = .ok (.iload 6, 2) := by decide +kernel
theorem dX4_counted_39 : decode cX4_counted 39 = .ok (.iaload, 1) := by decide +kernel
theorem dX4_counted_40 : decode cX4_counted 40 = .ok (.iadd, 1) := by decide +kernel
theorem dX4_counted_41 : decode cX4_counted 41 = .ok (.istore_n 3, 1) := by decide +kernel
theorem dX4_counted_42 : decode cX4_counted 42 = .ok (.iinc 6 1, 3) := by decide +kernel
theorem dX4_counted_45 : decode cX4_counted 45 = .ok (.goto (-32), 3) := by decide +kernel
theorem dX4_counted_48 : decode cX4_counted 48 = .ok (.iconst 0, 1) := by decide +kernel
theorem dX4_counted_49 : decode cX4_counted 49 = .ok (.istore 6, 2) := by decide +kernel
theorem dX4_counted_51 : decode cX4_counted 51 = .ok (.iload 6, 2) := by decide +kernel
theorem dX4_counted_53 : decode cX4_counted 53 = .ok (.aload_n 0, 1) := by decide +kernel
theorem dX4_counted_54 : decode cX4_counted 54 = .ok (.getfield 51, 3) := by decide +kernel
theorem dX4_counted_57 : decode cX4_counted 57 = .ok (.if_icmp .ge 30, 3) := by decide +kernel
theorem dX4_counted_60 : decode cX4_counted 60 = .ok (.iload 4, 2) := by decide +kernel
theorem dX4_counted_62 : decode cX4_counted 62 = .ok (.aload_n 0, 1) := by decide +kernel
theorem dX4_counted_63 : decode cX4_counted 63 = .ok (.getfield 32, 3) := by decide +kernel
theorem dX4_counted_66 : decode cX4_counted 66 = .ok (.iload 6, 2) := by decide +kernel
theorem dX4_counted_68 : decode cX4_counted 68 = .ok (.iaload, 1) := by decide +kernel
theorem dX4_counted_69 : decode cX4_counted 69 = .ok (.iconst (-1), 1) := by decide +kernel
theorem dX4_counted_70 : decode cX4_counted 70 = .ok (.if_icmp .ne 7, 3) := by decide +kernel
theorem dX4_counted_73 : decode cX4_counted 73 = .ok (.iconst 0, 1) := by decide +kernel
theorem dX4_counted_74 : decode cX4_counted 74 = .ok (.goto 4, 3) := by decide +kernel
theorem dX4_counted_77 : decode cX4_counted 77 = .ok (.iconst 1, 1) := by decide +kernel
theorem dX4_counted_78 : decode cX4_counted 78 = .ok (.iadd, 1) := by decide +kernel
theorem dX4_counted_79 : decode cX4_counted 79 = .ok (.istore 4, 2) := by decide +kernel
theorem dX4_counted_81 : decode cX4_counted 81 = .ok (.iinc 6 1, 3) := by decide +kernel
theorem dX4_counted_84 : decode cX4_counted 84 = .ok (.goto (-33), 3) := by decide +kernel
theorem dX4_counted_87 : decode cX4_counted 87 = .ok (.iconst 0, 1) := by decide +kernel
theorem dX4_counted_88 : decode cX4_counted 88 = .ok (.istore 6, 2) := by decide +kernel
theorem dX4_counted_90 : decode cX4_counted 90 = .ok (.iload 6, 2) := by decide +kernel
theorem dX4_counted_92 : decode cX4_counted 92 = .ok (.aload_n 0, 1) := by decide +kernel
theorem dX4_counted_93 : decode cX4_counted 93 = .ok (.getfield 54, 3) := by decide +kernel
theorem dX4_counted_96 : decode cX4_counted 96 = .ok (.if_icmp .ge 30, 3) := by decide +kernel
theorem dX4_counted_99 : decode cX4_counted 99 = .ok (.iload 5, 2) := by decide +kernel
theorem dX4_counted_101 : decode cX4_counted 101 = .ok (.aload_n 0, 1) := by decide +kernel
theorem dX4_counted_102 : decode cX4_counted 102 = .ok (.iload 6, 2) := by decide +kernel
theorem dX4_counted_104 : decode cX4_counted 104 = .ok (.iconst 0, 1) := by decide +kernel
theorem dX4_counted_105 : decode cX4_counted 105 = .ok (.invokevirtual 120, 3) := by decide +kernel
theorem dX4_counted_108 : decode cX4_counted 108 = .ok (.iconst 4, 1) := by decide +kernel
theorem dX4_counted_109 : decode cX4_counted 109 = .ok (.if_icmp .ne 7, 3) := by decide +kernel
theorem dX4_counted_112 : decode cX4_counted 112 = .ok (.iconst 1, 1) := by decide +kernel
theorem dX4_counted_113 : decode cX4_counted 113 = .ok (.goto 4, 3) := by decide +kernel
theorem dX4_counted_116 : decode cX4_counted 116 = .ok (.iconst 0, 1) := by decide +kernel
theorem dX4_counted_117 : decode cX4_counted 117 = .ok (.iadd, 1) := by decide +kernel
theorem dX4_counted_118 : decode cX4_counted 118 = .ok (.istore 5, 2) := by decide +kernel
theorem dX4_counted_120 : decode cX4_counted 120 = .ok (.iinc 6 1, 3) := by decide +kernel
theorem dX4_counted_123 : decode cX4_counted 123 = .ok (.goto (-33), 3) := by decide +kernel
theorem dX4_counted_126 : decode cX4_counted 126 = .ok (.bipush 8, 2) := by decide +kernel
theorem dX4_counted_128 : decode cX4_counted 128 = .ok (.newarray .int, 2) := by decide +kernel
theorem dX4_counted_130 : decode cX4_counted 130 = .ok (.dup, 1) := by decide +kernel
theorem dX4_counted_131 : decode cX4_counted 131 = .ok (.iconst 0, 1) := by decide +kernel
theorem dX4_counted_132 : decode cX4_counted 132 = .ok (.aload_n 0, 1) := by decide +kernel
theorem dX4_counted_133 : decode cX4_counted 133 = .ok (.getfield 77, 3) := by decide +kernel
theorem dX4_counted_136 : decode cX4_counted 136 = .ok (.iastore, 1) := by decide +kernel
theorem dX4_counted_137 : decode cX4_counted 137 = .ok (.dup, 1) := by decide +kernel
theorem dX4_counted_138 : decode cX4_counted 138 = .ok (.iconst 1, 1) := by decide +kernel
theorem dX4_counted_139 : decode cX4_counted 139 = .ok (.aload_n 0, 1) := by decide +kernel
theorem dX4_counted_140 : decode cX4_counted 140 = .ok (.getfield 44, 3) := by decide +kernel
theorem dX4_counted_143 : decode cX4_counted 143 = .ok (.iastore, 1) := by decide +kernel
theorem dX4_counted_144 : decode cX4_counted 144 = .ok (.dup, 1) := by decide +kernel
theorem dX4_counted_145 : decode cX4_counted 145 = .ok (.iconst 2, 1) := by decide +kernel
theorem dX4_counted_146 : decode cX4_counted 146 = .ok (.iload_n 2, 1) := by decide +kernel
theorem dX4_counted_147 : decode cX4_counted 147 = .ok (.iastore, 1) := by decide +kernel
theorem dX4_counted_148 : decode cX4_counted 148 = .ok (.dup, 1) := by decide +kernel
theorem dX4_counted_149 : decode cX4_counted 149 = .ok (.iconst 3, 1) := by decide +kernel
theorem dX4_counted_150 : decode cX4_counted 150 = .ok (.aload_n 0, 1) := by decide +kernel
theorem dX4_counted_151 : decode cX4_counted 151 = .ok (.getfield 51, 3) := by decide +kernel
theorem dX4_counted_154 : decode cX4_counted 154 = .ok (.iastore, 1) := by decide +kernel
theorem dX4_counted_155 : decode cX4_counted 155 = .ok (.dup, 1) := by decide +kernel
theorem dX4_counted_156 : decode cX4_counted 156 = .ok (.iconst 4, 1) := by decide +kernel
theorem dX4_counted_157 : decode cX4_counted 157 = .ok (.iload 4, 2) := by decide +kernel
theorem dX4_counted_159 : decode cX4_counted 159 = .ok (.iastore, 1) := by decide +kernel
theorem dX4_counted_160 : decode cX4_counted 160 = .ok (.dup, 1) := by decide +kernel
theorem dX4_counted_161 : decode cX4_counted 161 = .ok (.iconst 5, 1) := by decide +kernel
theorem dX4_counted_162 : decode cX4_counted 162 = .ok (.aload_n 0, 1) := by decide +kernel
theorem dX4_counted_163 : decode cX4_counted 163 = .ok (.getfield 54, 3) := by decide +kernel
theorem dX4_counted_166 : decode cX4_counted 166 = .ok (.iastore, 1) := by decide +kernel
theorem dX4_counted_167 : decode cX4_counted 167 = .ok (.dup, 1) := by decide +kernel
theorem dX4_counted_168 : decode cX4_counted 168 = .ok (.bipush 6, 2) := by decide +kernel
theorem dX4_counted_170 : decode cX4_counted 170 = .ok (.iload 5, 2) := by decide +kernel
theorem dX4_counted_172 : decode cX4_counted 172 = .ok (.iastore, 1) := by decide +kernel
theorem dX4_counted_173 : decode cX4_counted 173 = .ok (.dup, 1) := by decide +kernel
theorem dX4_counted_174 : decode cX4_counted 174 = .ok (.bipush 7, 2) := by decide +kernel
theorem dX4_counted_176 : decode cX4_counted 176 = .ok (.iload_n 3, 1) := by decide +kernel
theorem dX4_counted_177 : decode cX4_counted 177 = .ok (.iastore, 1) := by decide +kernel
theorem dX4_counted_178 : decode cX4_counted 178 = .ok (.astore 6, 2) := by decide +kernel
theorem dX4_counted_180 : decode cX4_counted 180 = .ok (.aload 6, 2) := by decide +kernel
theorem dX4_counted_182 : decode cX4_counted 182 = .ok (.iload_n 1, 1) := by decide +kernel
theorem dX4_counted_183 : decode cX4_counted 183 = .ok (.iaload, 1) := by decide +kernel
theorem dX4_counted_184 : decode cX4_counted 184 = .ok (.ireturn, 1) := by decide +kernel
set_option maxRecDepth 20000 in
theorem ggX4_count_X4_isIn : GoodIn wsX4_count wsX4_isIn := goodIn_r _ [5] (by decide +kernel) (by decide +kernel)
set_option maxRecDepth 20000 in
theorem gX4_count_X4_isIn : GoodIn wsX4_count (va_wsS RX4 47 yX4_isIn wsX4_isIn) := goodIn_app (goodIn_of _ (by decide +kernel)) ggX4_count_X4_isIn
set_option maxRecDepth 20000 in
theorem ggX4_count_X4_counted : GoodIn wsX4_count wsX4_counted := goodIn_r _ [9, 10, 11, 12, 13, 14, 15, 16, 17, 18, 19, 20, 4, 21, 22, 23, 24, 25, 26, 27, 28, 29, 30, 31, 32, 33, 34, 35, 36, 37, 38, 39, 44, 45, 46, 47, 48, 49, 50, 51, 52, 53, 54, 55, 56, 57, 58] (by decide +kernel) (by decide +kernel)
set_option maxRecDepth 20000 in
theorem gX4_count_X4_counted : GoodIn wsX4_count (wsV RX4 123 RX4 yX4_counted wsX4_counted) := goodIn_app (goodIn_of _ (by decide +kernel)) ggX4_count_X4_counted
set_option maxRecDepth 20000 in
theorem ggX4_count_X4_no : GoodIn wsX4_count wsX4_no := goodIn_r _ [43, 1, 44, 45, 46, 47, 48, 49, 50, 51, 52, 53, 54, 55, 56, 57, 58] (by decide +kernel) (by decide +kernel)
set_option maxRecDepth 20000 in
theorem gX4_count_X4_no : GoodIn wsX4_count (wsV RX4 67 RX4 yX4_no wsX4_no) := goodIn_app (goodIn_of _ (by decide +kernel)) ggX4_count_X4_no
theorem dX4_count_0 : decode cX4_count 0 = .ok (.aload_n 0, 1) := by decide +kernel
theorem dX4_count_1 : decode cX4_count 1 = .ok (.iconst 0, 1) := by decide +kernel
theorem dX4_count_2 : decode cX4_count 2 = .ok (.putfield 41, 3) := by decide +kernel
theorem dX4_count_5 : decode cX4_count 5 = .ok (.iload_n 1, 1) := by decide +kernel
theorem dX4_count_6 : decode cX4_count 6 = .ok (.iconst 0, 1) := by decide +kernel
theorem dX4_count_7 : decode cX4_count 7 = .ok (.bipush 7, 2) := by decide +kernel
theorem dX4_count_9 : decode cX4_count 9 = .ok (.invokestatic 47, 3) := by decide +kernel
theorem dX4_count_12 : decode cX4_count 12 = .ok (.ifCond .eq 11, 3) := by decide +kernel
theorem dX4_count_15 : decode cX4_count 15 = .ok (.aload_n 0, 1) := by decide +kernel
theorem dX4_count_16 : decode cX4_count 16 = .ok (.iload_n 1, 1) := by decide +kernel
theorem dX4_count_17 : decode cX4_count 17 = .ok (.invokevirtual 123, 3) := by decide +kernel
theorem dX4_count_20 : decode cX4_count 20 = .ok (.goto 8, 3) := by decide +kernel
theorem dX4_count_23 : decode cX4_count 23 = .ok (.aload_n 0, 1) := by decide +kernel
theorem dX4_count_24 : decode cX4_count 24 = .ok (.iconst 1, 1) := by decide +kernel
theorem dX4_count_25 : decode cX4_count 25 = .ok (.invokevirtual 67, 3) := by decide +kernel
theorem dX4_count_28 : decode cX4_count 28 = .ok (.ireturn, 1) := by decide +kernel
set_option maxRecDepth 20000 in
theorem ggX4_again_X4_isCane : GoodIn wsX4_again wsX4_isCane := goodIn_r _ [9, 10, 11, 12, 8, 13, 29, 30, 31, 32, 33, 34, 35, 36, 37, 38, 39, 40, 41, 42, 43] (by decide +kernel) (by decide +kernel)
set_option maxRecDepth 20000 in
theorem gX4_again_X4_isCane : GoodIn wsX4_again (wsV RX4 83 RX4 yX4_isCane wsX4_isCane) := goodIn_app (goodIn_of _ (by decide +kernel)) ggX4_again_X4_isCane
set_option maxRecDepth 20000 in
theorem ggX4_again_X4_isIn : GoodIn wsX4_again wsX4_isIn := goodIn_r _ [13] (by decide +kernel) (by decide +kernel)
set_option maxRecDepth 20000 in
theorem gX4_again_X4_isIn : GoodIn wsX4_again (va_wsS RX4 47 yX4_isIn wsX4_isIn) := goodIn_app (goodIn_of _ (by decide +kernel)) ggX4_again_X4_isIn
set_option maxRecDepth 20000 in
theorem ggX4_again_X4_no : GoodIn wsX4_again wsX4_no := goodIn_r _ [17, 1, 29, 30, 31, 32, 33, 34, 35, 36, 37, 38, 39, 40, 41, 42, 43] (by decide +kernel) (by decide +kernel)
set_option maxRecDepth 20000 in
theorem gX4_again_X4_no : GoodIn wsX4_again (wsV RX4 67 RX4 yX4_no wsX4_no) := goodIn_app (goodIn_of _ (by decide +kernel)) ggX4_again_X4_no
set_option maxRecDepth 20000 in
theorem ggX4_again_X4_areAlike : GoodIn wsX4_again wsX4_areAlike := goodIn_r _ [20, 21, 22, 8, 23, 24, 25, 26, 27, 28] (by decide +kernel) (by decide +kernel)
set_option maxRecDepth 20000 in
theorem gX4_again_X4_areAlike : GoodIn wsX4_again (va_wsS RX4 113 yX4_areAlike wsX4_areAlike) := goodIn_app (goodIn_of _ (by decide +kernel)) ggX4_again_X4_areAlike
theorem dX4_again_0 : decode cX4_again 0 = .ok (.aload_n 0, 1) := by decide +kernel
theorem dX4_again_1 : decode cX4_again 1 = .ok (.iconst 0, 1) := by decide +kernel
theorem dX4_again_2 : decode cX4_again 2 = .ok (.putfield 41, 3) := by decide +kernel
theorem dX4_again_5 : decode cX4_again 5 = .ok (.aload_n 0, 1) := by decide +kernel
theorem dX4_again_6 : decode cX4_again 6 = .ok (.iload_n 1, 1) := by decide +kernel
theorem dX4_again_7 : decode cX4_again 7 = .ok (.invokevirtual 83, 3) := by decide +kernel
theorem dX4_again_10 : decode cX4_again 10 = .ok (.ifCond .eq 19, 3) := by decide +kernel
theorem dX4_again_13 : decode cX4_again 13 = .ok (.iload_n 2, 1) := by decide +kernel
theorem dX4_again_14 : decode cX4_again 14 = .ok (.iconst 0, 1) := by decide +kernel
theorem dX4_again_15 : decode cX4_again 15 = .ok (.aload_n 0, 1) := by decide +kernel
theorem dX4_again_16 : decode cX4_again 16 = .ok (.getfield 13, 3) := by decide +kernel
theorem dX4_again_19 : decode cX4_again 19 = .ok (.iload_n 1, 1) := by decide +kernel
theorem dX4_again_20 : decode cX4_again 20 = .ok (.iaload, 1) := by decide +kernel
theorem dX4_again_21 : decode cX4_again 21 = .ok (.iconst 1, 1) := by decide +kernel
theorem dX4_again_22 : decode cX4_again 22 = .ok (.isub, 1) := by decide +kernel
theorem dX4_again_23 : decode cX4_again 23 = .ok (.invokestatic 47, 3) := by decide +kernel
theorem dX4_again_26 : decode cX4_again 26 = .ok (.ifCond .ne 9, 3) := by decide +kernel
theorem dX4_again_29 : decode cX4_again 29 = .ok (.aload_n 0, 1) := by decide +kernel
theorem dX4_again_30 : decode cX4_again 30 = .ok (.iconst 1, 1) := by decide +kernel
theorem dX4_again_31 : decode cX4_again 31 = .ok (.invokevirtual 67, 3) := by decide +kernel
theorem dX4_again_34 : decode cX4_again 34 = .ok (.ireturn, 1) := by decide +kernel
theorem dX4_again_35 : decode cX4_again 35 = .ok (.iload_n 2, 1) := by decide +kernel
theorem dX4_again_36 : decode cX4_again 36 = .ok (.iconst 1, 1) := by decide +kernel
theorem dX4_again_37 : decode cX4_again 37 = .ok (.iadd, 1) := by decide +kernel
theorem dX4_again_38 : decode cX4_again 38 = .ok (.istore_n 3, 1) := by decide +kernel
theorem dX4_again_39 : decode cX4_again 39 = .ok (.iload_n 3, 1) := by decide +kernel
theorem dX4_again_40 : decode cX4_again 40 = .ok (.aload_n 0, 1) := by decide +kernel
theorem dX4_again_41 : decode cX4_again 41 = .ok (.getfield 13, 3) := by decide +kernel
theorem dX4_again_44 : decode cX4_again 44 = .ok (.iload_n 1, 1) := by decide +kernel
theorem dX4_again_45 : decode cX4_again 45 = .ok (.iaload, 1) := by decide +kernel
theorem dX4_again_46 : decode cX4_again 46 = .ok (.if_icmp .ge 37, 3) := by decide +kernel
theorem dX4_again_49 : decode cX4_again 49 = .ok (.aload_n 0, 1) := by decide +kernel
theorem dX4_again_50 : decode cX4_again 50 = .ok (.getfield 26, 3) := by decide +kernel
theorem dX4_again_53 : decode cX4_again 53 = .ok (.iload_n 1, 1) := by decide +kernel
theorem dX4_again_54 : decode cX4_again 54 = .ok (.aload_n 0, 1) := by decide +kernel
theorem dX4_again_55 : decode cX4_again 55 = .ok (.getfield 17, 3) := by decide +kernel
theorem dX4_again_58 : decode cX4_again 58 = .ok (.iload_n 1, 1) := by decide +kernel
theorem dX4_again_59 : decode cX4_again 59 = .ok (.iaload, 1) := by decide +kernel
theorem dX4_again_60 : decode cX4_again 60 = .ok (.iload_n 3, 1) := by decide +kernel
theorem dX4_again_61 : decode cX4_again 61 = .ok (.iload_n 2, 1) := by decide +kernel
theorem dX4_again_62 : decode cX4_again 62 = .ok (.isub, 1) := by decide +kernel
theorem dX4_again_63 : decode cX4_again 63 = .ok (.imul, 1) := by decide +kernel
theorem dX4_again_64 : decode cX4_again 64 = .ok (.aload_n 0, 1) := by decide +kernel
theorem dX4_again_65 : decode cX4_again 65 = .ok (.getfield 26, 3) := by decide +kernel
theorem dX4_again_68 : decode cX4_again 68 = .ok (.iload_n 1, 1) := by decide +kernel
theorem dX4_again_69 : decode cX4_again 69 = .ok (.invokestatic 113, 3) := by decide +kernel
theorem dX4_again_72 : decode cX4_again 72 = .ok (.ifCond .eq 5, 3) := by decide +kernel
theorem dX4_again_75 : decode cX4_again 75 = .ok (.iload_n 3, 1) := by decide +kernel
theorem dX4_again_76 : decode cX4_again 76 = .ok (.ireturn, 1) := by decide +kernel
theorem dX4_again_77 : decode cX4_again 77 = .ok (.iinc 3 1, 3) := by decide +kernel
theorem dX4_again_80 : decode cX4_again 80 = .ok (.goto (-41), 3) := by decide +kernel
theorem dX4_again_83 : decode cX4_again 83 = .ok (.iconst (-1), 1) := by decide +kernel
theorem dX4_again_84 : decode cX4_again 84 = .ok (.ireturn, 1) := by decide +kernel
set_option maxRecDepth 20000 in
theorem ggX4_turnTo_X4_areAlike : GoodIn wsX4_turnTo wsX4_areAlike := goodIn_r _ [5, 6, 7, 4, 8, 9, 10, 11, 12, 13] (by decide +kernel) (by decide +kernel)
set_option maxRecDepth 20000 in
theorem gX4_turnTo_X4_areAlike : GoodIn wsX4_turnTo (va_wsS RX4 113 yX4_areAlike wsX4_areAlike) := goodIn_app (goodIn_of _ (by decide +kernel)) ggX4_turnTo_X4_areAlike
theorem dX4_turnTo_0 : decode cX4_turnTo 0 = .ok (.iconst 0, 1) := by decide +kernel
theorem dX4_turnTo_1 : decode cX4_turnTo 1 = .ok (.istore_n 3, 1) := by decide +kernel
theorem dX4_turnTo_2 : decode cX4_turnTo 2 = .ok (.iload_n 3, 1) := by decide +kernel
theorem dX4_turnTo_3 : decode cX4_turnTo 3 = .ok (.bipush 8, 2) := by decide +kernel
theorem dX4_turnTo_5 : decode cX4_turnTo 5 = .ok (.if_icmp .ge 28, 3) := by decide +kernel
theorem dX4_turnTo_8 : decode cX4_turnTo 8 = .ok (.aload_n 0, 1) := by decide +kernel
theorem dX4_turnTo_9 : decode cX4_turnTo 9 = .ok (.getfield 29, 3) := by decide +kernel
theorem dX4_turnTo_12 : decode cX4_turnTo 12 = .ok (.iload_n 1, 1) := by decide +kernel
theorem dX4_turnTo_13 : decode cX4_turnTo 13 = .ok (.iload_n 3, 1) := by decide +kernel
theorem dX4_turnTo_14 : decode cX4_turnTo 14 = .ok (.aload_n 0, 1) := by decide +kernel
theorem dX4_turnTo_15 : decode cX4_turnTo 15 = .ok (.getfield 29, 3) := by decide +kernel
theorem dX4_turnTo_18 : decode cX4_turnTo 18 = .ok (.iload_n 2, 1) := by decide +kernel
theorem dX4_turnTo_19 : decode cX4_turnTo 19 = .ok (.invokestatic 113, 3) := by decide +kernel
theorem dX4_turnTo_22 : decode cX4_turnTo 22 = .ok (.ifCond .eq 5, 3) := by decide +kernel
theorem dX4_turnTo_25 : decode cX4_turnTo 25 = .ok (.iload_n 3, 1) := by decide +kernel
theorem dX4_turnTo_26 : decode cX4_turnTo 26 = .ok (.ireturn, 1) := by decide +kernel
theorem dX4_turnTo_27 : decode cX4_turnTo 27 = .ok (.iinc 3 1, 3) := by decide +kernel
theorem dX4_turnTo_30 : decode cX4_turnTo 30 = .ok (.goto (-28), 3) := by decide +kernel
theorem dX4_turnTo_33 : decode cX4_turnTo 33 = .ok (.iconst (-1), 1) := by decide +kernel
theorem dX4_turnTo_34 : decode cX4_turnTo 34 = .ok (.ireturn, 1) := by decide +kernel
set_option maxRecDepth 20000 in
theorem ggX4_turn_X4_isSlice : GoodIn wsX4_turn wsX4_isSlice := goodIn_r _ [6, 7, 8, 9, 5, 10, 31, 32, 33, 34, 35, 36, 37, 38, 39, 40, 41, 42, 43, 44, 45] (by decide +kernel) (by decide +kernel)
set_option maxRecDepth 20000 in
theorem gX4_turn_X4_isSlice : GoodIn wsX4_turn (wsV RX4 104 RX4 yX4_isSlice wsX4_isSlice) := goodIn_app (goodIn_of _ (by decide +kernel)) ggX4_turn_X4_isSlice
set_option maxRecDepth 20000 in
theorem ggX4_turn_X4_turnTo : GoodIn wsX4_turn wsX4_turnTo := goodIn_r _ [14, 15, 16, 17, 5, 18, 19, 20, 21, 22, 23, 24, 25, 26, 31, 32, 33, 34, 35, 36, 37, 38, 39, 40, 41, 42, 43, 44, 45] (by decide +kernel) (by decide +kernel)
set_option maxRecDepth 20000 in
theorem gX4_turn_X4_turnTo : GoodIn wsX4_turn (wsV RX4 126 RX4 yX4_turnTo wsX4_turnTo) := goodIn_app (goodIn_of _ (by decide +kernel)) ggX4_turn_X4_turnTo
set_option maxRecDepth 20000 in
theorem ggX4_turn_X4_no : GoodIn wsX4_turn wsX4_no := goodIn_r _ [30, 1, 31, 32, 33, 34, 35, 36, 37, 38, 39, 40, 41, 42, 43, 44, 45] (by decide +kernel) (by decide +kernel)
set_option maxRecDepth 20000 in
theorem gX4_turn_X4_no : GoodIn wsX4_turn (wsV RX4 67 RX4 yX4_no wsX4_no) := goodIn_app (goodIn_of _ (by decide +kernel)) ggX4_turn_X4_no
theorem dX4_turn_0 : decode cX4_turn 0 = .ok (.aload_n 0, 1) := by decide +kernel
theorem dX4_turn_1 : decode cX4_turn 1 = .ok (.iconst 0, 1) := by decide +kernel
theorem dX4_turn_2 : decode cX4_turn 2 = .ok (.putfield 41, 3) := by decide +kernel
theorem dX4_turn_5 : decode cX4_turn 5 = .ok (.aload_n 0, 1) := by decide +kernel
theorem dX4_turn_6 : decode cX4_turn 6 = .ok (.iload_n 1, 1) := by decide +kernel
theorem dX4_turn_7 : decode cX4_turn 7 = .ok (.invokevirtual 104, 3) := by decide +kernel
theorem dX4_turn_10 : decode cX4_turn 10 = .ok (.ifCond .eq 20, 3) := by decide +kernel
theorem dX4_turn_13 : decode cX4_turn 13 = .ok (.aload_n 0, 1) := by decide +kernel
theorem dX4_turn_14 : decode cX4_turn 14 = .ok (.iload_n 2, 1) := by decide +kernel
theorem dX4_turn_15 : decode cX4_turn 15 = .ok (.invokevirtual 104, 3) := by decide +kernel
theorem dX4_turn_18 : decode cX4_turn 18 = .ok (.ifCond .eq 12, 3) := by decide +kernel
theorem dX4_turn_21 : decode cX4_turn 21 = .ok (.aload_n 0, 1) := by decide +kernel
theorem dX4_turn_22 : decode cX4_turn 22 = .ok (.iload_n 1, 1) := by decide +kernel
theorem dX4_turn_23 : decode cX4_turn 23 = .ok (.iload_n 2, 1) := by decide +kernel
theorem dX4_turn_24 : decode cX4_turn 24 = .ok (.invokevirtual 126, 3) := by decide +kernel
theorem dX4_turn_27 : decode cX4_turn 27 = .ok (.goto 8, 3) := by decide +kernel
theorem dX4_turn_30 : decode cX4_turn 30 = .ok (.aload_n 0, 1) := by decide +kernel
theorem dX4_turn_31 : decode cX4_turn 31 = .ok (.iconst 1, 1) := by decide +kernel
theorem dX4_turn_32 : decode cX4_turn 32 = .ok (.invokevirtual 67, 3) := by decide +kernel
theorem dX4_turn_35 : decode cX4_turn 35 = .ok (.ireturn, 1) := by decide +kernel
set_option maxRecDepth 20000 in
theorem ggX4_cuts_X4_isCane : GoodIn wsX4_cuts wsX4_isCane := goodIn_r _ [10, 11, 12, 13, 9, 14, 35, 36, 37, 38, 39, 40, 41, 42, 43, 44, 45, 46, 47, 48, 49] (by decide +kernel) (by decide +kernel)
set_option maxRecDepth 20000 in
theorem gX4_cuts_X4_isCane : GoodIn wsX4_cuts (wsV RX4 83 RX4 yX4_isCane wsX4_isCane) := goodIn_app (goodIn_of _ (by decide +kernel)) ggX4_cuts_X4_isCane
set_option maxRecDepth 20000 in
theorem ggX4_cuts_X4_isSlice : GoodIn wsX4_cuts wsX4_isSlice := goodIn_r _ [18, 19, 12, 13, 9, 14, 35, 36, 37, 38, 39, 40, 41, 42, 43, 44, 45, 46, 47, 48, 49] (by decide +kernel) (by decide +kernel)
set_option maxRecDepth 20000 in
theorem gX4_cuts_X4_isSlice : GoodIn wsX4_cuts (wsV RX4 104 RX4 yX4_isSlice wsX4_isSlice) := goodIn_app (goodIn_of _ (by decide +kernel)) ggX4_cuts_X4_isSlice
set_option maxRecDepth 20000 in
theorem ggX4_cuts_X4_no : GoodIn wsX4_cuts wsX4_no := goodIn_r _ [23, 1, 35, 36, 37, 38, 39, 40, 41, 42, 43, 44, 45, 46, 47, 48, 49] (by decide +kernel) (by decide +kernel)
set_option maxRecDepth 20000 in
theorem gX4_cuts_X4_no : GoodIn wsX4_cuts (wsV RX4 67 RX4 yX4_no wsX4_no) := goodIn_app (goodIn_of _ (by decide +kernel)) ggX4_cuts_X4_no
set_option maxRecDepth 20000 in
theorem ggX4_cuts_X4_areAlike : GoodIn wsX4_cuts wsX4_areAlike := goodIn_r _ [26, 27, 28, 9, 29, 30, 31, 32, 33, 34] (by decide +kernel) (by decide +kernel)
set_option maxRecDepth 20000 in
theorem gX4_cuts_X4_areAlike : GoodIn wsX4_cuts (va_wsS RX4 113 yX4_areAlike wsX4_areAlike) := goodIn_app (goodIn_of _ (by decide +kernel)) ggX4_cuts_X4_areAlike
theorem dX4_cuts_0 : decode cX4_cuts 0 = .ok (.aload_n 0, 1) := by decide +kernel
theorem dX4_cuts_1 : decode cX4_cuts 1 = .ok (.iconst 0, 1) := by decide +kernel
theorem dX4_cuts_2 : decode cX4_cuts 2 = .ok (.putfield 41, 3) := by decide +kernel
theorem dX4_cuts_5 : decode cX4_cuts 5 = .ok (.aload_n 0, 1) := by decide +kernel
theorem dX4_cuts_6 : decode cX4_cuts 6 = .ok (.iload_n 1, 1) := by decide +kernel
theorem dX4_cuts_7 : decode cX4_cuts 7 = .ok (.invokevirtual 83, 3) := by decide +kernel
theorem dX4_cuts_10 : decode cX4_cuts 10 = .ok (.ifCond .eq 11, 3) := by decide +kernel
theorem dX4_cuts_13 : decode cX4_cuts 13 = .ok (.aload_n 0, 1) := by decide +kernel
theorem dX4_cuts_14 : decode cX4_cuts 14 = .ok (.iload_n 2, 1) := by decide +kernel
theorem dX4_cuts_15 : decode cX4_cuts 15 = .ok (.invokevirtual 104, 3) := by decide +kernel
theorem dX4_cuts_18 : decode cX4_cuts 18 = .ok (.ifCond .ne 9, 3) := by decide +kernel
theorem dX4_cuts_21 : decode cX4_cuts 21 = .ok (.aload_n 0, 1) := by decide +kernel
theorem dX4_cuts_22 : decode cX4_cuts 22 = .ok (.iconst 1, 1) := by decide +kernel
theorem dX4_cuts_23 : decode cX4_cuts 23 = .ok (.invokevirtual 67, 3) := by decide +kernel
theorem dX4_cuts_26 : decode cX4_cuts 26 = .ok (.ireturn, 1) := by decide +kernel
theorem dX4_cuts_27 : decode cX4_cuts 27 = .ok (.aload_n 0, 1) := by decide +kernel
theorem dX4_cuts_28 : decode cX4_cuts 28 = .ok (.getfield 13, 3) := by decide +kernel
theorem dX4_cuts_31 : decode cX4_cuts 31 = .ok (.iload_n 1, 1) := by decide +kernel
theorem dX4_cuts_32 : decode cX4_cuts 32 = .ok (.iaload, 1) := by decide +kernel
theorem dX4_cuts_33 : decode cX4_cuts 33 = .ok (.iconst 1, 1) := by decide +kernel
theorem dX4_cuts_34 : decode cX4_cuts 34 = .ok (.isub, 1) := by decide +kernel
theorem dX4_cuts_35 : decode cX4_cuts 35 = .ok (.istore_n 3, 1) := by decide +kernel
theorem dX4_cuts_36 : decode cX4_cuts 36 = .ok (.iload_n 3, 1) := by decide +kernel
theorem dX4_cuts_37 : decode cX4_cuts 37 = .ok (.ifCond .lt 42, 3) := by decide +kernel
theorem dX4_cuts_40 : decode cX4_cuts 40 = .ok (.aload_n 0, 1) := by decide +kernel
theorem dX4_cuts_41 : decode cX4_cuts 41 = .ok (.getfield 26, 3) := by decide +kernel
theorem dX4_cuts_44 : decode cX4_cuts 44 = .ok (.iload_n 1, 1) := by decide +kernel
theorem dX4_cuts_45 : decode cX4_cuts 45 = .ok (.aload_n 0, 1) := by decide +kernel
theorem dX4_cuts_46 : decode cX4_cuts 46 = .ok (.getfield 17, 3) := by decide +kernel
theorem dX4_cuts_49 : decode cX4_cuts 49 = .ok (.iload_n 1, 1) := by decide +kernel
theorem dX4_cuts_50 : decode cX4_cuts 50 = .ok (.iaload, 1) := by decide +kernel
theorem dX4_cuts_51 : decode cX4_cuts 51 = .ok (.iload_n 3, 1) := by decide +kernel
theorem dX4_cuts_52 : decode cX4_cuts 52 = .ok (.imul, 1) := by decide +kernel
theorem dX4_cuts_53 : decode cX4_cuts 53 = .ok (.aload_n 0, 1) := by decide +kernel
theorem dX4_cuts_54 : decode cX4_cuts 54 = .ok (.getfield 29, 3) := by decide +kernel
theorem dX4_cuts_57 : decode cX4_cuts 57 = .ok (.iload_n 2, 1) := by decide +kernel
theorem dX4_cuts_58 : decode cX4_cuts 58 = .ok (.invokestatic 113, 3) := by decide +kernel
theorem dX4_cuts_61 : decode cX4_cuts 61 = .ok (.ifCond .eq 12, 3) := by decide +kernel
theorem dX4_cuts_64 : decode cX4_cuts 64 = .ok (.aload_n 0, 1) := by decide +kernel
theorem dX4_cuts_65 : decode cX4_cuts 65 = .ok (.getfield 13, 3) := by decide +kernel
theorem dX4_cuts_68 : decode cX4_cuts 68 = .ok (.iload_n 1, 1) := by decide +kernel
theorem dX4_cuts_69 : decode cX4_cuts 69 = .ok (.iaload, 1) := by decide +kernel
theorem dX4_cuts_70 : decode cX4_cuts 70 = .ok (.iload_n 3, 1) := by decide +kernel
theorem dX4_cuts_71 : decode cX4_cuts 71 = .ok (.isub, 1) := by decide +kernel
theorem dX4_cuts_72 : decode cX4_cuts 72 = .ok (.ireturn, 1) := by decide +kernel
theorem dX4_cuts_73 : decode cX4_cuts 73 = .ok (.iinc 3 (-1), 3) := by decide +kernel
theorem dX4_cuts_76 : decode cX4_cuts 76 = .ok (.goto (-40), 3) := by decide +kernel
theorem dX4_cuts_79 : decode cX4_cuts 79 = .ok (.iconst (-1), 1) := by decide +kernel
theorem dX4_cuts_80 : decode cX4_cuts 80 = .ok (.ireturn, 1) := by decide +kernel
set_option maxRecDepth 20000 in
theorem ggX4_free_X4_turnTo : GoodIn wsX4_free wsX4_turnTo := goodIn_r _ [7, 8, 9, 10, 6, 11, 12, 13, 14, 15, 16, 17, 18, 19, 20, 21, 22, 23, 24, 25, 26, 27, 28, 29, 30, 31, 32, 33, 34] (by decide +kernel) (by decide +kernel)
set_option maxRecDepth 20000 in
theorem gX4_free_X4_turnTo : GoodIn wsX4_free (wsV RX4 126 RX4 yX4_turnTo wsX4_turnTo) := goodIn_app (goodIn_of _ (by decide +kernel)) ggX4_free_X4_turnTo
theorem dX4_free_0 : decode cX4_free 0 = .ok (.iconst 0, 1) := by decide +kernel
theorem dX4_free_1 : decode cX4_free 1 = .ok (.istore_n 2, 1) := by decide +kernel
theorem dX4_free_2 : decode cX4_free 2 = .ok (.iconst 0, 1) := by decide +kernel
theorem dX4_free_3 : decode cX4_free 3 = .ok (.istore_n 3, 1) := by decide +kernel
theorem dX4_free_4 : decode cX4_free 4 = .ok (.iload_n 3, 1) := by decide +kernel
theorem dX4_free_5 : decode cX4_free 5 = .ok (.aload_n 0, 1) := by decide +kernel
theorem dX4_free_6 : decode cX4_free 6 = .ok (.getfield 51, 3) := by decide +kernel
theorem dX4_free_9 : decode cX4_free 9 = .ok (.if_icmp .ge 37, 3) := by decide +kernel
theorem dX4_free_12 : decode cX4_free 12 = .ok (.iload_n 2, 1) := by decide +kernel
theorem dX4_free_13 : decode cX4_free 13 = .ok (.aload_n 0, 1) := by decide +kernel
theorem dX4_free_14 : decode cX4_free 14 = .ok (.getfield 32, 3) := by decide +kernel
theorem dX4_free_17 : decode cX4_free 17 = .ok (.iload_n 3, 1) := by decide +kernel
theorem dX4_free_18 : decode cX4_free 18 = .ok (.iaload, 1) := by decide +kernel
theorem dX4_free_19 : decode cX4_free 19 = .ok (.iconst (-1), 1) := by decide +kernel
theorem dX4_free_20 : decode cX4_free 20 = .ok (.if_icmp .ne 17, 3) := by decide +kernel
theorem dX4_free_23 : decode cX4_free 23 = .ok (.aload_n 0, 1) := by decide +kernel
theorem dX4_free_24 : decode cX4_free 24 = .ok (.iload_n 3, 1) := by decide +kernel
theorem dX4_free_25 : decode cX4_free 25 = .ok (.iload_n 1, 1) := by decide +kernel
theorem dX4_free_26 : decode cX4_free 26 = .ok (.invokevirtual 126, 3) := by decide +kernel
theorem dX4_free_29 : decode cX4_free 29 = .ok (.iconst (-1), 1) := by decide +kernel
theorem dX4_free_30 : decode cX4_free 30 = .ok (.if_icmp .eq 7, 3) := by decide +kernel
theorem dX4_free_33 : decode cX4_free 33 = .ok (.iconst 1, 1) := by decide +kernel
theorem dX4_free_34 : decode cX4_free 34 = .ok (.goto 4, 3) := by decide +kernel
theorem dX4_free_37 : decode cX4_free 37 = .ok (.iconst 0, 1) := by decide +kernel
theorem dX4_free_38 : decode cX4_free 38 = .ok (.iadd, 1) := by decide +kernel
theorem dX4_free_39 : decode cX4_free 39 = .ok (.istore_n 2, 1) := by decide +kernel
theorem dX4_free_40 : decode cX4_free 40 = .ok (.iinc 3 1, 3) := by decide +kernel
theorem dX4_free_43 : decode cX4_free 43 = .ok (.goto (-39), 3) := by decide +kernel
theorem dX4_free_46 : decode cX4_free 46 = .ok (.iload_n 2, 1) := by decide +kernel
theorem dX4_free_47 : decode cX4_free 47 = .ok (.ireturn, 1) := by decide +kernel
set_option maxRecDepth 20000 in
theorem ggX4_mends_X4_isIn : GoodIn wsX4_mends wsX4_isIn := goodIn_r _ [13] (by decide +kernel) (by decide +kernel)
set_option maxRecDepth 20000 in
theorem gX4_mends_X4_isIn : GoodIn wsX4_mends (va_wsS RX4 47 yX4_isIn wsX4_isIn) := goodIn_app (goodIn_of _ (by decide +kernel)) ggX4_mends_X4_isIn
set_option maxRecDepth 20000 in
theorem ggX4_mends_X4_no : GoodIn wsX4_mends wsX4_no := goodIn_r _ [17, 1, 47, 48, 49, 50, 51, 52, 53, 54, 55, 56, 57, 58, 59, 60, 61] (by decide +kernel) (by decide +kernel)
set_option maxRecDepth 20000 in
theorem gX4_mends_X4_no : GoodIn wsX4_mends (wsV RX4 67 RX4 yX4_no wsX4_no) := goodIn_app (goodIn_of _ (by decide +kernel)) ggX4_mends_X4_no
set_option maxRecDepth 20000 in
theorem ggX4_mends_X4_twins : GoodIn wsX4_mends wsX4_twins := goodIn_r _ [21, 22, 23, 24, 12, 25, 3, 26, 27, 28, 29, 30, 31, 32, 33, 34, 35, 36, 37, 38, 47, 48, 49, 50, 51, 52, 53, 54, 55, 56, 57, 58, 59, 60, 61] (by decide +kernel) (by decide +kernel)
set_option maxRecDepth 20000 in
theorem gX4_mends_X4_twins : GoodIn wsX4_mends (wsV RX4 120 RX4 yX4_twins wsX4_twins) := goodIn_app (goodIn_of _ (by decide +kernel)) ggX4_mends_X4_twins
set_option maxRecDepth 20000 in
theorem ggX4_mends_X4_free : GoodIn wsX4_mends wsX4_free := goodIn_r _ [42, 8, 9, 43, 44, 45, 12, 46, 26, 28, 29, 30, 31, 32, 33, 34, 35, 36, 37, 38, 47, 48, 49, 50, 51, 52, 53, 54, 55, 56, 57, 58, 59, 60, 61] (by decide +kernel) (by decide +kernel)
set_option maxRecDepth 20000 in
theorem gX4_mends_X4_free : GoodIn wsX4_mends (wsV RX4 129 RX4 yX4_free wsX4_free) := goodIn_app (goodIn_of _ (by decide +kernel)) ggX4_mends_X4_free
theorem dX4_mends_0 : decode cX4_mends 0 = .ok (.aload_n 0, 1) := by decide +kernel
theorem dX4_mends_1 : decode cX4_mends 1 = .ok (.iconst 0, 1) := by decide +kernel
theorem dX4_mends_2 : decode cX4_mends 2 = .ok (.putfield 41, 3) := by decide +kernel
theorem dX4_mends_5 : decode cX4_mends 5 = .ok (.iload_n 1, 1) := by decide +kernel
theorem dX4_mends_6 : decode cX4_mends 6 = .ok (.iconst 0, 1) := by decide +kernel
theorem dX4_mends_7 : decode cX4_mends 7 = .ok (.aload_n 0, 1) := by decide +kernel
theorem dX4_mends_8 : decode cX4_mends 8 = .ok (.getfield 54, 3) := by decide +kernel
theorem dX4_mends_11 : decode cX4_mends 11 = .ok (.iconst 1, 1) := by decide +kernel
theorem dX4_mends_12 : decode cX4_mends 12 = .ok (.isub, 1) := by decide +kernel
theorem dX4_mends_13 : decode cX4_mends 13 = .ok (.invokestatic 47, 3) := by decide +kernel
theorem dX4_mends_16 : decode cX4_mends 16 = .ok (.ifCond .ne 9, 3) := by decide +kernel
theorem dX4_mends_19 : decode cX4_mends 19 = .ok (.aload_n 0, 1) := by decide +kernel
theorem dX4_mends_20 : decode cX4_mends 20 = .ok (.iconst 1, 1) := by decide +kernel
theorem dX4_mends_21 : decode cX4_mends 21 = .ok (.invokevirtual 67, 3) := by decide +kernel
theorem dX4_mends_24 : decode cX4_mends 24 = .ok (.ireturn, 1) := by decide +kernel
theorem dX4_mends_25 : decode cX4_mends 25 = .ok (.iconst 5, 1) := by decide +kernel
theorem dX4_mends_26 : decode cX4_mends 26 = .ok (.istore_n 2, 1) := by decide +kernel
theorem dX4_mends_27 : decode cX4_mends 27 = .ok (.iconst 0, 1) := by decide +kernel
theorem dX4_mends_28 : decode cX4_mends 28 = .ok (.istore_n 3, 1) := by decide +kernel
theorem dX4_mends_29 : decode cX4_mends 29 = .ok (.iload_n 3, 1) := by decide +kernel
theorem dX4_mends_30 : decode cX4_mends 30 = .ok (.iconst 4, 1) := by decide +kernel
theorem dX4_mends_31 : decode cX4_mends 31 = .ok (.if_icmp .ge 55, 3) := by decide +kernel
theorem dX4_mends_34 : decode cX4_mends 34 = .ok (.aload_n 0, 1) := by decide +kernel
theorem dX4_mends_35 : decode cX4_mends 35 = .ok (.getfield 35, 3) := by decide +kernel
theorem dX4_mends_38 : decode cX4_mends 38 = .ok (.iconst 4, 1) := by decide +kernel
theorem dX4_mends_39 : decode cX4_mends 39 = .ok (.iload_n 1, 1) := by decide +kernel
theorem dX4_mends_40 : decode cX4_mends 40 = .ok (.imul, 1) := by decide +kernel
theorem dX4_mends_41 : decode cX4_mends 41 = .ok (.iload_n 3, 1) := by decide +kernel
theorem dX4_mends_42 : decode cX4_mends 42 = .ok (.iadd, 1) := by decide +kernel
theorem dX4_mends_43 : decode cX4_mends 43 = .ok (.iaload, 1) := by decide +kernel
theorem dX4_mends_44 : decode cX4_mends 44 = .ok (.istore 4, 2) := by decide +kernel
theorem dX4_mends_46 : decode cX4_mends 46 = .ok (.iconst 4, 1) := by decide +kernel
theorem dX4_mends_47 : decode cX4_mends 47 = .ok (.aload_n 0, 1) := by decide +kernel
theorem dX4_mends_48 : decode cX4_mends 48 = .ok (.iload_n 1, 1) := by decide +kernel
theorem dX4_mends_49 : decode cX4_mends 49 = .ok (.iload_n 3, 1) := by decide +kernel
theorem dX4_mends_50 : decode cX4_mends 50 = .ok (.invokevirtual 120, 3) := by decide +kernel
theorem dX4_mends_53 : decode cX4_mends 53 = .ok (.isub, 1) := by decide +kernel
theorem dX4_mends_54 : decode cX4_mends 54 = .ok (.istore 5, 2) := by decide +kernel
theorem dX4_mends_56 : decode cX4_mends 56 = .ok (.iload 4, 2) := by decide +kernel
theorem dX4_mends_58 : decode cX4_mends 58 = .ok (.iconst (-1), 1) := by decide +kernel
theorem dX4_mends_59 : decode cX4_mends 59 = .ok (.if_icmp .eq 21, 3) := by decide +kernel
theorem dX4_mends_62 : decode cX4_mends 62 = .ok (.aload_n 0, 1) := by decide +kernel
theorem dX4_mends_63 : decode cX4_mends 63 = .ok (.iload 4, 2) := by decide +kernel
theorem dX4_mends_65 : decode cX4_mends 65 = .ok (.invokevirtual 129, 3) := by decide +kernel
theorem dX4_mends_68 : decode cX4_mends 68 = .ok (.iload 5, 2) := by decide +kernel
theorem dX4_mends_70 : decode cX4_mends 70 = .ok (.if_icmp .lt 10, 3) := by decide +kernel
theorem dX4_mends_73 : decode cX4_mends 73 = .ok (.iload_n 2, 1) := by decide +kernel
theorem dX4_mends_74 : decode cX4_mends 74 = .ok (.iload 5, 2) := by decide +kernel
theorem dX4_mends_76 : decode cX4_mends 76 = .ok (.invokestatic 71, 3) := by decide +kernel
theorem dX4_mends_79 : decode cX4_mends 79 = .ok (.istore_n 2, 1) := by decide +kernel
theorem dX4_mends_80 : decode cX4_mends 80 = .ok (.iinc 3 1, 3) := by decide +kernel
theorem dX4_mends_83 : decode cX4_mends 83 = .ok (.goto (-54), 3) := by decide +kernel
theorem dX4_mends_86 : decode cX4_mends 86 = .ok (.iconst 0, 1) := by decide +kernel
theorem dX4_mends_87 : decode cX4_mends 87 = .ok (.istore_n 3, 1) := by decide +kernel
theorem dX4_mends_88 : decode cX4_mends 88 = .ok (.iload_n 3, 1) := by decide +kernel
theorem dX4_mends_89 : decode cX4_mends 89 = .ok (.aload_n 0, 1) := by decide +kernel
theorem dX4_mends_90 : decode cX4_mends 90 = .ok (.getfield 51, 3) := by decide +kernel
theorem dX4_mends_93 : decode cX4_mends 93 = .ok (.if_icmp .ge 35, 3) := by decide +kernel
theorem dX4_mends_96 : decode cX4_mends 96 = .ok (.iload_n 2, 1) := by decide +kernel
theorem dX4_mends_97 : decode cX4_mends 97 = .ok (.iconst 4, 1) := by decide +kernel
theorem dX4_mends_98 : decode cX4_mends 98 = .ok (.if_icmp .le 30, 3) := by decide +kernel
theorem dX4_mends_101 : decode cX4_mends 101 = .ok (.aload_n 0, 1) := by decide +kernel
theorem dX4_mends_102 : decode cX4_mends 102 = .ok (.getfield 32, 3) := by decide +kernel
theorem dX4_mends_105 : decode cX4_mends 105 = .ok (.iload_n 3, 1) := by decide +kernel
theorem dX4_mends_106 : decode cX4_mends 106 = .ok (.iaload, 1) := by decide +kernel
theorem dX4_mends_107 : decode cX4_mends 107 = .ok (.iconst (-1), 1) := by decide +kernel
theorem dX4_mends_108 : decode cX4_mends 108 = .ok (.if_icmp .ne 14, 3) := by decide +kernel
theorem dX4_mends_111 : decode cX4_mends 111 = .ok (.aload_n 0, 1) := by decide +kernel
theorem dX4_mends_112 : decode cX4_mends 112 = .ok (.iload_n 3, 1) := by decide +kernel
theorem dX4_mends_113 : decode cX4_mends 113 = .ok (.invokevirtual 129, 3) := by decide +kernel
theorem dX4_mends_116 : decode cX4_mends 116 = .ok (.iconst 4, 1) := by decide +kernel
theorem dX4_mends_117 : decode cX4_mends 117 = .ok (.if_icmp .lt 5, 3) := by decide +kernel
theorem dX4_mends_120 : decode cX4_mends 120 = .ok (.iconst 4, 1) := by decide +kernel
theorem dX4_mends_121 : decode cX4_mends 121 = .ok (.istore_n 2, 1) := by decide +kernel
theorem dX4_mends_122 : decode cX4_mends 122 = .ok (.iinc 3 1, 3) := by decide +kernel
theorem dX4_mends_125 : decode cX4_mends 125 = .ok (.goto (-37), 3) := by decide +kernel
theorem dX4_mends_128 : decode cX4_mends 128 = .ok (.iload_n 2, 1) := by decide +kernel
theorem dX4_mends_129 : decode cX4_mends 129 = .ok (.iconst 4, 1) := by decide +kernel
theorem dX4_mends_130 : decode cX4_mends 130 = .ok (.if_icmp .le 7, 3) := by decide +kernel
theorem dX4_mends_133 : decode cX4_mends 133 = .ok (.iconst (-1), 1) := by decide +kernel
theorem dX4_mends_134 : decode cX4_mends 134 = .ok (.goto 4, 3) := by decide +kernel
theorem dX4_mends_137 : decode cX4_mends 137 = .ok (.iload_n 2, 1) := by decide +kernel
theorem dX4_mends_138 : decode cX4_mends 138 = .ok (.ireturn, 1) := by decide +kernel
set_option maxRecDepth 20000 in
theorem ggX4_mean_X4_allHeat : GoodIn wsX4_mean wsX4_allHeat := goodIn_r _ [7, 2, 8, 9, 10, 11, 12, 13, 14, 15, 16, 17, 18, 19, 20, 21, 22, 23] (by decide +kernel) (by decide +kernel)
set_option maxRecDepth 20000 in
theorem gX4_mean_X4_allHeat : GoodIn wsX4_mean (wsV RX4 94 RX4 yX4_allHeat wsX4_allHeat) := goodIn_app (goodIn_of _ (by decide +kernel)) ggX4_mean_X4_allHeat
theorem dX4_mean_0 : decode cX4_mean 0 = .ok (.aload_n 0, 1) := by decide +kernel
theorem dX4_mean_1 : decode cX4_mean 1 = .ok (.iconst 0, 1) := by decide +kernel
theorem dX4_mean_2 : decode cX4_mean 2 = .ok (.putfield 41, 3) := by decide +kernel
theorem dX4_mean_5 : decode cX4_mean 5 = .ok (.aload_n 0, 1) := by decide +kernel
theorem dX4_mean_6 : decode cX4_mean 6 = .ok (.getfield 44, 3) := by decide +kernel
theorem dX4_mean_9 : decode cX4_mean 9 = .ok (.ifCond .ne 7, 3) := by decide +kernel
theorem dX4_mean_12 : decode cX4_mean 12 = .ok (.dconst 0, 1) := by decide +kernel
theorem dX4_mean_13 : decode cX4_mean 13 = .ok (.goto 14, 3) := by decide +kernel
theorem dX4_mean_16 : decode cX4_mean 16 = .ok (.aload_n 0, 1) := by decide +kernel
theorem dX4_mean_17 : decode cX4_mean 17 = .ok (.invokevirtual 94, 3) := by decide +kernel
theorem dX4_mean_20 : decode cX4_mean 20 = .ok (.i2d, 1) := by decide +kernel
theorem dX4_mean_21 : decode cX4_mean 21 = .ok (.aload_n 0, 1) := by decide +kernel
theorem dX4_mean_22 : decode cX4_mean 22 = .ok (.getfield 44, 3) := by decide +kernel
theorem dX4_mean_25 : decode cX4_mean 25 = .ok (.i2d, 1) := by decide +kernel
theorem dX4_mean_26 : decode cX4_mean 26 = .ok (.ddiv, 1) := by decide +kernel
theorem dX4_mean_27 : decode cX4_mean 27 = .ok (.dreturn, 1) := by decide +kernel
set_option maxRecDepth 20000 in
theorem ggX4_with_X4_colourOf : GoodIn wsX4_with wsX4_colourOf := goodIn_r _ [5] (by decide +kernel) (by decide +kernel)
set_option maxRecDepth 20000 in
theorem gX4_with_X4_colourOf : GoodIn wsX4_with (va_wsS RX4 101 yX4_colourOf wsX4_colourOf) := goodIn_app (goodIn_of _ (by decide +kernel)) ggX4_with_X4_colourOf
theorem dX4_with_0 : decode cX4_with 0 = .ok (.lload_n 1, 1) := by decide +kernel
theorem dX4_with_1 : decode cX4_with 1 = .ok (.lstore 5, 2) := by decide +kernel
theorem dX4_with_3 : decode cX4_with 3 = .ok (.iconst 0, 1) := by decide +kernel
theorem dX4_with_4 : decode cX4_with 4 = .ok (.istore 7, 2) := by decide +kernel
theorem dX4_with_6 : decode cX4_with 6 = .ok (.iload 7, 2) := by decide +kernel
theorem dX4_with_8 : decode cX4_with 8 = .ok (.bipush 24, 2) := by decide +kernel
theorem dX4_with_10 : decode cX4_with 10 = .ok (.if_icmp .ge 39, 3) := by decide +kernel
theorem dX4_with_13 : decode cX4_with 13 = .ok (.lload 5, 2) := by decide +kernel
theorem dX4_with_15 : decode cX4_with 15 = .ok (.ldc2_w 132, 3) := by decide +kernel
theorem dX4_with_18 : decode cX4_with 18 = .ok (.lmul, 1) := by decide +kernel
theorem dX4_with_19 : decode cX4_with 19 = .ok (.aload_n 3, 1) := by decide +kernel
theorem dX4_with_20 : decode cX4_with 20 = .ok (.iconst 3, 1) := by decide +kernel
theorem dX4_with_21 : decode cX4_with 21 = .ok (.iload 4, 2) := by decide +kernel
theorem dX4_with_23 : decode cX4_with 23 = .ok (.imul, 1) := by decide +kernel
theorem dX4_with_24 : decode cX4_with 24 = .ok (.iload 7, 2) := by decide +kernel
theorem dX4_with_26 : decode cX4_with 26 = .ok (.bipush 8, 2) := by decide +kernel
theorem dX4_with_28 : decode cX4_with 28 = .ok (.idiv, 1) := by decide +kernel
theorem dX4_with_29 : decode cX4_with 29 = .ok (.iadd, 1) := by decide +kernel
theorem dX4_with_30 : decode cX4_with 30 = .ok (.iaload, 1) := by decide +kernel
theorem dX4_with_31 : decode cX4_with 31 = .ok (.iload 7, 2) := by decide +kernel
theorem dX4_with_33 : decode cX4_with 33 = .ok (.bipush 8, 2) := by decide +kernel
theorem dX4_with_35 : decode cX4_with 35 = .ok (.irem, 1) := by decide +kernel
theorem dX4_with_36 : decode cX4_with 36 = .ok (.invokestatic 101, 3) := by decide +kernel
theorem dX4_with_39 : decode cX4_with 39 = .ok (.i2l, 1) := by decide +kernel
theorem dX4_with_40 : decode cX4_with 40 = .ok (.ladd, 1) := by decide +kernel
theorem dX4_with_41 : decode cX4_with 41 = .ok (.lstore 5, 2) := by decide +kernel
theorem dX4_with_43 : decode cX4_with 43 = .ok (.iinc 7 1, 3) := by decide +kernel
theorem dX4_with_46 : decode cX4_with 46 = .ok (.goto (-40), 3) := by decide +kernel
theorem dX4_with_49 : decode cX4_with 49 = .ok (.lload 5, 2) := by decide +kernel
theorem dX4_with_51 : decode cX4_with 51 = .ok (.lreturn, 1) := by decide +kernel
set_option maxRecDepth 20000 in
theorem ggX4_digest_X4_counted : GoodIn wsX4_digest wsX4_counted := goodIn_r _ [16, 4, 17, 18, 6, 8, 9, 19, 20, 21, 22, 23, 15, 24, 25, 26, 27, 28, 10, 7, 11, 29, 30, 31, 32, 33, 34, 35, 36, 37, 38, 39, 54, 55, 56, 57, 58, 59, 60, 61, 62, 63, 64, 65, 66, 67, 68] (by decide +kernel) (by decide +kernel)
set_option maxRecDepth 20000 in
theorem gX4_digest_X4_counted : GoodIn wsX4_digest (wsV RX4 123 RX4 yX4_counted wsX4_counted) := goodIn_app (goodIn_of _ (by decide +kernel)) ggX4_digest_X4_counted
set_option maxRecDepth 20000 in
theorem ggX4_digest_X4_caneTold : GoodIn wsX4_digest wsX4_caneTold := goodIn_r _ [43, 19, 18, 44, 45, 17, 46, 54, 55, 56, 57, 58, 59, 60, 61, 62, 63, 64, 65, 66, 67, 68] (by decide +kernel) (by decide +kernel)
set_option maxRecDepth 20000 in
theorem gX4_digest_X4_caneTold : GoodIn wsX4_digest (wsV RX4 98 RX4 yX4_caneTold wsX4_caneTold) := goodIn_app (goodIn_of _ (by decide +kernel)) ggX4_digest_X4_caneTold
set_option maxRecDepth 20000 in
theorem ggX4_digest_X4_with : GoodIn wsX4_digest wsX4_with := goodIn_r _ [50, 3, 51, 52, 15, 53] (by decide +kernel) (by decide +kernel)
set_option maxRecDepth 20000 in
theorem gX4_digest_X4_with : GoodIn wsX4_digest (wsV RX4 136 RX4 yX4_with wsX4_with) := goodIn_app (goodIn_of _ (by decide +kernel)) ggX4_digest_X4_with
theorem dX4_digest_0 : decode cX4_digest 0 = .ok (.aload_n 0, 1) := by decide +kernel
theorem dX4_digest_1 : decode cX4_digest 1 = .ok (.iconst 0, 1) := by decide +kernel
theorem dX4_digest_2 : decode cX4_digest 2 = .ok (.putfield 41, 3) := by decide +kernel
theorem dX4_digest_5 : decode cX4_digest 5 = .ok (.ldc2_w 134, 3) := by decide +kernel
theorem dX4_digest_8 : decode cX4_digest 8 = .ok (.lstore_n 1, 1) := by decide +kernel
theorem dX4_digest_9 : decode cX4_digest 9 = .ok (.iconst 0, 1) := by decide +kernel
theorem dX4_digest_10 : decode cX4_digest 10 = .ok (.istore_n 3, 1) := by decide +kernel
theorem dX4_digest_11 : decode cX4_digest 11 = .ok (.iload_n 3, 1) := by decide +kernel
theorem dX4_digest_12 : decode cX4_digest 12 = .ok (.bipush 7, 2) := by decide +kernel
theorem dX4_digest_14 : decode cX4_digest 14 = .ok (.if_icmp .gt 22, 3) := by decide +kernel
theorem dX4_digest_17 : decode cX4_digest 17 = .ok (.lload_n 1, 1) := by decide +kernel
theorem dX4_digest_18 : decode cX4_digest 18 = .ok (.ldc2_w 132, 3) := by decide +kernel
theorem dX4_digest_21 : decode cX4_digest 21 = .ok (.lmul, 1) := by decide +kernel
theorem dX4_digest_22 : decode cX4_digest 22 = .ok (.aload_n 0, 1) := by decide +kernel
theorem dX4_digest_23 : decode cX4_digest 23 = .ok (.iload_n 3, 1) := by decide +kernel
theorem dX4_digest_24 : decode cX4_digest 24 = .ok (.invokevirtual 123, 3) := by decide +kernel
theorem dX4_digest_27 : decode cX4_digest 27 = .ok (.i2l, 1) := by decide +kernel
theorem dX4_digest_28 : decode cX4_digest 28 = .ok (.ladd, 1) := by decide +kernel
theorem dX4_digest_29 : decode cX4_digest 29 = .ok (.lstore_n 1, 1) := by decide +kernel
theorem dX4_digest_30 : decode cX4_digest 30 = .ok (.iinc 3 1, 3) := by decide +kernel
theorem dX4_digest_33 : decode cX4_digest 33 = .ok (.goto (-22), 3) := by decide +kernel
theorem dX4_digest_36 : decode cX4_digest 36 = .ok (.iconst 0, 1) := by decide +kernel
theorem dX4_digest_37 : decode cX4_digest 37 = .ok (.istore_n 3, 1) := by decide +kernel
theorem dX4_digest_38 : decode cX4_digest 38 = .ok (.iload_n 3, 1) := by decide +kernel
theorem dX4_digest_39 : decode cX4_digest 39 = .ok (.aload_n 0, 1) := by decide +kernel
theorem dX4_digest_40 : decode cX4_digest 40 = .ok (.getfield 44, 3) := by decide +kernel
theorem dX4_digest_43 : decode cX4_digest 43 = .ok (.if_icmp .ge 50, 3) := by decide +kernel
theorem dX4_digest_46 : decode cX4_digest 46 = .ok (.iconst 0, 1) := by decide +kernel
theorem dX4_digest_47 : decode cX4_digest 47 = .ok (.istore 4, 2) := by decide +kernel
theorem dX4_digest_49 : decode cX4_digest 49 = .ok (.iload 4, 2) := by decide +kernel
theorem dX4_digest_51 : decode cX4_digest 51 = .ok (.iconst 4, 1) := by decide +kernel
theorem dX4_digest_52 : decode cX4_digest 52 = .ok (.if_icmp .gt 24, 3) := by decide +kernel
theorem dX4_digest_55 : decode cX4_digest 55 = .ok (.lload_n 1, 1) := by decide +kernel
theorem dX4_digest_56 : decode cX4_digest 56 = .ok (.ldc2_w 132, 3) := by decide +kernel
theorem dX4_digest_59 : decode cX4_digest 59 = .ok (.lmul, 1) := by decide +kernel
theorem dX4_digest_60 : decode cX4_digest 60 = .ok (.aload_n 0, 1) := by decide +kernel
theorem dX4_digest_61 : decode cX4_digest 61 = .ok (.iload_n 3, 1) := by decide +kernel
theorem dX4_digest_62 : decode cX4_digest 62 = .ok (.iload 4, 2) := by decide +kernel
theorem dX4_digest_64 : decode cX4_digest 64 = .ok (.invokevirtual 98, 3) := by decide +kernel
theorem dX4_digest_67 : decode cX4_digest 67 = .ok (.i2l, 1) := by decide +kernel
theorem dX4_digest_68 : decode cX4_digest 68 = .ok (.ladd, 1) := by decide +kernel
theorem dX4_digest_69 : decode cX4_digest 69 = .ok (.lstore_n 1, 1) := by decide +kernel
theorem dX4_digest_70 : decode cX4_digest 70 = .ok (.iinc 4 1, 3) := by decide +kernel
theorem dX4_digest_73 : decode cX4_digest 73 = .ok (.goto (-24), 3) := by decide +kernel
theorem dX4_digest_76 : decode cX4_digest 76 = .ok (.aload_n 0, 1) := by decide +kernel
theorem dX4_digest_77 : decode cX4_digest 77 = .ok (.lload_n 1, 1) := by decide +kernel
theorem dX4_digest_78 : decode cX4_digest 78 = .ok (.aload_n 0, 1) := by decide +kernel
theorem dX4_digest_79 : decode cX4_digest 79 = .ok (.getfield 26, 3) := by decide +kernel
theorem dX4_digest_82 : decode cX4_digest 82 = .ok (.iload_n 3, 1) := by decide +kernel
theorem dX4_digest_83 : decode cX4_digest 83 = .ok (.invokevirtual 136, 3) := by decide +kernel
theorem dX4_digest_86 : decode cX4_digest 86 = .ok (.lstore_n 1, 1) := by decide +kernel
theorem dX4_digest_87 : decode cX4_digest 87 = .ok (.iinc 3 1, 3) := by decide +kernel
theorem dX4_digest_90 : decode cX4_digest 90 = .ok (.goto (-52), 3) := by decide +kernel
theorem dX4_digest_93 : decode cX4_digest 93 = .ok (.iconst 0, 1) := by decide +kernel
theorem dX4_digest_94 : decode cX4_digest 94 = .ok (.istore_n 3, 1) := by decide +kernel
theorem dX4_digest_95 : decode cX4_digest 95 = .ok (.iload_n 3, 1) := by decide +kernel
theorem dX4_digest_96 : decode cX4_digest 96 = .ok (.aload_n 0, 1) := by decide +kernel
theorem dX4_digest_97 : decode cX4_digest 97 = .ok (.getfield 51, 3) := by decide +kernel
theorem dX4_digest_100 : decode cX4_digest 100 = .ok (.if_icmp .ge 32, 3) := by decide +kernel
theorem dX4_digest_103 : decode cX4_digest 103 = .ok (.aload_n 0, 1) := by decide +kernel
theorem dX4_digest_104 : decode cX4_digest 104 = .ok (.lload_n 1, 1) := by decide +kernel
theorem dX4_digest_105 : decode cX4_digest 105 = .ok (.aload_n 0, 1) := by decide +kernel
theorem dX4_digest_106 : decode cX4_digest 106 = .ok (.getfield 29, 3) := by decide +kernel
theorem dX4_digest_109 : decode cX4_digest 109 = .ok (.iload_n 3, 1) := by decide +kernel
theorem dX4_digest_110 : decode cX4_digest 110 = .ok (.invokevirtual 136, 3) := by decide +kernel
theorem dX4_digest_113 : decode cX4_digest 113 = .ok (.ldc2_w 132, 3) := by decide +kernel
theorem dX4_digest_116 : decode cX4_digest 116 = .ok (.lmul, 1) := by decide +kernel
theorem dX4_digest_117 : decode cX4_digest 117 = .ok (.aload_n 0, 1) := by decide +kernel
theorem dX4_digest_118 : decode cX4_digest 118 = .ok (.getfield 32, 3) := by decide +kernel
theorem dX4_digest_121 : decode cX4_digest 121 = .ok (.iload_n 3, 1) := by decide +kernel
theorem dX4_digest_122 : decode cX4_digest 122 = .ok (.iaload, 1) := by decide +kernel
theorem dX4_digest_123 : decode cX4_digest 123 = .ok (.i2l, 1) := by decide +kernel
theorem dX4_digest_124 : decode cX4_digest 124 = .ok (.ladd, 1) := by decide +kernel
theorem dX4_digest_125 : decode cX4_digest 125 = .ok (.lstore_n 1, 1) := by decide +kernel
theorem dX4_digest_126 : decode cX4_digest 126 = .ok (.iinc 3 1, 3) := by decide +kernel
theorem dX4_digest_129 : decode cX4_digest 129 = .ok (.goto (-34), 3) := by decide +kernel
theorem dX4_digest_132 : decode cX4_digest 132 = .ok (.iconst 0, 1) := by decide +kernel
theorem dX4_digest_133 : decode cX4_digest 133 = .ok (.istore_n 3, 1) := by decide +kernel
theorem dX4_digest_134 : decode cX4_digest 134 = .ok (.iload_n 3, 1) := by decide +kernel
theorem dX4_digest_135 : decode cX4_digest 135 = .ok (.iconst 4, 1) := by decide +kernel
theorem dX4_digest_136 : decode cX4_digest 136 = .ok (.aload_n 0, 1) := by decide +kernel
theorem dX4_digest_137 : decode cX4_digest 137 = .ok (.getfield 54, 3) := by decide +kernel
theorem dX4_digest_140 : decode cX4_digest 140 = .ok (.imul, 1) := by decide +kernel
theorem dX4_digest_141 : decode cX4_digest 141 = .ok (.if_icmp .ge 35, 3) := by decide +kernel
theorem dX4_digest_144 : decode cX4_digest 144 = .ok (.lload_n 1, 1) := by decide +kernel
theorem dX4_digest_145 : decode cX4_digest 145 = .ok (.ldc2_w 132, 3) := by decide +kernel
theorem dX4_digest_148 : decode cX4_digest 148 = .ok (.lmul, 1) := by decide +kernel
theorem dX4_digest_149 : decode cX4_digest 149 = .ok (.aload_n 0, 1) := by decide +kernel
theorem dX4_digest_150 : decode cX4_digest 150 = .ok (.getfield 35, 3) := by decide +kernel
theorem dX4_digest_153 : decode cX4_digest 153 = .ok (.iload_n 3, 1) := by decide +kernel
theorem dX4_digest_154 : decode cX4_digest 154 = .ok (.iaload, 1) := by decide +kernel
theorem dX4_digest_155 : decode cX4_digest 155 = .ok (.i2l, 1) := by decide +kernel
theorem dX4_digest_156 : decode cX4_digest 156 = .ok (.ladd, 1) := by decide +kernel
theorem dX4_digest_157 : decode cX4_digest 157 = .ok (.ldc2_w 132, 3) := by decide +kernel
theorem dX4_digest_160 : decode cX4_digest 160 = .ok (.lmul, 1) := by decide +kernel
theorem dX4_digest_161 : decode cX4_digest 161 = .ok (.aload_n 0, 1) := by decide +kernel
theorem dX4_digest_162 : decode cX4_digest 162 = .ok (.getfield 38, 3) := by decide +kernel
theorem dX4_digest_165 : decode cX4_digest 165 = .ok (.iload_n 3, 1) := by decide +kernel
theorem dX4_digest_166 : decode cX4_digest 166 = .ok (.iaload, 1) := by decide +kernel
theorem dX4_digest_167 : decode cX4_digest 167 = .ok (.i2l, 1) := by decide +kernel
theorem dX4_digest_168 : decode cX4_digest 168 = .ok (.ladd, 1) := by decide +kernel
theorem dX4_digest_169 : decode cX4_digest 169 = .ok (.lstore_n 1, 1) := by decide +kernel
theorem dX4_digest_170 : decode cX4_digest 170 = .ok (.iinc 3 1, 3) := by decide +kernel
theorem dX4_digest_173 : decode cX4_digest 173 = .ok (.goto (-39), 3) := by decide +kernel
theorem dX4_digest_176 : decode cX4_digest 176 = .ok (.lload_n 1, 1) := by decide +kernel
theorem dX4_digest_177 : decode cX4_digest 177 = .ok (.lreturn, 1) := by decide +kernel
set_option maxRecDepth 20000 in
theorem ggL_begin_X3_begin : GoodIn wsL_begin wsX3_begin := goodIn_ca (goodIn_r _ [6, 7, 8, 9, 10, 11, 12, 13, 14, 15, 16, 17, 18, 19, 20, 21, 22, 23, 24, 25, 26, 27, 28, 29, 30, 31, 32, 33, 34, 35, 36, 37, 38, 39, 40, 41, 42, 43, 44, 45] (by decide +kernel) (by decide +kernel)) (goodIn_sub (fun _ h => List.mem_cons_of_mem _ (List.mem_append_right _ h)) (by decide +kernel))
end
section
set_option maxRecDepth 20000 in
theorem gL_begin_X3_begin : GoodIn wsL_begin (wsV RL 7 RX3 yX3_begin wsX3_begin) := goodIn_app (goodIn_of _ (by decide +kernel)) ggL_begin_X3_begin
theorem dL_begin_0 : decode cL_begin 0 = .ok (.aload_n 1, 1) := by decide +kernel
theorem dL_begin_1 : decode cL_begin 1 = .ok (.iconst 0, 1) := by decide +kernel
theorem dL_begin_2 : decode cL_begin 2 = .ok (.aload_n 0, 1) := by decide +kernel
theorem dL_begin_3 : decode cL_begin 3 = .ok (.invokevirtual 7, 3) := by decide +kernel
theorem dL_begin_6 : decode cL_begin 6 = .ok (.i2l, 1) := by decide +kernel
theorem dL_begin_7 : decode cL_begin 7 = .ok (.lastore, 1) := by decide +kernel
theorem dL_begin_8 : decode cL_begin 8 = .ok (.goto 6, 3) := by decide +kernel
theorem dL_begin_11 : decode cL_begin 11 = .ok (.astore_n 2, 1) := by decide +kernel
theorem dL_begin_12 : decode cL_begin 12 = .ok (.iconst 1, 1) := by decide +kernel
theorem dL_begin_13 : decode cL_begin 13 = .ok (.ireturn, 1) := by decide +kernel
theorem dL_begin_14 : decode cL_begin 14 = .ok (.iconst 0, 1) := by decide +kernel
theorem dL_begin_15 : decode cL_begin 15 = .ok (.ireturn, 1) := by decide +kernel
set_option maxRecDepth 20000 in
theorem ggL_lay_X3_lay : GoodIn wsL_lay wsX3_lay := goodIn_ca (goodIn_ca (goodIn_ca (goodIn_r _ [8, 9, 10, 11, 12, 13, 14, 15, 16, 17, 7, 18, 19, 20, 21, 22, 23, 24, 25, 26, 27, 28, 29, 30, 31, 32, 33, 34, 35, 36, 37, 38, 39, 40, 41, 42, 43, 44, 45, 46, 47, 48, 49, 50, 51, 52, 53, 54, 55, 56, 57, 58, 59, 60, 61, 62, 63, 64, 65, 66, 67, 68, 69, 70, 71, 72, 73, 74, 75, 76] (by decide +kernel) (by decide +kernel)) (goodIn_sub (fun _ h => List.mem_cons_of_mem _ (List.mem_append_left _ (List.mem_append_left _ (List.mem_append_right _ h)))) (by decide +kernel))) (goodIn_sub (fun _ h => List.mem_cons_of_mem _ (List.mem_append_left _ (List.mem_append_right _ h))) (by decide +kernel))) (goodIn_sub (fun _ h => List.mem_cons_of_mem _ (List.mem_append_right _ h)) (by decide +kernel))
set_option maxRecDepth 20000 in
theorem gL_lay_X3_lay : GoodIn wsL_lay (wsV RL 15 RX3 yX3_lay wsX3_lay) := goodIn_app (goodIn_of _ (by decide +kernel)) ggL_lay_X3_lay
theorem dL_lay_0 : decode cL_lay 0 = .ok (.aload 6, 2) := by decide +kernel
theorem dL_lay_2 : decode cL_lay 2 = .ok (.iconst 0, 1) := by decide +kernel
theorem dL_lay_3 : decode cL_lay 3 = .ok (.aload_n 0, 1) := by decide +kernel
theorem dL_lay_4 : decode cL_lay 4 = .ok (.iload_n 1, 1) := by decide +kernel
theorem dL_lay_5 : decode cL_lay 5 = .ok (.iload_n 2, 1) := by decide +kernel
theorem dL_lay_6 : decode cL_lay 6 = .ok (.iload_n 3, 1) := by decide +kernel
theorem dL_lay_7 : decode cL_lay 7 = .ok (.iload 4, 2) := by decide +kernel
theorem dL_lay_9 : decode cL_lay 9 = .ok (.iload 5, 2) := by decide +kernel
theorem dL_lay_11 : decode cL_lay 11 = .ok (.invokevirtual 15, 3) := by decide +kernel
theorem dL_lay_14 : decode cL_lay 14 = .ok (.ifCond .eq 7, 3) := by decide +kernel
theorem dL_lay_17 : decode cL_lay 17 = .ok (.lconst 1, 1) := by decide +kernel
theorem dL_lay_18 : decode cL_lay 18 = .ok (.goto 4, 3) := by decide +kernel
theorem dL_lay_21 : decode cL_lay 21 = .ok (.lconst 0, 1) := by decide +kernel
theorem dL_lay_22 : decode cL_lay 22 = .ok (.lastore, 1) := by decide +kernel
theorem dL_lay_23 : decode cL_lay 23 = .ok (.goto 15, 3) := by decide +kernel
theorem dL_lay_26 : decode cL_lay 26 = .ok (.astore 7, 2) := by decide +kernel
theorem dL_lay_28 : decode cL_lay 28 = .ok (.iconst 1, 1) := by decide +kernel
theorem dL_lay_29 : decode cL_lay 29 = .ok (.ireturn, 1) := by decide +kernel
theorem dL_lay_30 : decode cL_lay 30 = .ok (.astore 7, 2) := by decide +kernel
theorem dL_lay_32 : decode cL_lay 32 = .ok (.iconst 2, 1) := by decide +kernel
theorem dL_lay_33 : decode cL_lay 33 = .ok (.ireturn, 1) := by decide +kernel
theorem dL_lay_34 : decode cL_lay 34 = .ok (.astore 7, 2) := by decide +kernel
theorem dL_lay_36 : decode cL_lay 36 = .ok (.iconst 3, 1) := by decide +kernel
theorem dL_lay_37 : decode cL_lay 37 = .ok (.ireturn, 1) := by decide +kernel
theorem dL_lay_38 : decode cL_lay 38 = .ok (.iconst 0, 1) := by decide +kernel
theorem dL_lay_39 : decode cL_lay 39 = .ok (.ireturn, 1) := by decide +kernel
set_option maxRecDepth 20000 in
theorem ggL_twist_X3_twist : GoodIn wsL_twist wsX3_twist := goodIn_ca (goodIn_ca (goodIn_ca (goodIn_r _ [8, 9, 10, 11, 12, 13, 14, 15, 16, 17, 7, 18, 19, 20, 21, 22, 23, 24, 25, 26, 27, 28, 29, 30, 31, 32, 33, 34, 35, 36, 37, 38, 39, 40, 41, 42, 43, 44, 45, 46, 47, 48, 49, 50, 51, 52, 53, 54, 55, 56, 57, 58, 59] (by decide +kernel) (by decide +kernel)) (goodIn_sub (fun _ h => List.mem_cons_of_mem _ (List.mem_append_left _ (List.mem_append_left _ (List.mem_append_right _ h)))) (by decide +kernel))) (goodIn_sub (fun _ h => List.mem_cons_of_mem _ (List.mem_append_left _ (List.mem_append_right _ h))) (by decide +kernel))) (goodIn_sub (fun _ h => List.mem_cons_of_mem _ (List.mem_append_right _ h)) (by decide +kernel))
set_option maxRecDepth 20000 in
theorem gL_twist_X3_twist : GoodIn wsL_twist (wsV RL 23 RX3 yX3_twist wsX3_twist) := goodIn_app (goodIn_of _ (by decide +kernel)) ggL_twist_X3_twist
theorem dL_twist_0 : decode cL_twist 0 = .ok (.aload_n 3, 1) := by decide +kernel
theorem dL_twist_1 : decode cL_twist 1 = .ok (.iconst 0, 1) := by decide +kernel
theorem dL_twist_2 : decode cL_twist 2 = .ok (.aload_n 0, 1) := by decide +kernel
theorem dL_twist_3 : decode cL_twist 3 = .ok (.iload_n 1, 1) := by decide +kernel
theorem dL_twist_4 : decode cL_twist 4 = .ok (.iload_n 2, 1) := by decide +kernel
theorem dL_twist_5 : decode cL_twist 5 = .ok (.invokevirtual 23, 3) := by decide +kernel
theorem dL_twist_8 : decode cL_twist 8 = .ok (.ifCond .eq 7, 3) := by decide +kernel
theorem dL_twist_11 : decode cL_twist 11 = .ok (.lconst 1, 1) := by decide +kernel
theorem dL_twist_12 : decode cL_twist 12 = .ok (.goto 4, 3) := by decide +kernel
theorem dL_twist_15 : decode cL_twist 15 = .ok (.lconst 0, 1) := by decide +kernel
theorem dL_twist_16 : decode cL_twist 16 = .ok (.lastore, 1) := by decide +kernel
theorem dL_twist_17 : decode cL_twist 17 = .ok (.goto 15, 3) := by decide +kernel
theorem dL_twist_20 : decode cL_twist 20 = .ok (.astore 4, 2) := by decide +kernel
theorem dL_twist_22 : decode cL_twist 22 = .ok (.iconst 1, 1) := by decide +kernel
theorem dL_twist_23 : decode cL_twist 23 = .ok (.ireturn, 1) := by decide +kernel
theorem dL_twist_24 : decode cL_twist 24 = .ok (.astore 4, 2) := by decide +kernel
theorem dL_twist_26 : decode cL_twist 26 = .ok (.iconst 2, 1) := by decide +kernel
theorem dL_twist_27 : decode cL_twist 27 = .ok (.ireturn, 1) := by decide +kernel
theorem dL_twist_28 : decode cL_twist 28 = .ok (.astore 4, 2) := by decide +kernel
theorem dL_twist_30 : decode cL_twist 30 = .ok (.iconst 3, 1) := by decide +kernel
theorem dL_twist_31 : decode cL_twist 31 = .ok (.ireturn, 1) := by decide +kernel
theorem dL_twist_32 : decode cL_twist 32 = .ok (.iconst 0, 1) := by decide +kernel
theorem dL_twist_33 : decode cL_twist 33 = .ok (.ireturn, 1) := by decide +kernel
set_option maxRecDepth 20000 in
theorem ggL_pull_X3_pull : GoodIn wsL_pull wsX3_pull := goodIn_ca (goodIn_ca (goodIn_r _ [7, 8, 9, 10, 11, 12, 13, 14, 6, 15, 16, 17, 18, 19, 20, 21, 22, 23, 24, 25, 26, 27, 28, 29, 30, 31, 32, 33, 34, 35, 36, 37, 38, 39, 40, 41, 42, 43, 44, 45, 46, 47, 48, 49, 50, 51, 52, 53, 54, 55, 56, 57, 58, 59] (by decide +kernel) (by decide +kernel)) (goodIn_sub (fun _ h => List.mem_cons_of_mem _ (List.mem_append_left _ (List.mem_append_right _ h))) (by decide +kernel))) (goodIn_sub (fun _ h => List.mem_cons_of_mem _ (List.mem_append_right _ h)) (by decide +kernel))
set_option maxRecDepth 20000 in
theorem gL_pull_X3_pull : GoodIn wsL_pull (wsV RL 27 RX3 yX3_pull wsX3_pull) := goodIn_app (goodIn_of _ (by decide +kernel)) ggL_pull_X3_pull
theorem dL_pull_0 : decode cL_pull 0 = .ok (.aload_n 2, 1) := by decide +kernel
theorem dL_pull_1 : decode cL_pull 1 = .ok (.iconst 0, 1) := by decide +kernel
theorem dL_pull_2 : decode cL_pull 2 = .ok (.aload_n 0, 1) := by decide +kernel
theorem dL_pull_3 : decode cL_pull 3 = .ok (.iload_n 1, 1) := by decide +kernel
theorem dL_pull_4 : decode cL_pull 4 = .ok (.invokevirtual 27, 3) := by decide +kernel
theorem dL_pull_7 : decode cL_pull 7 = .ok (.ifCond .eq 7, 3) := by decide +kernel
theorem dL_pull_10 : decode cL_pull 10 = .ok (.lconst 1, 1) := by decide +kernel
theorem dL_pull_11 : decode cL_pull 11 = .ok (.goto 4, 3) := by decide +kernel
theorem dL_pull_14 : decode cL_pull 14 = .ok (.lconst 0, 1) := by decide +kernel
theorem dL_pull_15 : decode cL_pull 15 = .ok (.lastore, 1) := by decide +kernel
theorem dL_pull_16 : decode cL_pull 16 = .ok (.goto 9, 3) := by decide +kernel
theorem dL_pull_19 : decode cL_pull 19 = .ok (.astore_n 3, 1) := by decide +kernel
theorem dL_pull_20 : decode cL_pull 20 = .ok (.iconst 1, 1) := by decide +kernel
theorem dL_pull_21 : decode cL_pull 21 = .ok (.ireturn, 1) := by decide +kernel
theorem dL_pull_22 : decode cL_pull 22 = .ok (.astore_n 3, 1) := by decide +kernel
theorem dL_pull_23 : decode cL_pull 23 = .ok (.iconst 2, 1) := by decide +kernel
theorem dL_pull_24 : decode cL_pull 24 = .ok (.ireturn, 1) := by decide +kernel
theorem dL_pull_25 : decode cL_pull 25 = .ok (.iconst 0, 1) := by decide +kernel
theorem dL_pull_26 : decode cL_pull 26 = .ok (.ireturn, 1) := by decide +kernel
set_option maxRecDepth 20000 in
theorem ggL_furnace_X3_furnace : GoodIn wsL_furnace wsX3_furnace := goodIn_ca (goodIn_r _ [6, 7, 8, 9, 10, 11, 12, 5, 13, 14, 15, 16, 17, 18, 19, 20, 21, 22] (by decide +kernel) (by decide +kernel)) (goodIn_sub (fun _ h => List.mem_cons_of_mem _ (List.mem_append_right _ h)) (by decide +kernel))
set_option maxRecDepth 20000 in
theorem gL_furnace_X3_furnace : GoodIn wsL_furnace (wsV RL 31 RX3 yX3_furnace wsX3_furnace) := goodIn_app (goodIn_of _ (by decide +kernel)) ggL_furnace_X3_furnace
theorem dL_furnace_0 : decode cL_furnace 0 = .ok (.aload_n 2, 1) := by decide +kernel
theorem dL_furnace_1 : decode cL_furnace 1 = .ok (.iconst 0, 1) := by decide +kernel
theorem dL_furnace_2 : decode cL_furnace 2 = .ok (.aload_n 0, 1) := by decide +kernel
theorem dL_furnace_3 : decode cL_furnace 3 = .ok (.iload_n 1, 1) := by decide +kernel
theorem dL_furnace_4 : decode cL_furnace 4 = .ok (.invokevirtual 31, 3) := by decide +kernel
theorem dL_furnace_7 : decode cL_furnace 7 = .ok (.i2l, 1) := by decide +kernel
theorem dL_furnace_8 : decode cL_furnace 8 = .ok (.lastore, 1) := by decide +kernel
theorem dL_furnace_9 : decode cL_furnace 9 = .ok (.goto 6, 3) := by decide +kernel
theorem dL_furnace_12 : decode cL_furnace 12 = .ok (.astore_n 3, 1) := by decide +kernel
theorem dL_furnace_13 : decode cL_furnace 13 = .ok (.iconst 1, 1) := by decide +kernel
theorem dL_furnace_14 : decode cL_furnace 14 = .ok (.ireturn, 1) := by decide +kernel
theorem dL_furnace_15 : decode cL_furnace 15 = .ok (.iconst 0, 1) := by decide +kernel
theorem dL_furnace_16 : decode cL_furnace 16 = .ok (.ireturn, 1) := by decide +kernel
set_option maxRecDepth 20000 in
theorem ggL_rest_X3_rest : GoodIn wsL_rest wsX3_rest := goodIn_ca (goodIn_r _ [6, 7, 8, 9, 10, 11, 5, 12, 13, 14, 15, 16, 17, 18, 19, 20, 21, 22, 23, 24, 25, 26, 27, 28, 29, 30, 31, 32, 33, 34, 35, 36, 37, 38, 39, 40, 41, 42, 43, 44, 45] (by decide +kernel) (by decide +kernel)) (goodIn_sub (fun _ h => List.mem_cons_of_mem _ (List.mem_append_right _ h)) (by decide +kernel))
set_option maxRecDepth 20000 in
theorem gL_rest_X3_rest : GoodIn wsL_rest (wsV RL 35 RX3 yX3_rest wsX3_rest) := goodIn_app (goodIn_of _ (by decide +kernel)) ggL_rest_X3_rest
theorem dL_rest_0 : decode cL_rest 0 = .ok (.aload_n 2, 1) := by decide +kernel
theorem dL_rest_1 : decode cL_rest 1 = .ok (.iconst 0, 1) := by decide +kernel
theorem dL_rest_2 : decode cL_rest 2 = .ok (.aload_n 0, 1) := by decide +kernel
theorem dL_rest_3 : decode cL_rest 3 = .ok (.iload_n 1, 1) := by decide +kernel
theorem dL_rest_4 : decode cL_rest 4 = .ok (.invokevirtual 35, 3) := by decide +kernel
theorem dL_rest_7 : decode cL_rest 7 = .ok (.i2l, 1) := by decide +kernel
theorem dL_rest_8 : decode cL_rest 8 = .ok (.lastore, 1) := by decide +kernel
theorem dL_rest_9 : decode cL_rest 9 = .ok (.goto 6, 3) := by decide +kernel
theorem dL_rest_12 : decode cL_rest 12 = .ok (.astore_n 3, 1) := by decide +kernel
theorem dL_rest_13 : decode cL_rest 13 = .ok (.iconst 1, 1) := by decide +kernel
theorem dL_rest_14 : decode cL_rest 14 = .ok (.ireturn, 1) := by decide +kernel
theorem dL_rest_15 : decode cL_rest 15 = .ok (.iconst 0, 1) := by decide +kernel
theorem dL_rest_16 : decode cL_rest 16 = .ok (.ireturn, 1) := by decide +kernel
set_option maxRecDepth 20000 in
theorem ggL_cut_X3_cut : GoodIn wsL_cut wsX3_cut := goodIn_ca (goodIn_ca (goodIn_r _ [7, 8, 9, 10, 11, 12, 13, 14, 15, 16, 17, 18, 19, 6, 20, 21, 22, 23, 24, 25, 26, 27, 28, 29, 30, 31, 32, 33, 34, 35, 36, 37, 38, 39, 40, 41, 42, 43, 44, 45, 46, 47, 48, 49, 50, 51, 52, 53, 54, 55, 56, 57, 58, 59, 60, 61, 62, 63, 64, 65, 66, 67, 68, 69, 70, 71, 72, 73, 74, 75, 76, 77, 78, 79, 80, 81, 82, 83, 84, 85, 86, 87, 88, 89, 90, 91, 92] (by decide +kernel) (by decide +kernel)) (goodIn_sub (fun _ h => List.mem_cons_of_mem _ (List.mem_append_left _ (List.mem_append_right _ h))) (by decide +kernel))) (goodIn_sub (fun _ h => List.mem_cons_of_mem _ (List.mem_append_right _ h)) (by decide +kernel))
set_option maxRecDepth 20000 in
theorem gL_cut_X3_cut : GoodIn wsL_cut (wsV RL 38 RX3 yX3_cut wsX3_cut) := goodIn_app (goodIn_of _ (by decide +kernel)) ggL_cut_X3_cut
theorem dL_cut_0 : decode cL_cut 0 = .ok (.aload_n 2, 1) := by decide +kernel
theorem dL_cut_1 : decode cL_cut 1 = .ok (.iconst 0, 1) := by decide +kernel
theorem dL_cut_2 : decode cL_cut 2 = .ok (.aload_n 0, 1) := by decide +kernel
theorem dL_cut_3 : decode cL_cut 3 = .ok (.iload_n 1, 1) := by decide +kernel
theorem dL_cut_4 : decode cL_cut 4 = .ok (.invokevirtual 38, 3) := by decide +kernel
theorem dL_cut_7 : decode cL_cut 7 = .ok (.i2l, 1) := by decide +kernel
theorem dL_cut_8 : decode cL_cut 8 = .ok (.lastore, 1) := by decide +kernel
theorem dL_cut_9 : decode cL_cut 9 = .ok (.goto 9, 3) := by decide +kernel
theorem dL_cut_12 : decode cL_cut 12 = .ok (.astore_n 3, 1) := by decide +kernel
theorem dL_cut_13 : decode cL_cut 13 = .ok (.iconst 1, 1) := by decide +kernel
theorem dL_cut_14 : decode cL_cut 14 = .ok (.ireturn, 1) := by decide +kernel
theorem dL_cut_15 : decode cL_cut 15 = .ok (.astore_n 3, 1) := by decide +kernel
theorem dL_cut_16 : decode cL_cut 16 = .ok (.iconst 2, 1) := by decide +kernel
theorem dL_cut_17 : decode cL_cut 17 = .ok (.ireturn, 1) := by decide +kernel
theorem dL_cut_18 : decode cL_cut 18 = .ok (.iconst 0, 1) := by decide +kernel
theorem dL_cut_19 : decode cL_cut 19 = .ok (.ireturn, 1) := by decide +kernel
set_option maxRecDepth 20000 in
theorem ggL_cane_X3_cane : GoodIn wsL_cane wsX3_cane := goodIn_ca (goodIn_r _ [6, 7, 8, 9, 10, 11, 12, 5, 13, 14, 15, 16, 17, 18, 19, 20, 21, 22, 23, 24, 25, 26, 27, 28, 29, 30, 31, 32, 33, 34, 35, 36] (by decide +kernel) (by decide +kernel)) (goodIn_sub (fun _ h => List.mem_cons_of_mem _ (List.mem_append_right _ h)) (by decide +kernel))
set_option maxRecDepth 20000 in
theorem gL_cane_X3_cane : GoodIn wsL_cane (wsV RL 41 RX3 yX3_cane wsX3_cane) := goodIn_app (goodIn_of _ (by decide +kernel)) ggL_cane_X3_cane
theorem dL_cane_0 : decode cL_cane 0 = .ok (.aload_n 3, 1) := by decide +kernel
theorem dL_cane_1 : decode cL_cane 1 = .ok (.iconst 0, 1) := by decide +kernel
theorem dL_cane_2 : decode cL_cane 2 = .ok (.aload_n 0, 1) := by decide +kernel
theorem dL_cane_3 : decode cL_cane 3 = .ok (.iload_n 1, 1) := by decide +kernel
theorem dL_cane_4 : decode cL_cane 4 = .ok (.iload_n 2, 1) := by decide +kernel
theorem dL_cane_5 : decode cL_cane 5 = .ok (.invokevirtual 41, 3) := by decide +kernel
theorem dL_cane_8 : decode cL_cane 8 = .ok (.i2l, 1) := by decide +kernel
theorem dL_cane_9 : decode cL_cane 9 = .ok (.lastore, 1) := by decide +kernel
theorem dL_cane_10 : decode cL_cane 10 = .ok (.goto 7, 3) := by decide +kernel
theorem dL_cane_13 : decode cL_cane 13 = .ok (.astore 4, 2) := by decide +kernel
theorem dL_cane_15 : decode cL_cane 15 = .ok (.iconst 1, 1) := by decide +kernel
theorem dL_cane_16 : decode cL_cane 16 = .ok (.ireturn, 1) := by decide +kernel
theorem dL_cane_17 : decode cL_cane 17 = .ok (.iconst 0, 1) := by decide +kernel
theorem dL_cane_18 : decode cL_cane 18 = .ok (.ireturn, 1) := by decide +kernel
set_option maxRecDepth 20000 in
theorem ggL_shows_X3_shows : GoodIn wsL_shows wsX3_shows := goodIn_ca (goodIn_r _ [6, 7, 8, 9, 10, 11, 5, 12, 13, 14, 15, 16, 17, 18, 19, 20, 21, 22, 23, 24, 25, 26, 27, 28, 29, 30, 31, 32, 33, 34, 35, 36, 37, 38, 39, 40, 41, 42, 43, 44, 45, 46, 47, 48, 49, 50, 51, 52, 53, 54, 55, 56, 57] (by decide +kernel) (by decide +kernel)) (goodIn_sub (fun _ h => List.mem_cons_of_mem _ (List.mem_append_right _ h)) (by decide +kernel))
set_option maxRecDepth 20000 in
theorem gL_shows_X3_shows : GoodIn wsL_shows (wsV RL 45 RX3 yX3_shows wsX3_shows) := goodIn_app (goodIn_of _ (by decide +kernel)) ggL_shows_X3_shows
theorem dL_shows_0 : decode cL_shows 0 = .ok (.aload 5, 2) := by decide +kernel
theorem dL_shows_2 : decode cL_shows 2 = .ok (.iconst 0, 1) := by decide +kernel
theorem dL_shows_3 : decode cL_shows 3 = .ok (.aload_n 0, 1) := by decide +kernel
theorem dL_shows_4 : decode cL_shows 4 = .ok (.iload_n 1, 1) := by decide +kernel
theorem dL_shows_5 : decode cL_shows 5 = .ok (.iload_n 2, 1) := by decide +kernel
theorem dL_shows_6 : decode cL_shows 6 = .ok (.iload_n 3, 1) := by decide +kernel
theorem dL_shows_7 : decode cL_shows 7 = .ok (.iload 4, 2) := by decide +kernel
theorem dL_shows_9 : decode cL_shows 9 = .ok (.invokevirtual 45, 3) := by decide +kernel
theorem dL_shows_12 : decode cL_shows 12 = .ok (.i2l, 1) := by decide +kernel
theorem dL_shows_13 : decode cL_shows 13 = .ok (.lastore, 1) := by decide +kernel
theorem dL_shows_14 : decode cL_shows 14 = .ok (.goto 7, 3) := by decide +kernel
theorem dL_shows_17 : decode cL_shows 17 = .ok (.astore 6, 2) := by decide +kernel
theorem dL_shows_19 : decode cL_shows 19 = .ok (.iconst 1, 1) := by decide +kernel
theorem dL_shows_20 : decode cL_shows 20 = .ok (.ireturn, 1) := by decide +kernel
theorem dL_shows_21 : decode cL_shows 21 = .ok (.iconst 0, 1) := by decide +kernel
theorem dL_shows_22 : decode cL_shows 22 = .ok (.ireturn, 1) := by decide +kernel
set_option maxRecDepth 20000 in
theorem ggL_colour_X3_colour : GoodIn wsL_colour wsX3_colour := goodIn_ca (goodIn_r _ [6, 7, 8, 9, 10, 11, 5, 12, 13, 14, 15, 16, 17, 18, 19, 20, 21, 22, 23, 24, 25, 26, 27, 28, 29, 30, 31, 32, 33, 34, 35, 36, 37, 38, 39, 40, 41, 42, 43, 44, 45, 46] (by decide +kernel) (by decide +kernel)) (goodIn_sub (fun _ h => List.mem_cons_of_mem _ (List.mem_append_right _ h)) (by decide +kernel))
set_option maxRecDepth 20000 in
theorem gL_colour_X3_colour : GoodIn wsL_colour (wsV RL 49 RX3 yX3_colour wsX3_colour) := goodIn_app (goodIn_of _ (by decide +kernel)) ggL_colour_X3_colour
theorem dL_colour_0 : decode cL_colour 0 = .ok (.aload 4, 2) := by decide +kernel
theorem dL_colour_2 : decode cL_colour 2 = .ok (.iconst 0, 1) := by decide +kernel
theorem dL_colour_3 : decode cL_colour 3 = .ok (.aload_n 0, 1) := by decide +kernel
theorem dL_colour_4 : decode cL_colour 4 = .ok (.iload_n 1, 1) := by decide +kernel
theorem dL_colour_5 : decode cL_colour 5 = .ok (.iload_n 2, 1) := by decide +kernel
theorem dL_colour_6 : decode cL_colour 6 = .ok (.iload_n 3, 1) := by decide +kernel
theorem dL_colour_7 : decode cL_colour 7 = .ok (.invokevirtual 49, 3) := by decide +kernel
theorem dL_colour_10 : decode cL_colour 10 = .ok (.i2l, 1) := by decide +kernel
theorem dL_colour_11 : decode cL_colour 11 = .ok (.lastore, 1) := by decide +kernel
theorem dL_colour_12 : decode cL_colour 12 = .ok (.goto 7, 3) := by decide +kernel
theorem dL_colour_15 : decode cL_colour 15 = .ok (.astore 5, 2) := by decide +kernel
theorem dL_colour_17 : decode cL_colour 17 = .ok (.iconst 1, 1) := by decide +kernel
theorem dL_colour_18 : decode cL_colour 18 = .ok (.ireturn, 1) := by decide +kernel
theorem dL_colour_19 : decode cL_colour 19 = .ok (.iconst 0, 1) := by decide +kernel
theorem dL_colour_20 : decode cL_colour 20 = .ok (.ireturn, 1) := by decide +kernel
set_option maxRecDepth 20000 in
theorem ggL_where_X3_where : GoodIn wsL_where wsX3_where := goodIn_ca (goodIn_r _ [6, 7, 8, 9, 10, 11, 5, 12, 13, 14, 15, 16, 17, 18, 19, 20, 21, 22, 23, 24, 25, 26] (by decide +kernel) (by decide +kernel)) (goodIn_sub (fun _ h => List.mem_cons_of_mem _ (List.mem_append_right _ h)) (by decide +kernel))
set_option maxRecDepth 20000 in
theorem gL_where_X3_where : GoodIn wsL_where (wsV RL 53 RX3 yX3_where wsX3_where) := goodIn_app (goodIn_of _ (by decide +kernel)) ggL_where_X3_where
theorem dL_where_0 : decode cL_where 0 = .ok (.aload_n 2, 1) := by decide +kernel
theorem dL_where_1 : decode cL_where 1 = .ok (.iconst 0, 1) := by decide +kernel
theorem dL_where_2 : decode cL_where 2 = .ok (.aload_n 0, 1) := by decide +kernel
theorem dL_where_3 : decode cL_where 3 = .ok (.iload_n 1, 1) := by decide +kernel
theorem dL_where_4 : decode cL_where 4 = .ok (.invokevirtual 53, 3) := by decide +kernel
theorem dL_where_7 : decode cL_where 7 = .ok (.i2l, 1) := by decide +kernel
theorem dL_where_8 : decode cL_where 8 = .ok (.lastore, 1) := by decide +kernel
theorem dL_where_9 : decode cL_where 9 = .ok (.goto 6, 3) := by decide +kernel
theorem dL_where_12 : decode cL_where 12 = .ok (.astore_n 3, 1) := by decide +kernel
theorem dL_where_13 : decode cL_where 13 = .ok (.iconst 1, 1) := by decide +kernel
theorem dL_where_14 : decode cL_where 14 = .ok (.ireturn, 1) := by decide +kernel
theorem dL_where_15 : decode cL_where 15 = .ok (.iconst 0, 1) := by decide +kernel
theorem dL_where_16 : decode cL_where 16 = .ok (.ireturn, 1) := by decide +kernel
set_option maxRecDepth 20000 in
theorem ggL_bead_X3_bead : GoodIn wsL_bead wsX3_bead := goodIn_ca (goodIn_r _ [6, 7, 8, 9, 10, 11, 12, 13, 14, 15, 16, 17] (by decide +kernel) (by decide +kernel)) (goodIn_sub (fun _ h => List.mem_cons_of_mem _ (List.mem_append_right _ h)) (by decide +kernel))
set_option maxRecDepth 20000 in
theorem gL_bead_X3_bead : GoodIn wsL_bead (wsV RL 56 RX3 yX3_bead wsX3_bead) := goodIn_app (goodIn_of _ (by decide +kernel)) ggL_bead_X3_bead
theorem dL_bead_0 : decode cL_bead 0 = .ok (.aload_n 1, 1) := by decide +kernel
theorem dL_bead_1 : decode cL_bead 1 = .ok (.iconst 0, 1) := by decide +kernel
theorem dL_bead_2 : decode cL_bead 2 = .ok (.aload_n 0, 1) := by decide +kernel
theorem dL_bead_3 : decode cL_bead 3 = .ok (.invokevirtual 56, 3) := by decide +kernel
theorem dL_bead_6 : decode cL_bead 6 = .ok (.i2l, 1) := by decide +kernel
theorem dL_bead_7 : decode cL_bead 7 = .ok (.lastore, 1) := by decide +kernel
theorem dL_bead_8 : decode cL_bead 8 = .ok (.goto 6, 3) := by decide +kernel
theorem dL_bead_11 : decode cL_bead 11 = .ok (.astore_n 2, 1) := by decide +kernel
theorem dL_bead_12 : decode cL_bead 12 = .ok (.iconst 1, 1) := by decide +kernel
theorem dL_bead_13 : decode cL_bead 13 = .ok (.ireturn, 1) := by decide +kernel
theorem dL_bead_14 : decode cL_bead 14 = .ok (.iconst 0, 1) := by decide +kernel
theorem dL_bead_15 : decode cL_bead 15 = .ok (.ireturn, 1) := by decide +kernel
set_option maxRecDepth 20000 in
theorem ggL_set_X3_set : GoodIn wsL_set wsX3_set := goodIn_ca (goodIn_ca (goodIn_ca (goodIn_r _ [8, 9, 10, 11, 12, 13, 14, 15, 16, 17, 18, 7, 19, 20, 21, 22, 23, 24, 25, 26, 27, 28, 29, 30, 31, 32, 33, 34, 35, 36, 37, 38, 39, 40, 41, 42, 43, 44, 45, 46, 47, 48, 49, 50, 51, 52, 53, 54, 55, 56, 57, 58, 59] (by decide +kernel) (by decide +kernel)) (goodIn_sub (fun _ h => List.mem_cons_of_mem _ (List.mem_append_left _ (List.mem_append_left _ (List.mem_append_right _ h)))) (by decide +kernel))) (goodIn_sub (fun _ h => List.mem_cons_of_mem _ (List.mem_append_left _ (List.mem_append_right _ h))) (by decide +kernel))) (goodIn_sub (fun _ h => List.mem_cons_of_mem _ (List.mem_append_right _ h)) (by decide +kernel))
set_option maxRecDepth 20000 in
theorem gL_set_X3_set : GoodIn wsL_set (wsV RL 59 RX3 yX3_set wsX3_set) := goodIn_app (goodIn_of _ (by decide +kernel)) ggL_set_X3_set
theorem dL_set_0 : decode cL_set 0 = .ok (.aload 5, 2) := by decide +kernel
theorem dL_set_2 : decode cL_set 2 = .ok (.iconst 0, 1) := by decide +kernel
theorem dL_set_3 : decode cL_set 3 = .ok (.aload_n 0, 1) := by decide +kernel
theorem dL_set_4 : decode cL_set 4 = .ok (.iload_n 1, 1) := by decide +kernel
theorem dL_set_5 : decode cL_set 5 = .ok (.iload_n 2, 1) := by decide +kernel
theorem dL_set_6 : decode cL_set 6 = .ok (.iload_n 3, 1) := by decide +kernel
theorem dL_set_7 : decode cL_set 7 = .ok (.iload 4, 2) := by decide +kernel
theorem dL_set_9 : decode cL_set 9 = .ok (.invokevirtual 59, 3) := by decide +kernel
theorem dL_set_12 : decode cL_set 12 = .ok (.i2l, 1) := by decide +kernel
theorem dL_set_13 : decode cL_set 13 = .ok (.lastore, 1) := by decide +kernel
theorem dL_set_14 : decode cL_set 14 = .ok (.goto 15, 3) := by decide +kernel
theorem dL_set_17 : decode cL_set 17 = .ok (.astore 6, 2) := by decide +kernel
theorem dL_set_19 : decode cL_set 19 = .ok (.iconst 1, 1) := by decide +kernel
theorem dL_set_20 : decode cL_set 20 = .ok (.ireturn, 1) := by decide +kernel
theorem dL_set_21 : decode cL_set 21 = .ok (.astore 6, 2) := by decide +kernel
theorem dL_set_23 : decode cL_set 23 = .ok (.iconst 2, 1) := by decide +kernel
theorem dL_set_24 : decode cL_set 24 = .ok (.ireturn, 1) := by decide +kernel
theorem dL_set_25 : decode cL_set 25 = .ok (.astore 6, 2) := by decide +kernel
theorem dL_set_27 : decode cL_set 27 = .ok (.iconst 3, 1) := by decide +kernel
theorem dL_set_28 : decode cL_set 28 = .ok (.ireturn, 1) := by decide +kernel
theorem dL_set_29 : decode cL_set 29 = .ok (.iconst 0, 1) := by decide +kernel
theorem dL_set_30 : decode cL_set 30 = .ok (.ireturn, 1) := by decide +kernel
set_option maxRecDepth 20000 in
theorem ggL_drop_X3_drop : GoodIn wsL_drop wsX3_drop := goodIn_ca (goodIn_ca (goodIn_r _ [7, 8, 9, 10, 11, 12, 13, 14, 15, 6, 16, 17, 18, 19, 20, 21, 22, 23, 24, 25, 26, 27, 28, 29, 30, 31, 32, 33, 34, 35, 36, 37, 38, 39, 40] (by decide +kernel) (by decide +kernel)) (goodIn_sub (fun _ h => List.mem_cons_of_mem _ (List.mem_append_left _ (List.mem_append_right _ h))) (by decide +kernel))) (goodIn_sub (fun _ h => List.mem_cons_of_mem _ (List.mem_append_right _ h)) (by decide +kernel))
set_option maxRecDepth 20000 in
theorem gL_drop_X3_drop : GoodIn wsL_drop (wsV RL 62 RX3 yX3_drop wsX3_drop) := goodIn_app (goodIn_of _ (by decide +kernel)) ggL_drop_X3_drop
theorem dL_drop_0 : decode cL_drop 0 = .ok (.aload_n 3, 1) := by decide +kernel
theorem dL_drop_1 : decode cL_drop 1 = .ok (.iconst 0, 1) := by decide +kernel
theorem dL_drop_2 : decode cL_drop 2 = .ok (.aload_n 0, 1) := by decide +kernel
theorem dL_drop_3 : decode cL_drop 3 = .ok (.iload_n 1, 1) := by decide +kernel
theorem dL_drop_4 : decode cL_drop 4 = .ok (.iload_n 2, 1) := by decide +kernel
theorem dL_drop_5 : decode cL_drop 5 = .ok (.invokevirtual 62, 3) := by decide +kernel
theorem dL_drop_8 : decode cL_drop 8 = .ok (.i2l, 1) := by decide +kernel
theorem dL_drop_9 : decode cL_drop 9 = .ok (.lastore, 1) := by decide +kernel
theorem dL_drop_10 : decode cL_drop 10 = .ok (.goto 11, 3) := by decide +kernel
theorem dL_drop_13 : decode cL_drop 13 = .ok (.astore 4, 2) := by decide +kernel
theorem dL_drop_15 : decode cL_drop 15 = .ok (.iconst 1, 1) := by decide +kernel
theorem dL_drop_16 : decode cL_drop 16 = .ok (.ireturn, 1) := by decide +kernel
theorem dL_drop_17 : decode cL_drop 17 = .ok (.astore 4, 2) := by decide +kernel
theorem dL_drop_19 : decode cL_drop 19 = .ok (.iconst 2, 1) := by decide +kernel
theorem dL_drop_20 : decode cL_drop 20 = .ok (.ireturn, 1) := by decide +kernel
theorem dL_drop_21 : decode cL_drop 21 = .ok (.iconst 0, 1) := by decide +kernel
theorem dL_drop_22 : decode cL_drop 22 = .ok (.ireturn, 1) := by decide +kernel
set_option maxRecDepth 20000 in
theorem ggL_seen_X3_seen : GoodIn wsL_seen wsX3_seen := goodIn_ca (goodIn_r _ [6, 7, 8, 9, 10, 11, 12, 5, 13, 14, 15, 16, 17, 18, 19, 20, 21, 22, 23, 24, 25, 26, 27, 28, 29, 30, 31, 32, 33, 34, 35, 36, 37, 38, 39, 40, 41, 42, 43, 44, 45, 46, 47, 48, 49, 50] (by decide +kernel) (by decide +kernel)) (goodIn_sub (fun _ h => List.mem_cons_of_mem _ (List.mem_append_right _ h)) (by decide +kernel))
set_option maxRecDepth 20000 in
theorem gL_seen_X3_seen : GoodIn wsL_seen (wsV RL 65 RX3 yX3_seen wsX3_seen) := goodIn_app (goodIn_of _ (by decide +kernel)) ggL_seen_X3_seen
theorem dL_seen_0 : decode cL_seen 0 = .ok (.aload 5, 2) := by decide +kernel
theorem dL_seen_2 : decode cL_seen 2 = .ok (.iconst 0, 1) := by decide +kernel
theorem dL_seen_3 : decode cL_seen 3 = .ok (.aload_n 0, 1) := by decide +kernel
theorem dL_seen_4 : decode cL_seen 4 = .ok (.iload_n 1, 1) := by decide +kernel
theorem dL_seen_5 : decode cL_seen 5 = .ok (.iload_n 2, 1) := by decide +kernel
theorem dL_seen_6 : decode cL_seen 6 = .ok (.iload_n 3, 1) := by decide +kernel
theorem dL_seen_7 : decode cL_seen 7 = .ok (.iload 4, 2) := by decide +kernel
theorem dL_seen_9 : decode cL_seen 9 = .ok (.invokevirtual 65, 3) := by decide +kernel
theorem dL_seen_12 : decode cL_seen 12 = .ok (.i2l, 1) := by decide +kernel
theorem dL_seen_13 : decode cL_seen 13 = .ok (.lastore, 1) := by decide +kernel
theorem dL_seen_14 : decode cL_seen 14 = .ok (.goto 7, 3) := by decide +kernel
theorem dL_seen_17 : decode cL_seen 17 = .ok (.astore 6, 2) := by decide +kernel
theorem dL_seen_19 : decode cL_seen 19 = .ok (.iconst 1, 1) := by decide +kernel
theorem dL_seen_20 : decode cL_seen 20 = .ok (.ireturn, 1) := by decide +kernel
theorem dL_seen_21 : decode cL_seen 21 = .ok (.iconst 0, 1) := by decide +kernel
theorem dL_seen_22 : decode cL_seen 22 = .ok (.ireturn, 1) := by decide +kernel
set_option maxRecDepth 20000 in
theorem ggL_count_X3_count : GoodIn wsL_count wsX3_count := goodIn_ca (goodIn_r _ [6, 7, 8, 9, 10, 11, 5, 12, 13, 14, 15, 16, 17, 18, 19, 20, 21, 22, 23, 24, 25, 26, 27, 28, 29, 30, 31, 32, 33, 34, 35, 36, 37, 38, 39, 40, 41, 42, 43, 44, 45, 46, 47, 48, 49, 50, 51, 52, 53, 54, 55, 56, 57, 58, 59, 60, 61, 62, 63, 64, 65, 66, 67, 68, 69, 70, 71, 72, 73, 74] (by decide +kernel) (by decide +kernel)) (goodIn_sub (fun _ h => List.mem_cons_of_mem _ (List.mem_append_right _ h)) (by decide +kernel))
set_option maxRecDepth 20000 in
theorem gL_count_X3_count : GoodIn wsL_count (wsV RL 68 RX3 yX3_count wsX3_count) := goodIn_app (goodIn_of _ (by decide +kernel)) ggL_count_X3_count
theorem dL_count_0 : decode cL_count 0 = .ok (.aload_n 2, 1) := by decide +kernel
theorem dL_count_1 : decode cL_count 1 = .ok (.iconst 0, 1) := by decide +kernel
theorem dL_count_2 : decode cL_count 2 = .ok (.aload_n 0, 1) := by decide +kernel
theorem dL_count_3 : decode cL_count 3 = .ok (.iload_n 1, 1) := by decide +kernel
theorem dL_count_4 : decode cL_count 4 = .ok (.invokevirtual 68, 3) := by decide +kernel
theorem dL_count_7 : decode cL_count 7 = .ok (.i2l, 1) := by decide +kernel
theorem dL_count_8 : decode cL_count 8 = .ok (.lastore, 1) := by decide +kernel
theorem dL_count_9 : decode cL_count 9 = .ok (.goto 6, 3) := by decide +kernel
theorem dL_count_12 : decode cL_count 12 = .ok (.astore_n 3, 1) := by decide +kernel
theorem dL_count_13 : decode cL_count 13 = .ok (.iconst 1, 1) := by decide +kernel
theorem dL_count_14 : decode cL_count 14 = .ok (.ireturn, 1) := by decide +kernel
theorem dL_count_15 : decode cL_count 15 = .ok (.iconst 0, 1) := by decide +kernel
theorem dL_count_16 : decode cL_count 16 = .ok (.ireturn, 1) := by decide +kernel
set_option maxRecDepth 20000 in
theorem ggL_again_X3_again : GoodIn wsL_again wsX3_again := goodIn_ca (goodIn_r _ [6, 7, 8, 9, 10, 11, 5, 12, 13, 14, 15, 16, 17, 18, 19, 20, 21, 22, 23, 24, 25, 26, 27, 28, 29, 30, 31, 32, 33, 34, 35, 36, 37, 38, 39, 40, 41, 42, 43, 44, 45, 46, 47, 48, 49, 50, 51, 52, 53, 54, 55] (by decide +kernel) (by decide +kernel)) (goodIn_sub (fun _ h => List.mem_cons_of_mem _ (List.mem_append_right _ h)) (by decide +kernel))
set_option maxRecDepth 20000 in
theorem gL_again_X3_again : GoodIn wsL_again (wsV RL 71 RX3 yX3_again wsX3_again) := goodIn_app (goodIn_of _ (by decide +kernel)) ggL_again_X3_again
theorem dL_again_0 : decode cL_again 0 = .ok (.aload_n 3, 1) := by decide +kernel
theorem dL_again_1 : decode cL_again 1 = .ok (.iconst 0, 1) := by decide +kernel
theorem dL_again_2 : decode cL_again 2 = .ok (.aload_n 0, 1) := by decide +kernel
theorem dL_again_3 : decode cL_again 3 = .ok (.iload_n 1, 1) := by decide +kernel
theorem dL_again_4 : decode cL_again 4 = .ok (.iload_n 2, 1) := by decide +kernel
theorem dL_again_5 : decode cL_again 5 = .ok (.invokevirtual 71, 3) := by decide +kernel
theorem dL_again_8 : decode cL_again 8 = .ok (.i2l, 1) := by decide +kernel
theorem dL_again_9 : decode cL_again 9 = .ok (.lastore, 1) := by decide +kernel
theorem dL_again_10 : decode cL_again 10 = .ok (.goto 7, 3) := by decide +kernel
theorem dL_again_13 : decode cL_again 13 = .ok (.astore 4, 2) := by decide +kernel
theorem dL_again_15 : decode cL_again 15 = .ok (.iconst 1, 1) := by decide +kernel
theorem dL_again_16 : decode cL_again 16 = .ok (.ireturn, 1) := by decide +kernel
theorem dL_again_17 : decode cL_again 17 = .ok (.iconst 0, 1) := by decide +kernel
theorem dL_again_18 : decode cL_again 18 = .ok (.ireturn, 1) := by decide +kernel
set_option maxRecDepth 20000 in
theorem ggL_turn_X3_turn : GoodIn wsL_turn wsX3_turn := goodIn_ca (goodIn_r _ [6, 7, 8, 9, 10, 11, 5, 12, 13, 14, 15, 16, 17, 18, 19, 20, 21, 22, 23, 24, 25, 26, 27, 28, 29, 30, 31, 32, 33, 34, 35, 36, 37, 38, 39, 40, 41, 42, 43, 44, 45, 46, 47, 48] (by decide +kernel) (by decide +kernel)) (goodIn_sub (fun _ h => List.mem_cons_of_mem _ (List.mem_append_right _ h)) (by decide +kernel))
set_option maxRecDepth 20000 in
theorem gL_turn_X3_turn : GoodIn wsL_turn (wsV RL 74 RX3 yX3_turn wsX3_turn) := goodIn_app (goodIn_of _ (by decide +kernel)) ggL_turn_X3_turn
theorem dL_turn_0 : decode cL_turn 0 = .ok (.aload_n 3, 1) := by decide +kernel
theorem dL_turn_1 : decode cL_turn 1 = .ok (.iconst 0, 1) := by decide +kernel
theorem dL_turn_2 : decode cL_turn 2 = .ok (.aload_n 0, 1) := by decide +kernel
theorem dL_turn_3 : decode cL_turn 3 = .ok (.iload_n 1, 1) := by decide +kernel
theorem dL_turn_4 : decode cL_turn 4 = .ok (.iload_n 2, 1) := by decide +kernel
theorem dL_turn_5 : decode cL_turn 5 = .ok (.invokevirtual 74, 3) := by decide +kernel
theorem dL_turn_8 : decode cL_turn 8 = .ok (.i2l, 1) := by decide +kernel
theorem dL_turn_9 : decode cL_turn 9 = .ok (.lastore, 1) := by decide +kernel
theorem dL_turn_10 : decode cL_turn 10 = .ok (.goto 7, 3) := by decide +kernel
theorem dL_turn_13 : decode cL_turn 13 = .ok (.astore 4, 2) := by decide +kernel
theorem dL_turn_15 : decode cL_turn 15 = .ok (.iconst 1, 1) := by decide +kernel
theorem dL_turn_16 : decode cL_turn 16 = .ok (.ireturn, 1) := by decide +kernel
theorem dL_turn_17 : decode cL_turn 17 = .ok (.iconst 0, 1) := by decide +kernel
theorem dL_turn_18 : decode cL_turn 18 = .ok (.ireturn, 1) := by decide +kernel
set_option maxRecDepth 20000 in
theorem ggL_cuts_X3_cuts : GoodIn wsL_cuts wsX3_cuts := goodIn_ca (goodIn_r _ [6, 7, 8, 9, 10, 11, 5, 12, 13, 14, 15, 16, 17, 18, 19, 20, 21, 22, 23, 24, 25, 26, 27, 28, 29, 30, 31, 32, 33, 34, 35, 36, 37, 38, 39, 40, 41, 42, 43, 44, 45, 46, 47, 48, 49, 50, 51, 52, 53, 54, 55, 56, 57, 58, 59, 60] (by decide +kernel) (by decide +kernel)) (goodIn_sub (fun _ h => List.mem_cons_of_mem _ (List.mem_append_right _ h)) (by decide +kernel))
set_option maxRecDepth 20000 in
theorem gL_cuts_X3_cuts : GoodIn wsL_cuts (wsV RL 77 RX3 yX3_cuts wsX3_cuts) := goodIn_app (goodIn_of _ (by decide +kernel)) ggL_cuts_X3_cuts
theorem dL_cuts_0 : decode cL_cuts 0 = .ok (.aload_n 3, 1) := by decide +kernel
theorem dL_cuts_1 : decode cL_cuts 1 = .ok (.iconst 0, 1) := by decide +kernel
theorem dL_cuts_2 : decode cL_cuts 2 = .ok (.aload_n 0, 1) := by decide +kernel
theorem dL_cuts_3 : decode cL_cuts 3 = .ok (.iload_n 1, 1) := by decide +kernel
theorem dL_cuts_4 : decode cL_cuts 4 = .ok (.iload_n 2, 1) := by decide +kernel
theorem dL_cuts_5 : decode cL_cuts 5 = .ok (.invokevirtual 77, 3) := by decide +kernel
theorem dL_cuts_8 : decode cL_cuts 8 = .ok (.i2l, 1) := by decide +kernel
theorem dL_cuts_9 : decode cL_cuts 9 = .ok (.lastore, 1) := by decide +kernel
theorem dL_cuts_10 : decode cL_cuts 10 = .ok (.goto 7, 3) := by decide +kernel
theorem dL_cuts_13 : decode cL_cuts 13 = .ok (.astore 4, 2) := by decide +kernel
theorem dL_cuts_15 : decode cL_cuts 15 = .ok (.iconst 1, 1) := by decide +kernel
theorem dL_cuts_16 : decode cL_cuts 16 = .ok (.ireturn, 1) := by decide +kernel
theorem dL_cuts_17 : decode cL_cuts 17 = .ok (.iconst 0, 1) := by decide +kernel
theorem dL_cuts_18 : decode cL_cuts 18 = .ok (.ireturn, 1) := by decide +kernel
set_option maxRecDepth 20000 in
theorem ggL_mends_X3_mends : GoodIn wsL_mends wsX3_mends := goodIn_ca (goodIn_r _ [6, 7, 8, 9, 10, 11, 12, 5, 13, 14, 15, 16, 17, 18, 19, 20, 21, 22, 23, 24, 25, 26, 27, 28, 29, 30, 31, 32, 33, 34, 35, 36, 37, 38, 39, 40, 41, 42, 43, 44, 45, 46, 47, 48, 49, 50, 51, 52, 53, 54, 55, 56, 57, 58, 59, 60, 61, 62, 63, 64, 65] (by decide +kernel) (by decide +kernel)) (goodIn_sub (fun _ h => List.mem_cons_of_mem _ (List.mem_append_right _ h)) (by decide +kernel))
set_option maxRecDepth 20000 in
theorem gL_mends_X3_mends : GoodIn wsL_mends (wsV RL 80 RX3 yX3_mends wsX3_mends) := goodIn_app (goodIn_of _ (by decide +kernel)) ggL_mends_X3_mends
theorem dL_mends_0 : decode cL_mends 0 = .ok (.aload_n 2, 1) := by decide +kernel
theorem dL_mends_1 : decode cL_mends 1 = .ok (.iconst 0, 1) := by decide +kernel
theorem dL_mends_2 : decode cL_mends 2 = .ok (.aload_n 0, 1) := by decide +kernel
theorem dL_mends_3 : decode cL_mends 3 = .ok (.iload_n 1, 1) := by decide +kernel
theorem dL_mends_4 : decode cL_mends 4 = .ok (.invokevirtual 80, 3) := by decide +kernel
theorem dL_mends_7 : decode cL_mends 7 = .ok (.i2l, 1) := by decide +kernel
theorem dL_mends_8 : decode cL_mends 8 = .ok (.lastore, 1) := by decide +kernel
theorem dL_mends_9 : decode cL_mends 9 = .ok (.goto 6, 3) := by decide +kernel
theorem dL_mends_12 : decode cL_mends 12 = .ok (.astore_n 3, 1) := by decide +kernel
theorem dL_mends_13 : decode cL_mends 13 = .ok (.iconst 1, 1) := by decide +kernel
theorem dL_mends_14 : decode cL_mends 14 = .ok (.ireturn, 1) := by decide +kernel
theorem dL_mends_15 : decode cL_mends 15 = .ok (.iconst 0, 1) := by decide +kernel
theorem dL_mends_16 : decode cL_mends 16 = .ok (.ireturn, 1) := by decide +kernel
set_option maxRecDepth 20000 in
theorem ggL_law_X3_init : GoodIn wsL_law wsX3_init := goodIn_r _ [9, 10, 11, 12, 13, 14, 15, 16, 17, 18, 570, 571, 572, 573, 574, 575, 576, 577] (by decide +kernel) (by decide +kernel)
set_option maxRecDepth 20000 in
theorem gL_law_X3_init : GoodIn wsL_law (wsX3_init) := ggL_law_X3_init
set_option maxRecDepth 20000 in
theorem ggL_law_X4_init : GoodIn wsL_law wsX4_init := goodIn_r _ [21, 22, 11, 12, 23, 24, 25, 26, 27, 28, 29, 30, 31, 32, 33, 578, 579, 580, 581, 582, 583, 584, 585, 586, 587, 588, 589, 590, 591, 592] (by decide +kernel) (by decide +kernel)
set_option maxRecDepth 20000 in
theorem gL_law_X4_init : GoodIn wsL_law (wsX4_init) := ggL_law_X4_init
set_option maxRecDepth 20000 in
theorem ggL_law_L_begin : GoodIn wsL_law wsL_begin := goodIn_ca (goodIn_r _ [37, 38, 39, 40, 41, 2, 42, 43, 44, 45, 14, 13, 46, 47, 48, 49, 50, 51, 11, 12, 52, 53, 54, 55, 56, 57, 58, 59, 60, 61, 24, 62, 570, 571, 572, 573, 574, 575, 576, 577, 593, 594, 595, 596, 597, 598] (by decide +kernel) (by decide +kernel)) (goodIn_sub (fun _ h => List.mem_append_left _ (List.mem_append_left _ (List.mem_append_right _ h))) (by decide +kernel))
set_option maxRecDepth 20000 in
theorem gL_law_L_begin : GoodIn wsL_law (va_wsS RL 87 yL_begin wsL_begin) := goodIn_app (goodIn_of _ (by decide +kernel)) ggL_law_L_begin
set_option maxRecDepth 20000 in
theorem ggL_law_X4_begin : GoodIn wsL_law wsX4_begin := goodIn_r _ [66, 67, 68, 25, 27, 28, 69, 70, 71, 5, 72, 578, 579, 580, 581, 582, 583, 584, 585, 586, 587, 588, 589, 590, 591, 592] (by decide +kernel) (by decide +kernel)
set_option maxRecDepth 20000 in
theorem gL_law_X4_begin : GoodIn wsL_law (wsV RL 92 RX4 yX4_begin wsX4_begin) := goodIn_app (goodIn_of _ (by decide +kernel)) ggL_law_X4_begin
set_option maxRecDepth 20000 in
theorem ggL_law_X4_thrown : GoodIn wsL_law wsX4_thrown := goodIn_r _ [76, 67, 578, 579, 580, 581, 582, 583, 584, 585, 586, 587, 588, 589, 590, 591, 592] (by decide +kernel) (by decide +kernel)
set_option maxRecDepth 20000 in
theorem gL_law_X4_thrown : GoodIn wsL_law (wsV RL 93 RX4 yX4_thrown wsX4_thrown) := goodIn_app (goodIn_of _ (by decide +kernel)) ggL_law_X4_thrown
set_option maxRecDepth 20000 in
theorem ggL_law_L_lay : GoodIn wsL_law wsL_lay := goodIn_ca (goodIn_ca (goodIn_ca (goodIn_r _ [79, 80, 81, 38, 82, 83, 84, 2, 85, 86, 87, 88, 89, 43, 44, 90, 91, 92, 93, 14, 94, 95, 96, 97, 98, 99, 100, 101, 102, 47, 103, 57, 104, 105, 106, 107, 54, 108, 62, 109, 110, 111, 112, 113, 114, 115, 116, 117, 118, 119, 18, 120, 121, 122, 123, 124, 125, 126, 127, 128, 129, 130, 131, 593, 594, 595, 596, 597, 570, 571, 572, 573, 574, 575, 576, 577, 598] (by decide +kernel) (by decide +kernel)) (goodIn_sub (fun _ h => List.mem_append_left _ (List.mem_append_right _ h)) (by decide +kernel))) (goodIn_sub (fun _ h => List.mem_append_right _ h) (by decide +kernel))) (goodIn_sub (fun _ h => List.mem_append_left _ (List.mem_append_left _ (List.mem_append_right _ h))) (by decide +kernel))
set_option maxRecDepth 20000 in
theorem gL_law_L_lay : GoodIn wsL_law (va_wsS RL 96 yL_lay wsL_lay) := goodIn_app (goodIn_of _ (by decide +kernel)) ggL_law_L_lay
set_option maxRecDepth 20000 in
theorem ggL_law_X4_lay : GoodIn wsL_law wsX4_lay := goodIn_r _ [135, 67, 28, 29, 136, 137, 138, 5, 139, 68, 140, 141, 142, 69, 70, 71, 72, 143, 144, 145, 146, 147, 148, 149, 27, 150, 151, 152, 153, 23, 154, 126, 127, 128, 155, 130, 131, 156, 578, 579, 580, 581, 582, 583, 584, 585, 586, 587, 588, 589, 590, 591, 592] (by decide +kernel) (by decide +kernel)
set_option maxRecDepth 20000 in
theorem gL_law_X4_lay : GoodIn wsL_law (wsV RL 99 RX4 yX4_lay wsX4_lay) := goodIn_app (goodIn_of _ (by decide +kernel)) ggL_law_X4_lay
set_option maxRecDepth 20000 in
theorem ggL_law_L_twist : GoodIn wsL_law wsL_twist := goodIn_ca (goodIn_ca (goodIn_ca (goodIn_r _ [159, 80, 81, 38, 160, 161, 162, 2, 163, 86, 87, 88, 89, 43, 44, 90, 91, 92, 93, 14, 164, 165, 166, 100, 101, 102, 47, 103, 57, 104, 116, 117, 118, 119, 18, 120, 121, 122, 123, 124, 125, 126, 127, 128, 129, 130, 131, 593, 594, 595, 596, 597, 570, 571, 572, 573, 574, 575, 576, 577] (by decide +kernel) (by decide +kernel)) (goodIn_sub (fun _ h => List.mem_append_left _ (List.mem_append_right _ h)) (by decide +kernel))) (goodIn_sub (fun _ h => List.mem_append_right _ h) (by decide +kernel))) (goodIn_sub (fun _ h => List.mem_append_left _ (List.mem_append_left _ (List.mem_append_right _ h))) (by decide +kernel))
set_option maxRecDepth 20000 in
theorem gL_law_L_twist : GoodIn wsL_law (va_wsS RL 100 yL_twist wsL_twist) := goodIn_app (goodIn_of _ (by decide +kernel)) ggL_law_L_twist
set_option maxRecDepth 20000 in
theorem ggL_law_X4_twist : GoodIn wsL_law wsX4_twist := goodIn_r _ [170, 67, 28, 26, 136, 137, 138, 5, 139, 68, 140, 141, 142, 69, 70, 71, 72, 146, 147, 148, 149, 27, 150, 151, 152, 153, 23, 154, 126, 127, 128, 155, 130, 131, 156, 578, 579, 580, 581, 582, 583, 584, 585, 586, 587, 588, 589, 590, 591, 592] (by decide +kernel) (by decide +kernel)
set_option maxRecDepth 20000 in
theorem gL_law_X4_twist : GoodIn wsL_law (wsV RL 103 RX4 yX4_twist wsX4_twist) := goodIn_app (goodIn_of _ (by decide +kernel)) ggL_law_X4_twist
set_option maxRecDepth 20000 in
theorem ggL_law_L_pull : GoodIn wsL_law wsL_pull := goodIn_ca (goodIn_ca (goodIn_r _ [173, 80, 38, 174, 175, 176, 2, 177, 86, 87, 43, 44, 90, 91, 92, 93, 14, 100, 101, 102, 47, 103, 57, 104, 178, 179, 180, 181, 56, 125, 126, 127, 128, 182, 116, 117, 118, 119, 18, 120, 121, 122, 123, 124, 129, 130, 131, 593, 594, 595, 596, 597, 570, 571, 572, 573, 574, 575, 576, 577] (by decide +kernel) (by decide +kernel)) (goodIn_sub (fun _ h => List.mem_append_left _ (List.mem_append_right _ h)) (by decide +kernel))) (goodIn_sub (fun _ h => List.mem_append_left _ (List.mem_append_left _ (List.mem_append_right _ h))) (by decide +kernel))
set_option maxRecDepth 20000 in
theorem gL_law_L_pull : GoodIn wsL_law (va_wsS RL 104 yL_pull wsL_pull) := goodIn_app (goodIn_of _ (by decide +kernel)) ggL_law_L_pull
set_option maxRecDepth 20000 in
theorem ggL_law_X4_pull : GoodIn wsL_law wsX4_pull := goodIn_r _ [186, 67, 28, 25, 154, 126, 127, 128, 26, 136, 137, 138, 5, 139, 68, 140, 141, 142, 69, 70, 71, 72, 146, 147, 148, 149, 27, 150, 151, 152, 153, 23, 155, 130, 131, 156, 578, 579, 580, 581, 582, 583, 584, 585, 586, 587, 588, 589, 590, 591, 592] (by decide +kernel) (by decide +kernel)
set_option maxRecDepth 20000 in
theorem gL_law_X4_pull : GoodIn wsL_law (wsV RL 107 RX4 yX4_pull wsX4_pull) := goodIn_app (goodIn_of _ (by decide +kernel)) ggL_law_X4_pull
set_option maxRecDepth 20000 in
theorem ggL_law_L_furnace : GoodIn wsL_law wsL_furnace := goodIn_ca (goodIn_r _ [189, 80, 190, 191, 192, 2, 193, 86, 87, 18, 90, 91, 92, 93, 14, 570, 571, 572, 573, 574, 575, 576, 577] (by decide +kernel) (by decide +kernel)) (goodIn_sub (fun _ h => List.mem_append_left _ (List.mem_append_right _ h)) (by decide +kernel))
set_option maxRecDepth 20000 in
theorem gL_law_L_furnace : GoodIn wsL_law (va_wsS RL 108 yL_furnace wsL_furnace) := goodIn_app (goodIn_of _ (by decide +kernel)) ggL_law_L_furnace
set_option maxRecDepth 20000 in
theorem ggL_law_X4_furnace : GoodIn wsL_law wsX4_furnace := goodIn_r _ [197, 67, 23, 136, 137, 138, 5, 139, 68, 140, 141, 142, 69, 70, 71, 72, 578, 579, 580, 581, 582, 583, 584, 585, 586, 587, 588, 589, 590, 591, 592] (by decide +kernel) (by decide +kernel)
set_option maxRecDepth 20000 in
theorem gL_law_X4_furnace : GoodIn wsL_law (wsV RL 110 RX4 yX4_furnace wsX4_furnace) := goodIn_app (goodIn_of _ (by decide +kernel)) ggL_law_X4_furnace
set_option maxRecDepth 20000 in
theorem ggL_law_L_rest : GoodIn wsL_law wsL_rest := goodIn_ca (goodIn_r _ [200, 81, 201, 202, 203, 2, 204, 88, 89, 116, 117, 118, 119, 14, 18, 120, 121, 122, 123, 47, 124, 57, 125, 126, 127, 128, 129, 130, 131, 205, 206, 207, 208, 570, 571, 572, 573, 574, 575, 576, 577, 593, 594, 595, 596, 597] (by decide +kernel) (by decide +kernel)) (goodIn_sub (fun _ h => List.mem_append_right _ h) (by decide +kernel))
set_option maxRecDepth 20000 in
theorem gL_law_L_rest : GoodIn wsL_law (va_wsS RL 111 yL_rest wsL_rest) := goodIn_app (goodIn_of _ (by decide +kernel)) ggL_law_L_rest
set_option maxRecDepth 20000 in
theorem ggL_law_X4_rest : GoodIn wsL_law wsX4_rest := goodIn_r _ [212, 67, 140, 141, 5, 142, 69, 70, 71, 72, 150, 151, 152, 153, 68, 27, 23, 154, 126, 127, 128, 155, 130, 131, 156, 213, 214, 215, 216, 578, 579, 580, 581, 582, 583, 584, 585, 586, 587, 588, 589, 590, 591, 592] (by decide +kernel) (by decide +kernel)
set_option maxRecDepth 20000 in
theorem gL_law_X4_rest : GoodIn wsL_law (wsV RL 113 RX4 yX4_rest wsX4_rest) := goodIn_app (goodIn_of _ (by decide +kernel)) ggL_law_X4_rest
set_option maxRecDepth 20000 in
theorem ggL_law_L_cut : GoodIn wsL_law wsL_cut := goodIn_ca (goodIn_ca (goodIn_r _ [219, 80, 38, 220, 221, 222, 2, 223, 86, 87, 43, 44, 224, 16, 15, 225, 226, 90, 91, 92, 93, 14, 227, 228, 229, 47, 230, 182, 231, 232, 233, 54, 234, 235, 53, 62, 236, 59, 60, 61, 11, 12, 24, 237, 238, 239, 240, 109, 110, 111, 112, 113, 114, 115, 241, 242, 243, 244, 245, 246, 247, 248, 249, 250, 251, 252, 253, 254, 255, 256, 257, 258, 259, 260, 593, 594, 595, 596, 597, 570, 571, 572, 573, 574, 575, 576, 577, 599, 600, 601, 602, 603, 598] (by decide +kernel) (by decide +kernel)) (goodIn_sub (fun _ h => List.mem_append_left _ (List.mem_append_right _ h)) (by decide +kernel))) (goodIn_sub (fun _ h => List.mem_append_left _ (List.mem_append_left _ (List.mem_append_right _ h))) (by decide +kernel))
set_option maxRecDepth 20000 in
theorem gL_law_L_cut : GoodIn wsL_law (va_wsS RL 114 yL_cut wsL_cut) := goodIn_app (goodIn_of _ (by decide +kernel)) ggL_law_L_cut
set_option maxRecDepth 20000 in
theorem ggL_law_X4_cut : GoodIn wsL_law wsX4_cut := goodIn_r _ [264, 67, 25, 27, 265, 30, 29, 26, 31, 136, 137, 138, 5, 139, 68, 140, 141, 142, 69, 70, 71, 72, 266, 267, 268, 269, 270, 113, 114, 115, 578, 579, 580, 581, 582, 583, 584, 585, 586, 587, 588, 589, 590, 591, 592] (by decide +kernel) (by decide +kernel)
set_option maxRecDepth 20000 in
theorem gL_law_X4_cut : GoodIn wsL_law (wsV RL 116 RX4 yX4_cut wsX4_cut) := goodIn_app (goodIn_of _ (by decide +kernel)) ggL_law_X4_cut
set_option maxRecDepth 20000 in
theorem ggL_law_L_cane : GoodIn wsL_law wsL_cane := goodIn_ca (goodIn_r _ [273, 80, 274, 275, 276, 2, 277, 86, 87, 18, 90, 91, 92, 93, 14, 278, 279, 280, 47, 281, 56, 182, 57, 104, 570, 571, 572, 573, 574, 575, 576, 577, 593, 594, 595, 596, 597] (by decide +kernel) (by decide +kernel)) (goodIn_sub (fun _ h => List.mem_append_left _ (List.mem_append_right _ h)) (by decide +kernel))
set_option maxRecDepth 20000 in
theorem gL_law_L_cane : GoodIn wsL_law (va_wsS RL 117 yL_cane wsL_cane) := goodIn_app (goodIn_of _ (by decide +kernel)) ggL_law_L_cane
set_option maxRecDepth 20000 in
theorem ggL_law_X4_cane : GoodIn wsL_law wsX4_cane := goodIn_r _ [285, 67, 136, 137, 138, 5, 139, 68, 140, 141, 142, 286, 287, 288, 289, 24, 25, 26, 27, 28, 23, 69, 70, 71, 72, 578, 579, 580, 581, 582, 583, 584, 585, 586, 587, 588, 589, 590, 591, 592] (by decide +kernel) (by decide +kernel)
set_option maxRecDepth 20000 in
theorem gL_law_X4_cane : GoodIn wsL_law (wsV RL 119 RX4 yX4_cane wsX4_cane) := goodIn_app (goodIn_of _ (by decide +kernel)) ggL_law_X4_cane
set_option maxRecDepth 20000 in
theorem ggL_law_L_shows : GoodIn wsL_law wsL_shows := goodIn_ca (goodIn_r _ [292, 80, 293, 294, 295, 2, 296, 86, 87, 90, 91, 92, 93, 14, 297, 298, 299, 47, 300, 56, 94, 95, 96, 97, 98, 99, 227, 228, 229, 230, 182, 301, 238, 239, 54, 240, 62, 109, 110, 111, 112, 113, 114, 115, 593, 594, 595, 596, 597, 570, 571, 572, 573, 574, 575, 576, 577, 598] (by decide +kernel) (by decide +kernel)) (goodIn_sub (fun _ h => List.mem_append_left _ (List.mem_append_right _ h)) (by decide +kernel))
set_option maxRecDepth 20000 in
theorem gL_law_L_shows : GoodIn wsL_law (va_wsS RL 120 yL_shows wsL_shows) := goodIn_app (goodIn_of _ (by decide +kernel)) ggL_law_L_shows
set_option maxRecDepth 20000 in
theorem ggL_law_X4_shows : GoodIn wsL_law wsX4_shows := goodIn_r _ [305, 67, 25, 29, 26, 136, 137, 138, 5, 139, 68, 140, 141, 142, 143, 144, 145, 69, 70, 71, 72, 266, 267, 268, 269, 270, 113, 114, 115, 306, 307, 308, 578, 579, 580, 581, 582, 583, 584, 585, 586, 587, 588, 589, 590, 591, 592] (by decide +kernel) (by decide +kernel)
set_option maxRecDepth 20000 in
theorem gL_law_X4_shows : GoodIn wsL_law (wsV RL 123 RX4 yX4_shows wsX4_shows) := goodIn_app (goodIn_of _ (by decide +kernel)) ggL_law_X4_shows
set_option maxRecDepth 20000 in
theorem ggL_law_L_colour : GoodIn wsL_law wsL_colour := goodIn_ca (goodIn_r _ [311, 80, 312, 313, 314, 2, 315, 86, 87, 316, 317, 318, 319, 16, 94, 95, 96, 97, 98, 99, 301, 238, 239, 54, 240, 62, 109, 110, 111, 112, 113, 114, 115, 599, 600, 601, 602, 603, 570, 571, 572, 573, 574, 575, 576, 577, 598] (by decide +kernel) (by decide +kernel)) (goodIn_sub (fun _ h => List.mem_append_left _ (List.mem_append_right _ h)) (by decide +kernel))
set_option maxRecDepth 20000 in
theorem gL_law_L_colour : GoodIn wsL_law (va_wsS RL 124 yL_colour wsL_colour) := goodIn_app (goodIn_of _ (by decide +kernel)) ggL_law_L_colour
set_option maxRecDepth 20000 in
theorem ggL_law_X4_colour : GoodIn wsL_law wsX4_colour := goodIn_r _ [323, 67, 30, 324, 325, 326, 5, 327, 265, 140, 141, 142, 143, 144, 145, 306, 307, 308, 69, 70, 71, 72, 578, 579, 580, 581, 582, 583, 584, 585, 586, 587, 588, 589, 590, 591, 592] (by decide +kernel) (by decide +kernel)
set_option maxRecDepth 20000 in
theorem gL_law_X4_colour : GoodIn wsL_law (wsV RL 127 RX4 yX4_colour wsX4_colour) := goodIn_app (goodIn_of _ (by decide +kernel)) ggL_law_X4_colour
set_option maxRecDepth 20000 in
theorem ggL_law_L_where : GoodIn wsL_law wsL_where := goodIn_ca (goodIn_r _ [330, 80, 331, 332, 333, 2, 334, 86, 87, 316, 317, 318, 319, 16, 599, 600, 601, 602, 603, 570, 571, 572, 573, 574, 575, 576, 577] (by decide +kernel) (by decide +kernel)) (goodIn_sub (fun _ h => List.mem_append_left _ (List.mem_append_right _ h)) (by decide +kernel))
set_option maxRecDepth 20000 in
theorem gL_law_L_where : GoodIn wsL_law (va_wsS RL 128 yL_where wsL_where) := goodIn_app (goodIn_of _ (by decide +kernel)) ggL_law_L_where
set_option maxRecDepth 20000 in
theorem ggL_law_X4_where : GoodIn wsL_law wsX4_where := goodIn_r _ [338, 67, 31, 324, 325, 326, 5, 327, 265, 140, 141, 142, 69, 70, 71, 72, 578, 579, 580, 581, 582, 583, 584, 585, 586, 587, 588, 589, 590, 591, 592] (by decide +kernel) (by decide +kernel)
set_option maxRecDepth 20000 in
theorem gL_law_X4_where : GoodIn wsL_law (wsV RL 130 RX4 yX4_where wsX4_where) := goodIn_app (goodIn_of _ (by decide +kernel)) ggL_law_X4_where
set_option maxRecDepth 20000 in
theorem ggL_law_L_bead : GoodIn wsL_law wsL_bead := goodIn_ca (goodIn_r _ [341, 38, 342, 343, 344, 2, 345, 43, 44, 346, 570, 571, 572, 573, 574, 575, 576, 577] (by decide +kernel) (by decide +kernel)) (goodIn_sub (fun _ h => List.mem_append_left _ (List.mem_append_left _ (List.mem_append_right _ h))) (by decide +kernel))
set_option maxRecDepth 20000 in
theorem gL_law_L_bead : GoodIn wsL_law (va_wsS RL 131 yL_bead wsL_bead) := goodIn_app (goodIn_of _ (by decide +kernel)) ggL_law_L_bead
set_option maxRecDepth 20000 in
theorem ggL_law_X4_bead : GoodIn wsL_law wsX4_bead := goodIn_r _ [350, 67, 351, 32, 69, 70, 71, 5, 72, 578, 579, 580, 581, 582, 583, 584, 585, 586, 587, 588, 589, 590, 591, 592] (by decide +kernel) (by decide +kernel)
set_option maxRecDepth 20000 in
theorem gL_law_X4_bead : GoodIn wsL_law (wsV RL 133 RX4 yX4_bead wsX4_bead) := goodIn_app (goodIn_of _ (by decide +kernel)) ggL_law_X4_bead
set_option maxRecDepth 20000 in
theorem ggL_law_L_set : GoodIn wsL_law wsL_set := goodIn_ca (goodIn_ca (goodIn_ca (goodIn_r _ [354, 80, 81, 38, 355, 356, 357, 2, 358, 86, 87, 88, 89, 43, 44, 17, 316, 317, 318, 319, 16, 359, 360, 361, 362, 346, 363, 364, 365, 97, 98, 99, 366, 367, 368, 226, 369, 260, 370, 371, 372, 373, 374, 375, 376, 377, 378, 570, 571, 572, 573, 574, 575, 576, 577, 599, 600, 601, 602, 603] (by decide +kernel) (by decide +kernel)) (goodIn_sub (fun _ h => List.mem_append_left _ (List.mem_append_right _ h)) (by decide +kernel))) (goodIn_sub (fun _ h => List.mem_append_right _ h) (by decide +kernel))) (goodIn_sub (fun _ h => List.mem_append_left _ (List.mem_append_left _ (List.mem_append_right _ h))) (by decide +kernel))
set_option maxRecDepth 20000 in
theorem gL_law_L_set : GoodIn wsL_law (va_wsS RL 134 yL_set wsL_set) := goodIn_app (goodIn_of _ (by decide +kernel)) ggL_law_L_set
set_option maxRecDepth 20000 in
theorem ggL_law_X4_set : GoodIn wsL_law wsX4_set := goodIn_r _ [382, 67, 32, 31, 33, 383, 384, 385, 5, 386, 351, 140, 141, 142, 324, 325, 326, 327, 265, 69, 70, 71, 72, 387, 388, 389, 390, 578, 579, 580, 581, 582, 583, 584, 585, 586, 587, 588, 589, 590, 591, 592] (by decide +kernel) (by decide +kernel)
set_option maxRecDepth 20000 in
theorem gL_law_X4_set : GoodIn wsL_law (wsV RL 136 RX4 yX4_set wsX4_set) := goodIn_app (goodIn_of _ (by decide +kernel)) ggL_law_X4_set
set_option maxRecDepth 20000 in
theorem ggL_law_L_drop : GoodIn wsL_law wsL_drop := goodIn_ca (goodIn_ca (goodIn_r _ [393, 80, 38, 394, 395, 396, 2, 397, 86, 87, 43, 44, 17, 359, 360, 361, 362, 346, 363, 364, 365, 398, 399, 400, 226, 401, 260, 374, 570, 571, 572, 573, 574, 575, 576, 577, 599, 600, 601, 602, 603] (by decide +kernel) (by decide +kernel)) (goodIn_sub (fun _ h => List.mem_append_left _ (List.mem_append_right _ h)) (by decide +kernel))) (goodIn_sub (fun _ h => List.mem_append_left _ (List.mem_append_left _ (List.mem_append_right _ h))) (by decide +kernel))
set_option maxRecDepth 20000 in
theorem gL_law_L_drop : GoodIn wsL_law (va_wsS RL 137 yL_drop wsL_drop) := goodIn_app (goodIn_of _ (by decide +kernel)) ggL_law_L_drop
set_option maxRecDepth 20000 in
theorem ggL_law_X4_drop : GoodIn wsL_law wsX4_drop := goodIn_r _ [405, 67, 32, 33, 31, 383, 384, 385, 5, 386, 351, 140, 141, 142, 69, 70, 71, 72, 578, 579, 580, 581, 582, 583, 584, 585, 586, 587, 588, 589, 590, 591, 592] (by decide +kernel) (by decide +kernel)
set_option maxRecDepth 20000 in
theorem gL_law_X4_drop : GoodIn wsL_law (wsV RL 139 RX4 yX4_drop wsX4_drop) := goodIn_app (goodIn_of _ (by decide +kernel)) ggL_law_X4_drop
set_option maxRecDepth 20000 in
theorem ggL_law_L_seen : GoodIn wsL_law wsL_seen := goodIn_ca (goodIn_r _ [408, 80, 409, 410, 411, 2, 412, 86, 87, 17, 359, 360, 361, 362, 346, 363, 364, 365, 94, 95, 96, 97, 98, 99, 301, 238, 239, 54, 240, 62, 109, 110, 111, 112, 113, 114, 115, 570, 571, 572, 573, 574, 575, 576, 577, 599, 600, 601, 602, 603, 598] (by decide +kernel) (by decide +kernel)) (goodIn_sub (fun _ h => List.mem_append_left _ (List.mem_append_right _ h)) (by decide +kernel))
set_option maxRecDepth 20000 in
theorem gL_law_L_seen : GoodIn wsL_law (va_wsS RL 140 yL_seen wsL_seen) := goodIn_app (goodIn_of _ (by decide +kernel)) ggL_law_L_seen
set_option maxRecDepth 20000 in
theorem ggL_law_X4_seen : GoodIn wsL_law wsX4_seen := goodIn_r _ [416, 67, 32, 30, 33, 383, 384, 385, 5, 386, 351, 140, 141, 142, 143, 144, 145, 69, 70, 71, 72, 266, 267, 268, 269, 270, 113, 114, 115, 306, 307, 308, 578, 579, 580, 581, 582, 583, 584, 585, 586, 587, 588, 589, 590, 591, 592] (by decide +kernel) (by decide +kernel)
set_option maxRecDepth 20000 in
theorem gL_law_X4_seen : GoodIn wsL_law (wsV RL 142 RX4 yX4_seen wsX4_seen) := goodIn_app (goodIn_of _ (by decide +kernel)) ggL_law_X4_seen
set_option maxRecDepth 20000 in
theorem ggL_law_L_count : GoodIn wsL_law wsL_count := goodIn_ca (goodIn_r _ [419, 80, 420, 421, 422, 2, 423, 86, 87, 424, 425, 426, 427, 120, 45, 224, 346, 428, 429, 430, 431, 14, 432, 433, 434, 435, 17, 436, 437, 438, 439, 440, 441, 442, 443, 444, 250, 251, 54, 252, 62, 237, 238, 239, 240, 109, 110, 111, 112, 113, 114, 115, 445, 446, 447, 448, 570, 571, 572, 573, 574, 575, 576, 577, 593, 594, 595, 596, 597, 599, 600, 601, 602, 603, 598] (by decide +kernel) (by decide +kernel)) (goodIn_sub (fun _ h => List.mem_append_left _ (List.mem_append_right _ h)) (by decide +kernel))
set_option maxRecDepth 20000 in
theorem gL_law_L_count : GoodIn wsL_law (va_wsS RL 143 yL_count wsL_count) := goodIn_app (goodIn_of _ (by decide +kernel)) ggL_law_L_count
set_option maxRecDepth 20000 in
theorem ggL_law_X4_count : GoodIn wsL_law wsX4_count := goodIn_r _ [452, 67, 140, 141, 5, 142, 453, 454, 455, 456, 68, 28, 25, 265, 31, 351, 24, 156, 457, 458, 459, 460, 461, 462, 463, 464, 32, 30, 33, 465, 466, 467, 266, 267, 268, 269, 270, 113, 114, 115, 69, 70, 71, 72, 578, 579, 580, 581, 582, 583, 584, 585, 586, 587, 588, 589, 590, 591, 592] (by decide +kernel) (by decide +kernel)
set_option maxRecDepth 20000 in
theorem gL_law_X4_count : GoodIn wsL_law (wsV RL 145 RX4 yX4_count wsX4_count) := goodIn_app (goodIn_of _ (by decide +kernel)) ggL_law_X4_count
set_option maxRecDepth 20000 in
theorem ggL_law_L_again : GoodIn wsL_law wsL_again := goodIn_ca (goodIn_r _ [470, 80, 471, 472, 473, 2, 474, 86, 87, 90, 91, 92, 93, 14, 297, 298, 299, 47, 300, 56, 227, 228, 229, 230, 182, 444, 250, 251, 54, 252, 62, 237, 238, 239, 240, 109, 110, 111, 112, 113, 114, 115, 593, 594, 595, 596, 597, 570, 571, 572, 573, 574, 575, 576, 577, 598] (by decide +kernel) (by decide +kernel)) (goodIn_sub (fun _ h => List.mem_append_left _ (List.mem_append_right _ h)) (by decide +kernel))
set_option maxRecDepth 20000 in
theorem gL_law_L_again : GoodIn wsL_law (va_wsS RL 146 yL_again wsL_again) := goodIn_app (goodIn_of _ (by decide +kernel)) ggL_law_L_again
set_option maxRecDepth 20000 in
theorem ggL_law_X4_again : GoodIn wsL_law wsX4_again := goodIn_r _ [478, 67, 25, 29, 26, 136, 137, 138, 5, 139, 68, 140, 141, 142, 69, 70, 71, 72, 465, 466, 467, 266, 267, 268, 269, 270, 113, 114, 115, 578, 579, 580, 581, 582, 583, 584, 585, 586, 587, 588, 589, 590, 591, 592] (by decide +kernel) (by decide +kernel)
set_option maxRecDepth 20000 in
theorem gL_law_X4_again : GoodIn wsL_law (wsV RL 148 RX4 yX4_again wsX4_again) := goodIn_app (goodIn_of _ (by decide +kernel)) ggL_law_X4_again
set_option maxRecDepth 20000 in
theorem ggL_law_L_turn : GoodIn wsL_law wsL_turn := goodIn_ca (goodIn_r _ [481, 80, 482, 483, 484, 2, 485, 86, 87, 316, 317, 318, 319, 16, 245, 246, 247, 54, 248, 249, 250, 251, 252, 62, 237, 238, 239, 240, 109, 110, 111, 112, 113, 114, 115, 599, 600, 601, 602, 603, 570, 571, 572, 573, 574, 575, 576, 577, 598] (by decide +kernel) (by decide +kernel)) (goodIn_sub (fun _ h => List.mem_append_left _ (List.mem_append_right _ h)) (by decide +kernel))
set_option maxRecDepth 20000 in
theorem gL_law_L_turn : GoodIn wsL_law (va_wsS RL 149 yL_turn wsL_turn) := goodIn_app (goodIn_of _ (by decide +kernel)) ggL_law_L_turn
set_option maxRecDepth 20000 in
theorem ggL_law_X4_turn : GoodIn wsL_law wsX4_turn := goodIn_r _ [489, 67, 324, 325, 326, 5, 327, 265, 140, 141, 142, 490, 491, 492, 493, 30, 465, 466, 467, 266, 267, 268, 269, 270, 113, 114, 115, 69, 70, 71, 72, 578, 579, 580, 581, 582, 583, 584, 585, 586, 587, 588, 589, 590, 591, 592] (by decide +kernel) (by decide +kernel)
set_option maxRecDepth 20000 in
theorem gL_law_X4_turn : GoodIn wsL_law (wsV RL 151 RX4 yX4_turn wsX4_turn) := goodIn_app (goodIn_of _ (by decide +kernel)) ggL_law_X4_turn
set_option maxRecDepth 20000 in
theorem ggL_law_L_cuts : GoodIn wsL_law wsL_cuts := goodIn_ca (goodIn_r _ [496, 80, 497, 498, 499, 2, 500, 86, 87, 90, 91, 92, 93, 14, 316, 317, 318, 319, 16, 227, 228, 229, 47, 230, 182, 444, 250, 251, 54, 252, 62, 237, 238, 239, 240, 109, 110, 111, 112, 113, 114, 115, 593, 594, 595, 596, 597, 599, 600, 601, 602, 603, 570, 571, 572, 573, 574, 575, 576, 577, 598] (by decide +kernel) (by decide +kernel)) (goodIn_sub (fun _ h => List.mem_append_left _ (List.mem_append_right _ h)) (by decide +kernel))
set_option maxRecDepth 20000 in
theorem gL_law_L_cuts : GoodIn wsL_law (va_wsS RL 152 yL_cuts wsL_cuts) := goodIn_app (goodIn_of _ (by decide +kernel)) ggL_law_L_cuts
set_option maxRecDepth 20000 in
theorem ggL_law_X4_cuts : GoodIn wsL_law wsX4_cuts := goodIn_r _ [504, 67, 25, 29, 26, 30, 136, 137, 138, 5, 139, 68, 140, 141, 142, 324, 325, 326, 327, 265, 69, 70, 71, 72, 465, 466, 467, 266, 267, 268, 269, 270, 113, 114, 115, 578, 579, 580, 581, 582, 583, 584, 585, 586, 587, 588, 589, 590, 591, 592] (by decide +kernel) (by decide +kernel)
set_option maxRecDepth 20000 in
theorem gL_law_X4_cuts : GoodIn wsL_law (wsV RL 154 RX4 yX4_cuts wsX4_cuts) := goodIn_app (goodIn_of _ (by decide +kernel)) ggL_law_X4_cuts
set_option maxRecDepth 20000 in
theorem ggL_law_L_mends : GoodIn wsL_law wsL_mends := goodIn_ca (goodIn_r _ [507, 80, 508, 509, 510, 2, 511, 86, 87, 17, 359, 360, 361, 362, 346, 512, 513, 514, 515, 224, 516, 517, 518, 519, 16, 366, 367, 368, 226, 369, 260, 440, 441, 442, 443, 444, 250, 251, 54, 252, 62, 237, 238, 239, 240, 109, 110, 111, 112, 113, 114, 115, 570, 571, 572, 573, 574, 575, 576, 577, 599, 600, 601, 602, 603, 598] (by decide +kernel) (by decide +kernel)) (goodIn_sub (fun _ h => List.mem_append_left _ (List.mem_append_right _ h)) (by decide +kernel))
set_option maxRecDepth 20000 in
theorem gL_law_L_mends : GoodIn wsL_law (va_wsS RL 155 yL_mends wsL_mends) := goodIn_app (goodIn_of _ (by decide +kernel)) ggL_law_L_mends
set_option maxRecDepth 20000 in
theorem ggL_law_X4_mends : GoodIn wsL_law wsX4_mends := goodIn_r _ [523, 67, 351, 32, 154, 126, 127, 128, 265, 31, 140, 141, 5, 142, 69, 70, 71, 72, 457, 458, 459, 460, 461, 462, 463, 464, 30, 33, 465, 466, 467, 266, 267, 268, 269, 270, 113, 114, 115, 524, 525, 526, 527, 490, 491, 492, 493, 578, 579, 580, 581, 582, 583, 584, 585, 586, 587, 588, 589, 590, 591, 592] (by decide +kernel) (by decide +kernel)
set_option maxRecDepth 20000 in
theorem gL_law_X4_mends : GoodIn wsL_law (wsV RL 157 RX4 yX4_mends wsX4_mends) := goodIn_app (goodIn_of _ (by decide +kernel)) ggL_law_X4_mends
set_option maxRecDepth 20000 in
theorem ggL_law_X3_mean : GoodIn wsL_law wsX3_mean := goodIn_r _ [531, 45, 205, 206, 207, 2, 208, 14, 570, 571, 572, 573, 574, 575, 576, 577, 593, 594, 595, 596, 597] (by decide +kernel) (by decide +kernel)
set_option maxRecDepth 20000 in
theorem gL_law_X3_mean : GoodIn wsL_law (wsV RL 158 RX3 yX3_mean wsX3_mean) := goodIn_app (goodIn_of _ (by decide +kernel)) ggL_law_X3_mean
set_option maxRecDepth 20000 in
theorem ggL_law_X4_mean : GoodIn wsL_law wsX4_mean := goodIn_r _ [535, 67, 68, 213, 214, 215, 5, 216, 27, 578, 579, 580, 581, 582, 583, 584, 585, 586, 587, 588, 589, 590, 591, 592] (by decide +kernel) (by decide +kernel)
set_option maxRecDepth 20000 in
theorem gL_law_X4_mean : GoodIn wsL_law (wsV RL 162 RX4 yX4_mean wsX4_mean) := goodIn_app (goodIn_of _ (by decide +kernel)) ggL_law_X4_mean
set_option maxRecDepth 20000 in
theorem ggL_law_X3_digest : GoodIn wsL_law wsX3_digest := goodIn_r _ [539, 540, 424, 425, 426, 2, 427, 120, 45, 224, 346, 428, 429, 430, 431, 14, 432, 433, 434, 435, 17, 436, 437, 438, 439, 440, 441, 442, 443, 444, 250, 251, 54, 252, 62, 237, 238, 239, 240, 109, 110, 111, 112, 113, 114, 115, 445, 446, 447, 448, 541, 542, 543, 544, 545, 546, 547, 548, 18, 278, 279, 280, 47, 281, 56, 182, 57, 104, 549, 550, 551, 552, 553, 554, 555, 16, 556, 557, 558, 559, 570, 571, 572, 573, 574, 575, 576, 577, 593, 594, 595, 596, 597, 599, 600, 601, 602, 603, 598] (by decide +kernel) (by decide +kernel)
set_option maxRecDepth 20000 in
theorem gL_law_X3_digest : GoodIn wsL_law (wsV RL 163 RX3 yX3_digest wsX3_digest) := goodIn_app (goodIn_of _ (by decide +kernel)) ggL_law_X3_digest
set_option maxRecDepth 20000 in
theorem ggL_law_X4_digest : GoodIn wsL_law wsX4_digest := goodIn_r _ [563, 67, 564, 565, 68, 29, 265, 30, 31, 351, 32, 33, 453, 454, 455, 5, 456, 28, 25, 24, 156, 457, 458, 459, 460, 461, 462, 463, 464, 465, 466, 467, 266, 267, 268, 269, 270, 113, 114, 115, 286, 287, 288, 289, 26, 27, 23, 566, 567, 568, 569, 306, 307, 308, 578, 579, 580, 581, 582, 583, 584, 585, 586, 587, 588, 589, 590, 591, 592] (by decide +kernel) (by decide +kernel)
set_option maxRecDepth 20000 in
theorem gL_law_X4_digest : GoodIn wsL_law (wsV RL 167 RX4 yX4_digest wsX4_digest) := goodIn_app (goodIn_of _ (by decide +kernel)) ggL_law_X4_digest
end
section
theorem dL_law_0 : decode cL_law 0 = .ok (.new 8, 3) := by decide +kernel
theorem dL_law_3 : decode cL_law 3 = .ok (.dup, 1) := by decide +kernel
theorem dL_law_4 : decode cL_law 4 = .ok (.invokespecial 83, 3) := by decide +kernel
theorem dL_law_7 : decode cL_law 7 = .ok (.astore_n 1, 1) := by decide +kernel
theorem dL_law_8 : decode cL_law 8 = .ok (.new 84, 3) := by decide +kernel
theorem dL_law_11 : decode cL_law 11 = .ok (.dup, 1) := by decide +kernel
theorem dL_law_12 : decode cL_law 12 = .ok (.invokespecial 86, 3) := by decide +kernel
theorem dL_law_15 : decode cL_law 15 = .ok (.astore_n 2, 1) := by decide +kernel
theorem dL_law_16 : decode cL_law 16 = .ok (.iconst 1, 1) := by decide +kernel
theorem dL_law_17 : decode cL_law 17 = .ok (.newarray .long, 2) := by decide +kernel
theorem dL_law_19 : decode cL_law 19 = .ok (.astore_n 3, 1) := by decide +kernel
theorem dL_law_20 : decode cL_law 20 = .ok (.iconst 0, 1) := by decide +kernel
theorem dL_law_21 : decode cL_law 21 = .ok (.istore 4, 2) := by decide +kernel
theorem dL_law_23 : decode cL_law 23 = .ok (.iload 4, 2) := by decide +kernel
theorem dL_law_25 : decode cL_law 25 = .ok (.aload_n 0, 1) := by decide +kernel
theorem dL_law_26 : decode cL_law 26 = .ok (.arraylength, 1) := by decide +kernel
theorem dL_law_27 : decode cL_law 27 = .ok (.bipush 6, 2) := by decide +kernel
theorem dL_law_29 : decode cL_law 29 = .ok (.isub, 1) := by decide +kernel
theorem dL_law_30 : decode cL_law 30 = .ok (.if_icmp .gt 1544, 3) := by decide +kernel
theorem dL_law_33 : decode cL_law 33 = .ok (.aload_n 0, 1) := by decide +kernel
theorem dL_law_34 : decode cL_law 34 = .ok (.iload 4, 2) := by decide +kernel
theorem dL_law_36 : decode cL_law 36 = .ok (.iaload, 1) := by decide +kernel
theorem dL_law_37 : decode cL_law 37 = .ok (.bipush 31, 2) := by decide +kernel
theorem dL_law_39 : decode cL_law 39 = .ok (.iand, 1) := by decide +kernel
theorem dL_law_40 : decode cL_law 40 = .ok (.tableswitch 1528 0 21 #[104, 148, 259, 334, 397, 453, 509, 565, 633, 725, 805, 861, 905, 997, 1065, 1157, 1213, 1281, 1349, 1417, 1473, 1514], 104) := by decide +kernel
theorem dL_law_144 : decode cL_law 144 = .ok (.aload_n 1, 1) := by decide +kernel
theorem dL_law_145 : decode cL_law 145 = .ok (.aload_n 3, 1) := by decide +kernel
theorem dL_law_146 : decode cL_law 146 = .ok (.invokestatic 87, 3) := by decide +kernel
theorem dL_law_149 : decode cL_law 149 = .ok (.istore 5, 2) := by decide +kernel
theorem dL_law_151 : decode cL_law 151 = .ok (.aload_n 2, 1) := by decide +kernel
theorem dL_law_152 : decode cL_law 152 = .ok (.invokevirtual 92, 3) := by decide +kernel
theorem dL_law_155 : decode cL_law 155 = .ok (.istore 6, 2) := by decide +kernel
theorem dL_law_157 : decode cL_law 157 = .ok (.aload_n 2, 1) := by decide +kernel
theorem dL_law_158 : decode cL_law 158 = .ok (.invokevirtual 93, 3) := by decide +kernel
theorem dL_law_161 : decode cL_law 161 = .ok (.iload 5, 2) := by decide +kernel
theorem dL_law_163 : decode cL_law 163 = .ok (.if_icmp .eq 5, 3) := by decide +kernel
theorem dL_law_166 : decode cL_law 166 = .ok (.iconst 0, 1) := by decide +kernel
theorem dL_law_167 : decode cL_law 167 = .ok (.ireturn, 1) := by decide +kernel
theorem dL_law_168 : decode cL_law 168 = .ok (.iload 5, 2) := by decide +kernel
theorem dL_law_170 : decode cL_law 170 = .ok (.ifCond .ne 15, 3) := by decide +kernel
theorem dL_law_173 : decode cL_law 173 = .ok (.aload_n 3, 1) := by decide +kernel
theorem dL_law_174 : decode cL_law 174 = .ok (.iconst 0, 1) := by decide +kernel
theorem dL_law_175 : decode cL_law 175 = .ok (.laload, 1) := by decide +kernel
theorem dL_law_176 : decode cL_law 176 = .ok (.iload 6, 2) := by decide +kernel
theorem dL_law_178 : decode cL_law 178 = .ok (.i2l, 1) := by decide +kernel
theorem dL_law_179 : decode cL_law 179 = .ok (.lcmp, 1) := by decide +kernel
theorem dL_law_180 : decode cL_law 180 = .ok (.ifCond .eq 5, 3) := by decide +kernel
theorem dL_law_183 : decode cL_law 183 = .ok (.iconst 0, 1) := by decide +kernel
theorem dL_law_184 : decode cL_law 184 = .ok (.ireturn, 1) := by decide +kernel
theorem dL_law_185 : decode cL_law 185 = .ok (.goto 1383, 3) := by decide +kernel
theorem dL_law_188 : decode cL_law 188 = .ok (.aload_n 1, 1) := by decide +kernel
theorem dL_law_189 : decode cL_law 189 = .ok (.aload_n 0, 1) := by decide +kernel
theorem dL_law_190 : decode cL_law 190 = .ok (.iload 4, 2) := by decide +kernel
theorem dL_law_192 : decode cL_law 192 = .ok (.iconst 1, 1) := by decide +kernel
theorem dL_law_193 : decode cL_law 193 = .ok (.iadd, 1) := by decide +kernel
theorem dL_law_194 : decode cL_law 194 = .ok (.iaload, 1) := by decide +kernel
theorem dL_law_195 : decode cL_law 195 = .ok (.aload_n 0, 1) := by decide +kernel
theorem dL_law_196 : decode cL_law 196 = .ok (.iload 4, 2) := by decide +kernel
theorem dL_law_198 : decode cL_law 198 = .ok (.iconst 2, 1) := by decide +kernel
theorem dL_law_199 : decode cL_law 199 = .ok (.iadd, 1) := by decide +kernel
theorem dL_law_200 : decode cL_law 200 = .ok (.iaload, 1) := by decide +kernel
theorem dL_law_201 : decode cL_law 201 = .ok (.aload_n 0, 1) := by decide +kernel
theorem dL_law_202 : decode cL_law 202 = .ok (.iload 4, 2) := by decide +kernel
theorem dL_law_204 : decode cL_law 204 = .ok (.iconst 3, 1) := by decide +kernel
theorem dL_law_205 : decode cL_law 205 = .ok (.iadd, 1) := by decide +kernel
theorem dL_law_206 : decode cL_law 206 = .ok (.iaload, 1) := by decide +kernel
theorem dL_law_207 : decode cL_law 207 = .ok (.aload_n 0, 1) := by decide +kernel
theorem dL_law_208 : decode cL_law 208 = .ok (.iload 4, 2) := by decide +kernel
theorem dL_law_210 : decode cL_law 210 = .ok (.iconst 4, 1) := by decide +kernel
theorem dL_law_211 : decode cL_law 211 = .ok (.iadd, 1) := by decide +kernel
theorem dL_law_212 : decode cL_law 212 = .ok (.iaload, 1) := by decide +kernel
theorem dL_law_213 : decode cL_law 213 = .ok (.aload_n 0, 1) := by decide +kernel
theorem dL_law_214 : decode cL_law 214 = .ok (.iload 4, 2) := by decide +kernel
theorem dL_law_216 : decode cL_law 216 = .ok (.iconst 5, 1) := by decide +kernel
theorem dL_law_217 : decode cL_law 217 = .ok (.iadd, 1) := by decide +kernel
theorem dL_law_218 : decode cL_law 218 = .ok (.iaload, 1) := by decide +kernel
theorem dL_law_219 : decode cL_law 219 = .ok (.aload_n 3, 1) := by decide +kernel
theorem dL_law_220 : decode cL_law 220 = .ok (.invokestatic 96, 3) := by decide +kernel
theorem dL_law_223 : decode cL_law 223 = .ok (.istore 5, 2) := by decide +kernel
theorem dL_law_225 : decode cL_law 225 = .ok (.aload_n 2, 1) := by decide +kernel
theorem dL_law_226 : decode cL_law 226 = .ok (.aload_n 0, 1) := by decide +kernel
theorem dL_law_227 : decode cL_law 227 = .ok (.iload 4, 2) := by decide +kernel
theorem dL_law_229 : decode cL_law 229 = .ok (.iconst 1, 1) := by decide +kernel
theorem dL_law_230 : decode cL_law 230 = .ok (.iadd, 1) := by decide +kernel
theorem dL_law_231 : decode cL_law 231 = .ok (.iaload, 1) := by decide +kernel
theorem dL_law_232 : decode cL_law 232 = .ok (.aload_n 0, 1) := by decide +kernel
theorem dL_law_233 : decode cL_law 233 = .ok (.iload 4, 2) := by decide +kernel
theorem dL_law_235 : decode cL_law 235 = .ok (.iconst 2, 1) := by decide +kernel
theorem dL_law_236 : decode cL_law 236 = .ok (.iadd, 1) := by decide +kernel
theorem dL_law_237 : decode cL_law 237 = .ok (.iaload, 1) := by decide +kernel
theorem dL_law_238 : decode cL_law 238 = .ok (.aload_n 0, 1) := by decide +kernel
theorem dL_law_239 : decode cL_law 239 = .ok (.iload 4, 2) := by decide +kernel
theorem dL_law_241 : decode cL_law 241 = .ok (.iconst 3, 1) := by decide +kernel
theorem dL_law_242 : decode cL_law 242 = .ok (.iadd, 1) := by decide +kernel
theorem dL_law_243 : decode cL_law 243 = .ok (.iaload, 1) := by decide +kernel
theorem dL_law_244 : decode cL_law 244 = .ok (.aload_n 0, 1) := by decide +kernel
theorem dL_law_245 : decode cL_law 245 = .ok (.iload 4, 2) := by decide +kernel
theorem dL_law_247 : decode cL_law 247 = .ok (.iconst 4, 1) := by decide +kernel
theorem dL_law_248 : decode cL_law 248 = .ok (.iadd, 1) := by decide +kernel
theorem dL_law_249 : decode cL_law 249 = .ok (.iaload, 1) := by decide +kernel
theorem dL_law_250 : decode cL_law 250 = .ok (.aload_n 0, 1) := by decide +kernel
theorem dL_law_251 : decode cL_law 251 = .ok (.iload 4, 2) := by decide +kernel
theorem dL_law_253 : decode cL_law 253 = .ok (.iconst 5, 1) := by decide +kernel
theorem dL_law_254 : decode cL_law 254 = .ok (.iadd, 1) := by decide +kernel
theorem dL_law_255 : decode cL_law 255 = .ok (.iaload, 1) := by decide +kernel
theorem dL_law_256 : decode cL_law 256 = .ok (.invokevirtual 99, 3) := by decide +kernel
theorem dL_law_259 : decode cL_law 259 = .ok (.istore 6, 2) := by decide +kernel
theorem dL_law_261 : decode cL_law 261 = .ok (.aload_n 2, 1) := by decide +kernel
theorem dL_law_262 : decode cL_law 262 = .ok (.invokevirtual 93, 3) := by decide +kernel
theorem dL_law_265 : decode cL_law 265 = .ok (.iload 5, 2) := by decide +kernel
theorem dL_law_267 : decode cL_law 267 = .ok (.if_icmp .eq 5, 3) := by decide +kernel
theorem dL_law_270 : decode cL_law 270 = .ok (.iconst 0, 1) := by decide +kernel
theorem dL_law_271 : decode cL_law 271 = .ok (.ireturn, 1) := by decide +kernel
theorem dL_law_272 : decode cL_law 272 = .ok (.iload 5, 2) := by decide +kernel
theorem dL_law_274 : decode cL_law 274 = .ok (.ifCond .ne 22, 3) := by decide +kernel
theorem dL_law_277 : decode cL_law 277 = .ok (.aload_n 3, 1) := by decide +kernel
theorem dL_law_278 : decode cL_law 278 = .ok (.iconst 0, 1) := by decide +kernel
theorem dL_law_279 : decode cL_law 279 = .ok (.laload, 1) := by decide +kernel
theorem dL_law_280 : decode cL_law 280 = .ok (.iload 6, 2) := by decide +kernel
theorem dL_law_282 : decode cL_law 282 = .ok (.ifCond .eq 7, 3) := by decide +kernel
theorem dL_law_285 : decode cL_law 285 = .ok (.lconst 1, 1) := by decide +kernel
theorem dL_law_286 : decode cL_law 286 = .ok (.goto 4, 3) := by decide +kernel
theorem dL_law_289 : decode cL_law 289 = .ok (.lconst 0, 1) := by decide +kernel
theorem dL_law_290 : decode cL_law 290 = .ok (.lcmp, 1) := by decide +kernel
theorem dL_law_291 : decode cL_law 291 = .ok (.ifCond .eq 5, 3) := by decide +kernel
theorem dL_law_294 : decode cL_law 294 = .ok (.iconst 0, 1) := by decide +kernel
theorem dL_law_295 : decode cL_law 295 = .ok (.ireturn, 1) := by decide +kernel
theorem dL_law_296 : decode cL_law 296 = .ok (.goto 1272, 3) := by decide +kernel
theorem dL_law_299 : decode cL_law 299 = .ok (.aload_n 1, 1) := by decide +kernel
theorem dL_law_300 : decode cL_law 300 = .ok (.aload_n 0, 1) := by decide +kernel
theorem dL_law_301 : decode cL_law 301 = .ok (.iload 4, 2) := by decide +kernel
theorem dL_law_303 : decode cL_law 303 = .ok (.iconst 1, 1) := by decide +kernel
theorem dL_law_304 : decode cL_law 304 = .ok (.iadd, 1) := by decide +kernel
theorem dL_law_305 : decode cL_law 305 = .ok (.iaload, 1) := by decide +kernel
theorem dL_law_306 : decode cL_law 306 = .ok (.aload_n 0, 1) := by decide +kernel
theorem dL_law_307 : decode cL_law 307 = .ok (.iload 4, 2) := by decide +kernel
theorem dL_law_309 : decode cL_law 309 = .ok (.iconst 2, 1) := by decide +kernel
theorem dL_law_310 : decode cL_law 310 = .ok (.iadd, 1) := by decide +kernel
theorem dL_law_311 : decode cL_law 311 = .ok (.iaload, 1) := by decide +kernel
theorem dL_law_312 : decode cL_law 312 = .ok (.aload_n 3, 1) := by decide +kernel
theorem dL_law_313 : decode cL_law 313 = .ok (.invokestatic 100, 3) := by decide +kernel
theorem dL_law_316 : decode cL_law 316 = .ok (.istore 5, 2) := by decide +kernel
theorem dL_law_318 : decode cL_law 318 = .ok (.aload_n 2, 1) := by decide +kernel
theorem dL_law_319 : decode cL_law 319 = .ok (.aload_n 0, 1) := by decide +kernel
theorem dL_law_320 : decode cL_law 320 = .ok (.iload 4, 2) := by decide +kernel
theorem dL_law_322 : decode cL_law 322 = .ok (.iconst 1, 1) := by decide +kernel
theorem dL_law_323 : decode cL_law 323 = .ok (.iadd, 1) := by decide +kernel
theorem dL_law_324 : decode cL_law 324 = .ok (.iaload, 1) := by decide +kernel
theorem dL_law_325 : decode cL_law 325 = .ok (.aload_n 0, 1) := by decide +kernel
theorem dL_law_326 : decode cL_law 326 = .ok (.iload 4, 2) := by decide +kernel
theorem dL_law_328 : decode cL_law 328 = .ok (.iconst 2, 1) := by decide +kernel
theorem dL_law_329 : decode cL_law 329 = .ok (.iadd, 1) := by decide +kernel
theorem dL_law_330 : decode cL_law 330 = .ok (.iaload, 1) := by decide +kernel
theorem dL_law_331 : decode cL_law 331 = .ok (.invokevirtual 103, 3) := by decide +kernel
theorem dL_law_334 : decode cL_law 334 = .ok (.istore 6, 2) := by decide +kernel
theorem dL_law_336 : decode cL_law 336 = .ok (.aload_n 2, 1) := by decide +kernel
theorem dL_law_337 : decode cL_law 337 = .ok (.invokevirtual 93, 3) := by decide +kernel
theorem dL_law_340 : decode cL_law 340 = .ok (.iload 5, 2) := by decide +kernel
theorem dL_law_342 : decode cL_law 342 = .ok (.if_icmp .eq 5, 3) := by decide +kernel
theorem dL_law_345 : decode cL_law 345 = .ok (.iconst 0, 1) := by decide +kernel
theorem dL_law_346 : decode cL_law 346 = .ok (.ireturn, 1) := by decide +kernel
theorem dL_law_347 : decode cL_law 347 = .ok (.iload 5, 2) := by decide +kernel
theorem dL_law_349 : decode cL_law 349 = .ok (.ifCond .ne 22, 3) := by decide +kernel
theorem dL_law_352 : decode cL_law 352 = .ok (.aload_n 3, 1) := by decide +kernel
theorem dL_law_353 : decode cL_law 353 = .ok (.iconst 0, 1) := by decide +kernel
theorem dL_law_354 : decode cL_law 354 = .ok (.laload, 1) := by decide +kernel
theorem dL_law_355 : decode cL_law 355 = .ok (.iload 6, 2) := by decide +kernel
theorem dL_law_357 : decode cL_law 357 = .ok (.ifCond .eq 7, 3) := by decide +kernel
theorem dL_law_360 : decode cL_law 360 = .ok (.lconst 1, 1) := by decide +kernel
theorem dL_law_361 : decode cL_law 361 = .ok (.goto 4, 3) := by decide +kernel
theorem dL_law_364 : decode cL_law 364 = .ok (.lconst 0, 1) := by decide +kernel
theorem dL_law_365 : decode cL_law 365 = .ok (.lcmp, 1) := by decide +kernel
theorem dL_law_366 : decode cL_law 366 = .ok (.ifCond .eq 5, 3) := by decide +kernel
theorem dL_law_369 : decode cL_law 369 = .ok (.iconst 0, 1) := by decide +kernel
theorem dL_law_370 : decode cL_law 370 = .ok (.ireturn, 1) := by decide +kernel
theorem dL_law_371 : decode cL_law 371 = .ok (.goto 1197, 3) := by decide +kernel
theorem dL_law_374 : decode cL_law 374 = .ok (.aload_n 1, 1) := by decide +kernel
theorem dL_law_375 : decode cL_law 375 = .ok (.aload_n 0, 1) := by decide +kernel
theorem dL_law_376 : decode cL_law 376 = .ok (.iload 4, 2) := by decide +kernel
theorem dL_law_378 : decode cL_law 378 = .ok (.iconst 1, 1) := by decide +kernel
theorem dL_law_379 : decode cL_law 379 = .ok (.iadd, 1) := by decide +kernel
theorem dL_law_380 : decode cL_law 380 = .ok (.iaload, 1) := by decide +kernel
theorem dL_law_381 : decode cL_law 381 = .ok (.aload_n 3, 1) := by decide +kernel
theorem dL_law_382 : decode cL_law 382 = .ok (.invokestatic 104, 3) := by decide +kernel
theorem dL_law_385 : decode cL_law 385 = .ok (.istore 5, 2) := by decide +kernel
theorem dL_law_387 : decode cL_law 387 = .ok (.aload_n 2, 1) := by decide +kernel
theorem dL_law_388 : decode cL_law 388 = .ok (.aload_n 0, 1) := by decide +kernel
theorem dL_law_389 : decode cL_law 389 = .ok (.iload 4, 2) := by decide +kernel
theorem dL_law_391 : decode cL_law 391 = .ok (.iconst 1, 1) := by decide +kernel
theorem dL_law_392 : decode cL_law 392 = .ok (.iadd, 1) := by decide +kernel
theorem dL_law_393 : decode cL_law 393 = .ok (.iaload, 1) := by decide +kernel
theorem dL_law_394 : decode cL_law 394 = .ok (.invokevirtual 107, 3) := by decide +kernel
theorem dL_law_397 : decode cL_law 397 = .ok (.istore 6, 2) := by decide +kernel
theorem dL_law_399 : decode cL_law 399 = .ok (.aload_n 2, 1) := by decide +kernel
theorem dL_law_400 : decode cL_law 400 = .ok (.invokevirtual 93, 3) := by decide +kernel
theorem dL_law_403 : decode cL_law 403 = .ok (.iload 5, 2) := by decide +kernel
theorem dL_law_405 : decode cL_law 405 = .ok (.if_icmp .eq 5, 3) := by decide +kernel
theorem dL_law_408 : decode cL_law 408 = .ok (.iconst 0, 1) := by decide +kernel
theorem dL_law_409 : decode cL_law 409 = .ok (.ireturn, 1) := by decide +kernel
theorem dL_law_410 : decode cL_law 410 = .ok (.iload 5, 2) := by decide +kernel
theorem dL_law_412 : decode cL_law 412 = .ok (.ifCond .ne 22, 3) := by decide +kernel
theorem dL_law_415 : decode cL_law 415 = .ok (.aload_n 3, 1) := by decide +kernel
theorem dL_law_416 : decode cL_law 416 = .ok (.iconst 0, 1) := by decide +kernel
theorem dL_law_417 : decode cL_law 417 = .ok (.laload, 1) := by decide +kernel
theorem dL_law_418 : decode cL_law 418 = .ok (.iload 6, 2) := by decide +kernel
theorem dL_law_420 : decode cL_law 420 = .ok (.ifCond .eq 7, 3) := by decide +kernel
theorem dL_law_423 : decode cL_law 423 = .ok (.lconst 1, 1) := by decide +kernel
theorem dL_law_424 : decode cL_law 424 = .ok (.goto 4, 3) := by decide +kernel
theorem dL_law_427 : decode cL_law 427 = .ok (.lconst 0, 1) := by decide +kernel
theorem dL_law_428 : decode cL_law 428 = .ok (.lcmp, 1) := by decide +kernel
theorem dL_law_429 : decode cL_law 429 = .ok (.ifCond .eq 5, 3) := by decide +kernel
theorem dL_law_432 : decode cL_law 432 = .ok (.iconst 0, 1) := by decide +kernel
theorem dL_law_433 : decode cL_law 433 = .ok (.ireturn, 1) := by decide +kernel
theorem dL_law_434 : decode cL_law 434 = .ok (.goto 1134, 3) := by decide +kernel
theorem dL_law_437 : decode cL_law 437 = .ok (.aload_n 1, 1) := by decide +kernel
theorem dL_law_438 : decode cL_law 438 = .ok (.aload_n 0, 1) := by decide +kernel
theorem dL_law_439 : decode cL_law 439 = .ok (.iload 4, 2) := by decide +kernel
theorem dL_law_441 : decode cL_law 441 = .ok (.iconst 1, 1) := by decide +kernel
theorem dL_law_442 : decode cL_law 442 = .ok (.iadd, 1) := by decide +kernel
theorem dL_law_443 : decode cL_law 443 = .ok (.iaload, 1) := by decide +kernel
theorem dL_law_444 : decode cL_law 444 = .ok (.aload_n 3, 1) := by decide +kernel
theorem dL_law_445 : decode cL_law 445 = .ok (.invokestatic 108, 3) := by decide +kernel
theorem dL_law_448 : decode cL_law 448 = .ok (.istore 5, 2) := by decide +kernel
theorem dL_law_450 : decode cL_law 450 = .ok (.aload_n 2, 1) := by decide +kernel
theorem dL_law_451 : decode cL_law 451 = .ok (.aload_n 0, 1) := by decide +kernel
theorem dL_law_452 : decode cL_law 452 = .ok (.iload 4, 2) := by decide +kernel
theorem dL_law_454 : decode cL_law 454 = .ok (.iconst 1, 1) := by decide +kernel
theorem dL_law_455 : decode cL_law 455 = .ok (.iadd, 1) := by decide +kernel
theorem dL_law_456 : decode cL_law 456 = .ok (.iaload, 1) := by decide +kernel
theorem dL_law_457 : decode cL_law 457 = .ok (.invokevirtual 110, 3) := by decide +kernel
theorem dL_law_460 : decode cL_law 460 = .ok (.istore 6, 2) := by decide +kernel
theorem dL_law_462 : decode cL_law 462 = .ok (.aload_n 2, 1) := by decide +kernel
theorem dL_law_463 : decode cL_law 463 = .ok (.invokevirtual 93, 3) := by decide +kernel
theorem dL_law_466 : decode cL_law 466 = .ok (.iload 5, 2) := by decide +kernel
theorem dL_law_468 : decode cL_law 468 = .ok (.if_icmp .eq 5, 3) := by decide +kernel
theorem dL_law_471 : decode cL_law 471 = .ok (.iconst 0, 1) := by decide +kernel
theorem dL_law_472 : decode cL_law 472 = .ok (.ireturn, 1) := by decide +kernel
theorem dL_law_473 : decode cL_law 473 = .ok (.iload 5, 2) := by decide +kernel
theorem dL_law_475 : decode cL_law 475 = .ok (.ifCond .ne 15, 3) := by decide +kernel
theorem dL_law_478 : decode cL_law 478 = .ok (.aload_n 3, 1) := by decide +kernel
theorem dL_law_479 : decode cL_law 479 = .ok (.iconst 0, 1) := by decide +kernel
theorem dL_law_480 : decode cL_law 480 = .ok (.laload, 1) := by decide +kernel
theorem dL_law_481 : decode cL_law 481 = .ok (.iload 6, 2) := by decide +kernel
theorem dL_law_483 : decode cL_law 483 = .ok (.i2l, 1) := by decide +kernel
theorem dL_law_484 : decode cL_law 484 = .ok (.lcmp, 1) := by decide +kernel
theorem dL_law_485 : decode cL_law 485 = .ok (.ifCond .eq 5, 3) := by decide +kernel
theorem dL_law_488 : decode cL_law 488 = .ok (.iconst 0, 1) := by decide +kernel
theorem dL_law_489 : decode cL_law 489 = .ok (.ireturn, 1) := by decide +kernel
theorem dL_law_490 : decode cL_law 490 = .ok (.goto 1078, 3) := by decide +kernel
theorem dL_law_493 : decode cL_law 493 = .ok (.aload_n 1, 1) := by decide +kernel
theorem dL_law_494 : decode cL_law 494 = .ok (.aload_n 0, 1) := by decide +kernel
theorem dL_law_495 : decode cL_law 495 = .ok (.iload 4, 2) := by decide +kernel
theorem dL_law_497 : decode cL_law 497 = .ok (.iconst 1, 1) := by decide +kernel
theorem dL_law_498 : decode cL_law 498 = .ok (.iadd, 1) := by decide +kernel
theorem dL_law_499 : decode cL_law 499 = .ok (.iaload, 1) := by decide +kernel
theorem dL_law_500 : decode cL_law 500 = .ok (.aload_n 3, 1) := by decide +kernel
theorem dL_law_501 : decode cL_law 501 = .ok (.invokestatic 111, 3) := by decide +kernel
theorem dL_law_504 : decode cL_law 504 = .ok (.istore 5, 2) := by decide +kernel
theorem dL_law_506 : decode cL_law 506 = .ok (.aload_n 2, 1) := by decide +kernel
theorem dL_law_507 : decode cL_law 507 = .ok (.aload_n 0, 1) := by decide +kernel
theorem dL_law_508 : decode cL_law 508 = .ok (.iload 4, 2) := by decide +kernel
theorem dL_law_510 : decode cL_law 510 = .ok (.iconst 1, 1) := by decide +kernel
theorem dL_law_511 : decode cL_law 511 = .ok (.iadd, 1) := by decide +kernel
theorem dL_law_512 : decode cL_law 512 = .ok (.iaload, 1) := by decide +kernel
theorem dL_law_513 : decode cL_law 513 = .ok (.invokevirtual 113, 3) := by decide +kernel
theorem dL_law_516 : decode cL_law 516 = .ok (.istore 6, 2) := by decide +kernel
theorem dL_law_518 : decode cL_law 518 = .ok (.aload_n 2, 1) := by decide +kernel
theorem dL_law_519 : decode cL_law 519 = .ok (.invokevirtual 93, 3) := by decide +kernel
theorem dL_law_522 : decode cL_law 522 = .ok (.iload 5, 2) := by decide +kernel
theorem dL_law_524 : decode cL_law 524 = .ok (.if_icmp .eq 5, 3) := by decide +kernel
theorem dL_law_527 : decode cL_law 527 = .ok (.iconst 0, 1) := by decide +kernel
theorem dL_law_528 : decode cL_law 528 = .ok (.ireturn, 1) := by decide +kernel
theorem dL_law_529 : decode cL_law 529 = .ok (.iload 5, 2) := by decide +kernel
theorem dL_law_531 : decode cL_law 531 = .ok (.ifCond .ne 15, 3) := by decide +kernel
theorem dL_law_534 : decode cL_law 534 = .ok (.aload_n 3, 1) := by decide +kernel
theorem dL_law_535 : decode cL_law 535 = .ok (.iconst 0, 1) := by decide +kernel
theorem dL_law_536 : decode cL_law 536 = .ok (.laload, 1) := by decide +kernel
theorem dL_law_537 : decode cL_law 537 = .ok (.iload 6, 2) := by decide +kernel
theorem dL_law_539 : decode cL_law 539 = .ok (.i2l, 1) := by decide +kernel
theorem dL_law_540 : decode cL_law 540 = .ok (.lcmp, 1) := by decide +kernel
theorem dL_law_541 : decode cL_law 541 = .ok (.ifCond .eq 5, 3) := by decide +kernel
theorem dL_law_544 : decode cL_law 544 = .ok (.iconst 0, 1) := by decide +kernel
theorem dL_law_545 : decode cL_law 545 = .ok (.ireturn, 1) := by decide +kernel
theorem dL_law_546 : decode cL_law 546 = .ok (.goto 1022, 3) := by decide +kernel
theorem dL_law_549 : decode cL_law 549 = .ok (.aload_n 1, 1) := by decide +kernel
theorem dL_law_550 : decode cL_law 550 = .ok (.aload_n 0, 1) := by decide +kernel
theorem dL_law_551 : decode cL_law 551 = .ok (.iload 4, 2) := by decide +kernel
theorem dL_law_553 : decode cL_law 553 = .ok (.iconst 1, 1) := by decide +kernel
theorem dL_law_554 : decode cL_law 554 = .ok (.iadd, 1) := by decide +kernel
theorem dL_law_555 : decode cL_law 555 = .ok (.iaload, 1) := by decide +kernel
theorem dL_law_556 : decode cL_law 556 = .ok (.aload_n 3, 1) := by decide +kernel
theorem dL_law_557 : decode cL_law 557 = .ok (.invokestatic 114, 3) := by decide +kernel
theorem dL_law_560 : decode cL_law 560 = .ok (.istore 5, 2) := by decide +kernel
theorem dL_law_562 : decode cL_law 562 = .ok (.aload_n 2, 1) := by decide +kernel
theorem dL_law_563 : decode cL_law 563 = .ok (.aload_n 0, 1) := by decide +kernel
theorem dL_law_564 : decode cL_law 564 = .ok (.iload 4, 2) := by decide +kernel
theorem dL_law_566 : decode cL_law 566 = .ok (.iconst 1, 1) := by decide +kernel
theorem dL_law_567 : decode cL_law 567 = .ok (.iadd, 1) := by decide +kernel
theorem dL_law_568 : decode cL_law 568 = .ok (.iaload, 1) := by decide +kernel
theorem dL_law_569 : decode cL_law 569 = .ok (.invokevirtual 116, 3) := by decide +kernel
theorem dL_law_572 : decode cL_law 572 = .ok (.istore 6, 2) := by decide +kernel
theorem dL_law_574 : decode cL_law 574 = .ok (.aload_n 2, 1) := by decide +kernel
theorem dL_law_575 : decode cL_law 575 = .ok (.invokevirtual 93, 3) := by decide +kernel
theorem dL_law_578 : decode cL_law 578 = .ok (.iload 5, 2) := by decide +kernel
theorem dL_law_580 : decode cL_law 580 = .ok (.if_icmp .eq 5, 3) := by decide +kernel
theorem dL_law_583 : decode cL_law 583 = .ok (.iconst 0, 1) := by decide +kernel
theorem dL_law_584 : decode cL_law 584 = .ok (.ireturn, 1) := by decide +kernel
theorem dL_law_585 : decode cL_law 585 = .ok (.iload 5, 2) := by decide +kernel
theorem dL_law_587 : decode cL_law 587 = .ok (.ifCond .ne 15, 3) := by decide +kernel
theorem dL_law_590 : decode cL_law 590 = .ok (.aload_n 3, 1) := by decide +kernel
theorem dL_law_591 : decode cL_law 591 = .ok (.iconst 0, 1) := by decide +kernel
theorem dL_law_592 : decode cL_law 592 = .ok (.laload, 1) := by decide +kernel
theorem dL_law_593 : decode cL_law 593 = .ok (.iload 6, 2) := by decide +kernel
theorem dL_law_595 : decode cL_law 595 = .ok (.i2l, 1) := by decide +kernel
theorem dL_law_596 : decode cL_law 596 = .ok (.lcmp, 1) := by decide +kernel
theorem dL_law_597 : decode cL_law 597 = .ok (.ifCond .eq 5, 3) := by decide +kernel
theorem dL_law_600 : decode cL_law 600 = .ok (.iconst 0, 1) := by decide +kernel
theorem dL_law_601 : decode cL_law 601 = .ok (.ireturn, 1) := by decide +kernel
theorem dL_law_602 : decode cL_law 602 = .ok (.goto 966, 3) := by decide +kernel
theorem dL_law_605 : decode cL_law 605 = .ok (.aload_n 1, 1) := by decide +kernel
theorem dL_law_606 : decode cL_law 606 = .ok (.aload_n 0, 1) := by decide +kernel
theorem dL_law_607 : decode cL_law 607 = .ok (.iload 4, 2) := by decide +kernel
theorem dL_law_609 : decode cL_law 609 = .ok (.iconst 1, 1) := by decide +kernel
theorem dL_law_610 : decode cL_law 610 = .ok (.iadd, 1) := by decide +kernel
theorem dL_law_611 : decode cL_law 611 = .ok (.iaload, 1) := by decide +kernel
theorem dL_law_612 : decode cL_law 612 = .ok (.aload_n 0, 1) := by decide +kernel
theorem dL_law_613 : decode cL_law 613 = .ok (.iload 4, 2) := by decide +kernel
theorem dL_law_615 : decode cL_law 615 = .ok (.iconst 2, 1) := by decide +kernel
theorem dL_law_616 : decode cL_law 616 = .ok (.iadd, 1) := by decide +kernel
theorem dL_law_617 : decode cL_law 617 = .ok (.iaload, 1) := by decide +kernel
theorem dL_law_618 : decode cL_law 618 = .ok (.aload_n 3, 1) := by decide +kernel
theorem dL_law_619 : decode cL_law 619 = .ok (.invokestatic 117, 3) := by decide +kernel
theorem dL_law_622 : decode cL_law 622 = .ok (.istore 5, 2) := by decide +kernel
theorem dL_law_624 : decode cL_law 624 = .ok (.aload_n 2, 1) := by decide +kernel
theorem dL_law_625 : decode cL_law 625 = .ok (.aload_n 0, 1) := by decide +kernel
theorem dL_law_626 : decode cL_law 626 = .ok (.iload 4, 2) := by decide +kernel
theorem dL_law_628 : decode cL_law 628 = .ok (.iconst 1, 1) := by decide +kernel
theorem dL_law_629 : decode cL_law 629 = .ok (.iadd, 1) := by decide +kernel
theorem dL_law_630 : decode cL_law 630 = .ok (.iaload, 1) := by decide +kernel
theorem dL_law_631 : decode cL_law 631 = .ok (.aload_n 0, 1) := by decide +kernel
theorem dL_law_632 : decode cL_law 632 = .ok (.iload 4, 2) := by decide +kernel
theorem dL_law_634 : decode cL_law 634 = .ok (.iconst 2, 1) := by decide +kernel
theorem dL_law_635 : decode cL_law 635 = .ok (.iadd, 1) := by decide +kernel
theorem dL_law_636 : decode cL_law 636 = .ok (.iaload, 1) := by decide +kernel
theorem dL_law_637 : decode cL_law 637 = .ok (.invokevirtual 119, 3) := by decide +kernel
theorem dL_law_640 : decode cL_law 640 = .ok (.istore 6, 2) := by decide +kernel
theorem dL_law_642 : decode cL_law 642 = .ok (.aload_n 2, 1) := by decide +kernel
theorem dL_law_643 : decode cL_law 643 = .ok (.invokevirtual 93, 3) := by decide +kernel
theorem dL_law_646 : decode cL_law 646 = .ok (.iload 5, 2) := by decide +kernel
theorem dL_law_648 : decode cL_law 648 = .ok (.if_icmp .eq 5, 3) := by decide +kernel
theorem dL_law_651 : decode cL_law 651 = .ok (.iconst 0, 1) := by decide +kernel
theorem dL_law_652 : decode cL_law 652 = .ok (.ireturn, 1) := by decide +kernel
theorem dL_law_653 : decode cL_law 653 = .ok (.iload 5, 2) := by decide +kernel
theorem dL_law_655 : decode cL_law 655 = .ok (.ifCond .ne 15, 3) := by decide +kernel
theorem dL_law_658 : decode cL_law 658 = .ok (.aload_n 3, 1) := by decide +kernel
theorem dL_law_659 : decode cL_law 659 = .ok (.iconst 0, 1) := by decide +kernel
theorem dL_law_660 : decode cL_law 660 = .ok (.laload, 1) := by decide +kernel
theorem dL_law_661 : decode cL_law 661 = .ok (.iload 6, 2) := by decide +kernel
theorem dL_law_663 : decode cL_law 663 = .ok (.i2l, 1) := by decide +kernel
theorem dL_law_664 : decode cL_law 664 = .ok (.lcmp, 1) := by decide +kernel
theorem dL_law_665 : decode cL_law 665 = .ok (.ifCond .eq 5, 3) := by decide +kernel
theorem dL_law_668 : decode cL_law 668 = .ok (.iconst 0, 1) := by decide +kernel
theorem dL_law_669 : decode cL_law 669 = .ok (.ireturn, 1) := by decide +kernel
theorem dL_law_670 : decode cL_law 670 = .ok (.goto 898, 3) := by decide +kernel
theorem dL_law_673 : decode cL_law 673 = .ok (.aload_n 1, 1) := by decide +kernel
theorem dL_law_674 : decode cL_law 674 = .ok (.aload_n 0, 1) := by decide +kernel
theorem dL_law_675 : decode cL_law 675 = .ok (.iload 4, 2) := by decide +kernel
theorem dL_law_677 : decode cL_law 677 = .ok (.iconst 1, 1) := by decide +kernel
theorem dL_law_678 : decode cL_law 678 = .ok (.iadd, 1) := by decide +kernel
theorem dL_law_679 : decode cL_law 679 = .ok (.iaload, 1) := by decide +kernel
theorem dL_law_680 : decode cL_law 680 = .ok (.aload_n 0, 1) := by decide +kernel
theorem dL_law_681 : decode cL_law 681 = .ok (.iload 4, 2) := by decide +kernel
theorem dL_law_683 : decode cL_law 683 = .ok (.iconst 2, 1) := by decide +kernel
theorem dL_law_684 : decode cL_law 684 = .ok (.iadd, 1) := by decide +kernel
theorem dL_law_685 : decode cL_law 685 = .ok (.iaload, 1) := by decide +kernel
theorem dL_law_686 : decode cL_law 686 = .ok (.aload_n 0, 1) := by decide +kernel
theorem dL_law_687 : decode cL_law 687 = .ok (.iload 4, 2) := by decide +kernel
theorem dL_law_689 : decode cL_law 689 = .ok (.iconst 3, 1) := by decide +kernel
theorem dL_law_690 : decode cL_law 690 = .ok (.iadd, 1) := by decide +kernel
theorem dL_law_691 : decode cL_law 691 = .ok (.iaload, 1) := by decide +kernel
theorem dL_law_692 : decode cL_law 692 = .ok (.aload_n 0, 1) := by decide +kernel
theorem dL_law_693 : decode cL_law 693 = .ok (.iload 4, 2) := by decide +kernel
theorem dL_law_695 : decode cL_law 695 = .ok (.iconst 4, 1) := by decide +kernel
theorem dL_law_696 : decode cL_law 696 = .ok (.iadd, 1) := by decide +kernel
theorem dL_law_697 : decode cL_law 697 = .ok (.iaload, 1) := by decide +kernel
theorem dL_law_698 : decode cL_law 698 = .ok (.aload_n 3, 1) := by decide +kernel
theorem dL_law_699 : decode cL_law 699 = .ok (.invokestatic 120, 3) := by decide +kernel
theorem dL_law_702 : decode cL_law 702 = .ok (.istore 5, 2) := by decide +kernel
theorem dL_law_704 : decode cL_law 704 = .ok (.aload_n 2, 1) := by decide +kernel
theorem dL_law_705 : decode cL_law 705 = .ok (.aload_n 0, 1) := by decide +kernel
theorem dL_law_706 : decode cL_law 706 = .ok (.iload 4, 2) := by decide +kernel
theorem dL_law_708 : decode cL_law 708 = .ok (.iconst 1, 1) := by decide +kernel
theorem dL_law_709 : decode cL_law 709 = .ok (.iadd, 1) := by decide +kernel
theorem dL_law_710 : decode cL_law 710 = .ok (.iaload, 1) := by decide +kernel
theorem dL_law_711 : decode cL_law 711 = .ok (.aload_n 0, 1) := by decide +kernel
theorem dL_law_712 : decode cL_law 712 = .ok (.iload 4, 2) := by decide +kernel
theorem dL_law_714 : decode cL_law 714 = .ok (.iconst 2, 1) := by decide +kernel
theorem dL_law_715 : decode cL_law 715 = .ok (.iadd, 1) := by decide +kernel
theorem dL_law_716 : decode cL_law 716 = .ok (.iaload, 1) := by decide +kernel
theorem dL_law_717 : decode cL_law 717 = .ok (.aload_n 0, 1) := by decide +kernel
theorem dL_law_718 : decode cL_law 718 = .ok (.iload 4, 2) := by decide +kernel
theorem dL_law_720 : decode cL_law 720 = .ok (.iconst 3, 1) := by decide +kernel
theorem dL_law_721 : decode cL_law 721 = .ok (.iadd, 1) := by decide +kernel
theorem dL_law_722 : decode cL_law 722 = .ok (.iaload, 1) := by decide +kernel
theorem dL_law_723 : decode cL_law 723 = .ok (.aload_n 0, 1) := by decide +kernel
theorem dL_law_724 : decode cL_law 724 = .ok (.iload 4, 2) := by decide +kernel
theorem dL_law_726 : decode cL_law 726 = .ok (.iconst 4, 1) := by decide +kernel
theorem dL_law_727 : decode cL_law 727 = .ok (.iadd, 1) := by decide +kernel
theorem dL_law_728 : decode cL_law 728 = .ok (.iaload, 1) := by decide +kernel
theorem dL_law_729 : decode cL_law 729 = .ok (.invokevirtual 123, 3) := by decide +kernel
theorem dL_law_732 : decode cL_law 732 = .ok (.istore 6, 2) := by decide +kernel
theorem dL_law_734 : decode cL_law 734 = .ok (.aload_n 2, 1) := by decide +kernel
theorem dL_law_735 : decode cL_law 735 = .ok (.invokevirtual 93, 3) := by decide +kernel
theorem dL_law_738 : decode cL_law 738 = .ok (.iload 5, 2) := by decide +kernel
theorem dL_law_740 : decode cL_law 740 = .ok (.if_icmp .eq 5, 3) := by decide +kernel
theorem dL_law_743 : decode cL_law 743 = .ok (.iconst 0, 1) := by decide +kernel
theorem dL_law_744 : decode cL_law 744 = .ok (.ireturn, 1) := by decide +kernel
theorem dL_law_745 : decode cL_law 745 = .ok (.iload 5, 2) := by decide +kernel
theorem dL_law_747 : decode cL_law 747 = .ok (.ifCond .ne 15, 3) := by decide +kernel
theorem dL_law_750 : decode cL_law 750 = .ok (.aload_n 3, 1) := by decide +kernel
theorem dL_law_751 : decode cL_law 751 = .ok (.iconst 0, 1) := by decide +kernel
theorem dL_law_752 : decode cL_law 752 = .ok (.laload, 1) := by decide +kernel
theorem dL_law_753 : decode cL_law 753 = .ok (.iload 6, 2) := by decide +kernel
theorem dL_law_755 : decode cL_law 755 = .ok (.i2l, 1) := by decide +kernel
theorem dL_law_756 : decode cL_law 756 = .ok (.lcmp, 1) := by decide +kernel
theorem dL_law_757 : decode cL_law 757 = .ok (.ifCond .eq 5, 3) := by decide +kernel
theorem dL_law_760 : decode cL_law 760 = .ok (.iconst 0, 1) := by decide +kernel
theorem dL_law_761 : decode cL_law 761 = .ok (.ireturn, 1) := by decide +kernel
theorem dL_law_762 : decode cL_law 762 = .ok (.goto 806, 3) := by decide +kernel
theorem dL_law_765 : decode cL_law 765 = .ok (.aload_n 1, 1) := by decide +kernel
theorem dL_law_766 : decode cL_law 766 = .ok (.aload_n 0, 1) := by decide +kernel
theorem dL_law_767 : decode cL_law 767 = .ok (.iload 4, 2) := by decide +kernel
theorem dL_law_769 : decode cL_law 769 = .ok (.iconst 1, 1) := by decide +kernel
theorem dL_law_770 : decode cL_law 770 = .ok (.iadd, 1) := by decide +kernel
theorem dL_law_771 : decode cL_law 771 = .ok (.iaload, 1) := by decide +kernel
theorem dL_law_772 : decode cL_law 772 = .ok (.aload_n 0, 1) := by decide +kernel
theorem dL_law_773 : decode cL_law 773 = .ok (.iload 4, 2) := by decide +kernel
theorem dL_law_775 : decode cL_law 775 = .ok (.iconst 2, 1) := by decide +kernel
theorem dL_law_776 : decode cL_law 776 = .ok (.iadd, 1) := by decide +kernel
theorem dL_law_777 : decode cL_law 777 = .ok (.iaload, 1) := by decide +kernel
theorem dL_law_778 : decode cL_law 778 = .ok (.aload_n 0, 1) := by decide +kernel
theorem dL_law_779 : decode cL_law 779 = .ok (.iload 4, 2) := by decide +kernel
theorem dL_law_781 : decode cL_law 781 = .ok (.iconst 3, 1) := by decide +kernel
theorem dL_law_782 : decode cL_law 782 = .ok (.iadd, 1) := by decide +kernel
theorem dL_law_783 : decode cL_law 783 = .ok (.iaload, 1) := by decide +kernel
theorem dL_law_784 : decode cL_law 784 = .ok (.aload_n 3, 1) := by decide +kernel
theorem dL_law_785 : decode cL_law 785 = .ok (.invokestatic 124, 3) := by decide +kernel
theorem dL_law_788 : decode cL_law 788 = .ok (.istore 5, 2) := by decide +kernel
theorem dL_law_790 : decode cL_law 790 = .ok (.aload_n 2, 1) := by decide +kernel
theorem dL_law_791 : decode cL_law 791 = .ok (.aload_n 0, 1) := by decide +kernel
theorem dL_law_792 : decode cL_law 792 = .ok (.iload 4, 2) := by decide +kernel
theorem dL_law_794 : decode cL_law 794 = .ok (.iconst 1, 1) := by decide +kernel
theorem dL_law_795 : decode cL_law 795 = .ok (.iadd, 1) := by decide +kernel
theorem dL_law_796 : decode cL_law 796 = .ok (.iaload, 1) := by decide +kernel
theorem dL_law_797 : decode cL_law 797 = .ok (.aload_n 0, 1) := by decide +kernel
theorem dL_law_798 : decode cL_law 798 = .ok (.iload 4, 2) := by decide +kernel
theorem dL_law_800 : decode cL_law 800 = .ok (.iconst 2, 1) := by decide +kernel
theorem dL_law_801 : decode cL_law 801 = .ok (.iadd, 1) := by decide +kernel
theorem dL_law_802 : decode cL_law 802 = .ok (.iaload, 1) := by decide +kernel
theorem dL_law_803 : decode cL_law 803 = .ok (.aload_n 0, 1) := by decide +kernel
theorem dL_law_804 : decode cL_law 804 = .ok (.iload 4, 2) := by decide +kernel
theorem dL_law_806 : decode cL_law 806 = .ok (.iconst 3, 1) := by decide +kernel
theorem dL_law_807 : decode cL_law 807 = .ok (.iadd, 1) := by decide +kernel
theorem dL_law_808 : decode cL_law 808 = .ok (.iaload, 1) := by decide +kernel
theorem dL_law_809 : decode cL_law 809 = .ok (.invokevirtual 127, 3) := by decide +kernel
theorem dL_law_812 : decode cL_law 812 = .ok (.istore 6, 2) := by decide +kernel
theorem dL_law_814 : decode cL_law 814 = .ok (.aload_n 2, 1) := by decide +kernel
theorem dL_law_815 : decode cL_law 815 = .ok (.invokevirtual 93, 3) := by decide +kernel
theorem dL_law_818 : decode cL_law 818 = .ok (.iload 5, 2) := by decide +kernel
theorem dL_law_820 : decode cL_law 820 = .ok (.if_icmp .eq 5, 3) := by decide +kernel
theorem dL_law_823 : decode cL_law 823 = .ok (.iconst 0, 1) := by decide +kernel
theorem dL_law_824 : decode cL_law 824 = .ok (.ireturn, 1) := by decide +kernel
theorem dL_law_825 : decode cL_law 825 = .ok (.iload 5, 2) := by decide +kernel
theorem dL_law_827 : decode cL_law 827 = .ok (.ifCond .ne 15, 3) := by decide +kernel
theorem dL_law_830 : decode cL_law 830 = .ok (.aload_n 3, 1) := by decide +kernel
theorem dL_law_831 : decode cL_law 831 = .ok (.iconst 0, 1) := by decide +kernel
theorem dL_law_832 : decode cL_law 832 = .ok (.laload, 1) := by decide +kernel
theorem dL_law_833 : decode cL_law 833 = .ok (.iload 6, 2) := by decide +kernel
theorem dL_law_835 : decode cL_law 835 = .ok (.i2l, 1) := by decide +kernel
theorem dL_law_836 : decode cL_law 836 = .ok (.lcmp, 1) := by decide +kernel
theorem dL_law_837 : decode cL_law 837 = .ok (.ifCond .eq 5, 3) := by decide +kernel
theorem dL_law_840 : decode cL_law 840 = .ok (.iconst 0, 1) := by decide +kernel
theorem dL_law_841 : decode cL_law 841 = .ok (.ireturn, 1) := by decide +kernel
theorem dL_law_842 : decode cL_law 842 = .ok (.goto 726, 3) := by decide +kernel
theorem dL_law_845 : decode cL_law 845 = .ok (.aload_n 1, 1) := by decide +kernel
theorem dL_law_846 : decode cL_law 846 = .ok (.aload_n 0, 1) := by decide +kernel
theorem dL_law_847 : decode cL_law 847 = .ok (.iload 4, 2) := by decide +kernel
theorem dL_law_849 : decode cL_law 849 = .ok (.iconst 1, 1) := by decide +kernel
theorem dL_law_850 : decode cL_law 850 = .ok (.iadd, 1) := by decide +kernel
theorem dL_law_851 : decode cL_law 851 = .ok (.iaload, 1) := by decide +kernel
theorem dL_law_852 : decode cL_law 852 = .ok (.aload_n 3, 1) := by decide +kernel
theorem dL_law_853 : decode cL_law 853 = .ok (.invokestatic 128, 3) := by decide +kernel
theorem dL_law_856 : decode cL_law 856 = .ok (.istore 5, 2) := by decide +kernel
theorem dL_law_858 : decode cL_law 858 = .ok (.aload_n 2, 1) := by decide +kernel
theorem dL_law_859 : decode cL_law 859 = .ok (.aload_n 0, 1) := by decide +kernel
theorem dL_law_860 : decode cL_law 860 = .ok (.iload 4, 2) := by decide +kernel
theorem dL_law_862 : decode cL_law 862 = .ok (.iconst 1, 1) := by decide +kernel
theorem dL_law_863 : decode cL_law 863 = .ok (.iadd, 1) := by decide +kernel
theorem dL_law_864 : decode cL_law 864 = .ok (.iaload, 1) := by decide +kernel
theorem dL_law_865 : decode cL_law 865 = .ok (.invokevirtual 130, 3) := by decide +kernel
theorem dL_law_868 : decode cL_law 868 = .ok (.istore 6, 2) := by decide +kernel
theorem dL_law_870 : decode cL_law 870 = .ok (.aload_n 2, 1) := by decide +kernel
theorem dL_law_871 : decode cL_law 871 = .ok (.invokevirtual 93, 3) := by decide +kernel
theorem dL_law_874 : decode cL_law 874 = .ok (.iload 5, 2) := by decide +kernel
theorem dL_law_876 : decode cL_law 876 = .ok (.if_icmp .eq 5, 3) := by decide +kernel
theorem dL_law_879 : decode cL_law 879 = .ok (.iconst 0, 1) := by decide +kernel
theorem dL_law_880 : decode cL_law 880 = .ok (.ireturn, 1) := by decide +kernel
theorem dL_law_881 : decode cL_law 881 = .ok (.iload 5, 2) := by decide +kernel
theorem dL_law_883 : decode cL_law 883 = .ok (.ifCond .ne 15, 3) := by decide +kernel
theorem dL_law_886 : decode cL_law 886 = .ok (.aload_n 3, 1) := by decide +kernel
theorem dL_law_887 : decode cL_law 887 = .ok (.iconst 0, 1) := by decide +kernel
theorem dL_law_888 : decode cL_law 888 = .ok (.laload, 1) := by decide +kernel
theorem dL_law_889 : decode cL_law 889 = .ok (.iload 6, 2) := by decide +kernel
theorem dL_law_891 : decode cL_law 891 = .ok (.i2l, 1) := by decide +kernel
theorem dL_law_892 : decode cL_law 892 = .ok (.lcmp, 1) := by decide +kernel
theorem dL_law_893 : decode cL_law 893 = .ok (.ifCond .eq 5, 3) := by decide +kernel
theorem dL_law_896 : decode cL_law 896 = .ok (.iconst 0, 1) := by decide +kernel
theorem dL_law_897 : decode cL_law 897 = .ok (.ireturn, 1) := by decide +kernel
theorem dL_law_898 : decode cL_law 898 = .ok (.goto 670, 3) := by decide +kernel
theorem dL_law_901 : decode cL_law 901 = .ok (.aload_n 1, 1) := by decide +kernel
theorem dL_law_902 : decode cL_law 902 = .ok (.aload_n 3, 1) := by decide +kernel
theorem dL_law_903 : decode cL_law 903 = .ok (.invokestatic 131, 3) := by decide +kernel
theorem dL_law_906 : decode cL_law 906 = .ok (.istore 5, 2) := by decide +kernel
theorem dL_law_908 : decode cL_law 908 = .ok (.aload_n 2, 1) := by decide +kernel
theorem dL_law_909 : decode cL_law 909 = .ok (.invokevirtual 133, 3) := by decide +kernel
theorem dL_law_912 : decode cL_law 912 = .ok (.istore 6, 2) := by decide +kernel
theorem dL_law_914 : decode cL_law 914 = .ok (.aload_n 2, 1) := by decide +kernel
theorem dL_law_915 : decode cL_law 915 = .ok (.invokevirtual 93, 3) := by decide +kernel
theorem dL_law_918 : decode cL_law 918 = .ok (.iload 5, 2) := by decide +kernel
theorem dL_law_920 : decode cL_law 920 = .ok (.if_icmp .eq 5, 3) := by decide +kernel
theorem dL_law_923 : decode cL_law 923 = .ok (.iconst 0, 1) := by decide +kernel
theorem dL_law_924 : decode cL_law 924 = .ok (.ireturn, 1) := by decide +kernel
theorem dL_law_925 : decode cL_law 925 = .ok (.iload 5, 2) := by decide +kernel
theorem dL_law_927 : decode cL_law 927 = .ok (.ifCond .ne 15, 3) := by decide +kernel
theorem dL_law_930 : decode cL_law 930 = .ok (.aload_n 3, 1) := by decide +kernel
theorem dL_law_931 : decode cL_law 931 = .ok (.iconst 0, 1) := by decide +kernel
theorem dL_law_932 : decode cL_law 932 = .ok (.laload, 1) := by decide +kernel
theorem dL_law_933 : decode cL_law 933 = .ok (.iload 6, 2) := by decide +kernel
theorem dL_law_935 : decode cL_law 935 = .ok (.i2l, 1) := by decide +kernel
theorem dL_law_936 : decode cL_law 936 = .ok (.lcmp, 1) := by decide +kernel
theorem dL_law_937 : decode cL_law 937 = .ok (.ifCond .eq 5, 3) := by decide +kernel
theorem dL_law_940 : decode cL_law 940 = .ok (.iconst 0, 1) := by decide +kernel
theorem dL_law_941 : decode cL_law 941 = .ok (.ireturn, 1) := by decide +kernel
theorem dL_law_942 : decode cL_law 942 = .ok (.goto 626, 3) := by decide +kernel
theorem dL_law_945 : decode cL_law 945 = .ok (.aload_n 1, 1) := by decide +kernel
theorem dL_law_946 : decode cL_law 946 = .ok (.aload_n 0, 1) := by decide +kernel
theorem dL_law_947 : decode cL_law 947 = .ok (.iload 4, 2) := by decide +kernel
theorem dL_law_949 : decode cL_law 949 = .ok (.iconst 1, 1) := by decide +kernel
theorem dL_law_950 : decode cL_law 950 = .ok (.iadd, 1) := by decide +kernel
theorem dL_law_951 : decode cL_law 951 = .ok (.iaload, 1) := by decide +kernel
theorem dL_law_952 : decode cL_law 952 = .ok (.aload_n 0, 1) := by decide +kernel
theorem dL_law_953 : decode cL_law 953 = .ok (.iload 4, 2) := by decide +kernel
theorem dL_law_955 : decode cL_law 955 = .ok (.iconst 2, 1) := by decide +kernel
theorem dL_law_956 : decode cL_law 956 = .ok (.iadd, 1) := by decide +kernel
theorem dL_law_957 : decode cL_law 957 = .ok (.iaload, 1) := by decide +kernel
theorem dL_law_958 : decode cL_law 958 = .ok (.aload_n 0, 1) := by decide +kernel
theorem dL_law_959 : decode cL_law 959 = .ok (.iload 4, 2) := by decide +kernel
theorem dL_law_961 : decode cL_law 961 = .ok (.iconst 3, 1) := by decide +kernel
theorem dL_law_962 : decode cL_law 962 = .ok (.iadd, 1) := by decide +kernel
theorem dL_law_963 : decode cL_law 963 = .ok (.iaload, 1) := by decide +kernel
theorem dL_law_964 : decode cL_law 964 = .ok (.aload_n 0, 1) := by decide +kernel
theorem dL_law_965 : decode cL_law 965 = .ok (.iload 4, 2) := by decide +kernel
theorem dL_law_967 : decode cL_law 967 = .ok (.iconst 4, 1) := by decide +kernel
theorem dL_law_968 : decode cL_law 968 = .ok (.iadd, 1) := by decide +kernel
theorem dL_law_969 : decode cL_law 969 = .ok (.iaload, 1) := by decide +kernel
theorem dL_law_970 : decode cL_law 970 = .ok (.aload_n 3, 1) := by decide +kernel
theorem dL_law_971 : decode cL_law 971 = .ok (.invokestatic 134, 3) := by decide +kernel
theorem dL_law_974 : decode cL_law 974 = .ok (.istore 5, 2) := by decide +kernel
theorem dL_law_976 : decode cL_law 976 = .ok (.aload_n 2, 1) := by decide +kernel
theorem dL_law_977 : decode cL_law 977 = .ok (.aload_n 0, 1) := by decide +kernel
theorem dL_law_978 : decode cL_law 978 = .ok (.iload 4, 2) := by decide +kernel
theorem dL_law_980 : decode cL_law 980 = .ok (.iconst 1, 1) := by decide +kernel
theorem dL_law_981 : decode cL_law 981 = .ok (.iadd, 1) := by decide +kernel
theorem dL_law_982 : decode cL_law 982 = .ok (.iaload, 1) := by decide +kernel
theorem dL_law_983 : decode cL_law 983 = .ok (.aload_n 0, 1) := by decide +kernel
theorem dL_law_984 : decode cL_law 984 = .ok (.iload 4, 2) := by decide +kernel
theorem dL_law_986 : decode cL_law 986 = .ok (.iconst 2, 1) := by decide +kernel
theorem dL_law_987 : decode cL_law 987 = .ok (.iadd, 1) := by decide +kernel
theorem dL_law_988 : decode cL_law 988 = .ok (.iaload, 1) := by decide +kernel
theorem dL_law_989 : decode cL_law 989 = .ok (.aload_n 0, 1) := by decide +kernel
theorem dL_law_990 : decode cL_law 990 = .ok (.iload 4, 2) := by decide +kernel
theorem dL_law_992 : decode cL_law 992 = .ok (.iconst 3, 1) := by decide +kernel
theorem dL_law_993 : decode cL_law 993 = .ok (.iadd, 1) := by decide +kernel
theorem dL_law_994 : decode cL_law 994 = .ok (.iaload, 1) := by decide +kernel
theorem dL_law_995 : decode cL_law 995 = .ok (.aload_n 0, 1) := by decide +kernel
theorem dL_law_996 : decode cL_law 996 = .ok (.iload 4, 2) := by decide +kernel
theorem dL_law_998 : decode cL_law 998 = .ok (.iconst 4, 1) := by decide +kernel
theorem dL_law_999 : decode cL_law 999 = .ok (.iadd, 1) := by decide +kernel
theorem dL_law_1000 : decode cL_law 1000 = .ok (.iaload, 1) := by decide +kernel
theorem dL_law_1001 : decode cL_law 1001 = .ok (.invokevirtual 136, 3) := by decide +kernel
theorem dL_law_1004 : decode cL_law 1004 = .ok (.istore 6, 2) := by decide +kernel
theorem dL_law_1006 : decode cL_law 1006 = .ok (.aload_n 2, 1) := by decide +kernel
theorem dL_law_1007 : decode cL_law 1007 = .ok (.invokevirtual 93, 3) := by decide +kernel
theorem dL_law_1010 : decode cL_law 1010 = .ok (.iload 5, 2) := by decide +kernel
theorem dL_law_1012 : decode cL_law 1012 = .ok (.if_icmp .eq 5, 3) := by decide +kernel
theorem dL_law_1015 : decode cL_law 1015 = .ok (.iconst 0, 1) := by decide +kernel
theorem dL_law_1016 : decode cL_law 1016 = .ok (.ireturn, 1) := by decide +kernel
theorem dL_law_1017 : decode cL_law 1017 = .ok (.iload 5, 2) := by decide +kernel
theorem dL_law_1019 : decode cL_law 1019 = .ok (.ifCond .ne 15, 3) := by decide +kernel
theorem dL_law_1022 : decode cL_law 1022 = .ok (.aload_n 3, 1) := by decide +kernel
theorem dL_law_1023 : decode cL_law 1023 = .ok (.iconst 0, 1) := by decide +kernel
theorem dL_law_1024 : decode cL_law 1024 = .ok (.laload, 1) := by decide +kernel
theorem dL_law_1025 : decode cL_law 1025 = .ok (.iload 6, 2) := by decide +kernel
theorem dL_law_1027 : decode cL_law 1027 = .ok (.i2l, 1) := by decide +kernel
theorem dL_law_1028 : decode cL_law 1028 = .ok (.lcmp, 1) := by decide +kernel
theorem dL_law_1029 : decode cL_law 1029 = .ok (.ifCond .eq 5, 3) := by decide +kernel
theorem dL_law_1032 : decode cL_law 1032 = .ok (.iconst 0, 1) := by decide +kernel
theorem dL_law_1033 : decode cL_law 1033 = .ok (.ireturn, 1) := by decide +kernel
theorem dL_law_1034 : decode cL_law 1034 = .ok (.goto 534, 3) := by decide +kernel
theorem dL_law_1037 : decode cL_law 1037 = .ok (.aload_n 1, 1) := by decide +kernel
theorem dL_law_1038 : decode cL_law 1038 = .ok (.aload_n 0, 1) := by decide +kernel
theorem dL_law_1039 : decode cL_law 1039 = .ok (.iload 4, 2) := by decide +kernel
theorem dL_law_1041 : decode cL_law 1041 = .ok (.iconst 1, 1) := by decide +kernel
theorem dL_law_1042 : decode cL_law 1042 = .ok (.iadd, 1) := by decide +kernel
theorem dL_law_1043 : decode cL_law 1043 = .ok (.iaload, 1) := by decide +kernel
theorem dL_law_1044 : decode cL_law 1044 = .ok (.aload_n 0, 1) := by decide +kernel
theorem dL_law_1045 : decode cL_law 1045 = .ok (.iload 4, 2) := by decide +kernel
theorem dL_law_1047 : decode cL_law 1047 = .ok (.iconst 2, 1) := by decide +kernel
theorem dL_law_1048 : decode cL_law 1048 = .ok (.iadd, 1) := by decide +kernel
theorem dL_law_1049 : decode cL_law 1049 = .ok (.iaload, 1) := by decide +kernel
theorem dL_law_1050 : decode cL_law 1050 = .ok (.aload_n 3, 1) := by decide +kernel
theorem dL_law_1051 : decode cL_law 1051 = .ok (.invokestatic 137, 3) := by decide +kernel
theorem dL_law_1054 : decode cL_law 1054 = .ok (.istore 5, 2) := by decide +kernel
theorem dL_law_1056 : decode cL_law 1056 = .ok (.aload_n 2, 1) := by decide +kernel
theorem dL_law_1057 : decode cL_law 1057 = .ok (.aload_n 0, 1) := by decide +kernel
theorem dL_law_1058 : decode cL_law 1058 = .ok (.iload 4, 2) := by decide +kernel
theorem dL_law_1060 : decode cL_law 1060 = .ok (.iconst 1, 1) := by decide +kernel
theorem dL_law_1061 : decode cL_law 1061 = .ok (.iadd, 1) := by decide +kernel
theorem dL_law_1062 : decode cL_law 1062 = .ok (.iaload, 1) := by decide +kernel
theorem dL_law_1063 : decode cL_law 1063 = .ok (.aload_n 0, 1) := by decide +kernel
theorem dL_law_1064 : decode cL_law 1064 = .ok (.iload 4, 2) := by decide +kernel
theorem dL_law_1066 : decode cL_law 1066 = .ok (.iconst 2, 1) := by decide +kernel
theorem dL_law_1067 : decode cL_law 1067 = .ok (.iadd, 1) := by decide +kernel
theorem dL_law_1068 : decode cL_law 1068 = .ok (.iaload, 1) := by decide +kernel
theorem dL_law_1069 : decode cL_law 1069 = .ok (.invokevirtual 139, 3) := by decide +kernel
theorem dL_law_1072 : decode cL_law 1072 = .ok (.istore 6, 2) := by decide +kernel
theorem dL_law_1074 : decode cL_law 1074 = .ok (.aload_n 2, 1) := by decide +kernel
theorem dL_law_1075 : decode cL_law 1075 = .ok (.invokevirtual 93, 3) := by decide +kernel
theorem dL_law_1078 : decode cL_law 1078 = .ok (.iload 5, 2) := by decide +kernel
theorem dL_law_1080 : decode cL_law 1080 = .ok (.if_icmp .eq 5, 3) := by decide +kernel
theorem dL_law_1083 : decode cL_law 1083 = .ok (.iconst 0, 1) := by decide +kernel
theorem dL_law_1084 : decode cL_law 1084 = .ok (.ireturn, 1) := by decide +kernel
theorem dL_law_1085 : decode cL_law 1085 = .ok (.iload 5, 2) := by decide +kernel
theorem dL_law_1087 : decode cL_law 1087 = .ok (.ifCond .ne 15, 3) := by decide +kernel
theorem dL_law_1090 : decode cL_law 1090 = .ok (.aload_n 3, 1) := by decide +kernel
theorem dL_law_1091 : decode cL_law 1091 = .ok (.iconst 0, 1) := by decide +kernel
theorem dL_law_1092 : decode cL_law 1092 = .ok (.laload, 1) := by decide +kernel
theorem dL_law_1093 : decode cL_law 1093 = .ok (.iload 6, 2) := by decide +kernel
theorem dL_law_1095 : decode cL_law 1095 = .ok (.i2l, 1) := by decide +kernel
theorem dL_law_1096 : decode cL_law 1096 = .ok (.lcmp, 1) := by decide +kernel
theorem dL_law_1097 : decode cL_law 1097 = .ok (.ifCond .eq 5, 3) := by decide +kernel
theorem dL_law_1100 : decode cL_law 1100 = .ok (.iconst 0, 1) := by decide +kernel
theorem dL_law_1101 : decode cL_law 1101 = .ok (.ireturn, 1) := by decide +kernel
theorem dL_law_1102 : decode cL_law 1102 = .ok (.goto 466, 3) := by decide +kernel
theorem dL_law_1105 : decode cL_law 1105 = .ok (.aload_n 1, 1) := by decide +kernel
theorem dL_law_1106 : decode cL_law 1106 = .ok (.aload_n 0, 1) := by decide +kernel
theorem dL_law_1107 : decode cL_law 1107 = .ok (.iload 4, 2) := by decide +kernel
theorem dL_law_1109 : decode cL_law 1109 = .ok (.iconst 1, 1) := by decide +kernel
theorem dL_law_1110 : decode cL_law 1110 = .ok (.iadd, 1) := by decide +kernel
theorem dL_law_1111 : decode cL_law 1111 = .ok (.iaload, 1) := by decide +kernel
theorem dL_law_1112 : decode cL_law 1112 = .ok (.aload_n 0, 1) := by decide +kernel
theorem dL_law_1113 : decode cL_law 1113 = .ok (.iload 4, 2) := by decide +kernel
theorem dL_law_1115 : decode cL_law 1115 = .ok (.iconst 2, 1) := by decide +kernel
theorem dL_law_1116 : decode cL_law 1116 = .ok (.iadd, 1) := by decide +kernel
theorem dL_law_1117 : decode cL_law 1117 = .ok (.iaload, 1) := by decide +kernel
theorem dL_law_1118 : decode cL_law 1118 = .ok (.aload_n 0, 1) := by decide +kernel
theorem dL_law_1119 : decode cL_law 1119 = .ok (.iload 4, 2) := by decide +kernel
theorem dL_law_1121 : decode cL_law 1121 = .ok (.iconst 3, 1) := by decide +kernel
theorem dL_law_1122 : decode cL_law 1122 = .ok (.iadd, 1) := by decide +kernel
theorem dL_law_1123 : decode cL_law 1123 = .ok (.iaload, 1) := by decide +kernel
theorem dL_law_1124 : decode cL_law 1124 = .ok (.aload_n 0, 1) := by decide +kernel
theorem dL_law_1125 : decode cL_law 1125 = .ok (.iload 4, 2) := by decide +kernel
theorem dL_law_1127 : decode cL_law 1127 = .ok (.iconst 4, 1) := by decide +kernel
theorem dL_law_1128 : decode cL_law 1128 = .ok (.iadd, 1) := by decide +kernel
theorem dL_law_1129 : decode cL_law 1129 = .ok (.iaload, 1) := by decide +kernel
theorem dL_law_1130 : decode cL_law 1130 = .ok (.aload_n 3, 1) := by decide +kernel
theorem dL_law_1131 : decode cL_law 1131 = .ok (.invokestatic 140, 3) := by decide +kernel
theorem dL_law_1134 : decode cL_law 1134 = .ok (.istore 5, 2) := by decide +kernel
theorem dL_law_1136 : decode cL_law 1136 = .ok (.aload_n 2, 1) := by decide +kernel
theorem dL_law_1137 : decode cL_law 1137 = .ok (.aload_n 0, 1) := by decide +kernel
theorem dL_law_1138 : decode cL_law 1138 = .ok (.iload 4, 2) := by decide +kernel
theorem dL_law_1140 : decode cL_law 1140 = .ok (.iconst 1, 1) := by decide +kernel
theorem dL_law_1141 : decode cL_law 1141 = .ok (.iadd, 1) := by decide +kernel
theorem dL_law_1142 : decode cL_law 1142 = .ok (.iaload, 1) := by decide +kernel
theorem dL_law_1143 : decode cL_law 1143 = .ok (.aload_n 0, 1) := by decide +kernel
theorem dL_law_1144 : decode cL_law 1144 = .ok (.iload 4, 2) := by decide +kernel
theorem dL_law_1146 : decode cL_law 1146 = .ok (.iconst 2, 1) := by decide +kernel
theorem dL_law_1147 : decode cL_law 1147 = .ok (.iadd, 1) := by decide +kernel
theorem dL_law_1148 : decode cL_law 1148 = .ok (.iaload, 1) := by decide +kernel
theorem dL_law_1149 : decode cL_law 1149 = .ok (.aload_n 0, 1) := by decide +kernel
theorem dL_law_1150 : decode cL_law 1150 = .ok (.iload 4, 2) := by decide +kernel
theorem dL_law_1152 : decode cL_law 1152 = .ok (.iconst 3, 1) := by decide +kernel
theorem dL_law_1153 : decode cL_law 1153 = .ok (.iadd, 1) := by decide +kernel
theorem dL_law_1154 : decode cL_law 1154 = .ok (.iaload, 1) := by decide +kernel
theorem dL_law_1155 : decode cL_law 1155 = .ok (.aload_n 0, 1) := by decide +kernel
theorem dL_law_1156 : decode cL_law 1156 = .ok (.iload 4, 2) := by decide +kernel
theorem dL_law_1158 : decode cL_law 1158 = .ok (.iconst 4, 1) := by decide +kernel
theorem dL_law_1159 : decode cL_law 1159 = .ok (.iadd, 1) := by decide +kernel
theorem dL_law_1160 : decode cL_law 1160 = .ok (.iaload, 1) := by decide +kernel
theorem dL_law_1161 : decode cL_law 1161 = .ok (.invokevirtual 142, 3) := by decide +kernel
theorem dL_law_1164 : decode cL_law 1164 = .ok (.istore 6, 2) := by decide +kernel
theorem dL_law_1166 : decode cL_law 1166 = .ok (.aload_n 2, 1) := by decide +kernel
theorem dL_law_1167 : decode cL_law 1167 = .ok (.invokevirtual 93, 3) := by decide +kernel
theorem dL_law_1170 : decode cL_law 1170 = .ok (.iload 5, 2) := by decide +kernel
theorem dL_law_1172 : decode cL_law 1172 = .ok (.if_icmp .eq 5, 3) := by decide +kernel
theorem dL_law_1175 : decode cL_law 1175 = .ok (.iconst 0, 1) := by decide +kernel
theorem dL_law_1176 : decode cL_law 1176 = .ok (.ireturn, 1) := by decide +kernel
theorem dL_law_1177 : decode cL_law 1177 = .ok (.iload 5, 2) := by decide +kernel
theorem dL_law_1179 : decode cL_law 1179 = .ok (.ifCond .ne 15, 3) := by decide +kernel
theorem dL_law_1182 : decode cL_law 1182 = .ok (.aload_n 3, 1) := by decide +kernel
theorem dL_law_1183 : decode cL_law 1183 = .ok (.iconst 0, 1) := by decide +kernel
theorem dL_law_1184 : decode cL_law 1184 = .ok (.laload, 1) := by decide +kernel
theorem dL_law_1185 : decode cL_law 1185 = .ok (.iload 6, 2) := by decide +kernel
theorem dL_law_1187 : decode cL_law 1187 = .ok (.i2l, 1) := by decide +kernel
theorem dL_law_1188 : decode cL_law 1188 = .ok (.lcmp, 1) := by decide +kernel
theorem dL_law_1189 : decode cL_law 1189 = .ok (.ifCond .eq 5, 3) := by decide +kernel
theorem dL_law_1192 : decode cL_law 1192 = .ok (.iconst 0, 1) := by decide +kernel
theorem dL_law_1193 : decode cL_law 1193 = .ok (.ireturn, 1) := by decide +kernel
theorem dL_law_1194 : decode cL_law 1194 = .ok (.goto 374, 3) := by decide +kernel
theorem dL_law_1197 : decode cL_law 1197 = .ok (.aload_n 1, 1) := by decide +kernel
theorem dL_law_1198 : decode cL_law 1198 = .ok (.aload_n 0, 1) := by decide +kernel
theorem dL_law_1199 : decode cL_law 1199 = .ok (.iload 4, 2) := by decide +kernel
theorem dL_law_1201 : decode cL_law 1201 = .ok (.iconst 1, 1) := by decide +kernel
theorem dL_law_1202 : decode cL_law 1202 = .ok (.iadd, 1) := by decide +kernel
theorem dL_law_1203 : decode cL_law 1203 = .ok (.iaload, 1) := by decide +kernel
theorem dL_law_1204 : decode cL_law 1204 = .ok (.aload_n 3, 1) := by decide +kernel
theorem dL_law_1205 : decode cL_law 1205 = .ok (.invokestatic 143, 3) := by decide +kernel
theorem dL_law_1208 : decode cL_law 1208 = .ok (.istore 5, 2) := by decide +kernel
theorem dL_law_1210 : decode cL_law 1210 = .ok (.aload_n 2, 1) := by decide +kernel
theorem dL_law_1211 : decode cL_law 1211 = .ok (.aload_n 0, 1) := by decide +kernel
theorem dL_law_1212 : decode cL_law 1212 = .ok (.iload 4, 2) := by decide +kernel
theorem dL_law_1214 : decode cL_law 1214 = .ok (.iconst 1, 1) := by decide +kernel
theorem dL_law_1215 : decode cL_law 1215 = .ok (.iadd, 1) := by decide +kernel
theorem dL_law_1216 : decode cL_law 1216 = .ok (.iaload, 1) := by decide +kernel
theorem dL_law_1217 : decode cL_law 1217 = .ok (.invokevirtual 145, 3) := by decide +kernel
theorem dL_law_1220 : decode cL_law 1220 = .ok (.istore 6, 2) := by decide +kernel
theorem dL_law_1222 : decode cL_law 1222 = .ok (.aload_n 2, 1) := by decide +kernel
theorem dL_law_1223 : decode cL_law 1223 = .ok (.invokevirtual 93, 3) := by decide +kernel
theorem dL_law_1226 : decode cL_law 1226 = .ok (.iload 5, 2) := by decide +kernel
theorem dL_law_1228 : decode cL_law 1228 = .ok (.if_icmp .eq 5, 3) := by decide +kernel
theorem dL_law_1231 : decode cL_law 1231 = .ok (.iconst 0, 1) := by decide +kernel
theorem dL_law_1232 : decode cL_law 1232 = .ok (.ireturn, 1) := by decide +kernel
theorem dL_law_1233 : decode cL_law 1233 = .ok (.iload 5, 2) := by decide +kernel
theorem dL_law_1235 : decode cL_law 1235 = .ok (.ifCond .ne 15, 3) := by decide +kernel
theorem dL_law_1238 : decode cL_law 1238 = .ok (.aload_n 3, 1) := by decide +kernel
theorem dL_law_1239 : decode cL_law 1239 = .ok (.iconst 0, 1) := by decide +kernel
theorem dL_law_1240 : decode cL_law 1240 = .ok (.laload, 1) := by decide +kernel
theorem dL_law_1241 : decode cL_law 1241 = .ok (.iload 6, 2) := by decide +kernel
theorem dL_law_1243 : decode cL_law 1243 = .ok (.i2l, 1) := by decide +kernel
theorem dL_law_1244 : decode cL_law 1244 = .ok (.lcmp, 1) := by decide +kernel
theorem dL_law_1245 : decode cL_law 1245 = .ok (.ifCond .eq 5, 3) := by decide +kernel
theorem dL_law_1248 : decode cL_law 1248 = .ok (.iconst 0, 1) := by decide +kernel
theorem dL_law_1249 : decode cL_law 1249 = .ok (.ireturn, 1) := by decide +kernel
theorem dL_law_1250 : decode cL_law 1250 = .ok (.goto 318, 3) := by decide +kernel
theorem dL_law_1253 : decode cL_law 1253 = .ok (.aload_n 1, 1) := by decide +kernel
theorem dL_law_1254 : decode cL_law 1254 = .ok (.aload_n 0, 1) := by decide +kernel
theorem dL_law_1255 : decode cL_law 1255 = .ok (.iload 4, 2) := by decide +kernel
theorem dL_law_1257 : decode cL_law 1257 = .ok (.iconst 1, 1) := by decide +kernel
theorem dL_law_1258 : decode cL_law 1258 = .ok (.iadd, 1) := by decide +kernel
theorem dL_law_1259 : decode cL_law 1259 = .ok (.iaload, 1) := by decide +kernel
theorem dL_law_1260 : decode cL_law 1260 = .ok (.aload_n 0, 1) := by decide +kernel
theorem dL_law_1261 : decode cL_law 1261 = .ok (.iload 4, 2) := by decide +kernel
theorem dL_law_1263 : decode cL_law 1263 = .ok (.iconst 2, 1) := by decide +kernel
theorem dL_law_1264 : decode cL_law 1264 = .ok (.iadd, 1) := by decide +kernel
theorem dL_law_1265 : decode cL_law 1265 = .ok (.iaload, 1) := by decide +kernel
theorem dL_law_1266 : decode cL_law 1266 = .ok (.aload_n 3, 1) := by decide +kernel
theorem dL_law_1267 : decode cL_law 1267 = .ok (.invokestatic 146, 3) := by decide +kernel
theorem dL_law_1270 : decode cL_law 1270 = .ok (.istore 5, 2) := by decide +kernel
theorem dL_law_1272 : decode cL_law 1272 = .ok (.aload_n 2, 1) := by decide +kernel
theorem dL_law_1273 : decode cL_law 1273 = .ok (.aload_n 0, 1) := by decide +kernel
theorem dL_law_1274 : decode cL_law 1274 = .ok (.iload 4, 2) := by decide +kernel
theorem dL_law_1276 : decode cL_law 1276 = .ok (.iconst 1, 1) := by decide +kernel
theorem dL_law_1277 : decode cL_law 1277 = .ok (.iadd, 1) := by decide +kernel
theorem dL_law_1278 : decode cL_law 1278 = .ok (.iaload, 1) := by decide +kernel
theorem dL_law_1279 : decode cL_law 1279 = .ok (.aload_n 0, 1) := by decide +kernel
theorem dL_law_1280 : decode cL_law 1280 = .ok (.iload 4, 2) := by decide +kernel
theorem dL_law_1282 : decode cL_law 1282 = .ok (.iconst 2, 1) := by decide +kernel
theorem dL_law_1283 : decode cL_law 1283 = .ok (.iadd, 1) := by decide +kernel
theorem dL_law_1284 : decode cL_law 1284 = .ok (.iaload, 1) := by decide +kernel
theorem dL_law_1285 : decode cL_law 1285 = .ok (.invokevirtual 148, 3) := by decide +kernel
theorem dL_law_1288 : decode cL_law 1288 = .ok (.istore 6, 2) := by decide +kernel
theorem dL_law_1290 : decode cL_law 1290 = .ok (.aload_n 2, 1) := by decide +kernel
theorem dL_law_1291 : decode cL_law 1291 = .ok (.invokevirtual 93, 3) := by decide +kernel
theorem dL_law_1294 : decode cL_law 1294 = .ok (.iload 5, 2) := by decide +kernel
theorem dL_law_1296 : decode cL_law 1296 = .ok (.if_icmp .eq 5, 3) := by decide +kernel
theorem dL_law_1299 : decode cL_law 1299 = .ok (.iconst 0, 1) := by decide +kernel
theorem dL_law_1300 : decode cL_law 1300 = .ok (.ireturn, 1) := by decide +kernel
theorem dL_law_1301 : decode cL_law 1301 = .ok (.iload 5, 2) := by decide +kernel
theorem dL_law_1303 : decode cL_law 1303 = .ok (.ifCond .ne 15, 3) := by decide +kernel
theorem dL_law_1306 : decode cL_law 1306 = .ok (.aload_n 3, 1) := by decide +kernel
theorem dL_law_1307 : decode cL_law 1307 = .ok (.iconst 0, 1) := by decide +kernel
theorem dL_law_1308 : decode cL_law 1308 = .ok (.laload, 1) := by decide +kernel
theorem dL_law_1309 : decode cL_law 1309 = .ok (.iload 6, 2) := by decide +kernel
theorem dL_law_1311 : decode cL_law 1311 = .ok (.i2l, 1) := by decide +kernel
theorem dL_law_1312 : decode cL_law 1312 = .ok (.lcmp, 1) := by decide +kernel
theorem dL_law_1313 : decode cL_law 1313 = .ok (.ifCond .eq 5, 3) := by decide +kernel
theorem dL_law_1316 : decode cL_law 1316 = .ok (.iconst 0, 1) := by decide +kernel
theorem dL_law_1317 : decode cL_law 1317 = .ok (.ireturn, 1) := by decide +kernel
theorem dL_law_1318 : decode cL_law 1318 = .ok (.goto 250, 3) := by decide +kernel
theorem dL_law_1321 : decode cL_law 1321 = .ok (.aload_n 1, 1) := by decide +kernel
theorem dL_law_1322 : decode cL_law 1322 = .ok (.aload_n 0, 1) := by decide +kernel
theorem dL_law_1323 : decode cL_law 1323 = .ok (.iload 4, 2) := by decide +kernel
theorem dL_law_1325 : decode cL_law 1325 = .ok (.iconst 1, 1) := by decide +kernel
theorem dL_law_1326 : decode cL_law 1326 = .ok (.iadd, 1) := by decide +kernel
theorem dL_law_1327 : decode cL_law 1327 = .ok (.iaload, 1) := by decide +kernel
theorem dL_law_1328 : decode cL_law 1328 = .ok (.aload_n 0, 1) := by decide +kernel
theorem dL_law_1329 : decode cL_law 1329 = .ok (.iload 4, 2) := by decide +kernel
theorem dL_law_1331 : decode cL_law 1331 = .ok (.iconst 2, 1) := by decide +kernel
theorem dL_law_1332 : decode cL_law 1332 = .ok (.iadd, 1) := by decide +kernel
theorem dL_law_1333 : decode cL_law 1333 = .ok (.iaload, 1) := by decide +kernel
theorem dL_law_1334 : decode cL_law 1334 = .ok (.aload_n 3, 1) := by decide +kernel
theorem dL_law_1335 : decode cL_law 1335 = .ok (.invokestatic 149, 3) := by decide +kernel
theorem dL_law_1338 : decode cL_law 1338 = .ok (.istore 5, 2) := by decide +kernel
theorem dL_law_1340 : decode cL_law 1340 = .ok (.aload_n 2, 1) := by decide +kernel
theorem dL_law_1341 : decode cL_law 1341 = .ok (.aload_n 0, 1) := by decide +kernel
theorem dL_law_1342 : decode cL_law 1342 = .ok (.iload 4, 2) := by decide +kernel
theorem dL_law_1344 : decode cL_law 1344 = .ok (.iconst 1, 1) := by decide +kernel
theorem dL_law_1345 : decode cL_law 1345 = .ok (.iadd, 1) := by decide +kernel
theorem dL_law_1346 : decode cL_law 1346 = .ok (.iaload, 1) := by decide +kernel
theorem dL_law_1347 : decode cL_law 1347 = .ok (.aload_n 0, 1) := by decide +kernel
theorem dL_law_1348 : decode cL_law 1348 = .ok (.iload 4, 2) := by decide +kernel
theorem dL_law_1350 : decode cL_law 1350 = .ok (.iconst 2, 1) := by decide +kernel
theorem dL_law_1351 : decode cL_law 1351 = .ok (.iadd, 1) := by decide +kernel
theorem dL_law_1352 : decode cL_law 1352 = .ok (.iaload, 1) := by decide +kernel
theorem dL_law_1353 : decode cL_law 1353 = .ok (.invokevirtual 151, 3) := by decide +kernel
theorem dL_law_1356 : decode cL_law 1356 = .ok (.istore 6, 2) := by decide +kernel
theorem dL_law_1358 : decode cL_law 1358 = .ok (.aload_n 2, 1) := by decide +kernel
theorem dL_law_1359 : decode cL_law 1359 = .ok (.invokevirtual 93, 3) := by decide +kernel
theorem dL_law_1362 : decode cL_law 1362 = .ok (.iload 5, 2) := by decide +kernel
theorem dL_law_1364 : decode cL_law 1364 = .ok (.if_icmp .eq 5, 3) := by decide +kernel
theorem dL_law_1367 : decode cL_law 1367 = .ok (.iconst 0, 1) := by decide +kernel
theorem dL_law_1368 : decode cL_law 1368 = .ok (.ireturn, 1) := by decide +kernel
theorem dL_law_1369 : decode cL_law 1369 = .ok (.iload 5, 2) := by decide +kernel
theorem dL_law_1371 : decode cL_law 1371 = .ok (.ifCond .ne 15, 3) := by decide +kernel
theorem dL_law_1374 : decode cL_law 1374 = .ok (.aload_n 3, 1) := by decide +kernel
theorem dL_law_1375 : decode cL_law 1375 = .ok (.iconst 0, 1) := by decide +kernel
theorem dL_law_1376 : decode cL_law 1376 = .ok (.laload, 1) := by decide +kernel
theorem dL_law_1377 : decode cL_law 1377 = .ok (.iload 6, 2) := by decide +kernel
theorem dL_law_1379 : decode cL_law 1379 = .ok (.i2l, 1) := by decide +kernel
theorem dL_law_1380 : decode cL_law 1380 = .ok (.lcmp, 1) := by decide +kernel
theorem dL_law_1381 : decode cL_law 1381 = .ok (.ifCond .eq 5, 3) := by decide +kernel
theorem dL_law_1384 : decode cL_law 1384 = .ok (.iconst 0, 1) := by decide +kernel
theorem dL_law_1385 : decode cL_law 1385 = .ok (.ireturn, 1) := by decide +kernel
theorem dL_law_1386 : decode cL_law 1386 = .ok (.goto 182, 3) := by decide +kernel
theorem dL_law_1389 : decode cL_law 1389 = .ok (.aload_n 1, 1) := by decide +kernel
theorem dL_law_1390 : decode cL_law 1390 = .ok (.aload_n 0, 1) := by decide +kernel
theorem dL_law_1391 : decode cL_law 1391 = .ok (.iload 4, 2) := by decide +kernel
theorem dL_law_1393 : decode cL_law 1393 = .ok (.iconst 1, 1) := by decide +kernel
theorem dL_law_1394 : decode cL_law 1394 = .ok (.iadd, 1) := by decide +kernel
theorem dL_law_1395 : decode cL_law 1395 = .ok (.iaload, 1) := by decide +kernel
theorem dL_law_1396 : decode cL_law 1396 = .ok (.aload_n 0, 1) := by decide +kernel
theorem dL_law_1397 : decode cL_law 1397 = .ok (.iload 4, 2) := by decide +kernel
theorem dL_law_1399 : decode cL_law 1399 = .ok (.iconst 2, 1) := by decide +kernel
theorem dL_law_1400 : decode cL_law 1400 = .ok (.iadd, 1) := by decide +kernel
theorem dL_law_1401 : decode cL_law 1401 = .ok (.iaload, 1) := by decide +kernel
theorem dL_law_1402 : decode cL_law 1402 = .ok (.aload_n 3, 1) := by decide +kernel
theorem dL_law_1403 : decode cL_law 1403 = .ok (.invokestatic 152, 3) := by decide +kernel
theorem dL_law_1406 : decode cL_law 1406 = .ok (.istore 5, 2) := by decide +kernel
theorem dL_law_1408 : decode cL_law 1408 = .ok (.aload_n 2, 1) := by decide +kernel
theorem dL_law_1409 : decode cL_law 1409 = .ok (.aload_n 0, 1) := by decide +kernel
theorem dL_law_1410 : decode cL_law 1410 = .ok (.iload 4, 2) := by decide +kernel
theorem dL_law_1412 : decode cL_law 1412 = .ok (.iconst 1, 1) := by decide +kernel
theorem dL_law_1413 : decode cL_law 1413 = .ok (.iadd, 1) := by decide +kernel
theorem dL_law_1414 : decode cL_law 1414 = .ok (.iaload, 1) := by decide +kernel
theorem dL_law_1415 : decode cL_law 1415 = .ok (.aload_n 0, 1) := by decide +kernel
theorem dL_law_1416 : decode cL_law 1416 = .ok (.iload 4, 2) := by decide +kernel
theorem dL_law_1418 : decode cL_law 1418 = .ok (.iconst 2, 1) := by decide +kernel
theorem dL_law_1419 : decode cL_law 1419 = .ok (.iadd, 1) := by decide +kernel
theorem dL_law_1420 : decode cL_law 1420 = .ok (.iaload, 1) := by decide +kernel
theorem dL_law_1421 : decode cL_law 1421 = .ok (.invokevirtual 154, 3) := by decide +kernel
theorem dL_law_1424 : decode cL_law 1424 = .ok (.istore 6, 2) := by decide +kernel
theorem dL_law_1426 : decode cL_law 1426 = .ok (.aload_n 2, 1) := by decide +kernel
theorem dL_law_1427 : decode cL_law 1427 = .ok (.invokevirtual 93, 3) := by decide +kernel
theorem dL_law_1430 : decode cL_law 1430 = .ok (.iload 5, 2) := by decide +kernel
theorem dL_law_1432 : decode cL_law 1432 = .ok (.if_icmp .eq 5, 3) := by decide +kernel
theorem dL_law_1435 : decode cL_law 1435 = .ok (.iconst 0, 1) := by decide +kernel
theorem dL_law_1436 : decode cL_law 1436 = .ok (.ireturn, 1) := by decide +kernel
theorem dL_law_1437 : decode cL_law 1437 = .ok (.iload 5, 2) := by decide +kernel
theorem dL_law_1439 : decode cL_law 1439 = .ok (.ifCond .ne 15, 3) := by decide +kernel
theorem dL_law_1442 : decode cL_law 1442 = .ok (.aload_n 3, 1) := by decide +kernel
theorem dL_law_1443 : decode cL_law 1443 = .ok (.iconst 0, 1) := by decide +kernel
theorem dL_law_1444 : decode cL_law 1444 = .ok (.laload, 1) := by decide +kernel
theorem dL_law_1445 : decode cL_law 1445 = .ok (.iload 6, 2) := by decide +kernel
theorem dL_law_1447 : decode cL_law 1447 = .ok (.i2l, 1) := by decide +kernel
theorem dL_law_1448 : decode cL_law 1448 = .ok (.lcmp, 1) := by decide +kernel
theorem dL_law_1449 : decode cL_law 1449 = .ok (.ifCond .eq 5, 3) := by decide +kernel
theorem dL_law_1452 : decode cL_law 1452 = .ok (.iconst 0, 1) := by decide +kernel
theorem dL_law_1453 : decode cL_law 1453 = .ok (.ireturn, 1) := by decide +kernel
theorem dL_law_1454 : decode cL_law 1454 = .ok (.goto 114, 3) := by decide +kernel
theorem dL_law_1457 : decode cL_law 1457 = .ok (.aload_n 1, 1) := by decide +kernel
theorem dL_law_1458 : decode cL_law 1458 = .ok (.aload_n 0, 1) := by decide +kernel
theorem dL_law_1459 : decode cL_law 1459 = .ok (.iload 4, 2) := by decide +kernel
theorem dL_law_1461 : decode cL_law 1461 = .ok (.iconst 1, 1) := by decide +kernel
theorem dL_law_1462 : decode cL_law 1462 = .ok (.iadd, 1) := by decide +kernel
theorem dL_law_1463 : decode cL_law 1463 = .ok (.iaload, 1) := by decide +kernel
theorem dL_law_1464 : decode cL_law 1464 = .ok (.aload_n 3, 1) := by decide +kernel
theorem dL_law_1465 : decode cL_law 1465 = .ok (.invokestatic 155, 3) := by decide +kernel
theorem dL_law_1468 : decode cL_law 1468 = .ok (.istore 5, 2) := by decide +kernel
theorem dL_law_1470 : decode cL_law 1470 = .ok (.aload_n 2, 1) := by decide +kernel
theorem dL_law_1471 : decode cL_law 1471 = .ok (.aload_n 0, 1) := by decide +kernel
theorem dL_law_1472 : decode cL_law 1472 = .ok (.iload 4, 2) := by decide +kernel
theorem dL_law_1474 : decode cL_law 1474 = .ok (.iconst 1, 1) := by decide +kernel
theorem dL_law_1475 : decode cL_law 1475 = .ok (.iadd, 1) := by decide +kernel
theorem dL_law_1476 : decode cL_law 1476 = .ok (.iaload, 1) := by decide +kernel
theorem dL_law_1477 : decode cL_law 1477 = .ok (.invokevirtual 157, 3) := by decide +kernel
theorem dL_law_1480 : decode cL_law 1480 = .ok (.istore 6, 2) := by decide +kernel
theorem dL_law_1482 : decode cL_law 1482 = .ok (.aload_n 2, 1) := by decide +kernel
theorem dL_law_1483 : decode cL_law 1483 = .ok (.invokevirtual 93, 3) := by decide +kernel
theorem dL_law_1486 : decode cL_law 1486 = .ok (.iload 5, 2) := by decide +kernel
theorem dL_law_1488 : decode cL_law 1488 = .ok (.if_icmp .eq 5, 3) := by decide +kernel
theorem dL_law_1491 : decode cL_law 1491 = .ok (.iconst 0, 1) := by decide +kernel
theorem dL_law_1492 : decode cL_law 1492 = .ok (.ireturn, 1) := by decide +kernel
theorem dL_law_1493 : decode cL_law 1493 = .ok (.iload 5, 2) := by decide +kernel
theorem dL_law_1495 : decode cL_law 1495 = .ok (.ifCond .ne 15, 3) := by decide +kernel
theorem dL_law_1498 : decode cL_law 1498 = .ok (.aload_n 3, 1) := by decide +kernel
theorem dL_law_1499 : decode cL_law 1499 = .ok (.iconst 0, 1) := by decide +kernel
theorem dL_law_1500 : decode cL_law 1500 = .ok (.laload, 1) := by decide +kernel
theorem dL_law_1501 : decode cL_law 1501 = .ok (.iload 6, 2) := by decide +kernel
theorem dL_law_1503 : decode cL_law 1503 = .ok (.i2l, 1) := by decide +kernel
theorem dL_law_1504 : decode cL_law 1504 = .ok (.lcmp, 1) := by decide +kernel
theorem dL_law_1505 : decode cL_law 1505 = .ok (.ifCond .eq 5, 3) := by decide +kernel
theorem dL_law_1508 : decode cL_law 1508 = .ok (.iconst 0, 1) := by decide +kernel
theorem dL_law_1509 : decode cL_law 1509 = .ok (.ireturn, 1) := by decide +kernel
theorem dL_law_1510 : decode cL_law 1510 = .ok (.goto 58, 3) := by decide +kernel
theorem dL_law_1513 : decode cL_law 1513 = .ok (.aload_n 1, 1) := by decide +kernel
theorem dL_law_1514 : decode cL_law 1514 = .ok (.invokevirtual 158, 3) := by decide +kernel
theorem dL_law_1517 : decode cL_law 1517 = .ok (.dstore 5, 2) := by decide +kernel
theorem dL_law_1519 : decode cL_law 1519 = .ok (.aload_n 2, 1) := by decide +kernel
theorem dL_law_1520 : decode cL_law 1520 = .ok (.invokevirtual 162, 3) := by decide +kernel
theorem dL_law_1523 : decode cL_law 1523 = .ok (.dstore 7, 2) := by decide +kernel
theorem dL_law_1525 : decode cL_law 1525 = .ok (.dload 5, 2) := by decide +kernel
theorem dL_law_1527 : decode cL_law 1527 = .ok (.dload 7, 2) := by decide +kernel
theorem dL_law_1529 : decode cL_law 1529 = .ok (.dcmp .l, 1) := by decide +kernel
theorem dL_law_1530 : decode cL_law 1530 = .ok (.ifCond .eq 21, 3) := by decide +kernel
theorem dL_law_1533 : decode cL_law 1533 = .ok (.dload 5, 2) := by decide +kernel
theorem dL_law_1535 : decode cL_law 1535 = .ok (.dload 5, 2) := by decide +kernel
theorem dL_law_1537 : decode cL_law 1537 = .ok (.dcmp .l, 1) := by decide +kernel
theorem dL_law_1538 : decode cL_law 1538 = .ok (.ifCond .eq 11, 3) := by decide +kernel
theorem dL_law_1541 : decode cL_law 1541 = .ok (.dload 7, 2) := by decide +kernel
theorem dL_law_1543 : decode cL_law 1543 = .ok (.dload 7, 2) := by decide +kernel
theorem dL_law_1545 : decode cL_law 1545 = .ok (.dcmp .l, 1) := by decide +kernel
theorem dL_law_1546 : decode cL_law 1546 = .ok (.ifCond .ne 5, 3) := by decide +kernel
theorem dL_law_1549 : decode cL_law 1549 = .ok (.iconst 0, 1) := by decide +kernel
theorem dL_law_1550 : decode cL_law 1550 = .ok (.ireturn, 1) := by decide +kernel
theorem dL_law_1551 : decode cL_law 1551 = .ok (.goto 17, 3) := by decide +kernel
theorem dL_law_1554 : decode cL_law 1554 = .ok (.aload_n 1, 1) := by decide +kernel
theorem dL_law_1555 : decode cL_law 1555 = .ok (.invokevirtual 163, 3) := by decide +kernel
theorem dL_law_1558 : decode cL_law 1558 = .ok (.aload_n 2, 1) := by decide +kernel
theorem dL_law_1559 : decode cL_law 1559 = .ok (.invokevirtual 167, 3) := by decide +kernel
theorem dL_law_1562 : decode cL_law 1562 = .ok (.lcmp, 1) := by decide +kernel
theorem dL_law_1563 : decode cL_law 1563 = .ok (.ifCond .eq 5, 3) := by decide +kernel
theorem dL_law_1566 : decode cL_law 1566 = .ok (.iconst 0, 1) := by decide +kernel
theorem dL_law_1567 : decode cL_law 1567 = .ok (.ireturn, 1) := by decide +kernel
theorem dL_law_1568 : decode cL_law 1568 = .ok (.iinc 4 6, 3) := by decide +kernel
theorem dL_law_1571 : decode cL_law 1571 = .ok (.goto (-1548), 3) := by decide +kernel
theorem dL_law_1574 : decode cL_law 1574 = .ok (.iconst 1, 1) := by decide +kernel
theorem dL_law_1575 : decode cL_law 1575 = .ok (.ireturn, 1) := by decide +kernel
abbrev vwCl : List vw_C := [(RX0, TX0, 5), (RX1, TX1, 1), (RX2, TX2, 5), (RX3, TX3, 8), (RX4, TX4, 15)]
end
section
/-! THE WORLD BY TAGS: `ad` tells a tag's address, `ct` what its cell holds; everything the law makes lies from N0 on -/
abbrev hG : Type := va_G × (Nat → ClassId)
abbrev hC : Type := Nat → Option va_E
abbrev hU : Type := (Nat → Nat) × hC
def hA (N0 : Nat) : Nat → Prop := fun q => N0 ≤ q
abbrev hTy (D : hG) : List (ClassId × FieldType) := [(D.2 0, .int), (D.2 1, .object RX0), (D.2 2, .object RX2), (D.2 3, .long)]
abbrev eI (D : hG) (n : Nat) (f : Nat → Int32) : va_E := .inl (D.2 0, n, .inl f)
abbrev eL (D : hG) (n : Nat) (f : Nat → Int64) : va_E := .inl (D.2 3, n, .inr (.inl f))
abbrev eQ (cA : ClassId) (n : Nat) (f : Nat → Option Nat) : va_E := .inl (cA, n, .inr (.inr (.inr (.inr f))))
abbrev eO (ci : Nat) (fs : List Value) : va_E := .inr (ci, fs)
def hv (D : hG) (N0 : Nat) (ad : Nat → Nat) (ct : hC) (H : Heap) : Prop :=
  N0 ≤ H.size ∧ (∀ (t : Nat) (e : va_E), ct t = some e → N0 ≤ ad t ∧ va_at D.1 vwCl (ad t, e) H) ∧ ∀ (t u : Nat) (e e' : va_E), ct t = some e → ct u = some e' → ad t = ad u → t = u
def hNf : List (Nat × String × String × String) := [(272, "CaneSlices$Pattern", "colours", "[I"), (71, "CaneSlices$Cane", "pattern", "LCaneSlices$Pattern;"), (103, "CaneSlices$Cane", "length", "I"), (89, "CaneSlices$Cane", "twist", "I"), (106, "CaneSlices$Cane", "heat", "I"), (62, "CaneSlices$Cane", "cracked", "Z"), (193, "CaneSlices$Slice", "number", "I"), (152, "CaneSlices$Slice", "pattern", "LCaneSlices$Pattern;"), (226, "CaneSlices$Slice", "kind", "I"), (155, "CaneSlices$Slice", "eye", "I"), (198, "CaneSlices$Slice", "turn", "I")]
def hSt : List (Nat × String) := [(33, "there are 8 canes"), (45, "no such cane"), (57, "no such ring or sector"), (60, "not 1 to 8 sectors, or no such colour"), (66, "the cane is cracked"), (87, "by is 0, or not -4 to 4"), (92, "the cane is cracked, or would be twisted too far"), (97, "not 1 to 60 minutes"), (109, "the cane is used up, or too hot"), (114, "there are 60 slices"), (131, "no such cane, or what is not 0 to 4"), (140, "no such cane, place, ring or sector"), (150, "no such slice, ring or sector"), (153, "no such slice"), (161, "there are 6 beads"), (169, "no such bead, eye or slice"), (171, "not turned by 0 to 7 sectors"), (177, "the eye has a slice, or the slice is in an eye"), (186, "no such bead or eye"), (188, "the eye has no slice"), (196, "no such bead, eye, ring or sector"), (201, "what is not 0 to 7"), (206, "no such cane or place"), (215, "no such cane or slice"), (217, "no such bead")]
/-- what holds of the machine's tables, and of the cells that nobody writes -/
def hK (D : hG) (N0 : Nat) (U : State) : Prop :=
  va_K D.1 vwCl (hTy D) U ∧ (∀ q ∈ hNf, va_Nw (.fieldLinkNest RX3 q.1 q.2.1 q.2.2.1 q.2.2.2 RX3) U) ∧ (∀ q ∈ hSt, ∃ a : Nat, vk_R RX3 q.1 q.2 a U) ∧ vx_Zq Bundle.tN "UNASSIGNED_STACK" Bundle.steD (hA N0) U U.heap ∧ vx_Zq Bundle.tN "SUPPRESSED_SENTINEL" Bundle.listD (hA N0) U U.heap
theorem hK.to {D : hG} {N0 : Nat} {s U : State} {H : Heap} {locs : List Loc} (h : hK D N0 s) (hS : va_S (hA N0) s.heap H locs) (hU : U.heap = H) (hW : s.WarmedH U.vm) : hK D N0 U := by
  obtain ⟨h1, h2, h3, h4, h5⟩ := h
  refine ⟨va_K.moved hW.alike h1, fun q hq => va_Nw.warmF hW (h2 q hq), fun q hq => ?_, ?_, ?_⟩
  · obtain ⟨a, ha⟩ := h3 q hq
    exact ⟨a, ha.warm hW⟩
  · rw [hU]; exact (h4.kept (fun a q1 q2 => hS.2.1 a q1 q2)).moved hW.alike
  · rw [hU]; exact (h5.kept (fun a q1 q2 => hS.2.1 a q1 q2)).moved hW.alike
theorem hK.blind {D : hG} {N0 : Nat} {U : State} {g : JFrame} {mk : MethodId} {a : Array Value} (h : hK D N0 U) : hK D N0 (U.calling g mk a) := by
  obtain ⟨h1, h2, h3, h4, h5⟩ := h
  refine ⟨va_K.moved (u := U) (U := U.calling g mk a) (Vm.Alike.refl U.vm) h1, fun q hq => va_Nw.same rfl rfl (h2 q hq), fun q hq => ?_, vx_Zq.moved (u := U) (U := U.calling g mk a) (Vm.Alike.refl U.vm) h4, vx_Zq.moved (u := U) (U := U.calling g mk a) (Vm.Alike.refl U.vm) h5⟩
  obtain ⟨b, hb⟩ := h3 q hq
  exact ⟨b, vk_R.same rfl hb⟩
theorem hv.one {D : hG} {N0 : Nat} {ad : Nat → Nat} {ct : hC} {H : Heap} {t : Nat} {e : va_E} (h : hv D N0 ad ct H) (he : ct t = some e) : va_P D.1 vwCl [(ad t, e)] H := by
  intro k q hk
  have hz : k < 1 := (List.getElem?_eq_some_iff.mp hk).1
  rw [show k = 0 by omega] at hk
  cases hk
  exact (h.2.1 t e he).2
theorem hv.set {D : hG} {N0 : Nat} {ad : Nat → Nat} {ct : hC} {H H1 : Heap} {t : Nat} {e0 e : va_E} (h : hv D N0 ad ct H) (he : ct t = some e0) (h1 : va_at D.1 vwCl (ad t, e) H1) (oq : ∀ q : Nat, q ≠ ad t → H1[q]? = H[q]?) (z : H1.size = H.size) : hv D N0 ad (va_up ct t (some e)) H1 := by
  obtain ⟨g1, g2, g3⟩ := h
  have key : ∀ (u : Nat) (x : va_E), va_up ct t (some e) u = some x → ∃ y, ct u = some y := by
    intro u x hx
    by_cases hu : u = t
    · subst hu; exact ⟨_, he⟩
    · rw [va_up_ne _ _ hu] at hx; exact ⟨_, hx⟩
  refine ⟨by rw [z]; exact g1, fun u x hx => ?_, fun u v x y hx hy ha => ?_⟩
  · by_cases hu : u = t
    · subst hu
      rw [va_up_self] at hx
      cases hx
      exact ⟨(g2 u e0 he).1, h1⟩
    · rw [va_up_ne _ _ hu] at hx
      refine ⟨(g2 u x hx).1, (g2 u x hx).2.kept (oq _ fun q => hu (g3 u t x e0 hx he q))⟩
  · obtain ⟨x', hx'⟩ := key u x hx
    obtain ⟨y', hy'⟩ := key v y hy
    exact g3 u v x' y' hx' hy' ha
theorem hv.new {D : hG} {N0 : Nat} {ad : Nat → Nat} {ct : hC} {H H1 : Heap} (t : Nat) {e : va_E} (h : hv D N0 ad ct H) (h1 : va_at D.1 vwCl (H.size, e) H1) (oq : ∀ q : Nat, q < H.size → H1[q]? = H[q]?) (z : H.size ≤ H1.size) : hv D N0 (va_up ad t H.size) (va_up ct t (some e)) H1 := by
  obtain ⟨g1, g2, g3⟩ := h
  refine ⟨Nat.le_trans g1 z, fun u x hx => ?_, fun u v x y hx hy ha => ?_⟩
  · by_cases hu : u = t
    · subst hu
      rw [va_up_self] at hx ⊢
      cases hx
      exact ⟨g1, h1⟩
    · rw [va_up_ne _ _ hu] at hx ⊢
      have hl : ad u < H.size := (g2 u x hx).2.lt
      exact ⟨(g2 u x hx).1, (g2 u x hx).2.kept (oq _ hl)⟩
  · by_cases hu : u = t
    · by_cases hw : v = t
      · exact hu.trans hw.symm
      · rw [va_up_ne _ _ hw] at hy
        rw [hu, va_up_self, va_up_ne _ _ hw] at ha
        have hl : ad v < H.size := (g2 v y hy).2.lt
        omega
    · rw [va_up_ne _ _ hu] at hx
      by_cases hw : v = t
      · rw [hw, va_up_self, va_up_ne _ _ hu] at ha
        have hl : ad u < H.size := (g2 u x hx).2.lt
        omega
      · rw [va_up_ne _ _ hw] at hy
        rw [va_up_ne _ _ hu, va_up_ne _ _ hw] at ha
        exact g3 u v x y hx hy ha
def hPc (D : hG) (N0 : Nat) (ad : Nat → Nat) (ct : hC) (av : List Value) : Array Value → State → Prop := va_Pc av (fun U => hK D N0 U ∧ hv D N0 ad ct U.heap)
def hB (D : hG) (N0 : Nat) (u : hU) (t : State) : Prop := hv D N0 u.1 u.2 t.heap
theorem hPc.blind {D : hG} {N0 : Nat} {ad : Nat → Nat} {ct : hC} {av : List Value} : FrameBlind (hPc D N0 ad ct av) := by
  intro a U g mk h
  obtain ⟨h1, h2, h3⟩ := h
  exact ⟨h1, h2.blind, h3⟩
section HV1
variable {p : Program} {l : Launch} {e : Env} {R : Room} {s : State} {m : MethodId} {args : Array Value} {below : List Frame} {meth : Method} {c : Code} {H : Heap} {locs : List Loc} {cells slots : Nat} {Q : State → Prop}
variable {cc : ByteArray} {pc : Nat} {ls : Array Slot} {rest st0 : List Value} {D : hG} {N0 : Nat} {ad : Nat → Nat} {ct : hC} {t : Nat}
theorem hv_preV {ci : Nat} {fs As : List Value} {r : vw_C} (hKs : hK D N0 s) (hV : hv D N0 ad ct H) (hS : va_S (hA N0) s.heap H locs) (he : ct t = some (eO ci fs)) (hc : vwCl[ci]? = some r) : PreV s H r.1 (ad t) (hPc D N0 ad ct (.ref (ad t) :: As)) As :=
  ⟨hPc.blind, va_recv (q0 := 0) hKs.1 (hV.one he) hc rfl, fun U hU hW => ⟨rfl, hKs.to hS hU hW, by rw [hU]; exact hV⟩⟩
theorem hv_preS {As : List Value} (hKs : hK D N0 s) (hV : hv D N0 ad ct H) (hS : va_S (hA N0) s.heap H locs) : PreS s H (hPc D N0 ad ct As) As :=
  ⟨hPc.blind, fun U hU hW => ⟨rfl, hKs.to hS hU hW, by rw [hU]; exact hV⟩⟩
theorem hv_calli {post : Int32 → hU → Prop} {a : Array Value} {mc ms : Nat} (hr : va_Run p l e R s m args below meth c H locs cells slots mc ms (F0 m pc ls st0) rest (va_Qi post (hB D N0) (hA N0) a) (hA N0)) (hS : va_S (hA N0) s.heap H locs)
    (kk : ∀ (r : Int32) (u : hU) (H1 : Heap) (locs1 : List Loc), post r u → hv D N0 u.1 u.2 H1 → va_S (hA N0) s.heap H1 locs1 → W p l e R s m args below meth c H1 locs1 (cells + mc) (slots + ms) Q (F0 m (pc + 3) ls (.int r :: rest))) : W p l e R s m args below meth c H locs cells slots Q (F0 m pc ls st0) :=
  va_calli hr hS (fun _ _ h => h) (fun _ h => h) (fun r u t H1 locs1 ht _ hp hb _ _ hS1 => kk r u H1 locs1 hp (by unfold hB at hb; rw [ht] at hb; exact hb) hS1)
theorem hv_calll {post : Int64 → hU → Prop} {a : Array Value} {mc ms : Nat} (hr : va_Run p l e R s m args below meth c H locs cells slots mc ms (F0 m pc ls st0) rest (va_Ql post (hB D N0) (hA N0) a) (hA N0)) (hS : va_S (hA N0) s.heap H locs)
    (kk : ∀ (r : Int64) (u : hU) (H1 : Heap) (locs1 : List Loc), post r u → hv D N0 u.1 u.2 H1 → va_S (hA N0) s.heap H1 locs1 → W p l e R s m args below meth c H1 locs1 (cells + mc) (slots + ms) Q (F0 m (pc + 3) ls (.long r :: rest))) : W p l e R s m args below meth c H locs cells slots Q (F0 m pc ls st0) :=
  va_calll hr hS (fun _ _ h => h) (fun _ h => h) (fun r u t H1 locs1 ht _ hp hb _ _ hS1 => kk r u H1 locs1 hp (by unfold hB at hb; rw [ht] at hb; exact hb) hS1)
theorem hv_callv {post : hU → Prop} {a : Array Value} {mc ms : Nat} (hr : va_Run p l e R s m args below meth c H locs cells slots mc ms (F0 m pc ls st0) rest (va_Qv post (hB D N0) (hA N0) a) (hA N0)) (hS : va_S (hA N0) s.heap H locs)
    (kk : ∀ (u : hU) (H1 : Heap) (locs1 : List Loc), post u → hv D N0 u.1 u.2 H1 → va_S (hA N0) s.heap H1 locs1 → W p l e R s m args below meth c H1 locs1 (cells + mc) (slots + ms) Q (F0 m (pc + 3) ls rest)) : W p l e R s m args below meth c H locs cells slots Q (F0 m pc ls st0) :=
  va_callv hr hS (fun _ _ h => h) (fun _ h => h) (fun u t H1 locs1 ht _ hp hb _ _ hS1 => kk u H1 locs1 hp (by unfold hB at hb; rw [ht] at hb; exact hb) hS1)
theorem hv_callq {post : Option Nat → hU → Prop} {a : Array Value} {mc ms : Nat} (hr : va_Run p l e R s m args below meth c H locs cells slots mc ms (F0 m pc ls st0) rest (va_Qq post (hB D N0) (hA N0) a) (hA N0)) (hS : va_S (hA N0) s.heap H locs)
    (kk : ∀ (r : Option Nat) (u : hU) (H1 : Heap) (locs1 : List Loc), post r u → hv D N0 u.1 u.2 H1 → va_S (hA N0) s.heap H1 locs1 → W p l e R s m args below meth c H1 locs1 (cells + mc) (slots + ms) Q (F0 m (pc + 3) ls (va_rf r :: rest))) : W p l e R s m args below meth c H locs cells slots Q (F0 m pc ls st0) :=
  va_callq hr hS (fun _ _ h => h) (fun _ h => h) (fun r u t H1 locs1 ht _ hp hb _ _ hS1 => kk r u H1 locs1 hp (by unfold hB at hb; rw [ht] at hb; exact hb) hS1)
end HV1
end
section
/-! THE ROWS OVER THE WORLD BY TAGS -/
section HV2
variable {p : Program} {l : Launch} {e : Env} {R : Room} {s : State} {m : MethodId} {args : Array Value} {below : List Frame} {meth : Method} {c : Code} {H : Heap} {locs : List Loc} {cells slots : Nat} {Q : State → Prop}
variable {cc : ByteArray} {pc : Nat} {ls : Array Slot} {rest : List Value} {D : hG} {N0 : Nat} {ad : Nat → Nat} {ct : hC}
theorem hv_get {own ref C : String} {T : u_T} {N ci index : Nat} {Ts : List Cond} (hexec : p.tables.exec = Jvm.exec) (hb : c.code = cc) (hts : ∀ w ∈ Ts, w.before args s = true) (hin : ∀ w ∈ u_ws C T N, w ∈ Ts) (hown : s.vm.findClass own = some m.cls) (hKs : hK D N0 s) (hV : hv D N0 ad ct H) {t : Nat} {fs : List Value} (he : ct t = some (eO ci fs)) (k : Nat) (hc : vwCl[ci]? = some (C, T, N)) (hk : k < N) (hlink : (Cond.fieldLink own index ref (T k).2.1 (T k).2.2.1).before args s = true) (hsame : ∀ x, s.fieldFound? (T k).1 (T k).2.1 (T k).2.2.1 = some x → s.fieldFound? ref (T k).2.1 (T k).2.2.1 = some x) {v : Value} (hfv : fs[k]? = some v) (hdg : decode cc pc = .ok (.getfield index, 3))
    (kk : W p l e R s m args below meth c H locs cells slots Q (F0 m (pc + 3) ls (v :: rest))) : W p l e R s m args below meth c H locs cells slots Q (F0 m pc ls (.ref (ad t) :: rest)) :=
  va_get hexec hb hts hin hown hKs.1 (hV.one he) 0 rfl hc k hk hlink hsame hfv hdg kk
theorem hv_getN {own ref C host : String} {T : u_T} {N ci index : Nat} {Ts : List Cond} (hexec : p.tables.exec = Jvm.exec) (hb : c.code = cc) (hts : ∀ w ∈ Ts, w.before args s = true) (hin : ∀ w ∈ u_ws C T N, w ∈ Ts) (hown : s.vm.findClass own = some m.cls) (hKs : hK D N0 s) (hV : hv D N0 ad ct H) {t : Nat} {fs : List Value} (he : ct t = some (eO ci fs)) (k : Nat) (hc : vwCl[ci]? = some (C, T, N)) (hk : k < N) (hlink : va_Nw (.fieldLinkNest own index ref (T k).2.1 (T k).2.2.1 host) s) (hsame : ∀ x, s.fieldFound? (T k).1 (T k).2.1 (T k).2.2.1 = some x → s.fieldFound? ref (T k).2.1 (T k).2.2.1 = some x) {v : Value} (hfv : fs[k]? = some v) (hdg : decode cc pc = .ok (.getfield index, 3))
    (kk : W p l e R s m args below meth c H locs cells slots Q (F0 m (pc + 3) ls (v :: rest))) : W p l e R s m args below meth c H locs cells slots Q (F0 m pc ls (.ref (ad t) :: rest)) :=
  va_getN hexec hb hts hin hown hKs.1 (hV.one he) 0 rfl hc k hk (va_Nw.use rfl hlink) hsame hfv hdg kk
theorem hv_put {own ref C : String} {T : u_T} {N ci index : Nat} {Ts : List Cond} (hexec : p.tables.exec = Jvm.exec) (hb : c.code = cc) (hts : ∀ w ∈ Ts, w.before args s = true) (hin : ∀ w ∈ u_ws C T N, w ∈ Ts) (ty0 : Nat → FieldType) (hty : ∀ k, k < N → parseFieldDescriptor (T k).2.2.1 = some (ty0 k)) (hnm : ∀ a, a < N → ∀ b, b < N → a ≠ b → (T a).2.1 ≠ (T b).2.1) (hown : s.vm.findClass own = some m.cls) (hKs : hK D N0 s) (hV : hv D N0 ad ct H) (hS : va_S (hA N0) s.heap H locs) {t : Nat} {fs : List Value} (he : ct t = some (eO ci fs)) (k : Nat) (hc : vwCl[ci]? = some (C, T, N)) (hk : k < N) (hlink : (Cond.fieldLink own index ref (T k).2.1 (T k).2.2.1).before args s = true) (hsame : ∀ x, s.fieldFound? (T k).1 (T k).2.1 (T k).2.2.1 = some x → s.fieldFound? ref (T k).2.1 (T k).2.2.1 = some x) (hfin : (T k).2.2.2 = false ∨ (meth.name = "<init>" ∧ (T k).1 = own)) {ty : FieldType} {v : Value} (hd : parseFieldDescriptor (T k).2.2.1 = some ty) (hn : narrow ty v = v) (hfit : fits ty v = true) (hl : k < fs.length)
    (hdg : decode cc pc = .ok (.putfield index, 3)) (kk : ∀ (ct1 : hC) (H1 : Heap) (locs1 : List Loc), ct1 t = some (eO ci (fs.set k v)) → (∀ q : Nat, q ≠ t → ct1 q = ct q) → hv D N0 ad ct1 H1 → va_S (hA N0) s.heap H1 locs1 → W p l e R s m args below meth c H1 locs1 cells slots Q (F0 m (pc + 3) ls rest)) : W p l e R s m args below meth c H locs cells slots Q (F0 m pc ls (v :: .ref (ad t) :: rest)) := by
  have hap := va_apart (own := own) hts hin ty0 hty hnm hKs.1 hc
  obtain ⟨hN, r, h1, cell, q1, q2, q3, q4⟩ := hV.2.1 t _ he
  have hr : r = (C, T, N) := Option.some.inj (h1.symm.trans hc)
  subst hr
  obtain ⟨hSl, hfc, kC, hkC, hkind⟩ := hKs.1.1 ci _ hc
  obtain ⟨cf, kf, fi, f, hi, hsl⟩ := hSl k hk
  have hlay := hts _ (hin _ (u_in_lay hk))
  unfold u_lay at hlay
  have go : ∀ H' : Heap, H'[ad t]? = some (cell.setSlot f.slot v) → H'.size = H.size → (∀ q, q ≠ ad t → H'[q]? = H[q]?) → W p l e R s m args below meth c H' (locs ++ [⟨ad t, f.slot⟩]) cells slots Q (F0 m (pc + 3) ls rest) := by
    intro H' e1 e2 e3
    rw [hsl] at e1 ⊢
    exact kk (va_up ct t (some (eO ci (fs.set k v)))) H' _ (va_up_self _ _ _) (fun q h => va_up_ne _ _ h) (hV.set he ⟨_, hc, t_OB.to (V := updV (vp_V fs) k v) ⟨_, e1, q2, q3, t_set q4 hap hk v⟩ (fun j _ => vp_updV_set hl v j)⟩ e3 e2) (hS.put e2 e3 hN)
  have hst := (u_facts hfc hkC (u_lays hts hin hk) hi).1
  rcases hfin with hfin | ⟨hin2, hdecl⟩
  · rw [if_neg (by rw [hfin]; decide)] at hlay
    have h6 := u_store hfc hkC hkind hlay hi hd hn hfit
    exact W.putK hexec hb (f := f) ⟨hown, hlink, ⟨_, _, _, hsame _ hi⟩, hst⟩ (by rw [q2]; exact h6) q1 q3 (by rw [hsl]; exact k2_hasslot (q4 k hk)) rfl rfl hdg go
  · have hff : (T k).2.2.2 = true ∨ (T k).2.2.2 = false := by cases (T k).2.2.2 <;> simp
    rcases hff with hff | hff
    · rw [if_pos hff] at hlay
      have hcf : m.cls = cf := by
        obtain ⟨_, _, c', _, _, _, -, -, hf', -, -, -, hown2, -⟩ := Cond.laysFinal_spec hlay
        have e1 : c' = cf := by have := hi.symm.trans hf'; simp at this; exact this.1.symm
        rw [hdecl] at hown2
        rw [← e1]; exact Option.some.inj (hown.symm.trans hown2)
      have h6 := u_fits hfc hkC hkind (Or.inr hlay) hi hd hn hfit
      exact W.putFinK hexec hb hown hlink (hsame _ hi) hst hcf hin2 (by rw [q2]; exact h6) q1 q3 (by rw [hsl]; exact k2_hasslot (q4 k hk)) rfl rfl hdg go
    · rw [if_neg (by rw [hff]; decide)] at hlay
      have h6 := u_store hfc hkC hkind hlay hi hd hn hfit
      exact W.putK hexec hb (f := f) ⟨hown, hlink, ⟨_, _, _, hsame _ hi⟩, hst⟩ (by rw [q2]; exact h6) q1 q3 (by rw [hsl]; exact k2_hasslot (q4 k hk)) rfl rfl hdg go
theorem hv_new {c0 : Code} (hexec : p.tables.exec = Jvm.exec) (hb : c0.code = cc) {own C : String} {T : u_T} {N ci index : Nat} {Ts : List Cond} (hts : ∀ w ∈ Ts, w.before args s = true) (hin : ∀ w ∈ u_ws C T N, w ∈ Ts) (ty : Nat → FieldType) (hty : ∀ k, k < N → parseFieldDescriptor (T k).2.2.1 = some (ty k)) (hown : s.vm.findClass own = some m.cls) (hcl : (Cond.classLink own index C).before args s = true) (hinst : (Cond.instantiable C N).before args s = true) (hini : (Cond.initialized C).before args s = true)
    (hKs : hK D N0 s) (hV : hv D N0 ad ct H) (hS : va_S (hA N0) s.heap H locs) (t : Nat) (hc : vwCl[ci]? = some (C, T, N)) {fs : List Value} (hfs : ∀ j, j < N → defaultValue (ty j) = vp_V fs j) (hcells : cells + 1 ≤ R.cells) (hslots : slots + N ≤ R.slots) (hdg : decode cc pc = .ok (.new index, 3))
    (kk : ∀ (ad1 : Nat → Nat) (ct1 : hC) (H1 : Heap), ct1 t = some (eO ci fs) → (∀ q : Nat, q ≠ t → ct1 q = ct q) → (∀ q : Nat, q ≠ t → ad1 q = ad q) → hv D N0 ad1 ct1 H1 → va_S (hA N0) s.heap H1 locs →
      W p l e R s m args below meth c0 H1 locs (cells + 1) (slots + N) Q (F0 m (pc + 3) ls (.ref (ad1 t) :: rest))) : W p l e R s m args below meth c0 H locs cells slots Q (F0 m pc ls rest) := by
  have hKn := hKs.1.1 ci _ hc
  refine W.newcK hexec hb hown hcl hinst hini rfl hdg hcells hslots hKn.2.1 rfl fun H1 kC hkC e1 z1 o1 => ?_
  have h := kk (va_up ad t H.size) (va_up ct t (some (eO ci fs))) H1 (va_up_self _ _ _) (fun q h => va_up_ne _ _ h) (fun q h => va_up_ne _ _ h) (hV.new t ⟨_, hc, (u_born ty hts hin hKn hkC e1 hty).to hfs⟩ o1 (by omega)) ⟨Nat.le_trans hS.1 (by omega), fun x h1 h2 => (o1 x (Nat.lt_of_lt_of_le h1 hS.1)).trans (hS.2.1 x h1 h2), hS.2.2⟩
  rw [va_up_self] at h
  exact h
theorem hv_newI (hexec : p.tables.exec = Jvm.exec) (hb : c.code = cc) (harr : (Cond.arrayClass .int).before args s = true) (hKs : hK D N0 s) (hV : hv D N0 ad ct H) (hS : va_S (hA N0) s.heap H locs) (t : Nat)
    {n : Nat} (hn : n < 65536) (hcells : cells + 1 ≤ R.cells) (hslots : slots + n ≤ R.slots) (hdg : decode cc pc = .ok (.newarray .int, 2))
    (kk : ∀ (ad1 : Nat → Nat) (ct1 : hC) (H1 : Heap), ct1 t = some (eI D n (fun _ => 0)) → (∀ q : Nat, q ≠ t → ct1 q = ct q) → (∀ q : Nat, q ≠ t → ad1 q = ad q) → hv D N0 ad1 ct1 H1 → va_S (hA N0) s.heap H1 locs →
      W p l e R s m args below meth c H1 locs (cells + 1) (slots + n) Q (F0 m (pc + 2) ls (.ref (ad1 t) :: rest))) : W p l e R s m args below meth c H locs cells slots Q (F0 m pc ls (.int (nI n) :: rest)) := by
  have hb31 : n < 2 ^ 31 := Nat.lt_trans hn (by decide)
  have hle : n * componentBytes (newarray.typeOf .int) ≤ 536870912 := by
    show n * 4 ≤ 536870912
    omega
  refine va_newaK (atype := .int) hexec hb harr rfl hdg rfl (nI_pos hb31) (nI_clamp hb31) hle hcells hslots rfl fun H1 cA e1 z1 o1 hAr hNm => ?_
  have hcA : cA = D.2 0 := Option.some.inj (hNm.symm.trans (hKs.1.2 0 (D.2 0, .int) rfl).2)
  subst hcA
  have h := kk (va_up ad t H.size) (va_up ct t (some (eI D n (fun _ => 0)))) H1 (va_up_self _ _ _) (fun q h => va_up_ne _ _ h) (fun q h => va_up_ne _ _ h) (hV.new t e1 o1 (by omega)) ⟨Nat.le_trans hS.1 (by omega), fun x h1 h2 => (o1 x (Nat.lt_of_lt_of_le h1 hS.1)).trans (hS.2.1 x h1 h2), hS.2.2⟩
  rw [va_up_self] at h
  exact h
theorem hv_iald (hexec : p.tables.exec = Jvm.exec) (hb : c.code = cc) (hKs : hK D N0 s) (hV : hv D N0 ad ct H) {t n i : Nat} {f : Nat → Int32} (he : ct t = some (eI D n f)) (hi : i < n) (hn : n < 2 ^ 31) (hdg : decode cc pc = .ok (.iaload, 1))
    (kk : W p l e R s m args below meth c H locs cells slots Q (F0 m (pc + 1) ls (.int (f i) :: rest))) : W p l e R s m args below meth c H locs cells slots Q (F0 m pc ls (.int (nI i) :: .ref (ad t) :: rest)) := by
  refine va_iald hexec hb hKs.1 (hV.one he) 0 0 rfl rfl (vp_in_nI hi hn) hdg ?_
  rw [nI_clamp (Nat.lt_trans hi hn)]
  exact kk
theorem hv_aald (hexec : p.tables.exec = Jvm.exec) (hb : c.code = cc) (hKs : hK D N0 s) (hV : hv D N0 ad ct H) {t n i : Nat} (k0 : Nat) {cA : ClassId} {C : String} {f : Nat → Option Nat} (he : ct t = some (eQ cA n f)) (ht : (hTy D)[k0]? = some (cA, .object C)) (hi : i < n) (hn : n < 2 ^ 31) (hdg : decode cc pc = .ok (.aaload, 1))
    (kk : W p l e R s m args below meth c H locs cells slots Q (F0 m (pc + 1) ls (va_rf (f i) :: rest))) : W p l e R s m args below meth c H locs cells slots Q (F0 m pc ls (.int (nI i) :: .ref (ad t) :: rest)) := by
  refine va_aldq hexec hb hKs.1 (hV.one he) 0 k0 rfl ht (vp_in_nI hi hn) hdg ?_
  rw [nI_clamp (Nat.lt_trans hi hn)]
  exact kk
theorem hv_lald (hexec : p.tables.exec = Jvm.exec) (hb : c.code = cc) (hKs : hK D N0 s) (hV : hv D N0 ad ct H) {t n i : Nat} {f : Nat → Int64} (he : ct t = some (eL D n f)) (hi : i < n) (hn : n < 2 ^ 31) (hdg : decode cc pc = .ok (.laload, 1))
    (kk : W p l e R s m args below meth c H locs cells slots Q (F0 m (pc + 1) ls (.long (f i) :: rest))) : W p l e R s m args below meth c H locs cells slots Q (F0 m pc ls (.int (nI i) :: .ref (ad t) :: rest)) := by
  refine va_lald hexec hb hKs.1 (hV.one he) 0 3 rfl rfl (vp_in_nI hi hn) hdg ?_
  rw [nI_clamp (Nat.lt_trans hi hn)]
  exact kk
theorem hv_alen (hexec : p.tables.exec = Jvm.exec) (hb : c.code = cc) (hKs : hK D N0 s) (hV : hv D N0 ad ct H) {t : Nat} (k0 : Nat) {cA : ClassId} {ty : FieldType} {x : vp_A} (he : ct t = some (.inl (cA, x))) (ht : (hTy D)[k0]? = some (cA, ty)) (hdg : decode cc pc = .ok (.arraylength, 1))
    (kk : W p l e R s m args below meth c H locs cells slots Q (F0 m (pc + 1) ls (.int (nI x.1) :: rest))) : W p l e R s m args below meth c H locs cells slots Q (F0 m pc ls (.ref (ad t) :: rest)) :=
  va_alen hexec hb hKs.1 (hV.one he) 0 k0 rfl ht rfl hdg kk
theorem hv_iast (hexec : p.tables.exec = Jvm.exec) (hb : c.code = cc) (hKs : hK D N0 s) (hV : hv D N0 ad ct H) (hS : va_S (hA N0) s.heap H locs) {t n i : Nat} {f : Nat → Int32} (he : ct t = some (eI D n f)) (hi : i < n) (hn : n < 2 ^ 31) {x : Int32} (hdg : decode cc pc = .ok (.iastore, 1))
    (kk : ∀ (ct1 : hC) (H1 : Heap) (locs1 : List Loc), ct1 t = some (eI D n (va_up f i x)) → (∀ q : Nat, q ≠ t → ct1 q = ct q) → hv D N0 ad ct1 H1 → va_S (hA N0) s.heap H1 locs1 → W p l e R s m args below meth c H1 locs1 cells slots Q (F0 m (pc + 1) ls rest)) : W p l e R s m args below meth c H locs cells slots Q (F0 m pc ls (.int x :: .int (nI i) :: .ref (ad t) :: rest)) := by
  refine W.iast hexec hb (hV.2.1 t _ he).2 ((hKs.1.2 0 _ rfl).1 n (fun j => .int (f j))) (fun q => by cases q) (by show ¬ (nI i < 0 ∨ (arrV _ _ _).slots.size ≤ _); rw [arrV_size]; exact vp_in_nI hi hn) rfl rfl hdg fun H1 e1 z oq => ?_
  refine kk (va_up ct t (some (eI D n (va_up f i x)))) H1 _ (va_up_self _ _ _) (fun q h => va_up_ne _ _ h) (hV.set he ?_ oq z) (hS.put z oq (hV.2.1 t _ he).1)
  show H1[ad t]? = some (vp_cell _ _)
  rw [e1, nI_clamp (Nat.lt_trans hi hn), vp_cell_i, vp_cell_i, arrV_store]
  congr 2
  funext q
  by_cases hq : q = i
  · subst hq
    simp [updV, va_up]
  · simp [updV, va_up, hq]
theorem hv_last (hexec : p.tables.exec = Jvm.exec) (hb : c.code = cc) (hKs : hK D N0 s) (hV : hv D N0 ad ct H) (hS : va_S (hA N0) s.heap H locs) {t n i : Nat} {f : Nat → Int64} (he : ct t = some (eL D n f)) (hi : i < n) (hn : n < 2 ^ 31) {x : Int64} (hdg : decode cc pc = .ok (.lastore, 1))
    (kk : ∀ (ct1 : hC) (H1 : Heap) (locs1 : List Loc), ct1 t = some (eL D n (va_up f i x)) → (∀ q : Nat, q ≠ t → ct1 q = ct q) → hv D N0 ad ct1 H1 → va_S (hA N0) s.heap H1 locs1 → W p l e R s m args below meth c H1 locs1 cells slots Q (F0 m (pc + 1) ls rest)) : W p l e R s m args below meth c H locs cells slots Q (F0 m pc ls (.long x :: .int (nI i) :: .ref (ad t) :: rest)) := by
  refine W.last hexec hb (hV.2.1 t _ he).2 ((hKs.1.2 3 _ rfl).1 n (fun j => .long (f j))) (fun q => by cases q) (by show ¬ (nI i < 0 ∨ (arrV _ _ _).slots.size ≤ _); rw [arrV_size]; exact vp_in_nI hi hn) rfl rfl hdg fun H1 e1 z oq => ?_
  refine kk (va_up ct t (some (eL D n (va_up f i x)))) H1 _ (va_up_self _ _ _) (fun q h => va_up_ne _ _ h) (hV.set he ?_ oq z) (hS.put z oq (hV.2.1 t _ he).1)
  show H1[ad t]? = some (vp_cell _ _)
  rw [e1, nI_clamp (Nat.lt_trans hi hn), vp_cell_l, vp_cell_l, arrV_store]
  congr 2
  funext q
  by_cases hq : q = i
  · subst hq
    simp [updV, va_up]
  · simp [updV, va_up, hq]
theorem hv_aastN (hexec : p.tables.exec = Jvm.exec) (hb : c.code = cc) (hKs : hK D N0 s) (hV : hv D N0 ad ct H) (hS : va_S (hA N0) s.heap H locs) {t n i : Nat} (k0 : Nat) {cA : ClassId} {C : String} {f : Nat → Option Nat} (he : ct t = some (eQ cA n f)) (ht : (hTy D)[k0]? = some (cA, .object C)) (hi : i < n) (hn : n < 2 ^ 31) (hdg : decode cc pc = .ok (.aastore, 1))
    (kk : ∀ (ct1 : hC) (H1 : Heap) (locs1 : List Loc), ct1 t = some (eQ cA n (va_up f i none)) → (∀ q : Nat, q ≠ t → ct1 q = ct q) → hv D N0 ad ct1 H1 → va_S (hA N0) s.heap H1 locs1 → W p l e R s m args below meth c H1 locs1 cells slots Q (F0 m (pc + 1) ls rest)) : W p l e R s m args below meth c H locs cells slots Q (F0 m pc ls (.null :: .int (nI i) :: .ref (ad t) :: rest)) := by
  refine va_WaastN (C := C) hexec hb (hV.2.1 t _ he).2 ((hKs.1.2 k0 _ ht).1 n (fun j => va_rf (f j))) (fun h => by cases h) (by show ¬ (nI i < 0 ∨ (arrV _ _ _).slots.size ≤ _); rw [arrV_size]; exact vp_in_nI hi hn) rfl rfl hdg fun H1 e1 z oq => ?_
  refine kk (va_up ct t (some (eQ cA n (va_up f i none)))) H1 _ (va_up_self _ _ _) (fun q h => va_up_ne _ _ h) (hV.set he ?_ oq z) (hS.put z oq (hV.2.1 t _ he).1)
  show H1[ad t]? = some (vp_cell _ _)
  rw [e1, nI_clamp (Nat.lt_trans hi hn), vp_cell_q, vp_cell_q, arrV_store]
  congr 2
  funext q
  by_cases hq : q = i
  · subst hq
    simp [updV, va_up, va_rf]
  · simp [updV, va_up, hq]
theorem hv_aast (hexec : p.tables.exec = Jvm.exec) (hb : c.code = cc) (hKs : hK D N0 s) (hV : hv D N0 ad ct H) (hS : va_S (hA N0) s.heap H locs) {t n i v : Nat} (k0 : Nat) {cA : ClassId} {r : vw_C} {ci : Nat} {vs : List Value} {f : Nat → Option Nat} (he : ct t = some (eQ cA n f)) (ht : (hTy D)[k0]? = some (cA, .object r.1)) (hvv : ct v = some (eO ci vs)) (hc : vwCl[ci]? = some r) (hi : i < n) (hn : n < 2 ^ 31) (hdg : decode cc pc = .ok (.aastore, 1))
    (kk : ∀ (ct1 : hC) (H1 : Heap) (locs1 : List Loc), ct1 t = some (eQ cA n (va_up f i (some (ad v)))) → (∀ q : Nat, q ≠ t → ct1 q = ct q) → hv D N0 ad ct1 H1 → va_S (hA N0) s.heap H1 locs1 → W p l e R s m args below meth c H1 locs1 cells slots Q (F0 m (pc + 1) ls rest)) : W p l e R s m args below meth c H locs cells slots Q (F0 m pc ls (.ref (ad v) :: .int (nI i) :: .ref (ad t) :: rest)) := by
  have hlt : (nI i).toNatClampNeg < n := by rw [nI_clamp (Nat.lt_trans hi hn)]; exact hi
  have h0 : ¬ nI i < 0 := nI_pos (Nat.lt_trans hi hn)
  obtain ⟨-, r', hr', cellV, g1, g2, g3, -⟩ := hV.2.1 v _ hvv
  have hcls := (hKs.1.1 ci r hc).2
  obtain ⟨kA, comp, k1, k2, k3, -⟩ := (hKs.1.2 k0 _ ht).2
  have hcomp : comp = D.1.1 ci := Option.some.inj (k3.symm.trans hcls.1)
  subst hcomp
  obtain ⟨kC, hkC, -⟩ := hcls.2
  refine W.aast hexec hb (hV.2.1 t _ he).2 (fun q h => by cases h) (fun h => by cases h) k1 k2 rfl hkC ⟨h0, by show _ < (arrV _ _ _).slots.size; rw [arrV_size]; exact hlt⟩ g1 (fun q h => by rw [g3] at h; cases h) (by rw [g2]; exact hkC) (by rw [g2]; exact va_assign hcls) rfl rfl hdg fun H1 e1 z oq => ?_
  refine kk (va_up ct t (some (eQ cA n (va_up f i (some (ad v)))))) H1 _ (va_up_self _ _ _) (fun q h => va_up_ne _ _ h) (hV.set he ?_ oq z) (hS.put z oq (hV.2.1 t _ he).1)
  show H1[ad t]? = some (vp_cell _ _)
  rw [e1, nI_clamp (Nat.lt_trans hi hn), vp_cell_q, vp_cell_q, arrV_store]
  congr 2
  funext q
  by_cases hq : q = i
  · subst hq
    simp [updV, va_up, va_rf]
  · simp [updV, va_up, hq]
-- other shapes of a value on the stack
theorem hv_eq {v w : Value} (h : v = w) (kk : W p l e R s m args below meth c H locs cells slots Q (F0 m pc ls (w :: rest))) : W p l e R s m args below meth c H locs cells slots Q (F0 m pc ls (v :: rest)) := h ▸ kk
theorem hv_eqi {x y : Int32} (h : x = y) (kk : W p l e R s m args below meth c H locs cells slots Q (F0 m pc ls (.int y :: rest))) : W p l e R s m args below meth c H locs cells slots Q (F0 m pc ls (.int x :: rest)) := h ▸ kk
-- numbers that are no less than 0
theorem hN_iadd (hexec : p.tables.exec = Jvm.exec) (hb : c.code = cc) {a b : Nat} (hdg : decode cc pc = .ok (.iadd, 1)) (k : W p l e R s m args below meth c H locs cells slots Q (F0 m (pc + 1) ls (.int (nI (a + b)) :: rest))) : W p l e R s m args below meth c H locs cells slots Q (F0 m pc ls (.int (nI b) :: .int (nI a) :: rest)) :=
  lv_iadd hexec hb hdg (by rw [nI_add]; exact k)
theorem hN_imul (hexec : p.tables.exec = Jvm.exec) (hb : c.code = cc) {a b : Nat} (hdg : decode cc pc = .ok (.imul, 1)) (k : W p l e R s m args below meth c H locs cells slots Q (F0 m (pc + 1) ls (.int (nI (a * b)) :: rest))) : W p l e R s m args below meth c H locs cells slots Q (F0 m pc ls (.int (nI b) :: .int (nI a) :: rest)) :=
  lv_imul hexec hb hdg (by rw [pk_mul]; exact k)
theorem hN_isub (hexec : p.tables.exec = Jvm.exec) (hb : c.code = cc) {a b : Nat} (h : b ≤ a) (hdg : decode cc pc = .ok (.isub, 1)) (k : W p l e R s m args below meth c H locs cells slots Q (F0 m (pc + 1) ls (.int (nI (a - b)) :: rest))) : W p l e R s m args below meth c H locs cells slots Q (F0 m pc ls (.int (nI b) :: .int (nI a) :: rest)) :=
  lv_isub hexec hb hdg (by rw [pk_sub h]; exact k)
theorem hN_idiv (hexec : p.tables.exec = Jvm.exec) (hb : c.code = cc) {a b : Nat} (ha : a < 2 ^ 31) (h0 : 0 < b) (hb31 : b < 2 ^ 31) (hdg : decode cc pc = .ok (.idiv, 1)) (k : W p l e R s m args below meth c H locs cells slots Q (F0 m (pc + 1) ls (.int (nI (a / b)) :: rest))) : W p l e R s m args below meth c H locs cells slots Q (F0 m pc ls (.int (nI b) :: .int (nI a) :: rest)) :=
  lv_idiv hexec hb hdg (nI_ne0 h0 hb31) (by rw [pk_div ha h0 hb31]; exact k)
theorem hN_irem (hexec : p.tables.exec = Jvm.exec) (hb : c.code = cc) {a b : Nat} (ha : a < 2 ^ 31) (h0 : 0 < b) (hb31 : b < 2 ^ 31) (hdg : decode cc pc = .ok (.irem, 1)) (k : W p l e R s m args below meth c H locs cells slots Q (F0 m (pc + 1) ls (.int (nI (a % b)) :: rest))) : W p l e R s m args below meth c H locs cells slots Q (F0 m pc ls (.int (nI b) :: .int (nI a) :: rest)) :=
  lv_irem hexec hb hdg (nI_ne0 h0 hb31) (by rw [pk_rem ha h0 hb31]; exact k)
end HV2
end
section
section HV3
variable {p : Program} {l : Launch} {e : Env} {R : Room} {s : State} {m : MethodId} {args : Array Value} {below : List Frame} {meth : Method} {c : Code} {H : Heap} {locs : List Loc} {cells slots : Nat} {Q : State → Prop}
variable {cc : ByteArray} {pc : Nat} {ls : Array Slot} {rest : List Value}
theorem hI_eq {x y : Int32} : x = y ↔ x.toInt = y.toInt := ⟨fun h => by rw [h], fun h => Int32.toInt_inj.mp h⟩
theorem hN_icmp_eq (hexec : p.tables.exec = Jvm.exec) (hb : c.code = cc) {a b : Nat} {off : Int} {tgt : Nat} (ha : a < 2 ^ 31) (hb31 : b < 2 ^ 31) (hdg : decode cc pc = .ok (.if_icmp .eq off, 3)) (ht : (pc : Int) + off = (tgt : Int)) (kt : a = b → W p l e R s m args below meth c H locs cells slots Q (F0 m tgt ls rest)) (kf : a ≠ b → W p l e R s m args below meth c H locs cells slots Q (F0 m (pc + 3) ls rest)) : W p l e R s m args below meth c H locs cells slots Q (F0 m pc ls (.int (nI b) :: .int (nI a) :: rest)) :=
  lv_icmp_eq hexec hb hdg ht (fun h => kt ((nI_eq ha hb31).mp h)) (fun h => kf (fun q => h ((nI_eq ha hb31).mpr q)))
theorem hN_icmp_ne (hexec : p.tables.exec = Jvm.exec) (hb : c.code = cc) {a b : Nat} {off : Int} {tgt : Nat} (ha : a < 2 ^ 31) (hb31 : b < 2 ^ 31) (hdg : decode cc pc = .ok (.if_icmp .ne off, 3)) (ht : (pc : Int) + off = (tgt : Int)) (kt : a ≠ b → W p l e R s m args below meth c H locs cells slots Q (F0 m tgt ls rest)) (kf : a = b → W p l e R s m args below meth c H locs cells slots Q (F0 m (pc + 3) ls rest)) : W p l e R s m args below meth c H locs cells slots Q (F0 m pc ls (.int (nI b) :: .int (nI a) :: rest)) :=
  lv_icmp_ne hexec hb hdg ht (fun h => kt (fun q => h ((nI_eq ha hb31).mpr q))) (fun h => kf ((nI_eq ha hb31).mp h))
theorem hN_icmp_lt (hexec : p.tables.exec = Jvm.exec) (hb : c.code = cc) {a b : Nat} {off : Int} {tgt : Nat} (ha : a < 2 ^ 31) (hb31 : b < 2 ^ 31) (hdg : decode cc pc = .ok (.if_icmp .lt off, 3)) (ht : (pc : Int) + off = (tgt : Int)) (kt : a < b → W p l e R s m args below meth c H locs cells slots Q (F0 m tgt ls rest)) (kf : b ≤ a → W p l e R s m args below meth c H locs cells slots Q (F0 m (pc + 3) ls rest)) : W p l e R s m args below meth c H locs cells slots Q (F0 m pc ls (.int (nI b) :: .int (nI a) :: rest)) :=
  lv_icmp_lt hexec hb hdg ht (fun h => kt ((nI_ltI ha hb31).mp h)) (fun h => kf (Nat.not_lt.mp fun q => h ((nI_ltI ha hb31).mpr q)))
theorem hN_icmp_ge (hexec : p.tables.exec = Jvm.exec) (hb : c.code = cc) {a b : Nat} {off : Int} {tgt : Nat} (ha : a < 2 ^ 31) (hb31 : b < 2 ^ 31) (hdg : decode cc pc = .ok (.if_icmp .ge off, 3)) (ht : (pc : Int) + off = (tgt : Int)) (kt : b ≤ a → W p l e R s m args below meth c H locs cells slots Q (F0 m tgt ls rest)) (kf : a < b → W p l e R s m args below meth c H locs cells slots Q (F0 m (pc + 3) ls rest)) : W p l e R s m args below meth c H locs cells slots Q (F0 m pc ls (.int (nI b) :: .int (nI a) :: rest)) :=
  lv_icmp_ge hexec hb hdg ht (fun h => kt ((nI_leI hb31 ha).mp h)) (fun h => kf (Nat.not_le.mp fun q => h ((nI_leI hb31 ha).mpr q)))
theorem hN_icmp_gt (hexec : p.tables.exec = Jvm.exec) (hb : c.code = cc) {a b : Nat} {off : Int} {tgt : Nat} (ha : a < 2 ^ 31) (hb31 : b < 2 ^ 31) (hdg : decode cc pc = .ok (.if_icmp .gt off, 3)) (ht : (pc : Int) + off = (tgt : Int)) (kt : b < a → W p l e R s m args below meth c H locs cells slots Q (F0 m tgt ls rest)) (kf : a ≤ b → W p l e R s m args below meth c H locs cells slots Q (F0 m (pc + 3) ls rest)) : W p l e R s m args below meth c H locs cells slots Q (F0 m pc ls (.int (nI b) :: .int (nI a) :: rest)) :=
  lv_icmp_gt hexec hb hdg ht (fun h => kt ((nI_ltI hb31 ha).mp h)) (fun h => kf (Nat.not_lt.mp fun q => h ((nI_ltI hb31 ha).mpr q)))
theorem hN_icmp_le (hexec : p.tables.exec = Jvm.exec) (hb : c.code = cc) {a b : Nat} {off : Int} {tgt : Nat} (ha : a < 2 ^ 31) (hb31 : b < 2 ^ 31) (hdg : decode cc pc = .ok (.if_icmp .le off, 3)) (ht : (pc : Int) + off = (tgt : Int)) (kt : a ≤ b → W p l e R s m args below meth c H locs cells slots Q (F0 m tgt ls rest)) (kf : b < a → W p l e R s m args below meth c H locs cells slots Q (F0 m (pc + 3) ls rest)) : W p l e R s m args below meth c H locs cells slots Q (F0 m pc ls (.int (nI b) :: .int (nI a) :: rest)) :=
  lv_icmp_le hexec hb hdg ht (fun h => kt ((nI_leI ha hb31).mp h)) (fun h => kf (Nat.not_le.mp fun q => h ((nI_leI ha hb31).mpr q)))
theorem hI_icmp_eq (hexec : p.tables.exec = Jvm.exec) (hb : c.code = cc) {x y : Int32} {off : Int} {tgt : Nat} (hdg : decode cc pc = .ok (.if_icmp .eq off, 3)) (ht : (pc : Int) + off = (tgt : Int)) (kt : x.toInt = y.toInt → W p l e R s m args below meth c H locs cells slots Q (F0 m tgt ls rest)) (kf : x.toInt ≠ y.toInt → W p l e R s m args below meth c H locs cells slots Q (F0 m (pc + 3) ls rest)) : W p l e R s m args below meth c H locs cells slots Q (F0 m pc ls (.int y :: .int x :: rest)) :=
  lv_icmp_eq hexec hb hdg ht (fun h => kt (hI_eq.mp h)) (fun h => kf (fun q => h (hI_eq.mpr q)))
theorem hI_icmp_ne (hexec : p.tables.exec = Jvm.exec) (hb : c.code = cc) {x y : Int32} {off : Int} {tgt : Nat} (hdg : decode cc pc = .ok (.if_icmp .ne off, 3)) (ht : (pc : Int) + off = (tgt : Int)) (kt : x.toInt ≠ y.toInt → W p l e R s m args below meth c H locs cells slots Q (F0 m tgt ls rest)) (kf : x.toInt = y.toInt → W p l e R s m args below meth c H locs cells slots Q (F0 m (pc + 3) ls rest)) : W p l e R s m args below meth c H locs cells slots Q (F0 m pc ls (.int y :: .int x :: rest)) :=
  lv_icmp_ne hexec hb hdg ht (fun h => kt (fun q => h (hI_eq.mpr q))) (fun h => kf (hI_eq.mp h))
theorem hI_icmp_lt (hexec : p.tables.exec = Jvm.exec) (hb : c.code = cc) {x y : Int32} {off : Int} {tgt : Nat} (hdg : decode cc pc = .ok (.if_icmp .lt off, 3)) (ht : (pc : Int) + off = (tgt : Int)) (kt : x.toInt < y.toInt → W p l e R s m args below meth c H locs cells slots Q (F0 m tgt ls rest)) (kf : y.toInt ≤ x.toInt → W p l e R s m args below meth c H locs cells slots Q (F0 m (pc + 3) ls rest)) : W p l e R s m args below meth c H locs cells slots Q (F0 m pc ls (.int y :: .int x :: rest)) :=
  lv_icmp_lt hexec hb hdg ht (fun h => kt (Int32.lt_iff_toInt_lt.mp h)) (fun h => kf (Int.not_lt.mp fun q => h (Int32.lt_iff_toInt_lt.mpr q)))
theorem hI_icmp_ge (hexec : p.tables.exec = Jvm.exec) (hb : c.code = cc) {x y : Int32} {off : Int} {tgt : Nat} (hdg : decode cc pc = .ok (.if_icmp .ge off, 3)) (ht : (pc : Int) + off = (tgt : Int)) (kt : y.toInt ≤ x.toInt → W p l e R s m args below meth c H locs cells slots Q (F0 m tgt ls rest)) (kf : x.toInt < y.toInt → W p l e R s m args below meth c H locs cells slots Q (F0 m (pc + 3) ls rest)) : W p l e R s m args below meth c H locs cells slots Q (F0 m pc ls (.int y :: .int x :: rest)) :=
  lv_icmp_ge hexec hb hdg ht (fun h => kt (Int32.le_iff_toInt_le.mp h)) (fun h => kf (Int.not_le.mp fun q => h (Int32.le_iff_toInt_le.mpr q)))
theorem hI_icmp_gt (hexec : p.tables.exec = Jvm.exec) (hb : c.code = cc) {x y : Int32} {off : Int} {tgt : Nat} (hdg : decode cc pc = .ok (.if_icmp .gt off, 3)) (ht : (pc : Int) + off = (tgt : Int)) (kt : y.toInt < x.toInt → W p l e R s m args below meth c H locs cells slots Q (F0 m tgt ls rest)) (kf : x.toInt ≤ y.toInt → W p l e R s m args below meth c H locs cells slots Q (F0 m (pc + 3) ls rest)) : W p l e R s m args below meth c H locs cells slots Q (F0 m pc ls (.int y :: .int x :: rest)) :=
  lv_icmp_gt hexec hb hdg ht (fun h => kt (Int32.lt_iff_toInt_lt.mp h)) (fun h => kf (Int.not_lt.mp fun q => h (Int32.lt_iff_toInt_lt.mpr q)))
theorem hI_icmp_le (hexec : p.tables.exec = Jvm.exec) (hb : c.code = cc) {x y : Int32} {off : Int} {tgt : Nat} (hdg : decode cc pc = .ok (.if_icmp .le off, 3)) (ht : (pc : Int) + off = (tgt : Int)) (kt : x.toInt ≤ y.toInt → W p l e R s m args below meth c H locs cells slots Q (F0 m tgt ls rest)) (kf : y.toInt < x.toInt → W p l e R s m args below meth c H locs cells slots Q (F0 m (pc + 3) ls rest)) : W p l e R s m args below meth c H locs cells slots Q (F0 m pc ls (.int y :: .int x :: rest)) :=
  lv_icmp_le hexec hb hdg ht (fun h => kt (Int32.le_iff_toInt_le.mp h)) (fun h => kf (Int.not_le.mp fun q => h (Int32.le_iff_toInt_le.mpr q)))
theorem hR_icmp_eq (hexec : p.tables.exec = Jvm.exec) (hb : c.code = cc) {x : Int32} {b : Nat} {off : Int} {tgt : Nat} (hb31 : b < 2 ^ 31) (hdg : decode cc pc = .ok (.if_icmp .eq off, 3)) (ht : (pc : Int) + off = (tgt : Int)) (kt : x.toInt = (b : Int) → W p l e R s m args below meth c H locs cells slots Q (F0 m tgt ls rest)) (kf : x.toInt ≠ (b : Int) → W p l e R s m args below meth c H locs cells slots Q (F0 m (pc + 3) ls rest)) : W p l e R s m args below meth c H locs cells slots Q (F0 m pc ls (.int (nI b) :: .int x :: rest)) :=
  hI_icmp_eq hexec hb hdg ht (fun h => kt (by rw [nI_toInt hb31] at h; exact h)) (fun h => kf (by rw [nI_toInt hb31] at h; exact h))
theorem hL_icmp_eq (hexec : p.tables.exec = Jvm.exec) (hb : c.code = cc) {y : Int32} {a : Nat} {off : Int} {tgt : Nat} (ha31 : a < 2 ^ 31) (hdg : decode cc pc = .ok (.if_icmp .eq off, 3)) (ht : (pc : Int) + off = (tgt : Int)) (kt : (a : Int) = y.toInt → W p l e R s m args below meth c H locs cells slots Q (F0 m tgt ls rest)) (kf : (a : Int) ≠ y.toInt → W p l e R s m args below meth c H locs cells slots Q (F0 m (pc + 3) ls rest)) : W p l e R s m args below meth c H locs cells slots Q (F0 m pc ls (.int y :: .int (nI a) :: rest)) :=
  hI_icmp_eq hexec hb hdg ht (fun h => kt (by rw [nI_toInt ha31] at h; exact h)) (fun h => kf (by rw [nI_toInt ha31] at h; exact h))
theorem hR_icmp_ne (hexec : p.tables.exec = Jvm.exec) (hb : c.code = cc) {x : Int32} {b : Nat} {off : Int} {tgt : Nat} (hb31 : b < 2 ^ 31) (hdg : decode cc pc = .ok (.if_icmp .ne off, 3)) (ht : (pc : Int) + off = (tgt : Int)) (kt : x.toInt ≠ (b : Int) → W p l e R s m args below meth c H locs cells slots Q (F0 m tgt ls rest)) (kf : x.toInt = (b : Int) → W p l e R s m args below meth c H locs cells slots Q (F0 m (pc + 3) ls rest)) : W p l e R s m args below meth c H locs cells slots Q (F0 m pc ls (.int (nI b) :: .int x :: rest)) :=
  hI_icmp_ne hexec hb hdg ht (fun h => kt (by rw [nI_toInt hb31] at h; exact h)) (fun h => kf (by rw [nI_toInt hb31] at h; exact h))
theorem hL_icmp_ne (hexec : p.tables.exec = Jvm.exec) (hb : c.code = cc) {y : Int32} {a : Nat} {off : Int} {tgt : Nat} (ha31 : a < 2 ^ 31) (hdg : decode cc pc = .ok (.if_icmp .ne off, 3)) (ht : (pc : Int) + off = (tgt : Int)) (kt : (a : Int) ≠ y.toInt → W p l e R s m args below meth c H locs cells slots Q (F0 m tgt ls rest)) (kf : (a : Int) = y.toInt → W p l e R s m args below meth c H locs cells slots Q (F0 m (pc + 3) ls rest)) : W p l e R s m args below meth c H locs cells slots Q (F0 m pc ls (.int y :: .int (nI a) :: rest)) :=
  hI_icmp_ne hexec hb hdg ht (fun h => kt (by rw [nI_toInt ha31] at h; exact h)) (fun h => kf (by rw [nI_toInt ha31] at h; exact h))
theorem hR_icmp_lt (hexec : p.tables.exec = Jvm.exec) (hb : c.code = cc) {x : Int32} {b : Nat} {off : Int} {tgt : Nat} (hb31 : b < 2 ^ 31) (hdg : decode cc pc = .ok (.if_icmp .lt off, 3)) (ht : (pc : Int) + off = (tgt : Int)) (kt : x.toInt < (b : Int) → W p l e R s m args below meth c H locs cells slots Q (F0 m tgt ls rest)) (kf : (b : Int) ≤ x.toInt → W p l e R s m args below meth c H locs cells slots Q (F0 m (pc + 3) ls rest)) : W p l e R s m args below meth c H locs cells slots Q (F0 m pc ls (.int (nI b) :: .int x :: rest)) :=
  hI_icmp_lt hexec hb hdg ht (fun h => kt (by rw [nI_toInt hb31] at h; exact h)) (fun h => kf (by rw [nI_toInt hb31] at h; exact h))
theorem hL_icmp_lt (hexec : p.tables.exec = Jvm.exec) (hb : c.code = cc) {y : Int32} {a : Nat} {off : Int} {tgt : Nat} (ha31 : a < 2 ^ 31) (hdg : decode cc pc = .ok (.if_icmp .lt off, 3)) (ht : (pc : Int) + off = (tgt : Int)) (kt : (a : Int) < y.toInt → W p l e R s m args below meth c H locs cells slots Q (F0 m tgt ls rest)) (kf : y.toInt ≤ (a : Int) → W p l e R s m args below meth c H locs cells slots Q (F0 m (pc + 3) ls rest)) : W p l e R s m args below meth c H locs cells slots Q (F0 m pc ls (.int y :: .int (nI a) :: rest)) :=
  hI_icmp_lt hexec hb hdg ht (fun h => kt (by rw [nI_toInt ha31] at h; exact h)) (fun h => kf (by rw [nI_toInt ha31] at h; exact h))
theorem hR_icmp_ge (hexec : p.tables.exec = Jvm.exec) (hb : c.code = cc) {x : Int32} {b : Nat} {off : Int} {tgt : Nat} (hb31 : b < 2 ^ 31) (hdg : decode cc pc = .ok (.if_icmp .ge off, 3)) (ht : (pc : Int) + off = (tgt : Int)) (kt : (b : Int) ≤ x.toInt → W p l e R s m args below meth c H locs cells slots Q (F0 m tgt ls rest)) (kf : x.toInt < (b : Int) → W p l e R s m args below meth c H locs cells slots Q (F0 m (pc + 3) ls rest)) : W p l e R s m args below meth c H locs cells slots Q (F0 m pc ls (.int (nI b) :: .int x :: rest)) :=
  hI_icmp_ge hexec hb hdg ht (fun h => kt (by rw [nI_toInt hb31] at h; exact h)) (fun h => kf (by rw [nI_toInt hb31] at h; exact h))
theorem hL_icmp_ge (hexec : p.tables.exec = Jvm.exec) (hb : c.code = cc) {y : Int32} {a : Nat} {off : Int} {tgt : Nat} (ha31 : a < 2 ^ 31) (hdg : decode cc pc = .ok (.if_icmp .ge off, 3)) (ht : (pc : Int) + off = (tgt : Int)) (kt : y.toInt ≤ (a : Int) → W p l e R s m args below meth c H locs cells slots Q (F0 m tgt ls rest)) (kf : (a : Int) < y.toInt → W p l e R s m args below meth c H locs cells slots Q (F0 m (pc + 3) ls rest)) : W p l e R s m args below meth c H locs cells slots Q (F0 m pc ls (.int y :: .int (nI a) :: rest)) :=
  hI_icmp_ge hexec hb hdg ht (fun h => kt (by rw [nI_toInt ha31] at h; exact h)) (fun h => kf (by rw [nI_toInt ha31] at h; exact h))
theorem hR_icmp_gt (hexec : p.tables.exec = Jvm.exec) (hb : c.code = cc) {x : Int32} {b : Nat} {off : Int} {tgt : Nat} (hb31 : b < 2 ^ 31) (hdg : decode cc pc = .ok (.if_icmp .gt off, 3)) (ht : (pc : Int) + off = (tgt : Int)) (kt : (b : Int) < x.toInt → W p l e R s m args below meth c H locs cells slots Q (F0 m tgt ls rest)) (kf : x.toInt ≤ (b : Int) → W p l e R s m args below meth c H locs cells slots Q (F0 m (pc + 3) ls rest)) : W p l e R s m args below meth c H locs cells slots Q (F0 m pc ls (.int (nI b) :: .int x :: rest)) :=
  hI_icmp_gt hexec hb hdg ht (fun h => kt (by rw [nI_toInt hb31] at h; exact h)) (fun h => kf (by rw [nI_toInt hb31] at h; exact h))
theorem hL_icmp_gt (hexec : p.tables.exec = Jvm.exec) (hb : c.code = cc) {y : Int32} {a : Nat} {off : Int} {tgt : Nat} (ha31 : a < 2 ^ 31) (hdg : decode cc pc = .ok (.if_icmp .gt off, 3)) (ht : (pc : Int) + off = (tgt : Int)) (kt : y.toInt < (a : Int) → W p l e R s m args below meth c H locs cells slots Q (F0 m tgt ls rest)) (kf : (a : Int) ≤ y.toInt → W p l e R s m args below meth c H locs cells slots Q (F0 m (pc + 3) ls rest)) : W p l e R s m args below meth c H locs cells slots Q (F0 m pc ls (.int y :: .int (nI a) :: rest)) :=
  hI_icmp_gt hexec hb hdg ht (fun h => kt (by rw [nI_toInt ha31] at h; exact h)) (fun h => kf (by rw [nI_toInt ha31] at h; exact h))
theorem hR_icmp_le (hexec : p.tables.exec = Jvm.exec) (hb : c.code = cc) {x : Int32} {b : Nat} {off : Int} {tgt : Nat} (hb31 : b < 2 ^ 31) (hdg : decode cc pc = .ok (.if_icmp .le off, 3)) (ht : (pc : Int) + off = (tgt : Int)) (kt : x.toInt ≤ (b : Int) → W p l e R s m args below meth c H locs cells slots Q (F0 m tgt ls rest)) (kf : (b : Int) < x.toInt → W p l e R s m args below meth c H locs cells slots Q (F0 m (pc + 3) ls rest)) : W p l e R s m args below meth c H locs cells slots Q (F0 m pc ls (.int (nI b) :: .int x :: rest)) :=
  hI_icmp_le hexec hb hdg ht (fun h => kt (by rw [nI_toInt hb31] at h; exact h)) (fun h => kf (by rw [nI_toInt hb31] at h; exact h))
theorem hL_icmp_le (hexec : p.tables.exec = Jvm.exec) (hb : c.code = cc) {y : Int32} {a : Nat} {off : Int} {tgt : Nat} (ha31 : a < 2 ^ 31) (hdg : decode cc pc = .ok (.if_icmp .le off, 3)) (ht : (pc : Int) + off = (tgt : Int)) (kt : (a : Int) ≤ y.toInt → W p l e R s m args below meth c H locs cells slots Q (F0 m tgt ls rest)) (kf : y.toInt < (a : Int) → W p l e R s m args below meth c H locs cells slots Q (F0 m (pc + 3) ls rest)) : W p l e R s m args below meth c H locs cells slots Q (F0 m pc ls (.int y :: .int (nI a) :: rest)) :=
  hI_icmp_le hexec hb hdg ht (fun h => kt (by rw [nI_toInt ha31] at h; exact h)) (fun h => kf (by rw [nI_toInt ha31] at h; exact h))
theorem hI_if_eq (hexec : p.tables.exec = Jvm.exec) (hb : c.code = cc) {x : Int32} {off : Int} {tgt : Nat} (hdg : decode cc pc = .ok (.ifCond .eq off, 3)) (ht : (pc : Int) + off = (tgt : Int)) (kt : x.toInt = 0 → W p l e R s m args below meth c H locs cells slots Q (F0 m tgt ls rest)) (kf : x.toInt ≠ 0 → W p l e R s m args below meth c H locs cells slots Q (F0 m (pc + 3) ls rest)) : W p l e R s m args below meth c H locs cells slots Q (F0 m pc ls (.int x :: rest)) :=
  lv_if_eq hexec hb hdg ht (fun h => kt (by rw [hI_eq, Int32.toInt_zero] at h; exact h)) (fun h => kf (by rw [hI_eq, Int32.toInt_zero] at h; exact h))
theorem hI_if_ne (hexec : p.tables.exec = Jvm.exec) (hb : c.code = cc) {x : Int32} {off : Int} {tgt : Nat} (hdg : decode cc pc = .ok (.ifCond .ne off, 3)) (ht : (pc : Int) + off = (tgt : Int)) (kt : x.toInt ≠ 0 → W p l e R s m args below meth c H locs cells slots Q (F0 m tgt ls rest)) (kf : x.toInt = 0 → W p l e R s m args below meth c H locs cells slots Q (F0 m (pc + 3) ls rest)) : W p l e R s m args below meth c H locs cells slots Q (F0 m pc ls (.int x :: rest)) :=
  lv_if_ne hexec hb hdg ht (fun h => kt (by rw [hI_eq, Int32.toInt_zero] at h; exact h)) (fun h => kf (by rw [hI_eq, Int32.toInt_zero] at h; exact h))
theorem hI_if_lt (hexec : p.tables.exec = Jvm.exec) (hb : c.code = cc) {x : Int32} {off : Int} {tgt : Nat} (hdg : decode cc pc = .ok (.ifCond .lt off, 3)) (ht : (pc : Int) + off = (tgt : Int)) (kt : x.toInt < 0 → W p l e R s m args below meth c H locs cells slots Q (F0 m tgt ls rest)) (kf : 0 ≤ x.toInt → W p l e R s m args below meth c H locs cells slots Q (F0 m (pc + 3) ls rest)) : W p l e R s m args below meth c H locs cells slots Q (F0 m pc ls (.int x :: rest)) :=
  lv_if_lt hexec hb hdg ht (fun h => kt (by rw [Int32.lt_iff_toInt_lt, Int32.toInt_zero] at h; exact h)) (fun h => kf (by rw [Int32.lt_iff_toInt_lt, Int32.toInt_zero] at h; omega))
theorem hI_if_ge (hexec : p.tables.exec = Jvm.exec) (hb : c.code = cc) {x : Int32} {off : Int} {tgt : Nat} (hdg : decode cc pc = .ok (.ifCond .ge off, 3)) (ht : (pc : Int) + off = (tgt : Int)) (kt : 0 ≤ x.toInt → W p l e R s m args below meth c H locs cells slots Q (F0 m tgt ls rest)) (kf : x.toInt < 0 → W p l e R s m args below meth c H locs cells slots Q (F0 m (pc + 3) ls rest)) : W p l e R s m args below meth c H locs cells slots Q (F0 m pc ls (.int x :: rest)) :=
  lv_if_ge hexec hb hdg ht (fun h => kt (by rw [Int32.le_iff_toInt_le, Int32.toInt_zero] at h; exact h)) (fun h => kf (by rw [Int32.le_iff_toInt_le, Int32.toInt_zero] at h; omega))
theorem hI_if_gt (hexec : p.tables.exec = Jvm.exec) (hb : c.code = cc) {x : Int32} {off : Int} {tgt : Nat} (hdg : decode cc pc = .ok (.ifCond .gt off, 3)) (ht : (pc : Int) + off = (tgt : Int)) (kt : 0 < x.toInt → W p l e R s m args below meth c H locs cells slots Q (F0 m tgt ls rest)) (kf : x.toInt ≤ 0 → W p l e R s m args below meth c H locs cells slots Q (F0 m (pc + 3) ls rest)) : W p l e R s m args below meth c H locs cells slots Q (F0 m pc ls (.int x :: rest)) :=
  lv_if_gt hexec hb hdg ht (fun h => kt (by rw [Int32.lt_iff_toInt_lt, Int32.toInt_zero] at h; exact h)) (fun h => kf (by rw [Int32.lt_iff_toInt_lt, Int32.toInt_zero] at h; omega))
theorem hI_if_le (hexec : p.tables.exec = Jvm.exec) (hb : c.code = cc) {x : Int32} {off : Int} {tgt : Nat} (hdg : decode cc pc = .ok (.ifCond .le off, 3)) (ht : (pc : Int) + off = (tgt : Int)) (kt : x.toInt ≤ 0 → W p l e R s m args below meth c H locs cells slots Q (F0 m tgt ls rest)) (kf : 0 < x.toInt → W p l e R s m args below meth c H locs cells slots Q (F0 m (pc + 3) ls rest)) : W p l e R s m args below meth c H locs cells slots Q (F0 m pc ls (.int x :: rest)) :=
  lv_if_le hexec hb hdg ht (fun h => kt (by rw [Int32.le_iff_toInt_le, Int32.toInt_zero] at h; exact h)) (fun h => kf (by rw [Int32.le_iff_toInt_le, Int32.toInt_zero] at h; omega))
theorem hN_if_eq (hexec : p.tables.exec = Jvm.exec) (hb : c.code = cc) {a : Nat} {off : Int} {tgt : Nat} (ha : a < 2 ^ 31) (hdg : decode cc pc = .ok (.ifCond .eq off, 3)) (ht : (pc : Int) + off = (tgt : Int)) (kt : a = 0 → W p l e R s m args below meth c H locs cells slots Q (F0 m tgt ls rest)) (kf : 0 < a → W p l e R s m args below meth c H locs cells slots Q (F0 m (pc + 3) ls rest)) : W p l e R s m args below meth c H locs cells slots Q (F0 m pc ls (.int (nI a) :: rest)) :=
  hI_if_eq hexec hb hdg ht (fun h => kt (by rw [nI_toInt ha] at h; omega)) (fun h => kf (by rw [nI_toInt ha] at h; omega))
theorem hN_if_ne (hexec : p.tables.exec = Jvm.exec) (hb : c.code = cc) {a : Nat} {off : Int} {tgt : Nat} (ha : a < 2 ^ 31) (hdg : decode cc pc = .ok (.ifCond .ne off, 3)) (ht : (pc : Int) + off = (tgt : Int)) (kt : 0 < a → W p l e R s m args below meth c H locs cells slots Q (F0 m tgt ls rest)) (kf : a = 0 → W p l e R s m args below meth c H locs cells slots Q (F0 m (pc + 3) ls rest)) : W p l e R s m args below meth c H locs cells slots Q (F0 m pc ls (.int (nI a) :: rest)) :=
  hI_if_ne hexec hb hdg ht (fun h => kt (by rw [nI_toInt ha] at h; omega)) (fun h => kf (by rw [nI_toInt ha] at h; omega))
theorem hN_if_gt (hexec : p.tables.exec = Jvm.exec) (hb : c.code = cc) {a : Nat} {off : Int} {tgt : Nat} (ha : a < 2 ^ 31) (hdg : decode cc pc = .ok (.ifCond .gt off, 3)) (ht : (pc : Int) + off = (tgt : Int)) (kt : 0 < a → W p l e R s m args below meth c H locs cells slots Q (F0 m tgt ls rest)) (kf : a = 0 → W p l e R s m args below meth c H locs cells slots Q (F0 m (pc + 3) ls rest)) : W p l e R s m args below meth c H locs cells slots Q (F0 m pc ls (.int (nI a) :: rest)) :=
  hI_if_gt hexec hb hdg ht (fun h => kt (by rw [nI_toInt ha] at h; omega)) (fun h => kf (by rw [nI_toInt ha] at h; omega))
theorem hN_if_le (hexec : p.tables.exec = Jvm.exec) (hb : c.code = cc) {a : Nat} {off : Int} {tgt : Nat} (ha : a < 2 ^ 31) (hdg : decode cc pc = .ok (.ifCond .le off, 3)) (ht : (pc : Int) + off = (tgt : Int)) (kt : a = 0 → W p l e R s m args below meth c H locs cells slots Q (F0 m tgt ls rest)) (kf : 0 < a → W p l e R s m args below meth c H locs cells slots Q (F0 m (pc + 3) ls rest)) : W p l e R s m args below meth c H locs cells slots Q (F0 m pc ls (.int (nI a) :: rest)) :=
  hI_if_le hexec hb hdg ht (fun h => kt (by rw [nI_toInt ha] at h; omega)) (fun h => kf (by rw [nI_toInt ha] at h; omega))
theorem hN_if_lt (hexec : p.tables.exec = Jvm.exec) (hb : c.code = cc) {a : Nat} {off : Int} (ha : a < 2 ^ 31) {tgt : Nat} (hdg : decode cc pc = .ok (.ifCond .lt off, 3)) (ht : (pc : Int) + off = (tgt : Int)) (kf : W p l e R s m args below meth c H locs cells slots Q (F0 m (pc + 3) ls rest)) : W p l e R s m args below meth c H locs cells slots Q (F0 m pc ls (.int (nI a) :: rest)) :=
  hI_if_lt hexec hb hdg ht (fun h => absurd h (by rw [nI_toInt ha]; omega)) (fun _ => kf)
theorem hN_if_ge (hexec : p.tables.exec = Jvm.exec) (hb : c.code = cc) {a : Nat} {off : Int} (ha : a < 2 ^ 31) {tgt : Nat} (hdg : decode cc pc = .ok (.ifCond .ge off, 3)) (ht : (pc : Int) + off = (tgt : Int)) (kt : W p l e R s m args below meth c H locs cells slots Q (F0 m tgt ls rest)) : W p l e R s m args below meth c H locs cells slots Q (F0 m pc ls (.int (nI a) :: rest)) :=
  hI_if_ge hexec hb hdg ht (fun _ => kt) (fun h => absurd h (by rw [nI_toInt ha]; omega))
/-- a boolean as the machine holds it -/
def hbv (c : Bool) : Int32 := match c with
  | true => 1
  | false => 0
theorem hb_1 {c : Bool} (h : c = true) : (nI 1 : Int32) = hbv c := by rw [h]; rfl
theorem hb_0 {c : Bool} (h : c = false) : (nI 0 : Int32) = hbv c := by rw [h]; rfl
theorem hB_if_eq (hexec : p.tables.exec = Jvm.exec) (hb : c.code = cc) {b : Bool} {off : Int} {tgt : Nat} (hdg : decode cc pc = .ok (.ifCond .eq off, 3)) (ht : (pc : Int) + off = (tgt : Int)) (kt : b = false → W p l e R s m args below meth c H locs cells slots Q (F0 m tgt ls rest)) (kf : b = true → W p l e R s m args below meth c H locs cells slots Q (F0 m (pc + 3) ls rest)) : W p l e R s m args below meth c H locs cells slots Q (F0 m pc ls (.int (hbv b) :: rest)) := by
  cases b with
  | true => exact lv_if_eq hexec hb hdg ht (fun h => absurd h (by decide)) (fun _ => kf rfl)
  | false => exact lv_if_eq hexec hb hdg ht (fun _ => kt rfl) (fun h => absurd rfl h)
theorem hB_if_ne (hexec : p.tables.exec = Jvm.exec) (hb : c.code = cc) {b : Bool} {off : Int} {tgt : Nat} (hdg : decode cc pc = .ok (.ifCond .ne off, 3)) (ht : (pc : Int) + off = (tgt : Int)) (kt : b = true → W p l e R s m args below meth c H locs cells slots Q (F0 m tgt ls rest)) (kf : b = false → W p l e R s m args below meth c H locs cells slots Q (F0 m (pc + 3) ls rest)) : W p l e R s m args below meth c H locs cells slots Q (F0 m pc ls (.int (hbv b) :: rest)) := by
  cases b with
  | true => exact lv_if_ne hexec hb hdg ht (fun _ => kt rfl) (fun h => absurd h (by decide))
  | false => exact lv_if_ne hexec hb hdg ht (fun h => absurd rfl h) (fun _ => kf rfl)
end HV3
end
section
/-! ENDS OF METHODS; small facts -/
section HV4
variable {p : Program} {l : Launch} {e : Env} {R : Room} {s : State} {m : MethodId} {args : Array Value} {below : List Frame} {meth : Method} {c : Code} {H : Heap} {locs : List Loc} {cells slots : Nat} {Q : State → Prop}
variable {cc : ByteArray} {pc : Nat} {ls : Array Slot} {rest : List Value} {D : hG} {N0 : Nat}
theorem hB_of {D : hG} {N0 : Nat} {u : hU} {t : State} {H : Heap} (ht : t.heap = H) (hV : hv D N0 u.1 u.2 H) : hB D N0 u t := by
  unfold hB
  rw [ht]
  exact hV
theorem hv_iret {post : Int32 → hU → Prop} {v : Int32} {u : hU} (hexec : p.tables.exec = Jvm.exec) (hb : c.code = cc) (hr : meth.sig.returnType = some .int) (hq : post v u) (hV : hv D N0 u.1 u.2 H) (hS : va_S (hA N0) s.heap H locs) (hdg : decode cc pc = .ok (.ireturn, 1)) (hlocks : meth.locks = false) :
    W p l e R s m args below meth c H locs cells slots (MQ below (va_Qi post (hB D N0) (hA N0)) args s cells slots (hA N0)) (F0 m pc ls [.int v]) :=
  W.iret hexec hb hr (fun t ht _ => ⟨⟨v, u, rfl, hq, hB_of ht hV⟩, hS.F ht⟩) hS.2.2 hdg hlocks
theorem hv_zret {post : Int32 → hU → Prop} {v : Int32} {u : hU} (hexec : p.tables.exec = Jvm.exec) (hb : c.code = cc) (hr : meth.sig.returnType = some .boolean) (hn : narrow .boolean (.int v) = .int v) (hq : post v u) (hV : hv D N0 u.1 u.2 H) (hS : va_S (hA N0) s.heap H locs) (hdg : decode cc pc = .ok (.ireturn, 1)) (hlocks : meth.locks = false) :
    W p l e R s m args below meth c H locs cells slots (MQ below (va_Qi post (hB D N0) (hA N0)) args s cells slots (hA N0)) (F0 m pc ls [.int v]) :=
  W.zret hexec hb hr hn (fun t ht _ => ⟨⟨v, u, rfl, hq, hB_of ht hV⟩, hS.F ht⟩) hS.2.2 hdg hlocks
theorem hv_lret {post : Int64 → hU → Prop} {v : Int64} {u : hU} (hexec : p.tables.exec = Jvm.exec) (hb : c.code = cc) (hr : meth.sig.returnType = some .long) (hq : post v u) (hV : hv D N0 u.1 u.2 H) (hS : va_S (hA N0) s.heap H locs) (hdg : decode cc pc = .ok (.lreturn, 1)) (hlocks : meth.locks = false) :
    W p l e R s m args below meth c H locs cells slots (MQ below (va_Ql post (hB D N0) (hA N0)) args s cells slots (hA N0)) (F0 m pc ls [.long v]) :=
  W.lret hexec hb hr (fun t ht _ => ⟨⟨v, u, rfl, hq, hB_of ht hV⟩, hS.F ht⟩) hS.2.2 hdg hlocks
theorem hv_dret {post : UInt64 → hU → Prop} {v : UInt64} {u : hU} (hexec : p.tables.exec = Jvm.exec) (hb : c.code = cc) (hr : meth.sig.returnType = some .double) (hq : post v u) (hV : hv D N0 u.1 u.2 H) (hS : va_S (hA N0) s.heap H locs) (hdg : decode cc pc = .ok (.dreturn, 1)) (hlocks : meth.locks = false) :
    W p l e R s m args below meth c H locs cells slots (MQ below (va_Qd post (hB D N0) (hA N0)) args s cells slots (hA N0)) (F0 m pc ls [.double v]) :=
  W.dret hexec hb hr (fun t ht _ => ⟨⟨v, u, rfl, hq, hB_of ht hV⟩, hS.F ht⟩) hS.2.2 hdg hlocks
theorem hv_vret {post : hU → Prop} {u : hU} (hexec : p.tables.exec = Jvm.exec) (hb : c.code = cc) (hr : meth.sig.returnType = none) (hq : post u) (hV : hv D N0 u.1 u.2 H) (hS : va_S (hA N0) s.heap H locs) (hdg : decode cc pc = .ok (.return_, 1)) (hlocks : meth.locks = false) :
    W p l e R s m args below meth c H locs cells slots (MQ below (va_Qv post (hB D N0) (hA N0)) args s cells slots (hA N0)) (F0 m pc ls []) :=
  W.vret hexec hb hr (fun t ht _ => ⟨⟨u, rfl, hq, hB_of ht hV⟩, hS.F ht⟩) hS.2.2 hdg hlocks
end HV4
theorem hb_nar (b : Bool) : narrow .boolean (.int (hbv b)) = .int (hbv b) := by cases b <;> rfl
theorem hb_fit (b : Bool) : fits .boolean (.int (hbv b)) = true := by cases b <;> rfl
theorem hN_dec {a : Nat} (h : 1 ≤ a) : nI a + Int32.ofInt (-1) = nI (a - 1) := by
  obtain ⟨b, rfl⟩ : ∃ b, a = b + 1 := ⟨a - 1, by omega⟩
  rw [Nat.add_sub_cancel]
  exact pk_m1 b
theorem hN_min {a b : Nat} (ha : a < 2 ^ 31) (hb31 : b < 2 ^ 31) : (if nI b < nI a then nI b else nI a) = nI (min a b) := by
  by_cases h : b < a
  · rw [if_pos ((nI_ltI hb31 ha).mpr h), Nat.min_eq_right (Nat.le_of_lt h)]
  · rw [if_neg (fun q => h ((nI_ltI hb31 ha).mp q)), Nat.min_eq_left (by omega)]
theorem hN_max {a b : Nat} (ha : a < 2 ^ 31) (hb31 : b < 2 ^ 31) : (if nI a < nI b then nI b else nI a) = nI (max a b) := by
  by_cases h : a < b
  · rw [if_pos ((nI_ltI ha hb31).mpr h), Nat.max_eq_right (Nat.le_of_lt h)]
  · rw [if_neg (fun q => h ((nI_ltI ha hb31).mp q)), Nat.max_eq_left (by omega)]
theorem h_m1 : (-1 : Int32).toInt = -1 := by decide
theorem hI_of {x : Int32} {n : Nat} (h0 : 0 ≤ x.toInt) (h1 : x.toInt < n) : ∃ j : Nat, j < n ∧ x = nI j := by
  refine ⟨x.toInt.toNat, by omega, ?_⟩
  have h31 : x.toInt < 2147483648 := Int32.toInt_lt x
  rw [hI_eq, nI_toInt (by omega)]
  omega
/-- a number from 0 to below n -/
def inR (x : Int32) (n : Nat) : Bool := decide (0 ≤ x.toInt ∧ x.toInt < n)
theorem inR_t {x : Int32} {n : Nat} (h : inR x n = true) : 0 ≤ x.toInt ∧ x.toInt < n := of_decide_eq_true h
theorem inR_f {x : Int32} {n : Nat} (h : inR x n = false) : ¬ (0 ≤ x.toInt ∧ x.toInt < n) := of_decide_eq_false h
theorem inR_1 {x : Int32} {n : Nat} (h0 : 0 ≤ x.toInt) (h1 : x.toInt < n) : inR x n = true := decide_eq_true ⟨h0, h1⟩
theorem inR_0 {x : Int32} {n : Nat} (h : x.toInt < 0 ∨ (n : Int) ≤ x.toInt) : inR x n = false := decide_eq_false (by omega)
theorem inR_of {x : Int32} {n : Nat} (h : inR x n = true) : ∃ j : Nat, j < n ∧ x = nI j := hI_of (inR_t h).1 (inR_t h).2
/-- a number modulo 8, never below 0 -/
def m8 (x : Int32) : Nat := (x.toInt % 8).toNat
theorem m8_lt (x : Int32) : m8 x < 8 := by
  unfold m8
  omega
section HV5
variable {p : Program} {l : Launch} {e : Env} {R : Room} {s : State} {m : MethodId} {args : Array Value} {below : List Frame} {meth : Method} {c : Code} {H : Heap} {locs : List Loc} {cells slots : Nat} {Q : State → Prop}
variable {cc : ByteArray} {pc : Nat} {ls : Array Slot} {rest : List Value} {D : hG} {N0 : Nat}
theorem hv_qret {C : String} {post : Option Nat → hU → Prop} {r : Option Nat} {u : hU} (hexec : p.tables.exec = Jvm.exec) (hb : c.code = cc) (hr : meth.sig.returnType = some (.object C)) (hq : post r u) (hV : hv D N0 u.1 u.2 H) (hS : va_S (hA N0) s.heap H locs) (hdg : decode cc pc = .ok (.areturn, 1)) (hlocks : meth.locks = false) :
    W p l e R s m args below meth c H locs cells slots (MQ below (va_Qq post (hB D N0) (hA N0)) args s cells slots (hA N0)) (F0 m pc ls [va_rf r]) :=
  W.aret hexec hb hr (Or.inl ⟨_, rfl⟩) (va_rf_or r) (fun t ht _ => ⟨⟨r, u, rfl, hq, hB_of ht hV⟩, hS.F ht⟩) hS.2.2 hdg hlocks
theorem hv_stk {st st' : List Value} (h : st = st') (kk : W p l e R s m args below meth c H locs cells slots Q (F0 m pc ls st')) : W p l e R s m args below meth c H locs cells slots Q (F0 m pc ls st) := h ▸ kk
theorem hv_ifQ {cd : Bool} {a : Nat} (kt : cd → W p l e R s m args below meth c H locs cells slots Q (F0 m pc ls (.ref a :: rest))) (kf : ¬ cd → W p l e R s m args below meth c H locs cells slots Q (F0 m pc ls (.null :: rest))) : W p l e R s m args below meth c H locs cells slots Q (F0 m pc ls (va_rf (if cd then some a else none) :: rest)) := by
  by_cases h : cd
  · rw [if_pos h]; exact kt h
  · rw [if_neg h]; exact kf h
end HV5
end
section
/-! NUMBERS MODULO 8; the first place at which something holds -/
theorem rem8 (x : Int32) : (x - x / nI 8 * nI 8).toInt = x.toInt.tmod 8 := by
  have h1 : -2147483648 ≤ x.toInt := Int32.le_toInt x
  have h2 : x.toInt < 2147483648 := Int32.toInt_lt x
  have h8 : (nI 8).toInt = 8 := nI_toInt (by decide)
  have hd : (x / nI 8).toInt = x.toInt.tdiv 8 := by
    rw [Int32.toInt_div_of_ne_right _ _ (by decide), h8]
  have e := Int.mul_tdiv_add_tmod x.toInt 8
  have b1 := Int.tmod_lt_of_pos x.toInt (b := 8) (by omega)
  have b2 : -8 < x.toInt.tmod 8 := by
    have := Int.lt_tmod_of_pos x.toInt (b := 8) (by omega)
    omega
  have hm : (x / nI 8 * nI 8).toInt = x.toInt.tdiv 8 * 8 := by
    rw [Int32.toInt_mul, hd, h8]
    exact Int.bmod_eq_of_le (by omega) (by omega)
  rw [Int32.toInt_sub, hm]
  rw [Int.bmod_eq_of_le (by omega) (by omega)]
  omega
theorem sgn8 (x : Int32) : (x ^^^ nI 8).toInt < 0 ↔ x.toInt < 0 := by
  have h : (x ^^^ nI 8).toBitVec.msb = x.toBitVec.msb := by
    rw [Int32.toBitVec_xor, BitVec.msb_xor]
    have : (nI 8).toBitVec.msb = false := by decide
    rw [this, Bool.xor_false]
  have e1 := BitVec.msb_eq_toInt (x := (x ^^^ nI 8).toBitVec)
  have e2 := BitVec.msb_eq_toInt (x := x.toBitVec)
  rw [h, e2] at e1
  have := of_decide_eq_true (p := (decide (x.toBitVec.toInt < 0) = decide ((x ^^^ nI 8).toBitVec.toInt < 0))) (by simpa using e1)
  simp only [decide_eq_decide] at this
  exact this.symm
theorem m8_cast (x : Int32) : ((m8 x : Nat) : Int) = x.toInt % 8 := by
  unfold m8
  omega
theorem fm_pos {x : Int32} (h : 0 ≤ (x ^^^ nI 8).toInt) : x - x / nI 8 * nI 8 = nI (m8 x) := by
  have h0 : ¬ x.toInt < 0 := fun q => by have := (sgn8 x).mpr q; omega
  have hl := m8_lt x
  rw [hI_eq, rem8, nI_toInt (by omega), m8_cast, Int.tmod_eq_emod_of_nonneg (by omega)]
theorem fm_zero {x : Int32} (h : (x - x / nI 8 * nI 8).toInt = 0) : x - x / nI 8 * nI 8 = nI (m8 x) := by
  have hl := m8_lt x
  have h1 := rem8 x
  have e := Int.mul_tdiv_add_tmod x.toInt 8
  rw [hI_eq, h, nI_toInt (by omega), m8_cast]
  omega
theorem fm_neg {x : Int32} (h : (x ^^^ nI 8).toInt < 0) (h2 : (x - x / nI 8 * nI 8).toInt ≠ 0) : x - x / nI 8 * nI 8 + nI 8 = nI (m8 x) := by
  have h0 : x.toInt < 0 := (sgn8 x).mp h
  have hl := m8_lt x
  have h1 := rem8 x
  have e := Int.mul_tdiv_add_tmod x.toInt 8
  have b2 : -8 < x.toInt.tmod 8 := by
    have := Int.lt_tmod_of_pos x.toInt (b := 8) (by omega)
    omega
  have b3 : x.toInt.tmod 8 ≤ 0 := Int.tmod_nonpos _ (by omega)
  rw [hI_eq, Int32.toInt_add, h1, nI_toInt (by omega), nI_toInt (by omega), m8_cast]
  rw [Int.bmod_eq_of_le (by omega) (by omega)]
  rw [h1] at h2
  omega
theorem m8_nI {a : Nat} (h : a < 2 ^ 31) : m8 (nI a) = a % 8 := by
  unfold m8
  rw [nI_toInt h]
  omega
theorem m8_bmod (z : Int) : (z.bmod (2 ^ 32)) % 8 = z % 8 := by
  have := Int.bmod_emod (x := z) (m := 2 ^ 32)
  have h2 : z.bmod (2 ^ 32) % 8 = (z.bmod (2 ^ 32) % (2 ^ 32)) % 8 := by omega
  have h3 : (z % ((2 ^ 32 : Nat) : Int)) % 8 = z % 8 := by
    have : ((2 ^ 32 : Nat) : Int) = 4294967296 := by decide
    rw [this]
    omega
  have h4 : ((2 ^ 32 : Nat) : Int) = 4294967296 := by decide
  omega
theorem m8_sub {a : Nat} (h : a < 8) (x : Int32) : m8 (nI a - x) = (a + 8 - m8 x) % 8 := by
  have h1 := m8_cast (nI a - x)
  have h2 := m8_cast x
  have h3 := m8_lt x
  rw [Int32.toInt_sub, m8_bmod, nI_toInt (by omega)] at h1
  omega
/-- the first place below n at which p holds, n if there is none -/
def frst (p : Nat → Bool) : Nat → Nat
  | 0 => 0
  | n + 1 => if frst p n < n then frst p n else if p n = true then n else n + 1
theorem frst_le (p : Nat → Bool) : ∀ n, frst p n ≤ n
  | 0 => Nat.le_refl 0
  | n + 1 => by
    have ih := frst_le p n
    rw [frst]
    split
    · omega
    · split <;> omega
theorem frst_is {p : Nat → Bool} : ∀ {n i : Nat}, i ≤ n → (∀ k, k < i → p k = false) → (i < n → p i = true) → frst p n = i
  | 0, i, h, _, _ => by rw [frst]; omega
  | n + 1, i, h, h1, h2 => by
    rw [frst]
    rcases Nat.lt_or_ge i n with q | q
    · rw [frst_is (n := n) (i := i) (by omega) h1 (fun _ => h2 (by omega)), if_pos q]
    · have e : frst p n = n := frst_is (Nat.le_refl n) (fun k hk => h1 k (by omega)) (fun q => by omega)
      rw [e, if_neg (Nat.lt_irrefl n)]
      rcases Nat.lt_or_ge n i with z | z
      · have hi : i = n + 1 := by omega
        subst hi
        rw [if_neg (by rw [h1 n (by omega)]; decide)]
      · have hi : i = n := by omega
        subst hi
        rw [if_pos (h2 (by omega))]
theorem frst_no {p : Nat → Bool} : ∀ {n k : Nat}, k < frst p n → p k = false
  | 0, k, h => by rw [frst] at h; omega
  | n + 1, k, h => by
    rw [frst] at h
    split at h
    · exact frst_no h
    · have := frst_le p n
      split at h
      · exact frst_no (n := n) (by omega)
      · rename_i h3 h4
        rcases Nat.lt_or_ge k n with q | q
        · exact frst_no (n := n) (by omega)
        · have : k = n := by omega
          subst this
          simpa using h4
theorem frst_yes {p : Nat → Bool} : ∀ {n : Nat}, frst p n < n → p (frst p n) = true
  | 0, h => by rw [frst] at h; omega
  | n + 1, h => by
    rw [frst] at h ⊢
    split
    · rename_i h3; exact frst_yes h3
    · rename_i h3
      rw [if_neg h3] at h
      split
      · rename_i h4; exact h4
      · rename_i h4
        rw [if_neg h4] at h
        omega
/-- a place as an answer: -1 for none -/
def plc (n k : Nat) : Int32 := if k < n then nI k else -1
theorem plc_in {n k : Nat} (h : k < n) : plc n k = nI k := if_pos h
theorem plc_out {n : Nat} : plc n n = -1 := if_neg (Nat.lt_irrefl n)
/-- a pattern turned by t sectors, at the place j (8 * ring + sector) -/
def rot (t : Int32) (P : Nat → Nat) : Nat → Nat := fun j => P (8 * (j / 8) + (j % 8 + 8 - m8 t) % 8)
theorem rot_at {t : Int32} {P : Nat → Nat} {r s : Nat} (hs : s < 8) : rot t P (8 * r + s) = P (8 * r + (s + 8 - m8 t) % 8) := by
  unfold rot
  rw [show (8 * r + s) / 8 = r by omega, show (8 * r + s) % 8 = s by omega]
/-- whether the one, turned by t sectors, looks like the other -/
def like (P : Nat → Nat) (t : Int32) (Q : Nat → Nat) : Bool := decide (∀ j, j < 24 → rot t P j = Q j)
theorem like_t {P Q : Nat → Nat} {t : Int32} (h : ∀ r, r < 3 → ∀ s, s < 8 → P (8 * r + (s + 8 - m8 t) % 8) = Q (8 * r + s)) : like P t Q = true := by
  refine decide_eq_true fun j hj => ?_
  have h1 := h (j / 8) (by omega) (j % 8) (by omega)
  rw [show 8 * (j / 8) + j % 8 = j by omega] at h1
  exact h1
theorem like_f {P Q : Nat → Nat} {t : Int32} {r s : Nat} (hr : r < 3) (hs : s < 8) (h : P (8 * r + (s + 8 - m8 t) % 8) ≠ Q (8 * r + s)) : like P t Q = false := by
  refine decide_eq_false fun q => h ?_
  rw [← q (8 * r + s) (by omega), rot_at hs]
/-- the least turn by which the one looks like the other; 8 for none -/
def lturn (P Q : Nat → Nat) : Nat := frst (fun t => like P (nI t) Q) 8
/-- the cells of a pattern: the object at the tag t, its row behind it -/
def hPat (D : hG) (ad : Nat → Nat) (ct : hC) (t : Nat) (P : Nat → Nat) : Prop :=
  ct t = some (eO 1 [.ref (ad (t + 1))]) ∧ ∃ F : Nat → Int32, ct (t + 1) = some (eI D 24 F) ∧ (∀ j, j < 24 → F j = nI (P j)) ∧ ∀ j, j < 24 → P j < 8
end
section
set_option maxHeartbeats 4000000 in
set_option maxRecDepth 100000 in
/-- floorMod(x, 8) -/
theorem c_J9_floorMod_7cf53 (l : Launch) (D : hG) (N0 : Nat) (ad : Nat → Nat) (ct : hC) (x : Int32) : Met l yJ9_floorMod_7cf53 wsJ9_floorMod_7cf53 ({ frames := 0, cells := 0, slots := 0, locals := 0 }) (hPc D N0 ad ct [.int (x), .int (nI (8))]) (va_Qi (fun (r : Int32) (u : hU) => r = nI (m8 x) ∧ u = (ad, ct)) (hB D N0) (hA N0)) 0 0 (hA N0) := by
  refine Met.ofW (cc := cJ9_floorMod_7cf53) (maxL := 3) (ret := (some .int)) (by decide) rfl ?_
  intro p e s m args below meth c s₁ B hml hv0
  obtain ⟨hargs, hKs, hV⟩ := hv0
  have hx := B.exec
  have hb := B.bytes
  have hr := B.returns
  have hts := atoms_spec (ws := wsJ9_floorMod_7cf53) B.pre
  have hown : s.vm.findClass RJ9 = some m.cls := findClass_of_methodNamed B.named
  have hlocks := B.notSynchronized
  have hS : va_S (hA N0) s.heap s.heap [] := va_S.rf
  have hl := lv_entry ([.int (x), .int (nI (8))]) (n := 3) (Nat.le_of_ble_eq_true rfl)
  have hE : entryFrame m args 3 = entryFrame m ([.int (x), .int (nI (8))] : List Value).toArray 3 := by rw [hargs]
  rw [hE, lg_entry_eq]
  generalize (lg_sl ([.int (x), .int (nI (8))]) ++ List.replicate (3 - (lg_sl ([.int (x), .int (nI (8))])).length) Slot.unset).toArray = ls at hl ⊢
  have hl : lv_has ls 3 [(0, .int (x)), (1, .int (nI (8)))] := hl
  refine lv_iload_n hx hb dJ9_floorMod_7cf53_0 rfl (lv_at hl 0 rfl) ?_
  refine lv_iload_n hx hb dJ9_floorMod_7cf53_1 rfl (lv_at hl 1 rfl) ?_
  refine lv_irem hx hb dJ9_floorMod_7cf53_2 (by decide) ?_
  refine lv_istore_n (lv' := [(2, .int ((x) - (x) / nI (8) * nI (8))), (0, .int (x)), (1, .int (nI (8)))]) hx hb dJ9_floorMod_7cf53_3 rfl hl (by decide) rfl (fun ls hl => ?_)
  refine lv_iload_n hx hb dJ9_floorMod_7cf53_4 rfl (lv_at hl 1 rfl) ?_
  refine lv_iload_n hx hb dJ9_floorMod_7cf53_5 rfl (lv_at hl 2 rfl) ?_
  refine lv_ixor hx hb dJ9_floorMod_7cf53_6 ?_
  refine hI_if_ge (tgt := 18) hx hb dJ9_floorMod_7cf53_7 (by decide) (fun c7 => ?_) (fun c7 => ?_)
  · refine lv_iload_n hx hb dJ9_floorMod_7cf53_18 rfl (lv_at hl 0 rfl) ?_
    exact hv_iret (v := ((x) - (x) / nI (8) * nI (8))) (u := (ad, ct)) hx hb hr ⟨fm_pos c7, rfl⟩ hV hS dJ9_floorMod_7cf53_19 hlocks
  · refine lv_iload_n hx hb dJ9_floorMod_7cf53_10 rfl (lv_at hl 0 rfl) ?_
    refine hI_if_eq (tgt := 18) hx hb dJ9_floorMod_7cf53_11 (by decide) (fun c11 => ?_) (fun c11 => ?_)
    · refine lv_iload_n hx hb dJ9_floorMod_7cf53_18 rfl (lv_at hl 0 rfl) ?_
      exact hv_iret (v := ((x) - (x) / nI (8) * nI (8))) (u := (ad, ct)) hx hb hr ⟨fm_zero c11, rfl⟩ hV hS dJ9_floorMod_7cf53_19 hlocks
    · refine lv_iload_n hx hb dJ9_floorMod_7cf53_14 rfl (lv_at hl 0 rfl) ?_
      refine lv_iload_n hx hb dJ9_floorMod_7cf53_15 rfl (lv_at hl 2 rfl) ?_
      refine lv_iadd hx hb dJ9_floorMod_7cf53_16 ?_
      exact hv_iret (v := (((x) - (x) / nI (8) * nI (8)) + nI (8))) (u := (ad, ct)) hx hb hr ⟨fm_neg c7 c11, rfl⟩ hV hS dJ9_floorMod_7cf53_17 hlocks

set_option maxHeartbeats 4000000 in
set_option maxRecDepth 100000 in
theorem c_X1_indexOf (l : Launch) (D : hG) (N0 : Nat) (ad : Nat → Nat) (ct : hC) (r : Nat) (hr3 : r < 3) (x : Int32) : Met l yX1_indexOf wsX1_indexOf ({ frames := 1, cells := 0, slots := 0, locals := 22 }) (hPc D N0 ad ct [.int (nI (r)), .int (x)]) (va_Qi (fun (z : Int32) (u : hU) => z = nI (8 * r + m8 x) ∧ u = (ad, ct)) (hB D N0) (hA N0)) 0 0 (hA N0) := by
  refine Met.ofW (cc := cX1_indexOf) (maxL := 2) (ret := (some .int)) (by decide) rfl ?_
  intro p e s m args below meth c s₁ B hml hv0
  obtain ⟨hargs, hKs, hV⟩ := hv0
  have hx := B.exec
  have hb := B.bytes
  have hr := B.returns
  have hts := atoms_spec (ws := wsX1_indexOf) B.pre
  have hown : s.vm.findClass RX1 = some m.cls := findClass_of_methodNamed B.named
  have hlocks := B.notSynchronized
  have hS : va_S (hA N0) s.heap s.heap [] := va_S.rf
  have hl := lv_entry ([.int (nI (r)), .int (x)]) (n := 2) (Nat.le_of_ble_eq_true rfl)
  have hE : entryFrame m args 2 = entryFrame m ([.int (nI (r)), .int (x)] : List Value).toArray 2 := by rw [hargs]
  rw [hE, lg_entry_eq]
  generalize (lg_sl ([.int (nI (r)), .int (x)]) ++ List.replicate (2 - (lg_sl ([.int (nI (r)), .int (x)])).length) Slot.unset).toArray = ls at hl ⊢
  have hl : lv_has ls 2 [(0, .int (nI (r))), (1, .int (x))] := hl
  refine lv_bipush (v := nI 8) hx hb dX1_indexOf_0 (by decide) ?_
  refine lv_iload_n hx hb dX1_indexOf_2 rfl (lv_at hl 0 rfl) ?_
  refine hN_imul hx hb dX1_indexOf_3 ?_
  refine lv_iload_n hx hb dX1_indexOf_4 rfl (lv_at hl 1 rfl) ?_
  refine lv_bipush (v := nI 8) hx hb dX1_indexOf_5 (by decide) ?_
  refine hv_calli (va_runS (As := [.int (x), .int (nI (8))]) (rest := [.int (nI ((8) * (r)))]) ⟨hx, hb, hml, hown, hts⟩ (c_J9_floorMod_7cf53 l D N0 ad ct ((x))) (va_cwS 2 hts gX1_indexOf_J9_floorMod_7cf53 rfl rfl rfl (by decide +kernel) ⟨Nat.le_of_ble_eq_true rfl, Nat.le_of_ble_eq_true rfl⟩) (hv_preS hKs hV hS) rfl rfl hl.1 rfl (lv_room (Nat.le_of_ble_eq_true rfl)) dX1_indexOf_7 ⟨by omega, by omega⟩) hS (fun r9 u9 H locs hq hV hS => ?_)
  obtain ⟨rfl, rfl⟩ := hq
  have hV : hv D N0 ad ct H := hV
  refine hN_iadd hx hb dX1_indexOf_10 ?_
  exact hv_iret (v := nI ((8) * (r) + m8 ((x)))) (u := (ad, ct)) hx hb hr ⟨rfl, rfl⟩ hV hS dX1_indexOf_11 hlocks

set_option maxHeartbeats 4000000 in
set_option maxRecDepth 100000 in
/-- the colour at ring r, sector sc, of the pattern turned by x -/
theorem c_X1_colourAt (l : Launch) (D : hG) (N0 : Nat) (ad : Nat → Nat) (ct : hC) {t : Nat} {P : Nat → Nat} (hp : hPat D ad ct t P) (r : Nat) (hr3 : r < 3) (sc : Nat) (hs8 : sc < 8) (x : Int32) : Met l yX1_colourAt wsX1_colourAt ({ frames := 2, cells := 0, slots := 0, locals := 43 }) (hPc D N0 ad ct [.ref (ad (t)), .int (nI (r)), .int (nI (sc)), .int (x)]) (va_Qi (fun (z : Int32) (u : hU) => z = nI (P (8 * r + (sc + 8 - m8 x) % 8)) ∧ u = (ad, ct)) (hB D N0) (hA N0)) 0 0 (hA N0) := by
  refine Met.ofW (cc := cX1_colourAt) (maxL := 4) (ret := (some .int)) (by decide) rfl ?_
  intro p e s m args below meth c s₁ B hml hv0
  obtain ⟨hargs, hKs, hV⟩ := hv0
  have hx := B.exec
  have hb := B.bytes
  have hr := B.returns
  have hts := atoms_spec (ws := wsX1_colourAt) B.pre
  have hown : s.vm.findClass RX1 = some m.cls := findClass_of_methodNamed B.named
  have hlocks := B.notSynchronized
  have hS : va_S (hA N0) s.heap s.heap [] := va_S.rf
  have hiX1 : ∀ w ∈ u_ws RX1 TX1 1, w ∈ wsX1_colourAt := by decide +kernel
  have k9 := hts (.fieldLink RX1 9 "CaneSlices$Pattern" "colours" "[I") (by decide +kernel)
  have hl := lv_entry ([.ref (ad (t)), .int (nI (r)), .int (nI (sc)), .int (x)]) (n := 4) (Nat.le_of_ble_eq_true rfl)
  have hE : entryFrame m args 4 = entryFrame m ([.ref (ad (t)), .int (nI (r)), .int (nI (sc)), .int (x)] : List Value).toArray 4 := by rw [hargs]
  rw [hE, lg_entry_eq]
  generalize (lg_sl ([.ref (ad (t)), .int (nI (r)), .int (nI (sc)), .int (x)]) ++ List.replicate (4 - (lg_sl ([.ref (ad (t)), .int (nI (r)), .int (nI (sc)), .int (x)])).length) Slot.unset).toArray = ls at hl ⊢
  have hl : lv_has ls 4 [(0, .ref (ad (t))), (1, .int (nI (r))), (2, .int (nI (sc))), (3, .int (x))] := hl
  obtain ⟨hp1, F, hp2, hF, hP8⟩ := hp
  refine lv_aload_n hx hb dX1_colourAt_0 rfl (lv_at hl 0 rfl) ?_
  refine hv_get (C := RX1) (T := TX1) (N := 1) hx hb hts hiX1 hown hKs hV hp1 0 rfl (by decide) k9 (fun _ h9 => h9) rfl dX1_colourAt_1 ?_
  refine lv_iload_n hx hb dX1_colourAt_4 rfl (lv_at hl 1 rfl) ?_
  refine lv_iload_n hx hb dX1_colourAt_5 rfl (lv_at hl 2 rfl) ?_
  refine lv_iload_n hx hb dX1_colourAt_6 rfl (lv_at hl 3 rfl) ?_
  refine lv_isub hx hb dX1_colourAt_7 ?_
  refine hv_calli (va_runS (As := [.int (nI (r)), .int (nI (sc) - (x))]) (rest := [.ref (ad (t + 1))]) ⟨hx, hb, hml, hown, hts⟩ (c_X1_indexOf l D N0 ad ct (r) (by omega) ((nI (sc) - (x)))) (va_cwS 2 hts gX1_colourAt_X1_indexOf rfl rfl rfl (by decide +kernel) ⟨Nat.le_of_ble_eq_true rfl, Nat.le_of_ble_eq_true rfl⟩) (hv_preS hKs hV hS) rfl rfl hl.1 rfl (lv_room (Nat.le_of_ble_eq_true rfl)) dX1_colourAt_8 ⟨by omega, by omega⟩) hS (fun r9 u9 H locs hq hV hS => ?_)
  obtain ⟨rfl, rfl⟩ := hq
  have hV : hv D N0 ad ct H := hV
  have hm := m8_lt (nI sc - x)
  refine hv_iald hx hb hKs hV hp2 (by omega) (by decide) dX1_colourAt_11 ?_
  refine hv_eqi (hF (8 * (r) + m8 ((nI (sc) - (x)))) (by omega)) ?_
  exact hv_iret (v := nI (P (8 * (r) + m8 ((nI (sc) - (x)))))) (u := (ad, ct)) hx hb hr ⟨by rw [m8_sub hs8], rfl⟩ hV hS dX1_colourAt_12 hlocks
end
