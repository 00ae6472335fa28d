/-! ROWS OF ROWS, BOOLEANS, AND A NATIVE READ OF TWO NUMBERS AT ONCE -/
abbrev eZ (D : hG) (n : Nat) (f : Nat → Int32) : va_E := .inl (D.2 4, n, .inl f)
def jb (x : Int32) (r : Nat) : Nat := x.toUInt32.toNat % 2 ^ (8 * 4) / 2 ^ (8 * r) % 256
def jw (x y : Int32) : Int64 := ((([jb x 0, jb x 1, jb x 2, jb x 3, jb y 0, jb y 1, jb y 2, jb y 3] : List Nat).zipIdx.map fun (b, k) => b * 2 ^ (8 * k)).sum).toUInt64.toInt64
section JP0
variable {E : CtlPost} {e : Env} {d : Bool} {acts : List Action} {s : State}
theorem uw_locate {a : Addr} {A : Cell} {k : Class} {comp : ClassId} {w : Nat} {off : Int64} {Q : UnsafeMem.Target → Jvm.Pre}
    (hA : s.heap[a]? = some A) (hvm : A.vm = .none) (hk : s.vm.classes[A.cls]? = some k) (hkind : k.kind = .array comp .int) (hneg : ¬ off < 0) (hoff : off.toNatClampNeg = 16 + 8 * w) :
    wp (UnsafeMem.locate (.ref a) off .long) Q E e d acts s ↔ Q (UnsafeMem.Target.bytes a .int (8 * w)) d acts s := by
  simp [UnsafeMem.locate, hneg, hoff, hA, Cell.info, hvm, hk, hkind, UnsafeMem.arrayBase, UnsafeMem.scaleOf, UnsafeMem.isRefType]
theorem uw_rb {a : Addr} {A : Cell} {p i r : Nat} {x : Int32} {Q : Nat → Jvm.Pre} (hA : s.heap[a]? = some A) (hvm : A.vm = .none) (hp : p / 4 = i) (hr : p % 4 = r) (h : A.slots[i]? = some (.int x)) :
    wp (UnsafeMem.readByte a .int p .plain) Q E e d acts s ↔ Q (jb x r) d (readActs ⟨a, i⟩ .plain (.int x) acts) s := by
  subst hp
  subst hr
  simp [UnsafeMem.readByte, UnsafeMem.scaleOf, UnsafeMem.bitsOf, hA, hvm, h, jb]
theorem uw_get {a : Addr} {A : Cell} {k : Class} {comp : ClassId} {w : Nat} {off : Int64} {x y : Int32} {Q : Value → Jvm.Pre}
    (hA : s.heap[a]? = some A) (hvm : A.vm = .none) (hk : s.vm.classes[A.cls]? = some k) (hkind : k.kind = .array comp .int) (hneg : ¬ off < 0) (hoff : off.toNatClampNeg = 16 + 8 * w)
    (h0 : A.slots[2 * w]? = some (.int x)) (h1 : A.slots[2 * w + 1]? = some (.int y)) (hQ : ∀ d' acts', Q (.long (jw x y)) d' acts' s) : wp (UnsafeMem.get .long (.ref a) off .plain) Q E e d acts s := by
  have hr : List.range (UnsafeMem.scaleOf .long) = [0, 1, 2, 3, 4, 5, 6, 7] := rfl
  simp only [UnsafeMem.get, wp_bind', uw_locate hA hvm hk hkind hneg hoff, hr, List.mapM, List.mapM.loop, uw_rb hA hvm (p := 8 * w + 0) (i := 2 * w) (r := 0) (by omega) (by omega) h0, uw_rb hA hvm (p := 8 * w + 1) (i := 2 * w) (r := 1) (by omega) (by omega) h0, uw_rb hA hvm (p := 8 * w + 2) (i := 2 * w) (r := 2) (by omega) (by omega) h0, uw_rb hA hvm (p := 8 * w + 3) (i := 2 * w) (r := 3) (by omega) (by omega) h0,
    uw_rb hA hvm (p := 8 * w + 4) (i := 2 * w + 1) (r := 0) (by omega) (by omega) h1, uw_rb hA hvm (p := 8 * w + 5) (i := 2 * w + 1) (r := 1) (by omega) (by omega) h1, uw_rb hA hvm (p := 8 * w + 6) (i := 2 * w + 1) (r := 2) (by omega) (by omega) h1, uw_rb hA hvm (p := 8 * w + 7) (i := 2 * w + 1) (r := 3) (by omega) (by omega) h1, wp_pure']
  exact hQ _ _
end JP0
abbrev yGL : MethodName := Jvm.Free.NT.UnsafeGetLong.yN
theorem uw_declares {x : MethodName} {args : Array Value} {s : State} (hi : (Cond.instanceMethod x).before args s = true) (hn : (Cond.native x).before args s = true) : (Cond.declares x).before args s = true := by
  simp only [Cond.before, Cond.holds, Cond.value] at hi hn ⊢
  cases hq : (s.methodNamed? x).bind s.vm.method? with
  | none => simp [hq] at hi
  | some meth =>
    simp [hq] at hi hn ⊢
    exact ⟨hi.1, hn.2⟩
abbrev uG : Type := Addr × Addr × Cell × Nat × Int64 × Int32 × Int32
def uP (g : uG) (a : Array Value) (U : State) : Prop := a = #[.ref g.1, .ref g.2.1, .long g.2.2.2.2.1] ∧ U.heap[g.2.1]? = some g.2.2.1 ∧ g.2.2.1.vm = .none ∧ (∃ (k : Class) (comp : ClassId), U.vm.classes[g.2.2.1.cls]? = some k ∧ k.kind = .array comp .int) ∧ ¬ g.2.2.2.2.1 < 0 ∧ g.2.2.2.2.1.toNatClampNeg = 16 + 8 * g.2.2.2.1 ∧ g.2.2.1.slots[2 * g.2.2.2.1]? = some (.int g.2.2.2.2.2.1) ∧ g.2.2.1.slots[2 * g.2.2.2.1 + 1]? = some (.int g.2.2.2.2.2.2)
theorem uw_pays {l : Launch} {R : Room} {p : Program} {e : Env} {below : List Frame} {s : State} {sargs : Array Value} {len W : Nat} (hnat : (Cond.native yGL).before sargs s = true) (hinst : (Cond.instanceMethod yGL).before sargs s = true) (hfr : 1 ≤ R.frames) (hlo : W + 17 ≤ R.locals) :
    Back l R p e below s sargs yGL len W (fun A a => ∃ g : uG, uP g a A.U) (fun A a v B => B = A ∧ ∀ g : uG, uP g a A.U → v = some (.long (jw g.2.2.2.2.2.1 g.2.2.2.2.2.2))) :=
  Back.of_nativeQ (P := uP) (val := fun g : uG => some (.long (jw g.2.2.2.2.2.1 g.2.2.2.2.2.2))) (words := 4) (Jvm.Free.NT.getLong_row p) (nativeInstance hnat hinst Jvm.Free.NT.UnsafeGetLong.desc) hfr (by rw [show nativeFrameWords yGL.cls yGL.name 4 = 6 from by decide +kernel]; omega) fun g U a m _ hst hps hP => by
    obtain ⟨u, arr, A, w, off, x, y⟩ := g
    obtain ⟨rfl, hA, hvm, ⟨k, comp, hk, hkind⟩, hneg, hoff, h0, h1⟩ := hP
    dsimp only at hA hvm hk hkind hneg hoff h0 h1
    refine ⟨rfl, by simp [seenByNative, hst, hps, narrow], fun fs Q hq => ?_⟩
    show wp (do let v ← UnsafeMem.get .long (.ref arr) off .plain; mark "nat.jdk_internal_misc_Unsafe.get"; Pure.pure (some v)) Q _ e false [] (U.setFrames fs)
    simp only [wp_bind']
    refine uw_get (s := U.setFrames fs) (A := A) (k := k) (comp := comp) (w := w) hA hvm hk hkind hneg hoff h0 h1 fun d' acts' => ?_
    simp
    exact hq _ _
theorem asg_self (vm : Vm) (c : ClassId) : vm.assignable c c = true := by
  rw [Vm.assignable, show (256 : Nat) = 255 + 1 from rfl, Vm.assignableAux, beq_self_eq_true, Bool.true_or]
section HP1
variable {p : Program} {l : Launch} {e : Env} {R : Room} {s : State} {m : MethodId} {args : Array Value} {below : List Frame} {meth : Method} {c : Code} {H : Heap} {locs : List Loc} {cells slots : Nat} {Q : State → Prop}
variable {cc : ByteArray} {pc : Nat} {ls : Array Slot} {rest : List Value} {D : hG} {N0 : Nat} {ad : Nat → Nat} {ct : hC}
theorem hv_newZ (hexec : p.tables.exec = Jvm.exec) (hb : c.code = cc) (harr : (Cond.arrayClass .boolean).before args s = true) (hKs : hK D N0 s) (hV : hv D N0 ad ct H) (hS : va_S (hA N0) s.heap H locs) (t : Nat)
    {n : Nat} (hn : n < 65536) (hcells : cells + 1 ≤ R.cells) (hslots : slots + n ≤ R.slots) (hdg : decode cc pc = .ok (.newarray .boolean, 2))
    (kk : ∀ (ad1 : Nat → Nat) (ct1 : hC) (H1 : Heap), ct1 t = some (eZ D n (fun _ => 0)) → (∀ q : Nat, q ≠ t → ct1 q = ct q) → (∀ q : Nat, q ≠ t → ad1 q = ad q) → hv D N0 ad1 ct1 H1 → va_S (hA N0) s.heap H1 locs →
      W p l e R s m args below meth c H1 locs (cells + 1) (slots + n) Q (F0 m (pc + 2) ls (.ref (ad1 t) :: rest))) : W p l e R s m args below meth c H locs cells slots Q (F0 m pc ls (.int (nI n) :: rest)) := by
  have hb31 : n < 2 ^ 31 := Nat.lt_trans hn (by decide)
  have hle : n * componentBytes (newarray.typeOf .boolean) ≤ 536870912 := by
    show n * 1 ≤ 536870912
    omega
  refine va_newaK (atype := .boolean) hexec hb harr rfl hdg rfl (nI_pos hb31) (nI_clamp hb31) hle hcells hslots rfl fun H1 cA e1 z1 o1 hAr hNm => ?_
  have hcA : cA = D.2 4 := Option.some.inj (hNm.symm.trans (hKs.1.2 4 (D.2 4, .boolean) rfl).2)
  subst hcA
  have h := kk (va_up ad t H.size) (va_up ct t (some (eZ D n (fun _ => 0)))) H1 (va_up_self _ _ _) (fun q h => va_up_ne _ _ h) (fun q h => va_up_ne _ _ h) (hV.new t e1 o1 (by omega)) ⟨Nat.le_trans hS.1 (by omega), fun x h1 h2 => (o1 x (Nat.lt_of_lt_of_le h1 hS.1)).trans (hS.2.1 x h1 h2), hS.2.2⟩
  rw [va_up_self] at h
  exact h
theorem hv_zald (hexec : p.tables.exec = Jvm.exec) (hb : c.code = cc) (hKs : hK D N0 s) (hV : hv D N0 ad ct H) {t n i : Nat} {f : Nat → Int32} (he : ct t = some (eZ D n f)) (hi : i < n) (hn : n < 2 ^ 31) (hdg : decode cc pc = .ok (.baload, 1))
    (kk : W p l e R s m args below meth c H locs cells slots Q (F0 m (pc + 1) ls (.int (f i) :: rest))) : W p l e R s m args below meth c H locs cells slots Q (F0 m pc ls (.int (nI i) :: .ref (ad t) :: rest)) := by
  refine va_zald hexec hb hKs.1 (hV.one he) 0 4 rfl rfl (vp_in_nI hi hn) hdg ?_
  rw [nI_clamp (Nat.lt_trans hi hn)]
  exact kk
theorem hv_zast (hexec : p.tables.exec = Jvm.exec) (hb : c.code = cc) (hKs : hK D N0 s) (hV : hv D N0 ad ct H) (hS : va_S (hA N0) s.heap H locs) {t n i : Nat} {f : Nat → Int32} (he : ct t = some (eZ D n f)) (hi : i < n) (hn : n < 2 ^ 31) (hdg : decode cc pc = .ok (.bastore, 1))
    (kk : ∀ (ct1 : hC) (H1 : Heap) (locs1 : List Loc), ct1 t = some (eZ D n (va_up f i 1)) → (∀ q : Nat, q ≠ t → ct1 q = ct q) → hv D N0 ad ct1 H1 → va_S (hA N0) s.heap H1 locs1 → W p l e R s m args below meth c H1 locs1 cells slots Q (F0 m (pc + 1) ls rest)) : W p l e R s m args below meth c H locs cells slots Q (F0 m pc ls (.int (nI 1) :: .int (nI i) :: .ref (ad t) :: rest)) := by
  refine W.zast hexec hb (hV.2.1 t _ he).2 ((hKs.1.2 4 _ rfl).1 n (fun j => .int (f j))) (fun q => by cases q) (by show ¬ (nI i < 0 ∨ (arrV _ _ _).slots.size ≤ _); rw [arrV_size]; exact vp_in_nI hi hn) rfl rfl hdg fun H1 e1 z oq => ?_
  refine kk (va_up ct t (some (eZ D n (va_up f i 1)))) H1 _ (va_up_self _ _ _) (fun q h => va_up_ne _ _ h) (hV.set he ?_ oq z) (hS.put z oq (hV.2.1 t _ he).1)
  show H1[ad t]? = some (vp_cell _ _)
  rw [e1, nI_clamp (Nat.lt_trans hi hn), vp_cell_i, vp_cell_i, arrV_store]
  congr 2
  funext q
  by_cases hq : q = i
  · subst hq
    simp [updV, va_up]
    try rfl
  · simp [updV, va_up, hq]
theorem hv_aaldA (hexec : p.tables.exec = Jvm.exec) (hb : c.code = cc) (hKs : hK D N0 s) (hV : hv D N0 ad ct H) {t n i : Nat} {f : Nat → Option Nat} (he : ct t = some (eQ (D.2 3) n f)) (hi : i < n) (hn : n < 2 ^ 31) (hdg : decode cc pc = .ok (.aaload, 1))
    (kk : W p l e R s m args below meth c H locs cells slots Q (F0 m (pc + 1) ls (va_rf (f i) :: rest))) : W p l e R s m args below meth c H locs cells slots Q (F0 m pc ls (.int (nI i) :: .ref (ad t) :: rest)) :=
  W.aald (v := va_rf (f i)) (ty := .array .int) hexec hb (hV.2.1 t _ he).2 ((hKs.1.2 3 _ rfl).1 n (fun j => va_rf (f j))) rfl (fun q => by cases q) (by show ¬ (nI i < 0 ∨ (arrV _ _ _).slots.size ≤ _); rw [arrV_size]; exact vp_in_nI hi hn) (by show (arrV _ _ _).slots[_]? = _; rw [nI_clamp (Nat.lt_trans hi hn), arrV_read _ _ hi]) rfl rfl hdg kk
/-- the class of rows of rows -/
theorem hK.rows (hKs : hK D N0 s) : ∃ (k kC : Class), s.vm.classes[D.2 3]? = some k ∧ k.kind = .array (D.2 0) (.array .int) ∧ s.vm.classes[D.2 0]? = some kC := by
  obtain ⟨comp, c0, k, g1, -, g3, g4, g5⟩ := Jvm.Stand.arrayOver_specB hKs.2.2.2.2.2.2.1.2.2
  have e3 : c0 = D.2 3 := Option.some.inj (g5.symm.trans (hKs.1.2 3 (D.2 3, .array .int) rfl).2)
  have e0 : comp = D.2 0 := Option.some.inj (g1.symm.trans (hKs.1.2 0 (D.2 0, .int) rfl).2)
  subst e3
  subst e0
  obtain ⟨-, kC, hkC, -⟩ := (hKs.1.2 0 (D.2 0, .int) rfl).1 0 (fun _ => .null)
  exact ⟨k, kC, g3, g4, hkC⟩
theorem hv_aastA (hexec : p.tables.exec = Jvm.exec) (hb : c.code = cc) (hKs : hK D N0 s) (hV : hv D N0 ad ct H) (hS : va_S (hA N0) s.heap H locs) {t n i v n2 : Nat} {g : Nat → Int32} {f : Nat → Option Nat} (he : ct t = some (eQ (D.2 3) n f)) (hvv : ct v = some (eI D n2 g)) (hi : i < n) (hn : n < 2 ^ 31) (hdg : decode cc pc = .ok (.aastore, 1))
    (kk : ∀ (ct1 : hC) (H1 : Heap) (locs1 : List Loc), ct1 t = some (eQ (D.2 3) n (va_up f i (some (ad v)))) → (∀ q : Nat, q ≠ t → ct1 q = ct q) → hv D N0 ad ct1 H1 → va_S (hA N0) s.heap H1 locs1 → W p l e R s m args below meth c H1 locs1 cells slots Q (F0 m (pc + 1) ls rest)) : W p l e R s m args below meth c H locs cells slots Q (F0 m pc ls (.ref (ad v) :: .int (nI i) :: .ref (ad t) :: rest)) := by
  have hlt : (nI i).toNatClampNeg < n := by rw [nI_clamp (Nat.lt_trans hi hn)]; exact hi
  have h0 : ¬ nI i < 0 := nI_pos (Nat.lt_trans hi hn)
  obtain ⟨k, kC, k1, k2, hkC⟩ := hKs.rows
  refine W.aast hexec hb (hV.2.1 t _ he).2 (fun q h => by cases h) (fun h => by cases h) k1 k2 rfl hkC ⟨h0, by show _ < (arrV _ _ _).slots.size; rw [arrV_size]; exact hlt⟩ (hV.2.1 v _ hvv).2 (fun q h => by cases h) hkC (asg_self s.vm (D.2 0)) rfl rfl hdg fun H1 e1 z oq => ?_
  refine kk (va_up ct t (some (eQ (D.2 3) n (va_up f i (some (ad v)))))) H1 _ (va_up_self _ _ _) (fun q h => va_up_ne _ _ h) (hV.set he ?_ oq z) (hS.put z oq (hV.2.1 t _ he).1)
  show H1[ad t]? = some (vp_cell _ _)
  rw [e1, nI_clamp (Nat.lt_trans hi hn), vp_cell_q, vp_cell_q, arrV_store]
  congr 2
  funext q
  by_cases hq : q = i
  · subst hq
    simp [updV, va_up, va_rf]
  · simp [updV, va_up, hq]
theorem hv_newqA {own : String} {index : Nat} (hexec : p.tables.exec = Jvm.exec) (hb : c.code = cc) (hown : s.vm.findClass own = some m.cls) (hcl : (Cond.classLink own index "[I").before args s = true) (hKs : hK D N0 s) (hV : hv D N0 ad ct H) (hS : va_S (hA N0) s.heap H locs) (t : Nat)
    {n : Nat} (hn : n < 65536) (hcells : cells + 1 ≤ R.cells) (hslots : slots + n ≤ R.slots) (hdg : decode cc pc = .ok (.anewarray index, 3))
    (kk : ∀ (ad1 : Nat → Nat) (ct1 : hC) (H1 : Heap), ct1 t = some (eQ (D.2 3) n (fun _ => none)) → (∀ q : Nat, q ≠ t → ct1 q = ct q) → (∀ q : Nat, q ≠ t → ad1 q = ad q) → hv D N0 ad1 ct1 H1 → va_S (hA N0) s.heap H1 locs →
      W p l e R s m args below meth c H1 locs (cells + 1) (slots + n) Q (F0 m (pc + 3) ls (.ref (ad1 t) :: rest))) : W p l e R s m args below meth c H locs cells slots Q (F0 m pc ls (.int (nI n) :: rest)) := by
  have hb31 : n < 2 ^ 31 := Nat.lt_trans hn (by decide)
  intro T hT X
  obtain ⟨vm1, cA, kA, comp, hW1, f1, f2, f3, f4, X1, st⟩ := X.anewarrayArrK hexec (ty := .int) hown hcl (va_AOA.use hKs.2.2.2.2.2.2.1.2.2) (g := F0 m pc ls (.int (nI n) :: rest)) rfl (by rw [hb]; exact hdg) rfl (nI_pos hb31) (by rw [nI_clamp hb31]; omega) hcells (by rw [nI_clamp hb31]; exact hslots)
  have hcA : cA = D.2 3 := Option.some.inj (f1.symm.trans (hKs.1.2 3 (D.2 3, .array .int) rfl).2)
  subst hcA
  rw [nI_clamp hb31] at X1 st
  have hTs : T.heap.size = H.size := by rw [hT]
  generalize hH1 : H.push ({ cls := D.2 3, slots := Array.replicate n .null, vm := .none } : Cell) = H1
  have z1 : H1.size = H.size + 1 := by rw [← hH1, Array.size_push]
  have e1 : H1[H.size]? = some (arrV (D.2 3) n (fun _ => .null)) := by rw [← hH1, Array.getElem?_push_size, ← arrV_new]
  have o1 : ∀ q : Nat, q < H.size → H1[q]? = H[q]? := fun q hq => by rw [← hH1, Array.getElem?_push, if_neg (Nat.ne_of_lt hq)]
  obtain ⟨t1, a1, b1⟩ := kk (va_up ad t H.size) (va_up ct t (some (eQ (D.2 3) n (fun _ => none)))) H1 (va_up_self _ _ _) (fun q h => va_up_ne _ _ h) (fun q h => va_up_ne _ _ h) (hV.new t e1 o1 (by omega)) ⟨Nat.le_trans hS.1 (by omega), fun x h1 h2 => (o1 x (Nat.lt_of_lt_of_le h1 hS.1)).trans (hS.2.1 x h1 h2), hS.2.2⟩ ((T.setVm vm1).pushCell { cls := D.2 3, slots := Array.replicate n .null, vm := .none }) (by rw [← hH1, ← hT]; rfl) X1
  rw [va_up_self] at a1
  refine ⟨t1, st t1 ?_, b1⟩
  rw [hTs]
  exact a1
/-- new int[n][k]: the rows' row at the tag 64, its rows at 80, 96 .. -/
theorem hv_mna {own : String} {index : Nat} (hexec : p.tables.exec = Jvm.exec) (hb : c.code = cc) (hown : s.vm.findClass own = some m.cls) (hcl : (Cond.classLink own index "[[I").before args s = true) (harr : (Cond.arrayClass .int).before args s = true) (hKs : hK D N0 s) (hV : hv D N0 ad ct H) (hS : va_S (hA N0) s.heap H locs)
    {n k : Nat} (hn : n < 65536) (hk : k < 65536) (hcells : cells + (1 + n) ≤ R.cells) (hslots : slots + (n + n * k) ≤ R.slots) (hdg : decode cc pc = .ok (.multianewarray index 2, 4))
    (kk : ∀ (ad1 : Nat → Nat) (ct1 : hC) (H1 : Heap), ct1 64 = some (eQ (D.2 3) n (fun i => if i < n then some (ad1 (16 * i + 80)) else none)) → (∀ i : Nat, i < n → ct1 (16 * i + 80) = some (eI D k (fun _ => 0))) → (∀ q : Nat, q ≠ 64 → ¬ (q % 16 = 0 ∧ 80 ≤ q ∧ q < 80 + 16 * n) → ct1 q = ct q) → (∀ q : Nat, q ≠ 64 → ¬ (q % 16 = 0 ∧ 80 ≤ q ∧ q < 80 + 16 * n) → ad1 q = ad q) → hv D N0 ad1 ct1 H1 → va_S (hA N0) s.heap H1 locs →
      W p l e R s m args below meth c H1 locs (cells + 1 + n) (slots + n + n * k) Q (F0 m (pc + 4) ls (.ref (ad1 64) :: rest))) : W p l e R s m args below meth c H locs cells slots Q (F0 m pc ls (.int (nI k) :: .int (nI n) :: rest)) := by
  have hn31 : n < 2 ^ 31 := Nat.lt_trans hn (by decide)
  have hk31 : k < 2 ^ 31 := Nat.lt_trans hk (by decide)
  have en : (nI n).toNatClampNeg = n := nI_clamp hn31
  have ek : (nI k).toNatClampNeg = k := nI_clamp hk31
  intro T hT X
  obtain ⟨vm1, cA, comp, -, fA, fC, -, -, X1, st⟩ := X.multianewarray2F hexec (ty := .int) hown hcl (va_AOA.use hKs.2.2.2.2.2.2.1.2.2) harr (g := F0 m pc ls (.int (nI k) :: .int (nI n) :: rest)) rfl (by rw [hb]; exact hdg) rfl (nI_pos hn31) (nI_pos hk31) (by rw [en]; omega) (by rw [ek]; show k * 4 ≤ 536870912; omega) (by rw [ek]; omega) rfl rfl (by rw [en]; exact hcells) (by rw [en, ek]; exact hslots)
  have hcA : cA = D.2 3 := Option.some.inj (fA.symm.trans (hKs.1.2 3 (D.2 3, .array .int) rfl).2)
  have hcC : comp = D.2 0 := Option.some.inj (fC.symm.trans (hKs.1.2 0 (D.2 0, .int) rfl).2)
  subst hcA
  subst hcC
  rw [en, ek] at X1 st
  have hTh : (T.setVm vm1).heap = H := hT
  obtain ⟨f1, f2, -, -⟩ := Jvm.Free.Multi.fill_facts (T.setVm vm1) (D.2 3) (D.2 0) n k (defaultValue .int) n
  have hold := fun (x : Nat) (hx : x < H.size) => Jvm.Free.Multi.fill_old (T.setVm vm1) (D.2 3) (D.2 0) n k (defaultValue .int) (a := x) (by rw [hTh]; exact hx) n
  have hrow := fun (j : Nat) (hj : j < n) => Jvm.Free.Multi.fill_inner (T.setVm vm1) (D.2 3) (D.2 0) n k (defaultValue .int) n j hj
  generalize hF : Jvm.Free.Multi.fill (T.setVm vm1) (D.2 3) (D.2 0) n k (defaultValue .int) n = F at X1 st f1 f2 hold hrow
  rw [hTh] at f1 f2 hold
  have hTs : T.heap.size = H.size := by rw [hT]
  rw [hTh] at hrow
  rw [vr_outer] at f2
  obtain ⟨ad1, had1⟩ : ∃ z : Nat → Nat, z = fun q => if q = 64 then H.size else if q % 16 = 0 ∧ 80 ≤ q ∧ q < 80 + 16 * n then H.size + 1 + (q - 80) / 16 else ad q := ⟨_, rfl⟩
  obtain ⟨ct1, hct1⟩ : ∃ z : hC, z = fun q => if q = 64 then some (eQ (D.2 3) n (fun i => if i < n then some (H.size + 1 + i) else none)) else if q % 16 = 0 ∧ 80 ≤ q ∧ q < 80 + 16 * n then some (eI D k (fun _ => 0)) else ct q := ⟨_, rfl⟩
  have a64 : ad1 64 = H.size := by rw [had1]; exact if_pos rfl
  have c64 : ct1 64 = some (eQ (D.2 3) n (fun i => if i < n then some (H.size + 1 + i) else none)) := by rw [hct1]; exact if_pos rfl
  have aR : ∀ q, q % 16 = 0 ∧ 80 ≤ q ∧ q < 80 + 16 * n → ad1 q = H.size + 1 + (q - 80) / 16 := fun q h => by rw [had1]; show (if q = 64 then _ else _) = _; rw [if_neg (by omega), if_pos h]
  have cR : ∀ q, q % 16 = 0 ∧ 80 ≤ q ∧ q < 80 + 16 * n → ct1 q = some (eI D k (fun _ => 0)) := fun q h => by rw [hct1]; show (if q = 64 then _ else _) = _; rw [if_neg (by omega), if_pos h]
  have aO : ∀ q : Nat, q ≠ 64 → ¬ (q % 16 = 0 ∧ 80 ≤ q ∧ q < 80 + 16 * n) → ad1 q = ad q := fun q h h2 => by rw [had1]; show (if q = 64 then _ else _) = _; rw [if_neg h, if_neg h2]
  have cO : ∀ q : Nat, q ≠ 64 → ¬ (q % 16 = 0 ∧ 80 ≤ q ∧ q < 80 + 16 * n) → ct1 q = ct q := fun q h h2 => by rw [hct1]; show (if q = 64 then _ else _) = _; rw [if_neg h, if_neg h2]
  have hV1 : hv D N0 ad1 ct1 F.heap := by
    obtain ⟨g1, g2, g3⟩ := hV
    refine ⟨by rw [f1]; omega, fun u x hx => ?_, fun u v x y hx hy ha => ?_⟩
    · by_cases h1 : u = 64
      · subst h1
        rw [c64] at hx
        cases hx
        rw [a64]
        exact ⟨g1, f2⟩
      · by_cases h2 : u % 16 = 0 ∧ 80 ≤ u ∧ u < 80 + 16 * n
        · rw [cR u h2] at hx
          cases hx
          rw [aR u h2]
          refine ⟨by omega, ?_⟩
          have := hrow ((u - 80) / 16) (by omega)
          show F.heap[H.size + 1 + (u - 80) / 16]? = some (vp_cell _ _)
          rw [this, vp_cell_i, ← arrV_new]
          rfl
        · rw [cO u h1 h2] at hx
          rw [aO u h1 h2]
          exact ⟨(g2 u x hx).1, (g2 u x hx).2.kept (hold _ (g2 u x hx).2.lt)⟩
    · have key : ∀ (u : Nat) (x : va_E), ct1 u = some x → (u = 64 ∧ ad1 u = H.size) ∨ ((u % 16 = 0 ∧ 80 ≤ u ∧ u < 80 + 16 * n) ∧ ad1 u = H.size + 1 + (u - 80) / 16) ∨ (ct u = some x ∧ ad1 u = ad u ∧ ad u < H.size) := by
        intro u x hx
        by_cases h1 : u = 64
        · subst h1; exact Or.inl ⟨rfl, a64⟩
        · by_cases h2 : u % 16 = 0 ∧ 80 ≤ u ∧ u < 80 + 16 * n
          · exact Or.inr (Or.inl ⟨h2, aR u h2⟩)
          · rw [cO u h1 h2] at hx
            exact Or.inr (Or.inr ⟨hx, aO u h1 h2, (g2 u x hx).2.lt⟩)
      rcases key u x hx with ⟨p1, p2⟩ | ⟨p1, p2⟩ | ⟨p1, p2, p3⟩ <;> rcases key v y hy with ⟨r1, r2⟩ | ⟨r1, r2⟩ | ⟨r1, r2, r3⟩
      · omega
      · omega
      · omega
      · omega
      · omega
      · omega
      · omega
      · omega
      · exact g3 u v x y p1 r1 (by omega)
  obtain ⟨t1, a1, b1⟩ := kk ad1 ct1 F.heap (by
      rw [c64]
      have : (fun i => if i < n then some (H.size + 1 + i) else none) = (fun i => if i < n then some (ad1 (16 * i + 80)) else none) := by
        funext i
        by_cases h : i < n
        · rw [if_pos h, if_pos h, aR _ (by omega)]
          congr 1
          omega
        · rw [if_neg h, if_neg h]
      rw [this]) (fun i hi => cR _ (by omega)) cO aO hV1 ⟨by rw [f1]; have := hS.1; omega, fun x h1 h2 => (hold x (Nat.lt_of_lt_of_le h1 hS.1)).trans (hS.2.1 x h1 h2), hS.2.2⟩ F rfl X1
  rw [a64] at a1
  refine ⟨t1, st t1 ?_, b1⟩
  rw [hTs]
  exact a1
/-- Unsafe.getLong of a row of numbers -/
theorem hv_getLong {a1 : Nat} (hexec : p.tables.exec = Jvm.exec) (hb : c.code = cc) (hown : s.vm.findClass RJx9a822 = some m.cls) (hlink : (Cond.methodLink RJx9a822 27 yGL).before args s = true) (hsel : (Cond.selects RJx9a822 yGL yGL).before args s = true) (hinst : (Cond.instanceMethod yGL).before args s = true) (hnat : (Cond.native yGL).before args s = true) (hKs : hK D N0 s) (hV : hv D N0 ad ct H)
    (hu : ∃ cell : Cell, H[a1]? = some cell ∧ cell.vm.isStatics = false ∧ s.vm.findClass RJx9a822 = some cell.cls) (hsz : ls.size = c.maxLocals) {t n w : Nat} {f : Nat → Int32} (he : ct t = some (eI D n f)) (hw : 2 * w + 1 < n) {off : Int64} (hneg : ¬ off < 0) (hoff : off.toNatClampNeg = 16 + 8 * w) (hR : 1 ≤ R.frames) (hL : 17 ≤ R.locals) (hdg : decode cc pc = .ok (.invokevirtual 27, 3))
    (kk : W p l e R s m args below meth c H locs cells slots Q (F0 m (pc + 3) ls [.long (jw (f (2 * w)) (f (2 * w + 1)))])) : W p l e R s m args below meth c H locs cells slots Q (F0 m pc ls [.long off, .ref (ad t), .ref a1]) := by
  intro T hT X
  obtain ⟨cell, q1, q2, q3⟩ := hu
  obtain ⟨vm1, X1, st⟩ := X.virtualQ hexec (own := RJx9a822) (C := RJx9a822) (index := 27) (y := yGL) (z := yGL) hown hlink (uw_declares hinst hnat) (notFace_of_selects hsel) hsel hinst (by decide) (uw_pays (l := l) (len := 3) (W := 0) hnat hinst hR (by omega)) (b := a1) q3 ⟨cell, by rw [hT]; exact q1, rfl, q2⟩ (g := F0 m pc ls [.long off, .ref (ad t), .ref a1]) rfl hsz (argsL := [.ref (ad t), .long off]) (rest := [])
    (fun sig h => by rw [Jvm.Free.NT.UnsafeGetLong.desc] at h; rw [← Option.some.inj h]; rfl) rfl (by show 2 * 0 + 0 ≤ 0; decide) (by rw [hb]; exact hdg) (a1, ad t, vp_cell (D.2 0) (n, .inl f), w, off, f (2 * w), f (2 * w + 1)) (fun vmx hWx => by
      obtain ⟨-, k, hk, comp, hkind⟩ := (arrOfT_moved (E := T.setVm vmx) hWx.alike (hKs.1.2 0 (D.2 0, .int) rfl).1) n (fun j => .int (f j))
      refine ⟨rfl, by show T.heap[ad t]? = _; rw [hT]; exact (hV.2.1 t _ he).2, rfl, ⟨k, comp, hk, hkind⟩, hneg, hoff, ?_, ?_⟩
      · show (arrV (D.2 0) n (fun j => .int (f j))).slots[2 * w]? = some (.int (f (2 * w))); rw [arrV_read _ _ (by omega)]
      · show (arrV (D.2 0) n (fun j => .int (f j))).slots[2 * w + 1]? = some (.int (f (2 * w + 1))); rw [arrV_read _ _ (by omega)])
  obtain ⟨t1, a2, b2⟩ := kk (T.setVm vm1) hT X1
  exact ⟨t1, st t1 a2, b2⟩
end HP1
