/-! EXCEPTIONS OUT OF A METHOD OF THE CLASS -/
def xB (x : String) : List Cond := [.declares (Bundle.initS "java/lang/RuntimeException"), .declares (Bundle.initS "java/lang/Exception"), .declares (Bundle.initS "java/lang/Throwable"), .castable x x]
theorem xb1 : ∀ w ∈ (vx_atS RX3 47 "java/lang/IndexOutOfBoundsException" ["java/lang/RuntimeException", "java/lang/Exception"]).filter (fun w => !goodWord w), w ∈ xB "java/lang/IndexOutOfBoundsException" := by decide +kernel
theorem xb2 : ∀ w ∈ (vx_atS RX3 59 "java/lang/IllegalArgumentException" ["java/lang/RuntimeException", "java/lang/Exception"]).filter (fun w => !goodWord w), w ∈ xB "java/lang/IllegalArgumentException" := by decide +kernel
theorem xb3 : ∀ w ∈ (vx_atS RX3 35 "java/lang/IllegalStateException" ["java/lang/RuntimeException", "java/lang/Exception"]).filter (fun w => !goodWord w), w ∈ xB "java/lang/IllegalStateException" := by decide +kernel
theorem xg1 : ∀ w ∈ Cond.classLink RX3 43 "java/lang/IndexOutOfBoundsException" :: Cond.initialized "java/lang/IndexOutOfBoundsException" :: vx_atS RX3 47 "java/lang/IndexOutOfBoundsException" ["java/lang/RuntimeException", "java/lang/Exception"], vx_ot w = true := by decide +kernel
theorem xg2 : ∀ w ∈ Cond.classLink RX3 55 "java/lang/IllegalArgumentException" :: Cond.initialized "java/lang/IllegalArgumentException" :: vx_atS RX3 59 "java/lang/IllegalArgumentException" ["java/lang/RuntimeException", "java/lang/Exception"], vx_ot w = true := by decide +kernel
theorem xg3 : ∀ w ∈ Cond.classLink RX3 31 "java/lang/IllegalStateException" :: Cond.initialized "java/lang/IllegalStateException" :: vx_atS RX3 35 "java/lang/IllegalStateException" ["java/lang/RuntimeException", "java/lang/Exception"], vx_ot w = true := by decide +kernel
theorem xB_of {D : hG} {N0 : Nat} {s : State} {args : Array Value} (h : hK D N0 s) {x : String} (hx : x ∈ hE3) : ∀ w ∈ xB x, w.before args s = true := by
  obtain ⟨-, -, -, -, -, ⟨h6, -, h8⟩, -⟩ := h
  exact vx_c (va_Nw.use rfl (h8 _ (by decide))) (vx_c (va_Nw.use rfl (h8 _ (by decide))) (vx_c (va_Nw.use rfl (h8 _ (by decide))) (vx_c (va_Nw.use rfl (h6 x hx)) vx_n)))
/-- what a call that throws leaves: the exception's name by its number, the world as it was -/
def hXC (D : hG) (N0 : Nat) (ad : Nat → Nat) (ct : hC) (nm : Nat → String) (k : Nat) : String → State → State → Prop :=
  vx_X (fun u : hU => k ≠ 0 ∧ u = (ad, ct)) (fun E u t => E = nm k ∧ hB D N0 u t) (hA N0)
def nm3 (k : Nat) : String := if k = 1 then "java/lang/IndexOutOfBoundsException" else if k = 2 then "java/lang/IllegalArgumentException" else "java/lang/IllegalStateException"
def nm2 (k : Nat) : String := if k = 1 then "java/lang/IndexOutOfBoundsException" else "java/lang/IllegalStateException"
def nmI (_ : Nat) : String := "java/lang/IndexOutOfBoundsException"
def nmA (_ : Nat) : String := "java/lang/IllegalArgumentException"
def nmS (_ : Nat) : String := "java/lang/IllegalStateException"
theorem hv.grow {D : hG} {N0 : Nat} {ad : Nat → Nat} {ct : hC} {H H1 : Heap} (h : hv D N0 ad ct H) (z : H.size ≤ H1.size) (oq : ∀ q : Nat, q < H.size → H1[q]? = H[q]?) : hv D N0 ad ct H1 :=
  ⟨Nat.le_trans h.1 z, fun t e he => ⟨(h.2.1 t e he).1, (h.2.1 t e he).2.kept (oq _ (h.2.1 t e he).2.lt)⟩, h.2.2⟩
section HX1
variable {p : Program} {l : Launch} {e : Env} {R : Room} {s : State} {m : MethodId} {args : Array Value} {below : List Frame} {meth : Method} {c : Code} {H : Heap} {locs : List Loc} {cells slots : Nat}
variable {cc : ByteArray} {pc : Nat} {ls : Array Slot} {D : hG} {N0 : Nat} {ad : Nat → Nat} {ct : hC}
theorem hv_throw {cls text : String} {ik is ic mc ms k j : Nat} {nm : Nat → String} {Qc : Array Value → State → Outcome → State → Prop} (hexec : p.tables.exec = Jvm.exec) (hb : c.code = cc) (hl : l.stackTraces = false) (hown : s.vm.findClass RX3 = some m.cls) (hKs : hK D N0 s) (hV : hv D N0 ad ct H) (hS : va_S (hA N0) s.heap H locs)
    (hcls : Bundle.fit cls = true) (hk : (Cond.classLink RX3 ik cls).before args s = true) (hini : (Cond.initialized cls).before args s = true) (htx : (is, text) ∈ hSt)
    (hat : ∀ w ∈ vx_atS RX3 ic cls ["java/lang/RuntimeException", "java/lang/Exception"], w.before args s = true) (hgood : ∀ w ∈ Cond.classLink RX3 ik cls :: Cond.initialized cls :: vx_atS RX3 ic cls ["java/lang/RuntimeException", "java/lang/Exception"], vx_ot w = true)
    (hsize : ls.size = c.maxLocals) (d0 : decode cc pc = .ok (.new ik, 3)) (d3 : decode cc (pc + 3) = .ok (.dup, 1)) (d4 : decode cc (pc + 4) = .ok (.ldc is, 2)) (d6 : decode cc (pc + 6) = .ok (.invokespecial ic, 3)) (d9 : decode cc (pc + 9) = .ok (.athrow, 1))
    (hnx : ∀ x ∈ c.exceptionTable.toList, False) (hRf : 5 < R.frames) (hRl : 82 ≤ R.locals) (hRc : cells + 1 ≤ R.cells) (hRs : slots + 6 ≤ R.slots) (hlocks : meth.locks = false) (hkj : k = j) (hj : j ≠ 0) (hnm : nm j = cls) (hc : cells + 1 ≤ mc) (hs : slots + 6 ≤ ms) :
    W p l e R s m args below meth c H locs cells slots (vx_MQ below Qc (hXC D N0 ad ct nm k) args s mc ms (hA N0)) (F0 m pc ls []) := by
  obtain ⟨sa, hstr⟩ := hKs.2.2.1 _ htx
  subst hkj
  refine vx_throwS (names := ["java/lang/RuntimeException", "java/lang/Exception"]) hexec hb hl hown hcls (by decide +kernel) hk hini hstr hat hgood hKs.2.2.2.1 hKs.2.2.2.2.1 hS hsize d0 d3 d4 d6 d9 (fun x hx => (hnx x hx).elim) hRf (by simpa using hRl) hRc hRs hlocks (fun t hA1 hz hq => ?_) hS.2.2 hc hs
  exact ⟨(ad, ct), ⟨hj, rfl⟩, ⟨hnm.symm, hV.grow hz hq⟩, Nat.le_trans hS.1 hz, fun q h1 h2 => (hq q (Nat.lt_of_lt_of_le h1 hS.1)).trans (hS.2.1 q h1 h2)⟩
end HX1
