/-! ENDS OF METHODS; small facts -/
section HV4
variable {p : Program} {l : Launch} {e : Env} {R : Room} {s : State} {m : MethodId} {args : Array Value} {below : List Frame} {meth : Method} {c : Code} {H : Heap} {locs : List Loc} {cells slots : Nat} {Q : State → Prop}
variable {cc : ByteArray} {pc : Nat} {ls : Array Slot} {rest : List Value} {D : hG} {N0 : Nat}
theorem hB_of {D : hG} {N0 : Nat} {u : hU} {t : State} {H : Heap} (ht : t.heap = H) (hV : hv D N0 u.1 u.2 H) : hB D N0 u t := by
  unfold hB
  rw [ht]
  exact hV
theorem hv_iret {post : Int32 → hU → Prop} {v : Int32} {u : hU} (hexec : p.tables.exec = Jvm.exec) (hb : c.code = cc) (hr : meth.sig.returnType = some .int) (hq : post v u) (hV : hv D N0 u.1 u.2 H) (hS : va_S (hA N0) s.heap H locs) (hdg : decode cc pc = .ok (.ireturn, 1)) (hlocks : meth.locks = false) :
    W p l e R s m args below meth c H locs cells slots (MQ below (va_Qi post (hB D N0) (hA N0)) args s cells slots (hA N0)) (F0 m pc ls [.int v]) :=
  W.iret hexec hb hr (fun t ht _ => ⟨⟨v, u, rfl, hq, hB_of ht hV⟩, hS.F ht⟩) hS.2.2 hdg hlocks
theorem hv_zret {post : Int32 → hU → Prop} {v : Int32} {u : hU} (hexec : p.tables.exec = Jvm.exec) (hb : c.code = cc) (hr : meth.sig.returnType = some .boolean) (hn : narrow .boolean (.int v) = .int v) (hq : post v u) (hV : hv D N0 u.1 u.2 H) (hS : va_S (hA N0) s.heap H locs) (hdg : decode cc pc = .ok (.ireturn, 1)) (hlocks : meth.locks = false) :
    W p l e R s m args below meth c H locs cells slots (MQ below (va_Qi post (hB D N0) (hA N0)) args s cells slots (hA N0)) (F0 m pc ls [.int v]) :=
  W.zret hexec hb hr hn (fun t ht _ => ⟨⟨v, u, rfl, hq, hB_of ht hV⟩, hS.F ht⟩) hS.2.2 hdg hlocks
theorem hv_lret {post : Int64 → hU → Prop} {v : Int64} {u : hU} (hexec : p.tables.exec = Jvm.exec) (hb : c.code = cc) (hr : meth.sig.returnType = some .long) (hq : post v u) (hV : hv D N0 u.1 u.2 H) (hS : va_S (hA N0) s.heap H locs) (hdg : decode cc pc = .ok (.lreturn, 1)) (hlocks : meth.locks = false) :
    W p l e R s m args below meth c H locs cells slots (MQ below (va_Ql post (hB D N0) (hA N0)) args s cells slots (hA N0)) (F0 m pc ls [.long v]) :=
  W.lret hexec hb hr (fun t ht _ => ⟨⟨v, u, rfl, hq, hB_of ht hV⟩, hS.F ht⟩) hS.2.2 hdg hlocks
theorem hv_dret {post : UInt64 → hU → Prop} {v : UInt64} {u : hU} (hexec : p.tables.exec = Jvm.exec) (hb : c.code = cc) (hr : meth.sig.returnType = some .double) (hq : post v u) (hV : hv D N0 u.1 u.2 H) (hS : va_S (hA N0) s.heap H locs) (hdg : decode cc pc = .ok (.dreturn, 1)) (hlocks : meth.locks = false) :
    W p l e R s m args below meth c H locs cells slots (MQ below (va_Qd post (hB D N0) (hA N0)) args s cells slots (hA N0)) (F0 m pc ls [.double v]) :=
  W.dret hexec hb hr (fun t ht _ => ⟨⟨v, u, rfl, hq, hB_of ht hV⟩, hS.F ht⟩) hS.2.2 hdg hlocks
theorem hv_vret {post : hU → Prop} {u : hU} (hexec : p.tables.exec = Jvm.exec) (hb : c.code = cc) (hr : meth.sig.returnType = none) (hq : post u) (hV : hv D N0 u.1 u.2 H) (hS : va_S (hA N0) s.heap H locs) (hdg : decode cc pc = .ok (.return_, 1)) (hlocks : meth.locks = false) :
    W p l e R s m args below meth c H locs cells slots (MQ below (va_Qv post (hB D N0) (hA N0)) args s cells slots (hA N0)) (F0 m pc ls []) :=
  W.vret hexec hb hr (fun t ht _ => ⟨⟨u, rfl, hq, hB_of ht hV⟩, hS.F ht⟩) hS.2.2 hdg hlocks
end HV4
theorem hb_nar (b : Bool) : narrow .boolean (.int (hbv b)) = .int (hbv b) := by cases b <;> rfl
theorem hb_fit (b : Bool) : fits .boolean (.int (hbv b)) = true := by cases b <;> rfl
theorem hN_dec {a : Nat} (h : 1 ≤ a) : nI a + Int32.ofInt (-1) = nI (a - 1) := by
  obtain ⟨b, rfl⟩ : ∃ b, a = b + 1 := ⟨a - 1, by omega⟩
  rw [Nat.add_sub_cancel]
  exact pk_m1 b
theorem hN_min {a b : Nat} (ha : a < 2 ^ 31) (hb31 : b < 2 ^ 31) : (if nI b < nI a then nI b else nI a) = nI (min a b) := by
  by_cases h : b < a
  · rw [if_pos ((nI_ltI hb31 ha).mpr h), Nat.min_eq_right (Nat.le_of_lt h)]
  · rw [if_neg (fun q => h ((nI_ltI hb31 ha).mp q)), Nat.min_eq_left (by omega)]
theorem hN_max {a b : Nat} (ha : a < 2 ^ 31) (hb31 : b < 2 ^ 31) : (if nI a < nI b then nI b else nI a) = nI (max a b) := by
  by_cases h : a < b
  · rw [if_pos ((nI_ltI ha hb31).mpr h), Nat.max_eq_right (Nat.le_of_lt h)]
  · rw [if_neg (fun q => h ((nI_ltI ha hb31).mp q)), Nat.max_eq_left (by omega)]
theorem h_m1 : (-1 : Int32).toInt = -1 := by decide
theorem hI_of {x : Int32} {n : Nat} (h0 : 0 ≤ x.toInt) (h1 : x.toInt < n) : ∃ j : Nat, j < n ∧ x = nI j := by
  refine ⟨x.toInt.toNat, by omega, ?_⟩
  have h31 : x.toInt < 2147483648 := Int32.toInt_lt x
  rw [hI_eq, nI_toInt (by omega)]
  omega
/-- a number from 0 to below n -/
def inR (x : Int32) (n : Nat) : Bool := decide (0 ≤ x.toInt ∧ x.toInt < n)
theorem inR_t {x : Int32} {n : Nat} (h : inR x n = true) : 0 ≤ x.toInt ∧ x.toInt < n := of_decide_eq_true h
theorem inR_f {x : Int32} {n : Nat} (h : inR x n = false) : ¬ (0 ≤ x.toInt ∧ x.toInt < n) := of_decide_eq_false h
theorem inR_1 {x : Int32} {n : Nat} (h0 : 0 ≤ x.toInt) (h1 : x.toInt < n) : inR x n = true := decide_eq_true ⟨h0, h1⟩
theorem inR_0 {x : Int32} {n : Nat} (h : x.toInt < 0 ∨ (n : Int) ≤ x.toInt) : inR x n = false := decide_eq_false (by omega)
theorem inR_of {x : Int32} {n : Nat} (h : inR x n = true) : ∃ j : Nat, j < n ∧ x = nI j := hI_of (inR_t h).1 (inR_t h).2
/-- a number modulo 8, never below 0 -/
def m8 (x : Int32) : Nat := (x.toInt % 8).toNat
theorem m8_lt (x : Int32) : m8 x < 8 := by
  unfold m8
  omega
section HV5
variable {p : Program} {l : Launch} {e : Env} {R : Room} {s : State} {m : MethodId} {args : Array Value} {below : List Frame} {meth : Method} {c : Code} {H : Heap} {locs : List Loc} {cells slots : Nat} {Q : State → Prop}
variable {cc : ByteArray} {pc : Nat} {ls : Array Slot} {rest : List Value} {D : hG} {N0 : Nat}
theorem hv_qret {C : String} {post : Option Nat → hU → Prop} {r : Option Nat} {u : hU} (hexec : p.tables.exec = Jvm.exec) (hb : c.code = cc) (hr : meth.sig.returnType = some (.object C)) (hq : post r u) (hV : hv D N0 u.1 u.2 H) (hS : va_S (hA N0) s.heap H locs) (hdg : decode cc pc = .ok (.areturn, 1)) (hlocks : meth.locks = false) :
    W p l e R s m args below meth c H locs cells slots (MQ below (va_Qq post (hB D N0) (hA N0)) args s cells slots (hA N0)) (F0 m pc ls [va_rf r]) :=
  W.aret hexec hb hr (Or.inl ⟨_, rfl⟩) (va_rf_or r) (fun t ht _ => ⟨⟨r, u, rfl, hq, hB_of ht hV⟩, hS.F ht⟩) hS.2.2 hdg hlocks
theorem hv_stk {st st' : List Value} (h : st = st') (kk : W p l e R s m args below meth c H locs cells slots Q (F0 m pc ls st')) : W p l e R s m args below meth c H locs cells slots Q (F0 m pc ls st) := h ▸ kk
theorem hv_ifQ {cd : Prop} [Decidable cd] {a : Nat} (kt : cd → W p l e R s m args below meth c H locs cells slots Q (F0 m pc ls (.ref a :: rest))) (kf : ¬ cd → W p l e R s m args below meth c H locs cells slots Q (F0 m pc ls (.null :: rest))) : W p l e R s m args below meth c H locs cells slots Q (F0 m pc ls (va_rf (if cd then some a else none) :: rest)) := by
  by_cases h : cd
  · rw [if_pos h]; exact kt h
  · rw [if_neg h]; exact kf h
end HV5
theorem dv_X0 : ∀ j, j < 5 → defaultValue (tyX0 j) = vp_V [.null, .int (nI 0), .int (nI 0), .int (nI 0), .int (nI 0)] j := fun j hj => by
  rcases (show j = 0 ∨ j = 1 ∨ j = 2 ∨ j = 3 ∨ j = 4 by omega) with rfl | rfl | rfl | rfl | rfl <;> rfl
theorem dv_X1 : ∀ j, j < 1 → defaultValue (tyX1 j) = vp_V [.null] j := fun j hj => by
  rcases (show j = 0 by omega) with rfl
  rfl
theorem dv_X2 : ∀ j, j < 5 → defaultValue (tyX2 j) = vp_V [.int (nI 0), .null, .int (nI 0), .int (nI 0), .int (nI 0)] j := fun j hj => by
  rcases (show j = 0 ∨ j = 1 ∨ j = 2 ∨ j = 3 ∨ j = 4 by omega) with rfl | rfl | rfl | rfl | rfl <;> rfl
