section HW2
variable {p : Program} {l : Launch} {e : Env} {R : Room} {s : State} {m : MethodId} {args : Array Value} {below : List Frame} {meth : Method} {c : Code} {H : Heap} {locs : List Loc} {cells slots : Nat} {Q : State → Prop}
variable {cc : ByteArray} {pc : Nat} {ls : Array Slot} {rest : List Value} {D : hG} {N0 : Nat} {ad : Nat → Nat} {ct : hC}
theorem hv_newq {own C : String} {index : Nat} (hexec : p.tables.exec = Jvm.exec) (hb : c.code = cc) (hown : s.vm.findClass own = some m.cls) (hcl : (Cond.classLink own index C).before args s = true) (hAO : va_AO C s) (hKs : hK D N0 s) (hV : hv D N0 ad ct H) (hS : va_S (hA N0) s.heap H locs) (t k0 : Nat) {cA : ClassId} (ht : (hTy D)[k0]? = some (cA, .object C))
    {n : Nat} (hn : n < 65536) (hcells : cells + 1 ≤ R.cells) (hslots : slots + n ≤ R.slots) (hdg : decode cc pc = .ok (.anewarray index, 3))
    (kk : ∀ (ad1 : Nat → Nat) (ct1 : hC) (H1 : Heap), ct1 t = some (eQ cA n (fun _ => none)) → (∀ q : Nat, q ≠ t → ct1 q = ct q) → (∀ q : Nat, q ≠ t → ad1 q = ad q) → hv D N0 ad1 ct1 H1 → va_S (hA N0) s.heap H1 locs →
      W p l e R s m args below meth c H1 locs (cells + 1) (slots + n) Q (F0 m (pc + 3) ls (.ref (ad1 t) :: rest))) : W p l e R s m args below meth c H locs cells slots Q (F0 m pc ls (.int (nI n) :: rest)) := by
  have hb31 : n < 2 ^ 31 := Nat.lt_trans hn (by decide)
  refine W.anew hexec hb hown hcl (va_AO.use hAO) rfl hdg rfl (nI_pos hb31) (by rw [nI_clamp hb31]; omega) hcells (by rw [nI_clamp hb31]; exact hslots) fun cA' kA comp f1 f2 f3 f4 => ?_
  have hcA : cA' = cA := by
    obtain ⟨kB, cB, g1, g2, g3, g4⟩ := (hKs.1.2 k0 _ ht).2
    exact Option.some.inj (f1.symm.trans g4)
  subst hcA
  rw [nI_clamp hb31]
  generalize hH1 : H.push ({ cls := cA', slots := Array.replicate n .null, vm := .none } : Cell) = H1
  have z1 : H1.size = H.size + 1 := by rw [← hH1, Array.size_push]
  have e1 : H1[H.size]? = some (arrV cA' n (fun _ => .null)) := by rw [← hH1, Array.getElem?_push_size, ← arrV_new]
  have o1 : ∀ q : Nat, q < H.size → H1[q]? = H[q]? := fun q hq => by rw [← hH1, Array.getElem?_push, if_neg (Nat.ne_of_lt hq)]
  have h := kk (va_up ad t H.size) (va_up ct t (some (eQ cA' n (fun _ => none)))) H1 (va_up_self _ _ _) (fun q h => va_up_ne _ _ h) (fun q h => va_up_ne _ _ h) (hV.new t e1 o1 (by omega)) ⟨Nat.le_trans hS.1 (by omega), fun x h1 h2 => (o1 x (Nat.lt_of_lt_of_le h1 hS.1)).trans (hS.2.1 x h1 h2), hS.2.2⟩
  rw [va_up_self] at h
  exact h
end HW2
/-- a start that makes rows of objects -/
def hPcO (D : hG) (N0 : Nat) (ad : Nat → Nat) (ct : hC) (av : List Value) : Array Value → State → Prop := va_Pc av (fun U => (va_AO RX0 U ∧ va_AO RX2 U) ∧ hK D N0 U ∧ hv D N0 ad ct U.heap)
/-- the state at first -/
def s_0 : gS := (0, fun _ => (0, 0, 0, false, fun _ => 0), 0, fun _ => (fun _ => 0, 0, none), 0, fun _ => none, -1, nI 0)
theorem ok_0 : okS s_0 := by
  refine ⟨by decide, by decide, by decide, fun i hi => absurd hi (Nat.not_lt_zero i), fun i hi => absurd hi (Nat.not_lt_zero i), fun k s t h => (by cases h), fun s k hs => absurd hs (Nat.not_lt_zero s), by decide⟩
theorem gX_0 {D : hG} {ad : Nat → Nat} {ct : hC} (h0 : ct 0 = some (eO 3 [.ref (ad 16), .ref (ad 32), .ref (ad 48), .int (nI 0), .int (nI 0), .int (nI 0), .int (-1), .int (nI 0)]))
    (h1 : ct 16 = some (eQ (D.2 1) 8 (fun _ => none))) (h2 : ct 32 = some (eQ (D.2 2) 60 (fun _ => none))) (h3 : ct 48 = some (eQ (D.2 2) 24 (fun _ => none))) : gX D s_0 ad ct :=
  ⟨h0, h1, h2, h3, fun i hi => absurd hi (Nat.not_lt_zero i), fun i hi => absurd hi (Nat.not_lt_zero i)⟩
