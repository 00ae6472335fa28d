/-! THE WORLD BY TAGS: `ad` tells a tag's address, `ct` what its cell holds; everything the law makes lies from N0 on -/
abbrev hG : Type := va_G × (Nat → ClassId)
abbrev hC : Type := Nat → Option va_E
abbrev hU : Type := (Nat → Nat) × hC
def hA (N0 : Nat) : Nat → Prop := fun q => N0 ≤ q
abbrev hTy (D : hG) : List (ClassId × FieldType) := [(D.2 0, .int), (D.2 1, .object RX0), (D.2 2, .object RX2), (D.2 3, .array .int), (D.2 4, .boolean)]
abbrev eI (D : hG) (n : Nat) (f : Nat → Int32) : va_E := .inl (D.2 0, n, .inl f)
abbrev eQ (cA : ClassId) (n : Nat) (f : Nat → Option Nat) : va_E := .inl (cA, n, .inr (.inr (.inr (.inr f))))
abbrev eO (ci : Nat) (fs : List Value) : va_E := .inr (ci, fs)
def hv (D : hG) (N0 : Nat) (ad : Nat → Nat) (ct : hC) (H : Heap) : Prop :=
  N0 ≤ H.size ∧ (∀ (t : Nat) (e : va_E), ct t = some e → N0 ≤ ad t ∧ va_at D.1 vwCl (ad t, e) H) ∧ ∀ (t u : Nat) (e e' : va_E), ct t = some e → ct u = some e' → ad t = ad u → t = u
def hNf : List (Nat × String × String × String) := [(272, "CaneSlices$Pattern", "colours", "[I"), (71, "CaneSlices$Cane", "pattern", "LCaneSlices$Pattern;"), (103, "CaneSlices$Cane", "length", "I"), (89, "CaneSlices$Cane", "twist", "I"), (106, "CaneSlices$Cane", "heat", "I"), (62, "CaneSlices$Cane", "cracked", "Z"), (193, "CaneSlices$Slice", "number", "I"), (152, "CaneSlices$Slice", "pattern", "LCaneSlices$Pattern;"), (226, "CaneSlices$Slice", "kind", "I"), (155, "CaneSlices$Slice", "eye", "I"), (198, "CaneSlices$Slice", "turn", "I")]
def hSt : List (Nat × String) := [(33, "there are 8 canes"), (45, "no such cane"), (57, "no such ring or sector"), (60, "not 1 to 8 sectors, or no such colour"), (66, "the cane is cracked"), (87, "by is 0, or not -4 to 4"), (92, "the cane is cracked, or would be twisted too far"), (97, "not 1 to 60 minutes"), (109, "the cane is used up, or too hot"), (114, "there are 60 slices"), (131, "no such cane, or what is not 0 to 4"), (140, "no such cane, place, ring or sector"), (150, "no such slice, ring or sector"), (153, "no such slice"), (161, "there are 6 beads"), (169, "no such bead, eye or slice"), (171, "not turned by 0 to 7 sectors"), (177, "the eye has a slice, or the slice is in an eye"), (196, "no such bead, eye, ring or sector"), (201, "what is not 0 to 7"), (215, "no such cane or slice"), (217, "no such bead")]
def hE3 : List String := ["java/lang/IndexOutOfBoundsException", "java/lang/IllegalArgumentException", "java/lang/IllegalStateException"]
/-- what the tables say of the three exceptions -/
def hXw (U : State) : Prop := (∀ x ∈ hE3, va_Nw (.castable x x) U) ∧ True ∧ ∀ y ∈ ["java/lang/RuntimeException", "java/lang/Exception", "java/lang/Throwable"], va_Nw (.declares (Bundle.initS y)) U
/-- the JDK's statics that an array's comparing reads, and the rows' classes -/
def hJw (N0 : Nat) (U : State) : Prop := (va_AO RX0 U ∧ va_AO RX2 U ∧ va_AOA .int U) ∧ va_Z "jdk/internal/misc/Unsafe" "ARRAY_INT_BASE_OFFSET" "I" (.int 16) (hA N0) U U.heap ∧ va_Z "jdk/internal/util/ArraysSupport" "LOG2_ARRAY_INT_INDEX_SCALE" "I" (.int 2) (hA N0) U U.heap ∧ va_Z "jdk/internal/util/ArraysSupport" "LOG2_ARRAY_LONG_INDEX_SCALE" "I" (.int 3) (hA N0) U U.heap ∧ ∃ a : Nat, va_Z "jdk/internal/util/ArraysSupport" "U" "Ljdk/internal/misc/Unsafe;" (.ref a) (hA N0) U U.heap ∧ va_O "jdk/internal/misc/Unsafe" a (hA N0) U U.heap
/-- what holds of the machine's tables, and of the cells that nobody writes -/
def hK (D : hG) (N0 : Nat) (U : State) : Prop :=
  va_K D.1 vwCl (hTy D) U ∧ (∀ q ∈ hNf, va_Nw (.fieldLinkNest RX3 q.1 q.2.1 q.2.2.1 q.2.2.2 RX3) U) ∧ (∀ q ∈ hSt, ∃ a : Nat, vk_R RX3 q.1 q.2 a U) ∧ vx_Zq Bundle.tN "UNASSIGNED_STACK" Bundle.steD (hA N0) U U.heap ∧ vx_Zq Bundle.tN "SUPPRESSED_SENTINEL" Bundle.listD (hA N0) U U.heap ∧ hXw U ∧ hJw N0 U
theorem hK.to {D : hG} {N0 : Nat} {s U : State} {H : Heap} {locs : List Loc} (h : hK D N0 s) (hS : va_S (hA N0) s.heap H locs) (hU : U.heap = H) (hW : s.WarmedH U.vm) : hK D N0 U := by
  obtain ⟨h1, h2, h3, h4, h5, ⟨h6, h7, h8⟩, ⟨⟨j1, j2, j3⟩, j4, j5, j6, ja, j7, j8⟩⟩ := h
  refine ⟨va_K.moved hW.alike h1, fun q hq => va_Nw.warmF hW (h2 q hq), fun q hq => ?_, ?_, ?_, ⟨fun x hx => va_Nw.warmC hW (h6 x hx), trivial, fun y hy => va_Nw.warmD hW (h8 y hy)⟩, ⟨va_AO.moved hW.alike j1, va_AO.moved hW.alike j2, va_AOA.moved hW.alike j3⟩, ?_, ?_, ?_, ja, ?_, ?_⟩
  · obtain ⟨a, ha⟩ := h3 q hq
    exact ⟨a, ha.warm hW⟩
  · rw [hU]; exact (h4.kept (fun a q1 q2 => hS.2.1 a q1 q2)).moved hW.alike
  · rw [hU]; exact (h5.kept (fun a q1 q2 => hS.2.1 a q1 q2)).moved hW.alike
  · rw [hU]; exact (j4.kept (fun a q1 q2 => hS.2.1 a q1 q2)).moved hW.alike
  · rw [hU]; exact (j5.kept (fun a q1 q2 => hS.2.1 a q1 q2)).moved hW.alike
  · rw [hU]; exact (j6.kept (fun a q1 q2 => hS.2.1 a q1 q2)).moved hW.alike
  · rw [hU]; exact (j7.kept (fun a q1 q2 => hS.2.1 a q1 q2)).moved hW.alike
  · rw [hU]; exact (j8.kept (fun a q1 q2 => hS.2.1 a q1 q2)).moved hW.alike
theorem hK.blind {D : hG} {N0 : Nat} {U : State} {g : JFrame} {mk : MethodId} {a : Array Value} (h : hK D N0 U) : hK D N0 (U.calling g mk a) := by
  obtain ⟨h1, h2, h3, h4, h5, ⟨h6, h7, h8⟩, ⟨⟨j1, j2, j3⟩, j4, j5, j6, ja, j7, j8⟩⟩ := h
  refine ⟨va_K.moved (u := U) (U := U.calling g mk a) (Vm.Alike.refl U.vm) h1, fun q hq => va_Nw.same rfl rfl (h2 q hq), fun q hq => ?_, vx_Zq.moved (u := U) (U := U.calling g mk a) (Vm.Alike.refl U.vm) h4, vx_Zq.moved (u := U) (U := U.calling g mk a) (Vm.Alike.refl U.vm) h5, ⟨fun x hx => va_Nw.same rfl rfl (h6 x hx), trivial, fun y hy => va_Nw.same rfl rfl (h8 y hy)⟩, ⟨va_AO.moved (u := U) (U := U.calling g mk a) (Vm.Alike.refl U.vm) j1, va_AO.moved (u := U) (U := U.calling g mk a) (Vm.Alike.refl U.vm) j2, va_AOA.moved (u := U) (U := U.calling g mk a) (Vm.Alike.refl U.vm) j3⟩, va_Z.moved (u := U) (U := U.calling g mk a) (Vm.Alike.refl U.vm) j4, va_Z.moved (u := U) (U := U.calling g mk a) (Vm.Alike.refl U.vm) j5, va_Z.moved (u := U) (U := U.calling g mk a) (Vm.Alike.refl U.vm) j6, ja, va_Z.moved (u := U) (U := U.calling g mk a) (Vm.Alike.refl U.vm) j7, va_O.moved (u := U) (U := U.calling g mk a) (Vm.Alike.refl U.vm) j8⟩
  obtain ⟨b, hb⟩ := h3 q hq
  exact ⟨b, vk_R.same rfl hb⟩
theorem hv.one {D : hG} {N0 : Nat} {ad : Nat → Nat} {ct : hC} {H : Heap} {t : Nat} {e : va_E} (h : hv D N0 ad ct H) (he : ct t = some e) : va_P D.1 vwCl [(ad t, e)] H := by
  intro k q hk
  have hz : k < 1 := (List.getElem?_eq_some_iff.mp hk).1
  rw [show k = 0 by omega] at hk
  cases hk
  exact (h.2.1 t e he).2
theorem hv.set {D : hG} {N0 : Nat} {ad : Nat → Nat} {ct : hC} {H H1 : Heap} {t : Nat} {e0 e : va_E} (h : hv D N0 ad ct H) (he : ct t = some e0) (h1 : va_at D.1 vwCl (ad t, e) H1) (oq : ∀ q : Nat, q ≠ ad t → H1[q]? = H[q]?) (z : H1.size = H.size) : hv D N0 ad (va_up ct t (some e)) H1 := by
  obtain ⟨g1, g2, g3⟩ := h
  have key : ∀ (u : Nat) (x : va_E), va_up ct t (some e) u = some x → ∃ y, ct u = some y := by
    intro u x hx
    by_cases hu : u = t
    · subst hu; exact ⟨_, he⟩
    · rw [va_up_ne _ _ hu] at hx; exact ⟨_, hx⟩
  refine ⟨by rw [z]; exact g1, fun u x hx => ?_, fun u v x y hx hy ha => ?_⟩
  · by_cases hu : u = t
    · subst hu
      rw [va_up_self] at hx
      cases hx
      exact ⟨(g2 u e0 he).1, h1⟩
    · rw [va_up_ne _ _ hu] at hx
      refine ⟨(g2 u x hx).1, (g2 u x hx).2.kept (oq _ fun q => hu (g3 u t x e0 hx he q))⟩
  · obtain ⟨x', hx'⟩ := key u x hx
    obtain ⟨y', hy'⟩ := key v y hy
    exact g3 u v x' y' hx' hy' ha
theorem hv.new {D : hG} {N0 : Nat} {ad : Nat → Nat} {ct : hC} {H H1 : Heap} (t : Nat) {e : va_E} (h : hv D N0 ad ct H) (h1 : va_at D.1 vwCl (H.size, e) H1) (oq : ∀ q : Nat, q < H.size → H1[q]? = H[q]?) (z : H.size ≤ H1.size) : hv D N0 (va_up ad t H.size) (va_up ct t (some e)) H1 := by
  obtain ⟨g1, g2, g3⟩ := h
  refine ⟨Nat.le_trans g1 z, fun u x hx => ?_, fun u v x y hx hy ha => ?_⟩
  · by_cases hu : u = t
    · subst hu
      rw [va_up_self] at hx ⊢
      cases hx
      exact ⟨g1, h1⟩
    · rw [va_up_ne _ _ hu] at hx ⊢
      have hl : ad u < H.size := (g2 u x hx).2.lt
      exact ⟨(g2 u x hx).1, (g2 u x hx).2.kept (oq _ hl)⟩
  · by_cases hu : u = t
    · by_cases hw : v = t
      · exact hu.trans hw.symm
      · rw [va_up_ne _ _ hw] at hy
        rw [hu, va_up_self, va_up_ne _ _ hw] at ha
        have hl : ad v < H.size := (g2 v y hy).2.lt
        omega
    · rw [va_up_ne _ _ hu] at hx
      by_cases hw : v = t
      · rw [hw, va_up_self, va_up_ne _ _ hu] at ha
        have hl : ad u < H.size := (g2 u x hx).2.lt
        omega
      · rw [va_up_ne _ _ hw] at hy
        rw [va_up_ne _ _ hu, va_up_ne _ _ hw] at ha
        exact g3 u v x y hx hy ha
def hPc (D : hG) (N0 : Nat) (ad : Nat → Nat) (ct : hC) (av : List Value) : Array Value → State → Prop := va_Pc av (fun U => hK D N0 U ∧ hv D N0 ad ct U.heap)
def hB (D : hG) (N0 : Nat) (u : hU) (t : State) : Prop := hv D N0 u.1 u.2 t.heap
theorem hPc.blind {D : hG} {N0 : Nat} {ad : Nat → Nat} {ct : hC} {av : List Value} : FrameBlind (hPc D N0 ad ct av) := by
  intro a U g mk h
  obtain ⟨h1, h2, h3⟩ := h
  exact ⟨h1, h2.blind, h3⟩
section HV1
variable {p : Program} {l : Launch} {e : Env} {R : Room} {s : State} {m : MethodId} {args : Array Value} {below : List Frame} {meth : Method} {c : Code} {H : Heap} {locs : List Loc} {cells slots : Nat} {Q : State → Prop}
variable {cc : ByteArray} {pc : Nat} {ls : Array Slot} {rest st0 : List Value} {D : hG} {N0 : Nat} {ad : Nat → Nat} {ct : hC} {t : Nat}
theorem hv_preV {ci : Nat} {fs As : List Value} {r : vw_C} (hKs : hK D N0 s) (hV : hv D N0 ad ct H) (hS : va_S (hA N0) s.heap H locs) (he : ct t = some (eO ci fs)) (hc : vwCl[ci]? = some r) : PreV s H r.1 (ad t) (hPc D N0 ad ct (.ref (ad t) :: As)) As :=
  ⟨hPc.blind, va_recv (q0 := 0) hKs.1 (hV.one he) hc rfl, fun U hU hW => ⟨rfl, hKs.to hS hU hW, by rw [hU]; exact hV⟩⟩
theorem hv_preS {As : List Value} (hKs : hK D N0 s) (hV : hv D N0 ad ct H) (hS : va_S (hA N0) s.heap H locs) : PreS s H (hPc D N0 ad ct As) As :=
  ⟨hPc.blind, fun U hU hW => ⟨rfl, hKs.to hS hU hW, by rw [hU]; exact hV⟩⟩
theorem hv_calli {post : Int32 → hU → Prop} {a : Array Value} {mc ms : Nat} (hr : va_Run p l e R s m args below meth c H locs cells slots mc ms (F0 m pc ls st0) rest (va_Qi post (hB D N0) (hA N0) a) (hA N0)) (hS : va_S (hA N0) s.heap H locs)
    (kk : ∀ (r : Int32) (u : hU) (H1 : Heap) (locs1 : List Loc), post r u → hv D N0 u.1 u.2 H1 → va_S (hA N0) s.heap H1 locs1 → W p l e R s m args below meth c H1 locs1 (cells + mc) (slots + ms) Q (F0 m (pc + 3) ls (.int r :: rest))) : W p l e R s m args below meth c H locs cells slots Q (F0 m pc ls st0) :=
  va_calli hr hS (fun _ _ h => h) (fun _ h => h) (fun r u t H1 locs1 ht _ hp hb _ _ hS1 => kk r u H1 locs1 hp (by unfold hB at hb; rw [ht] at hb; exact hb) hS1)
theorem hv_calll {post : Int64 → hU → Prop} {a : Array Value} {mc ms : Nat} (hr : va_Run p l e R s m args below meth c H locs cells slots mc ms (F0 m pc ls st0) rest (va_Ql post (hB D N0) (hA N0) a) (hA N0)) (hS : va_S (hA N0) s.heap H locs)
    (kk : ∀ (r : Int64) (u : hU) (H1 : Heap) (locs1 : List Loc), post r u → hv D N0 u.1 u.2 H1 → va_S (hA N0) s.heap H1 locs1 → W p l e R s m args below meth c H1 locs1 (cells + mc) (slots + ms) Q (F0 m (pc + 3) ls (.long r :: rest))) : W p l e R s m args below meth c H locs cells slots Q (F0 m pc ls st0) :=
  va_calll hr hS (fun _ _ h => h) (fun _ h => h) (fun r u t H1 locs1 ht _ hp hb _ _ hS1 => kk r u H1 locs1 hp (by unfold hB at hb; rw [ht] at hb; exact hb) hS1)
theorem hv_callv {post : hU → Prop} {a : Array Value} {mc ms : Nat} (hr : va_Run p l e R s m args below meth c H locs cells slots mc ms (F0 m pc ls st0) rest (va_Qv post (hB D N0) (hA N0) a) (hA N0)) (hS : va_S (hA N0) s.heap H locs)
    (kk : ∀ (u : hU) (H1 : Heap) (locs1 : List Loc), post u → hv D N0 u.1 u.2 H1 → va_S (hA N0) s.heap H1 locs1 → W p l e R s m args below meth c H1 locs1 (cells + mc) (slots + ms) Q (F0 m (pc + 3) ls rest)) : W p l e R s m args below meth c H locs cells slots Q (F0 m pc ls st0) :=
  va_callv hr hS (fun _ _ h => h) (fun _ h => h) (fun u t H1 locs1 ht _ hp hb _ _ hS1 => kk u H1 locs1 hp (by unfold hB at hb; rw [ht] at hb; exact hb) hS1)
theorem hv_callq {post : Option Nat → hU → Prop} {a : Array Value} {mc ms : Nat} (hr : va_Run p l e R s m args below meth c H locs cells slots mc ms (F0 m pc ls st0) rest (va_Qq post (hB D N0) (hA N0) a) (hA N0)) (hS : va_S (hA N0) s.heap H locs)
    (kk : ∀ (r : Option Nat) (u : hU) (H1 : Heap) (locs1 : List Loc), post r u → hv D N0 u.1 u.2 H1 → va_S (hA N0) s.heap H1 locs1 → W p l e R s m args below meth c H1 locs1 (cells + mc) (slots + ms) Q (F0 m (pc + 3) ls (va_rf r :: rest))) : W p l e R s m args below meth c H locs cells slots Q (F0 m pc ls st0) :=
  va_callq hr hS (fun _ _ h => h) (fun _ h => h) (fun r u t H1 locs1 ht _ hp hb _ _ hS1 => kk r u H1 locs1 hp (by unfold hB at hb; rw [ht] at hb; exact hb) hS1)
end HV1
