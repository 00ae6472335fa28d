/-- a start that makes rows of objects, met out of the world at a call -/
theorem hPcO.blind {D : hG} {N0 : Nat} {ad : Nat → Nat} {ct : hC} {av : List Value} : FrameBlind (hPcO D N0 ad ct av) := by
  intro a U g mk h
  obtain ⟨h1, ⟨h4, h5⟩, h2, h3⟩ := h
  exact ⟨h1, ⟨va_AO.moved (u := U) (U := U.calling g mk a) (Vm.Alike.refl U.vm) h4, va_AO.moved (u := U) (U := U.calling g mk a) (Vm.Alike.refl U.vm) h5⟩, h2.blind, h3⟩
theorem hv_preSO {s : State} {H : Heap} {locs : List Loc} {D : hG} {N0 : Nat} {ad : Nat → Nat} {ct : hC} {As : List Value} (hA0 : va_AO RX0 s) (hA2 : va_AO RX2 s) (hKs : hK D N0 s) (hV : hv D N0 ad ct H) (hS : va_S (hA N0) s.heap H locs) : PreS s H (hPcO D N0 ad ct As) As :=
  ⟨hPcO.blind, fun U hU hW => ⟨rfl, ⟨va_AO.moved hW.alike hA0, va_AO.moved hW.alike hA2⟩, hKs.to hS hU hW, by rw [hU]; exact hV⟩⟩
