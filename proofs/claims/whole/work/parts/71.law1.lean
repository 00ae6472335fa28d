/-! THE LAW'S OWN CATCHERS -/
section HW3
variable {p : Program} {l : Launch} {e : Env} {R : Room} {s : State} {m : MethodId} {args : Array Value} {below : List Frame} {meth : Method} {c : Code} {H : Heap} {locs : List Loc} {cells slots : Nat} {Q : State → Prop}
variable {cc : ByteArray} {pc : Nat} {ls : Array Slot} {rest st0 : List Value} {D : hG} {N0 : Nat} {ad : Nat → Nat} {ct : hC}
theorem hv_callxi {post : Int32 → hU → Prop} {a : Array Value} {mc ms k : Nat} {nm : Nat → String} (hr : vx_Run p l e R s m args below meth c H locs cells slots mc ms (F0 m pc ls st0) rest (va_Qi post (hB D N0) (hA N0) a) (hXC D N0 ad ct nm k) (hA N0)) (hS : va_S (hA N0) s.heap H locs)
    (kx : k ≠ 0 → ∀ (ce : Cell) (q9 : Nat) (H1 : Heap) (locs1 : List Loc), hv D N0 ad ct H1 → va_S (hA N0) s.heap H1 locs1 → H1[q9]? = some ce → ce.vm = .none → s.vm.findClass (nm k) = some ce.cls → vx_W p l e R s m args below meth c H1 locs1 (cells + mc) (slots + ms) Q (F0 m pc ls rest) q9)
    (kk : ∀ (r : Int32) (u : hU) (H1 : Heap) (locs1 : List Loc), post r u → hv D N0 u.1 u.2 H1 → va_S (hA N0) s.heap H1 locs1 → W p l e R s m args below meth c H1 locs1 (cells + mc) (slots + ms) Q (F0 m (pc + 3) ls (.int r :: rest))) : W p l e R s m args below meth c H locs cells slots Q (F0 m pc ls st0) :=
  vx_calli (px := fun u : hU => k ≠ 0 ∧ u = (ad, ct)) (BX := fun E u t => E = nm k ∧ hB D N0 u t) (AX := hA N0) hr hS (fun _ _ h => h) (fun _ h => h) (fun _ _ h => h)
    (fun E ce q9 u t H1 locs1 ht _ hp hb _ _ hS1 hc hv hcl => by
      obtain ⟨hk0, hu⟩ := hp
      obtain ⟨hE, hb⟩ := hb
      subst hu
      subst hE
      unfold hB at hb
      rw [ht] at hb
      exact kx hk0 ce q9 H1 locs1 hb hS1 hc hv hcl)
    (fun r u t H1 locs1 ht _ hp hb _ _ hS1 => kk r u H1 locs1 hp (by unfold hB at hb; rw [ht] at hb; exact hb) hS1)
end HW3
/-- what a catcher leaves: the exception's number; at 0 the answer in out, the state moved -/
def wPost (D : hG) (k : Nat) (r : Int32) (σ σ' : gS) (ad : Nat → Nat) (ct : hC) (z : Int32) (u : hU) : Prop :=
  z = nI k ∧ (k = 0 → gX D σ' u.1 u.2 ∧ ∃ f : Nat → Int64, u.2 64 = some (eL D 1 f) ∧ f 0 = r.toInt64) ∧ (k ≠ 0 → gX D σ u.1 u.2 ∧ ∃ f : Nat → Int64, u.2 64 = some (eL D 1 f)) ∧ ∀ q : Nat, q % 16 = 0 → u.1 q = ad q ∧ (80 ≤ q → u.2 q = ct q)
theorem gX.out {D : hG} {σ : gS} {ad : Nat → Nat} {ct ct' : hC} (h : gX D σ ad ct) (hne : ∀ q : Nat, q ≠ 64 → ct' q = ct q) : gX D σ ad ct' := h.keep (fun z h1 h2 => hne z (by omega)) (fun _ _ _ => rfl)
theorem hbv_1 {b : Bool} (h : (hbv b).toInt ≠ 0) : (1 : Int64) = (hbv b).toInt64 := by
  cases b
  · exact absurd (by decide) h
  · decide
theorem hbv_0 {b : Bool} (h : (hbv b).toInt = 0) : (0 : Int64) = (hbv b).toInt64 := by
  cases b
  · decide
  · exact absurd h (by decide)

set_option maxHeartbeats 4000000 in
set_option maxRecDepth 100000 in
theorem c_L_begin (l : Launch) (D : hG) (N0 : Nat) (ad : Nat → Nat) (ct : hC) (hfl : l.stackTraces = false) {σ : gS} (hG : gX D σ ad ct) (hO : okS σ) {fo : Nat → Int64} (hout : ct 64 = some (eL D 1 fo)) : Met l yL_begin wsL_begin ({ frames := 7, cells := 3, slots := 30, locals := 103 }) (hPc D N0 ad ct [.ref (ad (0)), .ref (ad (64))]) (va_Qi (fun (z : Int32) (u : hU) => wPost D (k_begin σ) (nI (gNC σ)) σ (s_begin σ) ad ct z u) (hB D N0) (hA N0)) 3 30 (hA N0) := by
  refine va_MetW (cc := cL_begin) (maxL := 3) (ret := (some .int)) (hh := [(0, 8, 11, 13)]) (by decide) rfl ?_
  intro p e s m args below meth c s₁ B hml hv0
  obtain ⟨hargs, hKs, hV⟩ := hv0
  have hx := B.exec
  have hb := B.bytes
  have hr := B.returns
  have hts := atoms_spec (ws := wsL_begin) B.pre
  have hown : s.vm.findClass RL = some m.cls := findClass_of_methodNamed B.named
  have hlocks := B.notSynchronized
  have hS : va_S (hA N0) s.heap s.heap [] := va_S.rf
  have kl13 := hts (.classLink RL 13 "java/lang/IllegalStateException") (by decide +kernel)
  have hl := lv_entry ([.ref (ad (0)), .ref (ad (64))]) (n := 3) (Nat.le_of_ble_eq_true rfl)
  have hE : entryFrame m args 3 = entryFrame m ([.ref (ad (0)), .ref (ad (64))] : List Value).toArray 3 := by rw [hargs]
  rw [hE, lg_entry_eq]
  generalize (lg_sl ([.ref (ad (0)), .ref (ad (64))]) ++ List.replicate (3 - (lg_sl ([.ref (ad (0)), .ref (ad (64))])).length) Slot.unset).toArray = ls at hl ⊢
  have hl : lv_has ls 3 [(0, .ref (ad (0))), (1, .ref (ad (64)))] := hl
  have htab := vx_table (x := yL_begin) B (hts _ List.mem_cons_self)
  obtain ⟨-, -, -, -, -, hX6, hX7, hX8⟩ := id hKs
  obtain ⟨ad0, had0⟩ : ∃ z, z = ad := ⟨ad, rfl⟩
  obtain ⟨ct0, hct0⟩ : ∃ z, z = ct := ⟨ct, rfl⟩
  refine lv_aload_n hx hb dL_begin_0 rfl (lv_at hl 1 rfl) ?_
  refine lv_iconst (v := nI 0) hx hb dL_begin_1 (by decide) ?_
  refine lv_aload_n hx hb dL_begin_2 rfl (lv_at hl 0 rfl) ?_
  refine hv_callxi (vx_runV (As := []) (rest := [.int (nI (0)), .ref (ad (64))]) ⟨hx, hb, hml, hown, hts⟩ (c_X3_begin l hfl D N0 ad ct hG hO ) (cwV 0 hts gL_begin_X3_begin rfl rfl rfl (by decide +kernel) ⟨Nat.le_of_ble_eq_true rfl, Nat.le_of_ble_eq_true rfl⟩) (hv_preV (r := (RX3, TX3, 8)) hKs hV hS hG.1 rfl) rfl rfl hl.1 rfl (lv_room (Nat.le_of_ble_eq_true rfl)) dL_begin_3 ⟨(Nat.le_of_ble_eq_true rfl), (Nat.le_of_ble_eq_true rfl)⟩) hS (fun hk0 ce q9 H locs hV hS hce hcv hcl => ?_) (fun r9 u9 H locs hq hV hS => ?_)
  · have hkb : k_begin σ ≤ 1 := by unfold k_begin; (repeat' split) <;> omega
    rcases (show k_begin σ = 1 by omega) with h1
    rw [h1] at hcl
    refine vx_catch (E := "java/lang/IllegalStateException") hown [] _ _ (htab.trans rfl) (fun z hz => absurd hz List.not_mem_nil) (by decide) (by decide) kl13 (va_Nw.use rfl (hX6 _ (by decide))) hce hcv hcl ?_
    refine W.eq (g2 := F0 m 11 ls [.ref q9]) rfl ?_
    refine lv_astore_n (lv' := [(2, .ref (q9)), (0, .ref (ad (0))), (1, .ref (ad (64)))]) hx hb dL_begin_11 rfl hl (by decide) rfl (fun ls hl => ?_)
    refine lv_iconst (v := nI 1) hx hb dL_begin_12 (by decide) ?_
    refine W.widen (k := 3) (n := 30) (by omega) (by omega) ?_
    exact hv_iret (v := nI (1)) (u := (ad, ct)) hx hb hr ⟨by rw [h1], fun h9 => absurd h9 hk0, fun _ => ⟨hG, fo, hout⟩, fun q q1 => ⟨rfl, fun _ => rfl⟩⟩ hV hS dL_begin_13 hlocks
  · obtain ⟨ad, ct⟩ := u9
    dsimp only at hq
    obtain ⟨hkz, hr9, hG1, hF1⟩ := hq
    have hV : hv D N0 ad ct H := hV
    have hna := fun (q : Nat) (q1 : q % 16 = 0) => (hF1 q q1).1
    have hF2 : ∀ q : Nat, q % 16 = 0 → ad q = ad0 q ∧ (64 ≤ q → ct q = ct0 q) := fun q q1 => ⟨(hF1 q q1).1.trans (by rw [had0]), fun q2 => ((hF1 q q1).2 q2).trans (by rw [hct0])⟩
    refine hv_stk (st' := [.int r9, .int (nI (0)), .ref (ad (64))]) (by rw [(hF2 64 (by omega)).1, had0]) ?_
    have hout := ((hF1 64 (by omega)).2 (by omega)).trans hout
    have hl : lv_has ls 3 [] := lv_sub hl [] rfl
    refine lv_i2l hx hb dL_begin_6 rfl ?_
    refine hv_last hx hb hKs hV hS hout (by omega) (by decide) dL_begin_7 (fun ct H locs he hne hV hS => ?_)
    have hout := he
    refine lv_goto (tgt := 14) hx hb dL_begin_8 (by decide) ?_
    refine lv_iconst (v := nI 0) hx hb dL_begin_14 (by decide) ?_
    refine W.widen (k := 3) (n := 30) (by omega) (by omega) ?_
    exact hv_iret (v := nI (0)) (u := (ad, ct)) hx hb hr ⟨by rw [hkz], fun _ => ⟨hG1.out hne, _, hout, (by rw [va_up_self, hr9])⟩, fun h9 => absurd hkz h9, fun q q1 => ⟨(hF2 q q1).1.trans (by rw [had0]), fun q2 => ((hne q (by omega)).trans ((hF2 q q1).2 (by omega))).trans (by rw [hct0])⟩⟩ hV hS dL_begin_15 hlocks
