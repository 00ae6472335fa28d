section HW1
variable {p : Program} {l : Launch} {e : Env} {R : Room} {s : State} {m : MethodId} {args : Array Value} {below : List Frame} {meth : Method} {c : Code} {H : Heap} {locs : List Loc} {cells slots : Nat} {Q : State → Prop}
variable {cc : ByteArray} {pc : Nat} {ls : Array Slot} {rest : List Value} {D : hG} {N0 : Nat} {ad : Nat → Nat} {ct : hC}
theorem hv_putN {own ref C host : String} {T : u_T} {N ci index : Nat} {Ts : List Cond} (hexec : p.tables.exec = Jvm.exec) (hb : c.code = cc) (hts : ∀ w ∈ Ts, w.before args s = true) (hin : ∀ w ∈ u_ws C T N, w ∈ Ts) (ty0 : Nat → FieldType) (hty : ∀ k, k < N → parseFieldDescriptor (T k).2.2.1 = some (ty0 k)) (hnm : ∀ a, a < N → ∀ b, b < N → a ≠ b → (T a).2.1 ≠ (T b).2.1) (hown : s.vm.findClass own = some m.cls) (hKs : hK D N0 s) (hV : hv D N0 ad ct H) (hS : va_S (hA N0) s.heap H locs) {t : Nat} {fs : List Value} (he : ct t = some (eO ci fs)) (k : Nat) (hc : vwCl[ci]? = some (C, T, N)) (hk : k < N) (hlink : va_Nw (.fieldLinkNest own index ref (T k).2.1 (T k).2.2.1 host) s) (hsame : ∀ x, s.fieldFound? (T k).1 (T k).2.1 (T k).2.2.1 = some x → s.fieldFound? ref (T k).2.1 (T k).2.2.1 = some x) (hfin : (T k).2.2.2 = false ∨ False) {ty : FieldType} {v : Value} (hd : parseFieldDescriptor (T k).2.2.1 = some ty) (hn : narrow ty v = v) (hfit : fits ty v = true) (hl : k < fs.length)
    (hdg : decode cc pc = .ok (.putfield index, 3)) (kk : ∀ (ct1 : hC) (H1 : Heap) (locs1 : List Loc), ct1 t = some (eO ci (fs.set k v)) → (∀ q : Nat, q ≠ t → ct1 q = ct q) → hv D N0 ad ct1 H1 → va_S (hA N0) s.heap H1 locs1 → W p l e R s m args below meth c H1 locs1 cells slots Q (F0 m (pc + 3) ls rest)) : W p l e R s m args below meth c H locs cells slots Q (F0 m pc ls (v :: .ref (ad t) :: rest)) := by
  have hap := va_apart (own := own) hts hin ty0 hty hnm hKs.1 hc
  obtain ⟨hN, r, h1, cell, q1, q2, q3, q4⟩ := hV.2.1 t _ he
  have hr : r = (C, T, N) := Option.some.inj (h1.symm.trans hc)
  subst hr
  obtain ⟨hSl, hfc, kC, hkC, hkind⟩ := hKs.1.1 ci _ hc
  obtain ⟨cf, kf, fi, f, hi, hsl⟩ := hSl k hk
  have hlay := hts _ (hin _ (u_in_lay hk))
  unfold u_lay at hlay
  have hfin := hfin.elim (fun h => h) (fun h => h.elim)
  rw [if_neg (by rw [hfin]; decide)] at hlay
  have hst := (u_facts hfc hkC (u_lays hts hin hk) hi).1
  have h6 := u_store hfc hkC hkind hlay hi hd hn hfit
  refine va_WputK hexec hb (f := f) hown (va_Nw.use rfl hlink) (hsame _ hi) hst (by rw [q2]; exact h6) q1 q3 (by rw [hsl]; exact k2_hasslot (q4 k hk)) rfl rfl hdg fun H' e1 e2 e3 => ?_
  rw [hsl] at e1 ⊢
  exact kk (va_up ct t (some (eO ci (fs.set k v)))) H' _ (va_up_self _ _ _) (fun q h => va_up_ne _ _ h) (hV.set he ⟨_, hc, t_OB.to (V := updV (vp_V fs) k v) ⟨_, e1, q2, q3, t_set q4 hap hk v⟩ (fun j _ => vp_updV_set hl v j)⟩ e3 e2) (hS.put e2 e3 hN)
end HW1
/-- what a call leaves of the cells that aren't the class's -/
def hFr (ad : Nat → Nat) (ct : hC) (u : hU) : Prop := ∀ q : Nat, q % 16 = 0 → u.1 q = ad q ∧ (64 ≤ q → u.2 q = ct q)
theorem okH_of {σ : gS} (h : okS σ) : gNC σ ≤ 8 ∧ ∀ i, i < gNC σ → cHt σ i ≤ 10 := ⟨h.1, fun i hi => (h.2.2.2.1 i hi).2.1⟩
theorem okH_can {σ : gS} (h : okS σ) {i : Nat} {q : gCn} (hq : q.2.2.1 ≤ 10) : gNC (uCan σ i q) ≤ 8 ∧ ∀ j, j < gNC (uCan σ i q) → cHt (uCan σ i q) j ≤ 10 := by
  refine ⟨h.1, fun j hj => ?_⟩
  show (va_up σ.2.1 i q j).2.2.1 ≤ 10
  by_cases e : j = i
  · subst e; rw [va_up_self]; exact hq
  · rw [va_up_ne _ _ e]; exact (h.2.2.2.1 j hj).2.1
/-- a new cane -/
theorem gX.begin {D : hG} {σ : gS} {ad ad' : Nat → Nat} {ct ct' : hC} (h : gX D σ ad ct)
    (h0 : ct' 0 = some (eO 3 [.ref (ad' 16), .ref (ad' 32), .ref (ad' 48), .int (nI (gNC σ + 1)), .int (nI (gNS σ)), .int (nI (gNB σ)), .int (gFu σ), .int (gMi σ)]))
    (h1 : ct' 16 = some (eQ (D.2 1) 8 (va_up (fun i => if i < gNC σ then some (ad (16 * i + 3)) else none) (gNC σ) (some (ad' (16 * gNC σ + 3)))))) (hc : gXc D ad' ct' (gNC σ) (8, nI 0, 10, false, fun _ => 0))
    (hne : ∀ q : Nat, q ≠ 0 → q ≠ 16 → q ≠ 16 * gNC σ + 3 → q ≠ 16 * gNC σ + 4 → q ≠ 16 * gNC σ + 5 → ct' q = ct q) (hna : ∀ q : Nat, q ≠ 16 * gNC σ + 3 → q ≠ 16 * gNC σ + 4 → q ≠ 16 * gNC σ + 5 → ad' q = ad q) : gX D (s_begin σ) ad' ct' := by
  obtain ⟨g1, g2, g3, g4, g5, g6⟩ := h
  refine ⟨h0, ?_, ?_, ?_, fun j hj => ?_, fun j hj => (g6 j hj).keep (fun z hz => hne z (by omega) (by omega) (by omega) (by omega) (by omega)) (fun z hz => hna z (by omega) (by omega) (by omega))⟩
  · rw [h1]
    congr 2
    funext i
    show va_up _ _ _ i = if i < gNC σ + 1 then some (ad' (16 * i + 3)) else none
    unfold va_up
    by_cases e : i = gNC σ
    · subst e
      rw [if_pos rfl, if_pos (by omega)]
    · rw [if_neg e]
      show (if i < gNC σ then some (ad (16 * i + 3)) else none) = _
      by_cases e2 : i < gNC σ
      · rw [if_pos e2, if_pos (by omega), hna (16 * i + 3) (by omega) (by omega) (by omega)]
      · rw [if_neg e2, if_neg (by omega)]
  · rw [hne 32 (by omega) (by omega) (by omega) (by omega) (by omega), g3]
    congr 2
    funext i
    show (if i < gNS σ then some (ad (16 * i + 6)) else none) = if i < gNS σ then some (ad' (16 * i + 6)) else none
    rw [hna (16 * i + 6) (by omega) (by omega) (by omega)]
  · rw [hne 48 (by omega) (by omega) (by omega) (by omega) (by omega), g4]
    congr 2
    funext k
    show (gEy σ k).map (fun q => ad (16 * q.1 + 6)) = (gEy σ k).map (fun q => ad' (16 * q.1 + 6))
    congr 1
    funext q
    rw [hna (16 * q.1 + 6) (by omega) (by omega) (by omega)]
  · have hj2 : j < gNC σ + 1 := hj
    show gXc D ad' ct' j (va_up σ.2.1 (gNC σ) (8, nI 0, 10, false, fun _ => 0) j)
    by_cases e : j = gNC σ
    · subst e
      rw [va_up_self]
      exact hc
    · rw [va_up_ne _ _ e]
      exact (g5 j (by omega)).keep (fun z hz => hne z (by omega) (by omega) (by omega) (by omega) (by omega)) (fun z hz => hna z (by omega) (by omega) (by omega))
/-- a slice goes into an eye, or out of one -/
theorem gX.eye {D : hG} {σ : gS} {ad : Nat → Nat} {ct ct' : hC} (h : gX D σ ad ct) {k x : Nat} {v : Option (Nat × Nat)} {w : Option Nat} {f : Nat → Option Nat} {tn : Nat} (hx : x < gNS σ)
    (hf : f = fun q => (gEy σ q).map (fun q => ad (16 * q.1 + 6)))
    (h3 : ct' 48 = some (eQ (D.2 2) 24 (va_up f k (v.map (fun q => ad (16 * q.1 + 6))))))
    (hs : ct' (16 * x + 6) = some (eO 2 [.int (nI x), .ref (ad (16 * x + 7)), .int (nI (sKd σ x)), .int (eyv w), .int (nI tn)]))
    (hne : ∀ q : Nat, q ≠ 48 → q ≠ 16 * x + 6 → ct' q = ct q) {σ' : gS} (hσ : σ' = (σ.1, σ.2.1, σ.2.2.1, va_up σ.2.2.2.1 x (sPt σ x, sKd σ x, w), σ.2.2.2.2.1, va_up σ.2.2.2.2.2.1 k v, σ.2.2.2.2.2.2))
    (ht : trn σ' x = tn) (ho : ∀ s, s < gNS σ → s ≠ x → trn σ' s = trn σ s) : gX D σ' ad ct' := by
  subst hσ
  obtain ⟨g1, g2, g3, g4, g5, g6⟩ := h
  refine ⟨by rw [hne 0 (by omega) (by omega)]; exact g1, by rw [hne 16 (by omega) (by omega)]; exact g2, by rw [hne 32 (by omega) (by omega)]; exact g3, ?_, fun j hj => (g5 j hj).keep (fun z hz => hne z (by omega) (by omega)) (fun _ _ => rfl), fun j hj => ?_⟩
  · rw [h3]
    congr 2
    funext q
    show va_up f k (v.map (fun q => ad (16 * q.1 + 6))) q = (va_up σ.2.2.2.2.2.1 k v q).map (fun q => ad (16 * q.1 + 6))
    by_cases e : q = k
    · subst e; rw [va_up_self, va_up_self]
    · rw [va_up_ne _ _ e, va_up_ne _ _ e, hf]
  · show gXs D ad ct' j (va_up σ.2.2.2.1 x (sPt σ x, sKd σ x, w) j) (trn _ j)
    by_cases e : j = x
    · subst e
      rw [va_up_self, ht]
      exact ⟨hs, (g6 j hj).2.keep (hne _ (by omega) (by omega)) (hne _ (by omega) (by omega)) rfl⟩
    · rw [va_up_ne _ _ e, ho j hj e]
      exact (g6 j hj).keep (fun z hz => hne z (by omega) (by omega)) (fun _ _ => rfl)
theorem trn_set {σ : gS} (h : okS σ) {k x t : Nat} (h0 : gEy σ k = none) : trn (s_set σ k x t) x = t ∧ ∀ s, s < gNS σ → s ≠ x → trn (s_set σ k x t) s = trn σ s := by
  have oldS : ∀ j, j ≠ x → (s_set σ k x t).2.2.2.1 j = σ.2.2.2.1 j := fun j hj => va_up_ne _ _ hj
  have newS : (s_set σ k x t).2.2.2.1 x = (sPt σ x, sKd σ x, some k) := va_up_self _ _ _
  have oldE : ∀ j, j ≠ k → (s_set σ k x t).2.2.2.2.2.1 j = σ.2.2.2.2.2.1 j := fun j hj => va_up_ne _ _ hj
  have newE : (s_set σ k x t).2.2.2.2.2.1 k = some (x, t) := va_up_self _ _ _
  refine ⟨?_, fun s hs hsx => ?_⟩
  · unfold trn
    show (match ((s_set σ k x t).2.2.2.1 x).2.2 with | none => 0 | some e => match (s_set σ k x t).2.2.2.2.2.1 e with | none => 0 | some q => q.2) = t
    rw [newS]
    show (match (s_set σ k x t).2.2.2.2.2.1 k with | none => 0 | some q => q.2) = t
    rw [newE]
  · unfold trn
    show (match ((s_set σ k x t).2.2.2.1 s).2.2 with | none => 0 | some e => match (s_set σ k x t).2.2.2.2.2.1 e with | none => 0 | some q => q.2) = _
    rw [oldS s hsx]
    rcases he : (σ.2.2.2.1 s).2.2 with _ | e
    · show 0 = (match sEy σ s with | none => 0 | some e => match gEy σ e with | none => 0 | some q => q.2)
      rw [show sEy σ s = none from he]
    · show (match (s_set σ k x t).2.2.2.2.2.1 e with | none => 0 | some q => q.2) = (match sEy σ s with | none => 0 | some e => match gEy σ e with | none => 0 | some q => q.2)
      obtain ⟨u, hu⟩ := h.2.2.2.2.2.2.1 s e hs he
      have hek : e ≠ k := by
        intro z
        subst z
        rw [h0] at hu
        cases hu
      rw [oldE e hek, show sEy σ s = some e from he]
theorem trn_drop {σ : gS} (h : okS σ) {k x t : Nat} (h0 : gEy σ k = some (x, t)) : trn (s_drop σ k) x = 0 ∧ ∀ s, s < gNS σ → s ≠ x → trn (s_drop σ k) s = trn σ s := by
  have ed : s_drop σ k = (σ.1, σ.2.1, σ.2.2.1, va_up σ.2.2.2.1 x (sPt σ x, sKd σ x, none), σ.2.2.2.2.1, va_up σ.2.2.2.2.2.1 k none, σ.2.2.2.2.2.2) := by
    unfold s_drop
    rw [h0]
  have oldS : ∀ j, j ≠ x → (s_drop σ k).2.2.2.1 j = σ.2.2.2.1 j := fun j hj => by rw [ed]; exact va_up_ne _ _ hj
  have newS : (s_drop σ k).2.2.2.1 x = (sPt σ x, sKd σ x, none) := by rw [ed]; exact va_up_self _ _ _
  have oldE : ∀ j, j ≠ k → (s_drop σ k).2.2.2.2.2.1 j = σ.2.2.2.2.2.1 j := fun j hj => by rw [ed]; exact va_up_ne _ _ hj
  refine ⟨?_, fun s hs hsx => ?_⟩
  · unfold trn
    show (match ((s_drop σ k).2.2.2.1 x).2.2 with | none => 0 | some e => match (s_drop σ k).2.2.2.2.2.1 e with | none => 0 | some q => q.2) = 0
    rw [newS]
  · unfold trn
    show (match ((s_drop σ k).2.2.2.1 s).2.2 with | none => 0 | some e => match (s_drop σ k).2.2.2.2.2.1 e with | none => 0 | some q => q.2) = _
    rw [oldS s hsx]
    rcases he : (σ.2.2.2.1 s).2.2 with _ | e
    · show 0 = (match sEy σ s with | none => 0 | some e => match gEy σ e with | none => 0 | some q => q.2)
      rw [show sEy σ s = none from he]
    · show (match (s_drop σ k).2.2.2.2.2.1 e with | none => 0 | some q => q.2) = (match sEy σ s with | none => 0 | some e => match gEy σ e with | none => 0 | some q => q.2)
      obtain ⟨u, hu⟩ := h.2.2.2.2.2.2.1 s e hs he
      have hek : e ≠ k := by
        intro z
        subst z
        rw [h0] at hu
        cases hu
        exact hsx rfl
      rw [oldE e hek, show sEy σ s = some e from he]
