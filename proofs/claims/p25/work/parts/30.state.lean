/-! THE STATE that both sides hold. A cane: length, twist, heat, cracked, colours; a slice: colours, kind, eye; an eye: slice and turn -/
abbrev gCn : Type := Nat × Int32 × Nat × Bool × (Nat → Nat)
abbrev gSl : Type := (Nat → Nat) × Nat × Option Nat
abbrev gS : Type := Nat × (Nat → gCn) × Nat × (Nat → gSl) × Nat × (Nat → Option (Nat × Nat)) × Int32 × Int32
abbrev gNC (σ : gS) : Nat := σ.1
abbrev gCan (σ : gS) (i : Nat) : gCn := σ.2.1 i
abbrev gNS (σ : gS) : Nat := σ.2.2.1
abbrev gSli (σ : gS) (i : Nat) : gSl := σ.2.2.2.1 i
abbrev gNB (σ : gS) : Nat := σ.2.2.2.2.1
abbrev gEy (σ : gS) (i : Nat) : Option (Nat × Nat) := σ.2.2.2.2.2.1 i
abbrev gFu (σ : gS) : Int32 := σ.2.2.2.2.2.2.1
abbrev gMi (σ : gS) : Int32 := σ.2.2.2.2.2.2.2
abbrev cLen (σ : gS) (i : Nat) : Nat := (σ.2.1 i).1
abbrev cTw (σ : gS) (i : Nat) : Int32 := (σ.2.1 i).2.1
abbrev cHt (σ : gS) (i : Nat) : Nat := (σ.2.1 i).2.2.1
abbrev cCr (σ : gS) (i : Nat) : Bool := (σ.2.1 i).2.2.2.1
abbrev cPt (σ : gS) (i : Nat) : Nat → Nat := (σ.2.1 i).2.2.2.2
abbrev sPt (σ : gS) (i : Nat) : Nat → Nat := (σ.2.2.2.1 i).1
abbrev sKd (σ : gS) (i : Nat) : Nat := (σ.2.2.2.1 i).2.1
abbrev sEy (σ : gS) (i : Nat) : Option Nat := (σ.2.2.2.1 i).2.2
/-- an eye as a number: -1 for none -/
def eyv (e : Option Nat) : Int32 := match e with
  | none => -1
  | some k => nI k
/-- the turn that a slice's cell holds -/
def trn (σ : gS) (i : Nat) : Nat := match sEy σ i with
  | none => 0
  | some e => match gEy σ e with
    | none => 0
    | some q => q.2
/-- whether the one can be turned to look like the other -/
def sim (P Q : Nat → Nat) : Bool := decide (lturn P Q < 8)
/-- the first slice that the pattern can be turned to look like, or n -/
def knd (σ : gS) (P : Nat → Nat) (n : Nat) : Nat := frst (fun j => sim P (sPt σ j)) n
def nsm (f : Nat → Nat) : Nat → Nat
  | 0 => 0
  | n + 1 => nsm f n + f n
theorem nsm_cong {f g : Nat → Nat} : ∀ {n : Nat}, (∀ k, k < n → f k = g k) → nsm f n = nsm g n
  | 0, _ => rfl
  | n + 1, h => by rw [nsm, nsm, nsm_cong (fun k hk => h k (by omega)), h n (by omega)]
theorem nsm_upd (f : Nat → Nat) (v : Nat) {i : Nat} : ∀ {n : Nat}, i < n → nsm (fun k => if k = i then v else f k) n + f i = nsm f n + v
  | 0, h => by omega
  | n + 1, h => by
    rw [nsm, nsm]
    rcases Nat.lt_or_ge i n with q | q
    · have ih := nsm_upd f v (i := i) (n := n) q
      rw [if_neg (by omega)]
      omega
    · have hi : i = n := by omega
      subst hi
      rw [if_pos rfl, nsm_cong (g := f) (fun k hk => if_neg (by omega))]
      omega
theorem nsm_le {f : Nat → Nat} {c : Nat} : ∀ {n : Nat}, (∀ k, k < n → f k ≤ c) → nsm f n ≤ n * c
  | 0, _ => by rw [nsm]; omega
  | n + 1, h => by
    have h1 := nsm_le (f := f) (c := c) (n := n) (fun k hk => h k (by omega))
    have h2 := h n (by omega)
    rw [nsm, Nat.succ_mul]
    omega
/-- what holds of every state that calls bring about -/
def okS (σ : gS) : Prop :=
  gNC σ ≤ 8 ∧ gNS σ ≤ 60 ∧ gNB σ ≤ 6 ∧ (∀ i, i < gNC σ → cLen σ i ≤ 60 ∧ cHt σ i ≤ 10 ∧ ∀ j, j < 24 → cPt σ i j < 8) ∧ (∀ i, i < gNS σ → (∀ j, j < 24 → sPt σ i j < 8) ∧ sKd σ i = knd σ (sPt σ i) i) ∧
  (∀ e s t, gEy σ e = some (s, t) → e < 4 * gNB σ ∧ s < gNS σ ∧ t < 8 ∧ sEy σ s = some e) ∧ (∀ s e, s < gNS σ → sEy σ s = some e → ∃ t, gEy σ e = some (s, t)) ∧
  nsm (fun e => if (gEy σ e).isSome then 1 else 0) 24 = nsm (fun s => if (sEy σ s).isSome then 1 else 0) (gNS σ)
/-- a cane's cells -/
def gXc (D : hG) (ad : Nat → Nat) (ct : hC) (i : Nat) (q : gCn) : Prop :=
  ct (16 * i + 3) = some (eO 0 [.ref (ad (16 * i + 4)), .int (nI q.1), .int q.2.1, .int (nI q.2.2.1), .int (hbv q.2.2.2.1)]) ∧ hPat D ad ct (16 * i + 4) q.2.2.2.2
/-- a slice's cells -/
def gXs (D : hG) (ad : Nat → Nat) (ct : hC) (i : Nat) (q : gSl) (tn : Nat) : Prop :=
  ct (16 * i + 6) = some (eO 2 [.int (nI i), .ref (ad (16 * i + 7)), .int (nI q.2.1), .int (eyv q.2.2), .int (nI tn)]) ∧ hPat D ad ct (16 * i + 7) q.1
/-- THE CLASS: its object at the tag 0, its rows at 16, 32, 48; cane i at 16 i + 3, slice i at 16 i + 6 -/
def gX (D : hG) (σ : gS) (ad : Nat → Nat) (ct : hC) : Prop :=
  ct 0 = some (eO 3 [.ref (ad 16), .ref (ad 32), .ref (ad 48), .int (nI (gNC σ)), .int (nI (gNS σ)), .int (nI (gNB σ)), .int (gFu σ), .int (gMi σ)]) ∧
  ct 16 = some (eQ (D.2 1) 8 (fun i => if i < gNC σ then some (ad (16 * i + 3)) else none)) ∧
  ct 32 = some (eQ (D.2 2) 60 (fun i => if i < gNS σ then some (ad (16 * i + 6)) else none)) ∧
  ct 48 = some (eQ (D.2 2) 24 (fun e => (gEy σ e).map (fun q => ad (16 * q.1 + 6)))) ∧
  (∀ i, i < gNC σ → gXc D ad ct i (σ.2.1 i)) ∧ ∀ i, i < gNS σ → gXs D ad ct i (σ.2.2.2.1 i) (trn σ i)
theorem hPat.keep {D : hG} {ad ad' : Nat → Nat} {ct ct' : hC} {t : Nat} {P : Nat → Nat} (h : hPat D ad ct t P) (h1 : ct' t = ct t) (h2 : ct' (t + 1) = ct (t + 1)) (ha : ad' (t + 1) = ad (t + 1)) : hPat D ad' ct' t P := by
  obtain ⟨g1, F, g2, g3⟩ := h
  exact ⟨by rw [h1, ha]; exact g1, F, by rw [h2]; exact g2, g3⟩
theorem gXc.keep {D : hG} {ad ad' : Nat → Nat} {ct ct' : hC} {i : Nat} {q : gCn} (h : gXc D ad ct i q) (h1 : ∀ z, z = 16 * i + 3 ∨ z = 16 * i + 4 ∨ z = 16 * i + 5 → ct' z = ct z) (ha : ∀ z, z = 16 * i + 4 ∨ z = 16 * i + 5 → ad' z = ad z) : gXc D ad' ct' i q :=
  ⟨by rw [h1 _ (Or.inl rfl), ha _ (Or.inl rfl)]; exact h.1, h.2.keep (h1 _ (Or.inr (Or.inl rfl))) (h1 _ (Or.inr (Or.inr rfl))) (ha _ (Or.inr rfl))⟩
theorem gXs.keep {D : hG} {ad ad' : Nat → Nat} {ct ct' : hC} {i tn : Nat} {q : gSl} (h : gXs D ad ct i q tn) (h1 : ∀ z, z = 16 * i + 6 ∨ z = 16 * i + 7 ∨ z = 16 * i + 8 → ct' z = ct z) (ha : ∀ z, z = 16 * i + 7 ∨ z = 16 * i + 8 → ad' z = ad z) : gXs D ad' ct' i q tn :=
  ⟨by rw [h1 _ (Or.inl rfl), ha _ (Or.inl rfl)]; exact h.1, h.2.keep (h1 _ (Or.inr (Or.inl rfl))) (h1 _ (Or.inr (Or.inr rfl))) (ha _ (Or.inr rfl))⟩
/-- nothing of the class has moved -/
theorem gX.keep {D : hG} {σ : gS} {ad ad' : Nat → Nat} {ct ct' : hC} (h : gX D σ ad ct) (h1 : ∀ z, z % 16 ≠ 1 → (z < 64 ∨ z % 16 ≠ 0) → ct' z = ct z) (ha : ∀ z, z % 16 ≠ 1 → (z < 64 ∨ z % 16 ≠ 0) → ad' z = ad z) : gX D σ ad' ct' := by
  obtain ⟨g1, g2, g3, g4, g5, g6⟩ := h
  refine ⟨?_, ?_, ?_, ?_, fun i hi => (g5 i hi).keep (fun z hz => h1 z (by omega) (by omega)) (fun z hz => ha z (by omega) (by omega)), fun i hi => (g6 i hi).keep (fun z hz => h1 z (by omega) (by omega)) (fun z hz => ha z (by omega) (by omega))⟩
  · rw [h1 0 (by omega) (by omega), ha 16 (by omega) (by omega), ha 32 (by omega) (by omega), ha 48 (by omega) (by omega)]; exact g1
  · rw [h1 16 (by omega) (by omega), g2]
    have : (fun i => if i < gNC σ then some (ad (16 * i + 3)) else none) = (fun i => if i < gNC σ then some (ad' (16 * i + 3)) else none) := by
      funext i
      rw [ha (16 * i + 3) (by omega) (by omega)]
    rw [this]
  · rw [h1 32 (by omega) (by omega), g3]
    have : (fun i => if i < gNS σ then some (ad (16 * i + 6)) else none) = (fun i => if i < gNS σ then some (ad' (16 * i + 6)) else none) := by
      funext i
      rw [ha (16 * i + 6) (by omega) (by omega)]
    rw [this]
  · rw [h1 48 (by omega) (by omega), g4]
    have : (fun e => (gEy σ e).map (fun q => ad (16 * q.1 + 6))) = (fun e => (gEy σ e).map (fun q => ad' (16 * q.1 + 6))) := by
      funext e
      congr 1
      funext q
      rw [ha (16 * q.1 + 6) (by omega) (by omega)]
    rw [this]
theorem inR_n {x : Int32} {n : Nat} (h : x.toInt < 0 ∨ (n : Int) ≤ x.toInt) : ¬ inR x n = true := by rw [inR_0 h]; decide
theorem toNat_nI {j : Nat} (h : j < 2 ^ 31) : (nI j).toInt.toNat = j := by rw [nI_toInt h]; exact Int.toNat_natCast j
theorem inR_j {j n : Nat} (hj : j < 2 ^ 31) (h : j < n) : inR (nI j) n = true := inR_1 (by rw [nI_toInt hj]; omega) (by rw [nI_toInt hj]; omega)
/-- a number from -4 to 4 -/
def inT (x : Int32) : Bool := decide ((-4 : Int32).toInt ≤ x.toInt ∧ x.toInt ≤ 4)
theorem inT_1 {x : Int32} (h0 : (-4 : Int32).toInt ≤ x.toInt) (h1 : x.toInt ≤ 4) : inT x = true := decide_eq_true ⟨h0, h1⟩
theorem inT_0 {x : Int32} (h : x.toInt < (-4 : Int32).toInt ∨ 4 < x.toInt) : inT x = false := decide_eq_false (by omega)
theorem nsm_in {f : Nat → Nat} {i n : Nat} (h : i < n) : nsm f (min (i + 1) n) = nsm f (min i n) + f i := by
  rw [show min (i + 1) n = i + 1 by omega, show min i n = i by omega, nsm]
theorem nsm_out {f : Nat → Nat} {i n : Nat} (h : n ≤ i) : nsm f (min (i + 1) n) = nsm f (min i n) := by
  rw [show min (i + 1) n = min i n by omega]
/-- 1 for a cane that is whole -/
def wh (σ : gS) (c : Nat) : Nat := if cCr σ c = true then 0 else 1
/-- 1 for an eye with a slice -/
def ie (σ : gS) (c : Nat) : Nat := if (gEy σ c).isSome then 1 else 0
theorem ie_0 {σ : gS} {c : Nat} (h : gEy σ c = none) : ie σ c = 0 := by unfold ie; rw [h]; rfl
theorem ie_1 {σ : gS} {c s t : Nat} (h : gEy σ c = some (s, t)) : ie σ c = 1 := by unfold ie; rw [h]; rfl
/-- 1 for a free slice of a kind -/
def fr (σ : gS) (k c : Nat) : Nat := if decide (eyv (sEy σ c) = -1) = true ∧ sKd σ c = k then 1 else 0
def cfb (σ : gS) : Bool := decide (frst (fun k => decide (4 ≤ nsm (fr σ k) (gNS σ))) (gNS σ) < gNS σ)
/-- 1 for an eye of the bead b that looks as the slice c does -/
def el (σ : gS) (b c k : Nat) : Nat := match gEy σ (4 * b + k) with
  | none => 0
  | some q => if like (sPt σ q.1) (nI (trn σ q.1) - nI (trn σ c)) (sPt σ c) = true then 1 else 0
theorem el_0 {σ : gS} {b c k : Nat} (h : gEy σ (4 * b + k) = none) : el σ b c k = 0 := by unfold el; rw [h]
theorem el_1 {σ : gS} {b c k s t : Nat} (h : gEy σ (4 * b + k) = some (s, t)) (h1 : like (sPt σ s) (nI (trn σ s) - nI (trn σ c)) (sPt σ c) = true) : el σ b c k = 1 := by unfold el; rw [h]; exact if_pos h1
theorem el_2 {σ : gS} {b c k s t : Nat} (h : gEy σ (4 * b + k) = some (s, t)) (h1 : like (sPt σ s) (nI (trn σ s) - nI (trn σ c)) (sPt σ c) = false) : el σ b c k = 0 := by unfold el; rw [h]; exact if_neg (by show ¬ like _ _ _ = true; rw [h1]; decide)
/-- 1 for a bead of one look -/
def bl (σ : gS) (b : Nat) : Nat := match gEy σ (4 * b) with
  | none => 0
  | some q => if nsm (el σ b q.1) 4 = 4 then 1 else 0
theorem bl_0 {σ : gS} {b : Nat} (h : gEy σ (4 * b) = none) : bl σ b = 0 := by unfold bl; rw [h]
theorem bl_1 {σ : gS} {b s t : Nat} (h : gEy σ (4 * b) = some (s, t)) (h1 : nsm (el σ b s) 4 = 4) : bl σ b = 1 := by unfold bl; rw [h]; exact if_pos h1
theorem bl_2 {σ : gS} {b s t : Nat} (h : gEy σ (4 * b) = some (s, t)) (h1 : nsm (el σ b s) 4 ≠ 4) : bl σ b = 0 := by unfold bl; rw [h]; exact if_neg h1
theorem el_le {σ : gS} {b c k : Nat} : el σ b c k ≤ 1 := by
  unfold el
  split
  · omega
  · split <;> omega
def tal (σ : gS) (k : Nat) : Int32 := match k with
  | 0 => gMi σ
  | 1 => nI (gNC σ)
  | 2 => nI (nsm (wh σ) (gNC σ))
  | 3 => nI (gNS σ)
  | 4 => nI (nsm (ie σ) 24)
  | 5 => nI (gNB σ)
  | 6 => nI (nsm (bl σ) (gNB σ))
  | _ => nI (nsm (cLen σ) (gNC σ))
def dgw (d : Int64) (x : Int32) : Int64 := d * 31 + x.toInt64
def dgn (d : Int64) (f : Nat → Int32) : Nat → Int64
  | 0 => d
  | n + 1 => dgw (dgn d f n) (f n)
/-- what cane() tells -/
def tel (σ : gS) (c k : Nat) : Int32 := ctell (cLen σ c) (cTw σ c) (cHt σ c) (cCr σ c) (decide (nI c = gFu σ)) k
def dgc (σ : gS) (d : Int64) : Nat → Int64
  | 0 => d
  | n + 1 => dgn (dgn (dgc σ d n) (tel σ n) 5) (fun j => nI (cPt σ n j)) 24
def dgs (σ : gS) (d : Int64) : Nat → Int64
  | 0 => d
  | n + 1 => dgw (dgn (dgs σ d n) (fun j => nI (sPt σ n j)) 24) (eyv (sEy σ n))
def esl (σ : gS) (k : Nat) : Int32 := match gEy σ k with
  | none => -1
  | some q => nI q.1
def etn (σ : gS) (k : Nat) : Int32 := match gEy σ k with
  | none => nI 0
  | some q => nI q.2
def dge (σ : gS) (d : Int64) : Nat → Int64
  | 0 => d
  | n + 1 => dgw (dgw (dge σ d n) (esl σ n)) (etn σ n)
def dgt (σ : gS) : Int64 := dge σ (dgs σ (dgc σ (dgn 991 (tal σ) 8) (gNC σ)) (gNS σ)) (4 * gNB σ)
theorem plc_m1 {P Q : Nat → Nat} : (plc 8 (lturn P Q)).toInt = (-1 : Int32).toInt ↔ sim P Q = false := by
  unfold plc sim
  by_cases h : lturn P Q < 8
  · rw [if_pos h, nI_toInt (by omega), h_m1, decide_eq_true h]
    exact ⟨fun q => by omega, fun q => by cases q⟩
  · rw [if_neg h, decide_eq_false h]
    exact ⟨fun _ => rfl, fun _ => rfl⟩
theorem sKd_le {σ : gS} (hO : okS σ) {i : Nat} (hi : i < gNS σ) : sKd σ i ≤ 60 := by
  have h := (hO.2.2.2.2.1 i hi).2
  have h2 := hO.2.1
  rw [h]
  have h3 : knd σ (sPt σ i) i ≤ i := frst_le _ i
  omega
theorem trn_of {σ : gS} (hO : okS σ) {e s t : Nat} (h : gEy σ e = some (s, t)) : trn σ s = t := by
  have h1 := (hO.2.2.2.2.2.1 _ _ _ h).2.2.2
  unfold trn
  rw [h1]
  show (match gEy σ e with | none => 0 | some q => q.2) = t
  rw [h]
theorem trn_lt {σ : gS} (hO : okS σ) (s : Nat) : trn σ s < 8 := by
  unfold trn
  split
  · omega
  · rename_i e he
    split
    · omega
    · rename_i q hq
      exact (hO.2.2.2.2.2.1 e q.1 q.2 (by rw [hq])).2.2.1
theorem nsm_fr {σ : gS} (hO : okS σ) {k : Nat} : nsm (fr σ k) (gNS σ) ≤ 60 := by
  have h := nsm_le (f := fr σ k) (c := 1) (n := gNS σ) (fun c _ => by unfold fr; split <;> omega)
  have h2 := hO.2.1
  omega
theorem tel_t {σ : gS} {i k : Nat} (hi : i < 2 ^ 31) (h : (i : Int) = (gFu σ).toInt) : ctell (cLen σ i) (cTw σ i) (cHt σ i) (cCr σ i) true k = tel σ i k := by
  unfold tel
  rw [decide_eq_true (hI_eq.mpr (by rw [nI_toInt hi]; exact h))]
theorem tel_f {σ : gS} {i k : Nat} (hi : i < 2 ^ 31) (h : (i : Int) ≠ (gFu σ).toInt) : ctell (cLen σ i) (cTw σ i) (cHt σ i) (cCr σ i) false k = tel σ i k := by
  unfold tel
  rw [decide_eq_false (fun q => h (by rw [← q, nI_toInt hi]))]
theorem esl_0 {σ : gS} {k : Nat} (h : gEy σ k = none) : esl σ k = -1 := by unfold esl; rw [h]
theorem esl_1 {σ : gS} {k s t : Nat} (h : gEy σ k = some (s, t)) : esl σ k = nI s := by unfold esl; rw [h]
theorem etn_0 {σ : gS} {k : Nat} (h : gEy σ k = none) : etn σ k = nI 0 := by unfold etn; rw [h]
theorem etn_1 {σ : gS} {k s t : Nat} (h : gEy σ k = some (s, t)) : etn σ k = nI t := by unfold etn; rw [h]
