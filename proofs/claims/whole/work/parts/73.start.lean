/-! WHAT HOLDS OF THE MACHINE AT THE LAW'S ENTRY -/
theorem iT0 : ∀ w ∈ u_ws RX0 TX0 5, w ∈ lw_tbl := wsL_law_inFX0
theorem iT1 : ∀ w ∈ u_ws RX1 TX1 1, w ∈ lw_tbl := wsL_law_inFX1
theorem iT2 : ∀ w ∈ u_ws RX2 TX2 5, w ∈ lw_tbl := wsL_law_inFX2
theorem iT3 : ∀ w ∈ u_ws RX3 TX3 8, w ∈ lw_tbl := wsL_law_inFX3
theorem iT4 : ∀ w ∈ u_ws RX4 TX4 15, w ∈ lw_tbl := wsL_law_inFX4
theorem iNf : ∀ q ∈ hNf, Cond.fieldLinkNest RX3 q.1 q.2.1 q.2.2.1 q.2.2.2 RX3 ∈ lw_tbl := by decide +kernel
theorem iSt : ∀ q ∈ hSt, Cond.stringRef RX3 q.1 q.2 ∈ lw_tbl := by decide +kernel
theorem iCa : ∀ x ∈ hE3, Cond.castable x x ∈ lw_tbl := by decide +kernel
theorem iDe : ∀ y ∈ ["java/lang/RuntimeException", "java/lang/Exception", "java/lang/Throwable"], Cond.declares (Bundle.initS y) ∈ lw_tbl := by decide +kernel
theorem iNc : ∀ x ∈ hE3, ∀ y ∈ hE3, x ≠ y → Cond.not (.castable x y) ∈ flatC (Jvm.Cond.and given_1 narrow_1) := by decide +kernel
theorem iU1 : Cond.isRef (.static Bundle.tN "UNASSIGNED_STACK" Bundle.steD) ∈ flatC (Jvm.Cond.and given_1 narrow_1) := by decide +kernel
theorem iU2 : Cond.isRef (.static Bundle.tN "SUPPRESSED_SENTINEL" Bundle.listD) ∈ flatC (Jvm.Cond.and given_1 narrow_1) := by decide +kernel
theorem iM : ∀ w ∈ [Cond.instantiable RX0 5, .instantiable RX1 1, .instantiable RX2 5, .instantiable RX3 8, .instantiable RX4 15, .arrayOver (.object RX0), .arrayOver (.object RX2), .arrayClass .int, .arrayClass .long, .laysStatic Bundle.tN "UNASSIGNED_STACK" Bundle.steD, .laysStatic Bundle.tN "SUPPRESSED_SENTINEL" Bundle.listD, .initialized Bundle.tN], w ∈ lw_tbl := by decide +kernel
theorem hK_start {b : Nat} {s : State} (hts : ∀ w ∈ lw_tbl, w.before #[Value.ref b] s = true) (hgv : (Jvm.Cond.and given_1 narrow_1).before #[Value.ref b] s = true) : ∃ D : hG, hK D s.heap.size s ∧ va_AO RX0 s ∧ va_AO RX2 s := by
  have hs := flat_of_before _ hgv
  have hm : ∀ w ∈ [Cond.instantiable RX0 5, .instantiable RX1 1, .instantiable RX2 5, .instantiable RX3 8, .instantiable RX4 15, .arrayOver (.object RX0), .arrayOver (.object RX2), .arrayClass .int, .arrayClass .long, .laysStatic Bundle.tN "UNASSIGNED_STACK" Bundle.steD, .laysStatic Bundle.tN "SUPPRESSED_SENTINEL" Bundle.listD, .initialized Bundle.tN], w.before #[Value.ref b] s = true := fun w h => hts w (iM w h)
  obtain ⟨c0, j0, k0⟩ := u_known (C := RX0) (T := TX0) (N := 5) (n := 5) hts iT0 (hm _ (by simp))
  obtain ⟨c1, j1, k1⟩ := u_known (C := RX1) (T := TX1) (N := 1) (n := 1) hts iT1 (hm _ (by simp))
  obtain ⟨c2, j2, k2⟩ := u_known (C := RX2) (T := TX2) (N := 5) (n := 5) hts iT2 (hm _ (by simp))
  obtain ⟨c3, j3, k3⟩ := u_known (C := RX3) (T := TX3) (N := 8) (n := 8) hts iT3 (hm _ (by simp))
  obtain ⟨c4, j4, k4⟩ := u_known (C := RX4) (T := TX4) (N := 15) (n := 15) hts iT4 (hm _ (by simp))
  have hAO0 : va_AO RX0 s := va_AO.of (hm (.arrayOver (.object RX0)) (by simp))
  have hAO2 : va_AO RX2 s := va_AO.of (hm (.arrayOver (.object RX2)) (by simp))
  obtain ⟨p0, a0, q0, b01, b02, b03, b04, b05⟩ := Cond.arrayOver_spec hAO0
  obtain ⟨p2, a2, q2, b21, b22, b23, b24, b25⟩ := Cond.arrayOver_spec hAO2
  obtain ⟨aI, qI, pI, bI1, bI2, bI3⟩ := Cond.arrayClass_spec (hm (.arrayClass .int) (by simp))
  obtain ⟨aL, qL, pL, bL1, bL2, bL3⟩ := Cond.arrayClass_spec (hm (.arrayClass .long) (by simp))
  have arr : ∀ {cA : ClassId} {kA : Class} {comp : ClassId} {ty : FieldType}, s.vm.classes[cA]? = some kA → kA.kind = .array comp ty → ArrOfT s cA ty := fun h2 h3 n z => ⟨fun k h => (by cases h), _, h2, _, h3⟩
  refine ⟨((fun k => match k with | 0 => c0 | 1 => c1 | 2 => c2 | 3 => c3 | _ => c4, fun k => match k with | 0 => j0 | 1 => j1 | 2 => j2 | 3 => j3 | _ => j4), fun k => match k with | 0 => aI | 1 => a0 | 2 => a2 | _ => aL), ⟨⟨fun k q hk => ?_, fun k q hk => ?_⟩, fun q hq => va_Nw.of rfl (hts _ (iNf q hq)), fun q hq => ?_, ?_, ?_, fun x hx => va_Nw.of rfl (hts _ (iCa x hx)), fun x hx y hy n => va_Nc.of (hs _ (iNc x hx y hy n)), fun y hy => va_Nw.of rfl (hts _ (iDe y hy))⟩, hAO0, hAO2⟩
  · match k, hk with
    | 0, hk => cases hk; exact k0
    | 1, hk => cases hk; exact k1
    | 2, hk => cases hk; exact k2
    | 3, hk => cases hk; exact k3
    | 4, hk => cases hk; exact k4
    | k + 5, hk => simp [vwCl] at hk
  · match k, hk with
    | 0, hk => cases hk; exact ⟨arr bI2 bI3, bI1⟩
    | 1, hk => cases hk; exact ⟨arr b03 b04, _, _, b03, b04, b01, b05⟩
    | 2, hk => cases hk; exact ⟨arr b23 b24, _, _, b23, b24, b21, b25⟩
    | 3, hk => cases hk; exact ⟨arr bL2 bL3, bL1⟩
    | k + 4, hk => simp [hTy] at hk
  · have h := hts _ (iSt q hq)
    obtain ⟨kk, cf, ix, a, -, -, -, -, -, hev⟩ := Cond.stringRef_spec k3.2.1 h
    exact ⟨a, vk_R.of h hev⟩
  · exact vx_Zqof (hm (.laysStatic Bundle.tN "UNASSIGNED_STACK" Bundle.steD) (by simp)) (hm (.initialized Bundle.tN) (by simp)) (hs _ iU1) (fun a ha => Nat.not_le.mpr ha)
  · exact vx_Zqof (hm (.laysStatic Bundle.tN "SUPPRESSED_SENTINEL" Bundle.listD) (by simp)) (hm (.initialized Bundle.tN) (by simp)) (hs _ iU2) (fun a ha => Nat.not_le.mpr ha)
