/-! WHAT HOLDS OF THE MACHINE AT THE LAW'S ENTRY -/
theorem iNf : ∀ q ∈ hNf, Cond.fieldLinkNest RX3 q.1 q.2.1 q.2.2.1 q.2.2.2 RX3 ∈ lw_tbl := by decide +kernel
theorem iSt : ∀ q ∈ hSt, Cond.stringRef RX3 q.1 q.2 ∈ lw_tbl := by decide +kernel
theorem iCa : ∀ x ∈ hE3, Cond.castable x x ∈ lw_tbl := by decide +kernel
theorem iDe : ∀ y ∈ ["java/lang/RuntimeException", "java/lang/Exception", "java/lang/Throwable"], Cond.declares (Bundle.initS y) ∈ lw_tbl := by decide +kernel
theorem iU1 : Cond.isRef (.static Bundle.tN "UNASSIGNED_STACK" Bundle.steD) ∈ flatC (Jvm.Cond.and given_1 narrow_1) := by decide +kernel
theorem iU2 : Cond.isRef (.static Bundle.tN "SUPPRESSED_SENTINEL" Bundle.listD) ∈ flatC (Jvm.Cond.and given_1 narrow_1) := by decide +kernel
theorem iJ1 : Cond.eq (.static "jdk/internal/misc/Unsafe" "ARRAY_INT_BASE_OFFSET" "I") (.int (16 : Int32)) ∈ flatC (Jvm.Cond.and given_1 narrow_1) := by decide +kernel
theorem iJ2 : Cond.eq (.static "jdk/internal/util/ArraysSupport" "LOG2_ARRAY_INT_INDEX_SCALE" "I") (.int (2 : Int32)) ∈ flatC (Jvm.Cond.and given_1 narrow_1) := by decide +kernel
theorem iJ3 : Cond.eq (.static "jdk/internal/util/ArraysSupport" "LOG2_ARRAY_LONG_INDEX_SCALE" "I") (.int (3 : Int32)) ∈ flatC (Jvm.Cond.and given_1 narrow_1) := by decide +kernel
theorem iJ4 : Cond.exactly (.static "jdk/internal/util/ArraysSupport" "U" "Ljdk/internal/misc/Unsafe;") "jdk/internal/misc/Unsafe" ∈ flatC (Jvm.Cond.and given_1 narrow_1) := by decide +kernel
theorem iM : ∀ w ∈ [Cond.instantiable RX0 5, .instantiable RX1 1, .instantiable RX2 5, .instantiable RX3 8, .arrayOver (.object RX0), .arrayOver (.object RX2), .arrayOver (.array .int), .arrayClass .int, .arrayClass .boolean, .laysStatic Bundle.tN "UNASSIGNED_STACK" Bundle.steD, .laysStatic Bundle.tN "SUPPRESSED_SENTINEL" Bundle.listD, .initialized Bundle.tN, .laysStatic "jdk/internal/misc/Unsafe" "ARRAY_INT_BASE_OFFSET" "I", .laysStatic "jdk/internal/util/ArraysSupport" "LOG2_ARRAY_INT_INDEX_SCALE" "I", .laysStatic "jdk/internal/util/ArraysSupport" "LOG2_ARRAY_LONG_INDEX_SCALE" "I", .laysStatic "jdk/internal/util/ArraysSupport" "U" "Ljdk/internal/misc/Unsafe;", .initialized "jdk/internal/misc/Unsafe", .initialized "jdk/internal/util/ArraysSupport"], w ∈ lw_tbl := by decide +kernel
theorem hK_start {b : Nat} {s : State} (hts : ∀ w ∈ lw_tbl, w.before #[Value.ref b] s = true) (hgv : (Jvm.Cond.and given_1 narrow_1).before #[Value.ref b] s = true) : ∃ D : hG, hK D s.heap.size s := by
  have hs := flat_of_before _ hgv
  have hm : ∀ w ∈ [Cond.instantiable RX0 5, .instantiable RX1 1, .instantiable RX2 5, .instantiable RX3 8, .arrayOver (.object RX0), .arrayOver (.object RX2), .arrayOver (.array .int), .arrayClass .int, .arrayClass .boolean, .laysStatic Bundle.tN "UNASSIGNED_STACK" Bundle.steD, .laysStatic Bundle.tN "SUPPRESSED_SENTINEL" Bundle.listD, .initialized Bundle.tN, .laysStatic "jdk/internal/misc/Unsafe" "ARRAY_INT_BASE_OFFSET" "I", .laysStatic "jdk/internal/util/ArraysSupport" "LOG2_ARRAY_INT_INDEX_SCALE" "I", .laysStatic "jdk/internal/util/ArraysSupport" "LOG2_ARRAY_LONG_INDEX_SCALE" "I", .laysStatic "jdk/internal/util/ArraysSupport" "U" "Ljdk/internal/misc/Unsafe;", .initialized "jdk/internal/misc/Unsafe", .initialized "jdk/internal/util/ArraysSupport"], w.before #[Value.ref b] s = true := fun w h => hts w (iM w h)
  obtain ⟨c0, j0, k0⟩ := u_known (C := RX0) (T := TX0) (N := 5) (n := 5) hts wsL_law_inFX0 (hm _ (by simp))
  obtain ⟨c1, j1, k1⟩ := u_known (C := RX1) (T := TX1) (N := 1) (n := 1) hts wsL_law_inFX1 (hm _ (by simp))
  obtain ⟨c2, j2, k2⟩ := u_known (C := RX2) (T := TX2) (N := 5) (n := 5) hts wsL_law_inFX2 (hm _ (by simp))
  obtain ⟨c3, j3, k3⟩ := u_known (C := RX3) (T := TX3) (N := 8) (n := 8) hts wsL_law_inFX3 (hm _ (by simp))
  have hAO0 : va_AO RX0 s := va_AO.of (hm (.arrayOver (.object RX0)) (by simp))
  have hAO2 : va_AO RX2 s := va_AO.of (hm (.arrayOver (.object RX2)) (by simp))
  have hAOA : va_AOA .int s := va_AOA.of (hm (.arrayOver (.array .int)) (by simp))
  obtain ⟨p0, a0, q0, b01, b02, b03, b04, b05⟩ := Cond.arrayOver_spec hAO0
  obtain ⟨p2, a2, q2, b21, b22, b23, b24, b25⟩ := Cond.arrayOver_spec hAO2
  obtain ⟨pA, aA, qA, bA1, bA2, bA3, bA4, bA5⟩ := Jvm.Stand.arrayOver_specB hAOA
  obtain ⟨aI, qI, pI, bI1, bI2, bI3⟩ := Cond.arrayClass_spec (hm (.arrayClass .int) (by simp))
  obtain ⟨aZ, qZ, pZ, bZ1, bZ2, bZ3⟩ := Cond.arrayClass_spec (hm (.arrayClass .boolean) (by simp))
  have arr : ∀ {cA : ClassId} {kA : Class} {comp : ClassId} {ty : FieldType}, s.vm.classes[cA]? = some kA → kA.kind = .array comp ty → ArrOfT s cA ty := fun h2 h3 n z => ⟨fun k h => (by cases h), _, h2, _, h3⟩
  have hlow : ∀ a : Nat, a < s.heap.size → ¬ hA s.heap.size a := fun a ha => Nat.not_le.mpr ha
  refine ⟨((fun k => match k with | 0 => c0 | 1 => c1 | 2 => c2 | _ => c3, fun k => match k with | 0 => j0 | 1 => j1 | 2 => j2 | _ => j3), fun k => match k with | 0 => aI | 1 => a0 | 2 => a2 | 3 => aA | _ => aZ), ⟨fun k q hk => ?_, fun k q hk => ?_⟩, fun q hq => va_Nw.of rfl (hts _ (iNf q hq)), fun q hq => ?_, ?_, ?_, ⟨fun x hx => va_Nw.of rfl (hts _ (iCa x hx)), trivial, fun y hy => va_Nw.of rfl (hts _ (iDe y hy))⟩, ⟨hAO0, hAO2, hAOA⟩, ?_, ?_, ?_, ?_⟩
  · match k, hk with
    | 0, hk => cases hk; exact k0
    | 1, hk => cases hk; exact k1
    | 2, hk => cases hk; exact k2
    | 3, hk => cases hk; exact k3
    | k + 4, hk => simp [vwCl] at hk
  · match k, hk with
    | 0, hk => cases hk; exact ⟨arr bI2 bI3, bI1⟩
    | 1, hk => cases hk; exact ⟨arr b03 b04, _, _, b03, b04, b01, b05⟩
    | 2, hk => cases hk; exact ⟨arr b23 b24, _, _, b23, b24, b21, b25⟩
    | 3, hk => cases hk; exact ⟨arr bA3 bA4, bA5⟩
    | 4, hk => cases hk; exact ⟨arr bZ2 bZ3, bZ1⟩
    | k + 5, hk => simp [hTy] at hk
  · have h := hts _ (iSt q hq)
    obtain ⟨kk, cf, ix, a, -, -, -, -, -, hev⟩ := Cond.stringRef_spec k3.2.1 h
    exact ⟨a, vk_R.of h hev⟩
  · exact vx_Zqof (hm (.laysStatic Bundle.tN "UNASSIGNED_STACK" Bundle.steD) (by simp)) (hm (.initialized Bundle.tN) (by simp)) (hs _ iU1) hlow
  · exact vx_Zqof (hm (.laysStatic Bundle.tN "SUPPRESSED_SENTINEL" Bundle.listD) (by simp)) (hm (.initialized Bundle.tN) (by simp)) (hs _ iU2) hlow
  · exact va_Zof (hm (.laysStatic "jdk/internal/misc/Unsafe" "ARRAY_INT_BASE_OFFSET" "I") (by simp)) (hm (.initialized "jdk/internal/misc/Unsafe") (by simp)) (va_eqi (hs _ iJ1)) hlow
  · exact va_Zof (hm (.laysStatic "jdk/internal/util/ArraysSupport" "LOG2_ARRAY_INT_INDEX_SCALE" "I") (by simp)) (hm (.initialized "jdk/internal/util/ArraysSupport") (by simp)) (va_eqi (hs _ iJ2)) hlow
  · exact va_Zof (hm (.laysStatic "jdk/internal/util/ArraysSupport" "LOG2_ARRAY_LONG_INDEX_SCALE" "I") (by simp)) (hm (.initialized "jdk/internal/util/ArraysSupport") (by simp)) (va_eqi (hs _ iJ3)) hlow
  · have hex := hs _ iJ4
    obtain ⟨u1, cc1, cA1, kA1, e1, -⟩ := Cond.exactly_spec (args := #[Value.ref b]) (first := s) (o := none) (s := s) (idx := []) hex
    exact ⟨u1, va_Zref (hm (.laysStatic "jdk/internal/util/ArraysSupport" "U" "Ljdk/internal/misc/Unsafe;") (by simp)) (hm (.initialized "jdk/internal/util/ArraysSupport") (by simp)) e1 hlow, va_Oof hex e1 hlow⟩
