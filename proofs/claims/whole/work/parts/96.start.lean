/-! what is known at the law's start: statics, classes -/
abbrev gN : Cond := Cond.and given_1 narrow_1
abbrev tPW : Term := .static "ExactDigits$Natural" "POWERS_OF_FIVE" "[I"
abbrev nFO : List String := ["DOUBLE", "FLOAT"]
abbrev tFO (i : Nat) : Term := .static "ExactDigits$Format" (nFO.getD i "") fOD
set_option maxRecDepth 100000 in
theorem sm_pw : ∀ j, j < 13 → Cond.eq (.elem tPW (.int (Int32.ofNat j))) (.int (iI ((5 ^ j : Nat) : Int))) ∈ flatC gN := by decide +kernel
set_option maxRecDepth 100000 in
theorem sm_fb : ∀ i, i < 2 → Cond.eq (.field (tFO i) "ExactDigits$Format" "fractionBits" "I") (.int (iI ((fbz i : Nat) : Int))) ∈ flatC gN := by decide +kernel
set_option maxRecDepth 100000 in
theorem sm_le : ∀ i, i < 2 → Cond.eq (.field (tFO i) "ExactDigits$Format" "leastExponent" "I") (.int (iI (lez i))) ∈ flatC gN := by decide +kernel
set_option maxRecDepth 100000 in
theorem sm_mk : ∀ i, i < 2 → Cond.eq (.field (tFO i) "ExactDigits$Format" "sizeMask" "J") (.long (jI ((mkz i : Nat) : Int))) ∈ flatC gN := by decide +kernel
set_option maxRecDepth 100000 in
theorem sm_if : ∀ i, i < 2 → Cond.eq (.field (tFO i) "ExactDigits$Format" "infinite" "J") (.long (jI ((ifz i : Nat) : Int))) ∈ flatC gN := by decide +kernel
set_option maxRecDepth 100000 in
theorem sm_ex : ∀ i, i < 2 → Cond.exactly (tFO i) "ExactDigits$Format" ∈ flatC gN := by decide +kernel
set_option maxRecDepth 100000 in
theorem sm_ls : ∀ i, i < 2 → Cond.laysStatic "ExactDigits$Format" (nFO.getD i "") fOD ∈ lw_tbl := by decide +kernel
set_option maxRecDepth 100000 in
theorem sm_w : (Cond.arrayOf tPW .int ∈ flatC gN ∧ Cond.eq (.length tPW) (.int (Int32.ofNat 13)) ∈ flatC gN ∧ Cond.laysStatic "ExactDigits$Natural" "POWERS_OF_FIVE" "[I" ∈ lw_tbl ∧ Cond.initialized "ExactDigits$Natural" ∈ lw_tbl ∧ Cond.initialized "ExactDigits$Format" ∈ lw_tbl) := by decide +kernel
set_option maxRecDepth 100000 in
theorem sm_q : (Cond.isRef (.static Bundle.tN "UNASSIGNED_STACK" Bundle.steD) ∈ flatC gN ∧ Cond.isRef (.static Bundle.tN "SUPPRESSED_SENTINEL" Bundle.listD) ∈ flatC gN ∧ Cond.laysStatic Bundle.tN "UNASSIGNED_STACK" Bundle.steD ∈ lw_tbl ∧ Cond.laysStatic Bundle.tN "SUPPRESSED_SENTINEL" Bundle.listD ∈ lw_tbl ∧ Cond.initialized Bundle.tN ∈ lw_tbl) := by decide +kernel
set_option maxRecDepth 100000 in
theorem sm_nw : (Cond.castable xIA xIA ∈ lw_tbl ∧ Cond.castable xAE xAE ∈ lw_tbl ∧ Cond.declares ⟨"java/lang/RuntimeException", "<init>", "()V"⟩ ∈ lw_tbl ∧ Cond.declares ⟨"java/lang/Exception", "<init>", "()V"⟩ ∈ lw_tbl ∧ Cond.declares ⟨"java/lang/Throwable", "<init>", "()V"⟩ ∈ lw_tbl ∧ Cond.methodLinkNest "ExactDigits" 15 m_Na_init "ExactDigits" ∈ lw_tbl ∧ Cond.methodLinkNest "ExactDigitsModel" 9 m_Ro_init "ExactDigitsModel" ∈ lw_tbl ∧ Cond.methodLinkNest "ExactDigitsModel" 27 m_De_init "ExactDigitsModel" ∈ lw_tbl) := by decide +kernel
theorem lw_E {b : Nat} {s : State} (htbl : ∀ w ∈ lw_tbl, w.before #[Value.ref b] s = true) (hgv : gN.before #[Value.ref b] s = true) : ∃ (t5 : Nat) (ad : Nat → Nat), eX t5 ad (fun q => s.heap.size ≤ q) s := by
  have hs := flat_of_before _ hgv
  have hA : ∀ a : Nat, a < s.heap.size → ¬ (fun q => s.heap.size ≤ q) a := fun a h h2 => absurd h2 (by show ¬ s.heap.size ≤ a; omega)
  obtain ⟨t5, ht5, hT⟩ := va_Tof (tm := tPW) (ty := .int) (N := 13) (f := fun j => .int (iI ((5 ^ j : Nat) : Int))) (A := fun q => s.heap.size ≤ q) (by decide) (hs _ sm_w.1) (va_eqt (hs _ sm_w.2.1)) (fun j hj => va_eqt (hs _ (sm_pw j hj))) hA
  obtain ⟨a0, -, -, -, he0, -⟩ := Cond.exactly_spec (hs _ (sm_ex 0 (by omega)))
  obtain ⟨a1, -, -, -, he1, -⟩ := Cond.exactly_spec (hs _ (sm_ex 1 (by omega)))
  have hev : ∀ i, i < 2 → (tFO i).eval #[Value.ref b] s none [] s = some (.ref ((fun k => if k = 0 then a0 else a1) i)) := by
    intro i hi
    rcases i with _ | _ | i
    · exact he0
    · exact he1
    · omega
  obtain ⟨n1, n2, n3, n4, n5, n6, n7, n8⟩ := sm_nw
  refine ⟨t5, fun k => if k = 0 then a0 else a1, va_Zof (htbl _ sm_w.2.2.1) (htbl _ sm_w.2.2.2.1) ht5 hA, hT, va_Zof (htbl _ (sm_ls 0 (by omega))) (htbl _ sm_w.2.2.2.2) he0 hA, va_Zof (htbl _ (sm_ls 1 (by omega))) (htbl _ sm_w.2.2.2.2) he1 hA, fun k hk => va_Oof (hs _ (sm_ex k hk)) (hev k hk) hA,
    va_Efof (nm := nFO) (tm := fun i => .int (iI ((fbz i : Nat) : Int))) hev (fun i hi => hs _ (sm_fb i hi)) (fun i hi => rfl) hA, va_Efof (nm := nFO) (tm := fun i => .int (iI (lez i))) hev (fun i hi => hs _ (sm_le i hi)) (fun i hi => rfl) hA,
    va_Efof (nm := nFO) (tm := fun i => .long (jI ((mkz i : Nat) : Int))) hev (fun i hi => hs _ (sm_mk i hi)) (fun i hi => rfl) hA, va_Efof (nm := nFO) (tm := fun i => .long (jI ((ifz i : Nat) : Int))) hev (fun i hi => hs _ (sm_if i hi)) (fun i hi => rfl) hA,
    vx_Zqof (htbl _ sm_q.2.2.1) (htbl _ sm_q.2.2.2.2) (hs _ sm_q.1) hA, vx_Zqof (htbl _ sm_q.2.2.2.1) (htbl _ sm_q.2.2.2.2) (hs _ sm_q.2.1) hA,
    va_Nw.of rfl (htbl _ n1), va_Nw.of rfl (htbl _ n2), va_Nw.of rfl (htbl _ n3), va_Nw.of rfl (htbl _ n4), va_Nw.of rfl (htbl _ n5), va_Nw.of rfl (htbl _ n6), va_Nw.of rfl (htbl _ n7), va_Nw.of rfl (htbl _ n8)⟩
theorem lw_K {b : Nat} {s : State} (hts : ∀ w ∈ gw, w.before #[Value.ref b] s = true) : ∃ (D : va_G) (cB cI cJ : ClassId), va_K D ecl (tyS cB cI cJ) s := by
  obtain ⟨c0, i0, k0⟩ := u_known (C := R_Na) (T := T_Na) (N := 2) (n := 2) hts in_Na (hts _ tw_26)
  obtain ⟨c1, i1, k1⟩ := u_known (C := R_Ed) (T := T_Ed) (N := 5) (n := 5) hts in_Ed (hts _ tw_18)
  obtain ⟨c2, i2, k2⟩ := u_known (C := R_De) (T := T_De) (N := 3) (n := 3) hts in_De (hts _ tw_373)
  obtain ⟨c3, i3, k3⟩ := u_known (C := R_Ro) (T := T_Ro) (N := 3) (n := 3) hts in_Ro (hts _ tw_354)
  obtain ⟨c4, i4, k4⟩ := u_known (C := R_Mo) (T := T_Mo) (N := 10) (n := 10) hts in_Mo (hts _ tw_348)
  obtain ⟨cB, kB, oB, hB1, hB2, hB3⟩ := Cond.arrayClass_spec (hts _ tw_38)
  obtain ⟨cI, kI, oI, hI1, hI2, hI3⟩ := Cond.arrayClass_spec (hts _ tw_39)
  obtain ⟨cJ, kJ, oJ, hJ1, hJ2, hJ3⟩ := Cond.arrayClass_spec (hts _ tw_595)
  refine ⟨(fun c => match c with | 0 => c0 | 1 => c1 | 2 => c2 | 3 => c3 | _ => c4, fun c => match c with | 0 => i0 | 1 => i1 | 2 => i2 | 3 => i3 | _ => i4), cB, cI, cJ, fun c q hq => ?_, fun k q hk => ?_⟩
  · rcases c with _ | _ | _ | _ | _ | c
    · cases Option.some.inj (show some (R_Na, T_Na, 2) = some q from hq); exact k0
    · cases Option.some.inj (show some (R_Ed, T_Ed, 5) = some q from hq); exact k1
    · cases Option.some.inj (show some (R_De, T_De, 3) = some q from hq); exact k2
    · cases Option.some.inj (show some (R_Ro, T_Ro, 3) = some q from hq); exact k3
    · cases Option.some.inj (show some (R_Mo, T_Mo, 10) = some q from hq); exact k4
    · cases hq
  · rcases k with _ | _ | _ | k
    · cases Option.some.inj (show some (cB, FieldType.byte) = some q from hk); exact ⟨fun n z => ⟨fun k h => (by cases h), kB, hB2, oB, hB3⟩, hB1⟩
    · cases Option.some.inj (show some (cI, FieldType.int) = some q from hk); exact ⟨fun n z => ⟨fun k h => (by cases h), kI, hI2, oI, hI3⟩, hI1⟩
    · cases Option.some.inj (show some (cJ, FieldType.long) = some q from hk); exact ⟨fun n z => ⟨fun k h => (by cases h), kJ, hJ2, oJ, hJ3⟩, hJ1⟩
    · cases hk
