set_option maxHeartbeats 4000000 in
set_option maxRecDepth 100000 in
theorem c_Fo_withoutSign (l : Launch) (D : va_G) (cB cI cJ : ClassId) (t5 : Nat) (ad : Nat → Nat) (kf x : Nat) (hkf : kf < 2) (hx64 : x < 2 ^ 64) : c_L l m_Fo_withoutSign (Cond.code m_Fo_withoutSign b_Fo_withoutSign 3 (some .long) :: gw) (rm_ 0 0) (eX t5 ad) D ecl (tyS cB cI cJ) [.ref (ad kf), .long (lN x)] [] (fun r u => r = jI ((x % (mkz kf + 1) : Nat) : Int) ∧ u = []) 0 0 := by
  intro sz0
  refine Met.ofW (cc := b_Fo_withoutSign) (maxL := 3) (ret := (some .long)) (by decide) rfl ?_
  intro p e s m args below meth c s₁ B hml hv
  obtain ⟨rfl, hsz, hP, hK, hD0, hE⟩ := hv
  have hx := B.exec
  have hb := B.bytes
  have hr := B.returns
  have hts := atoms_spec (ws := Cond.code m_Fo_withoutSign b_Fo_withoutSign 3 (some .long) :: gw) B.pre
  have hown : s.vm.findClass R_Fo = some m.cls := findClass_of_methodNamed B.named
  have hlocks := B.notSynchronized
  subst hsz
  have hD := hD0.self (sz := s.heap.size)
  generalize hAe : va_A [] s.heap.size = A at hD hE ⊢
  have hA : ∀ q : Nat, s.heap.size ≤ q → A q := fun q h => by rw [← hAe]; exact Or.inr h
  have hS : va_S A s.heap s.heap [] := va_S.rf
  have hl := lv_entry ([.ref (ad kf), .long (lN x)]) (n := 3) (Nat.le_of_ble_eq_true rfl)
  rw [lg_entry_eq]
  generalize (lg_sl ([.ref (ad kf), .long (lN x)]) ++ List.replicate (3 - (lg_sl ([.ref (ad kf), .long (lN x)])).length) Slot.unset).toArray = ls at hl ⊢
  have hl : lv_has ls 3 [(0, .ref (ad kf)), (1, .long (lN x))] := hl
  have hE0 := hE
  obtain ⟨hE1, hE2, hE3, hE4, hE5, hE6, hE7, hE8, hE9, hE10, hE11, hE12⟩ := hE0
  have hfz := fz_all kf hkf
  refine lv_lload_n hx hb d_Fo_withoutSign_0 rfl (lv_at hl 1 rfl) ?_
  refine lv_aload_n hx hb d_Fo_withoutSign_1 rfl (lv_at hl 0 rfl) ?_
  refine va_getX hx hb hE8 hkf hS hown (hts _ (List.mem_cons_of_mem _ tw_597)) (fun _ h9 => h9) d_Fo_withoutSign_2 ?_
  refine lv_land hx hb d_Fo_withoutSign_5 ?_
  refine ed_tl (y := (jI (((x % (mkz kf + 1) : Nat) : Int)))) (mkz_and hkf hx64) ?_
  exact W.lret (v := (jI (((x % (mkz kf + 1) : Nat) : Int)))) hx hb hr (fun t9 ht9 hW9 => ⟨⟨(jI (((x % (mkz kf + 1) : Nat) : Int))), [], rfl, ⟨rfl, rfl⟩, by rw [ht9]; exact hP, hD⟩, hS.F ht9⟩) hS.2.2 d_Fo_withoutSign_6
set_option maxHeartbeats 4000000 in
set_option maxRecDepth 100000 in
theorem c_Fo_significand (l : Launch) (D : va_G) (cB cI cJ : ClassId) (t5 : Nat) (ad : Nat → Nat) (kf x : Nat) (hkf : kf < 2) (hx63 : x < 9223372036854775808) : c_L l m_Fo_significand (Cond.code m_Fo_significand b_Fo_significand 7 (some .long) :: gw) (rm_ 0 0) (eX t5 ad) D ecl (tyS cB cI cJ) [.ref (ad kf), .long (jI ((x : Int)))] [] (fun r u => r = jI ((sgz kf x : Nat) : Int) ∧ u = []) 0 0 := by
  intro sz0
  refine Met.ofW (cc := b_Fo_significand) (maxL := 7) (ret := (some .long)) (by decide) rfl ?_
  intro p e s m args below meth c s₁ B hml hv
  obtain ⟨rfl, hsz, hP, hK, hD0, hE⟩ := hv
  have hx := B.exec
  have hb := B.bytes
  have hr := B.returns
  have hts := atoms_spec (ws := Cond.code m_Fo_significand b_Fo_significand 7 (some .long) :: gw) B.pre
  have hown : s.vm.findClass R_Fo = some m.cls := findClass_of_methodNamed B.named
  have hlocks := B.notSynchronized
  subst hsz
  have hD := hD0.self (sz := s.heap.size)
  generalize hAe : va_A [] s.heap.size = A at hD hE ⊢
  have hA : ∀ q : Nat, s.heap.size ≤ q → A q := fun q h => by rw [← hAe]; exact Or.inr h
  have hS : va_S A s.heap s.heap [] := va_S.rf
  have hl := lv_entry ([.ref (ad kf), .long (jI ((x : Int)))]) (n := 7) (Nat.le_of_ble_eq_true rfl)
  rw [lg_entry_eq]
  generalize (lg_sl ([.ref (ad kf), .long (jI ((x : Int)))]) ++ List.replicate (7 - (lg_sl ([.ref (ad kf), .long (jI ((x : Int)))])).length) Slot.unset).toArray = ls at hl ⊢
  have hl : lv_has ls 7 [(0, .ref (ad kf)), (1, .long (jI ((x : Int))))] := hl
  have hE0 := hE
  obtain ⟨hE1, hE2, hE3, hE4, hE5, hE6, hE7, hE8, hE9, hE10, hE11, hE12⟩ := hE0
  have hfz := fz_all kf hkf
  have hfb : fbz kf < 63 := by omega
  have hle : 2 ^ fbz kf ≤ 2 ^ 52 := Nat.pow_le_pow_right (by decide) (by omega)
  have hpp : 0 < 2 ^ fbz kf := p2_pos _
  have hml : x % 2 ^ fbz kf < 2 ^ fbz kf := Nat.mod_lt _ hpp
  obtain ⟨pw, hpw⟩ : ∃ pw : Nat, pw = 2 ^ fbz kf := ⟨_, rfl⟩
  obtain ⟨fr, hfr⟩ : ∃ fr : Nat, fr = x % 2 ^ fbz kf := ⟨_, rfl⟩
  rw [← hpw] at hle hpp
  rw [← hfr, ← hpw] at hml
  refine lv_lconst (v := jI 1) hx hb d_Fo_significand_0 (by decide +kernel) ?_
  refine lv_aload_n hx hb d_Fo_significand_1 rfl (lv_at hl 0 rfl) ?_
  refine va_getX hx hb hE6 hkf hS hown (hts _ (List.mem_cons_of_mem _ tw_599)) (fun _ h9 => h9) d_Fo_significand_2 ?_
  refine lv_lshl (v := (jI ((pw : Int)))) hx hb d_Fo_significand_5 (by rw [hpw]; exact (shl_l (a := 1) (k := fbz kf) (by omega)).trans (by rw [Nat.one_mul])) ?_
  refine lv_lstore_n hx hb d_Fo_significand_6 rfl hl (by decide) rfl (fun ls hl => ?_)
  have hl : lv_has ls 7 [(3, .long (jI ((pw : Int)))), (0, .ref (ad kf)), (1, .long (jI ((x : Int))))] := hl
  refine lv_lload_n hx hb d_Fo_significand_7 rfl (lv_at hl 2 rfl) ?_
  refine lv_lload_n hx hb d_Fo_significand_8 rfl (lv_at hl 0 rfl) ?_
  refine ed_pc (pc' := 9) rfl ?_
  refine lv_lconst (v := jI 1) hx hb d_Fo_significand_9 (by decide +kernel) ?_
  refine ed_lsub hx hb d_Fo_significand_10 ?_
  refine ed_tj (y := ((pw - 1 : Nat) : Int)) (by omega) ?_
  refine lv_land hx hb d_Fo_significand_11 ?_
  refine ed_tl (y := (jI ((fr : Int)))) (by rw [hfr, hpw]; exact and_m (by omega) (by omega)) ?_
  refine lv_lstore hx hb d_Fo_significand_12 hl (by decide) rfl (fun ls hl => ?_)
  have hl : lv_has ls 7 [(5, .long (jI ((fr : Int)))), (3, .long (jI ((pw : Int)))), (0, .ref (ad kf)), (1, .long (jI ((x : Int))))] := hl
  refine lv_lload_n hx hb d_Fo_significand_14 rfl (lv_at hl 3 rfl) ?_
  refine lv_lload_n hx hb d_Fo_significand_15 rfl (lv_at hl 1 rfl) ?_
  refine ed_lif_ge (tgt := 25) hx hb d_Fo_significand_16 d_Fo_significand_17 rfl (by omega) (by omega) (fun h_1 => ?_) (fun h_1 => ?_)
  · skip
    refine ed_pc (pc' := 25) rfl ?_
    refine lv_lload hx hb d_Fo_significand_25 (lv_at hl 0 rfl) ?_
    refine ed_pc (pc' := 27) rfl ?_
    refine lv_lload_n hx hb d_Fo_significand_27 rfl (lv_at hl 1 rfl) ?_
    refine lv_lor hx hb d_Fo_significand_28 ?_
    refine ed_tl (y := (jI (((fr + pw : Nat) : Int)))) (by rw [hpw]; exact or_p (by omega) (by rw [← hpw]; exact hml)) ?_
    exact W.lret (v := (jI (((fr + pw : Nat) : Int)))) hx hb hr (fun t9 ht9 hW9 => ⟨⟨(jI (((fr + pw : Nat) : Int))), [], rfl, ⟨by unfold sgz; rw [← hfr, ← hpw, if_neg (by omega)], rfl⟩, by rw [ht9]; exact hP, hD⟩, hS.F ht9⟩) hS.2.2 d_Fo_significand_29
  · skip
    refine ed_pc (pc' := 20) rfl ?_
    refine lv_lload hx hb d_Fo_significand_20 (lv_at hl 0 rfl) ?_
    refine ed_pc (pc' := 22) rfl ?_
    refine lv_goto (tgt := 29) hx hb d_Fo_significand_22 rfl ?_
    exact W.lret (v := (jI ((fr : Int)))) hx hb hr (fun t9 ht9 hW9 => ⟨⟨(jI ((fr : Int))), [], rfl, ⟨by unfold sgz; rw [← hfr, ← hpw, if_pos (by omega)], rfl⟩, by rw [ht9]; exact hP, hD⟩, hS.F ht9⟩) hS.2.2 d_Fo_significand_29
set_option maxHeartbeats 4000000 in
set_option maxRecDepth 100000 in
theorem c_Fo_exponent (l : Launch) (D : va_G) (cB cI cJ : ClassId) (t5 : Nat) (ad : Nat → Nat) (kf x : Nat) (hkf : kf < 2) (hxi : x < ifz kf) : c_I l m_Fo_exponent (Cond.code m_Fo_exponent b_Fo_exponent 4 (some .int) :: gw) (rm_ 1 21) (eX t5 ad) D ecl (tyS cB cI cJ) [.ref (ad kf), .long (jI ((x : Int)))] [] (fun r u => r = iI (lez kf + max (((x / 2 ^ fbz kf : Nat) : Int) - 1) 0) ∧ u = []) 0 0 := by
  intro sz0
  refine Met.ofW (cc := b_Fo_exponent) (maxL := 4) (ret := (some .int)) (by decide) rfl ?_
  intro p e s m args below meth c s₁ B hml hv
  obtain ⟨rfl, hsz, hP, hK, hD0, hE⟩ := hv
  have hx := B.exec
  have hb := B.bytes
  have hr := B.returns
  have hts := atoms_spec (ws := Cond.code m_Fo_exponent b_Fo_exponent 4 (some .int) :: gw) B.pre
  have hown : s.vm.findClass R_Fo = some m.cls := findClass_of_methodNamed B.named
  have hlocks := B.notSynchronized
  subst hsz
  have hD := hD0.self (sz := s.heap.size)
  generalize hAe : va_A [] s.heap.size = A at hD hE ⊢
  have hA : ∀ q : Nat, s.heap.size ≤ q → A q := fun q h => by rw [← hAe]; exact Or.inr h
  have hS : va_S A s.heap s.heap [] := va_S.rf
  have hl := lv_entry ([.ref (ad kf), .long (jI ((x : Int)))]) (n := 4) (Nat.le_of_ble_eq_true rfl)
  rw [lg_entry_eq]
  generalize (lg_sl ([.ref (ad kf), .long (jI ((x : Int)))]) ++ List.replicate (4 - (lg_sl ([.ref (ad kf), .long (jI ((x : Int)))])).length) Slot.unset).toArray = ls at hl ⊢
  have hl : lv_has ls 4 [(0, .ref (ad kf)), (1, .long (jI ((x : Int))))] := hl
  have hE0 := hE
  obtain ⟨hE1, hE2, hE3, hE4, hE5, hE6, hE7, hE8, hE9, hE10, hE11, hE12⟩ := hE0
  have hfz := fz_all kf hkf
  have hq : x / 2 ^ fbz kf < jz kf + 1 := by rw [Nat.div_lt_iff_lt_mul (p2_pos _), ← ifz_eq kf hkf]; exact hxi
  obtain ⟨fd0, hfd⟩ : ∃ fd0 : Nat, fd0 = x / 2 ^ fbz kf := ⟨_, rfl⟩
  rw [← hfd] at hq
  refine lv_lload_n hx hb d_Fo_exponent_0 rfl (lv_at hl 1 rfl) ?_
  refine lv_aload_n hx hb d_Fo_exponent_1 rfl (lv_at hl 0 rfl) ?_
  refine va_getX hx hb hE6 hkf hS hown (hts _ (List.mem_cons_of_mem _ tw_599)) (fun _ h9 => h9) d_Fo_exponent_2 ?_
  refine lv_lushr (v := (jI ((fd0 : Int)))) hx hb d_Fo_exponent_5 (by rw [hfd]; exact shr_l (by omega) (by omega)) ?_
  refine ed_l2i hx hb d_Fo_exponent_6 ?_
  refine lv_istore_n hx hb d_Fo_exponent_7 rfl hl (by decide) rfl (fun ls hl => ?_)
  have hl : lv_has ls 4 [(3, .int (iI ((fd0 : Int)))), (0, .ref (ad kf)), (1, .long (jI ((x : Int))))] := hl
  refine lv_aload_n hx hb d_Fo_exponent_8 rfl (lv_at hl 1 rfl) ?_
  refine ed_pc (pc' := 9) rfl ?_
  refine va_getX hx hb hE7 hkf hS hown (hts _ (List.mem_cons_of_mem _ tw_600)) (fun _ h9 => h9) d_Fo_exponent_9 ?_
  refine lv_iload_n hx hb d_Fo_exponent_12 rfl (lv_at hl 0 rfl) ?_
  refine lv_iconst (v := iI 1) hx hb d_Fo_exponent_13 rfl ?_
  refine ed_isub hx hb d_Fo_exponent_14 ?_
  refine lv_iconst (v := iI 0) hx hb d_Fo_exponent_15 rfl ?_
  refine ed_max hx hb (hml.trans hl.1.symm) hown (hts _ (List.mem_cons_of_mem _ tw_145)) (hts _ (List.mem_cons_of_mem _ tw_146)) (hts _ (List.mem_cons_of_mem _ tw_6)) (hts _ (List.mem_cons_of_mem _ tw_147)) (Nat.le_of_ble_eq_true rfl) (Nat.le_of_ble_eq_true rfl) (Nat.le_of_ble_eq_true rfl) (Nat.le_of_ble_eq_true rfl) (by omega) (by omega) d_Fo_exponent_16 ?_
  refine ed_iadd hx hb d_Fo_exponent_19 ?_
  exact W.iret (v := (iI ((lez kf) + (max (((fd0 : Int)) - (1)) (0))))) hx hb hr (fun t9 ht9 hW9 => ⟨⟨(iI ((lez kf) + (max (((fd0 : Int)) - (1)) (0)))), [], rfl, ⟨by rw [← hfd], rfl⟩, by rw [ht9]; exact hP, hD⟩, hS.F ht9⟩) hS.2.2 d_Fo_exponent_20
set_option maxHeartbeats 4000000 in
set_option maxRecDepth 100000 in
theorem c_Fo_bitsOf (l : Launch) (D : va_G) (cB cI cJ : ClassId) (t5 : Nat) (ad : Nat → Nat) (h : Nat) (hh : h < 9223372036854775808) : c_I l m_Fo_bitsOf (Cond.code m_Fo_bitsOf b_Fo_bitsOf 3 (some .int) :: gw) (rm_ 0 0) (eX t5 ad) D ecl (tyS cB cI cJ) [.long (jI ((h : Int)))] [] (fun r u => r = iI ((bl h : Nat) : Int) ∧ u = []) 0 0 := by
  intro sz0
  refine Met.ofW (cc := b_Fo_bitsOf) (maxL := 3) (ret := (some .int)) (by decide) rfl ?_
  intro p e s m args below meth c s₁ B hml hv
  obtain ⟨rfl, hsz, hP, hK, hD0, hE⟩ := hv
  have hx := B.exec
  have hb := B.bytes
  have hr := B.returns
  have hts := atoms_spec (ws := Cond.code m_Fo_bitsOf b_Fo_bitsOf 3 (some .int) :: gw) B.pre
  have hown : s.vm.findClass R_Fo = some m.cls := findClass_of_methodNamed B.named
  have hlocks := B.notSynchronized
  subst hsz
  have hD := hD0.self (sz := s.heap.size)
  generalize hAe : va_A [] s.heap.size = A at hD hE ⊢
  have hA : ∀ q : Nat, s.heap.size ≤ q → A q := fun q h => by rw [← hAe]; exact Or.inr h
  have hS : va_S A s.heap s.heap [] := va_S.rf
  have hl := lv_entry ([.long (jI ((h : Int)))]) (n := 3) (Nat.le_of_ble_eq_true rfl)
  rw [lg_entry_eq]
  generalize (lg_sl ([.long (jI ((h : Int)))]) ++ List.replicate (3 - (lg_sl ([.long (jI ((h : Int)))])).length) Slot.unset).toArray = ls at hl ⊢
  have hl : lv_has ls 3 [(0, .long (jI ((h : Int))))] := hl
  have hbl : bl h ≤ 63 := bl_bound hh
  have L2 : ∀ (n9 : Nat) (i : Nat) (zi : Int) (ls : Array Slot) (H : Heap) (locs : List Loc), 64 - i = n9 → (zi = (i : Int)) → (i ≤ bl h) → lv_has ls 3 [(0, .long (jI ((h : Int)))), (2, .int (iI (zi)))] → va_P D ecl [] H → va_D A [] → va_S A s.heap H locs → W p l e (headSpec (Cond.code m_Fo_bitsOf b_Fo_bitsOf 3 (some .int) :: gw) (rm_ 0 0)).room s m ([.long (jI ((h : Int)))] : List Value).toArray below meth c H locs 0 0 (MQ below (va_Qi (fun r u => r = iI ((bl h : Nat) : Int) ∧ u = []) (c_B D ecl A) A) ([.long (jI ((h : Int)))] : List Value).toArray s 0 0 A) (F0 m 2 ls []) := by
    intro n9
    induction n9 using Nat.strongRecOn with
    | ind n9 ih =>
    intro i zi ls H locs hn9 hi hib hl hP hD hS
    refine lv_iload_n hx hb d_Fo_bitsOf_2 rfl (lv_at hl 1 rfl) ?_
    refine lv_bipush (v := iI 64) hx hb d_Fo_bitsOf_3 (by decide +kernel) ?_
    refine ed_icmp_ge (tgt := 22) hx hb d_Fo_bitsOf_5 rfl (by omega) (by omega) (fun h_1 => ?_) (fun h_1 => ?_)
    · exact absurd h_1 (by omega)
    · skip
      refine ed_pc (pc' := 8) rfl ?_
      obtain ⟨hs, hhs⟩ : ∃ hs : Nat, hs = h / 2 ^ i := ⟨_, rfl⟩
      have hsb : hs ≤ h := by rw [hhs]; exact Nat.div_le_self _ _
      refine lv_lload_n hx hb d_Fo_bitsOf_8 rfl (lv_at hl 0 rfl) ?_
      refine lv_iload_n hx hb d_Fo_bitsOf_9 rfl (lv_at hl 1 rfl) ?_
      refine lv_lushr (v := (jI ((hs : Int)))) hx hb d_Fo_bitsOf_10 (by rw [hhs, hi]; exact shr_l (by omega) (by omega)) ?_
      refine lv_lconst (v := jI 0) hx hb d_Fo_bitsOf_11 (by decide +kernel) ?_
      refine ed_pc (pc' := 12) rfl ?_
      refine ed_lif_eq (tgt := 22) hx hb d_Fo_bitsOf_12 d_Fo_bitsOf_13 rfl (by omega) (by omega) (fun h_2 => ?_) (fun h_2 => ?_)
      · skip
        refine ed_pc (pc' := 22) rfl ?_
        refine lv_iload_n hx hb d_Fo_bitsOf_22 rfl (lv_at hl 1 rfl) ?_
        have hie : bl h ≤ i := by
          rw [bl_iff]
          rcases Nat.lt_or_ge h (2 ^ i) with z | z
          · exact z
          · have := Nat.div_pos z (p2_pos i); omega
        refine ed_tz (y := ((bl h : Nat) : Int)) (by omega) ?_
        exact W.iret (v := (iI (((bl h : Nat) : Int)))) hx hb hr (fun t9 ht9 hW9 => ⟨⟨(iI (((bl h : Nat) : Int))), [], rfl, ⟨rfl, rfl⟩, by rw [ht9]; exact hP, hD⟩, hS.F ht9⟩) hS.2.2 d_Fo_bitsOf_23
      · skip
        refine ed_pc (pc' := 16) rfl ?_
        have hib2 : ¬ bl h ≤ i := by
          rw [bl_iff]; intro z
          rw [Nat.div_eq_of_lt z] at hhs; omega
        refine lv_iinc (k := 1) (v := iI (zi + 1)) hx hb d_Fo_bitsOf_16 hl rfl (iI_add _ _) (by decide) rfl (fun ls hl => ?_)
        have hl : lv_has ls 3 [(2, .int (iI (zi + 1))), (0, .long (jI ((h : Int))))] := hl
        refine lv_goto (tgt := 2) hx hb d_Fo_bitsOf_19 rfl ?_
        have hl := lv_sub hl [1, 0] rfl
        exact ih _ (by omega) (i + 1) _ ls H locs rfl (by omega) (by omega) hl hP hD hS
  refine lv_iconst (v := iI 0) hx hb d_Fo_bitsOf_0 rfl ?_
  refine lv_istore_n hx hb d_Fo_bitsOf_1 rfl hl (by decide) rfl (fun ls hl => ?_)
  have hl : lv_has ls 3 [(2, .int (iI (0))), (0, .long (jI ((h : Int))))] := hl
  have hl := lv_sub hl [1, 0] rfl
  exact L2 _ (0) _ ls s.heap [] rfl (rfl) (by omega) hl hP hD hS
