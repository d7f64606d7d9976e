set_option maxHeartbeats 4000000 in
set_option maxRecDepth 100000 in
theorem c_In_nlz (l : Launch) (D : va_G) (cB cI cJ : ClassId) (t5 : Nat) (ad : Nat → Nat) (a : Nat) (ha : a < 2147483648) : c_I l m_In_numberOfLeadingZeros (Cond.code m_In_numberOfLeadingZeros b_In_numberOfLeadingZeros 2 (some .int) :: gw) (rm_ 0 0) (eX t5 ad) D ecl (tyS cB cI cJ) [.int (iI ((a : Int)))] [] (fun r u => r = iI (32 - ((bl a : Nat) : Int)) ∧ u = []) 0 0 := by
  intro sz0
  refine Met.ofW (cc := b_In_numberOfLeadingZeros) (maxL := 2) (ret := (some .int)) (by decide) rfl ?_
  intro p e s m args below meth c s₁ B hml hv
  obtain ⟨rfl, hsz, hP, hK, hD0, hE⟩ := hv
  have hx := B.exec
  have hb := B.bytes
  have hr := B.returns
  have hts := atoms_spec (ws := Cond.code m_In_numberOfLeadingZeros b_In_numberOfLeadingZeros 2 (some .int) :: gw) B.pre
  have hown : s.vm.findClass R_In = some m.cls := findClass_of_methodNamed B.named
  have hlocks := B.notSynchronized
  subst hsz
  have hD := hD0.self (sz := s.heap.size)
  generalize hAe : va_A [] s.heap.size = A at hD hE ⊢
  have hA : ∀ q : Nat, s.heap.size ≤ q → A q := fun q h => by rw [← hAe]; exact Or.inr h
  have hS : va_S A s.heap s.heap [] := va_S.rf
  have hl := lv_entry ([.int (iI ((a : Int)))]) (n := 2) (Nat.le_of_ble_eq_true rfl)
  rw [lg_entry_eq]
  generalize (lg_sl ([.int (iI ((a : Int)))]) ++ List.replicate (2 - (lg_sl ([.int (iI ((a : Int)))])).length) Slot.unset).toArray = ls at hl ⊢
  have hl : lv_has ls 2 [(0, .int (iI ((a : Int))))] := hl
  have L73 : ∀ (sq : Nat) (y : Nat) (z0 : Int) (z1 : Int) (ls : Array Slot) (H : Heap) (locs : List Loc), (z0 = (y : Int)) → (z1 = 31 - (sq : Int)) → (y = a / 2 ^ sq) → (0 < y) → (y < 4) → (sq ≤ 31) → lv_has ls 2 [(0, .int (iI (z0))), (1, .int (iI (z1)))] → va_P D ecl [] H → va_D A [] → va_S A s.heap H locs → W p l e (headSpec (Cond.code m_In_numberOfLeadingZeros b_In_numberOfLeadingZeros 2 (some .int) :: gw) (rm_ 0 0)).room s m ([.int (iI ((a : Int)))] : List Value).toArray below meth c H locs 0 0 (MQ below (va_Qi (fun r u => r = iI (32 - ((bl a : Nat) : Int)) ∧ u = []) (c_B D ecl A) A) ([.int (iI ((a : Int)))] : List Value).toArray s 0 0 A) (F0 m 73 ls []) := by
    intro sq y z0 z1 ls H locs hz0 hz1 hy hyp hyl hs hl hP hD hS
    refine lv_iload_n hx hb d_In_numberOfLeadingZeros_73 rfl (lv_at hl 1 rfl) ?_
    refine lv_iload_n hx hb d_In_numberOfLeadingZeros_74 rfl (lv_at hl 0 rfl) ?_
    refine lv_iconst (v := iI 1) hx hb d_In_numberOfLeadingZeros_75 rfl ?_
    refine lv_iushr (v := (iI (((y / 2 ^ 1 : Nat) : Int)))) hx hb d_In_numberOfLeadingZeros_76 (by rw [hz0]; exact sh_i (k := 1) (by omega) (by decide)) ?_
    refine ed_isub hx hb d_In_numberOfLeadingZeros_77 ?_
    have hb1 := bl_sh (a := a) (s := sq) (by omega)
    rw [← hy, bl_3 hyp hyl] at hb1
    exact W.iret (v := (iI ((z1) - (((y / 2 ^ 1 : Nat) : Int))))) hx hb hr (fun t9 ht9 hW9 => ⟨⟨(iI ((z1) - (((y / 2 ^ 1 : Nat) : Int)))), [], rfl, ⟨by rw [hb1, hz1]; congr 1; omega, rfl⟩, by rw [ht9]; exact hP, hD⟩, hS.F ht9⟩) hS.2.2 d_In_numberOfLeadingZeros_78
  have L61 : ∀ (sq : Nat) (y : Nat) (z0 : Int) (z1 : Int) (ls : Array Slot) (H : Heap) (locs : List Loc), (z0 = (y : Int)) → (z1 = 31 - (sq : Int)) → (y = a / 2 ^ sq) → (0 < y) → (y < 16) → (sq ≤ 31) → lv_has ls 2 [(0, .int (iI (z0))), (1, .int (iI (z1)))] → va_P D ecl [] H → va_D A [] → va_S A s.heap H locs → W p l e (headSpec (Cond.code m_In_numberOfLeadingZeros b_In_numberOfLeadingZeros 2 (some .int) :: gw) (rm_ 0 0)).room s m ([.int (iI ((a : Int)))] : List Value).toArray below meth c H locs 0 0 (MQ below (va_Qi (fun r u => r = iI (32 - ((bl a : Nat) : Int)) ∧ u = []) (c_B D ecl A) A) ([.int (iI ((a : Int)))] : List Value).toArray s 0 0 A) (F0 m 61 ls []) := by
    intro sq y z0 z1 ls H locs hz0 hz1 hy hyp hyl hs hl hP hD hS
    refine lv_iload_n hx hb d_In_numberOfLeadingZeros_61 rfl (lv_at hl 0 rfl) ?_
    refine lv_iconst (v := iI 4) hx hb d_In_numberOfLeadingZeros_62 rfl ?_
    refine ed_icmp_lt (tgt := 73) hx hb d_In_numberOfLeadingZeros_63 rfl (by omega) (by omega) (fun h_1 => ?_) (fun h_1 => ?_)
    · skip
      refine ed_pc (pc' := 73) rfl ?_
      have hl := lv_sub hl [0, 1] rfl
      exact L73 (sq) (y) _ _ ls H locs (hz0) (hz1) (hy) (hyp) (by omega) (hs) hl hP hD hS
    · skip
      refine ed_pc (pc' := 66) rfl ?_
      have hs9 : sq + 2 ≤ 31 := nlz_s hy (show 2 ^ 2 ≤ y by omega) ha
      refine lv_iinc (k := 1) (v := iI (z1 + (-2))) hx hb d_In_numberOfLeadingZeros_66 hl rfl (iI_add _ _) (by decide) rfl (fun ls hl => ?_)
      have hl : lv_has ls 2 [(1, .int (iI (z1 + (-2)))), (0, .int (iI (z0)))] := hl
      refine lv_iload_n hx hb d_In_numberOfLeadingZeros_69 rfl (lv_at hl 1 rfl) ?_
      refine lv_iconst (v := iI 2) hx hb d_In_numberOfLeadingZeros_70 rfl ?_
      refine lv_iushr (v := (iI (((y / 2 ^ 2 : Nat) : Int)))) hx hb d_In_numberOfLeadingZeros_71 (by rw [hz0]; exact sh_i (k := 2) (by omega) (by decide)) ?_
      refine ed_pc (pc' := 72) rfl ?_
      refine lv_istore_n hx hb d_In_numberOfLeadingZeros_72 rfl hl (by decide) rfl (fun ls hl => ?_)
      have hl : lv_has ls 2 [(0, .int (iI (((y / 2 ^ 2 : Nat) : Int)))), (1, .int (iI (z1 + (-2))))] := hl
      have hl := lv_sub hl [0, 1] rfl
      exact L73 (sq + 2) (y / 2 ^ 2) _ _ ls H locs (rfl) (by omega) (by rw [hy, Nat.div_div_eq_div_mul, ← Nat.pow_add]) (by omega) (by omega) (by omega) hl hP hD hS
  have L48 : ∀ (sq : Nat) (y : Nat) (z0 : Int) (z1 : Int) (ls : Array Slot) (H : Heap) (locs : List Loc), (z0 = (y : Int)) → (z1 = 31 - (sq : Int)) → (y = a / 2 ^ sq) → (0 < y) → (y < 256) → (sq ≤ 31) → lv_has ls 2 [(0, .int (iI (z0))), (1, .int (iI (z1)))] → va_P D ecl [] H → va_D A [] → va_S A s.heap H locs → W p l e (headSpec (Cond.code m_In_numberOfLeadingZeros b_In_numberOfLeadingZeros 2 (some .int) :: gw) (rm_ 0 0)).room s m ([.int (iI ((a : Int)))] : List Value).toArray below meth c H locs 0 0 (MQ below (va_Qi (fun r u => r = iI (32 - ((bl a : Nat) : Int)) ∧ u = []) (c_B D ecl A) A) ([.int (iI ((a : Int)))] : List Value).toArray s 0 0 A) (F0 m 48 ls []) := by
    intro sq y z0 z1 ls H locs hz0 hz1 hy hyp hyl hs hl hP hD hS
    refine lv_iload_n hx hb d_In_numberOfLeadingZeros_48 rfl (lv_at hl 0 rfl) ?_
    refine lv_bipush (v := iI 16) hx hb d_In_numberOfLeadingZeros_49 (by decide +kernel) ?_
    refine ed_icmp_lt (tgt := 61) hx hb d_In_numberOfLeadingZeros_51 rfl (by omega) (by omega) (fun h_2 => ?_) (fun h_2 => ?_)
    · skip
      refine ed_pc (pc' := 61) rfl ?_
      have hl := lv_sub hl [0, 1] rfl
      exact L61 (sq) (y) _ _ ls H locs (hz0) (hz1) (hy) (hyp) (by omega) (hs) hl hP hD hS
    · skip
      refine ed_pc (pc' := 54) rfl ?_
      have hs9 : sq + 4 ≤ 31 := nlz_s hy (show 2 ^ 4 ≤ y by omega) ha
      refine lv_iinc (k := 1) (v := iI (z1 + (-4))) hx hb d_In_numberOfLeadingZeros_54 hl rfl (iI_add _ _) (by decide) rfl (fun ls hl => ?_)
      have hl : lv_has ls 2 [(1, .int (iI (z1 + (-4)))), (0, .int (iI (z0)))] := hl
      refine lv_iload_n hx hb d_In_numberOfLeadingZeros_57 rfl (lv_at hl 1 rfl) ?_
      refine lv_iconst (v := iI 4) hx hb d_In_numberOfLeadingZeros_58 rfl ?_
      refine lv_iushr (v := (iI (((y / 2 ^ 4 : Nat) : Int)))) hx hb d_In_numberOfLeadingZeros_59 (by rw [hz0]; exact sh_i (k := 4) (by omega) (by decide)) ?_
      refine ed_pc (pc' := 60) rfl ?_
      refine lv_istore_n hx hb d_In_numberOfLeadingZeros_60 rfl hl (by decide) rfl (fun ls hl => ?_)
      have hl : lv_has ls 2 [(0, .int (iI (((y / 2 ^ 4 : Nat) : Int)))), (1, .int (iI (z1 + (-4))))] := hl
      have hl := lv_sub hl [0, 1] rfl
      exact L61 (sq + 4) (y / 2 ^ 4) _ _ ls H locs (rfl) (by omega) (by rw [hy, Nat.div_div_eq_div_mul, ← Nat.pow_add]) (by omega) (by omega) (by omega) hl hP hD hS
  have L33 : ∀ (sq : Nat) (y : Nat) (z0 : Int) (z1 : Int) (ls : Array Slot) (H : Heap) (locs : List Loc), (z0 = (y : Int)) → (z1 = 31 - (sq : Int)) → (y = a / 2 ^ sq) → (0 < y) → (y < 65536) → (sq ≤ 31) → lv_has ls 2 [(0, .int (iI (z0))), (1, .int (iI (z1)))] → va_P D ecl [] H → va_D A [] → va_S A s.heap H locs → W p l e (headSpec (Cond.code m_In_numberOfLeadingZeros b_In_numberOfLeadingZeros 2 (some .int) :: gw) (rm_ 0 0)).room s m ([.int (iI ((a : Int)))] : List Value).toArray below meth c H locs 0 0 (MQ below (va_Qi (fun r u => r = iI (32 - ((bl a : Nat) : Int)) ∧ u = []) (c_B D ecl A) A) ([.int (iI ((a : Int)))] : List Value).toArray s 0 0 A) (F0 m 33 ls []) := by
    intro sq y z0 z1 ls H locs hz0 hz1 hy hyp hyl hs hl hP hD hS
    refine lv_iload_n hx hb d_In_numberOfLeadingZeros_33 rfl (lv_at hl 0 rfl) ?_
    refine lv_sipush (v := iI 256) hx hb d_In_numberOfLeadingZeros_34 (by decide +kernel) ?_
    refine ed_icmp_lt (tgt := 48) hx hb d_In_numberOfLeadingZeros_37 rfl (by omega) (by omega) (fun h_3 => ?_) (fun h_3 => ?_)
    · skip
      refine ed_pc (pc' := 48) rfl ?_
      have hl := lv_sub hl [0, 1] rfl
      exact L48 (sq) (y) _ _ ls H locs (hz0) (hz1) (hy) (hyp) (by omega) (hs) hl hP hD hS
    · skip
      refine ed_pc (pc' := 40) rfl ?_
      have hs9 : sq + 8 ≤ 31 := nlz_s hy (show 2 ^ 8 ≤ y by omega) ha
      refine lv_iinc (k := 1) (v := iI (z1 + (-8))) hx hb d_In_numberOfLeadingZeros_40 hl rfl (iI_add _ _) (by decide) rfl (fun ls hl => ?_)
      have hl : lv_has ls 2 [(1, .int (iI (z1 + (-8)))), (0, .int (iI (z0)))] := hl
      refine lv_iload_n hx hb d_In_numberOfLeadingZeros_43 rfl (lv_at hl 1 rfl) ?_
      refine lv_bipush (v := iI 8) hx hb d_In_numberOfLeadingZeros_44 (by decide +kernel) ?_
      refine lv_iushr (v := (iI (((y / 2 ^ 8 : Nat) : Int)))) hx hb d_In_numberOfLeadingZeros_46 (by rw [hz0]; exact sh_i (k := 8) (by omega) (by decide)) ?_
      refine ed_pc (pc' := 47) rfl ?_
      refine lv_istore_n hx hb d_In_numberOfLeadingZeros_47 rfl hl (by decide) rfl (fun ls hl => ?_)
      have hl : lv_has ls 2 [(0, .int (iI (((y / 2 ^ 8 : Nat) : Int)))), (1, .int (iI (z1 + (-8))))] := hl
      have hl := lv_sub hl [0, 1] rfl
      exact L48 (sq + 8) (y / 2 ^ 8) _ _ ls H locs (rfl) (by omega) (by rw [hy, Nat.div_div_eq_div_mul, ← Nat.pow_add]) (by omega) (by omega) (by omega) hl hP hD hS
  refine lv_iload_n hx hb d_In_numberOfLeadingZeros_0 rfl (lv_at hl 0 rfl) ?_
  refine ed_if_gt (tgt := 15) hx hb d_In_numberOfLeadingZeros_1 rfl (by omega) (fun h_4 => ?_) (fun h_4 => ?_)
  · skip
    refine ed_pc (pc' := 15) rfl ?_
    refine lv_bipush (v := iI 31) hx hb d_In_numberOfLeadingZeros_15 (by decide +kernel) ?_
    refine lv_istore_n hx hb d_In_numberOfLeadingZeros_17 rfl hl (by decide) rfl (fun ls hl => ?_)
    have hl : lv_has ls 2 [(1, .int (iI (31))), (0, .int (iI ((a : Int))))] := hl
    refine lv_iload_n hx hb d_In_numberOfLeadingZeros_18 rfl (lv_at hl 1 rfl) ?_
    refine lv_ldcw (v := 65536) hx hb hown (hts _ (List.mem_cons_of_mem _ tw_562)) d_In_numberOfLeadingZeros_19 ?_
    refine ed_ti (y := (iI (65536))) (by decide +kernel) ?_
    refine ed_icmp_lt (tgt := 33) hx hb d_In_numberOfLeadingZeros_22 rfl (by omega) (by omega) (fun h_5 => ?_) (fun h_5 => ?_)
    · skip
      refine ed_pc (pc' := 33) rfl ?_
      have hl := lv_sub hl [1, 0] rfl
      exact L33 (0) (a) _ _ ls s.heap [] (rfl) (by omega) (by simp) (by omega) (by omega) (by omega) hl hP hD hS
    · skip
      refine ed_pc (pc' := 25) rfl ?_
      refine ed_pc (pc' := 25) rfl ?_
      refine lv_iinc (k := 0) (v := iI (31 + (-16))) hx hb d_In_numberOfLeadingZeros_25 hl rfl (iI_add _ _) (by decide) rfl (fun ls hl => ?_)
      have hl : lv_has ls 2 [(1, .int (iI (31 + (-16)))), (0, .int (iI ((a : Int))))] := hl
      refine lv_iload_n hx hb d_In_numberOfLeadingZeros_28 rfl (lv_at hl 1 rfl) ?_
      refine lv_bipush (v := iI 16) hx hb d_In_numberOfLeadingZeros_29 (by decide +kernel) ?_
      refine lv_iushr (v := (iI (((a / 2 ^ 16 : Nat) : Int)))) hx hb d_In_numberOfLeadingZeros_31 (sh_i (k := 16) (by omega) (by decide)) ?_
      refine lv_istore_n hx hb d_In_numberOfLeadingZeros_32 rfl hl (by decide) rfl (fun ls hl => ?_)
      have hl : lv_has ls 2 [(0, .int (iI (((a / 2 ^ 16 : Nat) : Int)))), (1, .int (iI (31 + (-16))))] := hl
      have hl := lv_sub hl [0, 1] rfl
      exact L33 (16) (a / 2 ^ 16) _ _ ls s.heap [] (rfl) (by omega) (rfl) (by omega) (by omega) (by omega) hl hP hD hS
  · skip
    refine ed_pc (pc' := 4) rfl ?_
    refine lv_iload_n hx hb d_In_numberOfLeadingZeros_4 rfl (lv_at hl 0 rfl) ?_
    refine ed_if_ne (tgt := 13) hx hb d_In_numberOfLeadingZeros_5 rfl (by omega) (fun h_6 => ?_) (fun h_6 => ?_)
    · exact absurd h_6 (by omega)
    · skip
      refine ed_pc (pc' := 8) rfl ?_
      refine lv_bipush (v := iI 32) hx hb d_In_numberOfLeadingZeros_8 (by decide +kernel) ?_
      refine lv_goto (tgt := 14) hx hb d_In_numberOfLeadingZeros_10 rfl ?_
      have ha0 : a = 0 := by omega
      exact W.iret (v := (iI (32))) hx hb hr (fun t9 ht9 hW9 => ⟨⟨(iI (32)), [], rfl, ⟨by rw [ha0, bl_0]; rfl, rfl⟩, by rw [ht9]; exact hP, hD⟩, hS.F ht9⟩) hS.2.2 d_In_numberOfLeadingZeros_14
set_option maxHeartbeats 4000000 in
set_option maxRecDepth 100000 in
theorem c_In_nlz_neg (l : Launch) (D : va_G) (cB cI cJ : ClassId) (t5 : Nat) (ad : Nat → Nat) (z : Int) (hz : iR z) (hz0 : z < 0) : c_I l m_In_numberOfLeadingZeros (Cond.code m_In_numberOfLeadingZeros b_In_numberOfLeadingZeros 2 (some .int) :: gw) (rm_ 0 0) (eX t5 ad) D ecl (tyS cB cI cJ) [.int (iI (z))] [] (fun r u => r = iI 0 ∧ u = []) 0 0 := by
  intro sz0
  refine Met.ofW (cc := b_In_numberOfLeadingZeros) (maxL := 2) (ret := (some .int)) (by decide) rfl ?_
  intro p e s m args below meth c s₁ B hml hv
  obtain ⟨rfl, hsz, hP, hK, hD0, hE⟩ := hv
  have hx := B.exec
  have hb := B.bytes
  have hr := B.returns
  have hts := atoms_spec (ws := Cond.code m_In_numberOfLeadingZeros b_In_numberOfLeadingZeros 2 (some .int) :: gw) B.pre
  have hown : s.vm.findClass R_In = some m.cls := findClass_of_methodNamed B.named
  have hlocks := B.notSynchronized
  subst hsz
  have hD := hD0.self (sz := s.heap.size)
  generalize hAe : va_A [] s.heap.size = A at hD hE ⊢
  have hA : ∀ q : Nat, s.heap.size ≤ q → A q := fun q h => by rw [← hAe]; exact Or.inr h
  have hS : va_S A s.heap s.heap [] := va_S.rf
  have hl := lv_entry ([.int (iI (z))]) (n := 2) (Nat.le_of_ble_eq_true rfl)
  rw [lg_entry_eq]
  generalize (lg_sl ([.int (iI (z))]) ++ List.replicate (2 - (lg_sl ([.int (iI (z))])).length) Slot.unset).toArray = ls at hl ⊢
  have hl : lv_has ls 2 [(0, .int (iI (z)))] := hl
  refine lv_iload_n hx hb d_In_numberOfLeadingZeros_0 rfl (lv_at hl 0 rfl) ?_
  refine ed_if_gt (tgt := 15) hx hb d_In_numberOfLeadingZeros_1 rfl (by omega) (fun h_1 => ?_) (fun h_1 => ?_)
  · exact absurd h_1 (by omega)
  · skip
    refine ed_pc (pc' := 4) rfl ?_
    refine lv_iload_n hx hb d_In_numberOfLeadingZeros_4 rfl (lv_at hl 0 rfl) ?_
    refine ed_if_ne (tgt := 13) hx hb d_In_numberOfLeadingZeros_5 rfl (by omega) (fun h_2 => ?_) (fun h_2 => ?_)
    · skip
      refine ed_pc (pc' := 13) rfl ?_
      refine lv_iconst (v := iI 0) hx hb d_In_numberOfLeadingZeros_13 rfl ?_
      exact W.iret (v := (iI (0))) hx hb hr (fun t9 ht9 hW9 => ⟨⟨(iI (0)), [], rfl, ⟨rfl, rfl⟩, by rw [ht9]; exact hP, hD⟩, hS.F ht9⟩) hS.2.2 d_In_numberOfLeadingZeros_14
    · exact absurd h_2 (by omega)
set_option maxHeartbeats 4000000 in
set_option maxRecDepth 100000 in
theorem c_Lo_nlz (l : Launch) (D : va_G) (cB cI cJ : ClassId) (t5 : Nat) (ad : Nat → Nat) (a : Nat) (ha : a < 4611686018427387904) : c_I l m_Lo_numberOfLeadingZeros (Cond.code m_Lo_numberOfLeadingZeros b_Lo_numberOfLeadingZeros 3 (some .int) :: gw) (rm_ 1 21) (eX t5 ad) D ecl (tyS cB cI cJ) [.long (jI ((a : Int)))] [] (fun r u => r = iI (64 - ((bl a : Nat) : Int)) ∧ u = []) 0 0 := by
  intro sz0
  refine Met.ofW (cc := b_Lo_numberOfLeadingZeros) (maxL := 3) (ret := (some .int)) (by decide) rfl ?_
  intro p e s m args below meth c s₁ B hml hv
  obtain ⟨rfl, hsz, hP, hK, hD0, hE⟩ := hv
  have hx := B.exec
  have hb := B.bytes
  have hr := B.returns
  have hts := atoms_spec (ws := Cond.code m_Lo_numberOfLeadingZeros b_Lo_numberOfLeadingZeros 3 (some .int) :: gw) B.pre
  have hown : s.vm.findClass R_Lo = some m.cls := findClass_of_methodNamed B.named
  have hlocks := B.notSynchronized
  subst hsz
  have hD := hD0.self (sz := s.heap.size)
  generalize hAe : va_A [] s.heap.size = A at hD hE ⊢
  have hA : ∀ q : Nat, s.heap.size ≤ q → A q := fun q h => by rw [← hAe]; exact Or.inr h
  have hS : va_S A s.heap s.heap [] := va_S.rf
  have hl := lv_entry ([.long (jI ((a : Int)))]) (n := 3) (Nat.le_of_ble_eq_true rfl)
  rw [lg_entry_eq]
  generalize (lg_sl ([.long (jI ((a : Int)))]) ++ List.replicate (3 - (lg_sl ([.long (jI ((a : Int)))])).length) Slot.unset).toArray = ls at hl ⊢
  have hl : lv_has ls 3 [(0, .long (jI ((a : Int))))] := hl
  refine lv_lload_n hx hb d_Lo_numberOfLeadingZeros_0 rfl (lv_at hl 0 rfl) ?_
  refine lv_bipush (v := iI 32) hx hb d_Lo_numberOfLeadingZeros_1 (by decide +kernel) ?_
  refine lv_lushr (v := (jI (((a / 2 ^ 32 : Nat) : Int)))) hx hb d_Lo_numberOfLeadingZeros_3 (shr_l (k := 32) (by omega) (by decide)) ?_
  refine ed_l2i hx hb d_Lo_numberOfLeadingZeros_4 ?_
  refine lv_istore_n hx hb d_Lo_numberOfLeadingZeros_5 rfl hl (by decide) rfl (fun ls hl => ?_)
  have hl : lv_has ls 3 [(2, .int (iI (((a / 2 ^ 32 : Nat) : Int)))), (0, .long (jI ((a : Int))))] := hl
  refine lv_iload_n hx hb d_Lo_numberOfLeadingZeros_6 rfl (lv_at hl 0 rfl) ?_
  refine ed_if_ne (tgt := 21) hx hb d_Lo_numberOfLeadingZeros_7 rfl (by omega) (fun h_1 => ?_) (fun h_1 => ?_)
  · skip
    refine ed_pc (pc' := 21) rfl ?_
    refine ed_pc (pc' := 21) rfl ?_
    refine lv_iload_n hx hb d_Lo_numberOfLeadingZeros_21 rfl (lv_at hl 0 rfl) ?_
    refine c_fi (wc := []) (wr := []) (va_runS (As := [.int (iI (((a / 2 ^ 32 : Nat) : Int)))]) (rest := []) ⟨hx, hb, hml, hown, hts⟩ (c_In_nlz l D cB cI cJ t5 ad (a / 2 ^ 32) (by omega) s.heap.size) (va_cwS 1 hts (gS tw_559 tw_560 tw_16 tw_561) rfl rfl rfl (by decide +kernel) ⟨Nat.le_of_ble_eq_true rfl, Nat.le_of_ble_eq_true rfl⟩) ⟨c_blind (eX_X t5 ad), fun U hU hW => c_pre (wc := []) (eX_X t5 ad) hE hK hP hD hS hA [] rfl (by decide) U hU hW⟩ rfl rfl hl.1 rfl (lv_room (Nat.le_of_ble_eq_true rfl)) d_Lo_numberOfLeadingZeros_22 ⟨Nat.le_of_ble_eq_true rfl, Nat.le_of_ble_eq_true rfl⟩) hP hD hS hA [] [] rfl rfl (by decide) (by decide) (fun r u H locs hp hP hD hS => ?_)
    obtain ⟨rfl, rfl⟩ := hp
    have hP : va_P D ecl [] H := hP
    have hD : va_D A [] := hD
    have hb9 := bl_sh (a := a) (s := 32) (by omega)
    exact W.iret (v := (iI (32 - ((bl (a / 2 ^ 32) : Nat) : Int)))) hx hb hr (fun t9 ht9 hW9 => ⟨⟨(iI (32 - ((bl (a / 2 ^ 32) : Nat) : Int))), [], rfl, ⟨by rw [hb9]; congr 1; omega, rfl⟩, by rw [ht9]; exact hP, hD⟩, hS.F ht9⟩) hS.2.2 d_Lo_numberOfLeadingZeros_25
  · skip
    refine ed_pc (pc' := 10) rfl ?_
    refine ed_pc (pc' := 10) rfl ?_
    refine lv_bipush (v := iI 32) hx hb d_Lo_numberOfLeadingZeros_10 (by decide +kernel) ?_
    refine lv_lload_n hx hb d_Lo_numberOfLeadingZeros_12 rfl (lv_at hl 1 rfl) ?_
    refine ed_l2i hx hb d_Lo_numberOfLeadingZeros_13 ?_
    rcases Nat.lt_or_ge a 2147483648 with hq | hq
    · skip
      refine c_fi (wc := []) (wr := []) (va_runS (As := [.int (iI ((a : Int)))]) (rest := [.int (iI (32))]) ⟨hx, hb, hml, hown, hts⟩ (c_In_nlz l D cB cI cJ t5 ad a hq s.heap.size) (va_cwS 1 hts (gS tw_559 tw_560 tw_16 tw_561) rfl rfl rfl (by decide +kernel) ⟨Nat.le_of_ble_eq_true rfl, Nat.le_of_ble_eq_true rfl⟩) ⟨c_blind (eX_X t5 ad), fun U hU hW => c_pre (wc := []) (eX_X t5 ad) hE hK hP hD hS hA [] rfl (by decide) U hU hW⟩ rfl rfl hl.1 rfl (lv_room (Nat.le_of_ble_eq_true rfl)) d_Lo_numberOfLeadingZeros_14 ⟨Nat.le_of_ble_eq_true rfl, Nat.le_of_ble_eq_true rfl⟩) hP hD hS hA [] [] rfl rfl (by decide) (by decide) (fun r u H locs hp hP hD hS => ?_)
      obtain ⟨rfl, rfl⟩ := hp
      have hP : va_P D ecl [] H := hP
      have hD : va_D A [] := hD
      refine ed_iadd hx hb d_Lo_numberOfLeadingZeros_17 ?_
      refine lv_goto (tgt := 25) hx hb d_Lo_numberOfLeadingZeros_18 rfl ?_
      exact W.iret (v := (iI ((32) + (32 - ((bl a : Nat) : Int))))) hx hb hr (fun t9 ht9 hW9 => ⟨⟨(iI ((32) + (32 - ((bl a : Nat) : Int)))), [], rfl, ⟨by congr 1; omega, rfl⟩, by rw [ht9]; exact hP, hD⟩, hS.F ht9⟩) hS.2.2 d_Lo_numberOfLeadingZeros_25
    · skip
      rw [iI_wrap (a : Int)]
      refine c_fi (wc := []) (wr := []) (va_runS (As := [.int (iI ((a : Int) - 4294967296))]) (rest := [.int (iI (32))]) ⟨hx, hb, hml, hown, hts⟩ (c_In_nlz_neg l D cB cI cJ t5 ad ((a : Int) - 4294967296) (by omega) (by omega) s.heap.size) (va_cwS 1 hts (gS tw_559 tw_560 tw_16 tw_561) rfl rfl rfl (by decide +kernel) ⟨Nat.le_of_ble_eq_true rfl, Nat.le_of_ble_eq_true rfl⟩) ⟨c_blind (eX_X t5 ad), fun U hU hW => c_pre (wc := []) (eX_X t5 ad) hE hK hP hD hS hA [] rfl (by decide) U hU hW⟩ rfl rfl hl.1 rfl (lv_room (Nat.le_of_ble_eq_true rfl)) d_Lo_numberOfLeadingZeros_14 ⟨Nat.le_of_ble_eq_true rfl, Nat.le_of_ble_eq_true rfl⟩) hP hD hS hA [] [] rfl rfl (by decide) (by decide) (fun r u H locs hp hP hD hS => ?_)
      obtain ⟨rfl, rfl⟩ := hp
      have hP : va_P D ecl [] H := hP
      have hD : va_D A [] := hD
      refine ed_iadd hx hb d_Lo_numberOfLeadingZeros_17 ?_
      refine lv_goto (tgt := 25) hx hb d_Lo_numberOfLeadingZeros_18 rfl ?_
      have hb9 : bl a = 32 := bl_un (by omega) (fun _ => by omega)
      exact W.iret (v := (iI ((32) + (0)))) hx hb hr (fun t9 ht9 hW9 => ⟨⟨(iI ((32) + (0))), [], rfl, ⟨by rw [hb9]; rfl, rfl⟩, by rw [ht9]; exact hP, hD⟩, hS.F ht9⟩) hS.2.2 d_Lo_numberOfLeadingZeros_25
set_option maxHeartbeats 4000000 in
set_option maxRecDepth 100000 in
theorem c_Mo_ones (l : Launch) (D : va_G) (cB cI cJ : ClassId) (t5 : Nat) (ad : Nat → Nat) (mo nb un ov xx dc dw fr to : Nat) (f : Nat → Int32) (zl th pw zk : Int) (ma : Int64) (T : Nat) (hde : de_ok f fr to T) (hfr : 43 ≤ fr) : c_L l m_Mo_ones (Cond.code m_Mo_ones b_Mo_ones 1 (some .long) :: gw) (rm_ 0 0) (eX t5 ad) D ecl (tyS cB cI cJ) [.ref mo] [(mo, .inr (4, [.ref nb, .ref un, .ref ov, .ref xx, .ref dc, .int (iI (zl)), .int (iI (th)), .long (ma), .int (iI (pw)), .int (iI (zk))])), (dc, .inr (2, [.ref dw, .int (iI ((fr : Int))), .int (iI ((to : Int)))])), (dw, .inl (cI, 465, .inl f))] (fun r u => r = jI ((T / W42 : Nat) : Int) ∧ u = [(mo, .inr (4, [.ref nb, .ref un, .ref ov, .ref xx, .ref dc, .int (iI (zl)), .int (iI (th)), .long (ma), .int (iI (pw)), .int (iI (zk))])), (dc, .inr (2, [.ref dw, .int (iI ((fr : Int))), .int (iI ((to : Int)))])), (dw, .inl (cI, 465, .inl f))]) 0 0 := by
  intro sz0
  refine Met.ofW (cc := b_Mo_ones) (maxL := 1) (ret := (some .long)) (by decide) rfl ?_
  intro p e s m args below meth c s₁ B hml hv
  obtain ⟨rfl, hsz, hP, hK, hD0, hE⟩ := hv
  have hx := B.exec
  have hb := B.bytes
  have hr := B.returns
  have hts := atoms_spec (ws := Cond.code m_Mo_ones b_Mo_ones 1 (some .long) :: gw) B.pre
  have hown : s.vm.findClass R_Mo = some m.cls := findClass_of_methodNamed B.named
  have hlocks := B.notSynchronized
  subst hsz
  have hD := hD0.self (sz := s.heap.size)
  generalize hAe : va_A [(mo, .inr (4, [.ref nb, .ref un, .ref ov, .ref xx, .ref dc, .int (iI (zl)), .int (iI (th)), .long (ma), .int (iI (pw)), .int (iI (zk))])), (dc, .inr (2, [.ref dw, .int (iI ((fr : Int))), .int (iI ((to : Int)))])), (dw, .inl (cI, 465, .inl f))] s.heap.size = A at hD hE ⊢
  have hA : ∀ q : Nat, s.heap.size ≤ q → A q := fun q h => by rw [← hAe]; exact Or.inr h
  have hS : va_S A s.heap s.heap [] := va_S.rf
  have hl := lv_entry ([.ref mo]) (n := 1) (Nat.le_of_ble_eq_true rfl)
  rw [lg_entry_eq]
  generalize (lg_sl ([.ref mo]) ++ List.replicate (1 - (lg_sl ([.ref mo])).length) Slot.unset).toArray = ls at hl ⊢
  have hl : lv_has ls 1 [(0, .ref mo)] := hl
  obtain ⟨hon, hqb⟩ := on_w hde hfr
  obtain ⟨a1, ha1⟩ : ∃ a1 : Nat, a1 = wq T 43 := ⟨_, rfl⟩
  obtain ⟨a2, ha2⟩ : ∃ a2 : Nat, a2 = wq T 44 := ⟨_, rfl⟩
  have hb1 := wq_lt T 43
  have hb2 := wq_lt T 44
  rw [← ha1] at hon hb1
  rw [← ha2] at hon hb2
  have h6 := hde.2.2.2.2.2
  refine lv_aload_n hx hb d_Mo_ones_0 rfl (lv_at hl 0 rfl) ?_
  refine va_get (D := D) (ci := 4) (v := .ref dc) (C := R_Mo) (T := T_Mo) (N := 10) hx hb hts (fun w h => List.mem_cons_of_mem _ (in_Mo w h)) hown hK hP 0 rfl rfl 4 (by decide) (hts _ (List.mem_cons_of_mem _ tw_394)) (fun _ h9 => h9) rfl d_Mo_ones_1 ?_
  refine va_get (D := D) (ci := 2) (v := .ref dw) (C := R_De) (T := T_De) (N := 3) hx hb hts (fun w h => List.mem_cons_of_mem _ (in_De w h)) hown hK hP 1 rfl rfl 0 (by decide) (hts _ (List.mem_cons_of_mem _ tw_379)) (fun _ h9 => h9) rfl d_Mo_ones_4 ?_
  refine lv_bipush (v := iI 43) hx hb d_Mo_ones_7 (by decide +kernel) ?_
  refine ed_iald (y := (a1 : Int)) hx hb hK hP 2 1 rfl rfl (43) (by omega) (by omega) (by decide) (by rw [ha1]; exact h6 43 (by decide)) d_Mo_ones_9 ?_
  refine ed_i2l hx hb d_Mo_ones_10 (by omega) ?_
  refine lv_ldc2 (v := 1000000000) hx hb hown (hts _ (List.mem_cons_of_mem _ tw_555)) d_Mo_ones_11 ?_
  refine ed_tl (y := (jI (1000000000))) (by decide +kernel) ?_
  refine ed_pc (pc' := 14) rfl ?_
  refine ed_lmul hx hb d_Mo_ones_14 ?_
  refine lv_aload_n hx hb d_Mo_ones_15 rfl (lv_at hl 0 rfl) ?_
  refine va_get (D := D) (ci := 4) (v := .ref dc) (C := R_Mo) (T := T_Mo) (N := 10) hx hb hts (fun w h => List.mem_cons_of_mem _ (in_Mo w h)) hown hK hP 0 rfl rfl 4 (by decide) (hts _ (List.mem_cons_of_mem _ tw_394)) (fun _ h9 => h9) rfl d_Mo_ones_16 ?_
  refine va_get (D := D) (ci := 2) (v := .ref dw) (C := R_De) (T := T_De) (N := 3) hx hb hts (fun w h => List.mem_cons_of_mem _ (in_De w h)) hown hK hP 1 rfl rfl 0 (by decide) (hts _ (List.mem_cons_of_mem _ tw_379)) (fun _ h9 => h9) rfl d_Mo_ones_19 ?_
  refine lv_bipush (v := iI 44) hx hb d_Mo_ones_22 (by decide +kernel) ?_
  refine ed_iald (y := (a2 : Int)) hx hb hK hP 2 1 rfl rfl (44) (by omega) (by omega) (by decide) (by rw [ha2]; exact h6 44 (by decide)) d_Mo_ones_24 ?_
  refine ed_i2l hx hb d_Mo_ones_25 (by omega) ?_
  refine ed_ladd hx hb d_Mo_ones_26 ?_
  refine ed_tj (y := ((T / W42 : Nat) : Int)) (by omega) ?_
  exact W.lret (v := (jI (((T / W42 : Nat) : Int)))) hx hb hr (fun t9 ht9 hW9 => ⟨⟨(jI (((T / W42 : Nat) : Int))), [(mo, .inr (4, [.ref nb, .ref un, .ref ov, .ref xx, .ref dc, .int (iI (zl)), .int (iI (th)), .long (ma), .int (iI (pw)), .int (iI (zk))])), (dc, .inr (2, [.ref dw, .int (iI ((fr : Int))), .int (iI ((to : Int)))])), (dw, .inl (cI, 465, .inl f))], rfl, ⟨rfl, rfl⟩, by rw [ht9]; exact hP, hD⟩, hS.F ht9⟩) hS.2.2 d_Mo_ones_27
set_option maxHeartbeats 4000000 in
set_option maxRecDepth 100000 in
theorem c_Mo_bits (l : Launch) (D : va_G) (cB cI cJ : ClassId) (t5 : Nat) (ad : Nat → Nat) (mo nb un ov xx dc dw fr to : Nat) (f : Nat → Int32) (zl th pw zk : Int) (ma : Int64) (T : Nat) (hde : de_ok f fr to T) (hfr : 43 ≤ fr) : c_I l m_Mo_bits (Cond.code m_Mo_bits b_Mo_bits 1 (some .int) :: gw) (rm_ 2 43) (eX t5 ad) D ecl (tyS cB cI cJ) [.ref mo] [(mo, .inr (4, [.ref nb, .ref un, .ref ov, .ref xx, .ref dc, .int (iI (zl)), .int (iI (th)), .long (ma), .int (iI (pw)), .int (iI (zk))])), (dc, .inr (2, [.ref dw, .int (iI ((fr : Int))), .int (iI ((to : Int)))])), (dw, .inl (cI, 465, .inl f))] (fun r u => r = iI ((bl (T / W42) : Nat) : Int) ∧ u = [(mo, .inr (4, [.ref nb, .ref un, .ref ov, .ref xx, .ref dc, .int (iI (zl)), .int (iI (th)), .long (ma), .int (iI (pw)), .int (iI (zk))])), (dc, .inr (2, [.ref dw, .int (iI ((fr : Int))), .int (iI ((to : Int)))])), (dw, .inl (cI, 465, .inl f))]) 0 0 := by
  intro sz0
  refine Met.ofW (cc := b_Mo_bits) (maxL := 1) (ret := (some .int)) (by decide) rfl ?_
  intro p e s m args below meth c s₁ B hml hv
  obtain ⟨rfl, hsz, hP, hK, hD0, hE⟩ := hv
  have hx := B.exec
  have hb := B.bytes
  have hr := B.returns
  have hts := atoms_spec (ws := Cond.code m_Mo_bits b_Mo_bits 1 (some .int) :: gw) B.pre
  have hown : s.vm.findClass R_Mo = some m.cls := findClass_of_methodNamed B.named
  have hlocks := B.notSynchronized
  subst hsz
  have hD := hD0.self (sz := s.heap.size)
  generalize hAe : va_A [(mo, .inr (4, [.ref nb, .ref un, .ref ov, .ref xx, .ref dc, .int (iI (zl)), .int (iI (th)), .long (ma), .int (iI (pw)), .int (iI (zk))])), (dc, .inr (2, [.ref dw, .int (iI ((fr : Int))), .int (iI ((to : Int)))])), (dw, .inl (cI, 465, .inl f))] s.heap.size = A at hD hE ⊢
  have hA : ∀ q : Nat, s.heap.size ≤ q → A q := fun q h => by rw [← hAe]; exact Or.inr h
  have hS : va_S A s.heap s.heap [] := va_S.rf
  have hl := lv_entry ([.ref mo]) (n := 1) (Nat.le_of_ble_eq_true rfl)
  rw [lg_entry_eq]
  generalize (lg_sl ([.ref mo]) ++ List.replicate (1 - (lg_sl ([.ref mo])).length) Slot.unset).toArray = ls at hl ⊢
  have hl : lv_has ls 1 [(0, .ref mo)] := hl
  obtain ⟨hon, hqb⟩ := on_w hde hfr
  refine lv_bipush (v := iI 64) hx hb d_Mo_bits_0 (by decide +kernel) ?_
  refine lv_aload_n hx hb d_Mo_bits_2 rfl (lv_at hl 0 rfl) ?_
  refine c_fl (wc := [(mo, .inr (4, [.ref nb, .ref un, .ref ov, .ref xx, .ref dc, .int (iI (zl)), .int (iI (th)), .long (ma), .int (iI (pw)), .int (iI (zk))])), (dc, .inr (2, [.ref dw, .int (iI ((fr : Int))), .int (iI ((to : Int)))])), (dw, .inl (cI, 465, .inl f))]) (wr := []) (va_runV (C := "ExactDigitsModel") (As := []) (rest := [.int (iI (64))]) ⟨hx, hb, hml, hown, hts⟩ (c_Mo_ones l D cB cI cJ t5 ad mo nb un ov xx dc dw fr to f zl th pw zk ma T hde hfr s.heap.size) (cwV 0 hts (gV tw_551 tw_553 ts_21 tw_3 tw_554) rfl rfl rfl (by decide +kernel) ⟨Nat.le_of_ble_eq_true rfl, Nat.le_of_ble_eq_true rfl⟩) ⟨c_blind (eX_X t5 ad), va_recv (ci := 4) (q0 := 0) hK hP rfl rfl, fun U hU hW => c_pre (wc := [(mo, .inr (4, [.ref nb, .ref un, .ref ov, .ref xx, .ref dc, .int (iI (zl)), .int (iI (th)), .long (ma), .int (iI (pw)), .int (iI (zk))])), (dc, .inr (2, [.ref dw, .int (iI ((fr : Int))), .int (iI ((to : Int)))])), (dw, .inl (cI, 465, .inl f))]) (eX_X t5 ad) hE hK hP hD hS hA [0, 1, 2] rfl (by decide) U hU hW⟩ rfl rfl hl.1 rfl (lv_room (Nat.le_of_ble_eq_true rfl)) d_Mo_bits_3 ⟨Nat.le_of_ble_eq_true rfl, Nat.le_of_ble_eq_true rfl⟩) hP hD hS hA [0, 1, 2] [] rfl rfl (by decide) (by decide) (fun r u H locs hp hP hD hS => ?_)
  obtain ⟨rfl, rfl⟩ := hp
  have hP : va_P D ecl [(mo, .inr (4, [.ref nb, .ref un, .ref ov, .ref xx, .ref dc, .int (iI (zl)), .int (iI (th)), .long (ma), .int (iI (pw)), .int (iI (zk))])), (dc, .inr (2, [.ref dw, .int (iI ((fr : Int))), .int (iI ((to : Int)))])), (dw, .inl (cI, 465, .inl f))] H := hP
  have hD : va_D A [(mo, .inr (4, [.ref nb, .ref un, .ref ov, .ref xx, .ref dc, .int (iI (zl)), .int (iI (th)), .long (ma), .int (iI (pw)), .int (iI (zk))])), (dc, .inr (2, [.ref dw, .int (iI ((fr : Int))), .int (iI ((to : Int)))])), (dw, .inl (cI, 465, .inl f))] := hD
  refine c_fi (wc := []) (wr := [(mo, .inr (4, [.ref nb, .ref un, .ref ov, .ref xx, .ref dc, .int (iI (zl)), .int (iI (th)), .long (ma), .int (iI (pw)), .int (iI (zk))])), (dc, .inr (2, [.ref dw, .int (iI ((fr : Int))), .int (iI ((to : Int)))])), (dw, .inl (cI, 465, .inl f))]) (va_runS (As := [.long (jI (((T / W42 : Nat) : Int)))]) (rest := [.int (iI (64))]) ⟨hx, hb, hml, hown, hts⟩ (c_Lo_nlz l D cB cI cJ t5 ad (T / W42) (by omega) H.size) (va_cwS 1 hts (gS tw_556 tw_557 tw_7 tw_558) rfl rfl rfl (by decide +kernel) ⟨Nat.le_of_ble_eq_true rfl, Nat.le_of_ble_eq_true rfl⟩) ⟨c_blind (eX_X t5 ad), fun U hU hW => c_pre (wc := []) (eX_X t5 ad) hE hK hP hD hS hA [] rfl (by decide) U hU hW⟩ rfl rfl hl.1 rfl (lv_room (Nat.le_of_ble_eq_true rfl)) d_Mo_bits_6 ⟨Nat.le_of_ble_eq_true rfl, Nat.le_of_ble_eq_true rfl⟩) hP hD hS hA [] [0, 1, 2] rfl rfl (by decide) (by decide) (fun r u H locs hp hP hD hS => ?_)
  obtain ⟨rfl, rfl⟩ := hp
  have hP : va_P D ecl [(mo, .inr (4, [.ref nb, .ref un, .ref ov, .ref xx, .ref dc, .int (iI (zl)), .int (iI (th)), .long (ma), .int (iI (pw)), .int (iI (zk))])), (dc, .inr (2, [.ref dw, .int (iI ((fr : Int))), .int (iI ((to : Int)))])), (dw, .inl (cI, 465, .inl f))] H := hP
  have hD : va_D A [(mo, .inr (4, [.ref nb, .ref un, .ref ov, .ref xx, .ref dc, .int (iI (zl)), .int (iI (th)), .long (ma), .int (iI (pw)), .int (iI (zk))])), (dc, .inr (2, [.ref dw, .int (iI ((fr : Int))), .int (iI ((to : Int)))])), (dw, .inl (cI, 465, .inl f))] := hD
  refine ed_isub hx hb d_Mo_bits_9 ?_
  exact W.iret (v := (iI ((64) - (64 - ((bl (T / W42) : Nat) : Int))))) hx hb hr (fun t9 ht9 hW9 => ⟨⟨(iI ((64) - (64 - ((bl (T / W42) : Nat) : Int)))), [(mo, .inr (4, [.ref nb, .ref un, .ref ov, .ref xx, .ref dc, .int (iI (zl)), .int (iI (th)), .long (ma), .int (iI (pw)), .int (iI (zk))])), (dc, .inr (2, [.ref dw, .int (iI ((fr : Int))), .int (iI ((to : Int)))])), (dw, .inl (cI, 465, .inl f))], rfl, ⟨by congr 1; omega, rfl⟩, by rw [ht9]; exact hP, hD⟩, hS.F ht9⟩) hS.2.2 d_Mo_bits_10
