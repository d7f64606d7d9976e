set_option maxHeartbeats 4000000 in
set_option maxRecDepth 100000 in
theorem c_Ed_firstDigits (l : Launch) (D : va_G) (cB cI cJ : ClassId) (t5 : Nat) (ad : Nat → Nat) (x dg q : Nat) (g : Nat → Int32) (pt zl : Int) (X n : Nat) (hnm : nm_ok g X) (hn : n ≤ dl X) (h18 : n ≤ 18) : c_L l m_Ed_firstDigits (Cond.code m_Ed_firstDigits b_Ed_firstDigits 5 (some .long) :: gw) (rm_ 0 0) (eX t5 ad) D ecl (tyS cB cI cJ) [.ref x, .int (iI ((n : Int)))] [(x, .inr (1, [.ref dg, .int (iI (((dl X : Nat) : Int))), .int (iI (pt)), .int (iI (zl)), .ref q])), (dg, .inl (cB, 1200, .inl g))] (fun r u => r = jI ((X / 10 ^ (dl X - n) : Nat) : Int) ∧ u = [(x, .inr (1, [.ref dg, .int (iI (((dl X : Nat) : Int))), .int (iI (pt)), .int (iI (zl)), .ref q])), (dg, .inl (cB, 1200, .inl g))]) 0 0 := by
  intro sz0
  refine Met.ofW (cc := b_Ed_firstDigits) (maxL := 5) (ret := (some .long)) (by decide) rfl ?_
  intro p e s m args below meth c s₁ B hml hv
  obtain ⟨rfl, hsz, hP, hK, hD0, hE⟩ := hv
  have hx := B.exec
  have hb := B.bytes
  have hr := B.returns
  have hts := atoms_spec (ws := Cond.code m_Ed_firstDigits b_Ed_firstDigits 5 (some .long) :: gw) B.pre
  have hown : s.vm.findClass R_Ed = some m.cls := findClass_of_methodNamed B.named
  have hlocks := B.notSynchronized
  subst hsz
  have hD := hD0.self (sz := s.heap.size)
  generalize hAe : va_A [(x, .inr (1, [.ref dg, .int (iI (((dl X : Nat) : Int))), .int (iI (pt)), .int (iI (zl)), .ref q])), (dg, .inl (cB, 1200, .inl g))] s.heap.size = A at hD hE ⊢
  have hA : ∀ q : Nat, s.heap.size ≤ q → A q := fun q h => by rw [← hAe]; exact Or.inr h
  have hS : va_S A s.heap s.heap [] := va_S.rf
  have hl := lv_entry ([.ref x, .int (iI ((n : Int)))]) (n := 5) (Nat.le_of_ble_eq_true rfl)
  rw [lg_entry_eq]
  generalize (lg_sl ([.ref x, .int (iI ((n : Int)))]) ++ List.replicate (5 - (lg_sl ([.ref x, .int (iI ((n : Int)))])).length) Slot.unset).toArray = ls at hl ⊢
  have hl : lv_has ls 5 [(0, .ref x), (1, .int (iI ((n : Int))))] := hl
  have hX12 := hnm.1
  have L5 : ∀ (n9 : Nat) (i : Nat) (y : Nat) (zi : Int) (zy : Int) (ls : Array Slot) (H : Heap) (locs : List Loc), n - i = n9 → (zi = (i : Int)) → (zy = (y : Int)) → (y = X / 10 ^ (dl X - i)) → (i ≤ n) → lv_has ls 5 [(0, .ref x), (1, .int (iI ((n : Int)))), (2, .long (jI (zy))), (4, .int (iI (zi)))] → va_P D ecl [(x, .inr (1, [.ref dg, .int (iI (((dl X : Nat) : Int))), .int (iI (pt)), .int (iI (zl)), .ref q])), (dg, .inl (cB, 1200, .inl g))] H → va_D A [(x, .inr (1, [.ref dg, .int (iI (((dl X : Nat) : Int))), .int (iI (pt)), .int (iI (zl)), .ref q])), (dg, .inl (cB, 1200, .inl g))] → va_S A s.heap H locs → W p l e (headSpec (Cond.code m_Ed_firstDigits b_Ed_firstDigits 5 (some .long) :: gw) (rm_ 0 0)).room s m ([.ref x, .int (iI ((n : Int)))] : List Value).toArray below meth c H locs 0 0 (MQ below (va_Ql (fun r u => r = jI ((X / 10 ^ (dl X - n) : Nat) : Int) ∧ u = [(x, .inr (1, [.ref dg, .int (iI (((dl X : Nat) : Int))), .int (iI (pt)), .int (iI (zl)), .ref q])), (dg, .inl (cB, 1200, .inl g))]) (c_B D ecl A) A) ([.ref x, .int (iI ((n : Int)))] : List Value).toArray s 0 0 A) (F0 m 5 ls []) := by
    intro n9
    induction n9 using Nat.strongRecOn with
    | ind n9 ih =>
    intro i y zi zy ls H locs hn9 hi hzy hy hin hl hP hD hS
    refine lv_iload hx hb d_Ed_firstDigits_5 (lv_at hl 3 rfl) ?_
    refine lv_iload_n hx hb d_Ed_firstDigits_7 rfl (lv_at hl 1 rfl) ?_
    refine ed_icmp_ge (tgt := 41) hx hb d_Ed_firstDigits_8 rfl (by omega) (by omega) (fun h_1 => ?_) (fun h_1 => ?_)
    · skip
      refine ed_pc (pc' := 41) rfl ?_
      refine lv_lload_n hx hb d_Ed_firstDigits_41 rfl (lv_at hl 2 rfl) ?_
      have hie : i = n := by omega
      refine ed_tj (y := ((X / 10 ^ (dl X - n) : Nat) : Int)) (by rw [hzy, hy, hie]) ?_
      exact W.lret (v := (jI (((X / 10 ^ (dl X - n) : Nat) : Int)))) hx hb hr (fun t9 ht9 hW9 => ⟨⟨(jI (((X / 10 ^ (dl X - n) : Nat) : Int))), [(x, .inr (1, [.ref dg, .int (iI (((dl X : Nat) : Int))), .int (iI (pt)), .int (iI (zl)), .ref q])), (dg, .inl (cB, 1200, .inl g))], rfl, ⟨rfl, rfl⟩, by rw [ht9]; exact hP, hD⟩, hS.F ht9⟩) hS.2.2 d_Ed_firstDigits_42
    · skip
      refine ed_pc (pc' := 11) rfl ?_
      refine lv_iload hx hb d_Ed_firstDigits_11 (lv_at hl 3 rfl) ?_
      refine lv_aload_n hx hb d_Ed_firstDigits_13 rfl (lv_at hl 0 rfl) ?_
      refine va_get (D := D) (ci := 1) (v := .int (iI (((dl X : Nat) : Int)))) (C := R_Ed) (T := T_Ed) (N := 5) hx hb hts (fun w h => List.mem_cons_of_mem _ (in_Ed w h)) hown hK hP 0 rfl rfl 1 (by decide) (hts _ (List.mem_cons_of_mem _ tw_41)) (fun _ h9 => h9) rfl d_Ed_firstDigits_14 ?_
      refine ed_icmp_ge (tgt := 41) hx hb d_Ed_firstDigits_17 rfl (by omega) (by omega) (fun h_2 => ?_) (fun h_2 => ?_)
      · exact absurd h_2 (by omega)
      · skip
        refine ed_pc (pc' := 20) rfl ?_
        have hyb := nb_18 (X := X) (n := i) (by omega) (by omega)
        rw [← hy] at hyb
        obtain ⟨d, hd0⟩ : ∃ d : Nat, d = X / 10 ^ (dl X - 1 - i) % 10 := ⟨_, rfl⟩
        have hd9 : d < 10 := by rw [hd0]; exact dg_lt _ _
        refine ed_pc (pc' := 20) rfl ?_
        refine lv_lload_n hx hb d_Ed_firstDigits_20 rfl (lv_at hl 2 rfl) ?_
        refine lv_ldc2 (v := 10) hx hb hown (hts _ (List.mem_cons_of_mem _ tw_263)) d_Ed_firstDigits_21 ?_
        refine ed_tl (y := (jI (10))) (by decide +kernel) ?_
        refine ed_lmul hx hb d_Ed_firstDigits_24 ?_
        refine lv_aload_n hx hb d_Ed_firstDigits_25 rfl (lv_at hl 0 rfl) ?_
        refine va_get (D := D) (ci := 1) (v := .ref dg) (C := R_Ed) (T := T_Ed) (N := 5) hx hb hts (fun w h => List.mem_cons_of_mem _ (in_Ed w h)) hown hK hP 0 rfl rfl 0 (by decide) (hts _ (List.mem_cons_of_mem _ tw_40)) (fun _ h9 => h9) rfl d_Ed_firstDigits_26 ?_
        refine lv_iload hx hb d_Ed_firstDigits_29 (lv_at hl 3 rfl) ?_
        refine ed_bald (y := (d : Int)) hx hb hK hP 1 0 rfl rfl (i) (by omega) (by omega) (by decide) (by rw [hd0]; exact hnm.2.2 i (by omega)) d_Ed_firstDigits_31 ?_
        refine ed_i2l hx hb d_Ed_firstDigits_32 (by omega) ?_
        refine ed_pc (pc' := 33) rfl ?_
        refine ed_ladd hx hb d_Ed_firstDigits_33 ?_
        refine lv_lstore_n hx hb d_Ed_firstDigits_34 rfl hl (by decide) rfl (fun ls hl => ?_)
        have hl : lv_has ls 5 [(2, .long (jI (((zy) * (10)) + ((d : Int))))), (0, .ref x), (1, .int (iI ((n : Int)))), (4, .int (iI (zi)))] := hl
        refine lv_iinc (k := 3) (v := iI (zi + 1)) hx hb d_Ed_firstDigits_35 hl rfl (iI_add _ _) (by decide) rfl (fun ls hl => ?_)
        have hl : lv_has ls 5 [(4, .int (iI (zi + 1))), (2, .long (jI (((zy) * (10)) + ((d : Int))))), (0, .ref x), (1, .int (iI ((n : Int))))] := hl
        refine lv_goto (tgt := 5) hx hb d_Ed_firstDigits_38 rfl ?_
        have hl := lv_sub hl [2, 3, 1, 0] rfl
        exact ih _ (by omega) (i + 1) (y * 10 + d) _ _ ls H locs rfl (by omega) (by omega) (by rw [hy, hd0]; exact (dg_first (by omega)).symm) (by omega) hl hP hD hS
  refine lv_lconst (v := jI 0) hx hb d_Ed_firstDigits_0 (by decide +kernel) ?_
  refine lv_lstore_n hx hb d_Ed_firstDigits_1 rfl hl (by decide) rfl (fun ls hl => ?_)
  have hl : lv_has ls 5 [(2, .long (jI (0))), (0, .ref x), (1, .int (iI ((n : Int))))] := hl
  refine lv_iconst (v := iI 0) hx hb d_Ed_firstDigits_2 rfl ?_
  refine lv_istore hx hb d_Ed_firstDigits_3 hl (by decide) rfl (fun ls hl => ?_)
  have hl : lv_has ls 5 [(4, .int (iI (0))), (2, .long (jI (0))), (0, .ref x), (1, .int (iI ((n : Int))))] := hl
  have hl := lv_sub hl [2, 3, 1, 0] rfl
  exact L5 _ (0) (0) _ _ ls s.heap [] rfl (rfl) (rfl) (by rw [Nat.sub_zero, Nat.div_eq_of_lt (dl_lt X)]) (by omega) hl hP hD hS
set_option maxHeartbeats 4000000 in
set_option maxRecDepth 100000 in
theorem c_Ed_isNearerAbove (l : Launch) (D : va_G) (cB cI cJ : ClassId) (t5 : Nat) (ad : Nat → Nat) (x dg q : Nat) (g : Nat → Int32) (pt zl : Int) (X n bw : Nat) (hnm : nm_ok g X) (hn : n < dl X) (hbw : bw = X / 10 ^ (dl X - n)) (hb63 : bw < 9223372036854775808) : c_I l m_Ed_isNearerAbove (Cond.code m_Ed_isNearerAbove b_Ed_isNearerAbove 4 (some .boolean) :: gw) (rm_ 0 0) (eX t5 ad) D ecl (tyS cB cI cJ) [.ref x, .int (iI ((n : Int))), .long (jI ((bw : Int)))] [(x, .inr (1, [.ref dg, .int (iI (((dl X : Nat) : Int))), .int (iI (pt)), .int (iI (zl)), .ref q])), (dg, .inl (cB, 1200, .inl g))] (fun r u => ((r = iI 1 ∧ upN X n) ∨ (r = iI 0 ∧ ¬ upN X n)) ∧ u = [(x, .inr (1, [.ref dg, .int (iI (((dl X : Nat) : Int))), .int (iI (pt)), .int (iI (zl)), .ref q])), (dg, .inl (cB, 1200, .inl g))]) 0 0 := by
  intro sz0
  refine Met.ofW (cc := b_Ed_isNearerAbove) (maxL := 4) (ret := (some .boolean)) (by decide) rfl ?_
  intro p e s m args below meth c s₁ B hml hv
  obtain ⟨rfl, hsz, hP, hK, hD0, hE⟩ := hv
  have hx := B.exec
  have hb := B.bytes
  have hr := B.returns
  have hts := atoms_spec (ws := Cond.code m_Ed_isNearerAbove b_Ed_isNearerAbove 4 (some .boolean) :: gw) B.pre
  have hown : s.vm.findClass R_Ed = some m.cls := findClass_of_methodNamed B.named
  have hlocks := B.notSynchronized
  subst hsz
  have hD := hD0.self (sz := s.heap.size)
  generalize hAe : va_A [(x, .inr (1, [.ref dg, .int (iI (((dl X : Nat) : Int))), .int (iI (pt)), .int (iI (zl)), .ref q])), (dg, .inl (cB, 1200, .inl g))] s.heap.size = A at hD hE ⊢
  have hA : ∀ q : Nat, s.heap.size ≤ q → A q := fun q h => by rw [← hAe]; exact Or.inr h
  have hS : va_S A s.heap s.heap [] := va_S.rf
  have hl := lv_entry ([.ref x, .int (iI ((n : Int))), .long (jI ((bw : Int)))]) (n := 4) (Nat.le_of_ble_eq_true rfl)
  rw [lg_entry_eq]
  generalize (lg_sl ([.ref x, .int (iI ((n : Int))), .long (jI ((bw : Int)))]) ++ List.replicate (4 - (lg_sl ([.ref x, .int (iI ((n : Int))), .long (jI ((bw : Int)))])).length) Slot.unset).toArray = ls at hl ⊢
  have hl : lv_has ls 4 [(0, .ref x), (1, .int (iI ((n : Int)))), (2, .long (jI ((bw : Int))))] := hl
  have hX12 := hnm.1
  obtain ⟨d, hd0⟩ : ∃ d : Nat, d = X / 10 ^ (dl X - 1 - n) % 10 := ⟨_, rfl⟩
  have hd9 : d < 10 := by rw [hd0]; exact dg_lt _ _
  have hup : upN X n ↔ (5 < d ∨ (d = 5 ∧ (n + 1 < dl X ∨ bw % 2 = 1))) := by unfold upN; rw [← hd0, ← hbw]
  refine lv_iload_n hx hb d_Ed_isNearerAbove_0 rfl (lv_at hl 1 rfl) ?_
  refine lv_aload_n hx hb d_Ed_isNearerAbove_1 rfl (lv_at hl 0 rfl) ?_
  refine va_get (D := D) (ci := 1) (v := .int (iI (((dl X : Nat) : Int)))) (C := R_Ed) (T := T_Ed) (N := 5) hx hb hts (fun w h => List.mem_cons_of_mem _ (in_Ed w h)) hown hK hP 0 rfl rfl 1 (by decide) (hts _ (List.mem_cons_of_mem _ tw_41)) (fun _ h9 => h9) rfl d_Ed_isNearerAbove_2 ?_
  refine ed_icmp_lt (tgt := 10) hx hb d_Ed_isNearerAbove_5 rfl (by omega) (by omega) (fun h_1 => ?_) (fun h_1 => ?_)
  · skip
    refine ed_pc (pc' := 10) rfl ?_
    refine lv_aload_n hx hb d_Ed_isNearerAbove_10 rfl (lv_at hl 0 rfl) ?_
    refine va_get (D := D) (ci := 1) (v := .ref dg) (C := R_Ed) (T := T_Ed) (N := 5) hx hb hts (fun w h => List.mem_cons_of_mem _ (in_Ed w h)) hown hK hP 0 rfl rfl 0 (by decide) (hts _ (List.mem_cons_of_mem _ tw_40)) (fun _ h9 => h9) rfl d_Ed_isNearerAbove_11 ?_
    refine lv_iload_n hx hb d_Ed_isNearerAbove_14 rfl (lv_at hl 1 rfl) ?_
    refine ed_pc (pc' := 15) rfl ?_
    refine ed_bald (y := (d : Int)) hx hb hK hP 1 0 rfl rfl (n) (by omega) (by omega) (by decide) (by rw [hd0]; exact hnm.2.2 n hn) d_Ed_isNearerAbove_15 ?_
    refine lv_iconst (v := iI 5) hx hb d_Ed_isNearerAbove_16 rfl ?_
    refine ed_icmp_eq (tgt := 36) hx hb d_Ed_isNearerAbove_17 rfl (by omega) (by omega) (fun h_2 => ?_) (fun h_2 => ?_)
    · skip
      refine ed_pc (pc' := 36) rfl ?_
      refine lv_aload_n hx hb d_Ed_isNearerAbove_36 rfl (lv_at hl 0 rfl) ?_
      refine va_get (D := D) (ci := 1) (v := .int (iI (((dl X : Nat) : Int)))) (C := R_Ed) (T := T_Ed) (N := 5) hx hb hts (fun w h => List.mem_cons_of_mem _ (in_Ed w h)) hown hK hP 0 rfl rfl 1 (by decide) (hts _ (List.mem_cons_of_mem _ tw_41)) (fun _ h9 => h9) rfl d_Ed_isNearerAbove_37 ?_
      refine lv_iload_n hx hb d_Ed_isNearerAbove_40 rfl (lv_at hl 1 rfl) ?_
      refine lv_iconst (v := iI 1) hx hb d_Ed_isNearerAbove_41 rfl ?_
      refine ed_iadd hx hb d_Ed_isNearerAbove_42 ?_
      refine ed_pc (pc' := 43) rfl ?_
      refine ed_icmp_gt (tgt := 54) hx hb d_Ed_isNearerAbove_43 rfl (by omega) (by omega) (fun h_3 => ?_) (fun h_3 => ?_)
      · skip
        refine ed_pc (pc' := 54) rfl ?_
        refine lv_iconst (v := iI 1) hx hb d_Ed_isNearerAbove_54 rfl ?_
        refine lv_goto (tgt := 59) hx hb d_Ed_isNearerAbove_55 rfl ?_
        exact W.zret (v := (iI (1))) hx hb hr (by decide +kernel) (fun t9 ht9 hW9 => ⟨⟨(iI (1)), [(x, .inr (1, [.ref dg, .int (iI (((dl X : Nat) : Int))), .int (iI (pt)), .int (iI (zl)), .ref q])), (dg, .inl (cB, 1200, .inl g))], rfl, ⟨Or.inl ⟨rfl, hup.mpr (by omega)⟩, rfl⟩, by rw [ht9]; exact hP, hD⟩, hS.F ht9⟩) hS.2.2 d_Ed_isNearerAbove_59
      · skip
        refine ed_pc (pc' := 46) rfl ?_
        refine lv_lload_n hx hb d_Ed_isNearerAbove_46 rfl (lv_at hl 2 rfl) ?_
        refine lv_lconst (v := jI 1) hx hb d_Ed_isNearerAbove_47 (by decide +kernel) ?_
        refine lv_land hx hb d_Ed_isNearerAbove_48 ?_
        refine ed_tl (y := (jI (((bw % 2 : Nat) : Int)))) (and_1 (by omega)) ?_
        refine lv_lconst (v := jI 0) hx hb d_Ed_isNearerAbove_49 (by decide +kernel) ?_
        refine ed_lif_eq (tgt := 58) hx hb d_Ed_isNearerAbove_50 d_Ed_isNearerAbove_51 rfl (by omega) (by omega) (fun h_4 => ?_) (fun h_4 => ?_)
        · skip
          refine ed_pc (pc' := 58) rfl ?_
          refine lv_iconst (v := iI 0) hx hb d_Ed_isNearerAbove_58 rfl ?_
          exact W.zret (v := (iI (0))) hx hb hr (by decide +kernel) (fun t9 ht9 hW9 => ⟨⟨(iI (0)), [(x, .inr (1, [.ref dg, .int (iI (((dl X : Nat) : Int))), .int (iI (pt)), .int (iI (zl)), .ref q])), (dg, .inl (cB, 1200, .inl g))], rfl, ⟨Or.inr ⟨rfl, fun z => absurd (hup.mp z) (by omega)⟩, rfl⟩, by rw [ht9]; exact hP, hD⟩, hS.F ht9⟩) hS.2.2 d_Ed_isNearerAbove_59
        · skip
          refine ed_pc (pc' := 54) rfl ?_
          refine lv_iconst (v := iI 1) hx hb d_Ed_isNearerAbove_54 rfl ?_
          refine lv_goto (tgt := 59) hx hb d_Ed_isNearerAbove_55 rfl ?_
          exact W.zret (v := (iI (1))) hx hb hr (by decide +kernel) (fun t9 ht9 hW9 => ⟨⟨(iI (1)), [(x, .inr (1, [.ref dg, .int (iI (((dl X : Nat) : Int))), .int (iI (pt)), .int (iI (zl)), .ref q])), (dg, .inl (cB, 1200, .inl g))], rfl, ⟨Or.inl ⟨rfl, hup.mpr (by omega)⟩, rfl⟩, by rw [ht9]; exact hP, hD⟩, hS.F ht9⟩) hS.2.2 d_Ed_isNearerAbove_59
    · skip
      refine ed_pc (pc' := 20) rfl ?_
      refine lv_aload_n hx hb d_Ed_isNearerAbove_20 rfl (lv_at hl 0 rfl) ?_
      refine va_get (D := D) (ci := 1) (v := .ref dg) (C := R_Ed) (T := T_Ed) (N := 5) hx hb hts (fun w h => List.mem_cons_of_mem _ (in_Ed w h)) hown hK hP 0 rfl rfl 0 (by decide) (hts _ (List.mem_cons_of_mem _ tw_40)) (fun _ h9 => h9) rfl d_Ed_isNearerAbove_21 ?_
      refine lv_iload_n hx hb d_Ed_isNearerAbove_24 rfl (lv_at hl 1 rfl) ?_
      refine ed_bald (y := (d : Int)) hx hb hK hP 1 0 rfl rfl (n) (by omega) (by omega) (by decide) (by rw [hd0]; exact hnm.2.2 n hn) d_Ed_isNearerAbove_25 ?_
      refine lv_iconst (v := iI 5) hx hb d_Ed_isNearerAbove_26 rfl ?_
      refine ed_pc (pc' := 27) rfl ?_
      refine ed_icmp_le (tgt := 34) hx hb d_Ed_isNearerAbove_27 rfl (by omega) (by omega) (fun h_5 => ?_) (fun h_5 => ?_)
      · skip
        refine ed_pc (pc' := 34) rfl ?_
        refine lv_iconst (v := iI 0) hx hb d_Ed_isNearerAbove_34 rfl ?_
        exact W.zret (v := (iI (0))) hx hb hr (by decide +kernel) (fun t9 ht9 hW9 => ⟨⟨(iI (0)), [(x, .inr (1, [.ref dg, .int (iI (((dl X : Nat) : Int))), .int (iI (pt)), .int (iI (zl)), .ref q])), (dg, .inl (cB, 1200, .inl g))], rfl, ⟨Or.inr ⟨rfl, fun z => absurd (hup.mp z) (by omega)⟩, rfl⟩, by rw [ht9]; exact hP, hD⟩, hS.F ht9⟩) hS.2.2 d_Ed_isNearerAbove_35
      · skip
        refine ed_pc (pc' := 30) rfl ?_
        refine lv_iconst (v := iI 1) hx hb d_Ed_isNearerAbove_30 rfl ?_
        refine lv_goto (tgt := 35) hx hb d_Ed_isNearerAbove_31 rfl ?_
        exact W.zret (v := (iI (1))) hx hb hr (by decide +kernel) (fun t9 ht9 hW9 => ⟨⟨(iI (1)), [(x, .inr (1, [.ref dg, .int (iI (((dl X : Nat) : Int))), .int (iI (pt)), .int (iI (zl)), .ref q])), (dg, .inl (cB, 1200, .inl g))], rfl, ⟨Or.inl ⟨rfl, hup.mpr (by omega)⟩, rfl⟩, by rw [ht9]; exact hP, hD⟩, hS.F ht9⟩) hS.2.2 d_Ed_isNearerAbove_35
  · exact absurd h_1 (by omega)
set_option maxHeartbeats 4000000 in
set_option maxRecDepth 100000 in
theorem c_Ed_readsBack (l : Launch) (D : va_G) (cB cI cJ : ClassId) (t5 : Nat) (ad : Nat → Nat) (x dg q pa : Nat) (g f : Nat → Int32) (zs zc pt zl ex : Int) (v kf s0 : Nat) (hkf : kf < 2) (hv : v < 9223372036854775808) (hs0 : s0 < 9223372036854775808) (hex : -10000000 ≤ ex ∧ ex ≤ 10000000) : c_I l m_Ed_readsBack (Cond.code m_Ed_readsBack b_Ed_readsBack 7 (some .boolean) :: gw) (rm_ 3 84) (eX t5 ad) D ecl (tyS cB cI cJ) [.ref x, .long (jI ((v : Int))), .int (iI (ex)), .long (jI ((s0 : Int))), .ref (ad kf)] [(x, .inr (1, [.ref dg, .int (iI (zc)), .int (iI (pt)), .int (iI (zl)), .ref q])), (dg, .inl (cB, 1200, .inl g)), (q, .inr (0, [.ref pa, .int (iI (zs))])), (pa, .inl (cI, 306, .inl f))] (fun r u => ((r = iI 1 ∧ RB v ex kf s0) ∨ (r = iI 0 ∧ ¬ RB v ex kf s0)) ∧ ∃ (f' : Nat → Int32) (zs' : Int), u = [(x, .inr (1, [.ref dg, .int (iI (zc)), .int (iI (pt)), .int (iI (zl)), .ref q])), (dg, .inl (cB, 1200, .inl g)), (q, .inr (0, [.ref pa, .int (iI (zs'))])), (pa, .inl (cI, 306, .inl f'))]) 0 0 := by
  intro sz0
  refine Met.ofW (cc := b_Ed_readsBack) (maxL := 7) (ret := (some .boolean)) (by decide) rfl ?_
  intro p e s m args below meth c s₁ B hml hv
  obtain ⟨rfl, hsz, hP, hK, hD0, hE⟩ := hv
  have hx := B.exec
  have hb := B.bytes
  have hr := B.returns
  have hts := atoms_spec (ws := Cond.code m_Ed_readsBack b_Ed_readsBack 7 (some .boolean) :: gw) B.pre
  have hown : s.vm.findClass R_Ed = some m.cls := findClass_of_methodNamed B.named
  have hlocks := B.notSynchronized
  subst hsz
  have hD := hD0.self (sz := s.heap.size)
  generalize hAe : va_A [(x, .inr (1, [.ref dg, .int (iI (zc)), .int (iI (pt)), .int (iI (zl)), .ref q])), (dg, .inl (cB, 1200, .inl g)), (q, .inr (0, [.ref pa, .int (iI (zs))])), (pa, .inl (cI, 306, .inl f))] s.heap.size = A at hD hE ⊢
  have hA : ∀ q : Nat, s.heap.size ≤ q → A q := fun q h => by rw [← hAe]; exact Or.inr h
  have hS : va_S A s.heap s.heap [] := va_S.rf
  have hl := lv_entry ([.ref x, .long (jI ((v : Int))), .int (iI (ex)), .long (jI ((s0 : Int))), .ref (ad kf)]) (n := 7) (Nat.le_of_ble_eq_true rfl)
  rw [lg_entry_eq]
  generalize (lg_sl ([.ref x, .long (jI ((v : Int))), .int (iI (ex)), .long (jI ((s0 : Int))), .ref (ad kf)]) ++ List.replicate (7 - (lg_sl ([.ref x, .long (jI ((v : Int))), .int (iI (ex)), .long (jI ((s0 : Int))), .ref (ad kf)])).length) Slot.unset).toArray = ls at hl ⊢
  have hl : lv_has ls 7 [(0, .ref x), (1, .long (jI ((v : Int)))), (3, .int (iI (ex))), (4, .long (jI ((s0 : Int)))), (6, .ref (ad kf))] := hl
  have hfz := fz_all kf hkf
  have hv12 : dl v ≤ 1200 := Nat.le_trans (dl_bound (show v < 10 ^ 19 by omega)) (by decide)
  refine lv_aload_n hx hb d_Ed_readsBack_0 rfl (lv_at hl 0 rfl) ?_
  refine va_get (D := D) (ci := 1) (v := .ref q) (C := R_Ed) (T := T_Ed) (N := 5) hx hb hts (fun w h => List.mem_cons_of_mem _ (in_Ed w h)) hown hK hP 0 rfl rfl 4 (by decide) (hts _ (List.mem_cons_of_mem _ tw_44)) (fun _ h9 => h9) rfl d_Ed_readsBack_1 ?_
  refine lv_lload_n hx hb d_Ed_readsBack_4 rfl (lv_at hl 1 rfl) ?_
  refine ed_tl (y := (lN v)) (jI_nat v) ?_
  refine c_fv (wc := [(q, .inr (0, [.ref pa, .int (iI (zs))])), (pa, .inl (cI, 306, .inl f))]) (wr := [(x, .inr (1, [.ref dg, .int (iI (zc)), .int (iI (pt)), .int (iI (zl)), .ref q])), (dg, .inl (cB, 1200, .inl g))]) (va_runV (C := "ExactDigits$Natural") (As := [.long (lN v)]) (rest := []) ⟨hx, hb, hml, hown, hts⟩ (c_Na_setUnsigned l D cB cI cJ t5 ad q pa f zs v (by omega) s.heap.size) (cwV 1 hts (gV tw_60 tw_61 tw_62 tw_2 tw_63) rfl rfl rfl (by decide +kernel) ⟨Nat.le_of_ble_eq_true rfl, Nat.le_of_ble_eq_true rfl⟩) ⟨c_blind (eX_X t5 ad), va_recv (ci := 0) (q0 := 2) hK hP rfl rfl, fun U hU hW => c_pre (wc := [(q, .inr (0, [.ref pa, .int (iI (zs))])), (pa, .inl (cI, 306, .inl f))]) (eX_X t5 ad) hE hK hP hD hS hA [2, 3] rfl (by decide) U hU hW⟩ rfl rfl hl.1 rfl (lv_room (Nat.le_of_ble_eq_true rfl)) d_Ed_readsBack_5 ⟨Nat.le_of_ble_eq_true rfl, Nat.le_of_ble_eq_true rfl⟩) hP hD hS hA [2, 3] [0, 1] rfl rfl (by decide) (by decide) (fun u H locs hp hP hD hS => ?_)
  obtain ⟨f2, sz2, rfl, hok⟩ := hp
  have hP : va_P D ecl [(x, .inr (1, [.ref dg, .int (iI (zc)), .int (iI (pt)), .int (iI (zl)), .ref q])), (dg, .inl (cB, 1200, .inl g)), (q, .inr (0, [.ref pa, .int (iI ((sz2 : Int)))])), (pa, .inl (cI, 306, .inl f2))] H := hP
  have hD : va_D A [(x, .inr (1, [.ref dg, .int (iI (zc)), .int (iI (pt)), .int (iI (zl)), .ref q])), (dg, .inl (cB, 1200, .inl g)), (q, .inr (0, [.ref pa, .int (iI ((sz2 : Int)))])), (pa, .inl (cI, 306, .inl f2))] := hD
  refine lv_aload_n hx hb d_Ed_readsBack_8 rfl (lv_at hl 0 rfl) ?_
  refine lv_iload_n hx hb d_Ed_readsBack_9 rfl (lv_at hl 2 rfl) ?_
  refine lv_iconst (v := iI 0) hx hb d_Ed_readsBack_10 rfl ?_
  refine ed_pc (pc' := 11) rfl ?_
  refine lv_aload hx hb d_Ed_readsBack_11 (lv_at hl 4 rfl) ?_
  refine c_fl (wc := [(x, .inr (1, [.ref dg, .int (iI (zc)), .int (iI (pt)), .int (iI (zl)), .ref q])), (dg, .inl (cB, 1200, .inl g)), (q, .inr (0, [.ref pa, .int (iI ((sz2 : Int)))])), (pa, .inl (cI, 306, .inl f2))]) (wr := []) (va_runV (C := "ExactDigits") (As := [.int (iI (ex)), .int (iI (0)), .ref (ad kf)]) (rest := []) ⟨hx, hb, hml, hown, hts⟩ (c_Ed_nearestToScratch l D cB cI cJ t5 ad x dg q pa g f2 sz2 v kf zc pt zl ex 0 hkf hok hv12 hex (by omega) H.size) (cwV 3 hts (gV tw_110 tw_112 ts_2 tw_1 tw_113) rfl rfl rfl (by decide +kernel) ⟨Nat.le_of_ble_eq_true rfl, Nat.le_of_ble_eq_true rfl⟩) ⟨c_blind (eX_X t5 ad), va_recv (ci := 1) (q0 := 0) hK hP rfl rfl, fun U hU hW => c_pre (wc := [(x, .inr (1, [.ref dg, .int (iI (zc)), .int (iI (pt)), .int (iI (zl)), .ref q])), (dg, .inl (cB, 1200, .inl g)), (q, .inr (0, [.ref pa, .int (iI ((sz2 : Int)))])), (pa, .inl (cI, 306, .inl f2))]) (eX_X t5 ad) hE hK hP hD hS hA [0, 1, 2, 3] rfl (by decide) U hU hW⟩ rfl rfl hl.1 rfl (lv_room (Nat.le_of_ble_eq_true rfl)) d_Ed_readsBack_13 ⟨Nat.le_of_ble_eq_true rfl, Nat.le_of_ble_eq_true rfl⟩) hP hD hS hA [0, 1, 2, 3] [] rfl rfl (by decide) (by decide) (fun r u H locs hp hP hD hS => ?_)
  obtain ⟨⟨rn, rfl, hNR⟩, f3, zs3, rfl⟩ := hp
  have hP : va_P D ecl [(x, .inr (1, [.ref dg, .int (iI (zc)), .int (iI (pt)), .int (iI (zl)), .ref q])), (dg, .inl (cB, 1200, .inl g)), (q, .inr (0, [.ref pa, .int (iI (zs3))])), (pa, .inl (cI, 306, .inl f3))] H := hP
  have hD : va_D A [(x, .inr (1, [.ref dg, .int (iI (zc)), .int (iI (pt)), .int (iI (zl)), .ref q])), (dg, .inl (cB, 1200, .inl g)), (q, .inr (0, [.ref pa, .int (iI (zs3))])), (pa, .inl (cI, 306, .inl f3))] := hD
  have hNR := NR_c (b' := False) (iff_of_false (by decide) (fun z => z)) hNR
  have hrn : rn ≤ ifz kf := by obtain ⟨_, _, _, _, _, z⟩ := hNR; rw [z]; exact Nat.min_le_left _ _
  have hrb := RB_of (s := s0) hNR
  refine lv_lload hx hb d_Ed_readsBack_16 (lv_at hl 3 rfl) ?_
  refine ed_lif_ne (tgt := 26) hx hb d_Ed_readsBack_18 d_Ed_readsBack_19 rfl (by omega) (by omega) (fun h_1 => ?_) (fun h_1 => ?_)
  · skip
    refine ed_pc (pc' := 26) rfl ?_
    refine lv_iconst (v := iI 0) hx hb d_Ed_readsBack_26 rfl ?_
    exact W.zret (v := (iI (0))) hx hb hr (by decide +kernel) (fun t9 ht9 hW9 => ⟨⟨(iI (0)), [(x, .inr (1, [.ref dg, .int (iI (zc)), .int (iI (pt)), .int (iI (zl)), .ref q])), (dg, .inl (cB, 1200, .inl g)), (q, .inr (0, [.ref pa, .int (iI (zs3))])), (pa, .inl (cI, 306, .inl f3))], rfl, ⟨Or.inr ⟨rfl, fun z => absurd (hrb.mp z) (by omega)⟩, f3, zs3, rfl⟩, by rw [ht9]; exact hP, hD⟩, hS.F ht9⟩) hS.2.2 d_Ed_readsBack_27
  · skip
    refine ed_pc (pc' := 22) rfl ?_
    refine lv_iconst (v := iI 1) hx hb d_Ed_readsBack_22 rfl ?_
    refine lv_goto (tgt := 27) hx hb d_Ed_readsBack_23 rfl ?_
    exact W.zret (v := (iI (1))) hx hb hr (by decide +kernel) (fun t9 ht9 hW9 => ⟨⟨(iI (1)), [(x, .inr (1, [.ref dg, .int (iI (zc)), .int (iI (pt)), .int (iI (zl)), .ref q])), (dg, .inl (cB, 1200, .inl g)), (q, .inr (0, [.ref pa, .int (iI (zs3))])), (pa, .inl (cI, 306, .inl f3))], rfl, ⟨Or.inl ⟨rfl, hrb.mpr (by omega)⟩, f3, zs3, rfl⟩, by rw [ht9]; exact hP, hD⟩, hS.F ht9⟩) hS.2.2 d_Ed_readsBack_27
