set_option maxHeartbeats 4000000 in
set_option maxRecDepth 100000 in
theorem c_Lo_div10 (l : Launch) (D : va_G) (cB cI cJ : ClassId) (t5 : Nat) (ad : Nat → Nat) (a : Nat) (ha : a < 2 ^ 64) : c_L l m_Lo_divideUnsigned (Cond.code m_Lo_divideUnsigned b_Lo_divideUnsigned 8 (some .long) :: gw) (rm_ 0 0) (eX t5 ad) D ecl (tyS cB cI cJ) [.long (lN a), .long (jI (10))] [] (fun r u => r = lN (a / 10) ∧ u = []) 0 0 := by
  intro sz0
  refine Met.ofW (cc := b_Lo_divideUnsigned) (maxL := 8) (ret := (some .long)) (by decide) rfl ?_
  intro p e s m args below meth c s₁ B hml hv
  obtain ⟨rfl, hsz, hP, hK, hD0, hE⟩ := hv
  have hx := B.exec
  have hb := B.bytes
  have hr := B.returns
  have hts := atoms_spec (ws := Cond.code m_Lo_divideUnsigned b_Lo_divideUnsigned 8 (some .long) :: gw) B.pre
  have hown : s.vm.findClass R_Lo = some m.cls := findClass_of_methodNamed B.named
  have hlocks := B.notSynchronized
  subst hsz
  have hD := hD0.self (sz := s.heap.size)
  generalize hAe : va_A [] s.heap.size = A at hD hE ⊢
  have hA : ∀ q : Nat, s.heap.size ≤ q → A q := fun q h => by rw [← hAe]; exact Or.inr h
  have hS : va_S A s.heap s.heap [] := va_S.rf
  have hl := lv_entry ([.long (lN a), .long (jI (10))]) (n := 8) (Nat.le_of_ble_eq_true rfl)
  rw [lg_entry_eq]
  generalize (lg_sl ([.long (lN a), .long (jI (10))]) ++ List.replicate (8 - (lg_sl ([.long (lN a), .long (jI (10))])).length) Slot.unset).toArray = ls at hl ⊢
  have hl : lv_has ls 8 [(0, .long (lN a)), (2, .long (jI (10)))] := hl
  obtain ⟨q2, hq2⟩ : ∃ q2 : Nat, q2 = a / 20 * 2 := ⟨_, rfl⟩
  obtain ⟨r2, hr2⟩ : ∃ r2 : Nat, r2 = a % 20 := ⟨_, rfl⟩
  refine lv_lload_n hx hb d_Lo_divideUnsigned_0 rfl (lv_at hl 1 rfl) ?_
  refine lv_lconst (v := jI 0) hx hb d_Lo_divideUnsigned_1 (by decide +kernel) ?_
  refine ed_lif_lt (tgt := 41) hx hb d_Lo_divideUnsigned_2 d_Lo_divideUnsigned_3 rfl (by omega) (by omega) (fun h_1 => ?_) (fun h_1 => ?_)
  · exact absurd h_1 (by omega)
  · skip
    refine ed_pc (pc' := 6) rfl ?_
    refine lv_lload_n hx hb d_Lo_divideUnsigned_6 rfl (lv_at hl 0 rfl) ?_
    refine lv_iconst (v := iI 1) hx hb d_Lo_divideUnsigned_7 rfl ?_
    refine lv_lushr (v := (jI (((a / 2 : Nat) : Int)))) hx hb d_Lo_divideUnsigned_8 ((wb_shr (k := 1) ha (by decide)).trans (jI_nat _).symm) ?_
    refine lv_lload_n hx hb d_Lo_divideUnsigned_9 rfl (lv_at hl 1 rfl) ?_
    refine ed_pc (pc' := 10) rfl ?_
    refine ed_ldiv hx hb d_Lo_divideUnsigned_10 (by omega) (by omega) (by omega) ?_
    refine ed_tj (y := ((a / 20 : Nat) : Int)) (by omega) ?_
    refine lv_iconst (v := iI 1) hx hb d_Lo_divideUnsigned_11 rfl ?_
    refine lv_lshl (v := (jI ((q2 : Int)))) hx hb d_Lo_divideUnsigned_12 (by rw [hq2]; exact (shl_l (a := a / 20) (k := 1) (by decide)).trans (by rw [Nat.pow_one])) ?_
    refine lv_lstore hx hb d_Lo_divideUnsigned_13 hl (by decide) rfl (fun ls hl => ?_)
    have hl : lv_has ls 8 [(4, .long (jI ((q2 : Int)))), (0, .long (lN a)), (2, .long (jI (10)))] := hl
    refine lv_lload_n hx hb d_Lo_divideUnsigned_15 rfl (lv_at hl 1 rfl) ?_
    refine lv_lload hx hb d_Lo_divideUnsigned_16 (lv_at hl 0 rfl) ?_
    refine lv_lload_n hx hb d_Lo_divideUnsigned_18 rfl (lv_at hl 2 rfl) ?_
    refine ed_lmul hx hb d_Lo_divideUnsigned_19 ?_
    refine ed_pc (pc' := 20) rfl ?_
    refine lv_lsub hx hb d_Lo_divideUnsigned_20 ?_
    refine ed_tl (y := (lN r2)) (by rw [← jI_nat, ← jI_nat, jI_sub]; congr 1; omega) ?_
    refine lv_lstore hx hb d_Lo_divideUnsigned_21 hl (by decide) rfl (fun ls hl => ?_)
    have hl : lv_has ls 8 [(6, .long (lN r2)), (4, .long (jI ((q2 : Int)))), (0, .long (lN a)), (2, .long (jI (10)))] := hl
    refine lv_lload hx hb d_Lo_divideUnsigned_23 (lv_at hl 1 rfl) ?_
    refine lv_lload hx hb d_Lo_divideUnsigned_25 (lv_at hl 0 rfl) ?_
    refine lv_lload hx hb d_Lo_divideUnsigned_27 (lv_at hl 0 rfl) ?_
    refine lv_lload_n hx hb d_Lo_divideUnsigned_29 rfl (lv_at hl 3 rfl) ?_
    refine lv_lsub hx hb d_Lo_divideUnsigned_30 ?_
    refine lv_ldc2 (v := (-1)) hx hb hown (hts _ (List.mem_cons_of_mem _ tw_437)) d_Lo_divideUnsigned_31 ?_
    refine ed_tl (y := (jI (-1))) (by decide +kernel) ?_
    refine ed_pc (pc' := 34) rfl ?_
    refine lv_lxor hx hb d_Lo_divideUnsigned_34 ?_
    refine ed_tl (y := ((lN r2 - jI 10) ^^^ jI (-1))) (rfl) ?_
    refine lv_lor hx hb d_Lo_divideUnsigned_35 ?_
    refine ed_tl (y := (lN r2 ||| ((lN r2 - jI 10) ^^^ jI (-1)))) (rfl) ?_
    refine lv_bipush (v := iI 63) hx hb d_Lo_divideUnsigned_36 (by decide +kernel) ?_
    refine lv_lushr (v := (lN (r2 / 10))) hx hb d_Lo_divideUnsigned_38 (du_20 r2 (by omega)) ?_
    refine lv_ladd hx hb d_Lo_divideUnsigned_39 ?_
    exact W.lret (v := ((jI ((q2 : Int))) + (lN (r2 / 10)))) hx hb hr (fun t9 ht9 hW9 => ⟨⟨((jI ((q2 : Int))) + (lN (r2 / 10))), [], rfl, ⟨by rw [← jI_nat, ← jI_nat, jI_add]; congr 1; omega, rfl⟩, by rw [ht9]; exact hP, hD⟩, hS.F ht9⟩) hS.2.2 d_Lo_divideUnsigned_40
set_option maxHeartbeats 4000000 in
set_option maxRecDepth 100000 in
theorem c_Ro_trim (l : Launch) (D : va_G) (cB cI cJ : ClassId) (t5 : Nat) (ad : Nat → Nat) (r rd : Nat) (d : Nat → Int32) (pt : Int) (X : Nat) (h42 : dl X ≤ 4200) (hg : dg_ok d (dl X) X) : c_V l m_Ro_trim (Cond.code m_Ro_trim b_Ro_trim 2 none :: gw) (rm_ 1 70) (eX t5 ad) D ecl (tyS cB cI cJ) [.ref r] [(r, .inr (3, [.ref rd, .int (iI (((dl X : Nat) : Int))), .int (iI (pt))])), (rd, .inl (cB, 4200, .inl d))] (fun u => dg_ok d (dl (rz X)) (rz X) ∧ u = [(r, .inr (3, [.ref rd, .int (iI (((dl (rz X) : Nat) : Int))), .int (iI (if X = 0 then 0 else pt))])), (rd, .inl (cB, 4200, .inl d))]) 0 0 := by
  intro sz0
  refine Met.ofW (cc := b_Ro_trim) (maxL := 2) (ret := none) (by decide) rfl ?_
  intro p e s m args below meth c s₁ B hml hv
  obtain ⟨rfl, hsz, hP, hK, hD0, hE⟩ := hv
  have hx := B.exec
  have hb := B.bytes
  have hr := B.returns
  have hts := atoms_spec (ws := Cond.code m_Ro_trim b_Ro_trim 2 none :: gw) B.pre
  have hown : s.vm.findClass R_Ro = some m.cls := findClass_of_methodNamed B.named
  have hlocks := B.notSynchronized
  subst hsz
  have hD := hD0.self (sz := s.heap.size)
  generalize hAe : va_A [(r, .inr (3, [.ref rd, .int (iI (((dl X : Nat) : Int))), .int (iI (pt))])), (rd, .inl (cB, 4200, .inl d))] s.heap.size = A at hD hE ⊢
  have hA : ∀ q : Nat, s.heap.size ≤ q → A q := fun q h => by rw [← hAe]; exact Or.inr h
  have hS : va_S A s.heap s.heap [] := va_S.rf
  have hl := lv_entry ([.ref r]) (n := 2) (Nat.le_of_ble_eq_true rfl)
  rw [lg_entry_eq]
  generalize (lg_sl ([.ref r]) ++ List.replicate (2 - (lg_sl ([.ref r])).length) Slot.unset).toArray = ls at hl ⊢
  have hl : lv_has ls 2 [(0, .ref r)] := hl
  have L0 : ∀ (n9 : Nat) (Y : Nat) (zc : Int) (ls : Array Slot) (H : Heap) (locs : List Loc), dl Y = n9 → (zc = ((dl Y : Nat) : Int)) → (dl Y ≤ 4200) → (dg_ok d (dl Y) Y) → (rz Y = rz X) → ((Y = 0 ↔ X = 0)) → lv_has ls 2 [(0, .ref r)] → va_P D ecl [(r, .inr (3, [.ref rd, .int (iI (zc)), .int (iI (pt))])), (rd, .inl (cB, 4200, .inl d))] H → va_D A [(r, .inr (3, [.ref rd, .int (iI (zc)), .int (iI (pt))])), (rd, .inl (cB, 4200, .inl d))] → va_S A s.heap H locs → W p l e (headSpec (Cond.code m_Ro_trim b_Ro_trim 2 none :: gw) (rm_ 1 70)).room s m ([.ref r] : List Value).toArray below meth c H locs 0 0 (MQ below (va_Qv (fun u => dg_ok d (dl (rz X)) (rz X) ∧ u = [(r, .inr (3, [.ref rd, .int (iI (((dl (rz X) : Nat) : Int))), .int (iI (if X = 0 then 0 else pt))])), (rd, .inl (cB, 4200, .inl d))]) (c_B D ecl A) A) ([.ref r] : List Value).toArray s 0 0 A) (F0 m 0 ls []) := by
    intro n9
    induction n9 using Nat.strongRecOn with
    | ind n9 ih =>
    intro Y zc ls H locs hn9 hzc hY hYg hYr hY0 hl hP hD hS
    refine lv_aload_n hx hb d_Ro_trim_0 rfl (lv_at hl 0 rfl) ?_
    refine va_get (D := D) (ci := 3) (v := .int (iI (zc))) (C := R_Ro) (T := T_Ro) (N := 3) hx hb hts (fun w h => List.mem_cons_of_mem _ (in_Ro w h)) hown hK hP 0 rfl rfl 1 (by decide) (hts _ (List.mem_cons_of_mem _ tw_361)) (fun _ h9 => h9) rfl d_Ro_trim_1 ?_
    refine ed_if_le (tgt := 34) hx hb d_Ro_trim_4 rfl (by omega) (fun h_1 => ?_) (fun h_1 => ?_)
    · skip
      refine ed_pc (pc' := 34) rfl ?_
      have hYe : Y = rz X := by
        rw [← hYr]
        rcases Nat.eq_zero_or_pos Y with z | z
        · rw [z, rz_0]
        · exact (rz_n (by have := dl_pos z; omega)).symm
      have hzc2 : zc = ((dl (rz X) : Nat) : Int) := by rw [hzc, hYe]
      rw [hYe] at hYg hY0 hY
      refine lv_iconst (v := iI 0) hx hb d_Ro_trim_34 rfl ?_
      refine lv_istore_n hx hb d_Ro_trim_35 rfl hl (by decide) rfl (fun ls hl => ?_)
      have hl : lv_has ls 2 [(1, .int (iI (0))), (0, .ref r)] := hl
      refine lv_iload_n hx hb d_Ro_trim_36 rfl (lv_at hl 0 rfl) ?_
      refine lv_aload_n hx hb d_Ro_trim_37 rfl (lv_at hl 1 rfl) ?_
      refine ed_pc (pc' := 38) rfl ?_
      refine va_get (D := D) (ci := 3) (v := .int (iI (zc))) (C := R_Ro) (T := T_Ro) (N := 3) hx hb hts (fun w h => List.mem_cons_of_mem _ (in_Ro w h)) hown hK hP 0 rfl rfl 1 (by decide) (hts _ (List.mem_cons_of_mem _ tw_361)) (fun _ h9 => h9) rfl d_Ro_trim_38 ?_
      refine ed_icmp_ge (tgt := 59) hx hb d_Ro_trim_41 rfl (by omega) (by omega) (fun h_2 => ?_) (fun h_2 => ?_)
      · skip
        refine ed_pc (pc' := 59) rfl ?_
        refine lv_iload_n hx hb d_Ro_trim_59 rfl (lv_at hl 0 rfl) ?_
        refine ed_if_le (tgt := 102) hx hb d_Ro_trim_60 rfl (by omega) (fun h_3 => ?_) (fun h_3 => ?_)
        · skip
          refine ed_pc (pc' := 102) rfl ?_
          refine lv_aload_n hx hb d_Ro_trim_102 rfl (lv_at hl 1 rfl) ?_
          refine va_get (D := D) (ci := 3) (v := .int (iI (zc))) (C := R_Ro) (T := T_Ro) (N := 3) hx hb hts (fun w h => List.mem_cons_of_mem _ (in_Ro w h)) hown hK hP 0 rfl rfl 1 (by decide) (hts _ (List.mem_cons_of_mem _ tw_361)) (fun _ h9 => h9) rfl d_Ro_trim_103 ?_
          refine ed_if_ne (tgt := 114) hx hb d_Ro_trim_106 rfl (by omega) (fun h_4 => ?_) (fun h_4 => ?_)
          · skip
            refine ed_pc (pc' := 114) rfl ?_
            have hX0 : ¬ X = 0 := fun z => by rw [z, rz_0, dl_0] at hzc2; omega
            exact W.vret hx hb hr (fun t9 ht9 hW9 => ⟨⟨[(r, .inr (3, [.ref rd, .int (iI (zc)), .int (iI (pt))])), (rd, .inl (cB, 4200, .inl d))], rfl, ⟨hYg, by rw [hzc2, if_neg hX0]⟩, by rw [ht9]; exact hP, hD⟩, hS.F ht9⟩) hS.2.2 d_Ro_trim_114
          · skip
            refine ed_pc (pc' := 109) rfl ?_
            refine lv_aload_n hx hb d_Ro_trim_109 rfl (lv_at hl 1 rfl) ?_
            refine ed_pc (pc' := 110) rfl ?_
            refine lv_iconst (v := iI 0) hx hb d_Ro_trim_110 rfl ?_
            refine va_put (D := D) (ci := 3) (v := .int (iI (0))) (ty := .int) (C := R_Ro) (T := T_Ro) (N := 3) hx hb hts (fun w h => List.mem_cons_of_mem _ (in_Ro w h)) y_Ro t_Ro n_Ro hown hK hP hD hS 0 rfl rfl 2 (by decide) (hts _ (List.mem_cons_of_mem _ tw_363)) (fun _ h9 => h9) rfl (by decide +kernel) rfl rfl (Nat.le_of_ble_eq_true rfl) d_Ro_trim_111 (fun H locs hP hD hS => ?_)
            have hP : va_P D ecl [(r, .inr (3, [.ref rd, .int (iI (zc)), .int (iI (0))])), (rd, .inl (cB, 4200, .inl d))] H := hP
            have hD : va_D A [(r, .inr (3, [.ref rd, .int (iI (zc)), .int (iI (0))])), (rd, .inl (cB, 4200, .inl d))] := hD
            have hX0 : X = 0 := hY0.mp (dl_eq0 (by omega))
            exact W.vret hx hb hr (fun t9 ht9 hW9 => ⟨⟨[(r, .inr (3, [.ref rd, .int (iI (zc)), .int (iI (0))])), (rd, .inl (cB, 4200, .inl d))], rfl, ⟨hYg, by rw [hzc2, if_pos hX0]⟩, by rw [ht9]; exact hP, hD⟩, hS.F ht9⟩) hS.2.2 d_Ro_trim_114
        · exact absurd h_3 (by omega)
      · skip
        refine ed_pc (pc' := 44) rfl ?_
        have hXp : 0 < rz X := by rcases Nat.eq_zero_or_pos (rz X) with z | z; rw [z, dl_0] at hzc2; omega; exact z
        obtain ⟨t0, ht0⟩ : ∃ t0 : Nat, t0 = rz X / 10 ^ (dl (rz X) - 1 - 0) % 10 := ⟨_, rfl⟩
        have ht9 : t0 < 10 := by rw [ht0]; exact dg_lt _ _
        have ht1 : 0 < t0 := by
          have a1 := dl_le hXp; have a2 := dl_lt (rz X)
          have a3 := dl_pos hXp
          have a4 : 10 ^ dl (rz X) = 10 ^ (dl (rz X) - 1) * 10 := by rw [← Nat.pow_succ]; congr 1; omega
          rw [a4] at a2
          rw [ht0, Nat.sub_zero, Nat.mod_eq_of_lt ((Nat.div_lt_iff_lt_mul (p10_pos _)).mpr (by rw [Nat.mul_comm]; exact a2))]
          exact Nat.div_pos a1 (p10_pos _)
        refine lv_aload_n hx hb d_Ro_trim_44 rfl (lv_at hl 1 rfl) ?_
        refine va_get (D := D) (ci := 3) (v := .ref rd) (C := R_Ro) (T := T_Ro) (N := 3) hx hb hts (fun w h => List.mem_cons_of_mem _ (in_Ro w h)) hown hK hP 0 rfl rfl 0 (by decide) (hts _ (List.mem_cons_of_mem _ tw_359)) (fun _ h9 => h9) rfl d_Ro_trim_45 ?_
        refine lv_iload_n hx hb d_Ro_trim_48 rfl (lv_at hl 0 rfl) ?_
        refine ed_bald (y := (t0 : Int)) hx hb hK hP 1 0 rfl rfl (0) (by omega) (by omega) (by decide) (by rw [ht0]; exact hYg 0 (by omega)) d_Ro_trim_49 ?_
        refine ed_if_ne (tgt := 59) hx hb d_Ro_trim_50 rfl (by omega) (fun h_5 => ?_) (fun h_5 => ?_)
        · skip
          refine ed_pc (pc' := 59) rfl ?_
          refine lv_iload_n hx hb d_Ro_trim_59 rfl (lv_at hl 0 rfl) ?_
          refine ed_pc (pc' := 60) rfl ?_
          refine ed_if_le (tgt := 102) hx hb d_Ro_trim_60 rfl (by omega) (fun h_6 => ?_) (fun h_6 => ?_)
          · skip
            refine ed_pc (pc' := 102) rfl ?_
            refine lv_aload_n hx hb d_Ro_trim_102 rfl (lv_at hl 1 rfl) ?_
            refine va_get (D := D) (ci := 3) (v := .int (iI (zc))) (C := R_Ro) (T := T_Ro) (N := 3) hx hb hts (fun w h => List.mem_cons_of_mem _ (in_Ro w h)) hown hK hP 0 rfl rfl 1 (by decide) (hts _ (List.mem_cons_of_mem _ tw_361)) (fun _ h9 => h9) rfl d_Ro_trim_103 ?_
            refine ed_if_ne (tgt := 114) hx hb d_Ro_trim_106 rfl (by omega) (fun h_7 => ?_) (fun h_7 => ?_)
            · skip
              refine ed_pc (pc' := 114) rfl ?_
              have hX0 : ¬ X = 0 := fun z => by rw [z, rz_0, dl_0] at hzc2; omega
              exact W.vret hx hb hr (fun t9 ht9 hW9 => ⟨⟨[(r, .inr (3, [.ref rd, .int (iI (zc)), .int (iI (pt))])), (rd, .inl (cB, 4200, .inl d))], rfl, ⟨hYg, by rw [hzc2, if_neg hX0]⟩, by rw [ht9]; exact hP, hD⟩, hS.F ht9⟩) hS.2.2 d_Ro_trim_114
            · skip
              refine ed_pc (pc' := 109) rfl ?_
              refine lv_aload_n hx hb d_Ro_trim_109 rfl (lv_at hl 1 rfl) ?_
              refine lv_iconst (v := iI 0) hx hb d_Ro_trim_110 rfl ?_
              refine va_put (D := D) (ci := 3) (v := .int (iI (0))) (ty := .int) (C := R_Ro) (T := T_Ro) (N := 3) hx hb hts (fun w h => List.mem_cons_of_mem _ (in_Ro w h)) y_Ro t_Ro n_Ro hown hK hP hD hS 0 rfl rfl 2 (by decide) (hts _ (List.mem_cons_of_mem _ tw_363)) (fun _ h9 => h9) rfl (by decide +kernel) rfl rfl (Nat.le_of_ble_eq_true rfl) d_Ro_trim_111 (fun H locs hP hD hS => ?_)
              have hP : va_P D ecl [(r, .inr (3, [.ref rd, .int (iI (zc)), .int (iI (0))])), (rd, .inl (cB, 4200, .inl d))] H := hP
              have hD : va_D A [(r, .inr (3, [.ref rd, .int (iI (zc)), .int (iI (0))])), (rd, .inl (cB, 4200, .inl d))] := hD
              have hX0 : X = 0 := hY0.mp (dl_eq0 (by omega))
              exact W.vret hx hb hr (fun t9 ht9 hW9 => ⟨⟨[(r, .inr (3, [.ref rd, .int (iI (zc)), .int (iI (0))])), (rd, .inl (cB, 4200, .inl d))], rfl, ⟨hYg, by rw [hzc2, if_pos hX0]⟩, by rw [ht9]; exact hP, hD⟩, hS.F ht9⟩) hS.2.2 d_Ro_trim_114
          · exact absurd h_6 (by omega)
        · exact absurd h_5 (by omega)
    · skip
      refine ed_pc (pc' := 7) rfl ?_
      have hYp : 0 < Y := by rcases Nat.eq_zero_or_pos Y with z | z; rw [z, dl_0] at hzc; omega; exact z
      have hdY : dl (Y / 10) = dl Y - 1 := by have := dl_s hYp; omega
      have hsub : dl Y - 1 + 1 = dl Y := by have := dl_pos hYp; omega
      obtain ⟨d0, hd00⟩ : ∃ d0 : Nat, d0 = Y % 10 := ⟨_, rfl⟩
      refine lv_aload_n hx hb d_Ro_trim_7 rfl (lv_at hl 0 rfl) ?_
      refine va_get (D := D) (ci := 3) (v := .ref rd) (C := R_Ro) (T := T_Ro) (N := 3) hx hb hts (fun w h => List.mem_cons_of_mem _ (in_Ro w h)) hown hK hP 0 rfl rfl 0 (by decide) (hts _ (List.mem_cons_of_mem _ tw_359)) (fun _ h9 => h9) rfl d_Ro_trim_8 ?_
      refine lv_aload_n hx hb d_Ro_trim_11 rfl (lv_at hl 0 rfl) ?_
      refine va_get (D := D) (ci := 3) (v := .int (iI (zc))) (C := R_Ro) (T := T_Ro) (N := 3) hx hb hts (fun w h => List.mem_cons_of_mem _ (in_Ro w h)) hown hK hP 0 rfl rfl 1 (by decide) (hts _ (List.mem_cons_of_mem _ tw_361)) (fun _ h9 => h9) rfl d_Ro_trim_12 ?_
      refine ed_pc (pc' := 15) rfl ?_
      refine lv_iconst (v := iI 1) hx hb d_Ro_trim_15 rfl ?_
      refine ed_isub hx hb d_Ro_trim_16 ?_
      refine ed_bald (y := (d0 : Int)) hx hb hK hP 1 0 rfl rfl (dl Y - 1) (by omega) (by omega) (by decide) (by rw [hd00, hYg (dl Y - 1) (by omega), show dl Y - 1 - (dl Y - 1) = 0 by omega, Nat.pow_zero, Nat.div_one]) d_Ro_trim_17 ?_
      refine ed_if_ne (tgt := 34) hx hb d_Ro_trim_18 rfl (by omega) (fun h_8 => ?_) (fun h_8 => ?_)
      · skip
        refine ed_pc (pc' := 34) rfl ?_
        have hYe : Y = rz X := by
          rw [← hYr]
          rcases Nat.eq_zero_or_pos Y with z | z
          · rw [z, rz_0]
          · exact (rz_n (by have := dl_pos z; omega)).symm
        have hzc2 : zc = ((dl (rz X) : Nat) : Int) := by rw [hzc, hYe]
        rw [hYe] at hYg hY0 hY
        refine lv_iconst (v := iI 0) hx hb d_Ro_trim_34 rfl ?_
        refine lv_istore_n hx hb d_Ro_trim_35 rfl hl (by decide) rfl (fun ls hl => ?_)
        have hl : lv_has ls 2 [(1, .int (iI (0))), (0, .ref r)] := hl
        refine lv_iload_n hx hb d_Ro_trim_36 rfl (lv_at hl 0 rfl) ?_
        refine lv_aload_n hx hb d_Ro_trim_37 rfl (lv_at hl 1 rfl) ?_
        refine ed_pc (pc' := 38) rfl ?_
        refine va_get (D := D) (ci := 3) (v := .int (iI (zc))) (C := R_Ro) (T := T_Ro) (N := 3) hx hb hts (fun w h => List.mem_cons_of_mem _ (in_Ro w h)) hown hK hP 0 rfl rfl 1 (by decide) (hts _ (List.mem_cons_of_mem _ tw_361)) (fun _ h9 => h9) rfl d_Ro_trim_38 ?_
        refine ed_icmp_ge (tgt := 59) hx hb d_Ro_trim_41 rfl (by omega) (by omega) (fun h_9 => ?_) (fun h_9 => ?_)
        · skip
          refine ed_pc (pc' := 59) rfl ?_
          refine lv_iload_n hx hb d_Ro_trim_59 rfl (lv_at hl 0 rfl) ?_
          refine ed_if_le (tgt := 102) hx hb d_Ro_trim_60 rfl (by omega) (fun h_10 => ?_) (fun h_10 => ?_)
          · skip
            refine ed_pc (pc' := 102) rfl ?_
            refine lv_aload_n hx hb d_Ro_trim_102 rfl (lv_at hl 1 rfl) ?_
            refine va_get (D := D) (ci := 3) (v := .int (iI (zc))) (C := R_Ro) (T := T_Ro) (N := 3) hx hb hts (fun w h => List.mem_cons_of_mem _ (in_Ro w h)) hown hK hP 0 rfl rfl 1 (by decide) (hts _ (List.mem_cons_of_mem _ tw_361)) (fun _ h9 => h9) rfl d_Ro_trim_103 ?_
            refine ed_if_ne (tgt := 114) hx hb d_Ro_trim_106 rfl (by omega) (fun h_11 => ?_) (fun h_11 => ?_)
            · skip
              refine ed_pc (pc' := 114) rfl ?_
              have hX0 : ¬ X = 0 := fun z => by rw [z, rz_0, dl_0] at hzc2; omega
              exact W.vret hx hb hr (fun t9 ht9 hW9 => ⟨⟨[(r, .inr (3, [.ref rd, .int (iI (zc)), .int (iI (pt))])), (rd, .inl (cB, 4200, .inl d))], rfl, ⟨hYg, by rw [hzc2, if_neg hX0]⟩, by rw [ht9]; exact hP, hD⟩, hS.F ht9⟩) hS.2.2 d_Ro_trim_114
            · skip
              refine ed_pc (pc' := 109) rfl ?_
              refine lv_aload_n hx hb d_Ro_trim_109 rfl (lv_at hl 1 rfl) ?_
              refine ed_pc (pc' := 110) rfl ?_
              refine lv_iconst (v := iI 0) hx hb d_Ro_trim_110 rfl ?_
              refine va_put (D := D) (ci := 3) (v := .int (iI (0))) (ty := .int) (C := R_Ro) (T := T_Ro) (N := 3) hx hb hts (fun w h => List.mem_cons_of_mem _ (in_Ro w h)) y_Ro t_Ro n_Ro hown hK hP hD hS 0 rfl rfl 2 (by decide) (hts _ (List.mem_cons_of_mem _ tw_363)) (fun _ h9 => h9) rfl (by decide +kernel) rfl rfl (Nat.le_of_ble_eq_true rfl) d_Ro_trim_111 (fun H locs hP hD hS => ?_)
              have hP : va_P D ecl [(r, .inr (3, [.ref rd, .int (iI (zc)), .int (iI (0))])), (rd, .inl (cB, 4200, .inl d))] H := hP
              have hD : va_D A [(r, .inr (3, [.ref rd, .int (iI (zc)), .int (iI (0))])), (rd, .inl (cB, 4200, .inl d))] := hD
              have hX0 : X = 0 := hY0.mp (dl_eq0 (by omega))
              exact W.vret hx hb hr (fun t9 ht9 hW9 => ⟨⟨[(r, .inr (3, [.ref rd, .int (iI (zc)), .int (iI (0))])), (rd, .inl (cB, 4200, .inl d))], rfl, ⟨hYg, by rw [hzc2, if_pos hX0]⟩, by rw [ht9]; exact hP, hD⟩, hS.F ht9⟩) hS.2.2 d_Ro_trim_114
          · exact absurd h_10 (by omega)
        · skip
          refine ed_pc (pc' := 44) rfl ?_
          have hXp : 0 < rz X := by rcases Nat.eq_zero_or_pos (rz X) with z | z; rw [z, dl_0] at hzc2; omega; exact z
          obtain ⟨t0, ht0⟩ : ∃ t0 : Nat, t0 = rz X / 10 ^ (dl (rz X) - 1 - 0) % 10 := ⟨_, rfl⟩
          have ht9 : t0 < 10 := by rw [ht0]; exact dg_lt _ _
          have ht1 : 0 < t0 := by
            have a1 := dl_le hXp; have a2 := dl_lt (rz X)
            have a3 := dl_pos hXp
            have a4 : 10 ^ dl (rz X) = 10 ^ (dl (rz X) - 1) * 10 := by rw [← Nat.pow_succ]; congr 1; omega
            rw [a4] at a2
            rw [ht0, Nat.sub_zero, Nat.mod_eq_of_lt ((Nat.div_lt_iff_lt_mul (p10_pos _)).mpr (by rw [Nat.mul_comm]; exact a2))]
            exact Nat.div_pos a1 (p10_pos _)
          refine lv_aload_n hx hb d_Ro_trim_44 rfl (lv_at hl 1 rfl) ?_
          refine va_get (D := D) (ci := 3) (v := .ref rd) (C := R_Ro) (T := T_Ro) (N := 3) hx hb hts (fun w h => List.mem_cons_of_mem _ (in_Ro w h)) hown hK hP 0 rfl rfl 0 (by decide) (hts _ (List.mem_cons_of_mem _ tw_359)) (fun _ h9 => h9) rfl d_Ro_trim_45 ?_
          refine lv_iload_n hx hb d_Ro_trim_48 rfl (lv_at hl 0 rfl) ?_
          refine ed_bald (y := (t0 : Int)) hx hb hK hP 1 0 rfl rfl (0) (by omega) (by omega) (by decide) (by rw [ht0]; exact hYg 0 (by omega)) d_Ro_trim_49 ?_
          refine ed_if_ne (tgt := 59) hx hb d_Ro_trim_50 rfl (by omega) (fun h_12 => ?_) (fun h_12 => ?_)
          · skip
            refine ed_pc (pc' := 59) rfl ?_
            refine lv_iload_n hx hb d_Ro_trim_59 rfl (lv_at hl 0 rfl) ?_
            refine ed_pc (pc' := 60) rfl ?_
            refine ed_if_le (tgt := 102) hx hb d_Ro_trim_60 rfl (by omega) (fun h_13 => ?_) (fun h_13 => ?_)
            · skip
              refine ed_pc (pc' := 102) rfl ?_
              refine lv_aload_n hx hb d_Ro_trim_102 rfl (lv_at hl 1 rfl) ?_
              refine va_get (D := D) (ci := 3) (v := .int (iI (zc))) (C := R_Ro) (T := T_Ro) (N := 3) hx hb hts (fun w h => List.mem_cons_of_mem _ (in_Ro w h)) hown hK hP 0 rfl rfl 1 (by decide) (hts _ (List.mem_cons_of_mem _ tw_361)) (fun _ h9 => h9) rfl d_Ro_trim_103 ?_
              refine ed_if_ne (tgt := 114) hx hb d_Ro_trim_106 rfl (by omega) (fun h_14 => ?_) (fun h_14 => ?_)
              · skip
                refine ed_pc (pc' := 114) rfl ?_
                have hX0 : ¬ X = 0 := fun z => by rw [z, rz_0, dl_0] at hzc2; omega
                exact W.vret hx hb hr (fun t9 ht9 hW9 => ⟨⟨[(r, .inr (3, [.ref rd, .int (iI (zc)), .int (iI (pt))])), (rd, .inl (cB, 4200, .inl d))], rfl, ⟨hYg, by rw [hzc2, if_neg hX0]⟩, by rw [ht9]; exact hP, hD⟩, hS.F ht9⟩) hS.2.2 d_Ro_trim_114
              · skip
                refine ed_pc (pc' := 109) rfl ?_
                refine lv_aload_n hx hb d_Ro_trim_109 rfl (lv_at hl 1 rfl) ?_
                refine lv_iconst (v := iI 0) hx hb d_Ro_trim_110 rfl ?_
                refine va_put (D := D) (ci := 3) (v := .int (iI (0))) (ty := .int) (C := R_Ro) (T := T_Ro) (N := 3) hx hb hts (fun w h => List.mem_cons_of_mem _ (in_Ro w h)) y_Ro t_Ro n_Ro hown hK hP hD hS 0 rfl rfl 2 (by decide) (hts _ (List.mem_cons_of_mem _ tw_363)) (fun _ h9 => h9) rfl (by decide +kernel) rfl rfl (Nat.le_of_ble_eq_true rfl) d_Ro_trim_111 (fun H locs hP hD hS => ?_)
                have hP : va_P D ecl [(r, .inr (3, [.ref rd, .int (iI (zc)), .int (iI (0))])), (rd, .inl (cB, 4200, .inl d))] H := hP
                have hD : va_D A [(r, .inr (3, [.ref rd, .int (iI (zc)), .int (iI (0))])), (rd, .inl (cB, 4200, .inl d))] := hD
                have hX0 : X = 0 := hY0.mp (dl_eq0 (by omega))
                exact W.vret hx hb hr (fun t9 ht9 hW9 => ⟨⟨[(r, .inr (3, [.ref rd, .int (iI (zc)), .int (iI (0))])), (rd, .inl (cB, 4200, .inl d))], rfl, ⟨hYg, by rw [hzc2, if_pos hX0]⟩, by rw [ht9]; exact hP, hD⟩, hS.F ht9⟩) hS.2.2 d_Ro_trim_114
            · exact absurd h_13 (by omega)
          · exact absurd h_12 (by omega)
      · skip
        refine ed_pc (pc' := 21) rfl ?_
        have hd0 : Y % 10 = 0 := by omega
        refine lv_aload_n hx hb d_Ro_trim_21 rfl (lv_at hl 0 rfl) ?_
        refine lv_dup hx hb d_Ro_trim_22 rfl ?_
        refine va_get (D := D) (ci := 3) (v := .int (iI (zc))) (C := R_Ro) (T := T_Ro) (N := 3) hx hb hts (fun w h => List.mem_cons_of_mem _ (in_Ro w h)) hown hK hP 0 rfl rfl 1 (by decide) (hts _ (List.mem_cons_of_mem _ tw_361)) (fun _ h9 => h9) rfl d_Ro_trim_23 ?_
        refine lv_iconst (v := iI 1) hx hb d_Ro_trim_26 rfl ?_
        refine ed_pc (pc' := 27) rfl ?_
        refine ed_isub hx hb d_Ro_trim_27 ?_
        refine va_put (D := D) (ci := 3) (v := .int (iI ((zc) - (1)))) (ty := .int) (C := R_Ro) (T := T_Ro) (N := 3) hx hb hts (fun w h => List.mem_cons_of_mem _ (in_Ro w h)) y_Ro t_Ro n_Ro hown hK hP hD hS 0 rfl rfl 1 (by decide) (hts _ (List.mem_cons_of_mem _ tw_361)) (fun _ h9 => h9) rfl (by decide +kernel) rfl rfl (Nat.le_of_ble_eq_true rfl) d_Ro_trim_28 (fun H locs hP hD hS => ?_)
        have hP : va_P D ecl [(r, .inr (3, [.ref rd, .int (iI ((zc) - (1))), .int (iI (pt))])), (rd, .inl (cB, 4200, .inl d))] H := hP
        have hD : va_D A [(r, .inr (3, [.ref rd, .int (iI ((zc) - (1))), .int (iI (pt))])), (rd, .inl (cB, 4200, .inl d))] := hD
        refine lv_goto (tgt := 0) hx hb d_Ro_trim_31 rfl ?_
        have hl := lv_sub hl [0] rfl
        exact ih _ (by omega) (Y / 10) _ ls H locs rfl (by omega) (by omega) (by rw [hdY]; exact dg_drop (by rw [hsub]; exact hYg)) (by rw [← hYr, ← rz_y hYp hd0]) (by omega) hl hP hD hS
  have hl := lv_sub hl [0] rfl
  exact L0 _ (X) _ ls s.heap [] rfl (rfl) (h42) (hg) (rfl) (Iff.rfl) hl hP hD hS
