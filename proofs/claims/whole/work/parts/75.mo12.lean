set_option maxHeartbeats 4000000 in
set_option maxRecDepth 100000 in
theorem c_Mo_isNumber (l : Launch) (D : va_G) (cB cI cJ : ClassId) (t5 : Nat) (ad : Nat → Nat) (mo nb un ov xx dc : Nat) (zl th pw zk zz : Int) (ma : Int64) (kf b : Nat) (hzz : iR zz) (hkf9 : kf = if zz = 0 then 0 else 1) (hb64 : b < 2 ^ 64) (y : Nat) (hyb : y = b % (mkz kf + 1)) (hy : y < ifz kf) : c_I l m_Mo_isNumber (Cond.code m_Mo_isNumber b_Mo_isNumber 8 (some .boolean) :: gw) (rm_ 1 21) (eX t5 ad) D ecl (tyS cB cI cJ) [.ref mo, .long (lN b), .int (iI (zz))] [(mo, .inr (4, [.ref nb, .ref un, .ref ov, .ref xx, .ref dc, .int (iI (zl)), .int (iI (th)), .long (ma), .int (iI (pw)), .int (iI (zk))]))] (fun r u => r = iI 1 ∧ ∃ zk' : Int, ((zk' = 1 ∧ (sgz kf y = 2 ^ fbz kf ∧ 0 < exE kf y)) ∨ (zk' = 0 ∧ ¬ (sgz kf y = 2 ^ fbz kf ∧ 0 < exE kf y))) ∧ u = [(mo, .inr (4, [.ref nb, .ref un, .ref ov, .ref xx, .ref dc, .int (iI (0)), .int (iI (0)), .long (lN (sgz kf y)), .int (iI (lez kf + ((exE kf y : Nat) : Int))), .int (iI (zk'))]))]) 0 0 := by
  intro sz0
  refine Met.ofW (cc := b_Mo_isNumber) (maxL := 8) (ret := (some .boolean)) (by decide) rfl ?_
  intro p e s m args below meth c s₁ B hml hv
  obtain ⟨rfl, hsz, hP, hK, hD0, hE⟩ := hv
  have hx := B.exec
  have hb := B.bytes
  have hr := B.returns
  have hts := atoms_spec (ws := Cond.code m_Mo_isNumber b_Mo_isNumber 8 (some .boolean) :: gw) B.pre
  have hown : s.vm.findClass R_Mo = some m.cls := findClass_of_methodNamed B.named
  have hlocks := B.notSynchronized
  subst hsz
  have hD := hD0.self (sz := s.heap.size)
  generalize hAe : va_A [(mo, .inr (4, [.ref nb, .ref un, .ref ov, .ref xx, .ref dc, .int (iI (zl)), .int (iI (th)), .long (ma), .int (iI (pw)), .int (iI (zk))]))] s.heap.size = A at hD hE ⊢
  have hA : ∀ q : Nat, s.heap.size ≤ q → A q := fun q h => by rw [← hAe]; exact Or.inr h
  have hS : va_S A s.heap s.heap [] := va_S.rf
  have hl := lv_entry ([.ref mo, .long (lN b), .int (iI (zz))]) (n := 8) (Nat.le_of_ble_eq_true rfl)
  rw [lg_entry_eq]
  generalize (lg_sl ([.ref mo, .long (lN b), .int (iI (zz))]) ++ List.replicate (8 - (lg_sl ([.ref mo, .long (lN b), .int (iI (zz))])).length) Slot.unset).toArray = ls at hl ⊢
  have hl : lv_has ls 8 [(0, .ref mo), (1, .long (lN b)), (3, .int (iI (zz)))] := hl
  refine lv_iload_n hx hb d_Mo_isNumber_0 rfl (lv_at hl 2 rfl) ?_
  refine ed_if_eq (tgt := 9) hx hb d_Mo_isNumber_1 rfl (by omega) (fun h_1 => ?_) (fun h_1 => ?_)
  · skip
    refine ed_pc (pc' := 9) rfl ?_
    have hk01 : kf = 0 := by rw [hkf9]; simp only [if_pos (show zz = 0 by omega)]
    have hfb : fbz kf = 52 := by rw [hk01]; rfl
    have hle : lez kf = -1074 := by rw [hk01]; rfl
    have hif : ifz kf = 9218868437227405312 := by rw [hk01]; rfl
    have hmk : mkz kf = 9223372036854775807 := by rw [hk01]; rfl
    obtain ⟨ee, hee⟩ : ∃ ee : Nat, ee = b / 4503599627370496 % 2048 := ⟨_, rfl⟩
    obtain ⟨mm, hmm⟩ : ∃ mm : Nat, mm = b % 4503599627370496 := ⟨_, rfl⟩
    rw [hmk] at hyb
    have hym : y = ee * 4503599627370496 + mm := by omega
    have hem : ee < 2047 := by rw [hif] at hy; omega
    refine lv_bipush (v := iI 52) hx hb d_Mo_isNumber_9 (by decide +kernel) ?_
    refine lv_istore hx hb d_Mo_isNumber_11 hl (by decide) rfl (fun ls hl => ?_)
    have hl : lv_has ls 8 [(4, .int (iI (52))), (0, .ref mo), (1, .long (lN b)), (3, .int (iI (zz)))] := hl
    refine lv_lload_n hx hb d_Mo_isNumber_13 rfl (lv_at hl 2 rfl) ?_
    refine lv_iload hx hb d_Mo_isNumber_14 (lv_at hl 0 rfl) ?_
    refine lv_lshr (v := (lN b >>> ((iI 52).toInt64 &&& 63))) hx hb d_Mo_isNumber_16 (rfl) ?_
    refine lv_l2i (v := (lN b >>> ((iI 52).toInt64 &&& 63)).toInt32) hx hb d_Mo_isNumber_17 rfl ?_
    refine ed_pc (pc' := 18) rfl ?_
    refine lv_iload_n hx hb d_Mo_isNumber_18 rfl (lv_at hl 3 rfl) ?_
    refine ed_if_eq (tgt := 28) hx hb d_Mo_isNumber_19 rfl (by omega) (fun h_2 => ?_) (fun h_2 => ?_)
    · skip
      refine ed_pc (pc' := 28) rfl ?_
      refine lv_sipush (v := iI 2047) hx hb d_Mo_isNumber_28 (by decide +kernel) ?_
      refine lv_iand hx hb d_Mo_isNumber_31 ?_
      refine ed_ti (y := (iI ((ee : Int)))) (by rw [hee, iI_nat]; exact is_e (k := 52) (n := 11) hb64 (by decide) (by decide) (by decide)) ?_
      refine lv_istore hx hb d_Mo_isNumber_32 hl (by decide) rfl (fun ls hl => ?_)
      have hl : lv_has ls 8 [(5, .int (iI ((ee : Int)))), (4, .int (iI (52))), (0, .ref mo), (1, .long (lN b)), (3, .int (iI (zz)))] := hl
      refine lv_lload_n hx hb d_Mo_isNumber_34 rfl (lv_at hl 3 rfl) ?_
      refine lv_lconst (v := jI 1) hx hb d_Mo_isNumber_35 (by decide +kernel) ?_
      refine lv_iload hx hb d_Mo_isNumber_36 (lv_at hl 1 rfl) ?_
      refine ed_pc (pc' := 38) rfl ?_
      refine lv_lshl (v := (jI (4503599627370496))) hx hb d_Mo_isNumber_38 (by decide +kernel) ?_
      refine lv_lconst (v := jI 1) hx hb d_Mo_isNumber_39 (by decide +kernel) ?_
      refine ed_lsub hx hb d_Mo_isNumber_40 ?_
      refine lv_land hx hb d_Mo_isNumber_41 ?_
      refine ed_tl (y := (jI ((mm : Int)))) (by rw [show jI (4503599627370496 - 1) = lN (2 ^ 52 - 1) by decide +kernel, wb_mask (k := 52) hb64 (by decide), hmm, jI_nat]) ?_
      refine lv_lstore hx hb d_Mo_isNumber_42 hl (by decide) rfl (fun ls hl => ?_)
      have hl : lv_has ls 8 [(6, .long (jI ((mm : Int)))), (5, .int (iI ((ee : Int)))), (4, .int (iI (52))), (0, .ref mo), (1, .long (lN b)), (3, .int (iI (zz)))] := hl
      refine lv_aload_n hx hb d_Mo_isNumber_44 rfl (lv_at hl 3 rfl) ?_
      refine lv_iload hx hb d_Mo_isNumber_45 (lv_at hl 1 rfl) ?_
      refine lv_iload_n hx hb d_Mo_isNumber_47 rfl (lv_at hl 5 rfl) ?_
      refine ed_pc (pc' := 48) rfl ?_
      refine ed_if_eq (tgt := 57) hx hb d_Mo_isNumber_48 rfl (by omega) (fun h_3 => ?_) (fun h_3 => ?_)
      · skip
        refine ed_pc (pc' := 57) rfl ?_
        refine lv_sipush (v := iI 2047) hx hb d_Mo_isNumber_57 (by decide +kernel) ?_
        refine ed_icmp_ne (tgt := 67) hx hb d_Mo_isNumber_60 rfl (by omega) (by omega) (fun h_4 => ?_) (fun h_4 => ?_)
        · skip
          refine ed_pc (pc' := 67) rfl ?_
          refine lv_iconst (v := iI 0) hx hb d_Mo_isNumber_67 rfl ?_
          refine va_put (D := D) (ci := 4) (v := .int (iI (0))) (ty := .int) (C := R_Mo) (T := T_Mo) (N := 10) hx hb hts (fun w h => List.mem_cons_of_mem _ (in_Mo w h)) y_Mo t_Mo n_Mo hown hK hP hD hS 0 rfl rfl 6 (by decide) (hts _ (List.mem_cons_of_mem _ tw_396)) (fun _ h9 => h9) rfl (by decide +kernel) rfl rfl (Nat.le_of_ble_eq_true rfl) d_Mo_isNumber_68 (fun H locs hP hD hS => ?_)
          have hP : va_P D ecl [(mo, .inr (4, [.ref nb, .ref un, .ref ov, .ref xx, .ref dc, .int (iI (zl)), .int (iI (0)), .long (ma), .int (iI (pw)), .int (iI (zk))]))] H := hP
          have hD : va_D A [(mo, .inr (4, [.ref nb, .ref un, .ref ov, .ref xx, .ref dc, .int (iI (zl)), .int (iI (0)), .long (ma), .int (iI (pw)), .int (iI (zk))]))] := hD
          refine lv_aload_n hx hb d_Mo_isNumber_71 rfl (lv_at hl 3 rfl) ?_
          refine va_get (D := D) (ci := 4) (v := .int (iI (0))) (C := R_Mo) (T := T_Mo) (N := 10) hx hb hts (fun w h => List.mem_cons_of_mem _ (in_Mo w h)) hown hK hP 0 rfl rfl 6 (by decide) (hts _ (List.mem_cons_of_mem _ tw_396)) (fun _ h9 => h9) rfl d_Mo_isNumber_72 ?_
          refine ed_if_le (tgt := 80) hx hb d_Mo_isNumber_75 rfl (by omega) (fun h_5 => ?_) (fun h_5 => ?_)
          · skip
            refine ed_pc (pc' := 80) rfl ?_
            refine ed_pc (pc' := 80) rfl ?_
            refine lv_aload_n hx hb d_Mo_isNumber_80 rfl (lv_at hl 3 rfl) ?_
            refine lv_iload hx hb d_Mo_isNumber_81 (lv_at hl 1 rfl) ?_
            refine ed_if_ne (tgt := 91) hx hb d_Mo_isNumber_83 rfl (by omega) (fun h_6 => ?_) (fun h_6 => ?_)
            · skip
              refine ed_pc (pc' := 91) rfl ?_
              have hsg : sgz kf y = mm + 4503599627370496 := by unfold sgz; rw [hfb, if_neg (by omega)]; omega
              refine lv_lload hx hb d_Mo_isNumber_91 (lv_at hl 0 rfl) ?_
              refine lv_lconst (v := jI 1) hx hb d_Mo_isNumber_93 (by decide +kernel) ?_
              refine lv_iload hx hb d_Mo_isNumber_94 (lv_at hl 2 rfl) ?_
              refine lv_lshl (v := (jI (4503599627370496))) hx hb d_Mo_isNumber_96 (by decide +kernel) ?_
              refine lv_lor hx hb d_Mo_isNumber_97 ?_
              refine ed_tl (y := (jI (((mm + 4503599627370496 : Nat) : Int)))) (or_p (k := 52) (by decide) (by omega)) ?_
              refine ed_tl (y := (lN (sgz kf y))) (by rw [hsg, jI_nat]) ?_
              refine ed_pc (pc' := 98) rfl ?_
              refine va_put (D := D) (ci := 4) (v := .long (lN (sgz kf y))) (ty := .long) (C := R_Mo) (T := T_Mo) (N := 10) hx hb hts (fun w h => List.mem_cons_of_mem _ (in_Mo w h)) y_Mo t_Mo n_Mo hown hK hP hD hS 0 rfl rfl 7 (by decide) (hts _ (List.mem_cons_of_mem _ tw_397)) (fun _ h9 => h9) rfl (by decide +kernel) rfl rfl (Nat.le_of_ble_eq_true rfl) d_Mo_isNumber_98 (fun H locs hP hD hS => ?_)
              have hP : va_P D ecl [(mo, .inr (4, [.ref nb, .ref un, .ref ov, .ref xx, .ref dc, .int (iI (zl)), .int (iI (0)), .long (lN (sgz kf y)), .int (iI (pw)), .int (iI (zk))]))] H := hP
              have hD : va_D A [(mo, .inr (4, [.ref nb, .ref un, .ref ov, .ref xx, .ref dc, .int (iI (zl)), .int (iI (0)), .long (lN (sgz kf y)), .int (iI (pw)), .int (iI (zk))]))] := hD
              refine lv_aload_n hx hb d_Mo_isNumber_101 rfl (lv_at hl 3 rfl) ?_
              refine lv_iload hx hb d_Mo_isNumber_102 (lv_at hl 1 rfl) ?_
              refine lv_iconst (v := iI 1) hx hb d_Mo_isNumber_104 rfl ?_
              refine ed_max hx hb (hml.trans hl.1.symm) hown (hts _ (List.mem_cons_of_mem _ tw_453)) (hts _ (List.mem_cons_of_mem _ tw_146)) (hts _ (List.mem_cons_of_mem _ tw_6)) (hts _ (List.mem_cons_of_mem _ tw_147)) (Nat.le_of_ble_eq_true rfl) (Nat.le_of_ble_eq_true rfl) (Nat.le_of_ble_eq_true rfl) (Nat.le_of_ble_eq_true rfl) (by omega) (by omega) d_Mo_isNumber_105 ?_
              refine lv_iload_n hx hb d_Mo_isNumber_108 rfl (lv_at hl 5 rfl) ?_
              refine ed_if_eq (tgt := 118) hx hb d_Mo_isNumber_109 rfl (by omega) (fun h_7 => ?_) (fun h_7 => ?_)
              · skip
                refine ed_pc (pc' := 118) rfl ?_
                refine lv_sipush (v := iI 1075) hx hb d_Mo_isNumber_118 (by decide +kernel) ?_
                refine ed_pc (pc' := 121) rfl ?_
                refine ed_isub hx hb d_Mo_isNumber_121 ?_
                refine ed_tz (y := lez kf + ((exE kf y : Nat) : Int)) (by unfold exE; rw [hle, hfb]; omega) ?_
                refine va_put (D := D) (ci := 4) (v := .int (iI (lez kf + ((exE kf y : Nat) : Int)))) (ty := .int) (C := R_Mo) (T := T_Mo) (N := 10) hx hb hts (fun w h => List.mem_cons_of_mem _ (in_Mo w h)) y_Mo t_Mo n_Mo hown hK hP hD hS 0 rfl rfl 8 (by decide) (hts _ (List.mem_cons_of_mem _ tw_398)) (fun _ h9 => h9) rfl (by decide +kernel) rfl rfl (Nat.le_of_ble_eq_true rfl) d_Mo_isNumber_122 (fun H locs hP hD hS => ?_)
                have hP : va_P D ecl [(mo, .inr (4, [.ref nb, .ref un, .ref ov, .ref xx, .ref dc, .int (iI (zl)), .int (iI (0)), .long (lN (sgz kf y)), .int (iI (lez kf + ((exE kf y : Nat) : Int))), .int (iI (zk))]))] H := hP
                have hD : va_D A [(mo, .inr (4, [.ref nb, .ref un, .ref ov, .ref xx, .ref dc, .int (iI (zl)), .int (iI (0)), .long (lN (sgz kf y)), .int (iI (lez kf + ((exE kf y : Nat) : Int))), .int (iI (zk))]))] := hD
                refine lv_aload_n hx hb d_Mo_isNumber_125 rfl (lv_at hl 3 rfl) ?_
                refine lv_lload hx hb d_Mo_isNumber_126 (lv_at hl 0 rfl) ?_
                refine lv_lconst (v := jI 0) hx hb d_Mo_isNumber_128 (by decide +kernel) ?_
                refine ed_lif_ne (tgt := 143) hx hb d_Mo_isNumber_129 d_Mo_isNumber_130 rfl (by omega) (by omega) (fun h_8 => ?_) (fun h_8 => ?_)
                · skip
                  refine ed_pc (pc' := 143) rfl ?_
                  refine lv_iconst (v := iI 0) hx hb d_Mo_isNumber_143 rfl ?_
                  refine va_put (D := D) (ci := 4) (v := .int (iI (0))) (ty := .boolean) (C := R_Mo) (T := T_Mo) (N := 10) hx hb hts (fun w h => List.mem_cons_of_mem _ (in_Mo w h)) y_Mo t_Mo n_Mo hown hK hP hD hS 0 rfl rfl 9 (by decide) (hts _ (List.mem_cons_of_mem _ tw_399)) (fun _ h9 => h9) rfl (by decide +kernel) (by decide +kernel) (by decide +kernel) (Nat.le_of_ble_eq_true rfl) d_Mo_isNumber_144 (fun H locs hP hD hS => ?_)
                  have hP : va_P D ecl [(mo, .inr (4, [.ref nb, .ref un, .ref ov, .ref xx, .ref dc, .int (iI (zl)), .int (iI (0)), .long (lN (sgz kf y)), .int (iI (lez kf + ((exE kf y : Nat) : Int))), .int (iI (0))]))] H := hP
                  have hD : va_D A [(mo, .inr (4, [.ref nb, .ref un, .ref ov, .ref xx, .ref dc, .int (iI (zl)), .int (iI (0)), .long (lN (sgz kf y)), .int (iI (lez kf + ((exE kf y : Nat) : Int))), .int (iI (0))]))] := hD
                  refine ed_pc (pc' := 147) rfl ?_
                  refine lv_aload_n hx hb d_Mo_isNumber_147 rfl (lv_at hl 3 rfl) ?_
                  refine lv_iconst (v := iI 0) hx hb d_Mo_isNumber_148 rfl ?_
                  refine va_put (D := D) (ci := 4) (v := .int (iI (0))) (ty := .boolean) (C := R_Mo) (T := T_Mo) (N := 10) hx hb hts (fun w h => List.mem_cons_of_mem _ (in_Mo w h)) y_Mo t_Mo n_Mo hown hK hP hD hS 0 rfl rfl 5 (by decide) (hts _ (List.mem_cons_of_mem _ tw_395)) (fun _ h9 => h9) rfl (by decide +kernel) (by decide +kernel) (by decide +kernel) (Nat.le_of_ble_eq_true rfl) d_Mo_isNumber_149 (fun H locs hP hD hS => ?_)
                  have hP : va_P D ecl [(mo, .inr (4, [.ref nb, .ref un, .ref ov, .ref xx, .ref dc, .int (iI (0)), .int (iI (0)), .long (lN (sgz kf y)), .int (iI (lez kf + ((exE kf y : Nat) : Int))), .int (iI (0))]))] H := hP
                  have hD : va_D A [(mo, .inr (4, [.ref nb, .ref un, .ref ov, .ref xx, .ref dc, .int (iI (0)), .int (iI (0)), .long (lN (sgz kf y)), .int (iI (lez kf + ((exE kf y : Nat) : Int))), .int (iI (0))]))] := hD
                  refine lv_iconst (v := iI 1) hx hb d_Mo_isNumber_152 rfl ?_
                  have hcl : (sgz kf y = 2 ^ fbz kf ∧ 0 < exE kf y) ↔ (mm = 0 ∧ 1 < ee) := by rw [hsg, hfb]; unfold exE; rw [hfb]; omega
                  exact W.zret (v := (iI (1))) hx hb hr (by decide +kernel) (fun t9 ht9 hW9 => ⟨⟨(iI (1)), [(mo, .inr (4, [.ref nb, .ref un, .ref ov, .ref xx, .ref dc, .int (iI (0)), .int (iI (0)), .long (lN (sgz kf y)), .int (iI (lez kf + ((exE kf y : Nat) : Int))), .int (iI (0))]))], rfl, ⟨rfl, 0, by rw [hcl]; omega, rfl⟩, by rw [ht9]; exact hP, hD⟩, hS.F ht9⟩) hS.2.2 d_Mo_isNumber_153
                · skip
                  refine ed_pc (pc' := 133) rfl ?_
                  refine lv_iload hx hb d_Mo_isNumber_133 (lv_at hl 1 rfl) ?_
                  refine lv_iconst (v := iI 1) hx hb d_Mo_isNumber_135 rfl ?_
                  refine ed_pc (pc' := 136) rfl ?_
                  refine ed_icmp_le (tgt := 143) hx hb d_Mo_isNumber_136 rfl (by omega) (by omega) (fun h_9 => ?_) (fun h_9 => ?_)
                  · skip
                    refine ed_pc (pc' := 143) rfl ?_
                    refine lv_iconst (v := iI 0) hx hb d_Mo_isNumber_143 rfl ?_
                    refine va_put (D := D) (ci := 4) (v := .int (iI (0))) (ty := .boolean) (C := R_Mo) (T := T_Mo) (N := 10) hx hb hts (fun w h => List.mem_cons_of_mem _ (in_Mo w h)) y_Mo t_Mo n_Mo hown hK hP hD hS 0 rfl rfl 9 (by decide) (hts _ (List.mem_cons_of_mem _ tw_399)) (fun _ h9 => h9) rfl (by decide +kernel) (by decide +kernel) (by decide +kernel) (Nat.le_of_ble_eq_true rfl) d_Mo_isNumber_144 (fun H locs hP hD hS => ?_)
                    have hP : va_P D ecl [(mo, .inr (4, [.ref nb, .ref un, .ref ov, .ref xx, .ref dc, .int (iI (zl)), .int (iI (0)), .long (lN (sgz kf y)), .int (iI (lez kf + ((exE kf y : Nat) : Int))), .int (iI (0))]))] H := hP
                    have hD : va_D A [(mo, .inr (4, [.ref nb, .ref un, .ref ov, .ref xx, .ref dc, .int (iI (zl)), .int (iI (0)), .long (lN (sgz kf y)), .int (iI (lez kf + ((exE kf y : Nat) : Int))), .int (iI (0))]))] := hD
                    refine lv_aload_n hx hb d_Mo_isNumber_147 rfl (lv_at hl 3 rfl) ?_
                    refine lv_iconst (v := iI 0) hx hb d_Mo_isNumber_148 rfl ?_
                    refine va_put (D := D) (ci := 4) (v := .int (iI (0))) (ty := .boolean) (C := R_Mo) (T := T_Mo) (N := 10) hx hb hts (fun w h => List.mem_cons_of_mem _ (in_Mo w h)) y_Mo t_Mo n_Mo hown hK hP hD hS 0 rfl rfl 5 (by decide) (hts _ (List.mem_cons_of_mem _ tw_395)) (fun _ h9 => h9) rfl (by decide +kernel) (by decide +kernel) (by decide +kernel) (Nat.le_of_ble_eq_true rfl) d_Mo_isNumber_149 (fun H locs hP hD hS => ?_)
                    have hP : va_P D ecl [(mo, .inr (4, [.ref nb, .ref un, .ref ov, .ref xx, .ref dc, .int (iI (0)), .int (iI (0)), .long (lN (sgz kf y)), .int (iI (lez kf + ((exE kf y : Nat) : Int))), .int (iI (0))]))] H := hP
                    have hD : va_D A [(mo, .inr (4, [.ref nb, .ref un, .ref ov, .ref xx, .ref dc, .int (iI (0)), .int (iI (0)), .long (lN (sgz kf y)), .int (iI (lez kf + ((exE kf y : Nat) : Int))), .int (iI (0))]))] := hD
                    refine lv_iconst (v := iI 1) hx hb d_Mo_isNumber_152 rfl ?_
                    have hcl : (sgz kf y = 2 ^ fbz kf ∧ 0 < exE kf y) ↔ (mm = 0 ∧ 1 < ee) := by rw [hsg, hfb]; unfold exE; rw [hfb]; omega
                    exact W.zret (v := (iI (1))) hx hb hr (by decide +kernel) (fun t9 ht9 hW9 => ⟨⟨(iI (1)), [(mo, .inr (4, [.ref nb, .ref un, .ref ov, .ref xx, .ref dc, .int (iI (0)), .int (iI (0)), .long (lN (sgz kf y)), .int (iI (lez kf + ((exE kf y : Nat) : Int))), .int (iI (0))]))], rfl, ⟨rfl, 0, by rw [hcl]; omega, rfl⟩, by rw [ht9]; exact hP, hD⟩, hS.F ht9⟩) hS.2.2 d_Mo_isNumber_153
                  · skip
                    refine ed_pc (pc' := 139) rfl ?_
                    refine lv_iconst (v := iI 1) hx hb d_Mo_isNumber_139 rfl ?_
                    refine lv_goto (tgt := 144) hx hb d_Mo_isNumber_140 rfl ?_
                    refine va_put (D := D) (ci := 4) (v := .int (iI (1))) (ty := .boolean) (C := R_Mo) (T := T_Mo) (N := 10) hx hb hts (fun w h => List.mem_cons_of_mem _ (in_Mo w h)) y_Mo t_Mo n_Mo hown hK hP hD hS 0 rfl rfl 9 (by decide) (hts _ (List.mem_cons_of_mem _ tw_399)) (fun _ h9 => h9) rfl (by decide +kernel) (by decide +kernel) (by decide +kernel) (Nat.le_of_ble_eq_true rfl) d_Mo_isNumber_144 (fun H locs hP hD hS => ?_)
                    have hP : va_P D ecl [(mo, .inr (4, [.ref nb, .ref un, .ref ov, .ref xx, .ref dc, .int (iI (zl)), .int (iI (0)), .long (lN (sgz kf y)), .int (iI (lez kf + ((exE kf y : Nat) : Int))), .int (iI (1))]))] H := hP
                    have hD : va_D A [(mo, .inr (4, [.ref nb, .ref un, .ref ov, .ref xx, .ref dc, .int (iI (zl)), .int (iI (0)), .long (lN (sgz kf y)), .int (iI (lez kf + ((exE kf y : Nat) : Int))), .int (iI (1))]))] := hD
                    refine lv_aload_n hx hb d_Mo_isNumber_147 rfl (lv_at hl 3 rfl) ?_
                    refine lv_iconst (v := iI 0) hx hb d_Mo_isNumber_148 rfl ?_
                    refine va_put (D := D) (ci := 4) (v := .int (iI (0))) (ty := .boolean) (C := R_Mo) (T := T_Mo) (N := 10) hx hb hts (fun w h => List.mem_cons_of_mem _ (in_Mo w h)) y_Mo t_Mo n_Mo hown hK hP hD hS 0 rfl rfl 5 (by decide) (hts _ (List.mem_cons_of_mem _ tw_395)) (fun _ h9 => h9) rfl (by decide +kernel) (by decide +kernel) (by decide +kernel) (Nat.le_of_ble_eq_true rfl) d_Mo_isNumber_149 (fun H locs hP hD hS => ?_)
                    have hP : va_P D ecl [(mo, .inr (4, [.ref nb, .ref un, .ref ov, .ref xx, .ref dc, .int (iI (0)), .int (iI (0)), .long (lN (sgz kf y)), .int (iI (lez kf + ((exE kf y : Nat) : Int))), .int (iI (1))]))] H := hP
                    have hD : va_D A [(mo, .inr (4, [.ref nb, .ref un, .ref ov, .ref xx, .ref dc, .int (iI (0)), .int (iI (0)), .long (lN (sgz kf y)), .int (iI (lez kf + ((exE kf y : Nat) : Int))), .int (iI (1))]))] := hD
                    refine lv_iconst (v := iI 1) hx hb d_Mo_isNumber_152 rfl ?_
                    have hcl : (sgz kf y = 2 ^ fbz kf ∧ 0 < exE kf y) ↔ (mm = 0 ∧ 1 < ee) := by rw [hsg, hfb]; unfold exE; rw [hfb]; omega
                    exact W.zret (v := (iI (1))) hx hb hr (by decide +kernel) (fun t9 ht9 hW9 => ⟨⟨(iI (1)), [(mo, .inr (4, [.ref nb, .ref un, .ref ov, .ref xx, .ref dc, .int (iI (0)), .int (iI (0)), .long (lN (sgz kf y)), .int (iI (lez kf + ((exE kf y : Nat) : Int))), .int (iI (1))]))], rfl, ⟨rfl, 1, by rw [hcl]; omega, rfl⟩, by rw [ht9]; exact hP, hD⟩, hS.F ht9⟩) hS.2.2 d_Mo_isNumber_153
              · exact absurd h_7 (by omega)
            · skip
              refine ed_pc (pc' := 86) rfl ?_
              have hsg : sgz kf y = mm := by unfold sgz; rw [hfb, if_pos (by omega)]; omega
              refine lv_lload hx hb d_Mo_isNumber_86 (lv_at hl 0 rfl) ?_
              refine lv_goto (tgt := 98) hx hb d_Mo_isNumber_88 rfl ?_
              refine ed_tl (y := (lN (sgz kf y))) (by rw [hsg, jI_nat]) ?_
              refine va_put (D := D) (ci := 4) (v := .long (lN (sgz kf y))) (ty := .long) (C := R_Mo) (T := T_Mo) (N := 10) hx hb hts (fun w h => List.mem_cons_of_mem _ (in_Mo w h)) y_Mo t_Mo n_Mo hown hK hP hD hS 0 rfl rfl 7 (by decide) (hts _ (List.mem_cons_of_mem _ tw_397)) (fun _ h9 => h9) rfl (by decide +kernel) rfl rfl (Nat.le_of_ble_eq_true rfl) d_Mo_isNumber_98 (fun H locs hP hD hS => ?_)
              have hP : va_P D ecl [(mo, .inr (4, [.ref nb, .ref un, .ref ov, .ref xx, .ref dc, .int (iI (zl)), .int (iI (0)), .long (lN (sgz kf y)), .int (iI (pw)), .int (iI (zk))]))] H := hP
              have hD : va_D A [(mo, .inr (4, [.ref nb, .ref un, .ref ov, .ref xx, .ref dc, .int (iI (zl)), .int (iI (0)), .long (lN (sgz kf y)), .int (iI (pw)), .int (iI (zk))]))] := hD
              refine lv_aload_n hx hb d_Mo_isNumber_101 rfl (lv_at hl 3 rfl) ?_
              refine lv_iload hx hb d_Mo_isNumber_102 (lv_at hl 1 rfl) ?_
              refine ed_pc (pc' := 104) rfl ?_
              refine lv_iconst (v := iI 1) hx hb d_Mo_isNumber_104 rfl ?_
              refine ed_max hx hb (hml.trans hl.1.symm) hown (hts _ (List.mem_cons_of_mem _ tw_453)) (hts _ (List.mem_cons_of_mem _ tw_146)) (hts _ (List.mem_cons_of_mem _ tw_6)) (hts _ (List.mem_cons_of_mem _ tw_147)) (Nat.le_of_ble_eq_true rfl) (Nat.le_of_ble_eq_true rfl) (Nat.le_of_ble_eq_true rfl) (Nat.le_of_ble_eq_true rfl) (by omega) (by omega) d_Mo_isNumber_105 ?_
              refine lv_iload_n hx hb d_Mo_isNumber_108 rfl (lv_at hl 5 rfl) ?_
              refine ed_if_eq (tgt := 118) hx hb d_Mo_isNumber_109 rfl (by omega) (fun h_10 => ?_) (fun h_10 => ?_)
              · skip
                refine ed_pc (pc' := 118) rfl ?_
                refine lv_sipush (v := iI 1075) hx hb d_Mo_isNumber_118 (by decide +kernel) ?_
                refine ed_isub hx hb d_Mo_isNumber_121 ?_
                refine ed_tz (y := lez kf + ((exE kf y : Nat) : Int)) (by unfold exE; rw [hle, hfb]; omega) ?_
                refine va_put (D := D) (ci := 4) (v := .int (iI (lez kf + ((exE kf y : Nat) : Int)))) (ty := .int) (C := R_Mo) (T := T_Mo) (N := 10) hx hb hts (fun w h => List.mem_cons_of_mem _ (in_Mo w h)) y_Mo t_Mo n_Mo hown hK hP hD hS 0 rfl rfl 8 (by decide) (hts _ (List.mem_cons_of_mem _ tw_398)) (fun _ h9 => h9) rfl (by decide +kernel) rfl rfl (Nat.le_of_ble_eq_true rfl) d_Mo_isNumber_122 (fun H locs hP hD hS => ?_)
                have hP : va_P D ecl [(mo, .inr (4, [.ref nb, .ref un, .ref ov, .ref xx, .ref dc, .int (iI (zl)), .int (iI (0)), .long (lN (sgz kf y)), .int (iI (lez kf + ((exE kf y : Nat) : Int))), .int (iI (zk))]))] H := hP
                have hD : va_D A [(mo, .inr (4, [.ref nb, .ref un, .ref ov, .ref xx, .ref dc, .int (iI (zl)), .int (iI (0)), .long (lN (sgz kf y)), .int (iI (lez kf + ((exE kf y : Nat) : Int))), .int (iI (zk))]))] := hD
                refine lv_aload_n hx hb d_Mo_isNumber_125 rfl (lv_at hl 3 rfl) ?_
                refine ed_pc (pc' := 126) rfl ?_
                refine lv_lload hx hb d_Mo_isNumber_126 (lv_at hl 0 rfl) ?_
                refine lv_lconst (v := jI 0) hx hb d_Mo_isNumber_128 (by decide +kernel) ?_
                refine ed_lif_ne (tgt := 143) hx hb d_Mo_isNumber_129 d_Mo_isNumber_130 rfl (by omega) (by omega) (fun h_11 => ?_) (fun h_11 => ?_)
                · skip
                  refine ed_pc (pc' := 143) rfl ?_
                  refine lv_iconst (v := iI 0) hx hb d_Mo_isNumber_143 rfl ?_
                  refine va_put (D := D) (ci := 4) (v := .int (iI (0))) (ty := .boolean) (C := R_Mo) (T := T_Mo) (N := 10) hx hb hts (fun w h => List.mem_cons_of_mem _ (in_Mo w h)) y_Mo t_Mo n_Mo hown hK hP hD hS 0 rfl rfl 9 (by decide) (hts _ (List.mem_cons_of_mem _ tw_399)) (fun _ h9 => h9) rfl (by decide +kernel) (by decide +kernel) (by decide +kernel) (Nat.le_of_ble_eq_true rfl) d_Mo_isNumber_144 (fun H locs hP hD hS => ?_)
                  have hP : va_P D ecl [(mo, .inr (4, [.ref nb, .ref un, .ref ov, .ref xx, .ref dc, .int (iI (zl)), .int (iI (0)), .long (lN (sgz kf y)), .int (iI (lez kf + ((exE kf y : Nat) : Int))), .int (iI (0))]))] H := hP
                  have hD : va_D A [(mo, .inr (4, [.ref nb, .ref un, .ref ov, .ref xx, .ref dc, .int (iI (zl)), .int (iI (0)), .long (lN (sgz kf y)), .int (iI (lez kf + ((exE kf y : Nat) : Int))), .int (iI (0))]))] := hD
                  refine lv_aload_n hx hb d_Mo_isNumber_147 rfl (lv_at hl 3 rfl) ?_
                  refine lv_iconst (v := iI 0) hx hb d_Mo_isNumber_148 rfl ?_
                  refine va_put (D := D) (ci := 4) (v := .int (iI (0))) (ty := .boolean) (C := R_Mo) (T := T_Mo) (N := 10) hx hb hts (fun w h => List.mem_cons_of_mem _ (in_Mo w h)) y_Mo t_Mo n_Mo hown hK hP hD hS 0 rfl rfl 5 (by decide) (hts _ (List.mem_cons_of_mem _ tw_395)) (fun _ h9 => h9) rfl (by decide +kernel) (by decide +kernel) (by decide +kernel) (Nat.le_of_ble_eq_true rfl) d_Mo_isNumber_149 (fun H locs hP hD hS => ?_)
                  have hP : va_P D ecl [(mo, .inr (4, [.ref nb, .ref un, .ref ov, .ref xx, .ref dc, .int (iI (0)), .int (iI (0)), .long (lN (sgz kf y)), .int (iI (lez kf + ((exE kf y : Nat) : Int))), .int (iI (0))]))] H := hP
                  have hD : va_D A [(mo, .inr (4, [.ref nb, .ref un, .ref ov, .ref xx, .ref dc, .int (iI (0)), .int (iI (0)), .long (lN (sgz kf y)), .int (iI (lez kf + ((exE kf y : Nat) : Int))), .int (iI (0))]))] := hD
                  refine ed_pc (pc' := 152) rfl ?_
                  refine lv_iconst (v := iI 1) hx hb d_Mo_isNumber_152 rfl ?_
                  have hcl : (sgz kf y = 2 ^ fbz kf ∧ 0 < exE kf y) ↔ (mm = 0 ∧ 1 < ee) := by rw [hsg, hfb]; unfold exE; rw [hfb]; omega
                  exact W.zret (v := (iI (1))) hx hb hr (by decide +kernel) (fun t9 ht9 hW9 => ⟨⟨(iI (1)), [(mo, .inr (4, [.ref nb, .ref un, .ref ov, .ref xx, .ref dc, .int (iI (0)), .int (iI (0)), .long (lN (sgz kf y)), .int (iI (lez kf + ((exE kf y : Nat) : Int))), .int (iI (0))]))], rfl, ⟨rfl, 0, by rw [hcl]; omega, rfl⟩, by rw [ht9]; exact hP, hD⟩, hS.F ht9⟩) hS.2.2 d_Mo_isNumber_153
                · skip
                  refine ed_pc (pc' := 133) rfl ?_
                  refine lv_iload hx hb d_Mo_isNumber_133 (lv_at hl 1 rfl) ?_
                  refine lv_iconst (v := iI 1) hx hb d_Mo_isNumber_135 rfl ?_
                  refine ed_icmp_le (tgt := 143) hx hb d_Mo_isNumber_136 rfl (by omega) (by omega) (fun h_12 => ?_) (fun h_12 => ?_)
                  · skip
                    refine ed_pc (pc' := 143) rfl ?_
                    refine lv_iconst (v := iI 0) hx hb d_Mo_isNumber_143 rfl ?_
                    refine va_put (D := D) (ci := 4) (v := .int (iI (0))) (ty := .boolean) (C := R_Mo) (T := T_Mo) (N := 10) hx hb hts (fun w h => List.mem_cons_of_mem _ (in_Mo w h)) y_Mo t_Mo n_Mo hown hK hP hD hS 0 rfl rfl 9 (by decide) (hts _ (List.mem_cons_of_mem _ tw_399)) (fun _ h9 => h9) rfl (by decide +kernel) (by decide +kernel) (by decide +kernel) (Nat.le_of_ble_eq_true rfl) d_Mo_isNumber_144 (fun H locs hP hD hS => ?_)
                    have hP : va_P D ecl [(mo, .inr (4, [.ref nb, .ref un, .ref ov, .ref xx, .ref dc, .int (iI (zl)), .int (iI (0)), .long (lN (sgz kf y)), .int (iI (lez kf + ((exE kf y : Nat) : Int))), .int (iI (0))]))] H := hP
                    have hD : va_D A [(mo, .inr (4, [.ref nb, .ref un, .ref ov, .ref xx, .ref dc, .int (iI (zl)), .int (iI (0)), .long (lN (sgz kf y)), .int (iI (lez kf + ((exE kf y : Nat) : Int))), .int (iI (0))]))] := hD
                    refine ed_pc (pc' := 147) rfl ?_
                    refine lv_aload_n hx hb d_Mo_isNumber_147 rfl (lv_at hl 3 rfl) ?_
                    refine lv_iconst (v := iI 0) hx hb d_Mo_isNumber_148 rfl ?_
                    refine va_put (D := D) (ci := 4) (v := .int (iI (0))) (ty := .boolean) (C := R_Mo) (T := T_Mo) (N := 10) hx hb hts (fun w h => List.mem_cons_of_mem _ (in_Mo w h)) y_Mo t_Mo n_Mo hown hK hP hD hS 0 rfl rfl 5 (by decide) (hts _ (List.mem_cons_of_mem _ tw_395)) (fun _ h9 => h9) rfl (by decide +kernel) (by decide +kernel) (by decide +kernel) (Nat.le_of_ble_eq_true rfl) d_Mo_isNumber_149 (fun H locs hP hD hS => ?_)
                    have hP : va_P D ecl [(mo, .inr (4, [.ref nb, .ref un, .ref ov, .ref xx, .ref dc, .int (iI (0)), .int (iI (0)), .long (lN (sgz kf y)), .int (iI (lez kf + ((exE kf y : Nat) : Int))), .int (iI (0))]))] H := hP
                    have hD : va_D A [(mo, .inr (4, [.ref nb, .ref un, .ref ov, .ref xx, .ref dc, .int (iI (0)), .int (iI (0)), .long (lN (sgz kf y)), .int (iI (lez kf + ((exE kf y : Nat) : Int))), .int (iI (0))]))] := hD
                    refine lv_iconst (v := iI 1) hx hb d_Mo_isNumber_152 rfl ?_
                    have hcl : (sgz kf y = 2 ^ fbz kf ∧ 0 < exE kf y) ↔ (mm = 0 ∧ 1 < ee) := by rw [hsg, hfb]; unfold exE; rw [hfb]; omega
                    exact W.zret (v := (iI (1))) hx hb hr (by decide +kernel) (fun t9 ht9 hW9 => ⟨⟨(iI (1)), [(mo, .inr (4, [.ref nb, .ref un, .ref ov, .ref xx, .ref dc, .int (iI (0)), .int (iI (0)), .long (lN (sgz kf y)), .int (iI (lez kf + ((exE kf y : Nat) : Int))), .int (iI (0))]))], rfl, ⟨rfl, 0, by rw [hcl]; omega, rfl⟩, by rw [ht9]; exact hP, hD⟩, hS.F ht9⟩) hS.2.2 d_Mo_isNumber_153
                  · skip
                    refine ed_pc (pc' := 139) rfl ?_
                    refine lv_iconst (v := iI 1) hx hb d_Mo_isNumber_139 rfl ?_
                    refine lv_goto (tgt := 144) hx hb d_Mo_isNumber_140 rfl ?_
                    refine ed_pc (pc' := 144) rfl ?_
                    refine va_put (D := D) (ci := 4) (v := .int (iI (1))) (ty := .boolean) (C := R_Mo) (T := T_Mo) (N := 10) hx hb hts (fun w h => List.mem_cons_of_mem _ (in_Mo w h)) y_Mo t_Mo n_Mo hown hK hP hD hS 0 rfl rfl 9 (by decide) (hts _ (List.mem_cons_of_mem _ tw_399)) (fun _ h9 => h9) rfl (by decide +kernel) (by decide +kernel) (by decide +kernel) (Nat.le_of_ble_eq_true rfl) d_Mo_isNumber_144 (fun H locs hP hD hS => ?_)
                    have hP : va_P D ecl [(mo, .inr (4, [.ref nb, .ref un, .ref ov, .ref xx, .ref dc, .int (iI (zl)), .int (iI (0)), .long (lN (sgz kf y)), .int (iI (lez kf + ((exE kf y : Nat) : Int))), .int (iI (1))]))] H := hP
                    have hD : va_D A [(mo, .inr (4, [.ref nb, .ref un, .ref ov, .ref xx, .ref dc, .int (iI (zl)), .int (iI (0)), .long (lN (sgz kf y)), .int (iI (lez kf + ((exE kf y : Nat) : Int))), .int (iI (1))]))] := hD
                    refine lv_aload_n hx hb d_Mo_isNumber_147 rfl (lv_at hl 3 rfl) ?_
                    refine lv_iconst (v := iI 0) hx hb d_Mo_isNumber_148 rfl ?_
                    refine va_put (D := D) (ci := 4) (v := .int (iI (0))) (ty := .boolean) (C := R_Mo) (T := T_Mo) (N := 10) hx hb hts (fun w h => List.mem_cons_of_mem _ (in_Mo w h)) y_Mo t_Mo n_Mo hown hK hP hD hS 0 rfl rfl 5 (by decide) (hts _ (List.mem_cons_of_mem _ tw_395)) (fun _ h9 => h9) rfl (by decide +kernel) (by decide +kernel) (by decide +kernel) (Nat.le_of_ble_eq_true rfl) d_Mo_isNumber_149 (fun H locs hP hD hS => ?_)
                    have hP : va_P D ecl [(mo, .inr (4, [.ref nb, .ref un, .ref ov, .ref xx, .ref dc, .int (iI (0)), .int (iI (0)), .long (lN (sgz kf y)), .int (iI (lez kf + ((exE kf y : Nat) : Int))), .int (iI (1))]))] H := hP
                    have hD : va_D A [(mo, .inr (4, [.ref nb, .ref un, .ref ov, .ref xx, .ref dc, .int (iI (0)), .int (iI (0)), .long (lN (sgz kf y)), .int (iI (lez kf + ((exE kf y : Nat) : Int))), .int (iI (1))]))] := hD
                    refine lv_iconst (v := iI 1) hx hb d_Mo_isNumber_152 rfl ?_
                    have hcl : (sgz kf y = 2 ^ fbz kf ∧ 0 < exE kf y) ↔ (mm = 0 ∧ 1 < ee) := by rw [hsg, hfb]; unfold exE; rw [hfb]; omega
                    exact W.zret (v := (iI (1))) hx hb hr (by decide +kernel) (fun t9 ht9 hW9 => ⟨⟨(iI (1)), [(mo, .inr (4, [.ref nb, .ref un, .ref ov, .ref xx, .ref dc, .int (iI (0)), .int (iI (0)), .long (lN (sgz kf y)), .int (iI (lez kf + ((exE kf y : Nat) : Int))), .int (iI (1))]))], rfl, ⟨rfl, 1, by rw [hcl]; omega, rfl⟩, by rw [ht9]; exact hP, hD⟩, hS.F ht9⟩) hS.2.2 d_Mo_isNumber_153
              · exact absurd h_10 (by omega)
          · exact absurd h_5 (by omega)
        · exact absurd h_4 (by omega)
      · exact absurd h_3 (by omega)
    · exact absurd h_2 (by omega)
  · skip
    refine ed_pc (pc' := 4) rfl ?_
    have hk01 : kf = 1 := by rw [hkf9]; simp only [if_neg (show ¬ zz = 0 by omega)]
    have hfb : fbz kf = 23 := by rw [hk01]; rfl
    have hle : lez kf = -149 := by rw [hk01]; rfl
    have hif : ifz kf = 2139095040 := by rw [hk01]; rfl
    have hmk : mkz kf = 2147483647 := by rw [hk01]; rfl
    obtain ⟨ee, hee⟩ : ∃ ee : Nat, ee = b / 8388608 % 256 := ⟨_, rfl⟩
    obtain ⟨mm, hmm⟩ : ∃ mm : Nat, mm = b % 8388608 := ⟨_, rfl⟩
    rw [hmk] at hyb
    have hym : y = ee * 8388608 + mm := by omega
    have hem : ee < 255 := by rw [hif] at hy; omega
    refine lv_bipush (v := iI 23) hx hb d_Mo_isNumber_4 (by decide +kernel) ?_
    refine lv_goto (tgt := 11) hx hb d_Mo_isNumber_6 rfl ?_
    refine lv_istore hx hb d_Mo_isNumber_11 hl (by decide) rfl (fun ls hl => ?_)
    have hl : lv_has ls 8 [(4, .int (iI (23))), (0, .ref mo), (1, .long (lN b)), (3, .int (iI (zz)))] := hl
    refine lv_lload_n hx hb d_Mo_isNumber_13 rfl (lv_at hl 2 rfl) ?_
    refine lv_iload hx hb d_Mo_isNumber_14 (lv_at hl 0 rfl) ?_
    refine ed_pc (pc' := 16) rfl ?_
    refine lv_lshr (v := (lN b >>> ((iI 23).toInt64 &&& 63))) hx hb d_Mo_isNumber_16 (rfl) ?_
    refine lv_l2i (v := (lN b >>> ((iI 23).toInt64 &&& 63)).toInt32) hx hb d_Mo_isNumber_17 rfl ?_
    refine lv_iload_n hx hb d_Mo_isNumber_18 rfl (lv_at hl 3 rfl) ?_
    refine ed_if_eq (tgt := 28) hx hb d_Mo_isNumber_19 rfl (by omega) (fun h_13 => ?_) (fun h_13 => ?_)
    · exact absurd h_13 (by omega)
    · skip
      refine ed_pc (pc' := 22) rfl ?_
      refine lv_sipush (v := iI 255) hx hb d_Mo_isNumber_22 (by decide +kernel) ?_
      refine lv_goto (tgt := 31) hx hb d_Mo_isNumber_25 rfl ?_
      refine lv_iand hx hb d_Mo_isNumber_31 ?_
      refine ed_ti (y := (iI ((ee : Int)))) (by rw [hee, iI_nat]; exact is_e (k := 23) (n := 8) hb64 (by decide) (by decide) (by decide)) ?_
      refine lv_istore hx hb d_Mo_isNumber_32 hl (by decide) rfl (fun ls hl => ?_)
      have hl : lv_has ls 8 [(5, .int (iI ((ee : Int)))), (4, .int (iI (23))), (0, .ref mo), (1, .long (lN b)), (3, .int (iI (zz)))] := hl
      refine lv_lload_n hx hb d_Mo_isNumber_34 rfl (lv_at hl 3 rfl) ?_
      refine ed_pc (pc' := 35) rfl ?_
      refine lv_lconst (v := jI 1) hx hb d_Mo_isNumber_35 (by decide +kernel) ?_
      refine lv_iload hx hb d_Mo_isNumber_36 (lv_at hl 1 rfl) ?_
      refine lv_lshl (v := (jI (8388608))) hx hb d_Mo_isNumber_38 (by decide +kernel) ?_
      refine lv_lconst (v := jI 1) hx hb d_Mo_isNumber_39 (by decide +kernel) ?_
      refine ed_lsub hx hb d_Mo_isNumber_40 ?_
      refine lv_land hx hb d_Mo_isNumber_41 ?_
      refine ed_tl (y := (jI ((mm : Int)))) (by rw [show jI (8388608 - 1) = lN (2 ^ 23 - 1) by decide +kernel, wb_mask (k := 23) hb64 (by decide), hmm, jI_nat]) ?_
      refine lv_lstore hx hb d_Mo_isNumber_42 hl (by decide) rfl (fun ls hl => ?_)
      have hl : lv_has ls 8 [(6, .long (jI ((mm : Int)))), (5, .int (iI ((ee : Int)))), (4, .int (iI (23))), (0, .ref mo), (1, .long (lN b)), (3, .int (iI (zz)))] := hl
      refine lv_aload_n hx hb d_Mo_isNumber_44 rfl (lv_at hl 3 rfl) ?_
      refine ed_pc (pc' := 45) rfl ?_
      refine lv_iload hx hb d_Mo_isNumber_45 (lv_at hl 1 rfl) ?_
      refine lv_iload_n hx hb d_Mo_isNumber_47 rfl (lv_at hl 5 rfl) ?_
      refine ed_if_eq (tgt := 57) hx hb d_Mo_isNumber_48 rfl (by omega) (fun h_14 => ?_) (fun h_14 => ?_)
      · exact absurd h_14 (by omega)
      · skip
        refine ed_pc (pc' := 51) rfl ?_
        refine lv_sipush (v := iI 255) hx hb d_Mo_isNumber_51 (by decide +kernel) ?_
        refine lv_goto (tgt := 60) hx hb d_Mo_isNumber_54 rfl ?_
        refine ed_icmp_ne (tgt := 67) hx hb d_Mo_isNumber_60 rfl (by omega) (by omega) (fun h_15 => ?_) (fun h_15 => ?_)
        · skip
          refine ed_pc (pc' := 67) rfl ?_
          refine lv_iconst (v := iI 0) hx hb d_Mo_isNumber_67 rfl ?_
          refine va_put (D := D) (ci := 4) (v := .int (iI (0))) (ty := .int) (C := R_Mo) (T := T_Mo) (N := 10) hx hb hts (fun w h => List.mem_cons_of_mem _ (in_Mo w h)) y_Mo t_Mo n_Mo hown hK hP hD hS 0 rfl rfl 6 (by decide) (hts _ (List.mem_cons_of_mem _ tw_396)) (fun _ h9 => h9) rfl (by decide +kernel) rfl rfl (Nat.le_of_ble_eq_true rfl) d_Mo_isNumber_68 (fun H locs hP hD hS => ?_)
          have hP : va_P D ecl [(mo, .inr (4, [.ref nb, .ref un, .ref ov, .ref xx, .ref dc, .int (iI (zl)), .int (iI (0)), .long (ma), .int (iI (pw)), .int (iI (zk))]))] H := hP
          have hD : va_D A [(mo, .inr (4, [.ref nb, .ref un, .ref ov, .ref xx, .ref dc, .int (iI (zl)), .int (iI (0)), .long (ma), .int (iI (pw)), .int (iI (zk))]))] := hD
          refine ed_pc (pc' := 71) rfl ?_
          refine lv_aload_n hx hb d_Mo_isNumber_71 rfl (lv_at hl 3 rfl) ?_
          refine va_get (D := D) (ci := 4) (v := .int (iI (0))) (C := R_Mo) (T := T_Mo) (N := 10) hx hb hts (fun w h => List.mem_cons_of_mem _ (in_Mo w h)) hown hK hP 0 rfl rfl 6 (by decide) (hts _ (List.mem_cons_of_mem _ tw_396)) (fun _ h9 => h9) rfl d_Mo_isNumber_72 ?_
          refine ed_if_le (tgt := 80) hx hb d_Mo_isNumber_75 rfl (by omega) (fun h_16 => ?_) (fun h_16 => ?_)
          · skip
            refine ed_pc (pc' := 80) rfl ?_
            refine lv_aload_n hx hb d_Mo_isNumber_80 rfl (lv_at hl 3 rfl) ?_
            refine lv_iload hx hb d_Mo_isNumber_81 (lv_at hl 1 rfl) ?_
            refine ed_if_ne (tgt := 91) hx hb d_Mo_isNumber_83 rfl (by omega) (fun h_17 => ?_) (fun h_17 => ?_)
            · skip
              refine ed_pc (pc' := 91) rfl ?_
              have hsg : sgz kf y = mm + 8388608 := by unfold sgz; rw [hfb, if_neg (by omega)]; omega
              refine lv_lload hx hb d_Mo_isNumber_91 (lv_at hl 0 rfl) ?_
              refine lv_lconst (v := jI 1) hx hb d_Mo_isNumber_93 (by decide +kernel) ?_
              refine ed_pc (pc' := 94) rfl ?_
              refine lv_iload hx hb d_Mo_isNumber_94 (lv_at hl 2 rfl) ?_
              refine lv_lshl (v := (jI (8388608))) hx hb d_Mo_isNumber_96 (by decide +kernel) ?_
              refine lv_lor hx hb d_Mo_isNumber_97 ?_
              refine ed_tl (y := (jI (((mm + 8388608 : Nat) : Int)))) (or_p (k := 23) (by decide) (by omega)) ?_
              refine ed_tl (y := (lN (sgz kf y))) (by rw [hsg, jI_nat]) ?_
              refine va_put (D := D) (ci := 4) (v := .long (lN (sgz kf y))) (ty := .long) (C := R_Mo) (T := T_Mo) (N := 10) hx hb hts (fun w h => List.mem_cons_of_mem _ (in_Mo w h)) y_Mo t_Mo n_Mo hown hK hP hD hS 0 rfl rfl 7 (by decide) (hts _ (List.mem_cons_of_mem _ tw_397)) (fun _ h9 => h9) rfl (by decide +kernel) rfl rfl (Nat.le_of_ble_eq_true rfl) d_Mo_isNumber_98 (fun H locs hP hD hS => ?_)
              have hP : va_P D ecl [(mo, .inr (4, [.ref nb, .ref un, .ref ov, .ref xx, .ref dc, .int (iI (zl)), .int (iI (0)), .long (lN (sgz kf y)), .int (iI (pw)), .int (iI (zk))]))] H := hP
              have hD : va_D A [(mo, .inr (4, [.ref nb, .ref un, .ref ov, .ref xx, .ref dc, .int (iI (zl)), .int (iI (0)), .long (lN (sgz kf y)), .int (iI (pw)), .int (iI (zk))]))] := hD
              refine lv_aload_n hx hb d_Mo_isNumber_101 rfl (lv_at hl 3 rfl) ?_
              refine lv_iload hx hb d_Mo_isNumber_102 (lv_at hl 1 rfl) ?_
              refine lv_iconst (v := iI 1) hx hb d_Mo_isNumber_104 rfl ?_
              refine ed_max hx hb (hml.trans hl.1.symm) hown (hts _ (List.mem_cons_of_mem _ tw_453)) (hts _ (List.mem_cons_of_mem _ tw_146)) (hts _ (List.mem_cons_of_mem _ tw_6)) (hts _ (List.mem_cons_of_mem _ tw_147)) (Nat.le_of_ble_eq_true rfl) (Nat.le_of_ble_eq_true rfl) (Nat.le_of_ble_eq_true rfl) (Nat.le_of_ble_eq_true rfl) (by omega) (by omega) d_Mo_isNumber_105 ?_
              refine ed_pc (pc' := 108) rfl ?_
              refine lv_iload_n hx hb d_Mo_isNumber_108 rfl (lv_at hl 5 rfl) ?_
              refine ed_if_eq (tgt := 118) hx hb d_Mo_isNumber_109 rfl (by omega) (fun h_18 => ?_) (fun h_18 => ?_)
              · exact absurd h_18 (by omega)
              · skip
                refine ed_pc (pc' := 112) rfl ?_
                refine lv_sipush (v := iI 150) hx hb d_Mo_isNumber_112 (by decide +kernel) ?_
                refine lv_goto (tgt := 121) hx hb d_Mo_isNumber_115 rfl ?_
                refine ed_isub hx hb d_Mo_isNumber_121 ?_
                refine ed_tz (y := lez kf + ((exE kf y : Nat) : Int)) (by unfold exE; rw [hle, hfb]; omega) ?_
                refine va_put (D := D) (ci := 4) (v := .int (iI (lez kf + ((exE kf y : Nat) : Int)))) (ty := .int) (C := R_Mo) (T := T_Mo) (N := 10) hx hb hts (fun w h => List.mem_cons_of_mem _ (in_Mo w h)) y_Mo t_Mo n_Mo hown hK hP hD hS 0 rfl rfl 8 (by decide) (hts _ (List.mem_cons_of_mem _ tw_398)) (fun _ h9 => h9) rfl (by decide +kernel) rfl rfl (Nat.le_of_ble_eq_true rfl) d_Mo_isNumber_122 (fun H locs hP hD hS => ?_)
                have hP : va_P D ecl [(mo, .inr (4, [.ref nb, .ref un, .ref ov, .ref xx, .ref dc, .int (iI (zl)), .int (iI (0)), .long (lN (sgz kf y)), .int (iI (lez kf + ((exE kf y : Nat) : Int))), .int (iI (zk))]))] H := hP
                have hD : va_D A [(mo, .inr (4, [.ref nb, .ref un, .ref ov, .ref xx, .ref dc, .int (iI (zl)), .int (iI (0)), .long (lN (sgz kf y)), .int (iI (lez kf + ((exE kf y : Nat) : Int))), .int (iI (zk))]))] := hD
                refine lv_aload_n hx hb d_Mo_isNumber_125 rfl (lv_at hl 3 rfl) ?_
                refine lv_lload hx hb d_Mo_isNumber_126 (lv_at hl 0 rfl) ?_
                refine ed_pc (pc' := 128) rfl ?_
                refine lv_lconst (v := jI 0) hx hb d_Mo_isNumber_128 (by decide +kernel) ?_
                refine ed_lif_ne (tgt := 143) hx hb d_Mo_isNumber_129 d_Mo_isNumber_130 rfl (by omega) (by omega) (fun h_19 => ?_) (fun h_19 => ?_)
                · skip
                  refine ed_pc (pc' := 143) rfl ?_
                  refine lv_iconst (v := iI 0) hx hb d_Mo_isNumber_143 rfl ?_
                  refine va_put (D := D) (ci := 4) (v := .int (iI (0))) (ty := .boolean) (C := R_Mo) (T := T_Mo) (N := 10) hx hb hts (fun w h => List.mem_cons_of_mem _ (in_Mo w h)) y_Mo t_Mo n_Mo hown hK hP hD hS 0 rfl rfl 9 (by decide) (hts _ (List.mem_cons_of_mem _ tw_399)) (fun _ h9 => h9) rfl (by decide +kernel) (by decide +kernel) (by decide +kernel) (Nat.le_of_ble_eq_true rfl) d_Mo_isNumber_144 (fun H locs hP hD hS => ?_)
                  have hP : va_P D ecl [(mo, .inr (4, [.ref nb, .ref un, .ref ov, .ref xx, .ref dc, .int (iI (zl)), .int (iI (0)), .long (lN (sgz kf y)), .int (iI (lez kf + ((exE kf y : Nat) : Int))), .int (iI (0))]))] H := hP
                  have hD : va_D A [(mo, .inr (4, [.ref nb, .ref un, .ref ov, .ref xx, .ref dc, .int (iI (zl)), .int (iI (0)), .long (lN (sgz kf y)), .int (iI (lez kf + ((exE kf y : Nat) : Int))), .int (iI (0))]))] := hD
                  refine lv_aload_n hx hb d_Mo_isNumber_147 rfl (lv_at hl 3 rfl) ?_
                  refine lv_iconst (v := iI 0) hx hb d_Mo_isNumber_148 rfl ?_
                  refine va_put (D := D) (ci := 4) (v := .int (iI (0))) (ty := .boolean) (C := R_Mo) (T := T_Mo) (N := 10) hx hb hts (fun w h => List.mem_cons_of_mem _ (in_Mo w h)) y_Mo t_Mo n_Mo hown hK hP hD hS 0 rfl rfl 5 (by decide) (hts _ (List.mem_cons_of_mem _ tw_395)) (fun _ h9 => h9) rfl (by decide +kernel) (by decide +kernel) (by decide +kernel) (Nat.le_of_ble_eq_true rfl) d_Mo_isNumber_149 (fun H locs hP hD hS => ?_)
                  have hP : va_P D ecl [(mo, .inr (4, [.ref nb, .ref un, .ref ov, .ref xx, .ref dc, .int (iI (0)), .int (iI (0)), .long (lN (sgz kf y)), .int (iI (lez kf + ((exE kf y : Nat) : Int))), .int (iI (0))]))] H := hP
                  have hD : va_D A [(mo, .inr (4, [.ref nb, .ref un, .ref ov, .ref xx, .ref dc, .int (iI (0)), .int (iI (0)), .long (lN (sgz kf y)), .int (iI (lez kf + ((exE kf y : Nat) : Int))), .int (iI (0))]))] := hD
                  refine lv_iconst (v := iI 1) hx hb d_Mo_isNumber_152 rfl ?_
                  have hcl : (sgz kf y = 2 ^ fbz kf ∧ 0 < exE kf y) ↔ (mm = 0 ∧ 1 < ee) := by rw [hsg, hfb]; unfold exE; rw [hfb]; omega
                  exact W.zret (v := (iI (1))) hx hb hr (by decide +kernel) (fun t9 ht9 hW9 => ⟨⟨(iI (1)), [(mo, .inr (4, [.ref nb, .ref un, .ref ov, .ref xx, .ref dc, .int (iI (0)), .int (iI (0)), .long (lN (sgz kf y)), .int (iI (lez kf + ((exE kf y : Nat) : Int))), .int (iI (0))]))], rfl, ⟨rfl, 0, by rw [hcl]; omega, rfl⟩, by rw [ht9]; exact hP, hD⟩, hS.F ht9⟩) hS.2.2 d_Mo_isNumber_153
                · skip
                  refine ed_pc (pc' := 133) rfl ?_
                  refine lv_iload hx hb d_Mo_isNumber_133 (lv_at hl 1 rfl) ?_
                  refine lv_iconst (v := iI 1) hx hb d_Mo_isNumber_135 rfl ?_
                  refine ed_icmp_le (tgt := 143) hx hb d_Mo_isNumber_136 rfl (by omega) (by omega) (fun h_20 => ?_) (fun h_20 => ?_)
                  · skip
                    refine ed_pc (pc' := 143) rfl ?_
                    refine lv_iconst (v := iI 0) hx hb d_Mo_isNumber_143 rfl ?_
                    refine va_put (D := D) (ci := 4) (v := .int (iI (0))) (ty := .boolean) (C := R_Mo) (T := T_Mo) (N := 10) hx hb hts (fun w h => List.mem_cons_of_mem _ (in_Mo w h)) y_Mo t_Mo n_Mo hown hK hP hD hS 0 rfl rfl 9 (by decide) (hts _ (List.mem_cons_of_mem _ tw_399)) (fun _ h9 => h9) rfl (by decide +kernel) (by decide +kernel) (by decide +kernel) (Nat.le_of_ble_eq_true rfl) d_Mo_isNumber_144 (fun H locs hP hD hS => ?_)
                    have hP : va_P D ecl [(mo, .inr (4, [.ref nb, .ref un, .ref ov, .ref xx, .ref dc, .int (iI (zl)), .int (iI (0)), .long (lN (sgz kf y)), .int (iI (lez kf + ((exE kf y : Nat) : Int))), .int (iI (0))]))] H := hP
                    have hD : va_D A [(mo, .inr (4, [.ref nb, .ref un, .ref ov, .ref xx, .ref dc, .int (iI (zl)), .int (iI (0)), .long (lN (sgz kf y)), .int (iI (lez kf + ((exE kf y : Nat) : Int))), .int (iI (0))]))] := hD
                    refine lv_aload_n hx hb d_Mo_isNumber_147 rfl (lv_at hl 3 rfl) ?_
                    refine ed_pc (pc' := 148) rfl ?_
                    refine lv_iconst (v := iI 0) hx hb d_Mo_isNumber_148 rfl ?_
                    refine va_put (D := D) (ci := 4) (v := .int (iI (0))) (ty := .boolean) (C := R_Mo) (T := T_Mo) (N := 10) hx hb hts (fun w h => List.mem_cons_of_mem _ (in_Mo w h)) y_Mo t_Mo n_Mo hown hK hP hD hS 0 rfl rfl 5 (by decide) (hts _ (List.mem_cons_of_mem _ tw_395)) (fun _ h9 => h9) rfl (by decide +kernel) (by decide +kernel) (by decide +kernel) (Nat.le_of_ble_eq_true rfl) d_Mo_isNumber_149 (fun H locs hP hD hS => ?_)
                    have hP : va_P D ecl [(mo, .inr (4, [.ref nb, .ref un, .ref ov, .ref xx, .ref dc, .int (iI (0)), .int (iI (0)), .long (lN (sgz kf y)), .int (iI (lez kf + ((exE kf y : Nat) : Int))), .int (iI (0))]))] H := hP
                    have hD : va_D A [(mo, .inr (4, [.ref nb, .ref un, .ref ov, .ref xx, .ref dc, .int (iI (0)), .int (iI (0)), .long (lN (sgz kf y)), .int (iI (lez kf + ((exE kf y : Nat) : Int))), .int (iI (0))]))] := hD
                    refine lv_iconst (v := iI 1) hx hb d_Mo_isNumber_152 rfl ?_
                    have hcl : (sgz kf y = 2 ^ fbz kf ∧ 0 < exE kf y) ↔ (mm = 0 ∧ 1 < ee) := by rw [hsg, hfb]; unfold exE; rw [hfb]; omega
                    exact W.zret (v := (iI (1))) hx hb hr (by decide +kernel) (fun t9 ht9 hW9 => ⟨⟨(iI (1)), [(mo, .inr (4, [.ref nb, .ref un, .ref ov, .ref xx, .ref dc, .int (iI (0)), .int (iI (0)), .long (lN (sgz kf y)), .int (iI (lez kf + ((exE kf y : Nat) : Int))), .int (iI (0))]))], rfl, ⟨rfl, 0, by rw [hcl]; omega, rfl⟩, by rw [ht9]; exact hP, hD⟩, hS.F ht9⟩) hS.2.2 d_Mo_isNumber_153
                  · skip
                    refine ed_pc (pc' := 139) rfl ?_
                    refine lv_iconst (v := iI 1) hx hb d_Mo_isNumber_139 rfl ?_
                    refine lv_goto (tgt := 144) hx hb d_Mo_isNumber_140 rfl ?_
                    refine va_put (D := D) (ci := 4) (v := .int (iI (1))) (ty := .boolean) (C := R_Mo) (T := T_Mo) (N := 10) hx hb hts (fun w h => List.mem_cons_of_mem _ (in_Mo w h)) y_Mo t_Mo n_Mo hown hK hP hD hS 0 rfl rfl 9 (by decide) (hts _ (List.mem_cons_of_mem _ tw_399)) (fun _ h9 => h9) rfl (by decide +kernel) (by decide +kernel) (by decide +kernel) (Nat.le_of_ble_eq_true rfl) d_Mo_isNumber_144 (fun H locs hP hD hS => ?_)
                    have hP : va_P D ecl [(mo, .inr (4, [.ref nb, .ref un, .ref ov, .ref xx, .ref dc, .int (iI (zl)), .int (iI (0)), .long (lN (sgz kf y)), .int (iI (lez kf + ((exE kf y : Nat) : Int))), .int (iI (1))]))] H := hP
                    have hD : va_D A [(mo, .inr (4, [.ref nb, .ref un, .ref ov, .ref xx, .ref dc, .int (iI (zl)), .int (iI (0)), .long (lN (sgz kf y)), .int (iI (lez kf + ((exE kf y : Nat) : Int))), .int (iI (1))]))] := hD
                    refine ed_pc (pc' := 147) rfl ?_
                    refine lv_aload_n hx hb d_Mo_isNumber_147 rfl (lv_at hl 3 rfl) ?_
                    refine lv_iconst (v := iI 0) hx hb d_Mo_isNumber_148 rfl ?_
                    refine va_put (D := D) (ci := 4) (v := .int (iI (0))) (ty := .boolean) (C := R_Mo) (T := T_Mo) (N := 10) hx hb hts (fun w h => List.mem_cons_of_mem _ (in_Mo w h)) y_Mo t_Mo n_Mo hown hK hP hD hS 0 rfl rfl 5 (by decide) (hts _ (List.mem_cons_of_mem _ tw_395)) (fun _ h9 => h9) rfl (by decide +kernel) (by decide +kernel) (by decide +kernel) (Nat.le_of_ble_eq_true rfl) d_Mo_isNumber_149 (fun H locs hP hD hS => ?_)
                    have hP : va_P D ecl [(mo, .inr (4, [.ref nb, .ref un, .ref ov, .ref xx, .ref dc, .int (iI (0)), .int (iI (0)), .long (lN (sgz kf y)), .int (iI (lez kf + ((exE kf y : Nat) : Int))), .int (iI (1))]))] H := hP
                    have hD : va_D A [(mo, .inr (4, [.ref nb, .ref un, .ref ov, .ref xx, .ref dc, .int (iI (0)), .int (iI (0)), .long (lN (sgz kf y)), .int (iI (lez kf + ((exE kf y : Nat) : Int))), .int (iI (1))]))] := hD
                    refine lv_iconst (v := iI 1) hx hb d_Mo_isNumber_152 rfl ?_
                    have hcl : (sgz kf y = 2 ^ fbz kf ∧ 0 < exE kf y) ↔ (mm = 0 ∧ 1 < ee) := by rw [hsg, hfb]; unfold exE; rw [hfb]; omega
                    exact W.zret (v := (iI (1))) hx hb hr (by decide +kernel) (fun t9 ht9 hW9 => ⟨⟨(iI (1)), [(mo, .inr (4, [.ref nb, .ref un, .ref ov, .ref xx, .ref dc, .int (iI (0)), .int (iI (0)), .long (lN (sgz kf y)), .int (iI (lez kf + ((exE kf y : Nat) : Int))), .int (iI (1))]))], rfl, ⟨rfl, 1, by rw [hcl]; omega, rfl⟩, by rw [ht9]; exact hP, hD⟩, hS.F ht9⟩) hS.2.2 d_Mo_isNumber_153
            · skip
              refine ed_pc (pc' := 86) rfl ?_
              have hsg : sgz kf y = mm := by unfold sgz; rw [hfb, if_pos (by omega)]; omega
              refine lv_lload hx hb d_Mo_isNumber_86 (lv_at hl 0 rfl) ?_
              refine lv_goto (tgt := 98) hx hb d_Mo_isNumber_88 rfl ?_
              refine ed_tl (y := (lN (sgz kf y))) (by rw [hsg, jI_nat]) ?_
              refine ed_pc (pc' := 98) rfl ?_
              refine va_put (D := D) (ci := 4) (v := .long (lN (sgz kf y))) (ty := .long) (C := R_Mo) (T := T_Mo) (N := 10) hx hb hts (fun w h => List.mem_cons_of_mem _ (in_Mo w h)) y_Mo t_Mo n_Mo hown hK hP hD hS 0 rfl rfl 7 (by decide) (hts _ (List.mem_cons_of_mem _ tw_397)) (fun _ h9 => h9) rfl (by decide +kernel) rfl rfl (Nat.le_of_ble_eq_true rfl) d_Mo_isNumber_98 (fun H locs hP hD hS => ?_)
              have hP : va_P D ecl [(mo, .inr (4, [.ref nb, .ref un, .ref ov, .ref xx, .ref dc, .int (iI (zl)), .int (iI (0)), .long (lN (sgz kf y)), .int (iI (pw)), .int (iI (zk))]))] H := hP
              have hD : va_D A [(mo, .inr (4, [.ref nb, .ref un, .ref ov, .ref xx, .ref dc, .int (iI (zl)), .int (iI (0)), .long (lN (sgz kf y)), .int (iI (pw)), .int (iI (zk))]))] := hD
              refine lv_aload_n hx hb d_Mo_isNumber_101 rfl (lv_at hl 3 rfl) ?_
              refine lv_iload hx hb d_Mo_isNumber_102 (lv_at hl 1 rfl) ?_
              refine lv_iconst (v := iI 1) hx hb d_Mo_isNumber_104 rfl ?_
              refine ed_max hx hb (hml.trans hl.1.symm) hown (hts _ (List.mem_cons_of_mem _ tw_453)) (hts _ (List.mem_cons_of_mem _ tw_146)) (hts _ (List.mem_cons_of_mem _ tw_6)) (hts _ (List.mem_cons_of_mem _ tw_147)) (Nat.le_of_ble_eq_true rfl) (Nat.le_of_ble_eq_true rfl) (Nat.le_of_ble_eq_true rfl) (Nat.le_of_ble_eq_true rfl) (by omega) (by omega) d_Mo_isNumber_105 ?_
              refine lv_iload_n hx hb d_Mo_isNumber_108 rfl (lv_at hl 5 rfl) ?_
              refine ed_if_eq (tgt := 118) hx hb d_Mo_isNumber_109 rfl (by omega) (fun h_21 => ?_) (fun h_21 => ?_)
              · exact absurd h_21 (by omega)
              · skip
                refine ed_pc (pc' := 112) rfl ?_
                refine lv_sipush (v := iI 150) hx hb d_Mo_isNumber_112 (by decide +kernel) ?_
                refine ed_pc (pc' := 115) rfl ?_
                refine lv_goto (tgt := 121) hx hb d_Mo_isNumber_115 rfl ?_
                refine ed_isub hx hb d_Mo_isNumber_121 ?_
                refine ed_tz (y := lez kf + ((exE kf y : Nat) : Int)) (by unfold exE; rw [hle, hfb]; omega) ?_
                refine va_put (D := D) (ci := 4) (v := .int (iI (lez kf + ((exE kf y : Nat) : Int)))) (ty := .int) (C := R_Mo) (T := T_Mo) (N := 10) hx hb hts (fun w h => List.mem_cons_of_mem _ (in_Mo w h)) y_Mo t_Mo n_Mo hown hK hP hD hS 0 rfl rfl 8 (by decide) (hts _ (List.mem_cons_of_mem _ tw_398)) (fun _ h9 => h9) rfl (by decide +kernel) rfl rfl (Nat.le_of_ble_eq_true rfl) d_Mo_isNumber_122 (fun H locs hP hD hS => ?_)
                have hP : va_P D ecl [(mo, .inr (4, [.ref nb, .ref un, .ref ov, .ref xx, .ref dc, .int (iI (zl)), .int (iI (0)), .long (lN (sgz kf y)), .int (iI (lez kf + ((exE kf y : Nat) : Int))), .int (iI (zk))]))] H := hP
                have hD : va_D A [(mo, .inr (4, [.ref nb, .ref un, .ref ov, .ref xx, .ref dc, .int (iI (zl)), .int (iI (0)), .long (lN (sgz kf y)), .int (iI (lez kf + ((exE kf y : Nat) : Int))), .int (iI (zk))]))] := hD
                refine lv_aload_n hx hb d_Mo_isNumber_125 rfl (lv_at hl 3 rfl) ?_
                refine lv_lload hx hb d_Mo_isNumber_126 (lv_at hl 0 rfl) ?_
                refine lv_lconst (v := jI 0) hx hb d_Mo_isNumber_128 (by decide +kernel) ?_
                refine ed_lif_ne (tgt := 143) hx hb d_Mo_isNumber_129 d_Mo_isNumber_130 rfl (by omega) (by omega) (fun h_22 => ?_) (fun h_22 => ?_)
                · skip
                  refine ed_pc (pc' := 143) rfl ?_
                  refine lv_iconst (v := iI 0) hx hb d_Mo_isNumber_143 rfl ?_
                  refine ed_pc (pc' := 144) rfl ?_
                  refine va_put (D := D) (ci := 4) (v := .int (iI (0))) (ty := .boolean) (C := R_Mo) (T := T_Mo) (N := 10) hx hb hts (fun w h => List.mem_cons_of_mem _ (in_Mo w h)) y_Mo t_Mo n_Mo hown hK hP hD hS 0 rfl rfl 9 (by decide) (hts _ (List.mem_cons_of_mem _ tw_399)) (fun _ h9 => h9) rfl (by decide +kernel) (by decide +kernel) (by decide +kernel) (Nat.le_of_ble_eq_true rfl) d_Mo_isNumber_144 (fun H locs hP hD hS => ?_)
                  have hP : va_P D ecl [(mo, .inr (4, [.ref nb, .ref un, .ref ov, .ref xx, .ref dc, .int (iI (zl)), .int (iI (0)), .long (lN (sgz kf y)), .int (iI (lez kf + ((exE kf y : Nat) : Int))), .int (iI (0))]))] H := hP
                  have hD : va_D A [(mo, .inr (4, [.ref nb, .ref un, .ref ov, .ref xx, .ref dc, .int (iI (zl)), .int (iI (0)), .long (lN (sgz kf y)), .int (iI (lez kf + ((exE kf y : Nat) : Int))), .int (iI (0))]))] := hD
                  refine lv_aload_n hx hb d_Mo_isNumber_147 rfl (lv_at hl 3 rfl) ?_
                  refine lv_iconst (v := iI 0) hx hb d_Mo_isNumber_148 rfl ?_
                  refine va_put (D := D) (ci := 4) (v := .int (iI (0))) (ty := .boolean) (C := R_Mo) (T := T_Mo) (N := 10) hx hb hts (fun w h => List.mem_cons_of_mem _ (in_Mo w h)) y_Mo t_Mo n_Mo hown hK hP hD hS 0 rfl rfl 5 (by decide) (hts _ (List.mem_cons_of_mem _ tw_395)) (fun _ h9 => h9) rfl (by decide +kernel) (by decide +kernel) (by decide +kernel) (Nat.le_of_ble_eq_true rfl) d_Mo_isNumber_149 (fun H locs hP hD hS => ?_)
                  have hP : va_P D ecl [(mo, .inr (4, [.ref nb, .ref un, .ref ov, .ref xx, .ref dc, .int (iI (0)), .int (iI (0)), .long (lN (sgz kf y)), .int (iI (lez kf + ((exE kf y : Nat) : Int))), .int (iI (0))]))] H := hP
                  have hD : va_D A [(mo, .inr (4, [.ref nb, .ref un, .ref ov, .ref xx, .ref dc, .int (iI (0)), .int (iI (0)), .long (lN (sgz kf y)), .int (iI (lez kf + ((exE kf y : Nat) : Int))), .int (iI (0))]))] := hD
                  refine lv_iconst (v := iI 1) hx hb d_Mo_isNumber_152 rfl ?_
                  have hcl : (sgz kf y = 2 ^ fbz kf ∧ 0 < exE kf y) ↔ (mm = 0 ∧ 1 < ee) := by rw [hsg, hfb]; unfold exE; rw [hfb]; omega
                  exact W.zret (v := (iI (1))) hx hb hr (by decide +kernel) (fun t9 ht9 hW9 => ⟨⟨(iI (1)), [(mo, .inr (4, [.ref nb, .ref un, .ref ov, .ref xx, .ref dc, .int (iI (0)), .int (iI (0)), .long (lN (sgz kf y)), .int (iI (lez kf + ((exE kf y : Nat) : Int))), .int (iI (0))]))], rfl, ⟨rfl, 0, by rw [hcl]; omega, rfl⟩, by rw [ht9]; exact hP, hD⟩, hS.F ht9⟩) hS.2.2 d_Mo_isNumber_153
                · skip
                  refine ed_pc (pc' := 133) rfl ?_
                  refine lv_iload hx hb d_Mo_isNumber_133 (lv_at hl 1 rfl) ?_
                  refine ed_pc (pc' := 135) rfl ?_
                  refine lv_iconst (v := iI 1) hx hb d_Mo_isNumber_135 rfl ?_
                  refine ed_icmp_le (tgt := 143) hx hb d_Mo_isNumber_136 rfl (by omega) (by omega) (fun h_23 => ?_) (fun h_23 => ?_)
                  · skip
                    refine ed_pc (pc' := 143) rfl ?_
                    refine lv_iconst (v := iI 0) hx hb d_Mo_isNumber_143 rfl ?_
                    refine va_put (D := D) (ci := 4) (v := .int (iI (0))) (ty := .boolean) (C := R_Mo) (T := T_Mo) (N := 10) hx hb hts (fun w h => List.mem_cons_of_mem _ (in_Mo w h)) y_Mo t_Mo n_Mo hown hK hP hD hS 0 rfl rfl 9 (by decide) (hts _ (List.mem_cons_of_mem _ tw_399)) (fun _ h9 => h9) rfl (by decide +kernel) (by decide +kernel) (by decide +kernel) (Nat.le_of_ble_eq_true rfl) d_Mo_isNumber_144 (fun H locs hP hD hS => ?_)
                    have hP : va_P D ecl [(mo, .inr (4, [.ref nb, .ref un, .ref ov, .ref xx, .ref dc, .int (iI (zl)), .int (iI (0)), .long (lN (sgz kf y)), .int (iI (lez kf + ((exE kf y : Nat) : Int))), .int (iI (0))]))] H := hP
                    have hD : va_D A [(mo, .inr (4, [.ref nb, .ref un, .ref ov, .ref xx, .ref dc, .int (iI (zl)), .int (iI (0)), .long (lN (sgz kf y)), .int (iI (lez kf + ((exE kf y : Nat) : Int))), .int (iI (0))]))] := hD
                    refine lv_aload_n hx hb d_Mo_isNumber_147 rfl (lv_at hl 3 rfl) ?_
                    refine lv_iconst (v := iI 0) hx hb d_Mo_isNumber_148 rfl ?_
                    refine va_put (D := D) (ci := 4) (v := .int (iI (0))) (ty := .boolean) (C := R_Mo) (T := T_Mo) (N := 10) hx hb hts (fun w h => List.mem_cons_of_mem _ (in_Mo w h)) y_Mo t_Mo n_Mo hown hK hP hD hS 0 rfl rfl 5 (by decide) (hts _ (List.mem_cons_of_mem _ tw_395)) (fun _ h9 => h9) rfl (by decide +kernel) (by decide +kernel) (by decide +kernel) (Nat.le_of_ble_eq_true rfl) d_Mo_isNumber_149 (fun H locs hP hD hS => ?_)
                    have hP : va_P D ecl [(mo, .inr (4, [.ref nb, .ref un, .ref ov, .ref xx, .ref dc, .int (iI (0)), .int (iI (0)), .long (lN (sgz kf y)), .int (iI (lez kf + ((exE kf y : Nat) : Int))), .int (iI (0))]))] H := hP
                    have hD : va_D A [(mo, .inr (4, [.ref nb, .ref un, .ref ov, .ref xx, .ref dc, .int (iI (0)), .int (iI (0)), .long (lN (sgz kf y)), .int (iI (lez kf + ((exE kf y : Nat) : Int))), .int (iI (0))]))] := hD
                    refine lv_iconst (v := iI 1) hx hb d_Mo_isNumber_152 rfl ?_
                    have hcl : (sgz kf y = 2 ^ fbz kf ∧ 0 < exE kf y) ↔ (mm = 0 ∧ 1 < ee) := by rw [hsg, hfb]; unfold exE; rw [hfb]; omega
                    exact W.zret (v := (iI (1))) hx hb hr (by decide +kernel) (fun t9 ht9 hW9 => ⟨⟨(iI (1)), [(mo, .inr (4, [.ref nb, .ref un, .ref ov, .ref xx, .ref dc, .int (iI (0)), .int (iI (0)), .long (lN (sgz kf y)), .int (iI (lez kf + ((exE kf y : Nat) : Int))), .int (iI (0))]))], rfl, ⟨rfl, 0, by rw [hcl]; omega, rfl⟩, by rw [ht9]; exact hP, hD⟩, hS.F ht9⟩) hS.2.2 d_Mo_isNumber_153
                  · skip
                    refine ed_pc (pc' := 139) rfl ?_
                    refine lv_iconst (v := iI 1) hx hb d_Mo_isNumber_139 rfl ?_
                    refine lv_goto (tgt := 144) hx hb d_Mo_isNumber_140 rfl ?_
                    refine va_put (D := D) (ci := 4) (v := .int (iI (1))) (ty := .boolean) (C := R_Mo) (T := T_Mo) (N := 10) hx hb hts (fun w h => List.mem_cons_of_mem _ (in_Mo w h)) y_Mo t_Mo n_Mo hown hK hP hD hS 0 rfl rfl 9 (by decide) (hts _ (List.mem_cons_of_mem _ tw_399)) (fun _ h9 => h9) rfl (by decide +kernel) (by decide +kernel) (by decide +kernel) (Nat.le_of_ble_eq_true rfl) d_Mo_isNumber_144 (fun H locs hP hD hS => ?_)
                    have hP : va_P D ecl [(mo, .inr (4, [.ref nb, .ref un, .ref ov, .ref xx, .ref dc, .int (iI (zl)), .int (iI (0)), .long (lN (sgz kf y)), .int (iI (lez kf + ((exE kf y : Nat) : Int))), .int (iI (1))]))] H := hP
                    have hD : va_D A [(mo, .inr (4, [.ref nb, .ref un, .ref ov, .ref xx, .ref dc, .int (iI (zl)), .int (iI (0)), .long (lN (sgz kf y)), .int (iI (lez kf + ((exE kf y : Nat) : Int))), .int (iI (1))]))] := hD
                    refine lv_aload_n hx hb d_Mo_isNumber_147 rfl (lv_at hl 3 rfl) ?_
                    refine lv_iconst (v := iI 0) hx hb d_Mo_isNumber_148 rfl ?_
                    refine va_put (D := D) (ci := 4) (v := .int (iI (0))) (ty := .boolean) (C := R_Mo) (T := T_Mo) (N := 10) hx hb hts (fun w h => List.mem_cons_of_mem _ (in_Mo w h)) y_Mo t_Mo n_Mo hown hK hP hD hS 0 rfl rfl 5 (by decide) (hts _ (List.mem_cons_of_mem _ tw_395)) (fun _ h9 => h9) rfl (by decide +kernel) (by decide +kernel) (by decide +kernel) (Nat.le_of_ble_eq_true rfl) d_Mo_isNumber_149 (fun H locs hP hD hS => ?_)
                    have hP : va_P D ecl [(mo, .inr (4, [.ref nb, .ref un, .ref ov, .ref xx, .ref dc, .int (iI (0)), .int (iI (0)), .long (lN (sgz kf y)), .int (iI (lez kf + ((exE kf y : Nat) : Int))), .int (iI (1))]))] H := hP
                    have hD : va_D A [(mo, .inr (4, [.ref nb, .ref un, .ref ov, .ref xx, .ref dc, .int (iI (0)), .int (iI (0)), .long (lN (sgz kf y)), .int (iI (lez kf + ((exE kf y : Nat) : Int))), .int (iI (1))]))] := hD
                    refine ed_pc (pc' := 152) rfl ?_
                    refine lv_iconst (v := iI 1) hx hb d_Mo_isNumber_152 rfl ?_
                    have hcl : (sgz kf y = 2 ^ fbz kf ∧ 0 < exE kf y) ↔ (mm = 0 ∧ 1 < ee) := by rw [hsg, hfb]; unfold exE; rw [hfb]; omega
                    exact W.zret (v := (iI (1))) hx hb hr (by decide +kernel) (fun t9 ht9 hW9 => ⟨⟨(iI (1)), [(mo, .inr (4, [.ref nb, .ref un, .ref ov, .ref xx, .ref dc, .int (iI (0)), .int (iI (0)), .long (lN (sgz kf y)), .int (iI (lez kf + ((exE kf y : Nat) : Int))), .int (iI (1))]))], rfl, ⟨rfl, 1, by rw [hcl]; omega, rfl⟩, by rw [ht9]; exact hP, hD⟩, hS.F ht9⟩) hS.2.2 d_Mo_isNumber_153
          · exact absurd h_16 (by omega)
        · exact absurd h_15 (by omega)
set_option maxHeartbeats 4000000 in
set_option maxRecDepth 100000 in
theorem c_Mo_isNumber_no (l : Launch) (D : va_G) (cB cI cJ : ClassId) (t5 : Nat) (ad : Nat → Nat) (mo nb un ov xx dc : Nat) (zl th pw zk zz : Int) (ma : Int64) (kf b : Nat) (hzz : iR zz) (hkf9 : kf = if zz = 0 then 0 else 1) (hb64 : b < 2 ^ 64) (hfin : ifz kf ≤ b % (mkz kf + 1)) : c_I l m_Mo_isNumber (Cond.code m_Mo_isNumber b_Mo_isNumber 8 (some .boolean) :: gw) (rm_ 1 21) (eX t5 ad) D ecl (tyS cB cI cJ) [.ref mo, .long (lN b), .int (iI (zz))] [(mo, .inr (4, [.ref nb, .ref un, .ref ov, .ref xx, .ref dc, .int (iI (zl)), .int (iI (th)), .long (ma), .int (iI (pw)), .int (iI (zk))]))] (fun r u => r = iI 0 ∧ u = [(mo, .inr (4, [.ref nb, .ref un, .ref ov, .ref xx, .ref dc, .int (iI (zl)), .int (iI (1)), .long (ma), .int (iI (pw)), .int (iI (zk))]))]) 0 0 := by
  intro sz0
  refine Met.ofW (cc := b_Mo_isNumber) (maxL := 8) (ret := (some .boolean)) (by decide) rfl ?_
  intro p e s m args below meth c s₁ B hml hv
  obtain ⟨rfl, hsz, hP, hK, hD0, hE⟩ := hv
  have hx := B.exec
  have hb := B.bytes
  have hr := B.returns
  have hts := atoms_spec (ws := Cond.code m_Mo_isNumber b_Mo_isNumber 8 (some .boolean) :: gw) B.pre
  have hown : s.vm.findClass R_Mo = some m.cls := findClass_of_methodNamed B.named
  have hlocks := B.notSynchronized
  subst hsz
  have hD := hD0.self (sz := s.heap.size)
  generalize hAe : va_A [(mo, .inr (4, [.ref nb, .ref un, .ref ov, .ref xx, .ref dc, .int (iI (zl)), .int (iI (th)), .long (ma), .int (iI (pw)), .int (iI (zk))]))] s.heap.size = A at hD hE ⊢
  have hA : ∀ q : Nat, s.heap.size ≤ q → A q := fun q h => by rw [← hAe]; exact Or.inr h
  have hS : va_S A s.heap s.heap [] := va_S.rf
  have hl := lv_entry ([.ref mo, .long (lN b), .int (iI (zz))]) (n := 8) (Nat.le_of_ble_eq_true rfl)
  rw [lg_entry_eq]
  generalize (lg_sl ([.ref mo, .long (lN b), .int (iI (zz))]) ++ List.replicate (8 - (lg_sl ([.ref mo, .long (lN b), .int (iI (zz))])).length) Slot.unset).toArray = ls at hl ⊢
  have hl : lv_has ls 8 [(0, .ref mo), (1, .long (lN b)), (3, .int (iI (zz)))] := hl
  refine lv_iload_n hx hb d_Mo_isNumber_0 rfl (lv_at hl 2 rfl) ?_
  refine ed_if_eq (tgt := 9) hx hb d_Mo_isNumber_1 rfl (by omega) (fun h_1 => ?_) (fun h_1 => ?_)
  · skip
    refine ed_pc (pc' := 9) rfl ?_
    have hk01 : kf = 0 := by rw [hkf9]; simp only [if_pos (show zz = 0 by omega)]
    have hfb : fbz kf = 52 := by rw [hk01]; rfl
    have hle : lez kf = -1074 := by rw [hk01]; rfl
    have hif : ifz kf = 9218868437227405312 := by rw [hk01]; rfl
    have hmk : mkz kf = 9223372036854775807 := by rw [hk01]; rfl
    obtain ⟨ee, hee⟩ : ∃ ee : Nat, ee = b / 4503599627370496 % 2048 := ⟨_, rfl⟩
    obtain ⟨mm, hmm⟩ : ∃ mm : Nat, mm = b % 4503599627370496 := ⟨_, rfl⟩
    have hem : ee = 2047 := by rw [hmk, hif] at hfin; omega
    refine lv_bipush (v := iI 52) hx hb d_Mo_isNumber_9 (by decide +kernel) ?_
    refine lv_istore hx hb d_Mo_isNumber_11 hl (by decide) rfl (fun ls hl => ?_)
    have hl : lv_has ls 8 [(4, .int (iI (52))), (0, .ref mo), (1, .long (lN b)), (3, .int (iI (zz)))] := hl
    refine lv_lload_n hx hb d_Mo_isNumber_13 rfl (lv_at hl 2 rfl) ?_
    refine lv_iload hx hb d_Mo_isNumber_14 (lv_at hl 0 rfl) ?_
    refine lv_lshr (v := (lN b >>> ((iI 52).toInt64 &&& 63))) hx hb d_Mo_isNumber_16 (rfl) ?_
    refine lv_l2i (v := (lN b >>> ((iI 52).toInt64 &&& 63)).toInt32) hx hb d_Mo_isNumber_17 rfl ?_
    refine ed_pc (pc' := 18) rfl ?_
    refine lv_iload_n hx hb d_Mo_isNumber_18 rfl (lv_at hl 3 rfl) ?_
    refine ed_if_eq (tgt := 28) hx hb d_Mo_isNumber_19 rfl (by omega) (fun h_2 => ?_) (fun h_2 => ?_)
    · skip
      refine ed_pc (pc' := 28) rfl ?_
      refine lv_sipush (v := iI 2047) hx hb d_Mo_isNumber_28 (by decide +kernel) ?_
      refine lv_iand hx hb d_Mo_isNumber_31 ?_
      refine ed_ti (y := (iI ((ee : Int)))) (by rw [hee, iI_nat]; exact is_e (k := 52) (n := 11) hb64 (by decide) (by decide) (by decide)) ?_
      refine lv_istore hx hb d_Mo_isNumber_32 hl (by decide) rfl (fun ls hl => ?_)
      have hl : lv_has ls 8 [(5, .int (iI ((ee : Int)))), (4, .int (iI (52))), (0, .ref mo), (1, .long (lN b)), (3, .int (iI (zz)))] := hl
      refine lv_lload_n hx hb d_Mo_isNumber_34 rfl (lv_at hl 3 rfl) ?_
      refine lv_lconst (v := jI 1) hx hb d_Mo_isNumber_35 (by decide +kernel) ?_
      refine lv_iload hx hb d_Mo_isNumber_36 (lv_at hl 1 rfl) ?_
      refine ed_pc (pc' := 38) rfl ?_
      refine lv_lshl (v := (jI (4503599627370496))) hx hb d_Mo_isNumber_38 (by decide +kernel) ?_
      refine lv_lconst (v := jI 1) hx hb d_Mo_isNumber_39 (by decide +kernel) ?_
      refine ed_lsub hx hb d_Mo_isNumber_40 ?_
      refine lv_land hx hb d_Mo_isNumber_41 ?_
      refine ed_tl (y := (jI ((mm : Int)))) (by rw [show jI (4503599627370496 - 1) = lN (2 ^ 52 - 1) by decide +kernel, wb_mask (k := 52) hb64 (by decide), hmm, jI_nat]) ?_
      refine lv_lstore hx hb d_Mo_isNumber_42 hl (by decide) rfl (fun ls hl => ?_)
      have hl : lv_has ls 8 [(6, .long (jI ((mm : Int)))), (5, .int (iI ((ee : Int)))), (4, .int (iI (52))), (0, .ref mo), (1, .long (lN b)), (3, .int (iI (zz)))] := hl
      refine lv_aload_n hx hb d_Mo_isNumber_44 rfl (lv_at hl 3 rfl) ?_
      refine lv_iload hx hb d_Mo_isNumber_45 (lv_at hl 1 rfl) ?_
      refine lv_iload_n hx hb d_Mo_isNumber_47 rfl (lv_at hl 5 rfl) ?_
      refine ed_pc (pc' := 48) rfl ?_
      refine ed_if_eq (tgt := 57) hx hb d_Mo_isNumber_48 rfl (by omega) (fun h_3 => ?_) (fun h_3 => ?_)
      · skip
        refine ed_pc (pc' := 57) rfl ?_
        refine lv_sipush (v := iI 2047) hx hb d_Mo_isNumber_57 (by decide +kernel) ?_
        refine ed_icmp_ne (tgt := 67) hx hb d_Mo_isNumber_60 rfl (by omega) (by omega) (fun h_4 => ?_) (fun h_4 => ?_)
        · exact absurd h_4 (by omega)
        · skip
          refine ed_pc (pc' := 63) rfl ?_
          refine lv_iconst (v := iI 1) hx hb d_Mo_isNumber_63 rfl ?_
          refine lv_goto (tgt := 68) hx hb d_Mo_isNumber_64 rfl ?_
          refine va_put (D := D) (ci := 4) (v := .int (iI (1))) (ty := .int) (C := R_Mo) (T := T_Mo) (N := 10) hx hb hts (fun w h => List.mem_cons_of_mem _ (in_Mo w h)) y_Mo t_Mo n_Mo hown hK hP hD hS 0 rfl rfl 6 (by decide) (hts _ (List.mem_cons_of_mem _ tw_396)) (fun _ h9 => h9) rfl (by decide +kernel) rfl rfl (Nat.le_of_ble_eq_true rfl) d_Mo_isNumber_68 (fun H locs hP hD hS => ?_)
          have hP : va_P D ecl [(mo, .inr (4, [.ref nb, .ref un, .ref ov, .ref xx, .ref dc, .int (iI (zl)), .int (iI (1)), .long (ma), .int (iI (pw)), .int (iI (zk))]))] H := hP
          have hD : va_D A [(mo, .inr (4, [.ref nb, .ref un, .ref ov, .ref xx, .ref dc, .int (iI (zl)), .int (iI (1)), .long (ma), .int (iI (pw)), .int (iI (zk))]))] := hD
          refine lv_aload_n hx hb d_Mo_isNumber_71 rfl (lv_at hl 3 rfl) ?_
          refine va_get (D := D) (ci := 4) (v := .int (iI (1))) (C := R_Mo) (T := T_Mo) (N := 10) hx hb hts (fun w h => List.mem_cons_of_mem _ (in_Mo w h)) hown hK hP 0 rfl rfl 6 (by decide) (hts _ (List.mem_cons_of_mem _ tw_396)) (fun _ h9 => h9) rfl d_Mo_isNumber_72 ?_
          refine ed_pc (pc' := 75) rfl ?_
          refine ed_if_le (tgt := 80) hx hb d_Mo_isNumber_75 rfl (by omega) (fun h_5 => ?_) (fun h_5 => ?_)
          · exact absurd h_5 (by omega)
          · skip
            refine ed_pc (pc' := 78) rfl ?_
            refine lv_iconst (v := iI 0) hx hb d_Mo_isNumber_78 rfl ?_
            exact W.zret (v := (iI (0))) hx hb hr (by decide +kernel) (fun t9 ht9 hW9 => ⟨⟨(iI (0)), [(mo, .inr (4, [.ref nb, .ref un, .ref ov, .ref xx, .ref dc, .int (iI (zl)), .int (iI (1)), .long (ma), .int (iI (pw)), .int (iI (zk))]))], rfl, ⟨rfl, rfl⟩, by rw [ht9]; exact hP, hD⟩, hS.F ht9⟩) hS.2.2 d_Mo_isNumber_79
      · exact absurd h_3 (by omega)
    · exact absurd h_2 (by omega)
  · skip
    refine ed_pc (pc' := 4) rfl ?_
    have hk01 : kf = 1 := by rw [hkf9]; simp only [if_neg (show ¬ zz = 0 by omega)]
    have hfb : fbz kf = 23 := by rw [hk01]; rfl
    have hle : lez kf = -149 := by rw [hk01]; rfl
    have hif : ifz kf = 2139095040 := by rw [hk01]; rfl
    have hmk : mkz kf = 2147483647 := by rw [hk01]; rfl
    obtain ⟨ee, hee⟩ : ∃ ee : Nat, ee = b / 8388608 % 256 := ⟨_, rfl⟩
    obtain ⟨mm, hmm⟩ : ∃ mm : Nat, mm = b % 8388608 := ⟨_, rfl⟩
    have hem : ee = 255 := by rw [hmk, hif] at hfin; omega
    refine lv_bipush (v := iI 23) hx hb d_Mo_isNumber_4 (by decide +kernel) ?_
    refine lv_goto (tgt := 11) hx hb d_Mo_isNumber_6 rfl ?_
    refine lv_istore hx hb d_Mo_isNumber_11 hl (by decide) rfl (fun ls hl => ?_)
    have hl : lv_has ls 8 [(4, .int (iI (23))), (0, .ref mo), (1, .long (lN b)), (3, .int (iI (zz)))] := hl
    refine lv_lload_n hx hb d_Mo_isNumber_13 rfl (lv_at hl 2 rfl) ?_
    refine lv_iload hx hb d_Mo_isNumber_14 (lv_at hl 0 rfl) ?_
    refine ed_pc (pc' := 16) rfl ?_
    refine lv_lshr (v := (lN b >>> ((iI 23).toInt64 &&& 63))) hx hb d_Mo_isNumber_16 (rfl) ?_
    refine lv_l2i (v := (lN b >>> ((iI 23).toInt64 &&& 63)).toInt32) hx hb d_Mo_isNumber_17 rfl ?_
    refine lv_iload_n hx hb d_Mo_isNumber_18 rfl (lv_at hl 3 rfl) ?_
    refine ed_if_eq (tgt := 28) hx hb d_Mo_isNumber_19 rfl (by omega) (fun h_6 => ?_) (fun h_6 => ?_)
    · exact absurd h_6 (by omega)
    · skip
      refine ed_pc (pc' := 22) rfl ?_
      refine lv_sipush (v := iI 255) hx hb d_Mo_isNumber_22 (by decide +kernel) ?_
      refine lv_goto (tgt := 31) hx hb d_Mo_isNumber_25 rfl ?_
      refine lv_iand hx hb d_Mo_isNumber_31 ?_
      refine ed_ti (y := (iI ((ee : Int)))) (by rw [hee, iI_nat]; exact is_e (k := 23) (n := 8) hb64 (by decide) (by decide) (by decide)) ?_
      refine lv_istore hx hb d_Mo_isNumber_32 hl (by decide) rfl (fun ls hl => ?_)
      have hl : lv_has ls 8 [(5, .int (iI ((ee : Int)))), (4, .int (iI (23))), (0, .ref mo), (1, .long (lN b)), (3, .int (iI (zz)))] := hl
      refine lv_lload_n hx hb d_Mo_isNumber_34 rfl (lv_at hl 3 rfl) ?_
      refine ed_pc (pc' := 35) rfl ?_
      refine lv_lconst (v := jI 1) hx hb d_Mo_isNumber_35 (by decide +kernel) ?_
      refine lv_iload hx hb d_Mo_isNumber_36 (lv_at hl 1 rfl) ?_
      refine lv_lshl (v := (jI (8388608))) hx hb d_Mo_isNumber_38 (by decide +kernel) ?_
      refine lv_lconst (v := jI 1) hx hb d_Mo_isNumber_39 (by decide +kernel) ?_
      refine ed_lsub hx hb d_Mo_isNumber_40 ?_
      refine lv_land hx hb d_Mo_isNumber_41 ?_
      refine ed_tl (y := (jI ((mm : Int)))) (by rw [show jI (8388608 - 1) = lN (2 ^ 23 - 1) by decide +kernel, wb_mask (k := 23) hb64 (by decide), hmm, jI_nat]) ?_
      refine lv_lstore hx hb d_Mo_isNumber_42 hl (by decide) rfl (fun ls hl => ?_)
      have hl : lv_has ls 8 [(6, .long (jI ((mm : Int)))), (5, .int (iI ((ee : Int)))), (4, .int (iI (23))), (0, .ref mo), (1, .long (lN b)), (3, .int (iI (zz)))] := hl
      refine lv_aload_n hx hb d_Mo_isNumber_44 rfl (lv_at hl 3 rfl) ?_
      refine ed_pc (pc' := 45) rfl ?_
      refine lv_iload hx hb d_Mo_isNumber_45 (lv_at hl 1 rfl) ?_
      refine lv_iload_n hx hb d_Mo_isNumber_47 rfl (lv_at hl 5 rfl) ?_
      refine ed_if_eq (tgt := 57) hx hb d_Mo_isNumber_48 rfl (by omega) (fun h_7 => ?_) (fun h_7 => ?_)
      · exact absurd h_7 (by omega)
      · skip
        refine ed_pc (pc' := 51) rfl ?_
        refine lv_sipush (v := iI 255) hx hb d_Mo_isNumber_51 (by decide +kernel) ?_
        refine lv_goto (tgt := 60) hx hb d_Mo_isNumber_54 rfl ?_
        refine ed_icmp_ne (tgt := 67) hx hb d_Mo_isNumber_60 rfl (by omega) (by omega) (fun h_8 => ?_) (fun h_8 => ?_)
        · exact absurd h_8 (by omega)
        · skip
          refine ed_pc (pc' := 63) rfl ?_
          refine lv_iconst (v := iI 1) hx hb d_Mo_isNumber_63 rfl ?_
          refine lv_goto (tgt := 68) hx hb d_Mo_isNumber_64 rfl ?_
          refine ed_pc (pc' := 68) rfl ?_
          refine va_put (D := D) (ci := 4) (v := .int (iI (1))) (ty := .int) (C := R_Mo) (T := T_Mo) (N := 10) hx hb hts (fun w h => List.mem_cons_of_mem _ (in_Mo w h)) y_Mo t_Mo n_Mo hown hK hP hD hS 0 rfl rfl 6 (by decide) (hts _ (List.mem_cons_of_mem _ tw_396)) (fun _ h9 => h9) rfl (by decide +kernel) rfl rfl (Nat.le_of_ble_eq_true rfl) d_Mo_isNumber_68 (fun H locs hP hD hS => ?_)
          have hP : va_P D ecl [(mo, .inr (4, [.ref nb, .ref un, .ref ov, .ref xx, .ref dc, .int (iI (zl)), .int (iI (1)), .long (ma), .int (iI (pw)), .int (iI (zk))]))] H := hP
          have hD : va_D A [(mo, .inr (4, [.ref nb, .ref un, .ref ov, .ref xx, .ref dc, .int (iI (zl)), .int (iI (1)), .long (ma), .int (iI (pw)), .int (iI (zk))]))] := hD
          refine lv_aload_n hx hb d_Mo_isNumber_71 rfl (lv_at hl 3 rfl) ?_
          refine va_get (D := D) (ci := 4) (v := .int (iI (1))) (C := R_Mo) (T := T_Mo) (N := 10) hx hb hts (fun w h => List.mem_cons_of_mem _ (in_Mo w h)) hown hK hP 0 rfl rfl 6 (by decide) (hts _ (List.mem_cons_of_mem _ tw_396)) (fun _ h9 => h9) rfl d_Mo_isNumber_72 ?_
          refine ed_if_le (tgt := 80) hx hb d_Mo_isNumber_75 rfl (by omega) (fun h_9 => ?_) (fun h_9 => ?_)
          · exact absurd h_9 (by omega)
          · skip
            refine ed_pc (pc' := 78) rfl ?_
            refine lv_iconst (v := iI 0) hx hb d_Mo_isNumber_78 rfl ?_
            exact W.zret (v := (iI (0))) hx hb hr (by decide +kernel) (fun t9 ht9 hW9 => ⟨⟨(iI (0)), [(mo, .inr (4, [.ref nb, .ref un, .ref ov, .ref xx, .ref dc, .int (iI (zl)), .int (iI (1)), .long (ma), .int (iI (pw)), .int (iI (zk))]))], rfl, ⟨rfl, rfl⟩, by rw [ht9]; exact hP, hD⟩, hS.F ht9⟩) hS.2.2 d_Mo_isNumber_79
